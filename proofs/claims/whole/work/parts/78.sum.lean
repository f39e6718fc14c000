/-! a sum, a rule -/
/-- the rule that is being read: its weights so far -/
def wgR (rc b : Nat) (dd ff : Nat → Int32) : Prop := ∀ i : Nat, i < 5 → dd (7 * rc + i) = ff (5 * rc + i) ∧ 0 ≤ (ff (5 * rc + i)).toInt ∧ (ff (5 * rc + i)).toInt ≤ (b : Int)
/-- nothing else is changed -/
def frR (rc : Nat) (dd dd' ff ff' : Nat → Int32) : Prop := (∀ x : Nat, x < 7 * rc ∨ 7 * rc + 5 ≤ x → dd' x = dd x) ∧ ∀ x : Nat, x < 5 * rc ∨ 5 * rc + 5 ≤ x → ff' x = ff x
theorem wg_step {rc b i : Nat} {dd ff : Nat → Int32} {w : Int32} (hw : wgR rc b dd ff) (hi : i < 5) (w0 : 0 ≤ w.toInt) (w9 : w.toInt ≤ 99) (hb : b ≤ 1000) : wgR rc (b + 99) (upd dd (7 * rc + i) (dd (7 * rc + i) + w)) (upd ff (5 * rc + i) (ff (5 * rc + i) + w)) := by
  intro j hj
  by_cases h : j = i
  · subst h
    obtain ⟨h1, h2, h3⟩ := hw j hi
    rw [upd_at, upd_at, h1]
    have e : (ff (5 * rc + j) + w).toInt = (ff (5 * rc + j)).toInt + w.toInt := by
      rw [Int32.toInt_add]
      exact bm32 (by omega) (by omega)
    exact ⟨rfl, by omega, by omega⟩
  · obtain ⟨h1, h2, h3⟩ := hw j hj
    rw [upd_off _ _ (by omega), upd_off _ _ (by omega)]
    exact ⟨h1, h2, by omega⟩
theorem fr_step {rc i : Nat} {dd ff : Nat → Int32} {w : Int32} (hi : i < 5) : frR rc dd (upd dd (7 * rc + i) (dd (7 * rc + i) + w)) ff (upd ff (5 * rc + i) (ff (5 * rc + i) + w)) :=
  ⟨fun x hx => upd_off _ _ (by omega), fun x hx => upd_off _ _ (by omega)⟩
theorem frR.trans {rc : Nat} {d1 d2 d3 f1 f2 f3 : Nat → Int32} (h1 : frR rc d1 d2 f1 f2) (h2 : frR rc d2 d3 f2 f3) : frR rc d1 d3 f1 f3 := ⟨fun x hx => (h2.1 x hx).trans (h1.1 x hx), fun x hx => (h2.2 x hx).trans (h1.2 x hx)⟩
section SUM
variable {mcode fl mru mk mn mfc : Int32} {mtot mg mw mga mgb : Int64} {mpd mgp : Bool} {tl rc : Nat} {ft ty dd fw fr fb : Nat → Int32}
theorem sum_eq (hT : txR tl ft ty) (ht : tl ≤ 120) (hrc : rc < 8) (hfl : fl < 0) : ∀ (n k p : Nat) (dd ff : Nat → Int32), n + k = 3 → p < 2146000000 + 4 * k → wgR rc (99 * k) dd ff →
    ((rsL ft tl fr fb rc (n + 1) k p ff).1 = true ∧ (rb3 ty mcode mtot mru mpd mk mg mw mn mgp mga mgb mfc tl (nI rc) n (k + 1) ((fM_readTerm_c0f4 ty dd mcode mtot fl mru mpd mk mg mw mn mgp mga mgb mfc tl p (nI rc))) ((fM_readTerm_c0f5 ty dd mcode mtot fl mru mpd mk mg mw mn mgp mga mgb mfc tl p (nI rc))) ((fM_readTerm_a2 ty dd mcode mtot fl mru mpd mk mg mw mn mgp mga mgb mfc tl p (nI rc)))).1 = (rsL ft tl fr fb rc (n + 1) k p ff).2.1 ∧ (rb3 ty mcode mtot mru mpd mk mg mw mn mgp mga mgb mfc tl (nI rc) n (k + 1) ((fM_readTerm_c0f4 ty dd mcode mtot fl mru mpd mk mg mw mn mgp mga mgb mfc tl p (nI rc))) ((fM_readTerm_c0f5 ty dd mcode mtot fl mru mpd mk mg mw mn mgp mga mgb mfc tl p (nI rc))) ((fM_readTerm_a2 ty dd mcode mtot fl mru mpd mk mg mw mn mgp mga mgb mfc tl p (nI rc)))).2.1 = fl ∧
      (rsL ft tl fr fb rc (n + 1) k p ff).2.1 ≤ tl ∧ wgR rc 396 (rb3 ty mcode mtot mru mpd mk mg mw mn mgp mga mgb mfc tl (nI rc) n (k + 1) ((fM_readTerm_c0f4 ty dd mcode mtot fl mru mpd mk mg mw mn mgp mga mgb mfc tl p (nI rc))) ((fM_readTerm_c0f5 ty dd mcode mtot fl mru mpd mk mg mw mn mgp mga mgb mfc tl p (nI rc))) ((fM_readTerm_a2 ty dd mcode mtot fl mru mpd mk mg mw mn mgp mga mgb mfc tl p (nI rc)))).2.2 (rsL ft tl fr fb rc (n + 1) k p ff).2.2 ∧ frR rc dd (rb3 ty mcode mtot mru mpd mk mg mw mn mgp mga mgb mfc tl (nI rc) n (k + 1) ((fM_readTerm_c0f4 ty dd mcode mtot fl mru mpd mk mg mw mn mgp mga mgb mfc tl p (nI rc))) ((fM_readTerm_c0f5 ty dd mcode mtot fl mru mpd mk mg mw mn mgp mga mgb mfc tl p (nI rc))) ((fM_readTerm_a2 ty dd mcode mtot fl mru mpd mk mg mw mn mgp mga mgb mfc tl p (nI rc)))).2.2 ff (rsL ft tl fr fb rc (n + 1) k p ff).2.2) ∨
    ((rsL ft tl fr fb rc (n + 1) k p ff).1 = false ∧ (rb3 ty mcode mtot mru mpd mk mg mw mn mgp mga mgb mfc tl (nI rc) n (k + 1) ((fM_readTerm_c0f4 ty dd mcode mtot fl mru mpd mk mg mw mn mgp mga mgb mfc tl p (nI rc))) ((fM_readTerm_c0f5 ty dd mcode mtot fl mru mpd mk mg mw mn mgp mga mgb mfc tl p (nI rc))) ((fM_readTerm_a2 ty dd mcode mtot fl mru mpd mk mg mw mn mgp mga mgb mfc tl p (nI rc)))).2.1 = nI (rsL ft tl fr fb rc (n + 1) k p ff).2.1 ∧ (rsL ft tl fr fb rc (n + 1) k p ff).2.1 < 2147400000) := by
  intro n
  induction n with
  | zero =>
    intro k p dd ff hk hp hw
    rw [rb3]
    rcases term_eq (fl := fl) (dd := dd) (fw := ff) (fr := fr) (fb := fb) (mcode := mcode) (mru := mru) (mk := mk) (mn := mn) (mfc := mfc) (mtot := mtot) (mg := mg) (mw := mw) (mga := mga) (mgb := mgb) (mpd := mpd) (mgp := mgp) hT ht hrc (p := p) (by omega) hfl with ⟨h1, h2, h3, h4, h4b, i, w, hi, w0, w9, h5, h6⟩ | ⟨h1, h2, h3⟩
    · have hS : rsL ft tl fr fb rc (0 + 1) k p ff = (true, fT_readTerm_c0f2 ft tl ff fr fb rc p, fT_readTerm_a3 ft tl ff fr fb rc p) := by
        rw [rsL, if_pos h1]
        by_cases c : fT_next ft tl (fT_readTerm_c0f2 ft tl ff fr fb rc p) = 43
        · rw [if_pos c, if_pos (show nI k = 3 from by rw [show k = 3 by omega]; rfl)]
        · rw [if_neg c]
      rw [hS]
      dsimp only
      refine Or.inl ⟨by first | rfl | trivial, h2, h3, h4, ?_, ?_⟩
      · rw [h5, h6]
        have h := wg_step hw hi w0 w9 (by omega)
        rw [show 99 * k + 99 = 396 by omega] at h
        exact h
      · rw [h5, h6]
        exact fr_step hi
    · have hS : rsL ft tl fr fb rc (0 + 1) k p ff = (false, fT_readTerm_c0f2 ft tl ff fr fb rc p, fT_readTerm_a3 ft tl ff fr fb rc p) := by
        rw [rsL, if_neg (by rw [h1]; decide)]
      rw [hS]
      dsimp only
      exact Or.inr ⟨by first | rfl | trivial, h2, by omega⟩
  | succ n ih =>
    intro k p dd ff hk hp hw
    rcases term_eq (fl := fl) (dd := dd) (fw := ff) (fr := fr) (fb := fb) (mcode := mcode) (mru := mru) (mk := mk) (mn := mn) (mfc := mfc) (mtot := mtot) (mg := mg) (mw := mw) (mga := mga) (mgb := mgb) (mpd := mpd) (mgp := mgp) hT ht hrc (p := p) (by omega) hfl with ⟨h1, h2, h3, h4, h4b, i, w, hi, w0, w9, h5, h6⟩ | ⟨h1, h2, h3⟩
    · rw [h2, h3]
      have hq : fT_readTerm_c0f2 ft tl ff fr fb rc p < 2147483648 := by omega
      have hc := hn_c (mfl := fl) (mcode := mcode) (mru := mru) (mk := mk) (mn := mn) (mfc := mfc) (mtot := mtot) (mg := mg) (mw := mw) (mga := mga) (mgb := mgb) (mpd := mpd) (mgp := mgp) hT ht hq (c := 43) (by decide) (by decide)
      rw [rb3, if_neg (Int32.not_le.mpr hfl), rsL, if_pos h1]
      by_cases c : fT_next ft tl (fT_readTerm_c0f2 ft tl ff fr fb rc p) = 43
      · rw [if_pos (Eq.mpr hc c), if_pos c, if_neg (show ¬ nI k = 3 from fun e => absurd ((nI_eq (b := 3) (by omega) (by decide)).mp e) (by omega))]
        have hw' : wgR rc (99 * (k + 1)) (fM_readTerm_a2 ty dd mcode mtot fl mru mpd mk mg mw mn mgp mga mgb mfc tl p (nI rc)) (fT_readTerm_a3 ft tl ff fr fb rc p) := by
          rw [h5, h6]
          have h := wg_step hw hi w0 w9 (by omega)
          rw [show 99 * k + 99 = 99 * (k + 1) by omega] at h
          exact h
        have hf' : frR rc dd (fM_readTerm_a2 ty dd mcode mtot fl mru mpd mk mg mw mn mgp mga mgb mfc tl p (nI rc)) ff (fT_readTerm_a3 ft tl ff fr fb rc p) := by
          rw [h5, h6]
          exact fr_step hi
        rcases ih (k + 1) (fT_readTerm_c0f2 ft tl ff fr fb rc p + 1) (fM_readTerm_a2 ty dd mcode mtot fl mru mpd mk mg mw mn mgp mga mgb mfc tl p (nI rc)) (fT_readTerm_a3 ft tl ff fr fb rc p) (by omega) (by omega) hw' with ⟨g1, g2, g3, g4, g5, g6⟩ | g
        · exact Or.inl ⟨g1, g2, g3, g4, g5, hf'.trans g6⟩
        · exact Or.inr g
      · rw [if_neg (fun x => c (Eq.mp hc x)), if_neg c]
        dsimp only
        refine Or.inl ⟨by first | rfl | trivial, by first | rfl | trivial, by first | rfl | trivial, h4, ?_, ?_⟩
        · rw [h5, h6]
          have h := wg_step hw hi w0 w9 (by omega)
          exact fun i hi => ⟨(h i hi).1, (h i hi).2.1, by have := (h i hi).2.2; omega⟩
        · rw [h5, h6]
          exact fr_step hi
    · have hS : rsL ft tl fr fb rc (n + 1 + 1) k p ff = (false, fT_readTerm_c0f2 ft tl ff fr fb rc p, fT_readTerm_a3 ft tl ff fr fb rc p) := by
        rw [rsL, if_neg (by rw [h1]; decide)]
      rw [hS, h2, rb3, if_pos (show (0 : Int32) ≤ nI (fT_readTerm_c0f2 ft tl ff fr fb rc p) from nI_le (a := 0) (by omega) (by omega))]
      dsimp only
      exact Or.inr ⟨by first | rfl | trivial, by first | rfl | trivial, by omega⟩
end SUM
