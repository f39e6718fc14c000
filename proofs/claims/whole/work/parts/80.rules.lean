/-! all rules of a text -/
theorem cp7_at {dd : Nat → Int32} : ∀ (n j : Nat) (to : Nat → Int32) (x : Nat), n + j ≤ 56 → cp7 dd n j to x = if j ≤ x ∧ x < j + n then dd x else to x := by
  intro n
  induction n with
  | zero => intro j to x _; rw [cp7, if_neg (by omega)]
  | succ n ih =>
    intro j to x h
    rw [cp7, nClamp (by omega), ih (j + 1) _ x (by omega)]
    by_cases a : j + 1 ≤ x ∧ x < j + 1 + n
    · rw [if_pos a, if_pos (by omega)]
    · rw [if_neg a]
      by_cases b : x = j
      · rw [b, upd_at, if_pos (by omega)]
      · rw [upd_off _ _ b, if_neg (by omega)]
theorem clr_at : ∀ (n k : Nat) (f : Nat → Int32) (x : Nat), n + k ≤ 40 → clrL n k f x = if k ≤ x ∧ x < k + n then 0 else f x := by
  intro n
  induction n with
  | zero => intro k f x _; rw [clrL, if_neg (by omega)]
  | succ n ih =>
    intro k f x h
    rw [clrL, nClamp (by omega), ih (k + 1) _ x (by omega)]
    by_cases a : k + 1 ≤ x ∧ x < k + 1 + n
    · rw [if_pos a, if_pos (by omega)]
    · rw [if_neg a]
      by_cases b : x = k
      · rw [b, upd_at, if_pos (by omega)]
      · rw [upd_off _ _ b, if_neg (by omega)]
theorem rl_step {k : Nat} {ff gr gb dd ff' gr' gb' dd' : Nat → Int32} (hR : rlR k ff gr gb dd) (h6 : wgR k 396 dd' ff') (h7 : dd' (7 * k + 5) = gr' k) (h8 : dd' (7 * k + 6) = gb' k) (h9 : ∀ x : Nat, x < 7 * k → dd' x = dd x) (h10 : ∀ x : Nat, x < 5 * k ∨ 5 * k + 5 ≤ x → ff' x = ff x) (h11 : ∀ j : Nat, j ≠ k → gr' j = gr j ∧ gb' j = gb j) : rlR (k + 1) ff' gr' gb' dd' := by
  intro j hj
  by_cases e : j = k
  · subst e
    exact ⟨fun i hi => h6 i hi, h7, h8⟩
  · have hjk : j < k := by omega
    obtain ⟨r1, r2, r3⟩ := hR j hjk
    refine ⟨fun i hi => ?_, ?_, ?_⟩
    · rw [h9 _ (by omega), h10 _ (by omega)]
      exact r1 i hi
    · rw [h9 _ (by omega), (h11 j e).1]
      exact r2
    · rw [h9 _ (by omega), (h11 j e).2]
      exact r3
section RULES
variable {fl mru mk mn mfc : Int32} {mtot mg mw mga mgb : Int64} {mpd mgp : Bool} {tl : Nat} {ft ty : Nat → Int32}
theorem mrl_stop {n k a : Nat} {f : Int32} {d : Nat → Int32} (h : 0 ≤ f) : (mrl ty mtot mru mpd mk mg mw mn mgp mga mgb mfc tl n k a f d) = (k, a, f, d) := by
  cases n with
  | zero => rw [mrl]
  | succ n => rw [mrl, if_pos h]
theorem rules_eq (hT : txR tl ft ty) (ht : tl ≤ 120) (hfl : fl < 0) : ∀ (n k p : Nat) (dd ff gr gb : Nat → Int32), n + k = 7 → p < 2140000000 + 30 * k → rlR k ff gr gb dd → (∀ x : Nat, 5 * k ≤ x → x < 40 → ff x = 0) →
    ((riL ft tl (n + 1) k p k ff gr gb).1 = true ∧ (mrl ty mtot mru mpd mk mg mw mn mgp mga mgb mfc tl (n + 1) (k + 1) ((rr3 ty dd 0 mtot fl mru mpd mk mg mw mn mgp mga mgb mfc tl p (nI k)).1) ((rr3 ty dd 0 mtot fl mru mpd mk mg mw mn mgp mga mgb mfc tl p (nI k)).2.1) ((rr3 ty dd 0 mtot fl mru mpd mk mg mw mn mgp mga mgb mfc tl p (nI k)).2.2)).1 = (riL ft tl (n + 1) k p k ff gr gb).2.2.1 ∧ ¬ 0 ≤ (mrl ty mtot mru mpd mk mg mw mn mgp mga mgb mfc tl (n + 1) (k + 1) ((rr3 ty dd 0 mtot fl mru mpd mk mg mw mn mgp mga mgb mfc tl p (nI k)).1) ((rr3 ty dd 0 mtot fl mru mpd mk mg mw mn mgp mga mgb mfc tl p (nI k)).2.1) ((rr3 ty dd 0 mtot fl mru mpd mk mg mw mn mgp mga mgb mfc tl p (nI k)).2.2)).2.2.1 ∧
      (riL ft tl (n + 1) k p k ff gr gb).2.2.1 ≤ 8 ∧ rlR (riL ft tl (n + 1) k p k ff gr gb).2.2.1 (riL ft tl (n + 1) k p k ff gr gb).2.2.2.1 (riL ft tl (n + 1) k p k ff gr gb).2.2.2.2.1 (riL ft tl (n + 1) k p k ff gr gb).2.2.2.2.2 (mrl ty mtot mru mpd mk mg mw mn mgp mga mgb mfc tl (n + 1) (k + 1) ((rr3 ty dd 0 mtot fl mru mpd mk mg mw mn mgp mga mgb mfc tl p (nI k)).1) ((rr3 ty dd 0 mtot fl mru mpd mk mg mw mn mgp mga mgb mfc tl p (nI k)).2.1) ((rr3 ty dd 0 mtot fl mru mpd mk mg mw mn mgp mga mgb mfc tl p (nI k)).2.2)).2.2.2) ∨
    ((riL ft tl (n + 1) k p k ff gr gb).1 = false ∧ (mrl ty mtot mru mpd mk mg mw mn mgp mga mgb mfc tl (n + 1) (k + 1) ((rr3 ty dd 0 mtot fl mru mpd mk mg mw mn mgp mga mgb mfc tl p (nI k)).1) ((rr3 ty dd 0 mtot fl mru mpd mk mg mw mn mgp mga mgb mfc tl p (nI k)).2.1) ((rr3 ty dd 0 mtot fl mru mpd mk mg mw mn mgp mga mgb mfc tl p (nI k)).2.2)).2.2.1 = nI (riL ft tl (n + 1) k p k ff gr gb).2.1 ∧ 0 ≤ (mrl ty mtot mru mpd mk mg mw mn mgp mga mgb mfc tl (n + 1) (k + 1) ((rr3 ty dd 0 mtot fl mru mpd mk mg mw mn mgp mga mgb mfc tl p (nI k)).1) ((rr3 ty dd 0 mtot fl mru mpd mk mg mw mn mgp mga mgb mfc tl p (nI k)).2.1) ((rr3 ty dd 0 mtot fl mru mpd mk mg mw mn mgp mga mgb mfc tl p (nI k)).2.2)).2.2.1) := by
  intro n
  induction n with
  | zero =>
    intro k p dd ff gr gb hk hp hR hz
    rw [riL]
    have hr := rule_eq (mcode := 0) (mru := mru) (mk := mk) (mn := mn) (mfc := mfc) (mtot := mtot) (mg := mg) (mw := mw) (mga := mga) (mgb := mgb) (mpd := mpd) (mgp := mgp) (rc := k) (fw := ff) (fr := gr) (fb := gb) (dd := dd) hT ht (by omega) hfl (p := p) (by omega) (fun i hi => hz _ (by omega) (by omega))
    generalize (rr3 ty dd 0 mtot fl mru mpd mk mg mw mn mgp mga mgb mfc tl p (nI k)) = M at hr ⊢
    obtain ⟨ma, mf, md⟩ := M
    dsimp only at hr ⊢
    rcases hr with ⟨h1, h2, h3, h4, h5, h6, h7, h8, h9, h10, h11⟩ | ⟨h1, h2, h3⟩
    · rw [if_pos h1, h2, h3]
      have hnew := rl_step hR h6 h7 h8 h9 h10 h11
      rw [mrl, if_neg (Int32.not_le.mpr hfl)]
      by_cases c : fT_readRule_c0f2 ft tl ff gr gb k p = tl
      · rw [if_pos (by rw [c]), if_pos (by rw [c]; exact Int32.le_refl _), h4]
        dsimp only
        exact Or.inl ⟨by first | rfl | trivial, by first | rfl | trivial, Int32.not_le.mpr hfl, by omega, hnew⟩
      · have hlt : fT_readRule_c0f2 ft tl ff gr gb k p < tl := by omega
        rw [if_neg (fun e => c ((nI_eq (by omega) (by omega)).mp e)), if_neg (nI_ge hlt (by omega))]
        have hc := hn_c (mcode := 0) (mfl := fl) (mru := mru) (mk := mk) (mn := mn) (mfc := mfc) (mtot := mtot) (mg := mg) (mw := mw) (mga := mga) (mgb := mgb) (mpd := mpd) (mgp := mgp) hT ht (p := fT_readRule_c0f2 ft tl ff gr gb k p) (by omega) (c := 59) (by decide) (by decide)
        have ef : fM_fail_c0f5 0 mtot (nI tl) (nI (fT_readRule_c0f2 ft tl ff gr gb k p)) fl mru mpd mk mg mw mn mgp mga mgb mfc = nI (fT_readRule_c0f2 ft tl ff gr gb k p) := by
          unfold fM_fail_c0f5
          rw [if_neg (Int32.not_le.mpr hfl)]
        have g0 : (0 : Int32) ≤ nI (fT_readRule_c0f2 ft tl ff gr gb k p) := nI_le (a := 0) (by omega) (by omega)
        have k7 : nI k = 7 := by rw [show k = 7 by omega]; rfl
        have k8 : nI (k + 1) = 8 := by rw [show k + 1 = 8 by omega]; rfl
        rw [ef]
        refine Or.inr ?_
        by_cases e : fT_next ft tl (fT_readRule_c0f2 ft tl ff gr gb k p) = 59
        · rw [if_pos e, if_pos k7, if_pos (Eq.mpr hc e), if_pos k8, mrl_stop g0]
          dsimp only
          exact ⟨by first | rfl | trivial, by first | rfl | trivial, g0⟩
        · rw [if_neg e, if_neg (fun x => e (Eq.mp hc x)), mrl_stop g0]
          dsimp only
          exact ⟨by first | rfl | trivial, by first | rfl | trivial, g0⟩
    · have g0 : (0 : Int32) ≤ nI (fT_readRule_c0f2 ft tl ff gr gb k p) := nI_le (a := 0) (by omega) (by omega)
      rw [if_neg (by rw [h1]; decide), h2, mrl_stop g0]
      dsimp only
      exact Or.inr ⟨by first | rfl | trivial, by first | rfl | trivial, g0⟩
  | succ n ih =>
    intro k p dd ff gr gb hk hp hR hz
    rw [riL]
    have hr := rule_eq (mcode := 0) (mru := mru) (mk := mk) (mn := mn) (mfc := mfc) (mtot := mtot) (mg := mg) (mw := mw) (mga := mga) (mgb := mgb) (mpd := mpd) (mgp := mgp) (rc := k) (fw := ff) (fr := gr) (fb := gb) (dd := dd) hT ht (by omega) hfl (p := p) (by omega) (fun i hi => hz _ (by omega) (by omega))
    generalize (rr3 ty dd 0 mtot fl mru mpd mk mg mw mn mgp mga mgb mfc tl p (nI k)) = M at hr ⊢
    obtain ⟨ma, mf, md⟩ := M
    dsimp only at hr ⊢
    rcases hr with ⟨h1, h2, h3, h4, h5, h6, h7, h8, h9, h10, h11⟩ | ⟨h1, h2, h3⟩
    · rw [if_pos h1, h2, h3]
      have hnew := rl_step hR h6 h7 h8 h9 h10 h11
      rw [mrl, if_neg (Int32.not_le.mpr hfl)]
      by_cases c : fT_readRule_c0f2 ft tl ff gr gb k p = tl
      · rw [if_pos (by rw [c]), if_pos (by rw [c]; exact Int32.le_refl _), h4]
        dsimp only
        exact Or.inl ⟨by first | rfl | trivial, by first | rfl | trivial, Int32.not_le.mpr hfl, by omega, hnew⟩
      · have hlt : fT_readRule_c0f2 ft tl ff gr gb k p < tl := by omega
        rw [if_neg (fun e => c ((nI_eq (by omega) (by omega)).mp e)), if_neg (nI_ge hlt (by omega))]
        have hc := hn_c (mcode := 0) (mfl := fl) (mru := mru) (mk := mk) (mn := mn) (mfc := mfc) (mtot := mtot) (mg := mg) (mw := mw) (mga := mga) (mgb := mgb) (mpd := mpd) (mgp := mgp) hT ht (p := fT_readRule_c0f2 ft tl ff gr gb k p) (by omega) (c := 59) (by decide) (by decide)
        have ef : fM_fail_c0f5 0 mtot (nI tl) (nI (fT_readRule_c0f2 ft tl ff gr gb k p)) fl mru mpd mk mg mw mn mgp mga mgb mfc = nI (fT_readRule_c0f2 ft tl ff gr gb k p) := by
          unfold fM_fail_c0f5
          rw [if_neg (Int32.not_le.mpr hfl)]
        have g0 : (0 : Int32) ≤ nI (fT_readRule_c0f2 ft tl ff gr gb k p) := nI_le (a := 0) (by omega) (by omega)
        have k7 : ¬ nI k = 7 := fun e => absurd ((nI_eq (b := 7) (by omega) (by decide)).mp e) (by omega)
        have k8 : ¬ nI (k + 1) = 8 := fun e => absurd ((nI_eq (b := 8) (by omega) (by decide)).mp e) (by omega)
        rw [ef]
        by_cases e : fT_next ft tl (fT_readRule_c0f2 ft tl ff gr gb k p) = 59
        · rw [if_pos e, if_neg k7, if_pos (Eq.mpr hc e), if_neg k8, h4]
          exact ih (k + 1) _ _ _ _ _ (by omega) (by omega) hnew (fun x hx hx4 => by rw [h10 x (by omega)]; exact hz x (by omega) hx4)
        · rw [if_neg e, if_neg (fun x => e (Eq.mp hc x)), mrl_stop g0]
          dsimp only
          exact Or.inr ⟨by first | rfl | trivial, by first | rfl | trivial, g0⟩
    · have g0 : (0 : Int32) ≤ nI (fT_readRule_c0f2 ft tl ff gr gb k p) := nI_le (a := 0) (by omega) (by omega)
      rw [if_neg (by rw [h1]; decide), h2, mrl_stop g0]
      dsimp only
      exact Or.inr ⟨by first | rfl | trivial, by first | rfl | trivial, g0⟩
end RULES
