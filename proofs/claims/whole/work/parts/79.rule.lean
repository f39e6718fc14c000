/-! a rule; all rules -/
theorem n6260 : ((62 : Int32) = 60) = False := eq_false (by decide)
theorem n6160 : ((61 : Int32) = 60) = False := eq_false (by decide)
theorem n6162 : ((61 : Int32) = 62) = False := eq_false (by decide)
theorem cl7_at {rc : Nat} (hrc : rc < 8) : ∀ (n i : Nat) (dr : Nat → Int32) (x : Nat), n + i = 7 → cl7 (nI rc) n i dr x = if 7 * rc + i ≤ x ∧ x < 7 * rc + 7 then 0 else dr x := by
  intro n
  induction n with
  | zero => intro i dr x h; rw [cl7, if_neg (by omega)]
  | succ n ih =>
    intro i dr x h
    rw [cl7, ix7 i hrc (by omega), ih (i + 1) _ x (by omega)]
    by_cases a : 7 * rc + (i + 1) ≤ x ∧ x < 7 * rc + 7
    · rw [if_pos a, if_pos (by omega)]
    · rw [if_neg a]
      by_cases b : x = 7 * rc + i
      · rw [b, upd_at, if_pos (by omega)]
      · rw [upd_off _ _ b, if_neg (by omega)]
/-- digits end within the text -/
theorem rnL_in {ft : Nat → Int32} {tl : Nat} (ht : tl ≤ 120) : ∀ (n k : Nat) (v : Int32) (p : Nat), p ≤ tl → (rnL ft tl n k v p).2 ≤ tl := by
  intro n
  induction n with
  | zero => intro k v p h; rw [rnL]; exact h
  | succ n ih =>
    intro k v p h
    rw [rnL]
    by_cases c1 : fT_next ft tl p < 48
    · rw [if_pos c1]; exact h
    · rw [if_neg c1]
      by_cases c2 : 57 < fT_next ft tl p
      · rw [if_pos c2]; exact h
      · rw [if_neg c2]
        have hlt : p < tl := by
          rcases Nat.lt_or_ge p tl with q | q
          · exact q
          · refine absurd ?_ c1
            rw [next_eq ht (by omega), if_neg (by omega)]
            decide
        split
        · exact ih _ _ _ (by omega)
        · exact ih _ _ _ (by omega)
section RULE
variable {mcode fl mru mk mn mfc : Int32} {mtot mg mw mga mgb : Int64} {mpd mgp : Bool} {tl rc : Nat} {ft ty dd fw fr fb : Nat → Int32}
theorem tl3_bad {kk f : Int32} {q : Nat} {d : Nat → Int32} (h : 0 ≤ f) : (tl3 ty mcode mtot mru mpd mk mg mw mn mgp mga mgb mfc tl kk q f d).2.1 = f := by
  unfold tl3
  simp only [fM_fail_c0f5, h, if_true]
  repeat' split
  all_goals rfl
theorem tl3_none {kk f : Int32} {q : Nat} {d : Nat → Int32} (hq : q < 2147483648) (hf : f < 0) (h60 : ¬ (fM_here ty mcode mtot f mru mpd mk mg mw mn mgp mga mgb mfc tl q) = 60) (h62 : ¬ (fM_here ty mcode mtot f mru mpd mk mg mw mn mgp mga mgb mfc tl q) = 62) (h61 : ¬ (fM_here ty mcode mtot f mru mpd mk mg mw mn mgp mga mgb mfc tl q) = 61) : (tl3 ty mcode mtot mru mpd mk mg mw mn mgp mga mgb mfc tl kk q f d).2.1 = nI q := by
  have e : fM_fail_c0f5 mcode mtot (nI tl) (nI q) f mru mpd mk mg mw mn mgp mga mgb mfc = nI q := by
    unfold fM_fail_c0f5
    rw [if_neg (Int32.not_le.mpr hf)]
  unfold tl3
  rw [if_neg h60, if_neg h62, if_neg h61, e, if_pos (show (0 : Int32) ≤ nI q from nI_le (a := 0) (by omega) hq)]
theorem tl3_rel {f c : Int32} {q : Nat} {d : Nat → Int32} (hrc : rc < 8) (hq : q < 2147000000) (hf : f < 0) (hc : c = 60 ∨ c = 62 ∨ c = 61) (h : (fM_here ty mcode mtot f mru mpd mk mg mw mn mgp mga mgb mfc tl q) = c) :
    (tl3 ty mcode mtot mru mpd mk mg mw mn mgp mga mgb mfc tl (nI rc) q f d) = ((rdL ty mcode mtot f mru mpd mk mg mw mn mgp mga mgb mfc tl 6 0 0 (q + 1)).2.2, (if 0 ≤ (fM_rd ty mcode mtot f mru mpd mk mg mw mn mgp mga mgb mfc tl 6 (q + 1)) then f else nI (rdL ty mcode mtot f mru mpd mk mg mw mn mgp mga mgb mfc tl 6 0 0 (q + 1)).2.2), upd (upd d (7 * rc + 5) c) (7 * rc + 6) (fM_rd ty mcode mtot f mru mpd mk mg mw mn mgp mga mgb mfc tl 6 (q + 1))) := by
  have e5 : ((7 * (nI rc)) + 5).toNatClampNeg = 7 * rc + 5 := ix7 5 hrc (by decide)
  have e6 : ((7 * (nI rc)) + 6).toNatClampNeg = 7 * rc + 6 := ix7 6 hrc (by decide)
  have e : ∀ a : Nat, fM_fail_c0f5 mcode mtot (nI tl) (nI a) f mru mpd mk mg mw mn mgp mga mgb mfc = nI a := by
    intro a
    unfold fM_fail_c0f5
    rw [if_neg (Int32.not_le.mpr hf)]
  have hf' := Int32.not_le.mpr hf
  unfold tl3
  rcases hc with rfl | rfl | rfl
  · rw [if_pos h, if_neg hf', e5, e6, upd_at, e, h]
    split <;> rfl
  · rw [if_neg (by rw [h]; decide), if_pos h, if_neg hf', e5, e6, upd_at, e, h]
    split <;> rfl
  · rw [if_neg (by rw [h]; decide), if_neg (by rw [h]; decide), if_pos h, if_neg hf', e5, e6, upd_at, e, h]
    split <;> rfl
theorem cls_rel {c v : Int32} {p q q' : Nat} {f' : Nat → Int32} (hrc : rc < 8) (hc : c = 60 ∨ c = 62 ∨ c = 61) (hS : rsL ft tl fr fb rc 4 0 p fw = (true, q, f')) (hn : fT_next ft tl q = c) (hv : rnL ft tl 6 0 (-1) (q + 1) = (v, q')) :
    fT_readRule ft tl fw fr fb rc p = (if v = -1 then false else true) ∧ fT_readRule_c0f2 ft tl fw fr fb rc p = q' ∧ fT_readRule_c2f3 ft tl fw fr fb rc p = (if v = -1 then rc else rc + 1) ∧
    fT_readRule_a4 ft tl fw fr fb rc p = (if v = -1 then fr else upd fr rc c) ∧ fT_readRule_a5 ft tl fw fr fb rc p = (if v = -1 then fb else upd fb rc v) := by
  have a8 : (8 ≤ nI rc) = False := eq_false (nI_ge (b := 8) hrc (by decide))
  have cl : (nI rc).toNatClampNeg = rc := nClamp (by omega)
  have nar : vp_nar .char c = c := by rcases hc with rfl | rfl | rfl <;> rfl
  unfold fT_readRule fT_readRule_c0f2 fT_readRule_c2f3 fT_readRule_a4 fT_readRule_a5
  simp only [hS, hn, hv, fS_close_c0f3, fS_close_a2, fS_close_a3, a8, cl, nar, if_false, if_true]
  rcases hc with rfl | rfl | rfl
  · simp only [if_true, ite_self]; exact ⟨trivial, trivial, trivial, trivial, trivial⟩
  · simp only [n6260, if_true, if_false, ite_self]; exact ⟨trivial, trivial, trivial, trivial, trivial⟩
  · simp only [n6160, n6162, if_true, if_false, ite_self]; exact ⟨trivial, trivial, trivial, trivial, trivial⟩
theorem cls_bad {p q : Nat} {b : Bool} {f' : Nat → Int32} (hS : rsL ft tl fr fb rc 4 0 p fw = (b, q, f')) (h : b = false ∨ (¬ fT_next ft tl q = 60 ∧ ¬ fT_next ft tl q = 62 ∧ ¬ fT_next ft tl q = 61)) : fT_readRule ft tl fw fr fb rc p = false ∧ fT_readRule_c0f2 ft tl fw fr fb rc p = q := by
  unfold fT_readRule fT_readRule_c0f2
  rw [hS]
  dsimp only
  rcases h with rfl | ⟨h1, h2, h3⟩
  · rw [if_neg (by decide), if_neg (by decide)]; exact ⟨rfl, rfl⟩
  · cases b with
    | false => rw [if_neg (by decide), if_neg (by decide)]; exact ⟨rfl, rfl⟩
    | true => rw [if_pos rfl, if_pos rfl, if_neg h1, if_neg h2, if_neg h3, if_neg h1, if_neg h2, if_neg h3]; exact ⟨rfl, rfl⟩
theorem rule_ok (hT : txR tl ft ty) (ht : tl ≤ 120) (hrc : rc < 8) (hfl : fl < 0) {p q : Nat} {d f' : Nat → Int32} (hS : rsL ft tl fr fb rc 4 0 p fw = (true, q, f')) (g4 : q ≤ tl) (g5 : wgR rc 396 d f') (g6 : frR rc (cl7 (nI rc) 7 0 dd) d fw f') :
    (fT_readRule ft tl fw fr fb rc p = true ∧ (tl3 ty mcode mtot mru mpd mk mg mw mn mgp mga mgb mfc tl (nI rc) q fl d).1 = fT_readRule_c0f2 ft tl fw fr fb rc p ∧ (tl3 ty mcode mtot mru mpd mk mg mw mn mgp mga mgb mfc tl (nI rc) q fl d).2.1 = fl ∧ fT_readRule_c2f3 ft tl fw fr fb rc p = rc + 1 ∧ fT_readRule_c0f2 ft tl fw fr fb rc p ≤ tl ∧
      wgR rc 396 (tl3 ty mcode mtot mru mpd mk mg mw mn mgp mga mgb mfc tl (nI rc) q fl d).2.2 f' ∧ (tl3 ty mcode mtot mru mpd mk mg mw mn mgp mga mgb mfc tl (nI rc) q fl d).2.2 (7 * rc + 5) = fT_readRule_a4 ft tl fw fr fb rc p rc ∧ (tl3 ty mcode mtot mru mpd mk mg mw mn mgp mga mgb mfc tl (nI rc) q fl d).2.2 (7 * rc + 6) = fT_readRule_a5 ft tl fw fr fb rc p rc ∧
      (∀ x : Nat, x < 7 * rc → (tl3 ty mcode mtot mru mpd mk mg mw mn mgp mga mgb mfc tl (nI rc) q fl d).2.2 x = dd x) ∧ (∀ x : Nat, x < 5 * rc ∨ 5 * rc + 5 ≤ x → f' x = fw x) ∧ ∀ k : Nat, k ≠ rc → fT_readRule_a4 ft tl fw fr fb rc p k = fr k ∧ fT_readRule_a5 ft tl fw fr fb rc p k = fb k) ∨
    (fT_readRule ft tl fw fr fb rc p = false ∧ (tl3 ty mcode mtot mru mpd mk mg mw mn mgp mga mgb mfc tl (nI rc) q fl d).2.1 = nI (fT_readRule_c0f2 ft tl fw fr fb rc p) ∧ fT_readRule_c0f2 ft tl fw fr fb rc p < 2147400000) := by
  have hq : q < 2147483648 := by omega
  have t60 := hn_c (mfl := fl) (mcode := mcode) (mru := mru) (mk := mk) (mn := mn) (mfc := mfc) (mtot := mtot) (mg := mg) (mw := mw) (mga := mga) (mgb := mgb) (mpd := mpd) (mgp := mgp) hT ht hq (c := 60) (by decide) (by decide)
  have t62 := hn_c (mfl := fl) (mcode := mcode) (mru := mru) (mk := mk) (mn := mn) (mfc := mfc) (mtot := mtot) (mg := mg) (mw := mw) (mga := mga) (mgb := mgb) (mpd := mpd) (mgp := mgp) hT ht hq (c := 62) (by decide) (by decide)
  have t61 := hn_c (mfl := fl) (mcode := mcode) (mru := mru) (mk := mk) (mn := mn) (mfc := mfc) (mtot := mtot) (mg := mg) (mw := mw) (mga := mga) (mgb := mgb) (mpd := mpd) (mgp := mgp) hT ht hq (c := 61) (by decide) (by decide)
  have hrn := rn_rd (mfl := fl) (mcode := mcode) (mru := mru) (mk := mk) (mn := mn) (mfc := mfc) (mtot := mtot) (mg := mg) (mw := mw) (mga := mga) (mgb := mgb) (mpd := mpd) (mgp := mgp) hT ht 6 (q + 1) (by decide) (by omega)
  have hbd := rn_bd (ft := ft) (tl := tl) 6 0 (-1) (q + 1) 1 (by decide) (Or.inl rfl) (by decide) (by decide)
  have hle := rnL_le ft tl 6 0 (-1) (q + 1)
  have hin := rnL_in (ft := ft) ht 6 0 (-1) (q + 1)
  rw [hrn] at hbd hle hin
  have hx9 : (∃ c : Int32, (c = 60 ∨ c = 62 ∨ c = 61) ∧ fT_next ft tl q = c ∧ (fM_here ty mcode mtot fl mru mpd mk mg mw mn mgp mga mgb mfc tl q) = c) ∨ (¬ fT_next ft tl q = 60 ∧ ¬ fT_next ft tl q = 62 ∧ ¬ fT_next ft tl q = 61) := by
    by_cases a60 : fT_next ft tl q = 60
    · exact Or.inl ⟨60, Or.inl rfl, a60, Eq.mpr t60 a60⟩
    · by_cases a62 : fT_next ft tl q = 62
      · exact Or.inl ⟨62, Or.inr (Or.inl rfl), a62, Eq.mpr t62 a62⟩
      · by_cases a61 : fT_next ft tl q = 61
        · exact Or.inl ⟨61, Or.inr (Or.inr rfl), a61, Eq.mpr t61 a61⟩
        · exact Or.inr ⟨a60, a62, a61⟩
  rcases hx9 with ⟨c, hc, hn, hh⟩ | ⟨a60, a62, a61⟩
  · have hlt : q < tl := (hn_same (mfl := fl) (mcode := mcode) (mru := mru) (mk := mk) (mn := mn) (mfc := mfc) (mtot := mtot) (mg := mg) (mw := mw) (mga := mga) (mgb := mgb) (mpd := mpd) (mgp := mgp) hT ht hq (by rw [hn]; rcases hc with rfl | rfl | rfl <;> decide)).2
    obtain ⟨r1, r2, r3, r4, r5⟩ := cls_rel hrc hc hS hn hrn
    rw [r1, r2, r3, r4, r5, tl3_rel (d := d) (mcode := mcode) (mru := mru) (mk := mk) (mn := mn) (mfc := mfc) (mtot := mtot) (mg := mg) (mw := mw) (mga := mga) (mgb := mgb) (mpd := mpd) (mgp := mgp) hrc (show q < 2147000000 by omega) hfl hc hh]
    clear r1 r2 r3 r4 r5 hrn t60 t61 t62 hn hh hS
    generalize (fM_rd ty mcode mtot fl mru mpd mk mg mw mn mgp mga mgb mfc tl 6 (q + 1)) = v at *
    generalize (rdL ty mcode mtot fl mru mpd mk mg mw mn mgp mga mgb mfc tl 6 0 0 (q + 1)).2.2 = q' at *
    dsimp only at hbd hle hin ⊢
    rcases hbd with ⟨e, -⟩ | ⟨e0, e1⟩
    · subst e
      rw [if_pos rfl, if_neg (by decide)]
      exact Or.inr ⟨rfl, rfl, by omega⟩
    · have n1 : ¬ v = -1 := fun e => by rw [e] at e0; exact absurd e0 (by decide)
      have n0 : 0 ≤ v := by rw [Int32.le_iff_toInt_le, Int32.toInt_zero]; exact e0
      rw [if_neg n1, if_neg n1, if_neg n1, if_neg n1, if_pos n0]
      refine Or.inl ⟨rfl, rfl, rfl, rfl, hin (by omega), ?_, ?_, ?_, ?_, ?_, ?_⟩
      · intro i hi
        have h9 := g5 i hi
        refine ⟨?_, h9.2⟩
        rw [upd_off _ _ (by omega), upd_off _ _ (by omega)]
        exact h9.1
      · rw [upd_off _ _ (by omega), upd_at, upd_at]
      · rw [upd_at, upd_at]
      · intro x hx
        rw [upd_off _ _ (by omega), upd_off _ _ (by omega), g6.1 x (by omega), cl7_at hrc 7 0 dd x rfl, if_neg (by omega)]
      · intro x hx
        exact g6.2 x hx
      · intro k hk
        rw [upd_off _ _ hk, upd_off _ _ hk]
        exact ⟨rfl, rfl⟩
  · obtain ⟨r1, r2⟩ := cls_bad hS (Or.inr ⟨a60, a62, a61⟩)
    rw [r1, r2]
    exact Or.inr ⟨rfl, tl3_none (mcode := mcode) (mru := mru) (mk := mk) (mn := mn) (mfc := mfc) (mtot := mtot) (mg := mg) (mw := mw) (mga := mga) (mgb := mgb) (mpd := mpd) (mgp := mgp) hq hfl (fun x => a60 (Eq.mp t60 x)) (fun x => a62 (Eq.mp t62 x)) (fun x => a61 (Eq.mp t61 x)), by omega⟩
theorem rule_eq (hT : txR tl ft ty) (ht : tl ≤ 120) (hrc : rc < 8) (hfl : fl < 0) {p : Nat} (hp : p < 2145000000) (hz : ∀ i : Nat, i < 5 → fw (5 * rc + i) = 0) :
    (fT_readRule ft tl fw fr fb rc p = true ∧ (rr3 ty dd mcode mtot fl mru mpd mk mg mw mn mgp mga mgb mfc tl p (nI rc)).1 = fT_readRule_c0f2 ft tl fw fr fb rc p ∧ (rr3 ty dd mcode mtot fl mru mpd mk mg mw mn mgp mga mgb mfc tl p (nI rc)).2.1 = fl ∧ fT_readRule_c2f3 ft tl fw fr fb rc p = rc + 1 ∧ fT_readRule_c0f2 ft tl fw fr fb rc p ≤ tl ∧
      wgR rc 396 (rr3 ty dd mcode mtot fl mru mpd mk mg mw mn mgp mga mgb mfc tl p (nI rc)).2.2 (rsL ft tl fr fb rc 4 0 p fw).2.2 ∧ (rr3 ty dd mcode mtot fl mru mpd mk mg mw mn mgp mga mgb mfc tl p (nI rc)).2.2 (7 * rc + 5) = fT_readRule_a4 ft tl fw fr fb rc p rc ∧ (rr3 ty dd mcode mtot fl mru mpd mk mg mw mn mgp mga mgb mfc tl p (nI rc)).2.2 (7 * rc + 6) = fT_readRule_a5 ft tl fw fr fb rc p rc ∧
      (∀ x : Nat, x < 7 * rc → (rr3 ty dd mcode mtot fl mru mpd mk mg mw mn mgp mga mgb mfc tl p (nI rc)).2.2 x = dd x) ∧ (∀ x : Nat, x < 5 * rc ∨ 5 * rc + 5 ≤ x → (rsL ft tl fr fb rc 4 0 p fw).2.2 x = fw x) ∧ ∀ k : Nat, k ≠ rc → fT_readRule_a4 ft tl fw fr fb rc p k = fr k ∧ fT_readRule_a5 ft tl fw fr fb rc p k = fb k) ∨
    (fT_readRule ft tl fw fr fb rc p = false ∧ (rr3 ty dd mcode mtot fl mru mpd mk mg mw mn mgp mga mgb mfc tl p (nI rc)).2.1 = nI (fT_readRule_c0f2 ft tl fw fr fb rc p) ∧ fT_readRule_c0f2 ft tl fw fr fb rc p < 2147400000) := by
  have hw0 : wgR rc (99 * 0) (cl7 (nI rc) 7 0 dd) fw := by
    intro i hi
    rw [cl7_at hrc 7 0 dd _ rfl, if_pos (by omega), hz i hi]
    exact ⟨rfl, by decide, by decide⟩
  have hsum := sum_eq (fr := fr) (fb := fb) (mcode := mcode) (mru := mru) (mk := mk) (mn := mn) (mfc := mfc) (mtot := mtot) (mg := mg) (mw := mw) (mga := mga) (mgb := mgb) (mpd := mpd) (mgp := mgp) hT ht hrc hfl 3 0 p (cl7 (nI rc) 7 0 dd) fw rfl (by omega) hw0
  rw [rr3_def]
  simp only [Nat.zero_add, Nat.reduceAdd] at hsum
  generalize (rb3 ty mcode mtot mru mpd mk mg mw mn mgp mga mgb mfc tl (nI rc) 3 1 ((fM_readTerm_c0f4 ty (cl7 (nI rc) 7 0 dd) mcode mtot fl mru mpd mk mg mw mn mgp mga mgb mfc tl p (nI rc))) ((fM_readTerm_c0f5 ty (cl7 (nI rc) 7 0 dd) mcode mtot fl mru mpd mk mg mw mn mgp mga mgb mfc tl p (nI rc))) ((fM_readTerm_a2 ty (cl7 (nI rc) 7 0 dd) mcode mtot fl mru mpd mk mg mw mn mgp mga mgb mfc tl p (nI rc)))) = M at hsum ⊢
  obtain ⟨mq, mf, d⟩ := M
  rw [tl3t_mk]
  have hok := fun (q : Nat) (f' : Nat → Int32) => rule_ok (fr := fr) (fb := fb) (fw := fw) (dd := dd) (mcode := mcode) (mru := mru) (mk := mk) (mn := mn) (mfc := mfc) (mtot := mtot) (mg := mg) (mw := mw) (mga := mga) (mgb := mgb) (mpd := mpd) (mgp := mgp) hT ht hrc hfl (p := p) (q := q) (d := d) (f' := f')
  have hbad := fun (b : Bool) (q : Nat) (f' : Nat → Int32) => cls_bad (fr := fr) (fb := fb) (fw := fw) (rc := rc) (ft := ft) (tl := tl) (p := p) (q := q) (b := b) (f' := f')
  obtain ⟨b, q, f', hS⟩ : ∃ (b : Bool) (q : Nat) (f' : Nat → Int32), rsL ft tl fr fb rc 4 0 p fw = (b, q, f') := ⟨_, _, _, rfl⟩
  rw [hS] at hsum ⊢
  dsimp only at hsum ⊢
  rcases hsum with ⟨g1, g2, g3, g4, g5, g6⟩ | ⟨g1, g2, g3⟩
  · subst g1 g2 g3
    exact hok _ _ hS g4 g5 g6
  · obtain ⟨r1, r2⟩ := hbad _ _ _ hS (Or.inl g1)
    subst g1 g2
    rw [r1, r2]
    exact Or.inr ⟨rfl, tl3_bad (mcode := mcode) (mru := mru) (mk := mk) (mn := mn) (mfc := mfc) (mtot := mtot) (mg := mg) (mw := mw) (mga := mga) (mgb := mgb) (mpd := mpd) (mgp := mgp) (show (0 : Int32) ≤ nI q from nI_le (a := 0) (by omega) (by omega)), g3⟩
end RULE
