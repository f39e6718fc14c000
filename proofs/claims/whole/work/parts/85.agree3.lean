/-! floor, run, balusters -/
section AI
variable {mcode msz mat mfl mru mk mn mfc kind rises cf ct : Int32} {tot total going width mg mw mga mgb rn rd gn ge : Int64} {pd gd mgp : Bool}
theorem ag_floor {x0 y0 x1 y1 hh bx : Nat → Int64} {fc : Nat} (hfc : fc ≤ 8) (hB : bxR fc x0 y0 x1 y1 hh bx) (q1 q2 q3 q4 q5 : Int64) :
    (xP_floor tot pd gd x0 y0 x1 y1 hh fc q1 q2 q3 q4 q5 = 1 ∧ fM_floor_c0f0 bx mcode tot msz mat mfl mru pd mk mg mw mn mgp mga mgb fc q1 q2 q3 q4 q5 = 1 ∧ fM_floor_c0f17 bx mcode tot msz mat mfl mru pd mk mg mw mn mgp mga mgb fc q1 q2 q3 q4 q5 = fc ∧ fM_floor_a1 bx mcode tot msz mat mfl mru pd mk mg mw mn mgp mga mgb fc q1 q2 q3 q4 q5 = bx) ∨
    (xP_floor tot pd gd x0 y0 x1 y1 hh fc q1 q2 q3 q4 q5 = 0 ∧ fM_floor_c0f0 bx mcode tot msz mat mfl mru pd mk mg mw mn mgp mga mgb fc q1 q2 q3 q4 q5 = 0 ∧ fM_floor bx mcode tot msz mat mfl mru pd mk mg mw mn mgp mga mgb fc q1 q2 q3 q4 q5 = fP_floor tot pd gd x0 y0 x1 y1 hh fc q1 q2 q3 q4 q5 ∧ fM_floor_c0f17 bx mcode tot msz mat mfl mru pd mk mg mw mn mgp mga mgb fc q1 q2 q3 q4 q5 = fF_append_c0f5 x0 y0 x1 y1 hh fc q1 q2 q3 q4 q5 ∧ fM_floor_c0f17 bx mcode tot msz mat mfl mru pd mk mg mw mn mgp mga mgb fc q1 q2 q3 q4 q5 ≤ 8 ∧ bxR (fM_floor_c0f17 bx mcode tot msz mat mfl mru pd mk mg mw mn mgp mga mgb fc q1 q2 q3 q4 q5) (fF_append_a1 x0 y0 x1 y1 hh fc q1 q2 q3 q4 q5) (fF_append_a2 x0 y0 x1 y1 hh fc q1 q2 q3 q4 q5) (fF_append_a3 x0 y0 x1 y1 hh fc q1 q2 q3 q4 q5) (fF_append_a4 x0 y0 x1 y1 hh fc q1 q2 q3 q4 q5) (fF_append_a5 x0 y0 x1 y1 hh fc q1 q2 q3 q4 q5) (fM_floor_a1 bx mcode tot msz mat mfl mru pd mk mg mw mn mgp mga mgb fc q1 q2 q3 q4 q5)) := by
  by_cases p1 : fF_isPlace q1 = true
  rotate_left
  · exact Or.inl ⟨by unfold xP_floor; rw [if_neg p1], by unfold fM_floor_c0f0; rw [if_neg (show ¬ fM_isPlace q1 = true from p1)], by unfold fM_floor_c0f17; rw [if_neg (show ¬ fM_isPlace q1 = true from p1)], by unfold fM_floor_a1; rw [if_neg (show ¬ fM_isPlace q1 = true from p1)]⟩
  by_cases p2 : fF_isPlace q2 = true
  rotate_left
  · exact Or.inl ⟨by unfold xP_floor; rw [if_pos p1, if_neg p2], by unfold fM_floor_c0f0; rw [if_pos (show fM_isPlace q1 = true from p1), if_neg (show ¬ fM_isPlace q2 = true from p2)], by unfold fM_floor_c0f17; rw [if_pos (show fM_isPlace q1 = true from p1), if_neg (show ¬ fM_isPlace q2 = true from p2)], by unfold fM_floor_a1; rw [if_pos (show fM_isPlace q1 = true from p1), if_neg (show ¬ fM_isPlace q2 = true from p2)]⟩
  by_cases p3 : fF_isPlace q3 = true
  rotate_left
  · exact Or.inl ⟨by unfold xP_floor; rw [if_pos p1, if_pos p2, if_neg p3], by unfold fM_floor_c0f0; rw [if_pos (show fM_isPlace q1 = true from p1), if_pos (show fM_isPlace q2 = true from p2), if_neg (show ¬ fM_isPlace q3 = true from p3)], by unfold fM_floor_c0f17; rw [if_pos (show fM_isPlace q1 = true from p1), if_pos (show fM_isPlace q2 = true from p2), if_neg (show ¬ fM_isPlace q3 = true from p3)], by unfold fM_floor_a1; rw [if_pos (show fM_isPlace q1 = true from p1), if_pos (show fM_isPlace q2 = true from p2), if_neg (show ¬ fM_isPlace q3 = true from p3)]⟩
  by_cases p4 : fF_isPlace q4 = true
  rotate_left
  · exact Or.inl ⟨by unfold xP_floor; rw [if_pos p1, if_pos p2, if_pos p3, if_neg p4], by unfold fM_floor_c0f0; rw [if_pos (show fM_isPlace q1 = true from p1), if_pos (show fM_isPlace q2 = true from p2), if_pos (show fM_isPlace q3 = true from p3), if_neg (show ¬ fM_isPlace q4 = true from p4)], by unfold fM_floor_c0f17; rw [if_pos (show fM_isPlace q1 = true from p1), if_pos (show fM_isPlace q2 = true from p2), if_pos (show fM_isPlace q3 = true from p3), if_neg (show ¬ fM_isPlace q4 = true from p4)], by unfold fM_floor_a1; rw [if_pos (show fM_isPlace q1 = true from p1), if_pos (show fM_isPlace q2 = true from p2), if_pos (show fM_isPlace q3 = true from p3), if_neg (show ¬ fM_isPlace q4 = true from p4)]⟩
  by_cases p5 : q3 ≤ q1
  · exact Or.inl ⟨by unfold xP_floor; rw [if_pos p1, if_pos p2, if_pos p3, if_pos p4, if_pos p5], by unfold fM_floor_c0f0; rw [if_pos (show fM_isPlace q1 = true from p1), if_pos (show fM_isPlace q2 = true from p2), if_pos (show fM_isPlace q3 = true from p3), if_pos (show fM_isPlace q4 = true from p4), if_pos p5], by unfold fM_floor_c0f17; rw [if_pos (show fM_isPlace q1 = true from p1), if_pos (show fM_isPlace q2 = true from p2), if_pos (show fM_isPlace q3 = true from p3), if_pos (show fM_isPlace q4 = true from p4), if_pos p5], by unfold fM_floor_a1; rw [if_pos (show fM_isPlace q1 = true from p1), if_pos (show fM_isPlace q2 = true from p2), if_pos (show fM_isPlace q3 = true from p3), if_pos (show fM_isPlace q4 = true from p4), if_pos p5]⟩
  · skip
    by_cases p6 : q2 < q4
    rotate_left
    · exact Or.inl ⟨by unfold xP_floor; rw [if_pos p1, if_pos p2, if_pos p3, if_pos p4, if_neg p5, if_neg p6], by unfold fM_floor_c0f0; rw [if_pos (show fM_isPlace q1 = true from p1), if_pos (show fM_isPlace q2 = true from p2), if_pos (show fM_isPlace q3 = true from p3), if_pos (show fM_isPlace q4 = true from p4), if_neg p5, if_pos (Int64.not_lt.mp p6)], by unfold fM_floor_c0f17; rw [if_pos (show fM_isPlace q1 = true from p1), if_pos (show fM_isPlace q2 = true from p2), if_pos (show fM_isPlace q3 = true from p3), if_pos (show fM_isPlace q4 = true from p4), if_neg p5, if_pos (Int64.not_lt.mp p6)], by unfold fM_floor_a1; rw [if_pos (show fM_isPlace q1 = true from p1), if_pos (show fM_isPlace q2 = true from p2), if_pos (show fM_isPlace q3 = true from p3), if_pos (show fM_isPlace q4 = true from p4), if_neg p5, if_pos (Int64.not_lt.mp p6)]⟩
    by_cases p7 : fF_isHeight q5 = true
    rotate_left
    · exact Or.inl ⟨by unfold xP_floor; rw [if_pos p1, if_pos p2, if_pos p3, if_pos p4, if_neg p5, if_pos p6, if_neg p7], by unfold fM_floor_c0f0; rw [if_pos (show fM_isPlace q1 = true from p1), if_pos (show fM_isPlace q2 = true from p2), if_pos (show fM_isPlace q3 = true from p3), if_pos (show fM_isPlace q4 = true from p4), if_neg p5, if_neg (Int64.not_le.mpr p6), if_neg (show ¬ fM_isIn q5 0 1000000 = true from p7)], by unfold fM_floor_c0f17; rw [if_pos (show fM_isPlace q1 = true from p1), if_pos (show fM_isPlace q2 = true from p2), if_pos (show fM_isPlace q3 = true from p3), if_pos (show fM_isPlace q4 = true from p4), if_neg p5, if_neg (Int64.not_le.mpr p6), if_neg (show ¬ fM_isIn q5 0 1000000 = true from p7)], by unfold fM_floor_a1; rw [if_pos (show fM_isPlace q1 = true from p1), if_pos (show fM_isPlace q2 = true from p2), if_pos (show fM_isPlace q3 = true from p3), if_pos (show fM_isPlace q4 = true from p4), if_neg p5, if_neg (Int64.not_le.mpr p6), if_neg (show ¬ fM_isIn q5 0 1000000 = true from p7)]⟩
    have e17 : fM_floor_c0f17 bx mcode tot msz mat mfl mru pd mk mg mw mn mgp mga mgb fc q1 q2 q3 q4 q5 = (if nI fc = 8 then fc else fc + 1) := by unfold fM_floor_c0f17; rw [if_pos (show fM_isPlace q1 = true from p1), if_pos (show fM_isPlace q2 = true from p2), if_pos (show fM_isPlace q3 = true from p3), if_pos (show fM_isPlace q4 = true from p4), if_neg p5, if_neg (Int64.not_le.mpr p6), if_pos (show fM_isIn q5 0 1000000 = true from p7)]
    have ea : fM_floor_a1 bx mcode tot msz mat mfl mru pd mk mg mw mn mgp mga mgb fc q1 q2 q3 q4 q5 = (if nI fc = 8 then bx else vp_updL (vp_updL (vp_updL (vp_updL (vp_updL bx (5 * (nI fc)).toNatClampNeg q1) ((5 * (nI fc)) + 1).toNatClampNeg q2) ((5 * (nI fc)) + 2).toNatClampNeg q3) ((5 * (nI fc)) + 3).toNatClampNeg q4) ((5 * (nI fc)) + 4).toNatClampNeg q5) := by unfold fM_floor_a1; rw [if_pos (show fM_isPlace q1 = true from p1), if_pos (show fM_isPlace q2 = true from p2), if_pos (show fM_isPlace q3 = true from p3), if_pos (show fM_isPlace q4 = true from p4), if_neg p5, if_neg (Int64.not_le.mpr p6), if_pos (show fM_isIn q5 0 1000000 = true from p7)]
    have em : fM_floor bx mcode tot msz mat mfl mru pd mk mg mw mn mgp mga mgb fc q1 q2 q3 q4 q5 = (if nI fc = 8 then false else true) := by unfold fM_floor; rw [if_pos (show fM_isPlace q1 = true from p1), if_pos (show fM_isPlace q2 = true from p2), if_pos (show fM_isPlace q3 = true from p3), if_pos (show fM_isPlace q4 = true from p4), if_neg p5, if_neg (Int64.not_le.mpr p6), if_pos (show fM_isIn q5 0 1000000 = true from p7)]
    have ec : fP_floor tot pd gd x0 y0 x1 y1 hh fc q1 q2 q3 q4 q5 = fF_append x0 y0 x1 y1 hh fc q1 q2 q3 q4 q5 := by unfold fP_floor; rw [if_pos p1, if_pos p2, if_pos p3, if_pos p4, if_neg p5, if_pos p6, if_pos p7]
    refine Or.inr ⟨by unfold xP_floor; rw [if_pos p1, if_pos p2, if_pos p3, if_pos p4, if_neg p5, if_pos p6, if_pos p7], by unfold fM_floor_c0f0; rw [if_pos (show fM_isPlace q1 = true from p1), if_pos (show fM_isPlace q2 = true from p2), if_pos (show fM_isPlace q3 = true from p3), if_pos (show fM_isPlace q4 = true from p4), if_neg p5, if_neg (Int64.not_le.mpr p6), if_pos (show fM_isIn q5 0 1000000 = true from p7), ite_self], ?_⟩
    rw [e17, ea, em, ec]
    unfold fF_append fF_append_c0f5 fF_append_a1 fF_append_a2 fF_append_a3 fF_append_a4 fF_append_a5
    by_cases f8 : fc = 8
    · have a8 : nI fc = 8 := by rw [f8]; rfl
      have n8 : ¬ nI fc < 8 := by rw [a8]; exact Int32.lt_irrefl
      rw [if_pos a8, if_pos a8, if_pos a8, if_neg n8, if_neg n8, if_neg n8, if_neg n8, if_neg n8, if_neg n8, if_neg n8]
      exact ⟨rfl, rfl, hfc, hB⟩
    · have lt : fc < 8 := by omega
      have a8 : ¬ nI fc = 8 := fun e => f8 ((nI_eq (b := 8) (by omega) (by decide)).mp e)
      have n8 : nI fc < 8 := nI_lt (b := 8) lt (by decide)
      rw [if_neg a8, if_neg a8, if_neg a8, if_pos n8, if_pos n8, if_pos n8, if_pos n8, if_pos n8, if_pos n8, if_pos n8]
      refine ⟨rfl, rfl, by omega, ?_⟩
      have i0 : (5 * (nI fc)).toNatClampNeg = 5 * fc := by rw [show (5 : Int32) = nI 5 from rfl, pk_mul]; exact nClamp (by omega)
      have i1 : ∀ k : Nat, k < 5 → ((5 * (nI fc)) + nI k).toNatClampNeg = 5 * fc + k := fun k hk => by rw [show (5 : Int32) = nI 5 from rfl, pk_mul, nI_add]; exact nClamp (by omega)
      rw [i0, show ((5 * (nI fc)) + 1).toNatClampNeg = 5 * fc + 1 from i1 1 (by decide), show ((5 * (nI fc)) + 2).toNatClampNeg = 5 * fc + 2 from i1 2 (by decide), show ((5 * (nI fc)) + 3).toNatClampNeg = 5 * fc + 3 from i1 3 (by decide), show ((5 * (nI fc)) + 4).toNatClampNeg = 5 * fc + 4 from i1 4 (by decide), nClamp (show fc < 2147483648 by omega)]
      intro f hf
      unfold vp_updL
      by_cases e : f = fc
      · subst e
        simp only [if_true]
        refine ⟨?_, ?_, ?_, ?_, ?_⟩
        · rw [if_neg (by omega), if_neg (by omega), if_neg (by omega), if_neg (by omega)]
        · rw [if_neg (by omega), if_neg (by omega), if_neg (by omega)]
        · rw [if_neg (by omega), if_neg (by omega)]
        · rw [if_neg (by omega)]
        · trivial
      · obtain ⟨b0, b1, b2, b3, b4⟩ := hB f (by omega)
        simp only [if_neg e]
        refine ⟨?_, ?_, ?_, ?_, ?_⟩
        · rw [if_neg (by omega), if_neg (by omega), if_neg (by omega), if_neg (by omega), if_neg (by omega)]; exact b0
        · rw [if_neg (by omega), if_neg (by omega), if_neg (by omega), if_neg (by omega), if_neg (by omega)]; exact b1
        · rw [if_neg (by omega), if_neg (by omega), if_neg (by omega), if_neg (by omega), if_neg (by omega)]; exact b2
        · rw [if_neg (by omega), if_neg (by omega), if_neg (by omega), if_neg (by omega), if_neg (by omega)]; exact b3
        · rw [if_neg (by omega), if_neg (by omega), if_neg (by omega), if_neg (by omega), if_neg (by omega)]; exact b4
theorem ag_run_c {rc : Nat} {fw fr fb : Nat → Int32} (hrc : rc ≤ 8) (k1 : Int32) (g1 w1 : Int64) : mrunC rc k1 g1 w1 = nI (xP_run tot pd gd fw fr fb rc kind rises total going width cf ct rn rd k1 g1 w1) ∧ (xP_run tot pd gd fw fr fb rc kind rises total going width cf ct rn rd k1 g1 w1 = 0 → (k1 = 0 ∨ k1 = 1 ∨ k1 = 2) ∧ 1 ≤ g1.toInt ∧ g1.toInt ≤ 10000 ∧ 1 ≤ w1.toInt ∧ w1.toInt ≤ 10000) := by
  have hi := idx_eq (x := k1) (cn := 3) (hi := 2) (n := 3) rfl rfl
  have hk3 : (k1 ≤ 2) = (k1 < 3) := propext (by rw [Int32.le_iff_toInt_le, Int32.lt_iff_toInt_lt]; show k1.toInt ≤ 2 ↔ k1.toInt < 3; omega)
  unfold mrunC xP_run
  by_cases a : nI rc = 0
  · rw [if_pos a, if_pos a]; exact ⟨rfl, fun h => by cases h⟩
  · rw [if_neg a, if_neg a]
    by_cases b : k1 < 0
    · have c : ¬ fM_isIn k1.toInt64 0 2 = true := by rw [hi]; unfold xP_requireIndex; rw [if_pos b]; decide
      rw [if_pos b, if_neg c]; exact ⟨rfl, fun h => by cases h⟩
    · rw [if_neg b]
      by_cases d : k1 ≤ 2
      · have z : xP_requireIndex k1 3 = 0 := by unfold xP_requireIndex; rw [if_neg b, if_pos (by rw [← hk3]; exact d)]
        rw [if_pos d, if_pos (Eq.mpr hi z)]
        obtain ⟨i, hi3, rfl⟩ := idx_nat (n := 3) rfl z
        have k3 : nI i = 0 ∨ nI i = 1 ∨ nI i = 2 := by
          rcases (show i = 0 ∨ i = 1 ∨ i = 2 by omega) with rfl | rfl | rfl
          · exact Or.inl rfl
          · exact Or.inr (Or.inl rfl)
          · exact Or.inr (Or.inr rfl)
        unfold fM_isIn
        by_cases g0 : g1 < 1
        · rw [if_pos g0, if_pos g0, if_neg (by decide)]; exact ⟨rfl, fun h => by cases h⟩
        · rw [if_neg g0, if_neg g0]
          by_cases g9 : 10000 < g1
          · rw [if_pos g9, if_pos g9, if_neg (by decide)]; exact ⟨rfl, fun h => by cases h⟩
          · rw [if_neg g9, if_neg g9, if_pos rfl]
            by_cases w0 : w1 < 1
            · rw [if_pos w0, if_pos w0, if_neg (by decide)]; exact ⟨rfl, fun h => by cases h⟩
            · rw [if_neg w0, if_neg w0]
              by_cases w9 : w1 ≤ 10000
              · rw [if_pos w9, if_neg (Int64.not_lt.mpr w9), if_pos rfl]
                rw [Int64.lt_iff_toInt_lt] at g0 g9 w0
                rw [Int64.le_iff_toInt_le] at w9
                have r1 : (1 : Int64).toInt = 1 := rfl
                have r2 : (10000 : Int64).toInt = 10000 := rfl
                exact ⟨rfl, fun _ => ⟨k3, by omega, by omega, by omega, by omega⟩⟩
              · rw [if_neg w9, if_pos (Int64.not_le.mp w9), if_neg (by decide)]; exact ⟨rfl, fun h => by cases h⟩
      · have c : ¬ fM_isIn k1.toInt64 0 2 = true := by rw [hi]; unfold xP_requireIndex; rw [if_neg b, if_neg (by rw [← hk3]; exact d)]; decide
        rw [if_neg d, if_neg c]; exact ⟨rfl, fun h => by cases h⟩
theorem ag_run {rc : Nat} {fw fr fb to : Nat → Int32} {g w : Int64} (hR : rlR rc fw fr fb to) (hrc : rc ≤ 8) (k1 : Int32) :
    mrF to tot msz mat mfl pd mk mg mw mn mgp mga mgb mfc rc g w (fewN k1 - 1) (61 - fewN k1) (-1) = (if runJ fw fr fb rc k1 tot g w = 61 then (-1) else nI (runJ fw fr fb rc k1 tot g w)) ∧ fewN k1 ≤ runJ fw fr fb rc k1 tot g w ∧ runJ fw fr fb rc k1 tot g w ≤ 61 ∧
    mrB to tot msz mat mfl pd mk mg mw mn mgp mga mgb mfc rc g w (fewN k1 - 1) (61 - fewN k1) 0 = runM fw fr fb rc k1 tot g w (61 - fewN k1) (fewN k1) 0 := by
  have h4 := fewN_4 k1
  have h1 : 1 ≤ fewN k1 := by unfold fewN; split; decide; split <;> decide
  have e1 := mrF_eq (msz := msz) (mat := mat) (mfl := mfl) (mpd := pd) (mk := mk) (mg := mg) (mw := mw) (mn := mn) (mgp := mgp) (mga := mga) (mgb := mgb) (mfc := mfc) (tot := tot) (g := g) (w := w) (kind := k1) hR hrc (fewN k1 - 1) (61 - fewN k1) (-1) (by omega)
  have e2 := mrB_eq (msz := msz) (mat := mat) (mfl := mfl) (mpd := pd) (mk := mk) (mg := mg) (mw := mw) (mn := mn) (mgp := mgp) (mga := mga) (mgb := mgb) (mfc := mfc) (tot := tot) (g := g) (w := w) (kind := k1) hR hrc (fewN k1 - 1) (61 - fewN k1) 0 (by omega)
  rw [show fewN k1 - 1 + 1 = fewN k1 by omega] at e1 e2
  rw [show fewN k1 + (61 - fewN k1) = 61 by omega] at e1
  have hle := runF_le (fw := fw) (fr := fr) (fb := fb) (rc := rc) (k1 := k1) (tot := tot) (g1 := g) (w1 := w) (61 - fewN k1) (fewN k1)
  exact ⟨e1, hle.1, by show runF fw fr fb rc k1 tot g w (61 - fewN k1) (fewN k1) ≤ 61; omega, e2⟩
theorem ag_bal_c (thick most : Int64) : balC mcode tot msz mat mfl mru pd mk mg mw mn mgp mga mgb mfc thick most = nI (xP_balusters tot pd gd kind rises total going width cf ct gn ge thick most) := by
  unfold balC xP_balusters fM_isIn
  rw [ite_self]
  cases pd with
  | false => rw [if_pos no_f, if_neg rpn_f, noc_f]; rfl
  | true =>
    rw [if_neg nn_t, if_pos rp_t]
    by_cases a : thick < 1
    · rw [if_pos a, if_pos a, if_neg (by decide)]; rfl
    · rw [if_neg a, if_neg a]
      by_cases b : thick ≤ 1000
      · rw [if_pos b, if_neg (Int64.not_lt.mpr b), if_pos rfl]
        by_cases c : 0 ≤ most
        · rw [if_pos c, if_neg (Int64.not_lt.mpr c)]; rfl
        · rw [if_neg c, if_pos (Int64.not_le.mp c)]; rfl
      · rw [if_neg b, if_pos (Int64.not_le.mp b), if_neg (by decide)]; rfl
theorem ag_heights_v (v : Int64) : fP_heights tot pd gd v = fM_heights mcode tot msz mat mfl mru pd mk mg mw mn mgp mga mgb mfc v := by
  rcases ag_heights (mcode := mcode) (msz := msz) (mat := mat) (mfl := mfl) (mru := mru) (mk := mk) (mg := mg) (mw := mw) (mn := mn) (mgp := mgp) (mga := mga) (mgb := mgb) (mfc := mfc) (tot := tot) (pd := pd) (gd := gd) v with ⟨e1, -, -, -, e5, -, -⟩ | ⟨e1, -, -, -, e5, -, -, -, -⟩ <;> rw [e1, e5]
theorem tk_pos {a b : Int64} (ha : 0 ≤ a.toInt) (hb : 0 < b.toInt) (hb2 : b.toInt < 1024) (x y : Int64) : fQ_take_c0f0 x y a b = a / gcdL 100 a b ∧ fQ_take_c0f1 x y a b = b / gcdL 100 a b ∧ gcdD 100 a b ∧ ¬ fM_common 100 a b = 0 := by
  have hd := gcdD100 ha (by omega) hb2
  have hp := gcdL_pos 100 a b ha (by omega) (Or.inr hb) hd
  have hn : ¬ fQ_gcd a b ≤ 0 := by
    unfold fQ_gcd
    rw [Int64.le_iff_toInt_le, Int64.toInt_zero]
    omega
  refine ⟨?_, ?_, hd, fun h => ?_⟩
  · unfold fQ_take_c0f0; rw [if_neg hn]; rfl
  · unfold fQ_take_c0f1; rw [if_neg hn]; rfl
  · rw [show gcdL 100 a b = 0 from h, Int64.toInt_zero] at hp
    omega
theorem along_bd {j : Nat} (h1 : 1 ≤ j) (h6 : j ≤ 60) (g0 : 1 ≤ going.toInt) (g1 : going.toInt ≤ 10000) : 0 ≤ (fA_along kind (nI j) total going width cf ct).toInt ∧ (fA_along kind (nI j) total going width cf ct).toInt ≤ 590000 := by
  unfold fA_along fA_treads
  rw [show (1 : Int32) = nI 1 from rfl, nI_sub h1 (by omega)]
  have e := nI64 (n := j - 1) (by omega)
  have q0 : 0 ≤ ((j - 1 : Nat) : Int) * going.toInt := Int.mul_nonneg (by omega) (by omega)
  have q1 : ((j - 1 : Nat) : Int) * going.toInt ≤ 59 * 10000 := Int.mul_le_mul (by omega) g1 (by omega) (by omega)
  rw [i64_mul (by rw [e]; omega) (by rw [e]; omega), e]
  omega
theorem bal_in (thick most : Int64) (h : xP_balusters tot pd gd kind rises total going width cf ct gn ge thick most = 0) : pd = true ∧ 1 ≤ thick.toInt ∧ thick.toInt ≤ 1000 ∧ 0 ≤ most.toInt := by
  unfold xP_balusters at h
  cases pd with
  | false => rw [if_neg rpn_f] at h; cases h
  | true =>
    rw [if_pos rp_t, ite_self] at h
    by_cases a : thick < 1
    · rw [if_pos a] at h; cases h
    · rw [if_neg a] at h
      by_cases b : thick ≤ 1000
      · rw [if_pos b] at h
        by_cases c : 0 ≤ most
        · have a' := Int64.not_lt.mp a
          rw [Int64.le_iff_toInt_le] at a' b c
          exact ⟨rfl, a', b, c⟩
        · rw [if_neg c] at h; cases h
      · rw [if_neg b] at h; cases h
theorem mbF_pos {len thick most : Int64} (hl0 : 0 ≤ len.toInt) (hl : len.toInt ≤ 590000) (ht1 : 1 ≤ thick.toInt) (ht2 : thick.toInt ≤ 1000) : ∀ (n k : Nat), n + k = 1001 → ¬ mbF len thick most n k = 1001 → 0 ≤ (len - (nI (mbF len thick most n k)).toInt64 * thick).toInt := by
  intro n
  induction n with
  | zero => intro k hk h; rw [mbF] at h; exact absurd (by omega) h
  | succ n ih =>
    intro k hk h
    rw [mbF] at h ⊢
    by_cases f : mbFit len thick most k = true
    · rw [if_pos f]
      unfold mbFit at f
      by_cases g : len - (nI k).toInt64 * thick < 0
      · rw [if_pos g] at f; cases f
      · have g' := Int64.not_lt.mp g
        rw [Int64.le_iff_toInt_le, Int64.toInt_zero] at g'
        exact g'
    · rw [if_neg f] at h ⊢
      exact ih (k + 1) (by omega) h
theorem ag_few {len thick most : Int64} (hl0 : 0 ≤ len.toInt) (hl : len.toInt ≤ 590000) (ht1 : 1 ≤ thick.toInt) (ht2 : thick.toInt ≤ 1000) (hm : 0 ≤ most.toInt) (x y : Int64) :
    (mbF len thick most 1001 0 = 1001 ∧ fP_few len thick most = -1) ∨ (∃ k : Nat, k ≤ 1000 ∧ mbF len thick most 1001 0 = k ∧ fP_few len thick most = nI k ∧ ¬ nI k = -1 ∧
      fQ_take_c0f0 x y (len - (nI k).toInt64 * thick) ((nI k + 1).toInt64) = (len - (nI k).toInt64 * thick) / fM_common 100 (len - (nI k).toInt64 * thick) ((nI k).toInt64 + 1) ∧
      fQ_take_c0f1 x y (len - (nI k).toInt64 * thick) ((nI k + 1).toInt64) = ((nI k).toInt64 + 1) / fM_common 100 (len - (nI k).toInt64 * thick) ((nI k).toInt64 + 1) ∧
      gcdD 100 (len - (nI k).toInt64 * thick) ((nI k).toInt64 + 1) ∧ ¬ fM_common 100 (len - (nI k).toInt64 * thick) ((nI k).toInt64 + 1) = 0) := by
  have hb := bal_eq (br := if len < most then len else most) hl0 hl ht1 ht2 hm rfl 1001 0 rfl
  have hin := mbF_in (len := len) (thick := thick) (most := most) 1001 0
  have hf : fP_few len thick most = (if mbF len thick most 1001 0 = 1001 then (-1) else nI (mbF len thick most 1001 0)) := hb
  by_cases h : mbF len thick most 1001 0 = 1001
  · rw [if_pos h] at hf
    exact Or.inl ⟨h, hf⟩
  · rw [if_neg h] at hf
    refine Or.inr ⟨mbF len thick most 1001 0, by omega, rfl, hf, ?_, ?_⟩
    · intro e
      have e2 := congrArg Int32.toInt e
      rw [nI_toInt (by omega)] at e2
      have e3 : (-1 : Int32).toInt = -1 := rfl
      omega
    · have hpos := mbF_pos hl0 hl ht1 ht2 1001 0 rfl h
      have hk : mbF len thick most 1001 0 ≤ 1000 := by omega
      generalize mbF len thick most 1001 0 = k at *
      have e1 : (nI k + 1).toInt64 = (nI k).toInt64 + 1 := by
        apply Int64.toInt_inj.mp
        rw [nI_1, nI64 (by omega), i64_add (by rw [nI64 (by omega), Int64.toInt_one]; omega) (by rw [nI64 (by omega), Int64.toInt_one]; omega), nI64 (by omega), Int64.toInt_one]
        omega
      have e2 : ((nI k).toInt64 + 1).toInt = (k : Int) + 1 := by
        rw [← e1, nI_1, nI64 (by omega)]
        omega
      rw [e1]
      exact tk_pos hpos (by omega) (by omega) x y
end AI
