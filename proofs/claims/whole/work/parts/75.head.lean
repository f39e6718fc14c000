/-! head room: the class's loops and the reference's -/
def bxR (fc : Nat) (x0 y0 x1 y1 hh bx : Nat → Int64) : Prop := ∀ f : Nat, f < fc → bx (5 * f) = x0 f ∧ bx (5 * f + 1) = y0 f ∧ bx (5 * f + 2) = x1 f ∧ bx (5 * f + 3) = y1 f ∧ bx (5 * f + 4) = hh f
theorem over_aux {α : Type} {A B C D : Prop} [Decidable A] [Decidable B] [Decidable C] [Decidable D] (t s : α) : (if (if A then false else (if B then false else (if C then false else (if D then false else true)))) = true then t else s) = (if B then s else (if A then s else (if D then s else (if C then s else t)))) := by
  by_cases a : A <;> by_cases b : B <;> by_cases c : C <;> by_cases d : D <;> simp [a, b, c, d]
section HEAD
variable {cd msz mat mfl mru kind : Int32} {tot going width mga mgb : Int64} {mpd mgp : Bool} {j fc : Nat} {x0 y0 x1 y1 hh bx : Nat → Int64}
theorem lrI_eq (hB : bxR fc x0 y0 x1 y1 hh bx) (hfc : fc ≤ 8) (hkd : kind = 0 ∨ kind = 1 ∨ kind = 2) (hj : j ≤ 60) {i : Nat} (hi : i < fc) : ∀ (n k : Nat) (bb : Int64), n + k + 1 = j →
    mhI cd bx tot msz mat mfl mru mpd kind going width (nI j) mgp mga mgb fc i n k bb = lrI fc x0 y0 x1 y1 hh kind (nI j) tot going width (dcf kind (nI j)) (dct kind (nI j)) i n k bb := by
  obtain ⟨b0, b1, b2, b3, b4⟩ := hB i hi
  have e0 : bx (nI (5 * i)).toNatClampNeg = x0 i := by rw [nClamp (by omega)]; exact b0
  have e1 : bx (nI (5 * i + 1)).toNatClampNeg = y0 i := by rw [nClamp (by omega)]; exact b1
  have e2 : bx ((nI (5 * i)) + 2).toNatClampNeg = x1 i := by rw [show (2 : Int32) = nI 2 from rfl, nI_add, nClamp (by omega)]; exact b2
  have e3 : bx ((nI (5 * i)) + 3).toNatClampNeg = y1 i := by rw [show (3 : Int32) = nI 3 from rfl, nI_add, nClamp (by omega)]; exact b3
  have e4 : bx ((nI (5 * i)) + 4).toNatClampNeg = hh i := by rw [show (4 : Int32) = nI 4 from rfl, nI_add, nClamp (by omega)]; exact b4
  have ei : (nI i).toNatClampNeg = i := nClamp (by omega)
  have i0 : ¬ nI i < 0 := nI_nlt (a := i) (b := 0) (by omega) (by omega)
  have i8 : ¬ 8 ≤ nI i := nI_ge (b := 8) (by omega) (by decide)
  intro n
  induction n with
  | zero => intro k bb _; rw [mhI, lrI]
  | succ n ih =>
    intro k bb hk
    have ih' : ∀ b : Int64, mhI cd bx tot msz mat mfl mru mpd kind going width (nI j) mgp mga mgb fc i n (k + 1) b = lrI fc x0 y0 x1 y1 hh kind (nI j) tot going width (dcf kind (nI j)) (dct kind (nI j)) i n (k + 1) b := fun b => ih (k + 1) b (by omega)
    obtain ⟨s0, s1, s2, s3⟩ := side_eq (mcode := cd) (msz := msz) (mat := mat) (mfl := mfl) (mru := mru) (mfc := nI fc) (tot := tot) (going := going) (width := width) (mga := mga) (mgb := mgb) (mpd := mpd) (mgp := mgp) (kk := k) tot hkd hj (by omega)
    rw [mhI, lrI, s0, s1, s2, s3, e0, e1, e2, e3, e4, ei]
    unfold fF_over
    rw [if_neg i0, if_neg i8, ei, over_aux]
    unfold fA_height
    rw [nI_1]
    simp only [ih']
    generalize (hh i * (nI j).toInt64 - (nI (k + 1)).toInt64 * tot) = rm
    by_cases h : bb ≤ rm
    · rw [if_pos h, if_neg (Int64.not_lt.mpr h)]
    · rw [if_neg h, if_pos (Int64.not_le.mp h)]
theorem lrO_eq (hB : bxR fc x0 y0 x1 y1 hh bx) (hfc : fc ≤ 8) (hkd : kind = 0 ∨ kind = 1 ∨ kind = 2) (hj : j ≤ 60) {tr : Nat} (htr : tr + 1 = j) : ∀ (n i : Nat) (bb : Int64), n + i = fc →
    mhO cd bx tot msz mat mfl mru mpd kind going width (nI j) mgp mga mgb fc tr n i bb = lrO fc x0 y0 x1 y1 hh kind (nI j) tot going width (dcf kind (nI j)) (dct kind (nI j)) tr n i bb := by
  intro n
  induction n with
  | zero => intro i bb _; rw [mhO, lrO]
  | succ n ih =>
    intro i bb hi
    rw [mhO, lrO, lrI_eq hB hfc hkd hj (by omega) tr 0 bb (by omega), ih (i + 1) _ (by omega)]
end HEAD
