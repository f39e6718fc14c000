/-! where the treads lie: the class's words and the reference's -/
theorem k10 : ((1 : Int32) = 0) = False := eq_false (by decide)
theorem k20 : ((2 : Int32) = 0) = False := eq_false (by decide)
theorem k21 : ((2 : Int32) = 1) = False := eq_false (by decide)
theorem k01 : ((0 : Int32) = 1) = False := eq_false (by decide)
theorem k02 : ((0 : Int32) = 2) = False := eq_false (by decide)
theorem k12 : ((1 : Int32) = 2) = False := eq_false (by decide)
theorem k30 : ((3 : Int32) = 0) = False := eq_false (by decide)
theorem k31 : ((3 : Int32) = 1) = False := eq_false (by decide)
theorem k32 : ((3 : Int32) = 2) = False := eq_false (by decide)
theorem l11 : ((1 : Int32) ≤ 1) = True := eq_true (by decide)
theorem l21 : ((2 : Int32) ≤ 1) = False := eq_false (by decide)
theorem l31 : ((3 : Int32) ≤ 1) = False := eq_false (by decide)
theorem nI_sub {a b : Nat} (h : b ≤ a) (ha : a < 1073741824) : nI a - nI b = nI (a - b) := by
  apply Int32.toInt_inj.mp
  rw [pk_sub_toInt ha (by omega), nI_toInt (by omega)]
  omega
section GEO
variable {mcode msz mat mfl mru mfc kind : Int32} {tot going width mga mgb : Int64} {mpd mgp : Bool} {j kk : Nat}
theorem shape_4 (rises : Int32) (total : Int64) (cf ct k : Int32) : fA_shape kind rises total going width cf ct k = 0 ∨ fA_shape kind rises total going width cf ct k = 1 ∨ fA_shape kind rises total going width cf ct k = 2 ∨ fA_shape kind rises total going width cf ct k = 3 := by
  unfold fA_shape
  split
  · split
    · split
      · exact Or.inr (Or.inr (Or.inl rfl))
      · exact Or.inr (Or.inr (Or.inr rfl))
    · exact Or.inr (Or.inl rfl)
  · exact Or.inl rfl
theorem shape_0 (total : Int64) (hj : j ≤ 60) (hk : kk + 1 < j) : fA_shape 0 (nI j) total going width (dcf 0 (nI j)) (dct 0 (nI j)) (nI kk) = 0 := by
  unfold fA_shape
  rw [if_neg]
  unfold dcf
  rw [if_pos rfl, show (1 : Int32) = nI 1 from rfl, nI_sub (by omega) (by omega)]
  exact nI_ge (by omega) (by omega)
theorem sort_eq (total : Int64) (hkd : kind = 0 ∨ kind = 1 ∨ kind = 2) (hj : j ≤ 60) (hk : kk + 1 < j) : fM_sort mcode tot msz mat mfl mru mpd kind going width (nI j) mgp mga mgb mfc (nI kk) = fA_shape kind (nI j) total going width (dcf kind (nI j)) (dct kind (nI j)) (nI kk) := by
  rcases hkd with rfl | rfl | rfl
  · rw [shape_0 total hj hk]
    simp only [fM_sort, fM_before, fM_inSquare, eq_self, if_true]
    rw [if_neg (nI_ge (by omega) (by omega))]
  · simp only [fM_sort, fM_before, fM_inSquare, fA_shape, dcf, dct, k10, k12, eq_self, if_true, if_false]
    rw [Int32.add_zero]
    generalize (nI j - 2) / 2 = x
    by_cases h : x ≤ nI kk
    · rw [if_pos h, if_pos h]
      by_cases h2 : x + 1 ≤ nI kk
      · rw [if_pos h2, if_neg (Int32.not_lt.mpr h2)]
      · rw [if_neg h2, if_pos (Int32.not_le.mp h2)]; rfl
    · rw [if_neg h, if_neg h]
  · simp only [fM_sort, fM_before, fM_inSquare, fA_shape, dcf, dct, k20, k21, eq_self, if_true, if_false]
    rw [Int32.add_zero]
    generalize (nI j - 4) / 2 = x
    by_cases h : x ≤ nI kk
    · rw [if_pos h, if_pos h]
      by_cases h2 : x + 3 ≤ nI kk
      · rw [if_pos h2, if_neg (Int32.not_lt.mpr h2)]
      · rw [if_neg h2, if_pos (Int32.not_le.mp h2)]; rfl
    · rw [if_neg h, if_neg h]
theorem bef_eq (hkd : kind = 1 ∨ kind = 2) : fM_before mcode tot msz mat mfl mru mpd kind going width (nI j) mgp mga mgb mfc = dcf kind (nI j) ∧ dct kind (nI j) = dcf kind (nI j) + fM_inSquare mcode tot msz mat mfl mru mpd kind going width (nI j) mgp mga mgb mfc := by
  rcases hkd with rfl | rfl
  · simp only [fM_before, fM_inSquare, dcf, dct, k10, k12, eq_self, if_true, if_false]
    exact ⟨trivial, by rw [Int32.add_zero]⟩
  · simp only [fM_before, fM_inSquare, dcf, dct, k20, k21, eq_self, if_true, if_false]
    exact ⟨trivial, by rw [Int32.add_zero]⟩
theorem side_eq (total : Int64) (hkd : kind = 0 ∨ kind = 1 ∨ kind = 2) (hj : j ≤ 60) (hk : kk + 1 < j) :
    fM_side mcode tot msz mat mfl mru mpd kind going width (nI j) mgp mga mgb mfc (nI kk) 0 = fA_leastX kind (nI j) total going width (dcf kind (nI j)) (dct kind (nI j)) (nI kk) ∧
    fM_side mcode tot msz mat mfl mru mpd kind going width (nI j) mgp mga mgb mfc (nI kk) 1 = fA_leastY kind (nI j) total going width (dcf kind (nI j)) (dct kind (nI j)) (nI kk) ∧
    fM_side mcode tot msz mat mfl mru mpd kind going width (nI j) mgp mga mgb mfc (nI kk) 2 = fA_greatestX kind (nI j) total going width (dcf kind (nI j)) (dct kind (nI j)) (nI kk) ∧
    fM_side mcode tot msz mat mfl mru mpd kind going width (nI j) mgp mga mgb mfc (nI kk) 3 = fA_greatestY kind (nI j) total going width (dcf kind (nI j)) (dct kind (nI j)) (nI kk) := by
  have hs := sort_eq (mcode := mcode) (msz := msz) (mat := mat) (mfl := mfl) (mru := mru) (mfc := mfc) (tot := tot) (going := going) (width := width) (mga := mga) (mgb := mgb) (mpd := mpd) (mgp := mgp) total hkd hj hk
  rcases hkd with rfl | hkd
  · rw [shape_0 total hj hk] at hs
    simp only [fM_side, fA_leastX, fA_leastY, fA_greatestX, fA_greatestY, hs, shape_0 total hj hk, k10, k20, k21, k30, k31, k32, k01, eq_self, if_true, if_false]
    exact ⟨trivial, trivial, trivial, trivial⟩
  · obtain ⟨hb, hc⟩ := bef_eq (mcode := mcode) (msz := msz) (mat := mat) (mfl := mfl) (mru := mru) (mfc := mfc) (tot := tot) (going := going) (width := width) (mga := mga) (mgb := mgb) (mpd := mpd) (mgp := mgp) (j := j) hkd
    simp only [fM_side, fA_leastX, fA_leastY, fA_greatestX, fA_greatestY, fA_cornerX, hs, hb, Int32.sub_sub, ← hc]
    rcases shape_4 (kind := kind) (going := going) (width := width) (nI j) total (dcf kind (nI j)) (dct kind (nI j)) (nI kk) with h | h | h | h
    · simp only [h, k10, k20, k21, k30, k31, k32, k01, eq_self, if_true, if_false]; exact ⟨trivial, trivial, trivial, trivial⟩
    · simp only [h, k10, k20, k21, k30, k31, k32, l11, eq_self, if_true, if_false]; exact ⟨trivial, trivial, trivial, trivial⟩
    · simp only [h, k10, k20, k21, k30, k31, k32, l21, eq_self, if_true, if_false]; exact ⟨trivial, trivial, trivial, trivial⟩
    · simp only [h, k10, k20, k21, k30, k31, k32, l31, eq_self, if_true, if_false]; exact ⟨trivial, trivial, trivial, trivial⟩
end GEO
