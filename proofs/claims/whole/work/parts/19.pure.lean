/-! places within arrays -/
theorem tin {x N : Int32} {n : Nat} (hN : N.toInt = n) (h0 : ¬ x < 0) (h1 : ¬ N ≤ x) : vp_in x n := by
  rw [Int32.lt_iff_toInt_lt, Int32.toInt_zero] at h0
  rw [Int32.le_iff_toInt_le] at h1
  exact vp_in_iff.mpr ⟨by omega, by omega⟩
theorem tin_l {x : Int32} (h : 0 ≤ x) : ¬ x < 0 := by
  rw [Int32.le_iff_toInt_le, Int32.toInt_zero] at h
  rw [Int32.lt_iff_toInt_lt, Int32.toInt_zero]
  omega
theorem tin_u {x N : Int32} (h : x < N) : ¬ N ≤ x := by
  rw [Int32.lt_iff_toInt_lt] at h
  rw [Int32.le_iff_toInt_le]
  omega
theorem tin_n {c n : Nat} {N : Int32} (hN : nI n = N) (hn : n < 2 ^ 31) (hc : c < 2 ^ 31) (h : ¬ N ≤ nI c) : c < n := by
  subst hN
  rcases Nat.lt_or_ge c n with q | q
  · exact q
  · exact absurd (nI_le q hc) h
theorem tin_c {c n : Nat} {N : Int32} (hN : nI n = N) (hn : n < 2 ^ 31) (hc : c < 2 ^ 31) (h : ¬ N ≤ nI c) : vp_in (nI c) n := vp_in_nI (tin_n hN hn hc h) hn
theorem tin_5 {x y : Int32} (j : Nat) (hj : j < 5) (hy : nI j = y) (h0 : ¬ x < 0) (h1 : x ≤ 40 - 5) : vp_in (x + y) 40 := by
  obtain ⟨i, hi, rfl⟩ := nI_of2 (M := 40 - 5) (n := 35) (by decide) h0 h1
  subst hy
  rw [nI_add]
  exact vp_in_nI (by omega) (by decide)
theorem tin_50 {x : Int32} (h0 : ¬ x < 0) (h1 : x ≤ 40 - 5) : vp_in x 40 := by
  obtain ⟨i, hi, rfl⟩ := nI_of2 (M := 40 - 5) (n := 35) (by decide) h0 h1
  exact vp_in_nI (by omega) (by decide)
theorem tin_40 {c : Nat} {x : Int32} (hc : c ≤ 8) (h8 : ¬ 8 ≤ nI c) (h0 : ¬ x < 0) (h5 : ¬ 5 ≤ x) : vp_in (nI c * 5 + x) 40 := by
  have h := tin_n (n := 8) (N := 8) rfl (by decide) (by omega) h8
  rcases pk_ix x (n := 5) (by decide) with q | q | ⟨j, hj, rfl⟩
  · exact absurd q h0
  · exact absurd q h5
  · rw [show (5 : Int32) = nI 5 from rfl, pk_mul, nI_add]
    exact vp_in_nI (by omega) (by decide)
theorem tsw {x : Int32} (n : Nat) (hn : n < 2 ^ 31) (h : ∀ j : Nat, j ≤ n → ¬ x = nI j) : x.toInt < 0 ∨ (n : Int) < x.toInt := by
  rcases Int.lt_or_le x.toInt 0 with q | q
  · exact Or.inl q
  · rcases Int.lt_or_le (n : Int) x.toInt with r | r
    · exact Or.inr r
    · refine absurd ?_ (h x.toInt.toNat (by omega))
      apply Int32.toInt_inj.mp
      rw [nI_toInt (by omega)]
      omega
theorem tin_7 {x y : Int32} (j : Nat) (hj : j < 7) (hy : nI j = y) (h : vp_in x 8) : vp_in (7 * x + y) 56 := by
  obtain ⟨i, hi, rfl⟩ := vp_in_of h (by decide)
  subst hy
  rw [show (7 : Int32) = nI 7 from rfl, pk_mul, nI_add]
  exact vp_in_nI (by omega) (by decide)
theorem tin_70 {x : Int32} (h : vp_in x 8) : vp_in (7 * x) 56 := by
  obtain ⟨i, hi, rfl⟩ := vp_in_of h (by decide)
  rw [show (7 : Int32) = nI 7 from rfl, pk_mul]
  exact vp_in_nI (by omega) (by decide)
theorem tin_lt {a b n : Nat} (ha : a < 2 ^ 31) (hb : b ≤ n) (hn : n < 2 ^ 31) (h : ¬ nI b ≤ nI a) : vp_in (nI a) n := by
  have : a < b := by
    rcases Nat.lt_or_ge a b with q | q
    · exact q
    · exact absurd (nI_le q ha) h
  exact vp_in_nI (by omega) hn
theorem tin_b {b : Nat} (j : Nat) (hj : j < 5) {y : Int32} (hy : nI j = y) (hb : b < 8) : vp_in (5 * nI b + y) 40 := by
  subst hy
  rw [show (5 : Int32) = nI 5 from rfl, pk_mul, nI_add]
  exact vp_in_nI (by omega) (by decide)
theorem tin_b0 {b : Nat} (hb : b < 8) : vp_in (5 * nI b) 40 := by
  rw [show (5 : Int32) = nI 5 from rfl, pk_mul]
  exact vp_in_nI (by omega) (by decide)
