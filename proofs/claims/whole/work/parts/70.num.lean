/-! whole numbers without wrap; Euclid's steps -/
theorem bm64 {z : Int} (h1 : -9223372036854775808 ≤ z) (h2 : z < 9223372036854775808) : z.bmod (2 ^ 64) = z := Int.bmod_eq_of_le (by omega) (by omega)
theorem bm32 {z : Int} (h1 : -2147483648 ≤ z) (h2 : z < 2147483648) : z.bmod (2 ^ 32) = z := Int.bmod_eq_of_le (by omega) (by omega)
theorem i64_mul {a b : Int64} (h1 : -9223372036854775808 ≤ a.toInt * b.toInt) (h2 : a.toInt * b.toInt < 9223372036854775808) : (a * b).toInt = a.toInt * b.toInt := by
  rw [Int64.toInt_mul]
  exact bm64 h1 h2
theorem i64_add {a b : Int64} (h1 : -9223372036854775808 ≤ a.toInt + b.toInt) (h2 : a.toInt + b.toInt < 9223372036854775808) : (a + b).toInt = a.toInt + b.toInt := by
  rw [Int64.toInt_add]
  exact bm64 h1 h2
theorem i64_sub {a b : Int64} (h1 : -9223372036854775808 ≤ a.toInt - b.toInt) (h2 : a.toInt - b.toInt < 9223372036854775808) : (a - b).toInt = a.toInt - b.toInt := by
  rw [Int64.toInt_sub]
  exact bm64 h1 h2
theorem i64_div {a b : Int64} (ha : 0 ≤ a.toInt) (hb : 0 < b.toInt) : (a / b).toInt = a.toInt / b.toInt := by
  rw [Int64.toInt_div_of_ne_right a b (fun h => by rw [h] at hb; exact absurd hb (by decide)), Int.tdiv_eq_ediv_of_nonneg ha]
theorem i64_mod {a b : Int64} (ha : 0 ≤ a.toInt) (hb : 0 < b.toInt) : (a - a / b * b).toInt = a.toInt % b.toInt := by
  have hd := i64_div ha hb
  have h1 : 0 ≤ a.toInt / b.toInt := Int.ediv_nonneg ha (by omega)
  have h2 : a.toInt / b.toInt * b.toInt ≤ a.toInt := Int.ediv_mul_le a.toInt (by omega)
  have h3 := Int64.toInt_lt a
  have h4 : 0 ≤ a.toInt / b.toInt * b.toInt := Int.mul_nonneg h1 (by omega)
  have hm : (a / b * b).toInt = a.toInt / b.toInt * b.toInt := by
    rw [i64_mul (by rw [hd]; omega) (by rw [hd]; omega), hd]
  rw [i64_sub (by rw [hm]; omega) (by rw [hm]; omega), hm, Int.emod_def, Int.mul_comm b.toInt]
theorem i64_pos {b : Int64} (hb : 0 ≤ b.toInt) (h0 : ¬ b = 0) : 0 < b.toInt := by
  rcases Int.lt_or_eq_of_le hb with h | h
  · exact h
  · exact absurd (Int64.toInt_inj.mp (by rw [← h, Int64.toInt_zero])) h0
theorem gcdD_of : ∀ (k : Nat) (a b : Int64), 0 ≤ a.toInt → 0 ≤ b.toInt → b.toInt < ((2 ^ k : Nat) : Int) → gcdD (2 * k) a b := by
  intro k
  induction k with
  | zero =>
    intro a b _ hb hk
    show b = 0
    apply Int64.toInt_inj.mp
    rw [Int64.toInt_zero]
    have h1 : ((2 ^ 0 : Nat) : Int) = 1 := rfl
    omega
  | succ k ih =>
    intro a b ha hb hk
    rw [show 2 * (k + 1) = 2 * k + 1 + 1 from by omega, gcdD]
    by_cases hb0 : b = 0
    · exact Or.inl hb0
    · refine Or.inr ?_
      have hb1 := i64_pos hb hb0
      have hr1 := i64_mod ha hb1
      have h1 : 0 ≤ (a - a / b * b).toInt := by rw [hr1]; exact Int.emod_nonneg _ (by omega)
      have h2 : (a - a / b * b).toInt < b.toInt := by rw [hr1]; exact Int.emod_lt_of_pos _ hb1
      generalize a - a / b * b = r at h1 h2 ⊢
      rw [gcdD]
      by_cases hr0 : r = 0
      · exact Or.inl hr0
      · refine Or.inr ?_
        have hr := i64_pos h1 hr0
        have hr2 := i64_mod hb hr
        have h3 : 0 ≤ (b - b / r * r).toInt := by rw [hr2]; exact Int.emod_nonneg _ (by omega)
        have h4 : (b - b / r * r).toInt < r.toInt := by rw [hr2]; exact Int.emod_lt_of_pos _ hr
        have h5 : (b - b / r * r).toInt ≤ b.toInt - r.toInt := by
          rw [hr2, Int.emod_def]
          have h6 : 1 ≤ b.toInt / r.toInt := Int.le_ediv_of_mul_le hr (by omega)
          have h7 : r.toInt * 1 ≤ r.toInt * (b.toInt / r.toInt) := Int.mul_le_mul_of_nonneg_left h6 (by omega)
          omega
        refine ih r _ (by omega) h3 ?_
        have h8 : ((2 ^ (k + 1) : Nat) : Int) = 2 * ((2 ^ k : Nat) : Int) := by
          have h9 : (2 ^ (k + 1) : Nat) = 2 * 2 ^ k := by rw [Nat.pow_succ, Nat.mul_comm]
          rw [h9]; exact Int.natCast_mul 2 (2 ^ k)
        omega
theorem gcdL_mono : ∀ (n m : Nat) (a b : Int64), gcdD n a b → gcdL (n + m) a b = gcdL n a b ∧ gcdD (n + m) a b := by
  intro n
  induction n with
  | zero =>
    intro m a b h
    have h : b = 0 := h
    cases m with
    | zero => exact ⟨rfl, h⟩
    | succ m =>
      rw [Nat.zero_add]
      exact ⟨by rw [gcdL, gcdL, if_pos h], by rw [gcdD]; exact Or.inl h⟩
  | succ n ih =>
    intro m a b h
    rw [show n + 1 + m = (n + m) + 1 from by omega]
    rw [gcdD] at h
    rcases h with h | h
    · exact ⟨by rw [gcdL, gcdL, if_pos h, if_pos h], by rw [gcdD]; exact Or.inl h⟩
    · obtain ⟨h1, h2⟩ := ih m _ _ h
      exact ⟨by rw [gcdL, gcdL, h1], by rw [gcdD]; exact Or.inr h2⟩
theorem gcdD100 {a b : Int64} (ha : 0 ≤ a.toInt) (hb : 0 ≤ b.toInt) (h : b.toInt < 1024) : gcdD 100 a b := (gcdL_mono 20 80 a b (gcdD_of 10 a b ha hb h)).2
theorem gcdL_pos : ∀ (n : Nat) (a b : Int64), 0 ≤ a.toInt → 0 ≤ b.toInt → 0 < a.toInt ∨ 0 < b.toInt → gcdD n a b → 0 < (gcdL n a b).toInt := by
  intro n
  induction n with
  | zero =>
    intro a b ha hb hp h
    have h : b = 0 := h
    show 0 < a.toInt
    rcases hp with h1 | h1
    · exact h1
    · rw [h, Int64.toInt_zero] at h1; omega
  | succ n ih =>
    intro a b ha hb hp h
    rw [gcdL]
    rw [gcdD] at h
    by_cases hb0 : b = 0
    · rw [if_pos hb0]
      rcases hp with h1 | h1
      · exact h1
      · rw [hb0, Int64.toInt_zero] at h1; omega
    · rw [if_neg hb0]
      have hb1 := i64_pos hb hb0
      rcases h with h | h
      · exact absurd h hb0
      · exact ih b _ hb (by rw [i64_mod ha hb1]; exact Int.emod_nonneg _ (by omega)) (Or.inl hb1) h
theorem i64_of {n : Nat} (h : n < 9223372036854775808) : (Int64.ofNat n).toInt = n := Int64.toInt_ofNat_of_lt h
theorem nI64 {n : Nat} (h : n < 2147483648) : (nI n).toInt64.toInt = n := by
  rw [Int32.toInt_toInt64]
  exact nI_toInt h
theorem nI64e {n : Nat} (h : n < 2147483648) : (nI n).toInt64 = Int64.ofNat n := by
  apply Int64.toInt_inj.mp
  rw [nI64 h, i64_of (by omega)]
theorem nClamp {n : Nat} (h : n < 2147483648) : (nI n).toNatClampNeg = n := nI_clamp h
