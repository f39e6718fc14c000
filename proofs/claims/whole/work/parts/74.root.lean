/-! the string: the class's root by 20 bits and the reference's by 26 -/
def rtN (sq m : Nat) : Nat → Nat → Nat
  | 0, r => r
  | n + 1, r => if sq < (r + 2 ^ n) * (r + 2 ^ n) * m * m then rtN sq m n r else rtN sq m n (r + 2 ^ n)
theorem shl_n : ∀ n : Nat, n < 26 → (1 : Int64) <<< ((nI n).toInt64 &&& 63) = Int64.ofNat (2 ^ n) := by decide +kernel
theorem or_n (n q : Nat) : Int64.ofNat (2 ^ (n + 1) * q) ||| Int64.ofNat (2 ^ n) = Int64.ofNat (2 ^ (n + 1) * q + 2 ^ n) := by
  rw [Nat.two_pow_add_eq_or_of_lt (Nat.pow_lt_pow_right (by decide) (by omega)) q]
  apply Int64.toBitVec_inj.mp
  show BitVec.ofNat 64 (2 ^ (n + 1) * q) ||| BitVec.ofNat 64 (2 ^ n) = BitVec.ofNat 64 (2 ^ (n + 1) * q ||| 2 ^ n)
  rw [BitVec.ofNat_or]
theorem sq_small {x j : Nat} (hx : x ≤ 1048576) (hj : j ≤ 60) : x * x * j * j < 2 ^ 63 := by
  have h1 : x * x ≤ 1048576 * 1048576 := Nat.mul_le_mul hx hx
  have h2 : x * x * j ≤ 1048576 * 1048576 * 60 := Nat.mul_le_mul h1 hj
  have h3 : x * x * j * j ≤ 1048576 * 1048576 * 60 * 60 := Nat.mul_le_mul h2 hj
  omega
section ROOT
variable {kind cf ct : Int32} {total going width : Int64} {sq j : Nat}
theorem rootL_N (hj : j ≤ 60) (hsq : sq < 2 ^ 62) : ∀ (n r : Nat), n ≤ 20 → r + 2 ^ n ≤ 1048576 → rootL kind (nI j) total going width cf ct (Int64.ofNat sq) n (Int64.ofNat r) = Int64.ofNat (rtN sq j n r) := by
  intro n
  induction n with
  | zero => intro r _ _; rw [rootL, rtN]
  | succ n ih =>
    intro r hn hr
    have hp : 2 ^ (n + 1) = 2 ^ n + 2 ^ n := by rw [Nat.pow_succ]; omega
    have hpos : 0 < 2 ^ n := Nat.pow_pos (by decide)
    have hx : r + 2 ^ n ≤ 1048576 := by omega
    have hss : fA_ss kind (nI j) total going width cf ct (Int64.ofNat (r + 2 ^ n)) = Int64.ofNat ((r + 2 ^ n) * (r + 2 ^ n) * j * j) := by
      unfold fA_ss
      rw [nI64e (by omega), ← Int64.ofNat_mul, ← Int64.ofNat_mul, ← Int64.ofNat_mul, Nat.mul_right_comm (r + 2 ^ n) j (r + 2 ^ n)]
    rw [rootL, rtN, shl_n n (by omega), ← Int64.ofNat_add, hss]
    by_cases hc : sq < (r + 2 ^ n) * (r + 2 ^ n) * j * j
    · rw [if_pos hc, if_pos ((Int64.ofNat_lt_iff_lt (by omega) (sq_small hx hj)).mpr hc)]
      exact ih r (by omega) (by omega)
    · rw [if_neg hc, if_neg (fun h => hc ((Int64.ofNat_lt_iff_lt (by omega) (sq_small hx hj)).mp h))]
      exact ih _ (by omega) (by omega)
theorem mroot_N (hj : j ≤ 60) (hsq : sq < 2 ^ 62) : ∀ (n q : Nat), n ≤ 20 → 2 ^ n * q + 2 ^ n ≤ 1048576 → mrootL (nI j) (Int64.ofNat sq) n (Int64.ofNat (2 ^ n * q)) = Int64.ofNat (rtN sq j n (2 ^ n * q)) := by
  intro n
  induction n with
  | zero => intro q _ _; rw [mrootL, rtN]
  | succ n ih =>
    intro q hn hr
    have hp : 2 ^ (n + 1) = 2 ^ n + 2 ^ n := by rw [Nat.pow_succ]; omega
    have hpos : 0 < 2 ^ n := Nat.pow_pos (by decide)
    have hx : 2 ^ (n + 1) * q + 2 ^ n ≤ 1048576 := by
      generalize 2 ^ (n + 1) * q = z at *
      omega
    have e0 : 2 ^ (n + 1) * q = 2 ^ n * (2 * q) := by rw [Nat.pow_succ, Nat.mul_assoc]
    have e1 : 2 ^ (n + 1) * q + 2 ^ n = 2 ^ n * (2 * q + 1) := by rw [e0, Nat.mul_add, Nat.mul_one]
    have e2 : 2 ^ n * (2 * q + 1) + 2 ^ n = 2 ^ (n + 1) * q + 2 ^ n + 2 ^ n := by rw [← e1]
    rw [mrootL, rtN, shl_n n (by omega), or_n, nI64e (by omega), ← Int64.ofNat_mul, ← Int64.ofNat_mul, ← Int64.ofNat_mul]
    by_cases hc : sq < (2 ^ (n + 1) * q + 2 ^ n) * (2 ^ (n + 1) * q + 2 ^ n) * j * j
    · rw [if_pos hc, if_pos ((Int64.ofNat_lt_iff_lt (by omega) (sq_small hx hj)).mpr hc), e0]
      exact ih (2 * q) (Nat.le_of_succ_le hn) (by rw [← e0]; exact hx)
    · rw [if_neg hc, if_neg (fun h => hc ((Int64.ofNat_lt_iff_lt (by omega) (sq_small hx hj)).mp h)), e1]
      exact ih (2 * q + 1) (Nat.le_of_succ_le hn) (by rw [e2, Nat.add_assoc, ← hp]; exact hr)
theorem mroot_26 (hj : j ≤ 60) (hsq : sq < 1099511627776 * j * j) : mrootL (nI j) (Int64.ofNat sq) 26 0 = mrootL (nI j) (Int64.ofNat sq) 20 0 := by
  have step : ∀ n : Nat, 20 ≤ n → n < 26 → mrootL (nI j) (Int64.ofNat sq) (n + 1) 0 = mrootL (nI j) (Int64.ofNat sq) n 0 := by
    intro n h1 h2
    have h3 : 2 ^ 20 ≤ 2 ^ n := Nat.pow_le_pow_right (by decide) h1
    have h4 : 2 ^ n ≤ 2 ^ 25 := Nat.pow_le_pow_right (by decide) (by omega)
    have h5 : 2 ^ 20 * 2 ^ 20 ≤ 2 ^ n * 2 ^ n := Nat.mul_le_mul h3 h3
    have h6 : 2 ^ n * 2 ^ n ≤ 2 ^ 25 * 2 ^ 25 := Nat.mul_le_mul h4 h4
    have h7 : 2 ^ 20 * 2 ^ 20 * j * j ≤ 2 ^ n * 2 ^ n * j * j := Nat.mul_le_mul (Nat.mul_le_mul h5 (Nat.le_refl j)) (Nat.le_refl j)
    have h8 : 2 ^ n * 2 ^ n * j * j ≤ 2 ^ 25 * 2 ^ 25 * 60 * 60 := Nat.mul_le_mul (Nat.mul_le_mul h6 hj) hj
    have h9 : sq < 2 ^ n * 2 ^ n * j * j := Nat.lt_of_lt_of_le hsq h7
    have e : (0 : Int64) ||| Int64.ofNat (2 ^ n) = Int64.ofNat (2 ^ n) := by
      have h := or_n n 0
      rw [Nat.mul_zero, Nat.zero_add] at h
      exact h
    rw [mrootL, shl_n n h2, e, nI64e (by omega), ← Int64.ofNat_mul, ← Int64.ofNat_mul, ← Int64.ofNat_mul]
    rw [if_pos ((Int64.ofNat_lt_iff_lt (by omega) (by omega)).mpr h9)]
  rw [step 25 (by decide) (by decide), step 24 (by decide) (by decide), step 23 (by decide) (by decide), step 22 (by decide) (by decide), step 21 (by decide) (by decide), step 20 (by decide) (by decide)]
theorem i64_nat {x : Int64} {b : Nat} (h0 : 0 ≤ x.toInt) (h1 : x.toInt ≤ (b : Int)) : ∃ n : Nat, n ≤ b ∧ x = Int64.ofNat n := by
  refine ⟨x.toInt.toNat, by omega, ?_⟩
  apply Int64.toInt_inj.mp
  have := Int64.toInt_lt x
  rw [i64_of (by omega)]
  omega
/-- the square is the same, and small -/
theorem sq_eq (h1 : 1 ≤ j) (hj : j ≤ 60) {gN tN : Nat} (hg : gN ≤ 10000) (ht : tN ≤ 100000) : ∃ s : Nat, fA_sss kind (nI j) (Int64.ofNat tN) (Int64.ofNat gN) width cf ct = Int64.ofNat s ∧ mSq (Int64.ofNat tN) (Int64.ofNat gN) (nI j) = Int64.ofNat s ∧ s < 1099511627776 * j * j ∧ s < 2 ^ 62 := by
  have et : (nI j - 1).toInt64 = Int64.ofNat (j - 1) := by
    rw [show (1 : Int32) = nI 1 from rfl, nI_sub h1 (by omega), nI64e (by omega)]
  have et2 : (nI j).toInt64 - 1 = Int64.ofNat (j - 1) := by rw [← along_eq h1 hj, et]
  refine ⟨((j - 1) * gN * j) * ((j - 1) * gN * j) + ((j - 1) * tN) * ((j - 1) * tN), ?_, ?_, ?_⟩
  · unfold fA_sss fA_along fA_treads
    rw [et, nI64e (by omega), ← Int64.ofNat_mul, ← Int64.ofNat_mul, ← Int64.ofNat_mul, ← Int64.ofNat_mul, ← Int64.ofNat_mul, ← Int64.ofNat_add]
  · unfold mSq
    rw [et2, nI64e (by omega), ← Int64.ofNat_mul, ← Int64.ofNat_mul, ← Int64.ofNat_mul, ← Int64.ofNat_mul, ← Int64.ofNat_mul, ← Int64.ofNat_add]
  · have a1 : (j - 1) * gN ≤ 590000 := Nat.le_trans (Nat.mul_le_mul (show j - 1 ≤ 59 by omega) hg) (by decide)
    have a2 : (j - 1) * gN * j ≤ 590000 * j := Nat.mul_le_mul a1 (Nat.le_refl j)
    have a3 : ((j - 1) * gN * j) * ((j - 1) * gN * j) ≤ (590000 * j) * (590000 * j) := Nat.mul_le_mul a2 a2
    have b1 : (j - 1) * tN ≤ j * 100000 := Nat.mul_le_mul (by omega) ht
    have b2 : ((j - 1) * tN) * ((j - 1) * tN) ≤ (j * 100000) * (j * 100000) := Nat.mul_le_mul b1 b1
    have c1 : (590000 * j) * (590000 * j) = 348100000000 * (j * j) := by
      rw [Nat.mul_mul_mul_comm]
    have c2 : (j * 100000) * (j * 100000) = 10000000000 * (j * j) := by
      rw [Nat.mul_mul_mul_comm, Nat.mul_comm]
    have c3 : 1099511627776 * j * j = 1099511627776 * (j * j) := Nat.mul_assoc _ _ _
    have d1 : 1 ≤ j * j := Nat.mul_le_mul h1 h1
    have d2 : j * j ≤ 60 * 60 := Nat.mul_le_mul hj hj
    rw [c3]
    generalize j * j = jj at *
    omega
theorem cut_eq (h1 : 1 ≤ j) (hj : j ≤ 60) (hg0 : 0 ≤ going.toInt) (hg : going.toInt ≤ 10000) (ht0 : 0 ≤ total.toInt) (ht : total.toInt ≤ 100000) :
    fA_cut kind (nI j) total going width cf ct = mRt total going (nI j) ∧ fA_sss kind (nI j) total going width cf ct = mSq total going (nI j) := by
  obtain ⟨gN, hgN, rfl⟩ := i64_nat (b := 10000) hg0 hg
  obtain ⟨tN, htN, rfl⟩ := i64_nat (b := 100000) ht0 ht
  obtain ⟨s, e1, e2, h2, h3⟩ := sq_eq (kind := kind) (cf := cf) (ct := ct) (width := width) h1 hj hgN htN
  refine ⟨?_, by rw [e1, e2]⟩
  unfold fA_cut mRt
  rw [e1, e2, mroot_26 hj h2]
  have r1 := rootL_N (kind := kind) (cf := cf) (ct := ct) (total := Int64.ofNat tN) (going := Int64.ofNat gN) (width := width) hj h3 20 0 (by decide) (by decide)
  have r2 := mroot_N (j := j) hj h3 20 0 (by decide) (by decide)
  rw [Nat.mul_zero] at r2
  exact r1.trans r2.symm
theorem whole_eq (x : Int64) : fA_ss kind (nI j) total going width cf ct x = ((x * x) * (nI j).toInt64) * (nI j).toInt64 := by
  unfold fA_ss
  rw [Int64.mul_assoc x, Int64.mul_comm (nI j).toInt64 x, ← Int64.mul_assoc]
end ROOT
