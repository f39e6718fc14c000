/-! balusters: the class's search and the reference's -/
theorem along_eq {j : Nat} (h1 : 1 ≤ j) (h2 : j ≤ 60) : (nI j - 1).toInt64 = (nI j).toInt64 - 1 := by
  apply Int64.toInt_inj.mp
  rw [show (1 : Int32) = nI 1 from rfl, nI_sub h1 (by omega), nI64 (by omega), i64_sub (by rw [nI64 (by omega), Int64.toInt_one]; omega) (by rw [nI64 (by omega), Int64.toInt_one]; omega), nI64 (by omega), Int64.toInt_one]
  omega
section BAL
variable {len thick most br : Int64} {k : Nat}
theorem open_I (hk : k ≤ 1001) (hl0 : 0 ≤ len.toInt) (hl : len.toInt ≤ 590000) (ht1 : 1 ≤ thick.toInt) (ht2 : thick.toInt ≤ 1000) : (len - (nI k).toInt64 * thick).toInt = len.toInt - (k : Int) * thick.toInt := by
  have hK : (nI k).toInt64.toInt = (k : Int) := nI64 (by omega)
  have h1 : 0 ≤ (k : Int) * thick.toInt := Int.mul_nonneg (by omega) (by omega)
  have h2 : (k : Int) * thick.toInt ≤ 1001 * 1000 := Int.mul_le_mul (by omega) ht2 (by omega) (by omega)
  have hp : ((nI k).toInt64 * thick).toInt = (k : Int) * thick.toInt := by
    rw [i64_mul (by rw [hK]; omega) (by rw [hK]; omega), hK]
  rw [i64_sub (by rw [hp]; omega) (by rw [hp]; omega), hp]
theorem k1_I (hk : k ≤ 1001) : (nI (k + 1)).toInt64.toInt = (k : Int) + 1 := by
  rw [nI64 (by omega)]
  omega
theorem br_I (hb : br = if len < most then len else most) : (len.toInt < most.toInt ∧ br.toInt = len.toInt) ∨ (most.toInt ≤ len.toInt ∧ br.toInt = most.toInt) := by
  by_cases h : len < most
  · rw [if_pos h] at hb
    exact Or.inl ⟨Int64.lt_iff_toInt_lt.mp h, by rw [hb]⟩
  · rw [if_neg h] at hb
    exact Or.inr ⟨Int64.le_iff_toInt_le.mp (Int64.not_lt.mp h), by rw [hb]⟩
theorem fit_eq (hk : k ≤ 1000) (hl0 : 0 ≤ len.toInt) (hl : len.toInt ≤ 590000) (ht1 : 1 ≤ thick.toInt) (ht2 : thick.toInt ≤ 1000) (hm : 0 ≤ most.toInt) (hb : br = if len < most then len else most) (ho : 0 ≤ (len - (nI k).toInt64 * thick).toInt) :
    mbFit len thick most k = true ↔ ¬ br * (nI (k + 1)).toInt64 < len - (nI k).toInt64 * thick := by
  have hoI := open_I (k := k) (by omega) hl0 hl ht1 ht2
  have hkt : 0 ≤ (k : Int) * thick.toInt := Int.mul_nonneg (by omega) (by omega)
  have hoL : (len - (nI k).toInt64 * thick).toInt ≤ len.toInt := by omega
  have hD := k1_I (k := k) (by omega)
  unfold mbFit
  generalize len - (nI k).toInt64 * thick = o at ho hoL ⊢
  clear hoI
  have hd : 0 < (nI (k + 1)).toInt64.toInt := by omega
  have hq := i64_div ho hd
  have hr := i64_mod ho hd
  have hbI := br_I hb
  have hbn : 0 ≤ br.toInt ∧ br.toInt ≤ 590000 := by omega
  have hbm : (br * (nI (k + 1)).toInt64).toInt = br.toInt * ((k : Int) + 1) := by
    have h1 : 0 ≤ br.toInt * ((k : Int) + 1) := Int.mul_nonneg hbn.1 (by omega)
    have h2 : br.toInt * ((k : Int) + 1) ≤ 590000 * 1001 := Int.mul_le_mul hbn.2 (by omega) (by omega) (by omega)
    rw [i64_mul (by rw [hD]; omega) (by rw [hD]; omega), hD]
  rw [hD] at hq hr
  have hdm := Int.mul_ediv_add_emod o.toInt ((k : Int) + 1)
  have hr0 : 0 ≤ o.toInt % ((k : Int) + 1) := Int.emod_nonneg _ (by omega)
  have hr1 : o.toInt % ((k : Int) + 1) < (k : Int) + 1 := Int.emod_lt_of_pos _ (by omega)
  have hq0 : 0 ≤ o.toInt / ((k : Int) + 1) := Int.ediv_nonneg ho (by omega)
  have hqz : o.toInt / ((k : Int) + 1) ≤ ((k : Int) + 1) * (o.toInt / ((k : Int) + 1)) := by
    have h := Int.mul_le_mul_of_nonneg_right (show (1 : Int) ≤ (k : Int) + 1 by omega) hq0
    omega
  have hn0 : ¬ o < 0 := by
    rw [Int64.lt_iff_toInt_lt, Int64.toInt_zero]
    omega
  have hcmp : (br * (nI (k + 1)).toInt64 < o) = (br.toInt * ((k : Int) + 1) < o.toInt) := propext (by rw [Int64.lt_iff_toInt_lt, hbm])
  rw [if_neg hn0, hcmp]
  have hup : o.toInt / ((k : Int) + 1) ≤ br.toInt → ((k : Int) + 1) * (o.toInt / ((k : Int) + 1)) ≤ ((k : Int) + 1) * br.toInt := fun h => Int.mul_le_mul_of_nonneg_left h (by omega)
  have hup1 : o.toInt / ((k : Int) + 1) + 1 ≤ br.toInt → ((k : Int) + 1) * (o.toInt / ((k : Int) + 1) + 1) ≤ ((k : Int) + 1) * br.toInt := fun h => Int.mul_le_mul_of_nonneg_left h (by omega)
  have hdn : br.toInt + 1 ≤ o.toInt / ((k : Int) + 1) → ((k : Int) + 1) * (br.toInt + 1) ≤ ((k : Int) + 1) * (o.toInt / ((k : Int) + 1)) := fun h => Int.mul_le_mul_of_nonneg_left h (by omega)
  have hdn0 : br.toInt ≤ o.toInt / ((k : Int) + 1) → ((k : Int) + 1) * br.toInt ≤ ((k : Int) + 1) * (o.toInt / ((k : Int) + 1)) := fun h => Int.mul_le_mul_of_nonneg_left h (by omega)
  rw [Int.mul_add] at hup1 hdn
  rw [Int.mul_comm br.toInt]
  have hlb : br.toInt ≤ ((k : Int) + 1) * br.toInt := by
    have h := Int.mul_le_mul_of_nonneg_right (show (1 : Int) ≤ (k : Int) + 1 by omega) hbn.1
    omega
  generalize o.toInt / ((k : Int) + 1) = q at *
  generalize o.toInt % ((k : Int) + 1) = r at *
  generalize ((k : Int) + 1) * q = dq at *
  generalize ((k : Int) + 1) * br.toInt = db at *
  by_cases hz : o - o / (nI (k + 1)).toInt64 * (nI (k + 1)).toInt64 = 0
  · rw [if_pos hz]
    rw [hz, Int64.toInt_zero] at hr
    by_cases hc : most < o / (nI (k + 1)).toInt64
    · rw [if_pos hc]
      rw [Int64.lt_iff_toInt_lt, hq] at hc
      refine ⟨fun h => (by cases h), fun h => ?_⟩
      exfalso
      omega
    · rw [if_neg hc]
      rw [Int64.lt_iff_toInt_lt, hq] at hc
      refine ⟨fun _ => ?_, fun _ => rfl⟩
      omega
  · rw [if_neg hz]
    have hrp : 0 < r := by
      rcases Int.lt_or_eq_of_le hr0 with h | h
      · exact h
      · exact absurd (Int64.toInt_inj.mp (by rw [hr, ← h, Int64.toInt_zero])) hz
    have hq1 : (o / (nI (k + 1)).toInt64 + 1).toInt = q + 1 := by
      rw [i64_add (by rw [hq, Int64.toInt_one]; omega) (by rw [hq, Int64.toInt_one]; omega), hq, Int64.toInt_one]
    by_cases hc : most < o / (nI (k + 1)).toInt64 + 1
    · rw [if_pos hc]
      rw [Int64.lt_iff_toInt_lt, hq1] at hc
      refine ⟨fun h => (by cases h), fun h => ?_⟩
      exfalso
      omega
    · rw [if_neg hc]
      rw [Int64.lt_iff_toInt_lt, hq1] at hc
      refine ⟨fun _ => ?_, fun _ => rfl⟩
      omega
theorem mbF_in : ∀ (n k : Nat), k ≤ mbF len thick most n k ∧ mbF len thick most n k ≤ k + n := by
  intro n
  induction n with
  | zero => intro k; rw [mbF]; exact ⟨Nat.le_refl _, Nat.le_refl _⟩
  | succ n ih =>
    intro k
    have h := ih (k + 1)
    rw [mbF]
    split
    · exact ⟨Nat.le_refl _, by omega⟩
    · exact ⟨by omega, by omega⟩
theorem mbF_neg (hl0 : 0 ≤ len.toInt) (hl : len.toInt ≤ 590000) (ht1 : 1 ≤ thick.toInt) (ht2 : thick.toInt ≤ 1000) : ∀ (n k : Nat), n + k ≤ 1001 → (len - (nI k).toInt64 * thick).toInt < 0 → mbF len thick most n k = k + n := by
  intro n
  induction n with
  | zero => intro k _ _; rw [mbF]; rfl
  | succ n ih =>
    intro k hk ho
    have h1 := open_I (len := len) (thick := thick) (k := k) (by omega) hl0 hl ht1 ht2
    have h2 := open_I (len := len) (thick := thick) (k := k + 1) (by omega) hl0 hl ht1 ht2
    have h3 : ((k + 1 : Nat) : Int) * thick.toInt = (k : Int) * thick.toInt + thick.toInt := by
      rw [Int.natCast_add, Int.add_mul]
      omega
    have hf : mbFit len thick most k = false := by
      unfold mbFit
      rw [if_pos (by rw [Int64.lt_iff_toInt_lt, Int64.toInt_zero]; omega)]
    rw [mbF, if_neg (by rw [hf]; decide), ih (k + 1) (by omega) (by omega)]
    omega
theorem bal_eq (hl0 : 0 ≤ len.toInt) (hl : len.toInt ≤ 590000) (ht1 : 1 ≤ thick.toInt) (ht2 : thick.toInt ≤ 1000) (hm : 0 ≤ most.toInt) (hb : br = if len < most then len else most) : ∀ (n k : Nat), n + k = 1001 → balL len thick br n k = (if mbF len thick most n k = 1001 then (-1) else nI (mbF len thick most n k)) := by
  intro n
  induction n with
  | zero => intro k hk; rw [balL, mbF, if_pos (by omega)]
  | succ n ih =>
    intro k hk
    rw [balL]
    by_cases ho : 0 ≤ len - (nI k).toInt64 * thick
    · rw [if_pos ho]
      have ho' : 0 ≤ (len - (nI k).toInt64 * thick).toInt := by
        rw [Int64.le_iff_toInt_le, Int64.toInt_zero] at ho
        exact ho
      have hf := fit_eq (by omega) hl0 hl ht1 ht2 hm hb ho'
      rw [mbF]
      by_cases hc : br * (nI (k + 1)).toInt64 < len - (nI k).toInt64 * thick
      · rw [if_pos hc, if_neg (fun h => hf.mp h hc), ih (k + 1) (by omega)]
      · rw [if_neg hc, if_pos (hf.mpr hc), if_neg (by omega)]
    · rw [if_neg ho]
      have ho' : (len - (nI k).toInt64 * thick).toInt < 0 := by
        rw [Int64.le_iff_toInt_le, Int64.toInt_zero] at ho
        omega
      rw [mbF_neg hl0 hl ht1 ht2 (n + 1) k (by omega) ho', if_pos (by omega)]
end BAL
