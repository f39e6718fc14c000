/-! class and reference answer alike: the methods that read -/
theorem idx_eq {x cn : Int32} {hi : Int64} {n : Nat} (hh : hi.toInt = (n : Int) - 1) (hc : cn.toInt = (n : Int)) : (fM_isIn x.toInt64 0 hi = true) = (xP_requireIndex x cn = 0) := by
  have e1 : (x.toInt64 < 0) = (x < 0) := propext (by rw [Int64.lt_iff_toInt_lt, Int32.lt_iff_toInt_lt, Int32.toInt_toInt64, Int64.toInt_zero, Int32.toInt_zero])
  have e2 : (hi < x.toInt64) = ¬ (x < cn) := propext (by rw [Int64.lt_iff_toInt_lt, Int32.lt_iff_toInt_lt, Int32.toInt_toInt64, hh, hc]; omega)
  unfold fM_isIn xP_requireIndex
  by_cases a : x < 0
  · rw [if_pos (by rw [e1]; exact a), if_pos a]
    exact propext ⟨fun h => (by cases h), fun h => by cases h⟩
  · rw [if_neg (by rw [e1]; exact a), if_neg a]
    by_cases b : x < cn
    · rw [if_neg (by rw [e2]; exact fun h => h b), if_pos b]
      exact propext ⟨fun _ => rfl, fun _ => rfl⟩
    · rw [if_pos (by rw [e2]; exact b), if_neg b]
      exact propext ⟨fun h => (by cases h), fun h => by cases h⟩
theorem what_6 {w : Int32} (h : fM_isIn w.toInt64 0 5 = true) : w = 0 ∨ w = 1 ∨ w = 2 ∨ w = 3 ∨ w = 4 ∨ w = 5 := by
  rw [idx_eq (cn := 6) (n := 6) rfl rfl] at h
  unfold xP_requireIndex at h
  by_cases a : w < 0
  · rw [if_pos a] at h; cases h
  · rw [if_neg a] at h
    by_cases b : w < 6
    · have a' := Int32.not_lt.mp a
      rw [Int32.le_iff_toInt_le, Int32.toInt_zero] at a'
      rw [Int32.lt_iff_toInt_lt] at b
      have b' : w.toInt < 6 := b
      have e : ∀ n : Nat, n < 6 → w.toInt = (n : Int) → w = nI n := fun n hn hw => Int32.toInt_inj.mp (by rw [nI_toInt (by omega)]; exact hw)
      have hc : w.toInt = 0 ∨ w.toInt = 1 ∨ w.toInt = 2 ∨ w.toInt = 3 ∨ w.toInt = 4 ∨ w.toInt = 5 := by omega
      rcases hc with c | c | c | c | c | c
      · exact Or.inl (e 0 (by decide) c)
      · exact Or.inr (Or.inl (e 1 (by decide) c))
      · exact Or.inr (Or.inr (Or.inl (e 2 (by decide) c)))
      · exact Or.inr (Or.inr (Or.inr (Or.inl (e 3 (by decide) c))))
      · exact Or.inr (Or.inr (Or.inr (Or.inr (Or.inl (e 4 (by decide) c)))))
      · exact Or.inr (Or.inr (Or.inr (Or.inr (Or.inr (e 5 (by decide) c)))))
    · rw [if_neg b] at h; cases h
theorem what_no {w : Int32} (h : ¬ fM_isIn w.toInt64 0 5 = true) : ∀ n : Nat, n < 6 → ¬ w = nI n := by
  intro n hn e
  apply h
  rw [idx_eq (cn := 6) (n := 6) rfl rfl, e]
  unfold xP_requireIndex
  rw [if_neg (show ¬ nI n < 0 from nI_nlt (a := n) (b := 0) (by omega) (by omega)), if_pos (show nI n < 6 from nI_lt (b := 6) hn (by decide))]
section AG
variable {mcode msz mat mfl mru mk mn mfc kind rises cf ct : Int32} {tot total going width mg mw mga mgb rn rd gn ge : Int64} {pd gd mgp : Bool}
theorem rp_t : xP_requirePlan tot true gd = 0 := rfl
theorem rp_f : xP_requirePlan tot false gd = 1 := rfl
theorem no_t : fM_none mcode tot msz mat mfl mru true mk mg mw mn mgp mga mgb mfc = false := rfl
theorem no_f : fM_none mcode tot msz mat mfl mru false mk mg mw mn mgp mga mgb mfc = true := rfl
theorem nn_t : ¬ fM_none mcode tot msz mat mfl mru true mk mg mw mn mgp mga mgb mfc = true := by rw [no_t]; decide
theorem rpn_f : ¬ xP_requirePlan tot false gd = 0 := by rw [rp_f]; decide
theorem noc_f : fM_none_c0f0 mcode tot msz mat mfl mru false mk mg mw mn mgp mga mgb mfc = 1 := rfl
theorem noc_t : fM_none_c0f0 mcode tot msz mat mfl mru true mk mg mw mn mgp mga mgb mfc = 0 := rfl
theorem ag_rise_c (part : Int32) : fM_rise_c0f0 mcode tot msz mat mfl mru pd mk mg mw mn mgp mga mgb mfc 100 part = nI (xP_rise tot pd gd rn rd part) := by
  have hi := idx_eq (x := part) (cn := 2) (hi := 1) (n := 2) rfl rfl
  unfold fM_rise_c0f0 xP_rise
  cases pd with
  | false => rw [if_pos no_f, if_neg rpn_f, noc_f]; rfl
  | true =>
    rw [if_neg nn_t, if_pos rp_t, ite_self, ite_self]
    by_cases h : xP_requireIndex part 2 = 0
    · rw [if_pos h, if_pos (Eq.mpr hi h)]; rfl
    · rw [if_neg h, if_neg (fun x => h (Eq.mp hi x))]; rfl
theorem ag_rise (part : Int32) (h0 : xP_rise tot pd gd rn rd part = 0) (hp : pd = true → rn = tot / gcdL 100 tot mn.toInt64 ∧ rd = mn.toInt64 / gcdL 100 tot mn.toInt64) : fP_rise tot pd gd rn rd part = fM_rise mcode tot msz mat mfl mru pd mk mg mw mn mgp mga mgb mfc 100 part := by
  have hi := idx_eq (x := part) (cn := 2) (hi := 1) (n := 2) rfl rfl
  unfold xP_rise at h0
  unfold fM_rise fP_rise fM_common
  cases pd with
  | false => rw [if_neg rpn_f] at h0; cases h0
  | true =>
    obtain ⟨e1, e2⟩ := hp rfl
    rw [if_pos rp_t, if_neg nn_t]
    rw [if_pos rp_t, ite_self] at h0
    by_cases h : xP_requireIndex part 2 = 0
    · rw [if_pos h, if_pos (Eq.mpr hi h), e1, e2]
    · rw [if_neg h] at h0; cases h0
theorem ag_gap_c (part : Int32) (hg : gd = (pd && mgp)) : fM_gap_c0f0 mcode tot msz mat mfl mru pd mk mg mw mn mgp mga mgb mfc part = nI (xP_gap tot pd gd gn ge part) := by
  have hi := idx_eq (x := part) (cn := 2) (hi := 1) (n := 2) rfl rfl
  subst hg
  unfold fM_gap_c0f0 xP_gap
  cases pd with
  | false => rfl
  | true =>
    cases mgp with
    | false => rfl
    | true =>
      rw [if_pos rfl, if_pos rfl, if_pos (show (true && true) = true from rfl), ite_self, ite_self]
      by_cases h : xP_requireIndex part 2 = 0
      · rw [if_pos h, if_pos (Eq.mpr hi h)]; rfl
      · rw [if_neg h, if_neg (fun x => h (Eq.mp hi x))]; rfl
theorem ag_gap (part : Int32) (h0 : xP_gap tot pd gd gn ge part = 0) (hg : gd = (pd && mgp)) (hp : gd = true → gn = mga ∧ ge = mgb) : fP_gap tot pd gd gn ge part = fM_gap mcode tot msz mat mfl mru pd mk mg mw mn mgp mga mgb mfc part := by
  have hi := idx_eq (x := part) (cn := 2) (hi := 1) (n := 2) rfl rfl
  subst hg
  unfold xP_gap at h0
  unfold fM_gap fP_gap
  cases pd with
  | false => cases h0
  | true =>
    cases mgp with
    | false => cases h0
    | true =>
      obtain ⟨e1, e2⟩ := hp rfl
      rw [if_pos (show (true && true) = true from rfl), if_pos rfl, if_pos rfl]
      rw [if_pos (show (true && true) = true from rfl), ite_self] at h0
      by_cases h : xP_requireIndex part 2 = 0
      · rw [if_pos h, if_pos (Eq.mpr hi h), e1, e2]
      · rw [if_neg h] at h0; cases h0
theorem ag_list_c (k : Int32) : fM_list_c0f0 mcode tot msz mat mfl mru pd mk mg mw mn mgp mga mgb mfc k = nI (xP_list tot pd gd kind rises total going width cf ct k) := by
  have hi := idx_eq (x := k) (cn := 4) (hi := 3) (n := 4) rfl rfl
  unfold fM_list_c0f0 xP_list
  cases pd with
  | false => rw [if_pos no_f, if_neg rpn_f, noc_f]; rfl
  | true =>
    rw [if_neg nn_t, if_pos rp_t]
    simp only [ite_self]
    by_cases h : xP_requireIndex k 4 = 0
    · rw [if_pos h, if_pos (Eq.mpr hi h)]; rfl
    · rw [if_neg h, if_neg (fun x => h (Eq.mp hi x))]; rfl
theorem ag_list (k : Int32) (h0 : xP_list tot pd gd kind rises total going width cf ct k = 0) (hp : pd = true → (kind = 0 ∨ kind = 1 ∨ kind = 2) ∧ mk = kind ∧ mn = rises) : fP_list tot pd gd kind rises total going width cf ct k = fM_list mcode tot msz mat mfl mru pd mk mg mw mn mgp mga mgb mfc k := by
  have hi := idx_eq (x := k) (cn := 4) (hi := 3) (n := 4) rfl rfl
  unfold xP_list at h0
  unfold fM_list fP_list
  cases pd with
  | false => rw [if_neg rpn_f] at h0; cases h0
  | true =>
    obtain ⟨hkd, e1, e2⟩ := hp rfl
    rw [if_pos rp_t, if_neg nn_t]
    rw [if_pos rp_t] at h0
    simp only [ite_self] at h0
    by_cases h : xP_requireIndex k 4 = 0
    · rw [if_pos h, if_pos (Eq.mpr hi h), e1, e2]
      unfold fA_treads fA_landings fA_winders fM_inSquare
      rcases hkd with rfl | rfl | rfl
      · simp only [k01, k02, eq_self, if_true, if_false, Int32.sub_zero]
      · simp only [k10, k12, eq_self, if_true, if_false, Int32.sub_zero]
      · simp only [k20, k21, eq_self, if_true, if_false, Int32.sub_zero]
    · rw [if_neg h] at h0; cases h0
theorem ag_step_c (k what : Int32) (hp : pd = true → mn = rises) : fM_step_c0f0 mcode tot msz mat mfl mru pd mk mg mw mn mgp mga mgb mfc k what = nI (xP_step tot pd gd kind rises total going width cf ct k what) := by
  unfold fM_step_c0f0 xP_step
  cases pd with
  | false => rw [if_pos no_f, if_neg rpn_f, noc_f]; rfl
  | true =>
    rw [if_neg nn_t, if_pos rp_t, hp rfl]
    unfold xP_requireIndex fA_treads
    by_cases a : k < 0
    · rw [if_pos a, if_pos a, if_neg (by decide)]; rfl
    · rw [if_neg a, if_neg a]
      by_cases b : k < rises - 1
      · rw [if_pos b, if_pos b, if_pos rfl]
        simp only [ite_self]
        by_cases w : fM_isIn what.toInt64 0 5 = true
        · rw [if_pos w]
          rcases what_6 w with h | h | h | h | h | h <;> rw [h] <;> rfl
        · rw [if_neg w]
          have nn := what_no w
          rw [if_neg (show ¬ what = 0 from nn 0 (by decide)), if_neg (show ¬ what = 1 from nn 1 (by decide)), if_neg (show ¬ what = 2 from nn 2 (by decide)), if_neg (show ¬ what = 3 from nn 3 (by decide)), if_neg (show ¬ what = 4 from nn 4 (by decide)), if_neg (show ¬ what = 5 from nn 5 (by decide))]; rfl
      · rw [if_neg b, if_neg b, if_neg (by decide)]; rfl
theorem ag_step (k what : Int32) (h0 : xP_step tot pd gd kind rises total going width cf ct k what = 0) (hr : ∃ j : Nat, 1 ≤ j ∧ j ≤ 60 ∧ rises = nI j) (hp : pd = true → (kind = 0 ∨ kind = 1 ∨ kind = 2) ∧ mk = kind ∧ mn = rises ∧ total = tot ∧ mg = going ∧ mw = width ∧ cf = dcf kind rises ∧ ct = dct kind rises) : fP_step tot pd gd kind rises total going width cf ct k what = fM_step mcode tot msz mat mfl mru pd mk mg mw mn mgp mga mgb mfc k what := by
  obtain ⟨j, hj1, hj, rfl⟩ := hr
  unfold xP_step at h0
  unfold fM_step fP_step
  cases pd with
  | false => rw [if_neg rpn_f] at h0; cases h0
  | true =>
    obtain ⟨hkd, e1, e2, e3, e4, e5, e6, e7⟩ := hp rfl
    subst e1 e2 e3 e4 e5 e6 e7
    rw [if_pos rp_t, if_neg nn_t]
    rw [if_pos rp_t] at h0
    unfold xP_requireIndex fA_treads at *
    by_cases a : k < 0
    · rw [if_pos a, if_neg (by decide)] at h0; cases h0
    · rw [if_neg a] at h0 ⊢
      rw [if_neg a]
      by_cases b : k < nI j - 1
      · rw [if_pos b, if_pos rfl] at h0
        rw [if_pos b, if_pos b, if_pos rfl]
        obtain ⟨kk, hkk, rfl⟩ : ∃ kk : Nat, kk + 1 < j ∧ k = nI kk := by
          have a' := Int32.not_lt.mp a
          rw [Int32.le_iff_toInt_le, Int32.toInt_zero] at a'
          rw [show (1 : Int32) = nI 1 from rfl, nI_sub hj1 (by omega), Int32.lt_iff_toInt_lt, nI_toInt (by omega)] at b
          refine ⟨k.toInt.toNat, by omega, ?_⟩
          apply Int32.toInt_inj.mp
          rw [nI_toInt (by omega)]
          omega
        by_cases w : fM_isIn what.toInt64 0 5 = true
        · rw [if_pos w]
          obtain ⟨s0, s1, s2, s3⟩ := side_eq (mcode := 0) (msz := msz) (mat := mat) (mfl := mfl) (mru := mru) (mfc := mfc) (tot := total) (going := mg) (width := mw) (mga := mga) (mgb := mgb) (mpd := true) (mgp := mgp) (kk := kk) total hkd hj hkk
          have s4 := sort_eq (mcode := 0) (msz := msz) (mat := mat) (mfl := mfl) (mru := mru) (mfc := mfc) (tot := total) (going := mg) (width := mw) (mga := mga) (mgb := mgb) (mpd := true) (mgp := mgp) (kk := kk) total hkd hj hkk
          rcases what_6 w with h | h | h | h | h | h
          · rw [h]; exact s0.symm
          · rw [h]; exact s1.symm
          · rw [h]; exact s2.symm
          · rw [h]; exact s3.symm
          · rw [h, s4]; rfl
          · rw [h]; rfl
        · have nn := what_no w
          rw [if_neg (show ¬ what = 0 from nn 0 (by decide)), if_neg (show ¬ what = 1 from nn 1 (by decide)), if_neg (show ¬ what = 2 from nn 2 (by decide)), if_neg (show ¬ what = 3 from nn 3 (by decide)), if_neg (show ¬ what = 4 from nn 4 (by decide)), if_neg (show ¬ what = 5 from nn 5 (by decide))] at h0
          cases h0
      · rw [if_neg b, if_neg (by decide)] at h0; cases h0
theorem ag_string_c (end_ : Int32) : strC mcode tot msz mat mfl mru pd mk mg mw mn mgp mga mgb mfc end_ = nI (xP_string tot pd gd kind rises total going width cf ct end_) := by
  have hi := idx_eq (x := end_) (cn := 2) (hi := 1) (n := 2) rfl rfl
  unfold strC xP_string
  cases pd with
  | false => rw [if_pos no_f, if_neg rpn_f, noc_f]; rfl
  | true =>
    rw [if_neg nn_t, if_pos rp_t]
    simp only [ite_self]
    by_cases h : xP_requireIndex end_ 2 = 0
    · rw [if_pos h, if_pos (Eq.mpr hi h)]; rfl
    · rw [if_neg h, if_neg (fun x => h (Eq.mp hi x))]; rfl
theorem ag_string (end_ : Int32) (h0 : xP_string tot pd gd kind rises total going width cf ct end_ = 0) (hr : ∃ j : Nat, 1 ≤ j ∧ j ≤ 60 ∧ rises = nI j) (ht0 : 0 ≤ tot.toInt) (ht : tot.toInt ≤ 100000)
    (hp : pd = true → mn = rises ∧ total = tot ∧ mg = going ∧ 0 ≤ going.toInt ∧ going.toInt ≤ 10000) : fP_string tot pd gd kind rises total going width cf ct end_ = mStr tot mg mn end_ := by
  obtain ⟨j, hj1, hj, rfl⟩ := hr
  unfold xP_string at h0
  unfold mStr fP_string fA_whole
  cases pd with
  | false => rw [if_neg rpn_f] at h0; cases h0
  | true =>
    obtain ⟨e2, e3, e4, g0, g1⟩ := hp rfl
    subst e2 e3 e4
    rw [if_pos rp_t]
    rw [if_pos rp_t] at h0
    simp only [ite_self] at h0
    by_cases h : xP_requireIndex end_ 2 = 0
    · obtain ⟨c1, c2⟩ := cut_eq (kind := kind) (cf := cf) (ct := ct) (width := width) hj1 hj g0 g1 ht0 ht
      rw [if_pos h, c1, whole_eq, c2]
      by_cases a : end_ = 0
      · rw [if_pos a, if_pos a]
      · rw [if_neg a, if_neg a]
        by_cases b : mRt total mg (nI j) * mRt total mg (nI j) * (nI j).toInt64 * (nI j).toInt64 = mSq total mg (nI j)
        · rw [if_pos b, if_pos rfl, if_pos b]
        · rw [if_neg b, if_neg (by decide), if_neg b]
    · rw [if_neg h] at h0; cases h0
end AG
