/-! winders, area, meets, head room, heights, floor, run, balusters: who refuses what, and the answers -/
theorem nofB {b : Bool} (h : b = false) : ¬ b = true := fun e => by rw [h] at e; cases e
theorem nofN {n : Nat} (h : n = 1) : ¬ n = 0 := fun e => by rw [h] at e; cases e
theorem uni_ok : ∀ n : Nat, n < 127 → vp_nar .char (((nI n).toUInt32 % 65536).toInt32) = nI n ∧ narrow .char (.int (nI n)) = .int (nI n) := by decide +kernel
section AH
variable {mcode msz mat mfl mru mk mn mfc kind rises cf ct : Int32} {tot total going width mg mw mga mgb rn rd gn ge : Int64} {pd gd mgp : Bool}
theorem rw_eq (hp : pd = true → mk = kind) : (xP_requireWinders tot pd gd kind rises total going width cf ct = 0 ∧ fM_noWinders mcode tot msz mat mfl mru pd mk mg mw mn mgp mga mgb mfc = false ∧ pd = true ∧ kind = 2) ∨ (xP_requireWinders tot pd gd kind rises total going width cf ct = 1 ∧ fM_noWinders mcode tot msz mat mfl mru pd mk mg mw mn mgp mga mgb mfc = true ∧ fM_noWinders_c0f0 mcode tot msz mat mfl mru pd mk mg mw mn mgp mga mgb mfc = 1) := by
  unfold xP_requireWinders fM_noWinders fM_noWinders_c0f0 fA_winders
  cases pd with
  | false => exact Or.inr ⟨rfl, rfl, rfl⟩
  | true =>
    rw [hp rfl, if_pos rp_t, if_pos rfl, if_pos rfl]
    by_cases h : kind = 2
    · rw [if_pos h, if_pos h, if_neg (by decide)]; exact Or.inl ⟨rfl, rfl, rfl, h⟩
    · rw [if_neg h, if_neg h, if_neg h, if_pos rfl]; exact Or.inr ⟨rfl, rfl, rfl⟩
theorem ag_area_c (wi : Int32) (hp : pd = true → mk = kind) : fM_area_c0f0 mcode tot msz mat mfl mru pd mk mg mw mn mgp mga mgb mfc wi = nI (xP_area tot pd gd kind rises total going width cf ct wi) := by
  have hi := idx_eq (x := wi) (cn := 3) (hi := 2) (n := 3) rfl rfl
  unfold fM_area_c0f0 xP_area
  rcases rw_eq (mcode := mcode) (msz := msz) (mat := mat) (mfl := mfl) (mru := mru) (mn := mn) (mfc := mfc) (rises := rises) (cf := cf) (ct := ct) (tot := tot) (total := total) (going := going) (width := width) (mg := mg) (mw := mw) (mga := mga) (mgb := mgb) (gd := gd) (mgp := mgp) hp with ⟨a, b, -, -⟩ | ⟨a, b, c⟩
  · rw [if_pos a, if_neg (nofB b)]
    by_cases h : xP_requireIndex wi 3 = 0
    · rw [if_pos h, if_pos (Eq.mpr hi h)]; rfl
    · rw [if_neg h, if_neg (fun x => h (Eq.mp hi x))]; rfl
  · rw [if_neg (nofN a), if_pos b, c]; rfl
theorem ag_area (wi : Int32) (h0 : xP_area tot pd gd kind rises total going width cf ct wi = 0) (hp : pd = true → mk = kind ∧ mw = width) : fP_area tot pd gd kind rises total going width cf ct wi = fM_area mcode tot msz mat mfl mru pd mk mg mw mn mgp mga mgb mfc wi := by
  have hi := idx_eq (x := wi) (cn := 3) (hi := 2) (n := 3) rfl rfl
  unfold xP_area at h0
  unfold fM_area fP_area fA_area
  rcases rw_eq (mcode := mcode) (msz := msz) (mat := mat) (mfl := mfl) (mru := mru) (mn := mn) (mfc := mfc) (rises := rises) (cf := cf) (ct := ct) (tot := tot) (total := total) (going := going) (width := width) (mg := mg) (mw := mw) (mga := mga) (mgb := mgb) (gd := gd) (mgp := mgp) (fun h => (hp h).1) with ⟨a, b, c, -⟩ | ⟨a, b, c⟩
  · rw [if_pos a] at h0 ⊢
    rw [if_neg (nofB b), (hp c).2]
    by_cases h : xP_requireIndex wi 3 = 0
    · rw [if_pos h, if_pos (Eq.mpr hi h)]
    · rw [if_neg h] at h0; cases h0
  · rw [if_neg (nofN a)] at h0; cases h0
theorem ag_winder_c (edge axis : Int32) (hp : pd = true → mk = kind) : fM_winder_c0f0 mcode tot msz mat mfl mru pd mk mg mw mn mgp mga mgb mfc edge axis = nI (xP_winder tot pd gd kind rises total going width cf ct edge axis) := by
  have hi := idx_eq (x := edge) (cn := 4) (hi := 3) (n := 4) rfl rfl
  have hj := idx_eq (x := axis) (cn := 2) (hi := 1) (n := 2) rfl rfl
  unfold fM_winder_c0f0 xP_winder
  simp only [ite_self]
  rcases rw_eq (mcode := mcode) (msz := msz) (mat := mat) (mfl := mfl) (mru := mru) (mn := mn) (mfc := mfc) (rises := rises) (cf := cf) (ct := ct) (tot := tot) (total := total) (going := going) (width := width) (mg := mg) (mw := mw) (mga := mga) (mgb := mgb) (gd := gd) (mgp := mgp) hp with ⟨a, b, -, -⟩ | ⟨a, b, c⟩
  · rw [if_pos a, if_neg (nofB b)]
    by_cases h : xP_requireIndex edge 4 = 0
    · rw [if_pos h, if_pos (Eq.mpr hi h)]
      by_cases g : xP_requireIndex axis 2 = 0
      · rw [if_pos g, if_pos (Eq.mpr hj g)]; rfl
      · rw [if_neg g, if_neg (fun x => g (Eq.mp hj x))]; rfl
    · rw [if_neg h, if_neg (fun x => h (Eq.mp hi x))]; rfl
  · rw [if_neg (nofN a), if_pos b, c]; rfl
theorem two_wide : ∀ i : Nat, i < 4 → (2 * nI i).toInt64 = 2 * (nI i).toInt64 ∧ (2 * (nI i).toInt64).toInt = 2 * (i : Int) := by decide +kernel
theorem idx_nat {x cn : Int32} {n : Nat} (hc : cn.toInt = (n : Int)) (h : xP_requireIndex x cn = 0) : ∃ i : Nat, i < n ∧ x = nI i := by
  unfold xP_requireIndex at h
  by_cases a : x < 0
  · rw [if_pos a] at h; cases h
  · rw [if_neg a] at h
    by_cases b : x < cn
    · have a' := Int32.not_lt.mp a
      rw [Int32.le_iff_toInt_le, Int32.toInt_zero] at a'
      rw [Int32.lt_iff_toInt_lt, hc] at b
      have hx := Int32.toInt_lt x
      refine ⟨x.toInt.toNat, by omega, ?_⟩
      apply Int32.toInt_inj.mp
      rw [nI_toInt (by omega)]
      omega
    · rw [if_neg b] at h; cases h
theorem ag_winder (edge axis : Int32) (h0 : xP_winder tot pd gd kind rises total going width cf ct edge axis = 0) (hr : ∃ j : Nat, 1 ≤ j ∧ j ≤ 60 ∧ rises = nI j) (hp : pd = true → mk = kind ∧ mn = rises ∧ mg = going ∧ mw = width ∧ cf = dcf kind rises ∧ 1 ≤ width.toInt ∧ width.toInt ≤ 10000) : fP_winder tot pd gd kind rises total going width cf ct edge axis = fM_winder mcode tot msz mat mfl mru pd mk mg mw mn mgp mga mgb mfc edge axis := by
  obtain ⟨j, hj1, hj6, rfl⟩ := hr
  have hi := idx_eq (x := edge) (cn := 4) (hi := 3) (n := 4) rfl rfl
  have hj := idx_eq (x := axis) (cn := 2) (hi := 1) (n := 2) rfl rfl
  unfold xP_winder at h0
  unfold fM_winder fP_winder
  simp only [ite_self] at h0
  rcases rw_eq (mcode := mcode) (msz := msz) (mat := mat) (mfl := mfl) (mru := mru) (mn := mn) (mfc := mfc) (rises := nI j) (cf := cf) (ct := ct) (tot := tot) (total := total) (going := going) (width := width) (mg := mg) (mw := mw) (mga := mga) (mgb := mgb) (gd := gd) (mgp := mgp) (fun h => (hp h).1) with ⟨a, b, c, k2⟩ | ⟨a, b, c⟩
  · obtain ⟨e1, e2, e3, e4, e5, w1, w2⟩ := hp c
    subst e1 e2 e3 e4 e5 k2
    rw [if_pos a] at h0 ⊢
    rw [if_neg (nofB b)]
    by_cases h : xP_requireIndex edge 4 = 0
    · rw [if_pos h] at h0 ⊢
      rw [if_pos (Eq.mpr hi h)]
      by_cases g : xP_requireIndex axis 2 = 0
      · rw [if_pos g, if_pos (Eq.mpr hj g)]
        obtain ⟨i, hi4, rfl⟩ := idx_nat (n := 4) rfl h
        obtain ⟨t1, t2⟩ := two_wide i hi4
        have hb := (bef_eq (mcode := 0) (msz := msz) (mat := mat) (mfl := mfl) (mru := mru) (mfc := mfc) (tot := tot) (going := mg) (width := mw) (mga := mga) (mgb := mgb) (mpd := pd) (mgp := mgp) (kind := 2) (j := j) (Or.inr rfl)).1
        have hm : (2 * (nI i).toInt64 * mw).toInt = 2 * (i : Int) * mw.toInt := by
          have q0 : 0 ≤ 2 * (i : Int) * mw.toInt := Int.mul_nonneg (by omega) (by omega)
          have q1 : 2 * (i : Int) * mw.toInt ≤ 6 * 10000 := Int.mul_le_mul (by omega) w2 (by omega) (by omega)
          rw [i64_mul (by rw [t2]; omega) (by rw [t2]; omega), t2]
        have h3 : (3 * mw).toInt = 3 * mw.toInt := by
          rw [Int64.toInt_mul]
          exact bm64 (by show _ ≤ 3 * mw.toInt; omega) (by show 3 * mw.toInt < _; omega)
        have q0 : 0 ≤ 2 * (i : Int) * mw.toInt := Int.mul_nonneg (by omega) (by omega)
        have q1 : 2 * (i : Int) * mw.toInt ≤ 6 * 10000 := Int.mul_le_mul (by omega) w2 (by omega) (by omega)
        have hd : (2 * (nI i).toInt64 * mw - 3 * mw).toInt = 2 * (i : Int) * mw.toInt - 3 * mw.toInt := by
          rw [i64_sub (by rw [hm, h3]; omega) (by rw [hm, h3]; omega), hm, h3]
        have cmp : (0 < 2 * (nI i).toInt64 * mw - 3 * mw) = ¬ (2 * (nI i).toInt64 * mw ≤ 3 * mw) := propext (by rw [Int64.lt_iff_toInt_lt, Int64.le_iff_toInt_le, hd, hm, h3, Int64.toInt_zero]; omega)
        have cm2 : (3 * mw < 2 * (nI i).toInt64 * mw) = ¬ (2 * (nI i).toInt64 * mw ≤ 3 * mw) := propext (by rw [Int64.lt_iff_toInt_lt, Int64.le_iff_toInt_le]; omega)
        unfold fA_edgeX fA_edgeY fA_cornerX
        rw [hb, t1, Int64.mul_assoc 3]
        obtain ⟨ax, hax, rfl⟩ := idx_nat (n := 2) rfl g
        by_cases z : 2 * (nI i).toInt64 * mw ≤ 3 * mw
        · rw [if_neg (fun x => (Eq.mp cmp x) z), if_neg (fun x => (Eq.mp cm2 x) z), if_pos z, if_pos z]
          rcases (show ax = 0 ∨ ax = 1 by omega) with rfl | rfl
          · rfl
          · rfl
        · rw [if_pos (Eq.mpr cmp z), if_pos (Eq.mpr cm2 z), if_neg z, if_neg z]
          rcases (show ax = 0 ∨ ax = 1 by omega) with rfl | rfl
          · rfl
          · rfl
      · rw [if_neg g] at h0; cases h0
    · rw [if_neg h] at h0; cases h0
  · rw [if_neg (nofN a)] at h0; cases h0
theorem ag_meets_c {rc : Nat} {fw fr fb to : Nat → Int32} (hrc : rc ≤ 8) (rule : Int32) : fM_meets_c0f0 to mcode tot msz mat mfl pd mk mg mw mn mgp mga mgb mfc rc rule = nI (xP_meets tot pd gd fw fr fb (nI rc) kind rises total going width cf ct rule) := by
  have hi := idx_eq (x := rule) (cn := nI rc) (hi := (nI rc - 1).toInt64) (n := rc) (by rw [Int32.toInt_toInt64]; exact pk_sub_toInt (b := 1) (by omega) (by decide)) (nI_toInt (by omega))
  unfold fM_meets_c0f0 xP_meets
  rw [ite_self]
  cases pd with
  | false => rw [if_pos no_f, if_neg rpn_f, noc_f]; rfl
  | true =>
    rw [if_neg nn_t, if_pos rp_t]
    by_cases h : xP_requireIndex rule (nI rc) = 0
    · rw [if_pos h, if_pos (Eq.mpr hi h)]; rfl
    · rw [if_neg h, if_neg (fun x => h (Eq.mp hi x))]; rfl
theorem ag_meets {rc : Nat} {fw fr fb to : Nat → Int32} (hR : rlR rc fw fr fb to) (hrc : rc ≤ 8) (rule : Int32) (h0 : xP_meets tot pd gd fw fr fb (nI rc) kind rises total going width cf ct rule = 0) (hr : ∃ j : Nat, 1 ≤ j ∧ j ≤ 60 ∧ rises = nI j) (hp : pd = true → mn = rises ∧ total = tot ∧ mg = going ∧ mw = width) :
    fP_meets tot pd gd fw fr fb (nI rc) kind rises total going width cf ct rule = fM_meets to mcode tot msz mat mfl pd mk mg mw mn mgp mga mgb mfc rc rule := by
  obtain ⟨j, hj1, hj6, rfl⟩ := hr
  have hi := idx_eq (x := rule) (cn := nI rc) (hi := (nI rc - 1).toInt64) (n := rc) (by rw [Int32.toInt_toInt64]; exact pk_sub_toInt (b := 1) (by omega) (by decide)) (nI_toInt (by omega))
  unfold xP_meets at h0
  unfold fM_meets fP_meets
  cases pd with
  | false => rw [if_neg rpn_f] at h0; cases h0
  | true =>
    obtain ⟨e1, e2, e3, e4⟩ := hp rfl
    subst e1 e2 e3 e4
    rw [if_neg nn_t, if_pos rp_t]
    rw [if_pos rp_t] at h0
    by_cases h : xP_requireIndex rule (nI rc) = 0
    · rw [if_pos h, if_pos (Eq.mpr hi h)]
      obtain ⟨k, hk, rfl⟩ := idx_nat (n := rc) (nI_toInt (by omega)) h
      rw [← holds_eq (mcode := 0) (msz := msz) (mat := mat) (mfl := mfl) (mru := nI rc) (mfc := mfc) (kind := kind) (mk := mk) (mn := nI j) (mg := mg) (mw := mw) (mga := mga) (mgb := mgb) (mpd := true) (mgp := mgp) hR hrc hk hj6 cf ct mg mw]
      cases fM_holds to 0 total msz mat mfl (nI rc) true mk mg mw (nI j) mgp mga mgb mfc (nI k) mg mw (nI j) <;> rfl
    · rw [if_neg h] at h0; cases h0
theorem ag_head_c {x0 y0 x1 y1 hh : Nat → Int64} {fc tr : Nat} : fM_none_c0f0 mcode tot msz mat mfl mru pd mk mg mw mn mgp mga mgb mfc = nI (xP_headRoom tot pd gd x0 y0 x1 y1 hh fc kind rises total going width cf ct tr) := by
  cases pd <;> rfl
theorem ag_heights_c (v : Int64) : fM_heights_c0f0 mcode tot msz mat mfl mru pd mk mg mw mn mgp mga mgb mfc v = nI (xP_heights tot pd gd v) := by
  unfold fM_heights_c0f0 xP_heights fM_isIn
  rw [ite_self, ite_self]
  by_cases a : v < 1
  · rw [if_pos a, if_pos a, if_neg (by decide)]; rfl
  · rw [if_neg a, if_neg a]
    by_cases b : v ≤ 100000
    · rw [if_pos b, if_neg (Int64.not_lt.mpr b), if_pos rfl]; rfl
    · rw [if_neg b, if_pos (Int64.not_le.mp b), if_neg (by decide)]; rfl
theorem ag_heights (v : Int64) : (fP_heights tot pd gd v = false ∧ fP_heights_c0f7 tot pd gd v = tot ∧ fP_heights_c0f8 tot pd gd v = pd ∧ fP_heights_c0f9 tot pd gd v = gd ∧ fM_heights mcode tot msz mat mfl mru pd mk mg mw mn mgp mga mgb mfc v = false ∧ fM_heights_c0f1 mcode tot msz mat mfl mru pd mk mg mw mn mgp mga mgb mfc v = tot ∧ fM_heights_c0f9 mcode tot msz mat mfl mru pd mk mg mw mn mgp mga mgb mfc v = pd) ∨
    (fP_heights tot pd gd v = true ∧ fP_heights_c0f7 tot pd gd v = v ∧ fP_heights_c0f8 tot pd gd v = false ∧ fP_heights_c0f9 tot pd gd v = false ∧ fM_heights mcode tot msz mat mfl mru pd mk mg mw mn mgp mga mgb mfc v = true ∧ fM_heights_c0f1 mcode tot msz mat mfl mru pd mk mg mw mn mgp mga mgb mfc v = v ∧ fM_heights_c0f9 mcode tot msz mat mfl mru pd mk mg mw mn mgp mga mgb mfc v = false ∧ 1 ≤ v.toInt ∧ v.toInt ≤ 100000) := by
  by_cases a : v < 1
  · have i : fM_isIn v 1 100000 = false := by unfold fM_isIn; rw [if_pos a]
    exact Or.inl ⟨by unfold fP_heights; rw [if_pos a], by unfold fP_heights_c0f7; rw [if_pos a], by unfold fP_heights_c0f8; rw [if_pos a], by unfold fP_heights_c0f9; rw [if_pos a], by unfold fM_heights; rw [if_neg (nofB i)], by unfold fM_heights_c0f1; rw [if_neg (nofB i)], by unfold fM_heights_c0f9; rw [if_neg (nofB i)]⟩
  · by_cases b : v ≤ 100000
    · have i : fM_isIn v 1 100000 = true := by unfold fM_isIn; rw [if_neg a, if_neg (Int64.not_lt.mpr b)]
      by_cases c : v = tot
      · exact Or.inl ⟨by unfold fP_heights; rw [if_neg a, if_pos b, if_pos c], by unfold fP_heights_c0f7; rw [if_neg a, if_pos b, if_pos c], by unfold fP_heights_c0f8; rw [if_neg a, if_pos b, if_pos c], by unfold fP_heights_c0f9; rw [if_neg a, if_pos b, if_pos c], by unfold fM_heights; rw [if_pos i, if_pos c], by unfold fM_heights_c0f1; rw [if_pos i, if_pos c], by unfold fM_heights_c0f9; rw [if_pos i, if_pos c]⟩
      · exact Or.inr ⟨by unfold fP_heights; rw [if_neg a, if_pos b, if_neg c], by unfold fP_heights_c0f7; rw [if_neg a, if_pos b, if_neg c], by unfold fP_heights_c0f8; rw [if_neg a, if_pos b, if_neg c], by unfold fP_heights_c0f9; rw [if_neg a, if_pos b, if_neg c], by unfold fM_heights; rw [if_pos i, if_neg c], by unfold fM_heights_c0f1; rw [if_pos i, if_neg c], by unfold fM_heights_c0f9; rw [if_pos i, if_neg c], by have h := Int64.not_lt.mp a; rw [Int64.le_iff_toInt_le, Int64.toInt_one] at h; exact h, by rw [Int64.le_iff_toInt_le] at b; exact b⟩
    · have i : fM_isIn v 1 100000 = false := by unfold fM_isIn; rw [if_neg a, if_pos (Int64.not_le.mp b)]
      exact Or.inl ⟨by unfold fP_heights; rw [if_neg a, if_neg b], by unfold fP_heights_c0f7; rw [if_neg a, if_neg b], by unfold fP_heights_c0f8; rw [if_neg a, if_neg b], by unfold fP_heights_c0f9; rw [if_neg a, if_neg b], by unfold fM_heights; rw [if_neg (nofB i)], by unfold fM_heights_c0f1; rw [if_neg (nofB i)], by unfold fM_heights_c0f9; rw [if_neg (nofB i)]⟩
theorem ag_head {cd : Int32} {x0 y0 x1 y1 hh bx : Nat → Int64} {fc tr j : Nat} (hB : bxR fc x0 y0 x1 y1 hh bx) (hfc : fc ≤ 8) (hkd : kind = 0 ∨ kind = 1 ∨ kind = 2) (hj : j ≤ 60) (htr : tr + 1 = j) : fP_headRoom tot true gd x0 y0 x1 y1 hh fc kind (nI j) tot going width (dcf kind (nI j)) (dct kind (nI j)) tr = mhO cd bx tot msz mat mfl mru true kind going width (nI j) mgp mga mgb fc tr fc 0 9223372036854775807 := by
  unfold fP_headRoom fF_least
  rw [if_pos rp_t]
  exact (lrO_eq hB hfc hkd hj htr fc 0 _ rfl).symm
theorem ag_heights1 (v : Int64) (h : xP_heights tot pd gd v = 1) : fM_heights_c0f1 mcode tot msz mat mfl mru pd mk mg mw mn mgp mga mgb mfc v = tot ∧ fM_heights_c0f9 mcode tot msz mat mfl mru pd mk mg mw mn mgp mga mgb mfc v = pd := by
  unfold xP_heights at h
  have i : fM_isIn v 1 100000 = false := by
    unfold fM_isIn
    by_cases a : v < 1
    · rw [if_pos a]
    · rw [if_neg a, ite_self] at h
      by_cases b : v ≤ 100000
      · rw [if_pos b] at h; cases h
      · rw [if_neg a, if_pos (Int64.not_le.mp b)]
  exact ⟨by unfold fM_heights_c0f1; rw [if_neg (nofB i)], by unfold fM_heights_c0f9; rw [if_neg (nofB i)]⟩
theorem ag_unit {ft ty : Nat → Int32} {tl : Nat} {pl u : Int32} (ht : tl ≤ 120) (hT : txR tl ft ty) (hc : tch ft) : fP_unit tot pd gd ft tl pl u = fM_unit ty mcode tot mat mfl mru pd mk mg mw mn mgp mga mgb mfc tl u ∧ fM_unit_c0f3 ty mcode tot mat mfl mru pd mk mg mw mn mgp mga mgb mfc tl u = fT_append_c0f1 ft tl pl u ∧ fT_append_c0f1 ft tl pl u ≤ 120 ∧ txR (fT_append_c0f1 ft tl pl u) (fT_append_a1 ft tl pl u) (fM_unit_a1 ty mcode tot mat mfl mru pd mk mg mw mn mgp mga mgb mfc tl u) ∧ tch (fT_append_a1 ft tl pl u) := by
  unfold fP_unit fT_append fM_unit fM_unit_c0f3 fT_append_c0f1 fT_append_a1 fM_unit_a1
  by_cases a : u < 33
  · simp only [if_pos a, ite_self]
    exact ⟨by first | rfl | trivial, by first | rfl | trivial, ht, hT, hc⟩
  · simp only [if_neg a]
    by_cases b : 126 < u
    · simp only [if_pos b, ite_self]
      exact ⟨by first | rfl | trivial, by first | rfl | trivial, ht, hT, hc⟩
    · simp only [if_neg b]
      by_cases f : tl = 120
      · have g : 120 ≤ nI tl := by rw [f]; exact Int32.le_refl _
        have g2 : ¬ nI tl < 120 := Int32.not_lt.mpr g
        simp only [if_pos g, if_neg g2]
        exact ⟨by first | rfl | trivial, by first | rfl | trivial, ht, hT, hc⟩
      · have lt : tl < 120 := by omega
        have g : ¬ 120 ≤ nI tl := nI_ge (b := 120) lt (by decide)
        have g2 : nI tl < 120 := nI_lt (b := 120) lt (by decide)
        simp only [if_neg g, if_pos g2, nClamp (show tl < 2147483648 by omega)]
        have ui : ∃ n : Nat, 33 ≤ n ∧ n ≤ 126 ∧ u = nI n := by
          have a' := Int32.not_lt.mp a
          have b' := Int32.not_lt.mp b
          rw [Int32.le_iff_toInt_le] at a' b'
          have a2 : (33 : Int) ≤ u.toInt := a'
          have b2 : u.toInt ≤ 126 := b'
          refine ⟨u.toInt.toNat, by omega, by omega, ?_⟩
          apply Int32.toInt_inj.mp
          rw [nI_toInt (by omega)]
          omega
        obtain ⟨n, n1, n2, rfl⟩ := ui
        have hn : vp_nar .char (((nI n).toUInt32 % 65536).toInt32) = nI n ∧ narrow .char (.int (nI n)) = .int (nI n) := uni_ok n (by omega)
        rw [hn.1]
        refine ⟨by first | rfl | trivial, by first | rfl | trivial, by omega, ?_, ?_⟩
        · intro p hp
          by_cases e : p = tl
          · subst e
            rw [upd_at, upd_at, nI_toInt (by omega)]
            exact ⟨rfl, by omega, by omega⟩
          · rw [upd_off _ _ e, upd_off _ _ e]
            exact hT p (by omega)
        · intro p
          by_cases e : p = tl
          · subst e; rw [upd_at]; exact hn.2
          · rw [upd_off _ _ e]; exact hc p
end AH
