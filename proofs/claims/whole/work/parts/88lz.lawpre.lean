/-! rules and balusters: what class and reference find -/
theorem rules_all {mru mk mn mfc : Int32} {mtot mg mw mga mgb : Int64} {mpd mgp : Bool} {tl : Nat} {ft ty dr fw fr fb : Nat → Int32} (hT : txR tl ft ty) (ht : tl ≤ 120) (to : Nat → Int32) :
    ((riL ft tl 8 0 0 0 (clrL 40 0 fw) fr fb).1 = true ∧ (mru3 ty mtot mru mpd mk mg mw mn mgp mga mgb mfc tl dr).1 = (riL ft tl 8 0 0 0 (clrL 40 0 fw) fr fb).2.2.1 ∧ ¬ 0 ≤ (mru3 ty mtot mru mpd mk mg mw mn mgp mga mgb mfc tl dr).2.2.1 ∧ (riL ft tl 8 0 0 0 (clrL 40 0 fw) fr fb).2.2.1 ≤ 8 ∧ rlR (riL ft tl 8 0 0 0 (clrL 40 0 fw) fr fb).2.2.1 (riL ft tl 8 0 0 0 (clrL 40 0 fw) fr fb).2.2.2.1 (riL ft tl 8 0 0 0 (clrL 40 0 fw) fr fb).2.2.2.2.1 (riL ft tl 8 0 0 0 (clrL 40 0 fw) fr fb).2.2.2.2.2 (cp7 (mru3 ty mtot mru mpd mk mg mw mn mgp mga mgb mfc tl dr).2.2.2 (7 * (riL ft tl 8 0 0 0 (clrL 40 0 fw) fr fb).2.2.1) 0 to)) ∨
    ((riL ft tl 8 0 0 0 (clrL 40 0 fw) fr fb).1 = false ∧ (mru3 ty mtot mru mpd mk mg mw mn mgp mga mgb mfc tl dr).2.2.1 = nI (riL ft tl 8 0 0 0 (clrL 40 0 fw) fr fb).2.1 ∧ 0 ≤ (mru3 ty mtot mru mpd mk mg mw mn mgp mga mgb mfc tl dr).2.2.1) := by
  have h := rules_eq (fl := -1) (mru := mru) (mk := mk) (mn := mn) (mfc := mfc) (mtot := mtot) (mg := mg) (mw := mw) (mga := mga) (mgb := mgb) (mpd := mpd) (mgp := mgp) hT ht (by decide) 7 0 0 dr (clrL 40 0 fw) fr fb rfl (by decide) (fun j hj => absurd hj (Nat.not_lt_zero _)) (fun x _ h4 => by rw [clr_at 40 0 fw x (by decide), if_pos ⟨Nat.zero_le _, by omega⟩])
  simp only [Nat.zero_add, Nat.reduceAdd, show nI 0 = 0 from rfl] at h
  unfold mru3
  generalize (mrl ty mtot mru mpd mk mg mw mn mgp mga mgb mfc tl 8 1 (rr3 ty dr 0 mtot (-1) mru mpd mk mg mw mn mgp mga mgb mfc tl 0 0).1 (rr3 ty dr 0 mtot (-1) mru mpd mk mg mw mn mgp mga mgb mfc tl 0 0).2.1 (rr3 ty dr 0 mtot (-1) mru mpd mk mg mw mn mgp mga mgb mfc tl 0 0).2.2) = M at h ⊢
  generalize (riL ft tl 8 0 0 0 (clrL 40 0 fw) fr fb) = R at h ⊢
  rcases h with ⟨h1, h2, h3, h4, h5⟩ | h
  · refine Or.inl ⟨h1, h2, h3, h4, fun k hk => ?_⟩
    obtain ⟨g1, g2, g3⟩ := h5 k hk
    have hc : ∀ x : Nat, x < 7 * R.2.2.1 → cp7 M.2.2.2 (7 * R.2.2.1) 0 to x = M.2.2.2 x := fun x hx => by rw [cp7_at (7 * R.2.2.1) 0 to x (by omega), if_pos ⟨Nat.zero_le _, by omega⟩]
    exact ⟨fun i hi => by rw [hc _ (by omega)]; exact g1 i hi, by rw [hc _ (by omega)]; exact g2, by rw [hc _ (by omega)]; exact g3⟩
  · exact Or.inr h
theorem bal_all {kind rises cf ct mn : Int32} {tot total going width gn ge mg : Int64} {pd gd : Bool} (thick most : Int64) (hx9 : xP_balusters tot pd gd kind rises total going width cf ct gn ge thick most = 0) (hr : ∃ j : Nat, 1 ≤ j ∧ j ≤ 60 ∧ rises = nI j) (hp : pd = true → mn = rises ∧ mg = going ∧ 1 ≤ going.toInt ∧ going.toInt ≤ 10000) :
    (mbF ((mn.toInt64 - 1) * mg) thick most 1001 0 = 1001 ∧ fP_balusters tot pd gd kind rises total going width cf ct gn ge thick most = -1 ∧ fP_balusters_c0f9 tot pd gd kind rises total going width cf ct gn ge thick most = false ∧ fP_balusters_c2f0 tot pd gd kind rises total going width cf ct gn ge thick most = gn ∧ fP_balusters_c2f1 tot pd gd kind rises total going width cf ct gn ge thick most = ge) ∨
    (∃ k : Nat, k ≤ 1000 ∧ mbF ((mn.toInt64 - 1) * mg) thick most 1001 0 = k ∧ fP_balusters tot pd gd kind rises total going width cf ct gn ge thick most = nI k ∧ fP_balusters_c0f9 tot pd gd kind rises total going width cf ct gn ge thick most = true ∧ fP_balusters_c2f0 tot pd gd kind rises total going width cf ct gn ge thick most = (((mn.toInt64 - 1) * mg) - (nI k).toInt64 * thick) / (fM_common 100 (((mn.toInt64 - 1) * mg) - (nI k).toInt64 * thick) ((nI k).toInt64 + 1)) ∧ fP_balusters_c2f1 tot pd gd kind rises total going width cf ct gn ge thick most = ((nI k).toInt64 + 1) / (fM_common 100 (((mn.toInt64 - 1) * mg) - (nI k).toInt64 * thick) ((nI k).toInt64 + 1)) ∧ gcdD 100 (((mn.toInt64 - 1) * mg) - (nI k).toInt64 * thick) ((nI k).toInt64 + 1) ∧ ¬ (fM_common 100 (((mn.toInt64 - 1) * mg) - (nI k).toInt64 * thick) ((nI k).toInt64 + 1)) = 0) := by
  obtain ⟨hpd, t1, t2, m0⟩ := bal_in thick most hx9
  obtain ⟨j, j1, j6, rfl⟩ := hr
  obtain ⟨e1, e2, g0, g1⟩ := hp hpd
  subst e1 e2
  obtain ⟨a0, a1⟩ := along_bd (kind := kind) (total := total) (width := width) (cf := cf) (ct := ct) j1 j6 g0 g1
  have ha : ((nI j).toInt64 - 1) * mg = fA_along kind (nI j) total mg width cf ct := by unfold fA_along fA_treads; rw [along_eq j1 j6]
  have c1 : ¬ thick < 1 := fun h => by
    rw [Int64.lt_iff_toInt_lt, Int64.toInt_one] at h
    omega
  have c2 : thick ≤ 1000 := Int64.le_iff_toInt_le.mpr t2
  have c3 : 0 ≤ most := Int64.le_iff_toInt_le.mpr m0
  have hP : xP_requirePlan tot pd gd = 0 := by rw [hpd]; rfl
  rw [ha]
  unfold fP_balusters fP_balusters_c0f9 fP_balusters_c2f0 fP_balusters_c2f1
  simp only [if_pos hP, if_neg c1, if_pos c2, if_pos c3]
  rcases ag_few a0 a1 t1 t2 m0 gn ge with ⟨h1, h2⟩ | ⟨k, hk, h1, h2, h3, h4, h5, h6, h7⟩
  · rw [h2, if_pos rfl, if_pos rfl, if_pos rfl, if_pos rfl]
    exact Or.inl ⟨h1, rfl, rfl, rfl, rfl⟩
  · rw [h2, if_neg h3, if_neg h3, if_neg h3, if_neg h3]
    exact Or.inr ⟨k, hk, h1, rfl, rfl, h4, h5, h6, h7⟩
