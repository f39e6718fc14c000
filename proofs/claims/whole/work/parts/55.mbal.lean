def balC (mcode : Int32) (mtot : Int64) (msz : Int32) (mat : Int32) (mfl : Int32) (mru : Int32) (mpd : Bool) (mk : Int32) (mg : Int64) (mw : Int64) (mn : Int32) (mgp : Bool) (mga : Int64) (mgb : Int64) (mfc : Int32) (thick most : Int64) : Int32 := if fM_none mcode mtot msz mat mfl mru mpd mk mg mw mn mgp mga mgb mfc = true then fM_none_c0f0 mcode mtot msz mat mfl mru mpd mk mg mw mn mgp mga mgb mfc else (if fM_isIn thick 1 1000 = true then (if most < 0 then 2 else 0) else 2)
def mbFit (al thick most : Int64) (k : Nat) : Bool := if al - (nI k).toInt64 * thick < 0 then false else (if (al - (nI k).toInt64 * thick) - (al - (nI k).toInt64 * thick) / (nI (k + 1)).toInt64 * (nI (k + 1)).toInt64 = 0 then (if most < (al - (nI k).toInt64 * thick) / (nI (k + 1)).toInt64 then false else true) else (if most < (al - (nI k).toInt64 * thick) / (nI (k + 1)).toInt64 + 1 then false else true))
def mbF (al thick most : Int64) : Nat → Nat → Nat
  | 0, k => k
  | n + 1, k => if mbFit al thick most k = true then k else mbF al thick most n (k + 1)
theorem mbne {k : Nat} (h : k ≤ 1000) : ¬ (nI (k + 1)).toInt64 = 0 := by
  rw [nI_l (by omega)]
  intro h1
  have h2 := (lN_eq (a := k + 1) (b := 0) (by omega) (by decide)).mp h1
  omega


set_option maxHeartbeats 4000000 in
set_option maxRecDepth 100000 in
theorem c_M_balusters_err (l : Launch) (dC : Nat → ClassId) (dI : Nat → Nat → Nat) (m0 : Nat) (aTy : Nat) (aTo : Nat) (aDr : Nat) (aBx : Nat) (mcode : Int32) (mtot : Int64) (msz : Int32) (mat : Int32) (mfl : Int32) (mru : Int32) (mpd : Bool) (mk : Int32) (mg : Int64) (mw : Int64) (mn : Int32) (mgp : Bool) (mga : Int64) (mgb : Int64) (mfc : Int32) (thick : Int64) (most : Int64) (he : ¬ balC mcode mtot msz mat mfl mru mpd mk mg mw mn mgp mga mgb mfc thick most = 0) : Met l mM_balusters wM_balusters ({ frames := 1, cells := 0, slots := 0, locals := 25 }) (tp_W (dC, dI) vCl [.ref m0, .long thick, .long most] [(m0, .inr (6, [.int mcode, .long mtot, .ref aTy, .int msz, .int mat, .int mfl, .int mru, .ref aTo, .ref aDr, .int (bI mpd), .int mk, .long mg, .long mw, .int mn, .int (bI mgp), .long mga, .long mgb, .int mfc, .ref aBx]))] []) (tq_W (dC, dI) vCl (some (.int 0)) [(m0, .inr (6, [.int mcode, .long mtot, .ref aTy, .int msz, .int mat, .int mfl, .int mru, .ref aTo, .ref aDr, .int (bI mpd), .int mk, .long mg, .long mw, .int mn, .int (bI mgp), .long mga, .long mgb, .int mfc, .ref aBx]))] [(m0, .inr (6, [.int (balC mcode mtot msz mat mfl mru mpd mk mg mw mn mgp mga mgb mfc thick most), .long mtot, .ref aTy, .int msz, .int mat, .int mfl, .int mru, .ref aTo, .ref aDr, .int (bI mpd), .int mk, .long mg, .long mw, .int mn, .int (bI mgp), .long mga, .long mgb, .int mfc, .ref aBx]))]) 0 0 (tA [(m0, .inr (6, [.int mcode, .long mtot, .ref aTy, .int msz, .int mat, .int mfl, .int mru, .ref aTo, .ref aDr, .int (bI mpd), .int mk, .long mg, .long mw, .int mn, .int (bI mgp), .long mga, .long mgb, .int mfc, .ref aBx]))]) := by
  refine Met.ofW (cc := bM_balusters) (maxL := 13) (ret := (some .int)) (by decide) rfl ?_
  intro p e s m args below meth c s₁ B hml hv
  obtain ⟨rfl, hP, hK, hN, hD0⟩ := hv
  have hx := B.exec
  have hb := B.bytes
  have hr := B.returns
  have hts : ∀ w ∈ gT, w.before _ s = true := fun w h => atoms_spec (ws := wM_balusters) B.pre w (List.mem_cons_of_mem _ h)
  have hown : s.vm.findClass RM = some m.cls := findClass_of_methodNamed B.named
  have hlocks := B.notSynchronized
  have hD := tA_D hD0
  generalize hAe : tA [(m0, .inr (6, [.int mcode, .long mtot, .ref aTy, .int msz, .int mat, .int mfl, .int mru, .ref aTo, .ref aDr, .int (bI mpd), .int mk, .long mg, .long mw, .int mn, .int (bI mgp), .long mga, .long mgb, .int mfc, .ref aBx]))] = A at hD ⊢
  have hS : va_S A s.heap s.heap [] := va_S.rf
  have hP : va_P (dC, dI) vCl [(m0, .inr (6, [.int mcode, .long mtot, .ref aTy, .int msz, .int mat, .int mfl, .int mru, .ref aTo, .ref aDr, .int (bI mpd), .int mk, .long mg, .long mw, .int mn, .int (bI mgp), .long mga, .long mgb, .int mfc, .ref aBx]))] s.heap := hP
  have hl := lv_entry ([.ref m0, .long thick, .long most]) (n := 13) (Nat.le_of_ble_eq_true rfl)
  rw [lg_entry_eq]
  generalize (lg_sl ([.ref m0, .long thick, .long most]) ++ List.replicate (13 - (lg_sl ([.ref m0, .long thick, .long most])).length) Slot.unset).toArray = ls at hl ⊢
  have hl : lv_has ls 13 [(0, .ref m0), (1, .long thick), (3, .long most)] := hl
  refine lv_aload_n hx hb dM_balusters_0 rfl (lv_at hl 0 rfl) ?_
  refine tc_go (st1 := [.int (bI (fM_none mcode mtot msz mat mfl mru mpd mk mg mw mn mgp mga mgb mfc))]) (ws' := [(m0, .inr (6, [.int (fM_none_c0f0 mcode mtot msz mat mfl mru mpd mk mg mw mn mgp mga mgb mfc), .long mtot, .ref aTy, .int msz, .int mat, .int mfl, .int mru, .ref aTo, .ref aDr, .int (bI mpd), .int mk, .long mg, .long mw, .int mn, .int (bI mgp), .long mga, .long mgb, .int mfc, .ref aBx]))]) (va_runV (As := []) (rest := []) (C := RM) ⟨hx, hb, hml, hown, hts⟩ (c_M_none l dC dI m0 aTy aTo aDr aBx mcode mtot msz mat mfl mru mpd mk mg mw mn mgp mga mgb mfc) ⟨cB 0 hts gw_671 gw_7 gw_669 ndM_none rfl rfl ⟨Nat.le_of_ble_eq_true rfl, Nat.le_of_ble_eq_true rfl⟩, hts _ gw_670, hts _ gw_764⟩ (tp_Wv hN hK hP hD [0] [] rfl (by decide) rfl (q0 := 0) (ci := 6) rfl rfl) rfl rfl hl.1 rfl (lv_room (Nat.le_of_ble_eq_true rfl)) dM_balusters_1 ⟨Nat.le_of_ble_eq_true rfl, Nat.le_of_ble_eq_true rfl⟩) rfl hP hD hS [0] rfl rfl rfl (fun H locs hP hD hS => ?_)
  have hP : va_P (dC, dI) vCl [(m0, .inr (6, [.int (fM_none_c0f0 mcode mtot msz mat mfl mru mpd mk mg mw mn mgp mga mgb mfc), .long mtot, .ref aTy, .int msz, .int mat, .int mfl, .int mru, .ref aTo, .ref aDr, .int (bI mpd), .int mk, .long mg, .long mw, .int mn, .int (bI mgp), .long mga, .long mgb, .int mfc, .ref aBx]))] H := hP
  have hD : va_D A [(m0, .inr (6, [.int (fM_none_c0f0 mcode mtot msz mat mfl mru mpd mk mg mw mn mgp mga mgb mfc), .long mtot, .ref aTy, .int msz, .int mat, .int mfl, .int mru, .ref aTo, .ref aDr, .int (bI mpd), .int mk, .long mg, .long mw, .int mn, .int (bI mgp), .long mga, .long mgb, .int mfc, .ref aBx]))] := hD
  refine tb_ifeq (tgt := 9) hx hb dM_balusters_4 (by decide) (fun c_1 => ?_) (fun c_1 => ?_)
  · skip
    refine lv_aload_n hx hb dM_balusters_9 rfl (lv_at hl 0 rfl) ?_
    refine lv_lload_n hx hb dM_balusters_10 rfl (lv_at hl 1 rfl) ?_
    refine lv_lconst (v := 1) hx hb dM_balusters_11 (by decide) ?_
    refine lv_ldc2 (v := 1000) hx hb hown (hts _ gw_730) dM_balusters_12 ?_
    refine tr_go (st1 := [.int (bI (fM_isIn thick 1 1000)), .ref m0]) (va_runS (As := [.long thick, .long 1, .long 1000]) (rest := [.ref m0]) ⟨hx, hb, hml, hown, hts⟩ (c_M_isIn l dC dI thick 1 1000) ⟨cB 3 hts gw_623 gw_7 gw_621 ndM_isIn rfl rfl ⟨Nat.le_of_ble_eq_true rfl, Nat.le_of_ble_eq_true rfl⟩, hts _ gw_622⟩ (tp_Rs hN hK hP [] [] rfl rfl) rfl rfl hl.1 rfl (lv_room (Nat.le_of_ble_eq_true rfl)) dM_balusters_15 ⟨Nat.le_of_ble_eq_true rfl, Nat.le_of_ble_eq_true rfl⟩) rfl ?_
    refine tb_ifeq (tgt := 31) hx hb dM_balusters_18 (by decide) (fun c_2 => ?_) (fun c_2 => ?_)
    · skip
      refine lv_iconst (v := 2) hx hb dM_balusters_31 (by decide) ?_
      refine va_put (D := (dC, dI)) (ci := 6) (v := .int 2) (ty := .int) (C := RM) (T := TM) (N := 19) hx hb hts inM yM yoM noM hown hK hP hD hS 0 rfl rfl 0 (by decide) (hts _ gw_574) (fun _ h9 => h9) rfl (by decide +kernel) rfl rfl (Nat.le_of_ble_eq_true rfl) dM_balusters_32 (fun H locs hP hD hS => ?_)
      have hP : va_P (dC, dI) vCl [(m0, .inr (6, [.int 2, .long mtot, .ref aTy, .int msz, .int mat, .int mfl, .int mru, .ref aTo, .ref aDr, .int (bI mpd), .int mk, .long mg, .long mw, .int mn, .int (bI mgp), .long mga, .long mgb, .int mfc, .ref aBx]))] H := hP
      have hD : va_D A [(m0, .inr (6, [.int 2, .long mtot, .ref aTy, .int msz, .int mat, .int mfl, .int mru, .ref aTo, .ref aDr, .int (bI mpd), .int mk, .long mg, .long mw, .int mn, .int (bI mgp), .long mga, .long mgb, .int mfc, .ref aBx]))] := hD
      refine lv_aload_n hx hb dM_balusters_35 rfl (lv_at hl 0 rfl) ?_
      refine va_get (D := (dC, dI)) (ci := 6) (v := .int 2) (C := RM) (T := TM) (N := 19) hx hb hts inM hown hK hP 0 rfl rfl 0 (by decide) (hts _ gw_574) (fun _ h9 => h9) rfl dM_balusters_36 ?_
      refine lv_if_le (tgt := 44) hx hb dM_balusters_39 (by decide) (fun c_3 => absurd c_3 (by decide)) (fun c_3 => ?_)
      refine lv_iconst (v := 0) hx hb dM_balusters_42 (by decide) ?_
      exact W.iret (v := 0) hx hb hr (fun t ht hW => ⟨rfl, by rw [ht, show balC mcode mtot msz mat mfl mru mpd mk mg mw mn mgp mga mgb mfc thick most = 2 from by unfold balC; rw [if_neg (Bool.eq_false_iff.mp c_1), if_neg (Bool.eq_false_iff.mp c_2)]]; exact hP, by rw [hAe]; exact hS.F ht⟩) hS.2.2 dM_balusters_43
    · skip
      refine lv_lload_n hx hb dM_balusters_21 rfl (lv_at hl 2 rfl) ?_
      refine lv_lconst (v := 0) hx hb dM_balusters_22 (by decide) ?_
      refine tl_lt (tgt := 31) hx hb dM_balusters_23 dM_balusters_24 (by decide) (fun c_4 => ?_) (fun c_4 => ?_)
      · skip
        refine lv_iconst (v := 2) hx hb dM_balusters_31 (by decide) ?_
        refine va_put (D := (dC, dI)) (ci := 6) (v := .int 2) (ty := .int) (C := RM) (T := TM) (N := 19) hx hb hts inM yM yoM noM hown hK hP hD hS 0 rfl rfl 0 (by decide) (hts _ gw_574) (fun _ h9 => h9) rfl (by decide +kernel) rfl rfl (Nat.le_of_ble_eq_true rfl) dM_balusters_32 (fun H locs hP hD hS => ?_)
        have hP : va_P (dC, dI) vCl [(m0, .inr (6, [.int 2, .long mtot, .ref aTy, .int msz, .int mat, .int mfl, .int mru, .ref aTo, .ref aDr, .int (bI mpd), .int mk, .long mg, .long mw, .int mn, .int (bI mgp), .long mga, .long mgb, .int mfc, .ref aBx]))] H := hP
        have hD : va_D A [(m0, .inr (6, [.int 2, .long mtot, .ref aTy, .int msz, .int mat, .int mfl, .int mru, .ref aTo, .ref aDr, .int (bI mpd), .int mk, .long mg, .long mw, .int mn, .int (bI mgp), .long mga, .long mgb, .int mfc, .ref aBx]))] := hD
        refine lv_aload_n hx hb dM_balusters_35 rfl (lv_at hl 0 rfl) ?_
        refine va_get (D := (dC, dI)) (ci := 6) (v := .int 2) (C := RM) (T := TM) (N := 19) hx hb hts inM hown hK hP 0 rfl rfl 0 (by decide) (hts _ gw_574) (fun _ h9 => h9) rfl dM_balusters_36 ?_
        refine lv_if_le (tgt := 44) hx hb dM_balusters_39 (by decide) (fun c_5 => absurd c_5 (by decide)) (fun c_5 => ?_)
        refine lv_iconst (v := 0) hx hb dM_balusters_42 (by decide) ?_
        exact W.iret (v := 0) hx hb hr (fun t ht hW => ⟨rfl, by rw [ht, show balC mcode mtot msz mat mfl mru mpd mk mg mw mn mgp mga mgb mfc thick most = 2 from by unfold balC; rw [if_neg (Bool.eq_false_iff.mp c_1), if_pos c_2, if_pos c_4]]; exact hP, by rw [hAe]; exact hS.F ht⟩) hS.2.2 dM_balusters_43
      · skip
        refine lv_iconst (v := 0) hx hb dM_balusters_27 (by decide) ?_
        refine lv_goto (tgt := 32) hx hb dM_balusters_28 (by decide) ?_
        refine va_put (D := (dC, dI)) (ci := 6) (v := .int 0) (ty := .int) (C := RM) (T := TM) (N := 19) hx hb hts inM yM yoM noM hown hK hP hD hS 0 rfl rfl 0 (by decide) (hts _ gw_574) (fun _ h9 => h9) rfl (by decide +kernel) rfl rfl (Nat.le_of_ble_eq_true rfl) dM_balusters_32 (fun H locs hP hD hS => ?_)
        have hP : va_P (dC, dI) vCl [(m0, .inr (6, [.int 0, .long mtot, .ref aTy, .int msz, .int mat, .int mfl, .int mru, .ref aTo, .ref aDr, .int (bI mpd), .int mk, .long mg, .long mw, .int mn, .int (bI mgp), .long mga, .long mgb, .int mfc, .ref aBx]))] H := hP
        have hD : va_D A [(m0, .inr (6, [.int 0, .long mtot, .ref aTy, .int msz, .int mat, .int mfl, .int mru, .ref aTo, .ref aDr, .int (bI mpd), .int mk, .long mg, .long mw, .int mn, .int (bI mgp), .long mga, .long mgb, .int mfc, .ref aBx]))] := hD
        refine lv_aload_n hx hb dM_balusters_35 rfl (lv_at hl 0 rfl) ?_
        refine va_get (D := (dC, dI)) (ci := 6) (v := .int 0) (C := RM) (T := TM) (N := 19) hx hb hts inM hown hK hP 0 rfl rfl 0 (by decide) (hts _ gw_574) (fun _ h9 => h9) rfl dM_balusters_36 ?_
        refine lv_if_le (tgt := 44) hx hb dM_balusters_39 (by decide) (fun c_6 => ?_) (fun c_6 => absurd (by decide) c_6)
        exact absurd (show balC mcode mtot msz mat mfl mru mpd mk mg mw mn mgp mga mgb mfc thick most = 0 from by unfold balC; rw [if_neg (Bool.eq_false_iff.mp c_1), if_pos c_2, if_neg c_4]) he
  · skip
    refine lv_iconst (v := 0) hx hb dM_balusters_7 (by decide) ?_
    exact W.iret (v := 0) hx hb hr (fun t ht hW => ⟨rfl, by rw [ht, show balC mcode mtot msz mat mfl mru mpd mk mg mw mn mgp mga mgb mfc thick most = fM_none_c0f0 mcode mtot msz mat mfl mru mpd mk mg mw mn mgp mga mgb mfc from by unfold balC; rw [if_pos c_1]]; exact hP, by rw [hAe]; exact hS.F ht⟩) hS.2.2 dM_balusters_8


set_option maxHeartbeats 4000000 in
set_option maxRecDepth 100000 in
theorem c_M_balusters (l : Launch) (dC : Nat → ClassId) (dI : Nat → Nat → Nat) (m0 : Nat) (aTy : Nat) (aTo : Nat) (aDr : Nat) (aBx : Nat) (mcode : Int32) (mtot : Int64) (msz : Int32) (mat : Int32) (mfl : Int32) (mru : Int32) (mpd : Bool) (mk : Int32) (mg : Int64) (mw : Int64) (mn : Int32) (mgp : Bool) (mga : Int64) (mgb : Int64) (mfc : Int32) (thick : Int64) (most : Int64) (gN : Nat) (k9 : Nat) (he : balC mcode mtot msz mat mfl mru mpd mk mg mw mn mgp mga mgb mfc thick most = 0) (hk9 : mbF ((mn.toInt64 - 1) * mg) thick most 1001 0 = k9) (h9 : k9 ≤ 1000) (hgd : gcdD gN (((mn.toInt64 - 1) * mg) - (nI k9).toInt64 * thick) ((nI k9).toInt64 + 1)) (hg0 : ¬ fM_common gN (((mn.toInt64 - 1) * mg) - (nI k9).toInt64 * thick) ((nI k9).toInt64 + 1) = 0) : Met l mM_balusters wM_balusters ({ frames := 1, cells := 0, slots := 0, locals := 29 }) (tp_W (dC, dI) vCl [.ref m0, .long thick, .long most] [(m0, .inr (6, [.int mcode, .long mtot, .ref aTy, .int msz, .int mat, .int mfl, .int mru, .ref aTo, .ref aDr, .int (bI mpd), .int mk, .long mg, .long mw, .int mn, .int (bI mgp), .long mga, .long mgb, .int mfc, .ref aBx]))] []) (tq_W (dC, dI) vCl (some (.int (nI k9))) [(m0, .inr (6, [.int mcode, .long mtot, .ref aTy, .int msz, .int mat, .int mfl, .int mru, .ref aTo, .ref aDr, .int (bI mpd), .int mk, .long mg, .long mw, .int mn, .int (bI mgp), .long mga, .long mgb, .int mfc, .ref aBx]))] [(m0, .inr (6, [.int 0, .long mtot, .ref aTy, .int msz, .int mat, .int mfl, .int mru, .ref aTo, .ref aDr, .int (bI mpd), .int mk, .long mg, .long mw, .int mn, .int (bI true), .long ((((mn.toInt64 - 1) * mg) - (nI k9).toInt64 * thick) / (fM_common gN (((mn.toInt64 - 1) * mg) - (nI k9).toInt64 * thick) ((nI k9).toInt64 + 1))), .long (((nI k9).toInt64 + 1) / (fM_common gN (((mn.toInt64 - 1) * mg) - (nI k9).toInt64 * thick) ((nI k9).toInt64 + 1))), .int mfc, .ref aBx]))]) 0 0 (tA [(m0, .inr (6, [.int mcode, .long mtot, .ref aTy, .int msz, .int mat, .int mfl, .int mru, .ref aTo, .ref aDr, .int (bI mpd), .int mk, .long mg, .long mw, .int mn, .int (bI mgp), .long mga, .long mgb, .int mfc, .ref aBx]))]) := by
  refine Met.ofW (cc := bM_balusters) (maxL := 13) (ret := (some .int)) (by decide) rfl ?_
  intro p e s m args below meth c s₁ B hml hv
  obtain ⟨rfl, hP, hK, hN, hD0⟩ := hv
  have hx := B.exec
  have hb := B.bytes
  have hr := B.returns
  have hts : ∀ w ∈ gT, w.before _ s = true := fun w h => atoms_spec (ws := wM_balusters) B.pre w (List.mem_cons_of_mem _ h)
  have hown : s.vm.findClass RM = some m.cls := findClass_of_methodNamed B.named
  have hlocks := B.notSynchronized
  have hD := tA_D hD0
  generalize hAe : tA [(m0, .inr (6, [.int mcode, .long mtot, .ref aTy, .int msz, .int mat, .int mfl, .int mru, .ref aTo, .ref aDr, .int (bI mpd), .int mk, .long mg, .long mw, .int mn, .int (bI mgp), .long mga, .long mgb, .int mfc, .ref aBx]))] = A at hD ⊢
  have hS : va_S A s.heap s.heap [] := va_S.rf
  have hP : va_P (dC, dI) vCl [(m0, .inr (6, [.int mcode, .long mtot, .ref aTy, .int msz, .int mat, .int mfl, .int mru, .ref aTo, .ref aDr, .int (bI mpd), .int mk, .long mg, .long mw, .int mn, .int (bI mgp), .long mga, .long mgb, .int mfc, .ref aBx]))] s.heap := hP
  have hl := lv_entry ([.ref m0, .long thick, .long most]) (n := 13) (Nat.le_of_ble_eq_true rfl)
  rw [lg_entry_eq]
  generalize (lg_sl ([.ref m0, .long thick, .long most]) ++ List.replicate (13 - (lg_sl ([.ref m0, .long thick, .long most])).length) Slot.unset).toArray = ls at hl ⊢
  have hl : lv_has ls 13 [(0, .ref m0), (1, .long thick), (3, .long most)] := hl
  have loop : ∀ (n : Nat) (k : Nat) (hk : n + k = 1001) (hJ : mbF ((mn.toInt64 - 1) * mg) thick most n k = k9) (H : Heap) (locs : List Loc) (hP : va_P (dC, dI) vCl [(m0, .inr (6, [.int 0, .long mtot, .ref aTy, .int msz, .int mat, .int mfl, .int mru, .ref aTo, .ref aDr, .int (bI mpd), .int mk, .long mg, .long mw, .int mn, .int (bI false), .long mga, .long mgb, .int mfc, .ref aBx]))] H) (hD : va_D A [(m0, .inr (6, [.int 0, .long mtot, .ref aTy, .int msz, .int mat, .int mfl, .int mru, .ref aTo, .ref aDr, .int (bI mpd), .int mk, .long mg, .long mw, .int mn, .int (bI false), .long mga, .long mgb, .int mfc, .ref aBx]))]) (hS : va_S A s.heap H locs) (ls : Array Slot), lv_has ls 13 [(7, .int (nI k)), (5, .long ((mn.toInt64 - 1) * mg)), (3, .long most), (1, .long thick), (0, .ref m0)] → W p l e (headSpec wM_balusters ({ frames := 1, cells := 0, slots := 0, locals := 29 })).room s m ([.ref m0, .long thick, .long most] : List Value).toArray below meth c H locs 0 0 (MQ below (tq_W (dC, dI) vCl (some (.int (nI k9))) [(m0, .inr (6, [.int mcode, .long mtot, .ref aTy, .int msz, .int mat, .int mfl, .int mru, .ref aTo, .ref aDr, .int (bI mpd), .int mk, .long mg, .long mw, .int mn, .int (bI mgp), .long mga, .long mgb, .int mfc, .ref aBx]))] [(m0, .inr (6, [.int 0, .long mtot, .ref aTy, .int msz, .int mat, .int mfl, .int mru, .ref aTo, .ref aDr, .int (bI mpd), .int mk, .long mg, .long mw, .int mn, .int (bI true), .long ((((mn.toInt64 - 1) * mg) - (nI k9).toInt64 * thick) / (fM_common gN (((mn.toInt64 - 1) * mg) - (nI k9).toInt64 * thick) ((nI k9).toInt64 + 1))), .long (((nI k9).toInt64 + 1) / (fM_common gN (((mn.toInt64 - 1) * mg) - (nI k9).toInt64 * thick) ((nI k9).toInt64 + 1))), .int mfc, .ref aBx]))]) ([.ref m0, .long thick, .long most] : List Value).toArray s 0 0 A) (F0 m 66 ls []) := by
    intro n
    induction n with
    | zero =>
      intro k hk hJ H locs hP hD hS ls hl
      refine lv_iload hx hb dM_balusters_66 (lv_at hl 0 rfl) ?_
      refine lv_sipush (v := 1000) hx hb dM_balusters_68 (by decide) ?_
      refine lv_icmp_gt (tgt := 189) hx hb dM_balusters_71 (by decide) (fun c_1 => ?_) (fun c_1 => absurd (by rw [show k = 1001 by omega]; decide) c_1)
      refine lv_iconst (v := (-1)) hx hb dM_balusters_189 (by decide) ?_
      exact absurd (show k = k9 from hJ) (by omega)
    | succ n ih =>
      intro k hk hJ H locs hP hD hS ls hl
      refine lv_iload hx hb dM_balusters_66 (lv_at hl 0 rfl) ?_
      refine lv_sipush (v := 1000) hx hb dM_balusters_68 (by decide) ?_
      refine lv_icmp_gt (tgt := 189) hx hb dM_balusters_71 (by decide) (fun c_2 => absurd c_2 ((nI_nlt (by omega) (by decide) : ¬ nI 1000 < nI k))) (fun c_2 => ?_)
      refine lv_lload hx hb dM_balusters_74 (lv_at hl 1 rfl) ?_
      refine lv_iload hx hb dM_balusters_76 (lv_at hl 0 rfl) ?_
      refine lv_i2l (v := (nI k).toInt64) hx hb dM_balusters_78 rfl ?_
      refine lv_lload_n hx hb dM_balusters_79 rfl (lv_at hl 3 rfl) ?_
      refine lv_lmul hx hb dM_balusters_80 ?_
      refine lv_lsub hx hb dM_balusters_81 ?_
      refine lv_lstore (lv' := [(8, .long (((mn.toInt64 - 1) * mg) - (((nI k).toInt64) * thick))), (7, .int (nI k)), (5, .long ((mn.toInt64 - 1) * mg)), (3, .long most), (1, .long thick), (0, .ref m0)]) hx hb dM_balusters_82 hl (by decide) rfl (fun ls hl => ?_)
      refine lv_lload hx hb dM_balusters_84 (lv_at hl 0 rfl) ?_
      refine lv_lconst (v := 0) hx hb dM_balusters_86 (by decide) ?_
      refine tl_lt (tgt := 134) hx hb dM_balusters_87 dM_balusters_88 (by decide) (fun c_3 => ?_) (fun c_3 => ?_)
      · skip
        refine lv_iconst (v := 0) hx hb dM_balusters_134 (by decide) ?_
        refine lv_istore (lv' := [(10, .int 0), (8, .long (((mn.toInt64 - 1) * mg) - (((nI k).toInt64) * thick))), (7, .int (nI k)), (5, .long ((mn.toInt64 - 1) * mg)), (3, .long most), (1, .long thick), (0, .ref m0)]) hx hb dM_balusters_135 hl (by decide) rfl (fun ls hl => ?_)
        refine lv_iload hx hb dM_balusters_137 (lv_at hl 0 rfl) ?_
        refine lv_if_eq (tgt := 183) hx hb dM_balusters_139 (by decide) (fun c_4 => ?_) (fun c_4 => absurd (by decide) c_4)
        refine lv_iinc (v := nI (k + 1)) (lv' := [(7, .int (nI (k + 1))), (10, .int 0), (8, .long (((mn.toInt64 - 1) * mg) - (((nI k).toInt64) * thick))), (5, .long ((mn.toInt64 - 1) * mg)), (3, .long most), (1, .long thick), (0, .ref m0)]) hx hb dM_balusters_183 hl (k := 2) rfl (by rw [nI_succ]; rfl) (by decide) rfl (fun ls hl => ?_)
        refine lv_goto (tgt := 66) hx hb dM_balusters_186 (by decide) ?_
        exact ih (k + 1) (by omega) (by rw [mbF, if_neg (by rw [show mbFit ((mn.toInt64 - 1) * mg) thick most k = false from by unfold mbFit; rw [if_pos c_3]]; decide)] at hJ; exact hJ) _ _ hP hD hS ls (lv_sub hl [0, 3, 4, 5, 6] rfl)
      · skip
        refine lv_lload hx hb dM_balusters_91 (lv_at hl 0 rfl) ?_
        refine lv_iload hx hb dM_balusters_93 (lv_at hl 1 rfl) ?_
        refine lv_iconst (v := 1) hx hb dM_balusters_95 (by decide) ?_
        refine lv_iadd hx hb dM_balusters_96 ?_
        rw [nI_1 (k)]
        refine lv_i2l (v := (nI (k + 1)).toInt64) hx hb dM_balusters_97 rfl ?_
        refine lv_lrem hx hb dM_balusters_98 (mbne (by omega)) ?_
        refine lv_lconst (v := 0) hx hb dM_balusters_99 (by decide) ?_
        refine tl_ne (tgt := 115) hx hb dM_balusters_100 dM_balusters_101 (by decide) (fun c_5 => ?_) (fun c_5 => ?_)
        · skip
          refine lv_lload hx hb dM_balusters_115 (lv_at hl 0 rfl) ?_
          refine lv_iload hx hb dM_balusters_117 (lv_at hl 1 rfl) ?_
          refine lv_iconst (v := 1) hx hb dM_balusters_119 (by decide) ?_
          refine lv_iadd hx hb dM_balusters_120 ?_
          rw [nI_1 (k)]
          refine lv_i2l (v := (nI (k + 1)).toInt64) hx hb dM_balusters_121 rfl ?_
          refine lv_ldiv hx hb dM_balusters_122 (mbne (by omega)) ?_
          refine lv_lconst (v := 1) hx hb dM_balusters_123 (by decide) ?_
          refine lv_ladd hx hb dM_balusters_124 ?_
          refine lv_lload_n hx hb dM_balusters_125 rfl (lv_at hl 3 rfl) ?_
          refine tl_gt (tgt := 134) hx hb dM_balusters_126 dM_balusters_127 (by decide) (fun c_6 => ?_) (fun c_6 => ?_)
          · skip
            refine lv_iconst (v := 0) hx hb dM_balusters_134 (by decide) ?_
            refine lv_istore (lv' := [(10, .int 0), (8, .long (((mn.toInt64 - 1) * mg) - (((nI k).toInt64) * thick))), (7, .int (nI k)), (5, .long ((mn.toInt64 - 1) * mg)), (3, .long most), (1, .long thick), (0, .ref m0)]) hx hb dM_balusters_135 hl (by decide) rfl (fun ls hl => ?_)
            refine lv_iload hx hb dM_balusters_137 (lv_at hl 0 rfl) ?_
            refine lv_if_eq (tgt := 183) hx hb dM_balusters_139 (by decide) (fun c_7 => ?_) (fun c_7 => absurd (by decide) c_7)
            refine lv_iinc (v := nI (k + 1)) (lv' := [(7, .int (nI (k + 1))), (10, .int 0), (8, .long (((mn.toInt64 - 1) * mg) - (((nI k).toInt64) * thick))), (5, .long ((mn.toInt64 - 1) * mg)), (3, .long most), (1, .long thick), (0, .ref m0)]) hx hb dM_balusters_183 hl (k := 2) rfl (by rw [nI_succ]; rfl) (by decide) rfl (fun ls hl => ?_)
            refine lv_goto (tgt := 66) hx hb dM_balusters_186 (by decide) ?_
            exact ih (k + 1) (by omega) (by rw [mbF, if_neg (by rw [show mbFit ((mn.toInt64 - 1) * mg) thick most k = false from by unfold mbFit; rw [if_neg c_3, if_neg c_5, if_pos c_6]]; decide)] at hJ; exact hJ) _ _ hP hD hS ls (lv_sub hl [0, 3, 4, 5, 6] rfl)
          · skip
            refine lv_iconst (v := 1) hx hb dM_balusters_130 (by decide) ?_
            refine lv_goto (tgt := 135) hx hb dM_balusters_131 (by decide) ?_
            refine lv_istore (lv' := [(10, .int 1), (8, .long (((mn.toInt64 - 1) * mg) - (((nI k).toInt64) * thick))), (7, .int (nI k)), (5, .long ((mn.toInt64 - 1) * mg)), (3, .long most), (1, .long thick), (0, .ref m0)]) hx hb dM_balusters_135 hl (by decide) rfl (fun ls hl => ?_)
            refine lv_iload hx hb dM_balusters_137 (lv_at hl 0 rfl) ?_
            refine lv_if_eq (tgt := 183) hx hb dM_balusters_139 (by decide) (fun c_8 => absurd c_8 (by decide)) (fun c_8 => ?_)
            have ef : mbFit ((mn.toInt64 - 1) * mg) thick most k = true := by unfold mbFit; rw [if_neg c_3, if_neg c_5, if_neg c_6]
            have ek : mbF ((mn.toInt64 - 1) * mg) thick most (n + 1) k = k := by rw [mbF, if_pos ef]
            have ek2 : k = k9 := ek.symm.trans hJ
            subst ek2
            refine lv_aload_n hx hb dM_balusters_142 rfl (lv_at hl 6 rfl) ?_
            refine lv_iconst (v := 1) hx hb dM_balusters_143 (by decide) ?_
            refine va_put (D := (dC, dI)) (ci := 6) (v := .int 1) (ty := .boolean) (C := RM) (T := TM) (N := 19) hx hb hts inM yM yoM noM hown hK hP hD hS 0 rfl rfl 14 (by decide) (hts _ gw_588) (fun _ h9 => h9) rfl (by decide +kernel) rfl rfl (Nat.le_of_ble_eq_true rfl) dM_balusters_144 (fun H locs hP hD hS => ?_)
            have hP : va_P (dC, dI) vCl [(m0, .inr (6, [.int 0, .long mtot, .ref aTy, .int msz, .int mat, .int mfl, .int mru, .ref aTo, .ref aDr, .int (bI mpd), .int mk, .long mg, .long mw, .int mn, .int 1, .long mga, .long mgb, .int mfc, .ref aBx]))] H := hP
            have hD : va_D A [(m0, .inr (6, [.int 0, .long mtot, .ref aTy, .int msz, .int mat, .int mfl, .int mru, .ref aTo, .ref aDr, .int (bI mpd), .int mk, .long mg, .long mw, .int mn, .int 1, .long mga, .long mgb, .int mfc, .ref aBx]))] := hD
            refine lv_lload hx hb dM_balusters_147 (lv_at hl 1 rfl) ?_
            refine lv_iload hx hb dM_balusters_149 (lv_at hl 2 rfl) ?_
            refine lv_i2l (v := (nI k).toInt64) hx hb dM_balusters_151 rfl ?_
            refine lv_lconst (v := 1) hx hb dM_balusters_152 (by decide) ?_
            refine lv_ladd hx hb dM_balusters_153 ?_
            refine tr_go (st1 := [.long (fM_common gN (((mn.toInt64 - 1) * mg) - (((nI k).toInt64) * thick)) (((nI k).toInt64) + 1))]) (va_runS (As := [.long (((mn.toInt64 - 1) * mg) - (((nI k).toInt64) * thick)), .long (((nI k).toInt64) + 1)]) (rest := []) ⟨hx, hb, hml, hown, hts⟩ (c_M_common l dC dI gN (((mn.toInt64 - 1) * mg) - (((nI k).toInt64) * thick)) (((nI k).toInt64) + 1) (by assumption)) ⟨cB 2 hts gw_674 gw_7 gw_672 ndM_common rfl rfl ⟨Nat.le_of_ble_eq_true rfl, Nat.le_of_ble_eq_true rfl⟩, hts _ gw_673⟩ (tp_Rs hN hK hP [] [] rfl rfl) rfl rfl hl.1 rfl (lv_room (Nat.le_of_ble_eq_true rfl)) dM_balusters_154 ⟨Nat.le_of_ble_eq_true rfl, Nat.le_of_ble_eq_true rfl⟩) rfl ?_
            refine lv_lstore (lv' := [(11, .long (fM_common gN (((mn.toInt64 - 1) * mg) - (((nI k).toInt64) * thick)) (((nI k).toInt64) + 1))), (10, .int 1), (8, .long (((mn.toInt64 - 1) * mg) - (((nI k).toInt64) * thick))), (7, .int (nI k)), (5, .long ((mn.toInt64 - 1) * mg)), (3, .long most), (1, .long thick), (0, .ref m0)]) hx hb dM_balusters_157 hl (by decide) rfl (fun ls hl => ?_)
            refine lv_aload_n hx hb dM_balusters_159 rfl (lv_at hl 7 rfl) ?_
            refine lv_lload hx hb dM_balusters_160 (lv_at hl 2 rfl) ?_
            refine lv_lload hx hb dM_balusters_162 (lv_at hl 0 rfl) ?_
            refine lv_ldiv hx hb dM_balusters_164 hg0 ?_
            refine va_put (D := (dC, dI)) (ci := 6) (v := .long ((((mn.toInt64 - 1) * mg) - (((nI k).toInt64) * thick)) / (fM_common gN (((mn.toInt64 - 1) * mg) - (((nI k).toInt64) * thick)) (((nI k).toInt64) + 1)))) (ty := .long) (C := RM) (T := TM) (N := 19) hx hb hts inM yM yoM noM hown hK hP hD hS 0 rfl rfl 15 (by decide) (hts _ gw_589) (fun _ h9 => h9) rfl (by decide +kernel) rfl rfl (Nat.le_of_ble_eq_true rfl) dM_balusters_165 (fun H locs hP hD hS => ?_)
            have hP : va_P (dC, dI) vCl [(m0, .inr (6, [.int 0, .long mtot, .ref aTy, .int msz, .int mat, .int mfl, .int mru, .ref aTo, .ref aDr, .int (bI mpd), .int mk, .long mg, .long mw, .int mn, .int 1, .long ((((mn.toInt64 - 1) * mg) - (((nI k).toInt64) * thick)) / (fM_common gN (((mn.toInt64 - 1) * mg) - (((nI k).toInt64) * thick)) (((nI k).toInt64) + 1))), .long mgb, .int mfc, .ref aBx]))] H := hP
            have hD : va_D A [(m0, .inr (6, [.int 0, .long mtot, .ref aTy, .int msz, .int mat, .int mfl, .int mru, .ref aTo, .ref aDr, .int (bI mpd), .int mk, .long mg, .long mw, .int mn, .int 1, .long ((((mn.toInt64 - 1) * mg) - (((nI k).toInt64) * thick)) / (fM_common gN (((mn.toInt64 - 1) * mg) - (((nI k).toInt64) * thick)) (((nI k).toInt64) + 1))), .long mgb, .int mfc, .ref aBx]))] := hD
            refine lv_aload_n hx hb dM_balusters_168 rfl (lv_at hl 7 rfl) ?_
            refine lv_iload hx hb dM_balusters_169 (lv_at hl 3 rfl) ?_
            refine lv_i2l (v := (nI k).toInt64) hx hb dM_balusters_171 rfl ?_
            refine lv_lconst (v := 1) hx hb dM_balusters_172 (by decide) ?_
            refine lv_ladd hx hb dM_balusters_173 ?_
            refine lv_lload hx hb dM_balusters_174 (lv_at hl 0 rfl) ?_
            refine lv_ldiv hx hb dM_balusters_176 hg0 ?_
            refine va_put (D := (dC, dI)) (ci := 6) (v := .long ((((nI k).toInt64) + 1) / (fM_common gN (((mn.toInt64 - 1) * mg) - (((nI k).toInt64) * thick)) (((nI k).toInt64) + 1)))) (ty := .long) (C := RM) (T := TM) (N := 19) hx hb hts inM yM yoM noM hown hK hP hD hS 0 rfl rfl 16 (by decide) (hts _ gw_590) (fun _ h9 => h9) rfl (by decide +kernel) rfl rfl (Nat.le_of_ble_eq_true rfl) dM_balusters_177 (fun H locs hP hD hS => ?_)
            have hP : va_P (dC, dI) vCl [(m0, .inr (6, [.int 0, .long mtot, .ref aTy, .int msz, .int mat, .int mfl, .int mru, .ref aTo, .ref aDr, .int (bI mpd), .int mk, .long mg, .long mw, .int mn, .int 1, .long ((((mn.toInt64 - 1) * mg) - (((nI k).toInt64) * thick)) / (fM_common gN (((mn.toInt64 - 1) * mg) - (((nI k).toInt64) * thick)) (((nI k).toInt64) + 1))), .long ((((nI k).toInt64) + 1) / (fM_common gN (((mn.toInt64 - 1) * mg) - (((nI k).toInt64) * thick)) (((nI k).toInt64) + 1))), .int mfc, .ref aBx]))] H := hP
            have hD : va_D A [(m0, .inr (6, [.int 0, .long mtot, .ref aTy, .int msz, .int mat, .int mfl, .int mru, .ref aTo, .ref aDr, .int (bI mpd), .int mk, .long mg, .long mw, .int mn, .int 1, .long ((((mn.toInt64 - 1) * mg) - (((nI k).toInt64) * thick)) / (fM_common gN (((mn.toInt64 - 1) * mg) - (((nI k).toInt64) * thick)) (((nI k).toInt64) + 1))), .long ((((nI k).toInt64) + 1) / (fM_common gN (((mn.toInt64 - 1) * mg) - (((nI k).toInt64) * thick)) (((nI k).toInt64) + 1))), .int mfc, .ref aBx]))] := hD
            refine lv_iload hx hb dM_balusters_180 (lv_at hl 3 rfl) ?_
            exact W.iret (v := nI k) hx hb hr (fun t ht hW => ⟨rfl, by rw [ht]; exact hP, by rw [hAe]; exact hS.F ht⟩) hS.2.2 dM_balusters_182
        · skip
          refine lv_lload hx hb dM_balusters_104 (lv_at hl 0 rfl) ?_
          refine lv_iload hx hb dM_balusters_106 (lv_at hl 1 rfl) ?_
          refine lv_iconst (v := 1) hx hb dM_balusters_108 (by decide) ?_
          refine lv_iadd hx hb dM_balusters_109 ?_
          rw [nI_1 (k)]
          refine lv_i2l (v := (nI (k + 1)).toInt64) hx hb dM_balusters_110 rfl ?_
          refine lv_ldiv hx hb dM_balusters_111 (mbne (by omega)) ?_
          refine lv_goto (tgt := 125) hx hb dM_balusters_112 (by decide) ?_
          refine lv_lload_n hx hb dM_balusters_125 rfl (lv_at hl 3 rfl) ?_
          refine tl_gt (tgt := 134) hx hb dM_balusters_126 dM_balusters_127 (by decide) (fun c_9 => ?_) (fun c_9 => ?_)
          · skip
            refine lv_iconst (v := 0) hx hb dM_balusters_134 (by decide) ?_
            refine lv_istore (lv' := [(10, .int 0), (8, .long (((mn.toInt64 - 1) * mg) - (((nI k).toInt64) * thick))), (7, .int (nI k)), (5, .long ((mn.toInt64 - 1) * mg)), (3, .long most), (1, .long thick), (0, .ref m0)]) hx hb dM_balusters_135 hl (by decide) rfl (fun ls hl => ?_)
            refine lv_iload hx hb dM_balusters_137 (lv_at hl 0 rfl) ?_
            refine lv_if_eq (tgt := 183) hx hb dM_balusters_139 (by decide) (fun c_10 => ?_) (fun c_10 => absurd (by decide) c_10)
            refine lv_iinc (v := nI (k + 1)) (lv' := [(7, .int (nI (k + 1))), (10, .int 0), (8, .long (((mn.toInt64 - 1) * mg) - (((nI k).toInt64) * thick))), (5, .long ((mn.toInt64 - 1) * mg)), (3, .long most), (1, .long thick), (0, .ref m0)]) hx hb dM_balusters_183 hl (k := 2) rfl (by rw [nI_succ]; rfl) (by decide) rfl (fun ls hl => ?_)
            refine lv_goto (tgt := 66) hx hb dM_balusters_186 (by decide) ?_
            exact ih (k + 1) (by omega) (by rw [mbF, if_neg (by rw [show mbFit ((mn.toInt64 - 1) * mg) thick most k = false from by unfold mbFit; rw [if_neg c_3, if_pos c_5, if_pos c_9]]; decide)] at hJ; exact hJ) _ _ hP hD hS ls (lv_sub hl [0, 3, 4, 5, 6] rfl)
          · skip
            refine lv_iconst (v := 1) hx hb dM_balusters_130 (by decide) ?_
            refine lv_goto (tgt := 135) hx hb dM_balusters_131 (by decide) ?_
            refine lv_istore (lv' := [(10, .int 1), (8, .long (((mn.toInt64 - 1) * mg) - (((nI k).toInt64) * thick))), (7, .int (nI k)), (5, .long ((mn.toInt64 - 1) * mg)), (3, .long most), (1, .long thick), (0, .ref m0)]) hx hb dM_balusters_135 hl (by decide) rfl (fun ls hl => ?_)
            refine lv_iload hx hb dM_balusters_137 (lv_at hl 0 rfl) ?_
            refine lv_if_eq (tgt := 183) hx hb dM_balusters_139 (by decide) (fun c_11 => absurd c_11 (by decide)) (fun c_11 => ?_)
            have ef : mbFit ((mn.toInt64 - 1) * mg) thick most k = true := by unfold mbFit; rw [if_neg c_3, if_pos c_5, if_neg c_9]
            have ek : mbF ((mn.toInt64 - 1) * mg) thick most (n + 1) k = k := by rw [mbF, if_pos ef]
            have ek2 : k = k9 := ek.symm.trans hJ
            subst ek2
            refine lv_aload_n hx hb dM_balusters_142 rfl (lv_at hl 6 rfl) ?_
            refine lv_iconst (v := 1) hx hb dM_balusters_143 (by decide) ?_
            refine va_put (D := (dC, dI)) (ci := 6) (v := .int 1) (ty := .boolean) (C := RM) (T := TM) (N := 19) hx hb hts inM yM yoM noM hown hK hP hD hS 0 rfl rfl 14 (by decide) (hts _ gw_588) (fun _ h9 => h9) rfl (by decide +kernel) rfl rfl (Nat.le_of_ble_eq_true rfl) dM_balusters_144 (fun H locs hP hD hS => ?_)
            have hP : va_P (dC, dI) vCl [(m0, .inr (6, [.int 0, .long mtot, .ref aTy, .int msz, .int mat, .int mfl, .int mru, .ref aTo, .ref aDr, .int (bI mpd), .int mk, .long mg, .long mw, .int mn, .int 1, .long mga, .long mgb, .int mfc, .ref aBx]))] H := hP
            have hD : va_D A [(m0, .inr (6, [.int 0, .long mtot, .ref aTy, .int msz, .int mat, .int mfl, .int mru, .ref aTo, .ref aDr, .int (bI mpd), .int mk, .long mg, .long mw, .int mn, .int 1, .long mga, .long mgb, .int mfc, .ref aBx]))] := hD
            refine lv_lload hx hb dM_balusters_147 (lv_at hl 1 rfl) ?_
            refine lv_iload hx hb dM_balusters_149 (lv_at hl 2 rfl) ?_
            refine lv_i2l (v := (nI k).toInt64) hx hb dM_balusters_151 rfl ?_
            refine lv_lconst (v := 1) hx hb dM_balusters_152 (by decide) ?_
            refine lv_ladd hx hb dM_balusters_153 ?_
            refine tr_go (st1 := [.long (fM_common gN (((mn.toInt64 - 1) * mg) - (((nI k).toInt64) * thick)) (((nI k).toInt64) + 1))]) (va_runS (As := [.long (((mn.toInt64 - 1) * mg) - (((nI k).toInt64) * thick)), .long (((nI k).toInt64) + 1)]) (rest := []) ⟨hx, hb, hml, hown, hts⟩ (c_M_common l dC dI gN (((mn.toInt64 - 1) * mg) - (((nI k).toInt64) * thick)) (((nI k).toInt64) + 1) (by assumption)) ⟨cB 2 hts gw_674 gw_7 gw_672 ndM_common rfl rfl ⟨Nat.le_of_ble_eq_true rfl, Nat.le_of_ble_eq_true rfl⟩, hts _ gw_673⟩ (tp_Rs hN hK hP [] [] rfl rfl) rfl rfl hl.1 rfl (lv_room (Nat.le_of_ble_eq_true rfl)) dM_balusters_154 ⟨Nat.le_of_ble_eq_true rfl, Nat.le_of_ble_eq_true rfl⟩) rfl ?_
            refine lv_lstore (lv' := [(11, .long (fM_common gN (((mn.toInt64 - 1) * mg) - (((nI k).toInt64) * thick)) (((nI k).toInt64) + 1))), (10, .int 1), (8, .long (((mn.toInt64 - 1) * mg) - (((nI k).toInt64) * thick))), (7, .int (nI k)), (5, .long ((mn.toInt64 - 1) * mg)), (3, .long most), (1, .long thick), (0, .ref m0)]) hx hb dM_balusters_157 hl (by decide) rfl (fun ls hl => ?_)
            refine lv_aload_n hx hb dM_balusters_159 rfl (lv_at hl 7 rfl) ?_
            refine lv_lload hx hb dM_balusters_160 (lv_at hl 2 rfl) ?_
            refine lv_lload hx hb dM_balusters_162 (lv_at hl 0 rfl) ?_
            refine lv_ldiv hx hb dM_balusters_164 hg0 ?_
            refine va_put (D := (dC, dI)) (ci := 6) (v := .long ((((mn.toInt64 - 1) * mg) - (((nI k).toInt64) * thick)) / (fM_common gN (((mn.toInt64 - 1) * mg) - (((nI k).toInt64) * thick)) (((nI k).toInt64) + 1)))) (ty := .long) (C := RM) (T := TM) (N := 19) hx hb hts inM yM yoM noM hown hK hP hD hS 0 rfl rfl 15 (by decide) (hts _ gw_589) (fun _ h9 => h9) rfl (by decide +kernel) rfl rfl (Nat.le_of_ble_eq_true rfl) dM_balusters_165 (fun H locs hP hD hS => ?_)
            have hP : va_P (dC, dI) vCl [(m0, .inr (6, [.int 0, .long mtot, .ref aTy, .int msz, .int mat, .int mfl, .int mru, .ref aTo, .ref aDr, .int (bI mpd), .int mk, .long mg, .long mw, .int mn, .int 1, .long ((((mn.toInt64 - 1) * mg) - (((nI k).toInt64) * thick)) / (fM_common gN (((mn.toInt64 - 1) * mg) - (((nI k).toInt64) * thick)) (((nI k).toInt64) + 1))), .long mgb, .int mfc, .ref aBx]))] H := hP
            have hD : va_D A [(m0, .inr (6, [.int 0, .long mtot, .ref aTy, .int msz, .int mat, .int mfl, .int mru, .ref aTo, .ref aDr, .int (bI mpd), .int mk, .long mg, .long mw, .int mn, .int 1, .long ((((mn.toInt64 - 1) * mg) - (((nI k).toInt64) * thick)) / (fM_common gN (((mn.toInt64 - 1) * mg) - (((nI k).toInt64) * thick)) (((nI k).toInt64) + 1))), .long mgb, .int mfc, .ref aBx]))] := hD
            refine lv_aload_n hx hb dM_balusters_168 rfl (lv_at hl 7 rfl) ?_
            refine lv_iload hx hb dM_balusters_169 (lv_at hl 3 rfl) ?_
            refine lv_i2l (v := (nI k).toInt64) hx hb dM_balusters_171 rfl ?_
            refine lv_lconst (v := 1) hx hb dM_balusters_172 (by decide) ?_
            refine lv_ladd hx hb dM_balusters_173 ?_
            refine lv_lload hx hb dM_balusters_174 (lv_at hl 0 rfl) ?_
            refine lv_ldiv hx hb dM_balusters_176 hg0 ?_
            refine va_put (D := (dC, dI)) (ci := 6) (v := .long ((((nI k).toInt64) + 1) / (fM_common gN (((mn.toInt64 - 1) * mg) - (((nI k).toInt64) * thick)) (((nI k).toInt64) + 1)))) (ty := .long) (C := RM) (T := TM) (N := 19) hx hb hts inM yM yoM noM hown hK hP hD hS 0 rfl rfl 16 (by decide) (hts _ gw_590) (fun _ h9 => h9) rfl (by decide +kernel) rfl rfl (Nat.le_of_ble_eq_true rfl) dM_balusters_177 (fun H locs hP hD hS => ?_)
            have hP : va_P (dC, dI) vCl [(m0, .inr (6, [.int 0, .long mtot, .ref aTy, .int msz, .int mat, .int mfl, .int mru, .ref aTo, .ref aDr, .int (bI mpd), .int mk, .long mg, .long mw, .int mn, .int 1, .long ((((mn.toInt64 - 1) * mg) - (((nI k).toInt64) * thick)) / (fM_common gN (((mn.toInt64 - 1) * mg) - (((nI k).toInt64) * thick)) (((nI k).toInt64) + 1))), .long ((((nI k).toInt64) + 1) / (fM_common gN (((mn.toInt64 - 1) * mg) - (((nI k).toInt64) * thick)) (((nI k).toInt64) + 1))), .int mfc, .ref aBx]))] H := hP
            have hD : va_D A [(m0, .inr (6, [.int 0, .long mtot, .ref aTy, .int msz, .int mat, .int mfl, .int mru, .ref aTo, .ref aDr, .int (bI mpd), .int mk, .long mg, .long mw, .int mn, .int 1, .long ((((mn.toInt64 - 1) * mg) - (((nI k).toInt64) * thick)) / (fM_common gN (((mn.toInt64 - 1) * mg) - (((nI k).toInt64) * thick)) (((nI k).toInt64) + 1))), .long ((((nI k).toInt64) + 1) / (fM_common gN (((mn.toInt64 - 1) * mg) - (((nI k).toInt64) * thick)) (((nI k).toInt64) + 1))), .int mfc, .ref aBx]))] := hD
            refine lv_iload hx hb dM_balusters_180 (lv_at hl 3 rfl) ?_
            exact W.iret (v := nI k) hx hb hr (fun t ht hW => ⟨rfl, by rw [ht]; exact hP, by rw [hAe]; exact hS.F ht⟩) hS.2.2 dM_balusters_182
  refine lv_aload_n hx hb dM_balusters_0 rfl (lv_at hl 0 rfl) ?_
  refine tc_go (st1 := [.int (bI (fM_none mcode mtot msz mat mfl mru mpd mk mg mw mn mgp mga mgb mfc))]) (ws' := [(m0, .inr (6, [.int (fM_none_c0f0 mcode mtot msz mat mfl mru mpd mk mg mw mn mgp mga mgb mfc), .long mtot, .ref aTy, .int msz, .int mat, .int mfl, .int mru, .ref aTo, .ref aDr, .int (bI mpd), .int mk, .long mg, .long mw, .int mn, .int (bI mgp), .long mga, .long mgb, .int mfc, .ref aBx]))]) (va_runV (As := []) (rest := []) (C := RM) ⟨hx, hb, hml, hown, hts⟩ (c_M_none l dC dI m0 aTy aTo aDr aBx mcode mtot msz mat mfl mru mpd mk mg mw mn mgp mga mgb mfc) ⟨cB 0 hts gw_671 gw_7 gw_669 ndM_none rfl rfl ⟨Nat.le_of_ble_eq_true rfl, Nat.le_of_ble_eq_true rfl⟩, hts _ gw_670, hts _ gw_764⟩ (tp_Wv hN hK hP hD [0] [] rfl (by decide) rfl (q0 := 0) (ci := 6) rfl rfl) rfl rfl hl.1 rfl (lv_room (Nat.le_of_ble_eq_true rfl)) dM_balusters_1 ⟨Nat.le_of_ble_eq_true rfl, Nat.le_of_ble_eq_true rfl⟩) rfl hP hD hS [0] rfl rfl rfl (fun H locs hP hD hS => ?_)
  have hP : va_P (dC, dI) vCl [(m0, .inr (6, [.int (fM_none_c0f0 mcode mtot msz mat mfl mru mpd mk mg mw mn mgp mga mgb mfc), .long mtot, .ref aTy, .int msz, .int mat, .int mfl, .int mru, .ref aTo, .ref aDr, .int (bI mpd), .int mk, .long mg, .long mw, .int mn, .int (bI mgp), .long mga, .long mgb, .int mfc, .ref aBx]))] H := hP
  have hD : va_D A [(m0, .inr (6, [.int (fM_none_c0f0 mcode mtot msz mat mfl mru mpd mk mg mw mn mgp mga mgb mfc), .long mtot, .ref aTy, .int msz, .int mat, .int mfl, .int mru, .ref aTo, .ref aDr, .int (bI mpd), .int mk, .long mg, .long mw, .int mn, .int (bI mgp), .long mga, .long mgb, .int mfc, .ref aBx]))] := hD
  refine tb_ifeq (tgt := 9) hx hb dM_balusters_4 (by decide) (fun c_12 => ?_) (fun c_12 => ?_)
  · skip
    refine lv_aload_n hx hb dM_balusters_9 rfl (lv_at hl 0 rfl) ?_
    refine lv_lload_n hx hb dM_balusters_10 rfl (lv_at hl 1 rfl) ?_
    refine lv_lconst (v := 1) hx hb dM_balusters_11 (by decide) ?_
    refine lv_ldc2 (v := 1000) hx hb hown (hts _ gw_730) dM_balusters_12 ?_
    refine tr_go (st1 := [.int (bI (fM_isIn thick 1 1000)), .ref m0]) (va_runS (As := [.long thick, .long 1, .long 1000]) (rest := [.ref m0]) ⟨hx, hb, hml, hown, hts⟩ (c_M_isIn l dC dI thick 1 1000) ⟨cB 3 hts gw_623 gw_7 gw_621 ndM_isIn rfl rfl ⟨Nat.le_of_ble_eq_true rfl, Nat.le_of_ble_eq_true rfl⟩, hts _ gw_622⟩ (tp_Rs hN hK hP [] [] rfl rfl) rfl rfl hl.1 rfl (lv_room (Nat.le_of_ble_eq_true rfl)) dM_balusters_15 ⟨Nat.le_of_ble_eq_true rfl, Nat.le_of_ble_eq_true rfl⟩) rfl ?_
    refine tb_ifeq (tgt := 31) hx hb dM_balusters_18 (by decide) (fun c_13 => ?_) (fun c_13 => ?_)
    · skip
      refine lv_iconst (v := 2) hx hb dM_balusters_31 (by decide) ?_
      refine va_put (D := (dC, dI)) (ci := 6) (v := .int 2) (ty := .int) (C := RM) (T := TM) (N := 19) hx hb hts inM yM yoM noM hown hK hP hD hS 0 rfl rfl 0 (by decide) (hts _ gw_574) (fun _ h9 => h9) rfl (by decide +kernel) rfl rfl (Nat.le_of_ble_eq_true rfl) dM_balusters_32 (fun H locs hP hD hS => ?_)
      have hP : va_P (dC, dI) vCl [(m0, .inr (6, [.int 2, .long mtot, .ref aTy, .int msz, .int mat, .int mfl, .int mru, .ref aTo, .ref aDr, .int (bI mpd), .int mk, .long mg, .long mw, .int mn, .int (bI mgp), .long mga, .long mgb, .int mfc, .ref aBx]))] H := hP
      have hD : va_D A [(m0, .inr (6, [.int 2, .long mtot, .ref aTy, .int msz, .int mat, .int mfl, .int mru, .ref aTo, .ref aDr, .int (bI mpd), .int mk, .long mg, .long mw, .int mn, .int (bI mgp), .long mga, .long mgb, .int mfc, .ref aBx]))] := hD
      refine lv_aload_n hx hb dM_balusters_35 rfl (lv_at hl 0 rfl) ?_
      refine va_get (D := (dC, dI)) (ci := 6) (v := .int 2) (C := RM) (T := TM) (N := 19) hx hb hts inM hown hK hP 0 rfl rfl 0 (by decide) (hts _ gw_574) (fun _ h9 => h9) rfl dM_balusters_36 ?_
      refine lv_if_le (tgt := 44) hx hb dM_balusters_39 (by decide) (fun c_14 => absurd c_14 (by decide)) (fun c_14 => ?_)
      refine lv_iconst (v := 0) hx hb dM_balusters_42 (by decide) ?_
      exact absurd (he.symm.trans (show balC mcode mtot msz mat mfl mru mpd mk mg mw mn mgp mga mgb mfc thick most = 2 from by unfold balC; rw [if_neg (Bool.eq_false_iff.mp c_12), if_neg (Bool.eq_false_iff.mp c_13)])) (by decide)
    · skip
      refine lv_lload_n hx hb dM_balusters_21 rfl (lv_at hl 2 rfl) ?_
      refine lv_lconst (v := 0) hx hb dM_balusters_22 (by decide) ?_
      refine tl_lt (tgt := 31) hx hb dM_balusters_23 dM_balusters_24 (by decide) (fun c_15 => ?_) (fun c_15 => ?_)
      · skip
        refine lv_iconst (v := 2) hx hb dM_balusters_31 (by decide) ?_
        refine va_put (D := (dC, dI)) (ci := 6) (v := .int 2) (ty := .int) (C := RM) (T := TM) (N := 19) hx hb hts inM yM yoM noM hown hK hP hD hS 0 rfl rfl 0 (by decide) (hts _ gw_574) (fun _ h9 => h9) rfl (by decide +kernel) rfl rfl (Nat.le_of_ble_eq_true rfl) dM_balusters_32 (fun H locs hP hD hS => ?_)
        have hP : va_P (dC, dI) vCl [(m0, .inr (6, [.int 2, .long mtot, .ref aTy, .int msz, .int mat, .int mfl, .int mru, .ref aTo, .ref aDr, .int (bI mpd), .int mk, .long mg, .long mw, .int mn, .int (bI mgp), .long mga, .long mgb, .int mfc, .ref aBx]))] H := hP
        have hD : va_D A [(m0, .inr (6, [.int 2, .long mtot, .ref aTy, .int msz, .int mat, .int mfl, .int mru, .ref aTo, .ref aDr, .int (bI mpd), .int mk, .long mg, .long mw, .int mn, .int (bI mgp), .long mga, .long mgb, .int mfc, .ref aBx]))] := hD
        refine lv_aload_n hx hb dM_balusters_35 rfl (lv_at hl 0 rfl) ?_
        refine va_get (D := (dC, dI)) (ci := 6) (v := .int 2) (C := RM) (T := TM) (N := 19) hx hb hts inM hown hK hP 0 rfl rfl 0 (by decide) (hts _ gw_574) (fun _ h9 => h9) rfl dM_balusters_36 ?_
        refine lv_if_le (tgt := 44) hx hb dM_balusters_39 (by decide) (fun c_16 => absurd c_16 (by decide)) (fun c_16 => ?_)
        refine lv_iconst (v := 0) hx hb dM_balusters_42 (by decide) ?_
        exact absurd (he.symm.trans (show balC mcode mtot msz mat mfl mru mpd mk mg mw mn mgp mga mgb mfc thick most = 2 from by unfold balC; rw [if_neg (Bool.eq_false_iff.mp c_12), if_pos c_13, if_pos c_15])) (by decide)
      · skip
        refine lv_iconst (v := 0) hx hb dM_balusters_27 (by decide) ?_
        refine lv_goto (tgt := 32) hx hb dM_balusters_28 (by decide) ?_
        refine va_put (D := (dC, dI)) (ci := 6) (v := .int 0) (ty := .int) (C := RM) (T := TM) (N := 19) hx hb hts inM yM yoM noM hown hK hP hD hS 0 rfl rfl 0 (by decide) (hts _ gw_574) (fun _ h9 => h9) rfl (by decide +kernel) rfl rfl (Nat.le_of_ble_eq_true rfl) dM_balusters_32 (fun H locs hP hD hS => ?_)
        have hP : va_P (dC, dI) vCl [(m0, .inr (6, [.int 0, .long mtot, .ref aTy, .int msz, .int mat, .int mfl, .int mru, .ref aTo, .ref aDr, .int (bI mpd), .int mk, .long mg, .long mw, .int mn, .int (bI mgp), .long mga, .long mgb, .int mfc, .ref aBx]))] H := hP
        have hD : va_D A [(m0, .inr (6, [.int 0, .long mtot, .ref aTy, .int msz, .int mat, .int mfl, .int mru, .ref aTo, .ref aDr, .int (bI mpd), .int mk, .long mg, .long mw, .int mn, .int (bI mgp), .long mga, .long mgb, .int mfc, .ref aBx]))] := hD
        refine lv_aload_n hx hb dM_balusters_35 rfl (lv_at hl 0 rfl) ?_
        refine va_get (D := (dC, dI)) (ci := 6) (v := .int 0) (C := RM) (T := TM) (N := 19) hx hb hts inM hown hK hP 0 rfl rfl 0 (by decide) (hts _ gw_574) (fun _ h9 => h9) rfl dM_balusters_36 ?_
        refine lv_if_le (tgt := 44) hx hb dM_balusters_39 (by decide) (fun c_17 => ?_) (fun c_17 => absurd (by decide) c_17)
        refine lv_aload_n hx hb dM_balusters_44 rfl (lv_at hl 0 rfl) ?_
        refine lv_iconst (v := 0) hx hb dM_balusters_45 (by decide) ?_
        refine va_put (D := (dC, dI)) (ci := 6) (v := .int 0) (ty := .boolean) (C := RM) (T := TM) (N := 19) hx hb hts inM yM yoM noM hown hK hP hD hS 0 rfl rfl 14 (by decide) (hts _ gw_588) (fun _ h9 => h9) rfl (by decide +kernel) rfl rfl (Nat.le_of_ble_eq_true rfl) dM_balusters_46 (fun H locs hP hD hS => ?_)
        have hP : va_P (dC, dI) vCl [(m0, .inr (6, [.int 0, .long mtot, .ref aTy, .int msz, .int mat, .int mfl, .int mru, .ref aTo, .ref aDr, .int (bI mpd), .int mk, .long mg, .long mw, .int mn, .int 0, .long mga, .long mgb, .int mfc, .ref aBx]))] H := hP
        have hD : va_D A [(m0, .inr (6, [.int 0, .long mtot, .ref aTy, .int msz, .int mat, .int mfl, .int mru, .ref aTo, .ref aDr, .int (bI mpd), .int mk, .long mg, .long mw, .int mn, .int 0, .long mga, .long mgb, .int mfc, .ref aBx]))] := hD
        refine lv_aload_n hx hb dM_balusters_49 rfl (lv_at hl 0 rfl) ?_
        refine va_get (D := (dC, dI)) (ci := 6) (v := .int mn) (C := RM) (T := TM) (N := 19) hx hb hts inM hown hK hP 0 rfl rfl 13 (by decide) (hts _ gw_587) (fun _ h9 => h9) rfl dM_balusters_50 ?_
        refine lv_i2l (v := mn.toInt64) hx hb dM_balusters_53 rfl ?_
        refine lv_lconst (v := 1) hx hb dM_balusters_54 (by decide) ?_
        refine lv_lsub hx hb dM_balusters_55 ?_
        refine lv_aload_n hx hb dM_balusters_56 rfl (lv_at hl 0 rfl) ?_
        refine va_get (D := (dC, dI)) (ci := 6) (v := .long mg) (C := RM) (T := TM) (N := 19) hx hb hts inM hown hK hP 0 rfl rfl 11 (by decide) (hts _ gw_585) (fun _ h9 => h9) rfl dM_balusters_57 ?_
        refine lv_lmul hx hb dM_balusters_60 ?_
        refine lv_lstore (lv' := [(5, .long ((mn.toInt64 - 1) * mg)), (0, .ref m0), (1, .long thick), (3, .long most)]) hx hb dM_balusters_61 hl (by decide) rfl (fun ls hl => ?_)
        refine lv_iconst (v := 0) hx hb dM_balusters_63 (by decide) ?_
        refine lv_istore (lv' := [(7, .int 0), (5, .long ((mn.toInt64 - 1) * mg)), (0, .ref m0), (1, .long thick), (3, .long most)]) hx hb dM_balusters_64 hl (by decide) rfl (fun ls hl => ?_)
        exact loop 1001 0 rfl hk9 _ _ hP hD hS ls (lv_sub hl [0, 1, 4, 3, 2] rfl)
  · skip
    refine lv_iconst (v := 0) hx hb dM_balusters_7 (by decide) ?_
    exact absurd (he.symm.trans (show balC mcode mtot msz mat mfl mru mpd mk mg mw mn mgp mga mgb mfc thick most = 1 from by unfold balC; rw [if_pos c_12]; exact mnn1 _ _ _ _ _ _ _ _ _ _ _ _ _ _ _ c_12)) (by decide)


set_option maxHeartbeats 4000000 in
set_option maxRecDepth 100000 in
theorem c_M_balusters_none (l : Launch) (dC : Nat → ClassId) (dI : Nat → Nat → Nat) (m0 : Nat) (aTy : Nat) (aTo : Nat) (aDr : Nat) (aBx : Nat) (mcode : Int32) (mtot : Int64) (msz : Int32) (mat : Int32) (mfl : Int32) (mru : Int32) (mpd : Bool) (mk : Int32) (mg : Int64) (mw : Int64) (mn : Int32) (mgp : Bool) (mga : Int64) (mgb : Int64) (mfc : Int32) (thick : Int64) (most : Int64) (he : balC mcode mtot msz mat mfl mru mpd mk mg mw mn mgp mga mgb mfc thick most = 0) (hk9 : mbF ((mn.toInt64 - 1) * mg) thick most 1001 0 = 1001) : Met l mM_balusters wM_balusters ({ frames := 1, cells := 0, slots := 0, locals := 25 }) (tp_W (dC, dI) vCl [.ref m0, .long thick, .long most] [(m0, .inr (6, [.int mcode, .long mtot, .ref aTy, .int msz, .int mat, .int mfl, .int mru, .ref aTo, .ref aDr, .int (bI mpd), .int mk, .long mg, .long mw, .int mn, .int (bI mgp), .long mga, .long mgb, .int mfc, .ref aBx]))] []) (tq_W (dC, dI) vCl (some (.int (-1))) [(m0, .inr (6, [.int mcode, .long mtot, .ref aTy, .int msz, .int mat, .int mfl, .int mru, .ref aTo, .ref aDr, .int (bI mpd), .int mk, .long mg, .long mw, .int mn, .int (bI mgp), .long mga, .long mgb, .int mfc, .ref aBx]))] [(m0, .inr (6, [.int 0, .long mtot, .ref aTy, .int msz, .int mat, .int mfl, .int mru, .ref aTo, .ref aDr, .int (bI mpd), .int mk, .long mg, .long mw, .int mn, .int (bI false), .long mga, .long mgb, .int mfc, .ref aBx]))]) 0 0 (tA [(m0, .inr (6, [.int mcode, .long mtot, .ref aTy, .int msz, .int mat, .int mfl, .int mru, .ref aTo, .ref aDr, .int (bI mpd), .int mk, .long mg, .long mw, .int mn, .int (bI mgp), .long mga, .long mgb, .int mfc, .ref aBx]))]) := by
  refine Met.ofW (cc := bM_balusters) (maxL := 13) (ret := (some .int)) (by decide) rfl ?_
  intro p e s m args below meth c s₁ B hml hv
  obtain ⟨rfl, hP, hK, hN, hD0⟩ := hv
  have hx := B.exec
  have hb := B.bytes
  have hr := B.returns
  have hts : ∀ w ∈ gT, w.before _ s = true := fun w h => atoms_spec (ws := wM_balusters) B.pre w (List.mem_cons_of_mem _ h)
  have hown : s.vm.findClass RM = some m.cls := findClass_of_methodNamed B.named
  have hlocks := B.notSynchronized
  have hD := tA_D hD0
  generalize hAe : tA [(m0, .inr (6, [.int mcode, .long mtot, .ref aTy, .int msz, .int mat, .int mfl, .int mru, .ref aTo, .ref aDr, .int (bI mpd), .int mk, .long mg, .long mw, .int mn, .int (bI mgp), .long mga, .long mgb, .int mfc, .ref aBx]))] = A at hD ⊢
  have hS : va_S A s.heap s.heap [] := va_S.rf
  have hP : va_P (dC, dI) vCl [(m0, .inr (6, [.int mcode, .long mtot, .ref aTy, .int msz, .int mat, .int mfl, .int mru, .ref aTo, .ref aDr, .int (bI mpd), .int mk, .long mg, .long mw, .int mn, .int (bI mgp), .long mga, .long mgb, .int mfc, .ref aBx]))] s.heap := hP
  have hl := lv_entry ([.ref m0, .long thick, .long most]) (n := 13) (Nat.le_of_ble_eq_true rfl)
  rw [lg_entry_eq]
  generalize (lg_sl ([.ref m0, .long thick, .long most]) ++ List.replicate (13 - (lg_sl ([.ref m0, .long thick, .long most])).length) Slot.unset).toArray = ls at hl ⊢
  have hl : lv_has ls 13 [(0, .ref m0), (1, .long thick), (3, .long most)] := hl
  have loop : ∀ (n : Nat) (k : Nat) (hk : n + k = 1001) (hJ : mbF ((mn.toInt64 - 1) * mg) thick most n k = 1001) (H : Heap) (locs : List Loc) (hP : va_P (dC, dI) vCl [(m0, .inr (6, [.int 0, .long mtot, .ref aTy, .int msz, .int mat, .int mfl, .int mru, .ref aTo, .ref aDr, .int (bI mpd), .int mk, .long mg, .long mw, .int mn, .int (bI false), .long mga, .long mgb, .int mfc, .ref aBx]))] H) (hD : va_D A [(m0, .inr (6, [.int 0, .long mtot, .ref aTy, .int msz, .int mat, .int mfl, .int mru, .ref aTo, .ref aDr, .int (bI mpd), .int mk, .long mg, .long mw, .int mn, .int (bI false), .long mga, .long mgb, .int mfc, .ref aBx]))]) (hS : va_S A s.heap H locs) (ls : Array Slot), lv_has ls 13 [(7, .int (nI k)), (5, .long ((mn.toInt64 - 1) * mg)), (3, .long most), (1, .long thick), (0, .ref m0)] → W p l e (headSpec wM_balusters ({ frames := 1, cells := 0, slots := 0, locals := 25 })).room s m ([.ref m0, .long thick, .long most] : List Value).toArray below meth c H locs 0 0 (MQ below (tq_W (dC, dI) vCl (some (.int (-1))) [(m0, .inr (6, [.int mcode, .long mtot, .ref aTy, .int msz, .int mat, .int mfl, .int mru, .ref aTo, .ref aDr, .int (bI mpd), .int mk, .long mg, .long mw, .int mn, .int (bI mgp), .long mga, .long mgb, .int mfc, .ref aBx]))] [(m0, .inr (6, [.int 0, .long mtot, .ref aTy, .int msz, .int mat, .int mfl, .int mru, .ref aTo, .ref aDr, .int (bI mpd), .int mk, .long mg, .long mw, .int mn, .int (bI false), .long mga, .long mgb, .int mfc, .ref aBx]))]) ([.ref m0, .long thick, .long most] : List Value).toArray s 0 0 A) (F0 m 66 ls []) := by
    intro n
    induction n with
    | zero =>
      intro k hk hJ H locs hP hD hS ls hl
      refine lv_iload hx hb dM_balusters_66 (lv_at hl 0 rfl) ?_
      refine lv_sipush (v := 1000) hx hb dM_balusters_68 (by decide) ?_
      refine lv_icmp_gt (tgt := 189) hx hb dM_balusters_71 (by decide) (fun c_1 => ?_) (fun c_1 => absurd (by rw [show k = 1001 by omega]; decide) c_1)
      refine lv_iconst (v := (-1)) hx hb dM_balusters_189 (by decide) ?_
      exact W.iret (v := (-1)) hx hb hr (fun t ht hW => ⟨rfl, by rw [ht]; exact hP, by rw [hAe]; exact hS.F ht⟩) hS.2.2 dM_balusters_190
    | succ n ih =>
      intro k hk hJ H locs hP hD hS ls hl
      refine lv_iload hx hb dM_balusters_66 (lv_at hl 0 rfl) ?_
      refine lv_sipush (v := 1000) hx hb dM_balusters_68 (by decide) ?_
      refine lv_icmp_gt (tgt := 189) hx hb dM_balusters_71 (by decide) (fun c_2 => absurd c_2 ((nI_nlt (by omega) (by decide) : ¬ nI 1000 < nI k))) (fun c_2 => ?_)
      refine lv_lload hx hb dM_balusters_74 (lv_at hl 1 rfl) ?_
      refine lv_iload hx hb dM_balusters_76 (lv_at hl 0 rfl) ?_
      refine lv_i2l (v := (nI k).toInt64) hx hb dM_balusters_78 rfl ?_
      refine lv_lload_n hx hb dM_balusters_79 rfl (lv_at hl 3 rfl) ?_
      refine lv_lmul hx hb dM_balusters_80 ?_
      refine lv_lsub hx hb dM_balusters_81 ?_
      refine lv_lstore (lv' := [(8, .long (((mn.toInt64 - 1) * mg) - (((nI k).toInt64) * thick))), (7, .int (nI k)), (5, .long ((mn.toInt64 - 1) * mg)), (3, .long most), (1, .long thick), (0, .ref m0)]) hx hb dM_balusters_82 hl (by decide) rfl (fun ls hl => ?_)
      refine lv_lload hx hb dM_balusters_84 (lv_at hl 0 rfl) ?_
      refine lv_lconst (v := 0) hx hb dM_balusters_86 (by decide) ?_
      refine tl_lt (tgt := 134) hx hb dM_balusters_87 dM_balusters_88 (by decide) (fun c_3 => ?_) (fun c_3 => ?_)
      · skip
        refine lv_iconst (v := 0) hx hb dM_balusters_134 (by decide) ?_
        refine lv_istore (lv' := [(10, .int 0), (8, .long (((mn.toInt64 - 1) * mg) - (((nI k).toInt64) * thick))), (7, .int (nI k)), (5, .long ((mn.toInt64 - 1) * mg)), (3, .long most), (1, .long thick), (0, .ref m0)]) hx hb dM_balusters_135 hl (by decide) rfl (fun ls hl => ?_)
        refine lv_iload hx hb dM_balusters_137 (lv_at hl 0 rfl) ?_
        refine lv_if_eq (tgt := 183) hx hb dM_balusters_139 (by decide) (fun c_4 => ?_) (fun c_4 => absurd (by decide) c_4)
        refine lv_iinc (v := nI (k + 1)) (lv' := [(7, .int (nI (k + 1))), (10, .int 0), (8, .long (((mn.toInt64 - 1) * mg) - (((nI k).toInt64) * thick))), (5, .long ((mn.toInt64 - 1) * mg)), (3, .long most), (1, .long thick), (0, .ref m0)]) hx hb dM_balusters_183 hl (k := 2) rfl (by rw [nI_succ]; rfl) (by decide) rfl (fun ls hl => ?_)
        refine lv_goto (tgt := 66) hx hb dM_balusters_186 (by decide) ?_
        exact ih (k + 1) (by omega) (by rw [mbF, if_neg (by rw [show mbFit ((mn.toInt64 - 1) * mg) thick most k = false from by unfold mbFit; rw [if_pos c_3]]; decide)] at hJ; exact hJ) _ _ hP hD hS ls (lv_sub hl [0, 3, 4, 5, 6] rfl)
      · skip
        refine lv_lload hx hb dM_balusters_91 (lv_at hl 0 rfl) ?_
        refine lv_iload hx hb dM_balusters_93 (lv_at hl 1 rfl) ?_
        refine lv_iconst (v := 1) hx hb dM_balusters_95 (by decide) ?_
        refine lv_iadd hx hb dM_balusters_96 ?_
        rw [nI_1 (k)]
        refine lv_i2l (v := (nI (k + 1)).toInt64) hx hb dM_balusters_97 rfl ?_
        refine lv_lrem hx hb dM_balusters_98 (mbne (by omega)) ?_
        refine lv_lconst (v := 0) hx hb dM_balusters_99 (by decide) ?_
        refine tl_ne (tgt := 115) hx hb dM_balusters_100 dM_balusters_101 (by decide) (fun c_5 => ?_) (fun c_5 => ?_)
        · skip
          refine lv_lload hx hb dM_balusters_115 (lv_at hl 0 rfl) ?_
          refine lv_iload hx hb dM_balusters_117 (lv_at hl 1 rfl) ?_
          refine lv_iconst (v := 1) hx hb dM_balusters_119 (by decide) ?_
          refine lv_iadd hx hb dM_balusters_120 ?_
          rw [nI_1 (k)]
          refine lv_i2l (v := (nI (k + 1)).toInt64) hx hb dM_balusters_121 rfl ?_
          refine lv_ldiv hx hb dM_balusters_122 (mbne (by omega)) ?_
          refine lv_lconst (v := 1) hx hb dM_balusters_123 (by decide) ?_
          refine lv_ladd hx hb dM_balusters_124 ?_
          refine lv_lload_n hx hb dM_balusters_125 rfl (lv_at hl 3 rfl) ?_
          refine tl_gt (tgt := 134) hx hb dM_balusters_126 dM_balusters_127 (by decide) (fun c_6 => ?_) (fun c_6 => ?_)
          · skip
            refine lv_iconst (v := 0) hx hb dM_balusters_134 (by decide) ?_
            refine lv_istore (lv' := [(10, .int 0), (8, .long (((mn.toInt64 - 1) * mg) - (((nI k).toInt64) * thick))), (7, .int (nI k)), (5, .long ((mn.toInt64 - 1) * mg)), (3, .long most), (1, .long thick), (0, .ref m0)]) hx hb dM_balusters_135 hl (by decide) rfl (fun ls hl => ?_)
            refine lv_iload hx hb dM_balusters_137 (lv_at hl 0 rfl) ?_
            refine lv_if_eq (tgt := 183) hx hb dM_balusters_139 (by decide) (fun c_7 => ?_) (fun c_7 => absurd (by decide) c_7)
            refine lv_iinc (v := nI (k + 1)) (lv' := [(7, .int (nI (k + 1))), (10, .int 0), (8, .long (((mn.toInt64 - 1) * mg) - (((nI k).toInt64) * thick))), (5, .long ((mn.toInt64 - 1) * mg)), (3, .long most), (1, .long thick), (0, .ref m0)]) hx hb dM_balusters_183 hl (k := 2) rfl (by rw [nI_succ]; rfl) (by decide) rfl (fun ls hl => ?_)
            refine lv_goto (tgt := 66) hx hb dM_balusters_186 (by decide) ?_
            exact ih (k + 1) (by omega) (by rw [mbF, if_neg (by rw [show mbFit ((mn.toInt64 - 1) * mg) thick most k = false from by unfold mbFit; rw [if_neg c_3, if_neg c_5, if_pos c_6]]; decide)] at hJ; exact hJ) _ _ hP hD hS ls (lv_sub hl [0, 3, 4, 5, 6] rfl)
          · skip
            refine lv_iconst (v := 1) hx hb dM_balusters_130 (by decide) ?_
            refine lv_goto (tgt := 135) hx hb dM_balusters_131 (by decide) ?_
            refine lv_istore (lv' := [(10, .int 1), (8, .long (((mn.toInt64 - 1) * mg) - (((nI k).toInt64) * thick))), (7, .int (nI k)), (5, .long ((mn.toInt64 - 1) * mg)), (3, .long most), (1, .long thick), (0, .ref m0)]) hx hb dM_balusters_135 hl (by decide) rfl (fun ls hl => ?_)
            refine lv_iload hx hb dM_balusters_137 (lv_at hl 0 rfl) ?_
            refine lv_if_eq (tgt := 183) hx hb dM_balusters_139 (by decide) (fun c_8 => absurd c_8 (by decide)) (fun c_8 => ?_)
            have ef : mbFit ((mn.toInt64 - 1) * mg) thick most k = true := by unfold mbFit; rw [if_neg c_3, if_neg c_5, if_neg c_6]
            have ek : mbF ((mn.toInt64 - 1) * mg) thick most (n + 1) k = k := by rw [mbF, if_pos ef]
            exact absurd (ek.symm.trans hJ) (by omega)
        · skip
          refine lv_lload hx hb dM_balusters_104 (lv_at hl 0 rfl) ?_
          refine lv_iload hx hb dM_balusters_106 (lv_at hl 1 rfl) ?_
          refine lv_iconst (v := 1) hx hb dM_balusters_108 (by decide) ?_
          refine lv_iadd hx hb dM_balusters_109 ?_
          rw [nI_1 (k)]
          refine lv_i2l (v := (nI (k + 1)).toInt64) hx hb dM_balusters_110 rfl ?_
          refine lv_ldiv hx hb dM_balusters_111 (mbne (by omega)) ?_
          refine lv_goto (tgt := 125) hx hb dM_balusters_112 (by decide) ?_
          refine lv_lload_n hx hb dM_balusters_125 rfl (lv_at hl 3 rfl) ?_
          refine tl_gt (tgt := 134) hx hb dM_balusters_126 dM_balusters_127 (by decide) (fun c_9 => ?_) (fun c_9 => ?_)
          · skip
            refine lv_iconst (v := 0) hx hb dM_balusters_134 (by decide) ?_
            refine lv_istore (lv' := [(10, .int 0), (8, .long (((mn.toInt64 - 1) * mg) - (((nI k).toInt64) * thick))), (7, .int (nI k)), (5, .long ((mn.toInt64 - 1) * mg)), (3, .long most), (1, .long thick), (0, .ref m0)]) hx hb dM_balusters_135 hl (by decide) rfl (fun ls hl => ?_)
            refine lv_iload hx hb dM_balusters_137 (lv_at hl 0 rfl) ?_
            refine lv_if_eq (tgt := 183) hx hb dM_balusters_139 (by decide) (fun c_10 => ?_) (fun c_10 => absurd (by decide) c_10)
            refine lv_iinc (v := nI (k + 1)) (lv' := [(7, .int (nI (k + 1))), (10, .int 0), (8, .long (((mn.toInt64 - 1) * mg) - (((nI k).toInt64) * thick))), (5, .long ((mn.toInt64 - 1) * mg)), (3, .long most), (1, .long thick), (0, .ref m0)]) hx hb dM_balusters_183 hl (k := 2) rfl (by rw [nI_succ]; rfl) (by decide) rfl (fun ls hl => ?_)
            refine lv_goto (tgt := 66) hx hb dM_balusters_186 (by decide) ?_
            exact ih (k + 1) (by omega) (by rw [mbF, if_neg (by rw [show mbFit ((mn.toInt64 - 1) * mg) thick most k = false from by unfold mbFit; rw [if_neg c_3, if_pos c_5, if_pos c_9]]; decide)] at hJ; exact hJ) _ _ hP hD hS ls (lv_sub hl [0, 3, 4, 5, 6] rfl)
          · skip
            refine lv_iconst (v := 1) hx hb dM_balusters_130 (by decide) ?_
            refine lv_goto (tgt := 135) hx hb dM_balusters_131 (by decide) ?_
            refine lv_istore (lv' := [(10, .int 1), (8, .long (((mn.toInt64 - 1) * mg) - (((nI k).toInt64) * thick))), (7, .int (nI k)), (5, .long ((mn.toInt64 - 1) * mg)), (3, .long most), (1, .long thick), (0, .ref m0)]) hx hb dM_balusters_135 hl (by decide) rfl (fun ls hl => ?_)
            refine lv_iload hx hb dM_balusters_137 (lv_at hl 0 rfl) ?_
            refine lv_if_eq (tgt := 183) hx hb dM_balusters_139 (by decide) (fun c_11 => absurd c_11 (by decide)) (fun c_11 => ?_)
            have ef : mbFit ((mn.toInt64 - 1) * mg) thick most k = true := by unfold mbFit; rw [if_neg c_3, if_pos c_5, if_neg c_9]
            have ek : mbF ((mn.toInt64 - 1) * mg) thick most (n + 1) k = k := by rw [mbF, if_pos ef]
            exact absurd (ek.symm.trans hJ) (by omega)
  refine lv_aload_n hx hb dM_balusters_0 rfl (lv_at hl 0 rfl) ?_
  refine tc_go (st1 := [.int (bI (fM_none mcode mtot msz mat mfl mru mpd mk mg mw mn mgp mga mgb mfc))]) (ws' := [(m0, .inr (6, [.int (fM_none_c0f0 mcode mtot msz mat mfl mru mpd mk mg mw mn mgp mga mgb mfc), .long mtot, .ref aTy, .int msz, .int mat, .int mfl, .int mru, .ref aTo, .ref aDr, .int (bI mpd), .int mk, .long mg, .long mw, .int mn, .int (bI mgp), .long mga, .long mgb, .int mfc, .ref aBx]))]) (va_runV (As := []) (rest := []) (C := RM) ⟨hx, hb, hml, hown, hts⟩ (c_M_none l dC dI m0 aTy aTo aDr aBx mcode mtot msz mat mfl mru mpd mk mg mw mn mgp mga mgb mfc) ⟨cB 0 hts gw_671 gw_7 gw_669 ndM_none rfl rfl ⟨Nat.le_of_ble_eq_true rfl, Nat.le_of_ble_eq_true rfl⟩, hts _ gw_670, hts _ gw_764⟩ (tp_Wv hN hK hP hD [0] [] rfl (by decide) rfl (q0 := 0) (ci := 6) rfl rfl) rfl rfl hl.1 rfl (lv_room (Nat.le_of_ble_eq_true rfl)) dM_balusters_1 ⟨Nat.le_of_ble_eq_true rfl, Nat.le_of_ble_eq_true rfl⟩) rfl hP hD hS [0] rfl rfl rfl (fun H locs hP hD hS => ?_)
  have hP : va_P (dC, dI) vCl [(m0, .inr (6, [.int (fM_none_c0f0 mcode mtot msz mat mfl mru mpd mk mg mw mn mgp mga mgb mfc), .long mtot, .ref aTy, .int msz, .int mat, .int mfl, .int mru, .ref aTo, .ref aDr, .int (bI mpd), .int mk, .long mg, .long mw, .int mn, .int (bI mgp), .long mga, .long mgb, .int mfc, .ref aBx]))] H := hP
  have hD : va_D A [(m0, .inr (6, [.int (fM_none_c0f0 mcode mtot msz mat mfl mru mpd mk mg mw mn mgp mga mgb mfc), .long mtot, .ref aTy, .int msz, .int mat, .int mfl, .int mru, .ref aTo, .ref aDr, .int (bI mpd), .int mk, .long mg, .long mw, .int mn, .int (bI mgp), .long mga, .long mgb, .int mfc, .ref aBx]))] := hD
  refine tb_ifeq (tgt := 9) hx hb dM_balusters_4 (by decide) (fun c_12 => ?_) (fun c_12 => ?_)
  · skip
    refine lv_aload_n hx hb dM_balusters_9 rfl (lv_at hl 0 rfl) ?_
    refine lv_lload_n hx hb dM_balusters_10 rfl (lv_at hl 1 rfl) ?_
    refine lv_lconst (v := 1) hx hb dM_balusters_11 (by decide) ?_
    refine lv_ldc2 (v := 1000) hx hb hown (hts _ gw_730) dM_balusters_12 ?_
    refine tr_go (st1 := [.int (bI (fM_isIn thick 1 1000)), .ref m0]) (va_runS (As := [.long thick, .long 1, .long 1000]) (rest := [.ref m0]) ⟨hx, hb, hml, hown, hts⟩ (c_M_isIn l dC dI thick 1 1000) ⟨cB 3 hts gw_623 gw_7 gw_621 ndM_isIn rfl rfl ⟨Nat.le_of_ble_eq_true rfl, Nat.le_of_ble_eq_true rfl⟩, hts _ gw_622⟩ (tp_Rs hN hK hP [] [] rfl rfl) rfl rfl hl.1 rfl (lv_room (Nat.le_of_ble_eq_true rfl)) dM_balusters_15 ⟨Nat.le_of_ble_eq_true rfl, Nat.le_of_ble_eq_true rfl⟩) rfl ?_
    refine tb_ifeq (tgt := 31) hx hb dM_balusters_18 (by decide) (fun c_13 => ?_) (fun c_13 => ?_)
    · skip
      refine lv_iconst (v := 2) hx hb dM_balusters_31 (by decide) ?_
      refine va_put (D := (dC, dI)) (ci := 6) (v := .int 2) (ty := .int) (C := RM) (T := TM) (N := 19) hx hb hts inM yM yoM noM hown hK hP hD hS 0 rfl rfl 0 (by decide) (hts _ gw_574) (fun _ h9 => h9) rfl (by decide +kernel) rfl rfl (Nat.le_of_ble_eq_true rfl) dM_balusters_32 (fun H locs hP hD hS => ?_)
      have hP : va_P (dC, dI) vCl [(m0, .inr (6, [.int 2, .long mtot, .ref aTy, .int msz, .int mat, .int mfl, .int mru, .ref aTo, .ref aDr, .int (bI mpd), .int mk, .long mg, .long mw, .int mn, .int (bI mgp), .long mga, .long mgb, .int mfc, .ref aBx]))] H := hP
      have hD : va_D A [(m0, .inr (6, [.int 2, .long mtot, .ref aTy, .int msz, .int mat, .int mfl, .int mru, .ref aTo, .ref aDr, .int (bI mpd), .int mk, .long mg, .long mw, .int mn, .int (bI mgp), .long mga, .long mgb, .int mfc, .ref aBx]))] := hD
      refine lv_aload_n hx hb dM_balusters_35 rfl (lv_at hl 0 rfl) ?_
      refine va_get (D := (dC, dI)) (ci := 6) (v := .int 2) (C := RM) (T := TM) (N := 19) hx hb hts inM hown hK hP 0 rfl rfl 0 (by decide) (hts _ gw_574) (fun _ h9 => h9) rfl dM_balusters_36 ?_
      refine lv_if_le (tgt := 44) hx hb dM_balusters_39 (by decide) (fun c_14 => absurd c_14 (by decide)) (fun c_14 => ?_)
      refine lv_iconst (v := 0) hx hb dM_balusters_42 (by decide) ?_
      exact absurd (he.symm.trans (show balC mcode mtot msz mat mfl mru mpd mk mg mw mn mgp mga mgb mfc thick most = 2 from by unfold balC; rw [if_neg (Bool.eq_false_iff.mp c_12), if_neg (Bool.eq_false_iff.mp c_13)])) (by decide)
    · skip
      refine lv_lload_n hx hb dM_balusters_21 rfl (lv_at hl 2 rfl) ?_
      refine lv_lconst (v := 0) hx hb dM_balusters_22 (by decide) ?_
      refine tl_lt (tgt := 31) hx hb dM_balusters_23 dM_balusters_24 (by decide) (fun c_15 => ?_) (fun c_15 => ?_)
      · skip
        refine lv_iconst (v := 2) hx hb dM_balusters_31 (by decide) ?_
        refine va_put (D := (dC, dI)) (ci := 6) (v := .int 2) (ty := .int) (C := RM) (T := TM) (N := 19) hx hb hts inM yM yoM noM hown hK hP hD hS 0 rfl rfl 0 (by decide) (hts _ gw_574) (fun _ h9 => h9) rfl (by decide +kernel) rfl rfl (Nat.le_of_ble_eq_true rfl) dM_balusters_32 (fun H locs hP hD hS => ?_)
        have hP : va_P (dC, dI) vCl [(m0, .inr (6, [.int 2, .long mtot, .ref aTy, .int msz, .int mat, .int mfl, .int mru, .ref aTo, .ref aDr, .int (bI mpd), .int mk, .long mg, .long mw, .int mn, .int (bI mgp), .long mga, .long mgb, .int mfc, .ref aBx]))] H := hP
        have hD : va_D A [(m0, .inr (6, [.int 2, .long mtot, .ref aTy, .int msz, .int mat, .int mfl, .int mru, .ref aTo, .ref aDr, .int (bI mpd), .int mk, .long mg, .long mw, .int mn, .int (bI mgp), .long mga, .long mgb, .int mfc, .ref aBx]))] := hD
        refine lv_aload_n hx hb dM_balusters_35 rfl (lv_at hl 0 rfl) ?_
        refine va_get (D := (dC, dI)) (ci := 6) (v := .int 2) (C := RM) (T := TM) (N := 19) hx hb hts inM hown hK hP 0 rfl rfl 0 (by decide) (hts _ gw_574) (fun _ h9 => h9) rfl dM_balusters_36 ?_
        refine lv_if_le (tgt := 44) hx hb dM_balusters_39 (by decide) (fun c_16 => absurd c_16 (by decide)) (fun c_16 => ?_)
        refine lv_iconst (v := 0) hx hb dM_balusters_42 (by decide) ?_
        exact absurd (he.symm.trans (show balC mcode mtot msz mat mfl mru mpd mk mg mw mn mgp mga mgb mfc thick most = 2 from by unfold balC; rw [if_neg (Bool.eq_false_iff.mp c_12), if_pos c_13, if_pos c_15])) (by decide)
      · skip
        refine lv_iconst (v := 0) hx hb dM_balusters_27 (by decide) ?_
        refine lv_goto (tgt := 32) hx hb dM_balusters_28 (by decide) ?_
        refine va_put (D := (dC, dI)) (ci := 6) (v := .int 0) (ty := .int) (C := RM) (T := TM) (N := 19) hx hb hts inM yM yoM noM hown hK hP hD hS 0 rfl rfl 0 (by decide) (hts _ gw_574) (fun _ h9 => h9) rfl (by decide +kernel) rfl rfl (Nat.le_of_ble_eq_true rfl) dM_balusters_32 (fun H locs hP hD hS => ?_)
        have hP : va_P (dC, dI) vCl [(m0, .inr (6, [.int 0, .long mtot, .ref aTy, .int msz, .int mat, .int mfl, .int mru, .ref aTo, .ref aDr, .int (bI mpd), .int mk, .long mg, .long mw, .int mn, .int (bI mgp), .long mga, .long mgb, .int mfc, .ref aBx]))] H := hP
        have hD : va_D A [(m0, .inr (6, [.int 0, .long mtot, .ref aTy, .int msz, .int mat, .int mfl, .int mru, .ref aTo, .ref aDr, .int (bI mpd), .int mk, .long mg, .long mw, .int mn, .int (bI mgp), .long mga, .long mgb, .int mfc, .ref aBx]))] := hD
        refine lv_aload_n hx hb dM_balusters_35 rfl (lv_at hl 0 rfl) ?_
        refine va_get (D := (dC, dI)) (ci := 6) (v := .int 0) (C := RM) (T := TM) (N := 19) hx hb hts inM hown hK hP 0 rfl rfl 0 (by decide) (hts _ gw_574) (fun _ h9 => h9) rfl dM_balusters_36 ?_
        refine lv_if_le (tgt := 44) hx hb dM_balusters_39 (by decide) (fun c_17 => ?_) (fun c_17 => absurd (by decide) c_17)
        refine lv_aload_n hx hb dM_balusters_44 rfl (lv_at hl 0 rfl) ?_
        refine lv_iconst (v := 0) hx hb dM_balusters_45 (by decide) ?_
        refine va_put (D := (dC, dI)) (ci := 6) (v := .int 0) (ty := .boolean) (C := RM) (T := TM) (N := 19) hx hb hts inM yM yoM noM hown hK hP hD hS 0 rfl rfl 14 (by decide) (hts _ gw_588) (fun _ h9 => h9) rfl (by decide +kernel) rfl rfl (Nat.le_of_ble_eq_true rfl) dM_balusters_46 (fun H locs hP hD hS => ?_)
        have hP : va_P (dC, dI) vCl [(m0, .inr (6, [.int 0, .long mtot, .ref aTy, .int msz, .int mat, .int mfl, .int mru, .ref aTo, .ref aDr, .int (bI mpd), .int mk, .long mg, .long mw, .int mn, .int 0, .long mga, .long mgb, .int mfc, .ref aBx]))] H := hP
        have hD : va_D A [(m0, .inr (6, [.int 0, .long mtot, .ref aTy, .int msz, .int mat, .int mfl, .int mru, .ref aTo, .ref aDr, .int (bI mpd), .int mk, .long mg, .long mw, .int mn, .int 0, .long mga, .long mgb, .int mfc, .ref aBx]))] := hD
        refine lv_aload_n hx hb dM_balusters_49 rfl (lv_at hl 0 rfl) ?_
        refine va_get (D := (dC, dI)) (ci := 6) (v := .int mn) (C := RM) (T := TM) (N := 19) hx hb hts inM hown hK hP 0 rfl rfl 13 (by decide) (hts _ gw_587) (fun _ h9 => h9) rfl dM_balusters_50 ?_
        refine lv_i2l (v := mn.toInt64) hx hb dM_balusters_53 rfl ?_
        refine lv_lconst (v := 1) hx hb dM_balusters_54 (by decide) ?_
        refine lv_lsub hx hb dM_balusters_55 ?_
        refine lv_aload_n hx hb dM_balusters_56 rfl (lv_at hl 0 rfl) ?_
        refine va_get (D := (dC, dI)) (ci := 6) (v := .long mg) (C := RM) (T := TM) (N := 19) hx hb hts inM hown hK hP 0 rfl rfl 11 (by decide) (hts _ gw_585) (fun _ h9 => h9) rfl dM_balusters_57 ?_
        refine lv_lmul hx hb dM_balusters_60 ?_
        refine lv_lstore (lv' := [(5, .long ((mn.toInt64 - 1) * mg)), (0, .ref m0), (1, .long thick), (3, .long most)]) hx hb dM_balusters_61 hl (by decide) rfl (fun ls hl => ?_)
        refine lv_iconst (v := 0) hx hb dM_balusters_63 (by decide) ?_
        refine lv_istore (lv' := [(7, .int 0), (5, .long ((mn.toInt64 - 1) * mg)), (0, .ref m0), (1, .long thick), (3, .long most)]) hx hb dM_balusters_64 hl (by decide) rfl (fun ls hl => ?_)
        exact loop 1001 0 rfl hk9 _ _ hP hD hS ls (lv_sub hl [0, 1, 4, 3, 2] rfl)
  · skip
    refine lv_iconst (v := 0) hx hb dM_balusters_7 (by decide) ?_
    exact absurd (he.symm.trans (show balC mcode mtot msz mat mfl mru mpd mk mg mw mn mgp mga mgb mfc thick most = 1 from by unfold balC; rw [if_pos c_12]; exact mnn1 _ _ _ _ _ _ _ _ _ _ _ _ _ _ _ c_12)) (by decide)
