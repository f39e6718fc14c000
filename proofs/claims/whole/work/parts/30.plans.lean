def xP_requirePlan (tot : Int64) (pd : Bool) (gd : Bool) : Nat := if pd = true then 0 else 1

set_option maxHeartbeats 4000000 in
set_option maxRecDepth 100000 in
theorem c_P_requirePlan (l : Launch) (dC : Nat → ClassId) (dI : Nat → Nat → Nat) (p0 : Nat) (pT : Nat) (pR : Nat) (pS : Nat) (pF : Nat) (h0 : Nat) (pQ : Nat) (pG : Nat) (tot : Int64) (pd : Bool) (gd : Bool) (hx9 : xP_requirePlan tot pd gd = 0) : Met l mP_requirePlan wP_requirePlan ({ frames := 0, cells := 0, slots := 0, locals := 0 }) (tp_R (dC, dI) vCl [.ref p0] [(p0, .inr (0, [.ref pT, .ref pR, .ref pS, .ref pF, .ref h0, .ref pQ, .ref pG, .long tot, .int (bI pd), .int (bI gd)]))] []) (tq_R (none)) 0 0 (fun _ => False) := by
  refine Met.ofW (cc := bP_requirePlan) (maxL := 1) (ret := none) (by decide) rfl ?_
  intro p e s m args below meth c s₁ B hml hv
  obtain ⟨rfl, hP, hK, hN⟩ := hv
  have hx := B.exec
  have hb := B.bytes
  have hr := B.returns
  have hts : ∀ w ∈ gT, w.before _ s = true := fun w h => atoms_spec (ws := wP_requirePlan) B.pre w (List.mem_cons_of_mem _ h)
  have hown : s.vm.findClass RP = some m.cls := findClass_of_methodNamed B.named
  have hlocks := B.notSynchronized
  have hP : va_P (dC, dI) vCl [(p0, .inr (0, [.ref pT, .ref pR, .ref pS, .ref pF, .ref h0, .ref pQ, .ref pG, .long tot, .int (bI pd), .int (bI gd)]))] s.heap := hP
  have hl := lv_entry ([.ref p0]) (n := 1) (Nat.le_of_ble_eq_true rfl)
  rw [lg_entry_eq]
  generalize (lg_sl ([.ref p0]) ++ List.replicate (1 - (lg_sl ([.ref p0])).length) Slot.unset).toArray = ls at hl ⊢
  have hl : lv_has ls 1 [(0, .ref p0)] := hl
  refine lv_aload_n hx hb dP_requirePlan_0 rfl (lv_at hl 0 rfl) ?_
  refine va_get (D := (dC, dI)) (ci := 0) (v := .int (bI pd)) (C := RP) (T := TP) (N := 10) hx hb hts inP hown hK hP 0 rfl rfl 8 (by decide) (hts _ gw_107) (fun _ h9 => h9) rfl dP_requirePlan_1 ?_
  refine tb_ifne (tgt := 17) hx hb dP_requirePlan_4 (by decide) (fun c_1 => ?_) (fun c_1 => ?_)
  · skip
    exact W.vret hx hb hr (fun t ht hW => ⟨rfl, ht⟩) (fun q h => by cases h) dP_requirePlan_17
  · skip
    exact absurd (hx9.symm.trans (show xP_requirePlan tot pd gd = 1 from by unfold xP_requirePlan; rw [if_neg (Bool.eq_false_iff.mp c_1)])) (by decide)

set_option maxHeartbeats 4000000 in
set_option maxRecDepth 100000 in
theorem t_P_requirePlan (l : Launch) (dC : Nat → ClassId) (dI : Nat → Nat → Nat) (p0 : Nat) (pT : Nat) (pR : Nat) (pS : Nat) (pF : Nat) (h0 : Nat) (pQ : Nat) (pG : Nat) (tot : Int64) (pd : Bool) (gd : Bool) (hfl : l.stackTraces = false) (hx9 : ¬ xP_requirePlan tot pd gd = 0) : tw_Met l mP_requirePlan wP_requirePlan ({ frames := 6, cells := 1, slots := 6, locals := 82 }) (tp_T (dC, dI) vCl [.ref p0] [(p0, .inr (0, [.ref pT, .ref pR, .ref pS, .ref pF, .ref h0, .ref pQ, .ref pG, .long tot, .int (bI pd), .int (bI gd)]))] []) "java/lang/IllegalStateException" := by
  refine tw_ofW (cc := bP_requirePlan) (maxL := 1) (ret := none) (by decide) rfl ?_
  intro p e s m args below meth c s₁ B hml hne hv
  obtain ⟨rfl, hP, hK, hN, hZ⟩ := hv
  have hx := B.exec
  have hb := B.bytes
  have hr := B.returns
  have hts : ∀ w ∈ gT, w.before _ s = true := fun w h => atoms_spec (ws := wP_requirePlan) B.pre w (List.mem_cons_of_mem _ h)
  have hown : s.vm.findClass RP = some m.cls := findClass_of_methodNamed B.named
  have hlocks := B.notSynchronized
  have hP : va_P (dC, dI) vCl [(p0, .inr (0, [.ref pT, .ref pR, .ref pS, .ref pF, .ref h0, .ref pQ, .ref pG, .long tot, .int (bI pd), .int (bI gd)]))] s.heap := hP
  have hl := lv_entry ([.ref p0]) (n := 1) (Nat.le_of_ble_eq_true rfl)
  rw [lg_entry_eq]
  generalize (lg_sl ([.ref p0]) ++ List.replicate (1 - (lg_sl ([.ref p0])).length) Slot.unset).toArray = ls at hl ⊢
  have hl : lv_has ls 1 [(0, .ref p0)] := hl
  refine lv_aload_n hx hb dP_requirePlan_0 rfl (lv_at hl 0 rfl) ?_
  refine va_get (D := (dC, dI)) (ci := 0) (v := .int (bI pd)) (C := RP) (T := TP) (N := 10) hx hb hts inP hown hK hP 0 rfl rfl 8 (by decide) (hts _ gw_107) (fun _ h9 => h9) rfl dP_requirePlan_1 ?_
  refine tb_ifne (tgt := 17) hx hb dP_requirePlan_4 (by decide) (fun c_1 => ?_) (fun c_1 => ?_)
  · skip
    exact absurd (show xP_requirePlan tot pd gd = 0 from by unfold xP_requirePlan; rw [if_pos c_1]) hx9
  · skip
    exact tw_new (E := "java/lang/IllegalStateException") hx hb hml hl.1 hfl hlocks hne hown (tz_lit (hZ.1 _ sw_5 rfl)) (hts _ gw_305) (hts _ gw_16) (own_ISE hts hN hZ) (by decide) (by decide) dP_requirePlan_7 dP_requirePlan_10 dP_requirePlan_11 dP_requirePlan_13 dP_requirePlan_16 (Nat.le_of_ble_eq_true rfl) (Nat.le_of_ble_eq_true rfl) (Nat.le_of_ble_eq_true rfl) (Nat.le_of_ble_eq_true rfl)

def xP_requireIndex (ix : Int32) (cn : Int32) : Nat := if ix < 0 then 1 else (if ix < cn then 0 else 1)

set_option maxHeartbeats 4000000 in
set_option maxRecDepth 100000 in
theorem c_P_requireIndex (l : Launch) (dC : Nat → ClassId) (dI : Nat → Nat → Nat) (ix : Int32) (cn : Int32) (hx9 : xP_requireIndex ix cn = 0) : Met l mP_requireIndex wP_requireIndex ({ frames := 0, cells := 0, slots := 0, locals := 0 }) (tp_R (dC, dI) vCl [.int ix, .int cn] [] []) (tq_R (none)) 0 0 (fun _ => False) := by
  refine Met.ofW (cc := bP_requireIndex) (maxL := 2) (ret := none) (by decide) rfl ?_
  intro p e s m args below meth c s₁ B hml hv
  obtain ⟨rfl, hP, hK, hN⟩ := hv
  have hx := B.exec
  have hb := B.bytes
  have hr := B.returns
  have hts : ∀ w ∈ gT, w.before _ s = true := fun w h => atoms_spec (ws := wP_requireIndex) B.pre w (List.mem_cons_of_mem _ h)
  have hown : s.vm.findClass RP = some m.cls := findClass_of_methodNamed B.named
  have hlocks := B.notSynchronized
  have hP : va_P (dC, dI) vCl [] s.heap := hP
  have hl := lv_entry ([.int ix, .int cn]) (n := 2) (Nat.le_of_ble_eq_true rfl)
  rw [lg_entry_eq]
  generalize (lg_sl ([.int ix, .int cn]) ++ List.replicate (2 - (lg_sl ([.int ix, .int cn])).length) Slot.unset).toArray = ls at hl ⊢
  have hl : lv_has ls 2 [(0, .int ix), (1, .int cn)] := hl
  refine lv_iload_n hx hb dP_requireIndex_0 rfl (lv_at hl 0 rfl) ?_
  refine lv_if_lt (tgt := 9) hx hb dP_requireIndex_1 (by decide) (fun c_1 => ?_) (fun c_1 => ?_)
  · skip
    exact absurd (hx9.symm.trans (show xP_requireIndex ix cn = 1 from by unfold xP_requireIndex; rw [if_pos c_1])) (by decide)
  · skip
    refine lv_iload_n hx hb dP_requireIndex_4 rfl (lv_at hl 0 rfl) ?_
    refine lv_iload_n hx hb dP_requireIndex_5 rfl (lv_at hl 1 rfl) ?_
    refine lv_icmp_lt (tgt := 19) hx hb dP_requireIndex_6 (by decide) (fun c_2 => ?_) (fun c_2 => ?_)
    · skip
      exact W.vret hx hb hr (fun t ht hW => ⟨rfl, ht⟩) (fun q h => by cases h) dP_requireIndex_19
    · skip
      exact absurd (hx9.symm.trans (show xP_requireIndex ix cn = 1 from by unfold xP_requireIndex; rw [if_neg c_1, if_neg c_2])) (by decide)

set_option maxHeartbeats 4000000 in
set_option maxRecDepth 100000 in
theorem t_P_requireIndex (l : Launch) (dC : Nat → ClassId) (dI : Nat → Nat → Nat) (ix : Int32) (cn : Int32) (hfl : l.stackTraces = false) (hx9 : ¬ xP_requireIndex ix cn = 0) : tw_Met l mP_requireIndex wP_requireIndex ({ frames := 6, cells := 1, slots := 6, locals := 82 }) (tp_T (dC, dI) vCl [.int ix, .int cn] [] []) "java/lang/IndexOutOfBoundsException" := by
  refine tw_ofW (cc := bP_requireIndex) (maxL := 2) (ret := none) (by decide) rfl ?_
  intro p e s m args below meth c s₁ B hml hne hv
  obtain ⟨rfl, hP, hK, hN, hZ⟩ := hv
  have hx := B.exec
  have hb := B.bytes
  have hr := B.returns
  have hts : ∀ w ∈ gT, w.before _ s = true := fun w h => atoms_spec (ws := wP_requireIndex) B.pre w (List.mem_cons_of_mem _ h)
  have hown : s.vm.findClass RP = some m.cls := findClass_of_methodNamed B.named
  have hlocks := B.notSynchronized
  have hP : va_P (dC, dI) vCl [] s.heap := hP
  have hl := lv_entry ([.int ix, .int cn]) (n := 2) (Nat.le_of_ble_eq_true rfl)
  rw [lg_entry_eq]
  generalize (lg_sl ([.int ix, .int cn]) ++ List.replicate (2 - (lg_sl ([.int ix, .int cn])).length) Slot.unset).toArray = ls at hl ⊢
  have hl : lv_has ls 2 [(0, .int ix), (1, .int cn)] := hl
  refine lv_iload_n hx hb dP_requireIndex_0 rfl (lv_at hl 0 rfl) ?_
  refine lv_if_lt (tgt := 9) hx hb dP_requireIndex_1 (by decide) (fun c_1 => ?_) (fun c_1 => ?_)
  · skip
    exact tw_new (E := "java/lang/IndexOutOfBoundsException") hx hb hml hl.1 hfl hlocks hne hown (tz_lit (hZ.1 _ sw_6 rfl)) (hts _ gw_377) (hts _ gw_17) (own_IOB hts hN hZ) (by decide) (by decide) dP_requireIndex_9 dP_requireIndex_12 dP_requireIndex_13 dP_requireIndex_15 dP_requireIndex_18 (Nat.le_of_ble_eq_true rfl) (Nat.le_of_ble_eq_true rfl) (Nat.le_of_ble_eq_true rfl) (Nat.le_of_ble_eq_true rfl)
  · skip
    refine lv_iload_n hx hb dP_requireIndex_4 rfl (lv_at hl 0 rfl) ?_
    refine lv_iload_n hx hb dP_requireIndex_5 rfl (lv_at hl 1 rfl) ?_
    refine lv_icmp_lt (tgt := 19) hx hb dP_requireIndex_6 (by decide) (fun c_2 => ?_) (fun c_2 => ?_)
    · skip
      exact absurd (show xP_requireIndex ix cn = 0 from by unfold xP_requireIndex; rw [if_neg c_1, if_pos c_2]) hx9
    · skip
      exact tw_new (E := "java/lang/IndexOutOfBoundsException") hx hb hml hl.1 hfl hlocks hne hown (tz_lit (hZ.1 _ sw_6 rfl)) (hts _ gw_377) (hts _ gw_17) (own_IOB hts hN hZ) (by decide) (by decide) dP_requireIndex_9 dP_requireIndex_12 dP_requireIndex_13 dP_requireIndex_15 dP_requireIndex_18 (Nat.le_of_ble_eq_true rfl) (Nat.le_of_ble_eq_true rfl) (Nat.le_of_ble_eq_true rfl) (Nat.le_of_ble_eq_true rfl)

def xP_requireWinders (tot : Int64) (pd : Bool) (gd : Bool) (kind : Int32) (rises : Int32) (total : Int64) (going : Int64) (width : Int64) (cf : Int32) (ct : Int32) : Nat := if xP_requirePlan tot pd gd = 0 then (if (fA_winders kind rises total going width cf ct) = 0 then 1 else 0) else 1

set_option maxHeartbeats 4000000 in
set_option maxRecDepth 100000 in
theorem c_P_requireWinders (l : Launch) (dC : Nat → ClassId) (dI : Nat → Nat → Nat) (p0 : Nat) (pT : Nat) (pR : Nat) (pS : Nat) (pF : Nat) (h0 : Nat) (pQ : Nat) (pG : Nat) (tot : Int64) (pd : Bool) (gd : Bool) (kind : Int32) (rises : Int32) (total : Int64) (going : Int64) (width : Int64) (cf : Int32) (ct : Int32) (hx9 : xP_requireWinders tot pd gd kind rises total going width cf ct = 0) : Met l mP_requireWinders wP_requireWinders ({ frames := 1, cells := 0, slots := 0, locals := 20 }) (tp_R (dC, dI) vCl [.ref p0] [(p0, .inr (0, [.ref pT, .ref pR, .ref pS, .ref pF, .ref h0, .ref pQ, .ref pG, .long tot, .int (bI pd), .int (bI gd)])), (h0, .inr (4, [.int kind, .int rises, .long total, .long going, .long width, .int cf, .int ct]))] []) (tq_R (none)) 0 0 (fun _ => False) := by
  refine Met.ofW (cc := bP_requireWinders) (maxL := 1) (ret := none) (by decide) rfl ?_
  intro p e s m args below meth c s₁ B hml hv
  obtain ⟨rfl, hP, hK, hN⟩ := hv
  have hx := B.exec
  have hb := B.bytes
  have hr := B.returns
  have hts : ∀ w ∈ gT, w.before _ s = true := fun w h => atoms_spec (ws := wP_requireWinders) B.pre w (List.mem_cons_of_mem _ h)
  have hown : s.vm.findClass RP = some m.cls := findClass_of_methodNamed B.named
  have hlocks := B.notSynchronized
  have hP : va_P (dC, dI) vCl [(p0, .inr (0, [.ref pT, .ref pR, .ref pS, .ref pF, .ref h0, .ref pQ, .ref pG, .long tot, .int (bI pd), .int (bI gd)])), (h0, .inr (4, [.int kind, .int rises, .long total, .long going, .long width, .int cf, .int ct]))] s.heap := hP
  have hl := lv_entry ([.ref p0]) (n := 1) (Nat.le_of_ble_eq_true rfl)
  rw [lg_entry_eq]
  generalize (lg_sl ([.ref p0]) ++ List.replicate (1 - (lg_sl ([.ref p0])).length) Slot.unset).toArray = ls at hl ⊢
  have hl : lv_has ls 1 [(0, .ref p0)] := hl
  refine lv_aload_n hx hb dP_requireWinders_0 rfl (lv_at hl 0 rfl) ?_
  by_cases c_1 : xP_requirePlan tot pd gd = 0
  · skip
    refine tr_go (st1 := []) (va_runV (As := []) (rest := []) (C := RP) ⟨hx, hb, hml, hown, hts⟩ (c_P_requirePlan l dC dI p0 pT pR pS pF h0 pQ pG tot pd gd c_1) ⟨cB 0 hts gw_373 gw_1 gw_371 ndP_requirePlan rfl rfl ⟨Nat.le_of_ble_eq_true rfl, Nat.le_of_ble_eq_true rfl⟩, hts _ gw_372, hts _ gw_750⟩ (tp_Rv hN hK hP [0] [] rfl rfl (q0 := 0) (ci := 0) rfl rfl) rfl rfl hl.1 rfl (lv_room (Nat.le_of_ble_eq_true rfl)) dP_requireWinders_1 ⟨Nat.le_of_ble_eq_true rfl, Nat.le_of_ble_eq_true rfl⟩) rfl ?_
    refine lv_aload_n hx hb dP_requireWinders_4 rfl (lv_at hl 0 rfl) ?_
    refine va_get (D := (dC, dI)) (ci := 0) (v := .ref h0) (C := RP) (T := TP) (N := 10) hx hb hts inP hown hK hP 0 rfl rfl 4 (by decide) (hts _ gw_103) (fun _ h9 => h9) rfl dP_requireWinders_5 ?_
    refine tr_go (st1 := [.int (fA_winders kind rises total going width cf ct)]) (va_runV (As := []) (rest := []) (C := RA) ⟨hx, hb, hml, hown, hts⟩ (c_A_winders l dC dI h0 kind rises total going width cf ct) ⟨cB 0 hts gw_343 gw_5 gw_437 ndA_winders rfl rfl ⟨Nat.le_of_ble_eq_true rfl, Nat.le_of_ble_eq_true rfl⟩, hts _ gw_341, hts _ gw_342⟩ (tp_Rv hN hK hP [1] [] rfl rfl (q0 := 1) (ci := 4) rfl rfl) rfl rfl hl.1 rfl (lv_room (Nat.le_of_ble_eq_true rfl)) dP_requireWinders_8 ⟨Nat.le_of_ble_eq_true rfl, Nat.le_of_ble_eq_true rfl⟩) rfl ?_
    refine lv_if_ne (tgt := 24) hx hb dP_requireWinders_11 (by decide) (fun c_2 => ?_) (fun c_2 => ?_)
    · skip
      exact W.vret hx hb hr (fun t ht hW => ⟨rfl, ht⟩) (fun q h => by cases h) dP_requireWinders_24
    · skip
      exact absurd (hx9.symm.trans (show xP_requireWinders tot pd gd kind rises total going width cf ct = 1 from by unfold xP_requireWinders; rw [if_pos c_1, if_pos c_2])) (by decide)
  · skip
    exact absurd (hx9.symm.trans (show xP_requireWinders tot pd gd kind rises total going width cf ct = 1 from by unfold xP_requireWinders; rw [if_neg c_1])) (by decide)

set_option maxHeartbeats 4000000 in
set_option maxRecDepth 100000 in
theorem t_P_requireWinders (l : Launch) (dC : Nat → ClassId) (dI : Nat → Nat → Nat) (p0 : Nat) (pT : Nat) (pR : Nat) (pS : Nat) (pF : Nat) (h0 : Nat) (pQ : Nat) (pG : Nat) (tot : Int64) (pd : Bool) (gd : Bool) (kind : Int32) (rises : Int32) (total : Int64) (going : Int64) (width : Int64) (cf : Int32) (ct : Int32) (hfl : l.stackTraces = false) (hx9 : ¬ xP_requireWinders tot pd gd kind rises total going width cf ct = 0) : tw_Met l mP_requireWinders wP_requireWinders ({ frames := 7, cells := 1, slots := 6, locals := 102 }) (tp_T (dC, dI) vCl [.ref p0] [(p0, .inr (0, [.ref pT, .ref pR, .ref pS, .ref pF, .ref h0, .ref pQ, .ref pG, .long tot, .int (bI pd), .int (bI gd)])), (h0, .inr (4, [.int kind, .int rises, .long total, .long going, .long width, .int cf, .int ct]))] []) "java/lang/IllegalStateException" := by
  refine tw_ofW (cc := bP_requireWinders) (maxL := 1) (ret := none) (by decide) rfl ?_
  intro p e s m args below meth c s₁ B hml hne hv
  obtain ⟨rfl, hP, hK, hN, hZ⟩ := hv
  have hx := B.exec
  have hb := B.bytes
  have hr := B.returns
  have hts : ∀ w ∈ gT, w.before _ s = true := fun w h => atoms_spec (ws := wP_requireWinders) B.pre w (List.mem_cons_of_mem _ h)
  have hown : s.vm.findClass RP = some m.cls := findClass_of_methodNamed B.named
  have hlocks := B.notSynchronized
  have hP : va_P (dC, dI) vCl [(p0, .inr (0, [.ref pT, .ref pR, .ref pS, .ref pF, .ref h0, .ref pQ, .ref pG, .long tot, .int (bI pd), .int (bI gd)])), (h0, .inr (4, [.int kind, .int rises, .long total, .long going, .long width, .int cf, .int ct]))] s.heap := hP
  have hl := lv_entry ([.ref p0]) (n := 1) (Nat.le_of_ble_eq_true rfl)
  rw [lg_entry_eq]
  generalize (lg_sl ([.ref p0]) ++ List.replicate (1 - (lg_sl ([.ref p0])).length) Slot.unset).toArray = ls at hl ⊢
  have hl : lv_has ls 1 [(0, .ref p0)] := hl
  refine lv_aload_n hx hb dP_requireWinders_0 rfl (lv_at hl 0 rfl) ?_
  by_cases c_1 : xP_requirePlan tot pd gd = 0
  · skip
    refine tr_go (st1 := []) (va_runV (As := []) (rest := []) (C := RP) ⟨hx, hb, hml, hown, hts⟩ (c_P_requirePlan l dC dI p0 pT pR pS pF h0 pQ pG tot pd gd c_1) ⟨cB 0 hts gw_373 gw_1 gw_371 ndP_requirePlan rfl rfl ⟨Nat.le_of_ble_eq_true rfl, Nat.le_of_ble_eq_true rfl⟩, hts _ gw_372, hts _ gw_750⟩ (tp_Rv hN hK hP [0] [] rfl rfl (q0 := 0) (ci := 0) rfl rfl) rfl rfl hl.1 rfl (lv_room (Nat.le_of_ble_eq_true rfl)) dP_requireWinders_1 ⟨Nat.le_of_ble_eq_true rfl, Nat.le_of_ble_eq_true rfl⟩) rfl ?_
    refine lv_aload_n hx hb dP_requireWinders_4 rfl (lv_at hl 0 rfl) ?_
    refine va_get (D := (dC, dI)) (ci := 0) (v := .ref h0) (C := RP) (T := TP) (N := 10) hx hb hts inP hown hK hP 0 rfl rfl 4 (by decide) (hts _ gw_103) (fun _ h9 => h9) rfl dP_requireWinders_5 ?_
    refine tr_go (st1 := [.int (fA_winders kind rises total going width cf ct)]) (va_runV (As := []) (rest := []) (C := RA) ⟨hx, hb, hml, hown, hts⟩ (c_A_winders l dC dI h0 kind rises total going width cf ct) ⟨cB 0 hts gw_343 gw_5 gw_437 ndA_winders rfl rfl ⟨Nat.le_of_ble_eq_true rfl, Nat.le_of_ble_eq_true rfl⟩, hts _ gw_341, hts _ gw_342⟩ (tp_Rv hN hK hP [1] [] rfl rfl (q0 := 1) (ci := 4) rfl rfl) rfl rfl hl.1 rfl (lv_room (Nat.le_of_ble_eq_true rfl)) dP_requireWinders_8 ⟨Nat.le_of_ble_eq_true rfl, Nat.le_of_ble_eq_true rfl⟩) rfl ?_
    refine lv_if_ne (tgt := 24) hx hb dP_requireWinders_11 (by decide) (fun c_2 => ?_) (fun c_2 => ?_)
    · skip
      exact absurd (show xP_requireWinders tot pd gd kind rises total going width cf ct = 0 from by unfold xP_requireWinders; rw [if_pos c_1, if_neg c_2]) hx9
    · skip
      exact tw_new (E := "java/lang/IllegalStateException") hx hb hml hl.1 hfl hlocks hne hown (tz_lit (hZ.1 _ sw_8 rfl)) (hts _ gw_305) (hts _ gw_16) (own_ISE hts hN hZ) (by decide) (by decide) dP_requireWinders_14 dP_requireWinders_17 dP_requireWinders_18 dP_requireWinders_20 dP_requireWinders_23 (Nat.le_of_ble_eq_true rfl) (Nat.le_of_ble_eq_true rfl) (Nat.le_of_ble_eq_true rfl) (Nat.le_of_ble_eq_true rfl)
  · skip
    refine tw_runV (As := []) (rest := []) (C := RP) ⟨hx, hb, hml, hown, hts⟩ (t_P_requirePlan l dC dI p0 pT pR pS pF h0 pQ pG tot pd gd hfl c_1) ⟨cB 0 hts gw_373 gw_1 gw_371 ndP_requirePlan rfl rfl ⟨Nat.le_of_ble_eq_true rfl, Nat.le_of_ble_eq_true rfl⟩, hts _ gw_372, hts _ gw_750⟩ (tp_Tv hZ (fun _ _ => rfl) hN hK hP [0] [] rfl rfl (q0 := 0) (ci := 0) rfl rfl) rfl hl.1 rfl (Nat.le_of_ble_eq_true rfl) dP_requireWinders_1 ⟨Nat.le_of_ble_eq_true rfl, Nat.le_of_ble_eq_true rfl⟩ (fun x9 H9 hN9 => ?_)
    exact tw_leave hlocks hne hN9

def xP_rise (tot : Int64) (pd : Bool) (gd : Bool) (rn : Int64) (rd : Int64) (part : Int32) : Nat := if xP_requirePlan tot pd gd = 0 then (if xP_requireIndex part 2 = 0 then (if part = 0 then 0 else 0) else 2) else 1

def fP_rise (tot : Int64) (pd : Bool) (gd : Bool) (rn : Int64) (rd : Int64) (part : Int32) : Int64 := if xP_requirePlan tot pd gd = 0 then (if xP_requireIndex part 2 = 0 then (if part = 0 then rn else rd) else 0) else 0
set_option maxHeartbeats 4000000 in
set_option maxRecDepth 100000 in
theorem c_P_rise (l : Launch) (dC : Nat → ClassId) (dI : Nat → Nat → Nat) (p0 : Nat) (pT : Nat) (pR : Nat) (pS : Nat) (pF : Nat) (h0 : Nat) (pQ : Nat) (pG : Nat) (tot : Int64) (pd : Bool) (gd : Bool) (rn : Int64) (rd : Int64) (part : Int32) (hx9 : xP_rise tot pd gd rn rd part = 0) : Met l mP_rise wP_rise ({ frames := 1, cells := 0, slots := 0, locals := 21 }) (tp_R (dC, dI) vCl [.ref p0, .int part] [(p0, .inr (0, [.ref pT, .ref pR, .ref pS, .ref pF, .ref h0, .ref pQ, .ref pG, .long tot, .int (bI pd), .int (bI gd)])), (pQ, .inr (5, [.long rn, .long rd]))] []) (tq_R (some (.long (fP_rise tot pd gd rn rd part)))) 0 0 (fun _ => False) := by
  refine Met.ofW (cc := bP_rise) (maxL := 2) (ret := (some .long)) (by decide) rfl ?_
  intro p e s m args below meth c s₁ B hml hv
  obtain ⟨rfl, hP, hK, hN⟩ := hv
  have hx := B.exec
  have hb := B.bytes
  have hr := B.returns
  have hts : ∀ w ∈ gT, w.before _ s = true := fun w h => atoms_spec (ws := wP_rise) B.pre w (List.mem_cons_of_mem _ h)
  have hown : s.vm.findClass RP = some m.cls := findClass_of_methodNamed B.named
  have hlocks := B.notSynchronized
  have hP : va_P (dC, dI) vCl [(p0, .inr (0, [.ref pT, .ref pR, .ref pS, .ref pF, .ref h0, .ref pQ, .ref pG, .long tot, .int (bI pd), .int (bI gd)])), (pQ, .inr (5, [.long rn, .long rd]))] s.heap := hP
  have hl := lv_entry ([.ref p0, .int part]) (n := 2) (Nat.le_of_ble_eq_true rfl)
  rw [lg_entry_eq]
  generalize (lg_sl ([.ref p0, .int part]) ++ List.replicate (2 - (lg_sl ([.ref p0, .int part])).length) Slot.unset).toArray = ls at hl ⊢
  have hl : lv_has ls 2 [(0, .ref p0), (1, .int part)] := hl
  refine lv_aload_n hx hb dP_rise_0 rfl (lv_at hl 0 rfl) ?_
  by_cases c_1 : xP_requirePlan tot pd gd = 0
  · skip
    refine tr_go (st1 := []) (va_runV (As := []) (rest := []) (C := RP) ⟨hx, hb, hml, hown, hts⟩ (c_P_requirePlan l dC dI p0 pT pR pS pF h0 pQ pG tot pd gd c_1) ⟨cB 0 hts gw_373 gw_1 gw_371 ndP_requirePlan rfl rfl ⟨Nat.le_of_ble_eq_true rfl, Nat.le_of_ble_eq_true rfl⟩, hts _ gw_372, hts _ gw_750⟩ (tp_Rv hN hK hP [0] [] rfl rfl (q0 := 0) (ci := 0) rfl rfl) rfl rfl hl.1 rfl (lv_room (Nat.le_of_ble_eq_true rfl)) dP_rise_1 ⟨Nat.le_of_ble_eq_true rfl, Nat.le_of_ble_eq_true rfl⟩) rfl ?_
    refine lv_iload_n hx hb dP_rise_4 rfl (lv_at hl 1 rfl) ?_
    refine lv_iconst (v := 2) hx hb dP_rise_5 (by decide) ?_
    by_cases c_2 : xP_requireIndex part 2 = 0
    · skip
      refine tr_go (st1 := []) (va_runS (As := [.int part, .int 2]) (rest := []) ⟨hx, hb, hml, hown, hts⟩ (c_P_requireIndex l dC dI part 2 c_2) ⟨cB 2 hts gw_376 gw_1 gw_374 ndP_requireIndex rfl rfl ⟨Nat.le_of_ble_eq_true rfl, Nat.le_of_ble_eq_true rfl⟩, hts _ gw_375⟩ (tp_Rs hN hK hP [] [] rfl rfl) rfl rfl hl.1 rfl (lv_room (Nat.le_of_ble_eq_true rfl)) dP_rise_6 ⟨Nat.le_of_ble_eq_true rfl, Nat.le_of_ble_eq_true rfl⟩) rfl ?_
      refine lv_iload_n hx hb dP_rise_9 rfl (lv_at hl 1 rfl) ?_
      refine lv_if_ne (tgt := 23) hx hb dP_rise_10 (by decide) (fun c_3 => ?_) (fun c_3 => ?_)
      · skip
        refine lv_aload_n hx hb dP_rise_23 rfl (lv_at hl 0 rfl) ?_
        refine va_get (D := (dC, dI)) (ci := 0) (v := .ref pQ) (C := RP) (T := TP) (N := 10) hx hb hts inP hown hK hP 0 rfl rfl 5 (by decide) (hts _ gw_104) (fun _ h9 => h9) rfl dP_rise_24 ?_
        refine va_getN (D := (dC, dI)) (ci := 5) (v := .long rd) (C := RQ) (T := TQ) (N := 2) hx hb hts inQ hown hK hP 1 rfl rfl 1 (by decide) (va_Nw.use rfl (hN _ nw_14 rfl)) (fun _ h9 => h9) rfl dP_rise_27 ?_
        exact W.lret (v := rd) hx hb hr (fun t ht hW => ⟨by rw [show fP_rise tot pd gd rn rd part = rd from by unfold fP_rise; rw [if_pos c_1, if_pos c_2, if_neg c_3]], ht⟩) (fun q h => by cases h) dP_rise_30
      · skip
        refine lv_aload_n hx hb dP_rise_13 rfl (lv_at hl 0 rfl) ?_
        refine va_get (D := (dC, dI)) (ci := 0) (v := .ref pQ) (C := RP) (T := TP) (N := 10) hx hb hts inP hown hK hP 0 rfl rfl 5 (by decide) (hts _ gw_104) (fun _ h9 => h9) rfl dP_rise_14 ?_
        refine va_getN (D := (dC, dI)) (ci := 5) (v := .long rn) (C := RQ) (T := TQ) (N := 2) hx hb hts inQ hown hK hP 1 rfl rfl 0 (by decide) (va_Nw.use rfl (hN _ nw_13 rfl)) (fun _ h9 => h9) rfl dP_rise_17 ?_
        refine lv_goto (tgt := 30) hx hb dP_rise_20 (by decide) ?_
        exact W.lret (v := rn) hx hb hr (fun t ht hW => ⟨by rw [show fP_rise tot pd gd rn rd part = rn from by unfold fP_rise; rw [if_pos c_1, if_pos c_2, if_pos c_3]], ht⟩) (fun q h => by cases h) dP_rise_30
    · skip
      exact absurd (hx9.symm.trans (show xP_rise tot pd gd rn rd part = 2 from by unfold xP_rise; rw [if_pos c_1, if_neg c_2])) (by decide)
  · skip
    exact absurd (hx9.symm.trans (show xP_rise tot pd gd rn rd part = 1 from by unfold xP_rise; rw [if_neg c_1])) (by decide)

set_option maxHeartbeats 4000000 in
set_option maxRecDepth 100000 in
theorem t_P_rise_ISE (l : Launch) (dC : Nat → ClassId) (dI : Nat → Nat → Nat) (p0 : Nat) (pT : Nat) (pR : Nat) (pS : Nat) (pF : Nat) (h0 : Nat) (pQ : Nat) (pG : Nat) (tot : Int64) (pd : Bool) (gd : Bool) (rn : Int64) (rd : Int64) (part : Int32) (hfl : l.stackTraces = false) (hx9 : xP_rise tot pd gd rn rd part = 1) : tw_Met l mP_rise wP_rise ({ frames := 7, cells := 1, slots := 6, locals := 102 }) (tp_T (dC, dI) vCl [.ref p0, .int part] [(p0, .inr (0, [.ref pT, .ref pR, .ref pS, .ref pF, .ref h0, .ref pQ, .ref pG, .long tot, .int (bI pd), .int (bI gd)])), (pQ, .inr (5, [.long rn, .long rd]))] []) "java/lang/IllegalStateException" := by
  refine tw_ofW (cc := bP_rise) (maxL := 2) (ret := (some .long)) (by decide) rfl ?_
  intro p e s m args below meth c s₁ B hml hne hv
  obtain ⟨rfl, hP, hK, hN, hZ⟩ := hv
  have hx := B.exec
  have hb := B.bytes
  have hr := B.returns
  have hts : ∀ w ∈ gT, w.before _ s = true := fun w h => atoms_spec (ws := wP_rise) B.pre w (List.mem_cons_of_mem _ h)
  have hown : s.vm.findClass RP = some m.cls := findClass_of_methodNamed B.named
  have hlocks := B.notSynchronized
  have hP : va_P (dC, dI) vCl [(p0, .inr (0, [.ref pT, .ref pR, .ref pS, .ref pF, .ref h0, .ref pQ, .ref pG, .long tot, .int (bI pd), .int (bI gd)])), (pQ, .inr (5, [.long rn, .long rd]))] s.heap := hP
  have hl := lv_entry ([.ref p0, .int part]) (n := 2) (Nat.le_of_ble_eq_true rfl)
  rw [lg_entry_eq]
  generalize (lg_sl ([.ref p0, .int part]) ++ List.replicate (2 - (lg_sl ([.ref p0, .int part])).length) Slot.unset).toArray = ls at hl ⊢
  have hl : lv_has ls 2 [(0, .ref p0), (1, .int part)] := hl
  refine lv_aload_n hx hb dP_rise_0 rfl (lv_at hl 0 rfl) ?_
  by_cases c_1 : xP_requirePlan tot pd gd = 0
  · skip
    refine tr_go (st1 := []) (va_runV (As := []) (rest := []) (C := RP) ⟨hx, hb, hml, hown, hts⟩ (c_P_requirePlan l dC dI p0 pT pR pS pF h0 pQ pG tot pd gd c_1) ⟨cB 0 hts gw_373 gw_1 gw_371 ndP_requirePlan rfl rfl ⟨Nat.le_of_ble_eq_true rfl, Nat.le_of_ble_eq_true rfl⟩, hts _ gw_372, hts _ gw_750⟩ (tp_Rv hN hK hP [0] [] rfl rfl (q0 := 0) (ci := 0) rfl rfl) rfl rfl hl.1 rfl (lv_room (Nat.le_of_ble_eq_true rfl)) dP_rise_1 ⟨Nat.le_of_ble_eq_true rfl, Nat.le_of_ble_eq_true rfl⟩) rfl ?_
    refine lv_iload_n hx hb dP_rise_4 rfl (lv_at hl 1 rfl) ?_
    refine lv_iconst (v := 2) hx hb dP_rise_5 (by decide) ?_
    by_cases c_2 : xP_requireIndex part 2 = 0
    · skip
      refine tr_go (st1 := []) (va_runS (As := [.int part, .int 2]) (rest := []) ⟨hx, hb, hml, hown, hts⟩ (c_P_requireIndex l dC dI part 2 c_2) ⟨cB 2 hts gw_376 gw_1 gw_374 ndP_requireIndex rfl rfl ⟨Nat.le_of_ble_eq_true rfl, Nat.le_of_ble_eq_true rfl⟩, hts _ gw_375⟩ (tp_Rs hN hK hP [] [] rfl rfl) rfl rfl hl.1 rfl (lv_room (Nat.le_of_ble_eq_true rfl)) dP_rise_6 ⟨Nat.le_of_ble_eq_true rfl, Nat.le_of_ble_eq_true rfl⟩) rfl ?_
      refine lv_iload_n hx hb dP_rise_9 rfl (lv_at hl 1 rfl) ?_
      refine lv_if_ne (tgt := 23) hx hb dP_rise_10 (by decide) (fun c_3 => ?_) (fun c_3 => ?_)
      · skip
        refine lv_aload_n hx hb dP_rise_23 rfl (lv_at hl 0 rfl) ?_
        refine va_get (D := (dC, dI)) (ci := 0) (v := .ref pQ) (C := RP) (T := TP) (N := 10) hx hb hts inP hown hK hP 0 rfl rfl 5 (by decide) (hts _ gw_104) (fun _ h9 => h9) rfl dP_rise_24 ?_
        refine va_getN (D := (dC, dI)) (ci := 5) (v := .long rd) (C := RQ) (T := TQ) (N := 2) hx hb hts inQ hown hK hP 1 rfl rfl 1 (by decide) (va_Nw.use rfl (hN _ nw_14 rfl)) (fun _ h9 => h9) rfl dP_rise_27 ?_
        exact absurd (hx9.symm.trans (show xP_rise tot pd gd rn rd part = 0 from by unfold xP_rise; rw [if_pos c_1, if_pos c_2, if_neg c_3])) (by decide)
      · skip
        refine lv_aload_n hx hb dP_rise_13 rfl (lv_at hl 0 rfl) ?_
        refine va_get (D := (dC, dI)) (ci := 0) (v := .ref pQ) (C := RP) (T := TP) (N := 10) hx hb hts inP hown hK hP 0 rfl rfl 5 (by decide) (hts _ gw_104) (fun _ h9 => h9) rfl dP_rise_14 ?_
        refine va_getN (D := (dC, dI)) (ci := 5) (v := .long rn) (C := RQ) (T := TQ) (N := 2) hx hb hts inQ hown hK hP 1 rfl rfl 0 (by decide) (va_Nw.use rfl (hN _ nw_13 rfl)) (fun _ h9 => h9) rfl dP_rise_17 ?_
        refine lv_goto (tgt := 30) hx hb dP_rise_20 (by decide) ?_
        exact absurd (hx9.symm.trans (show xP_rise tot pd gd rn rd part = 0 from by unfold xP_rise; rw [if_pos c_1, if_pos c_2, if_pos c_3])) (by decide)
    · skip
      exact absurd (hx9.symm.trans (show xP_rise tot pd gd rn rd part = 2 from by unfold xP_rise; rw [if_pos c_1, if_neg c_2])) (by decide)
  · skip
    refine tw_runV (As := []) (rest := []) (C := RP) ⟨hx, hb, hml, hown, hts⟩ (t_P_requirePlan l dC dI p0 pT pR pS pF h0 pQ pG tot pd gd hfl c_1) ⟨cB 0 hts gw_373 gw_1 gw_371 ndP_requirePlan rfl rfl ⟨Nat.le_of_ble_eq_true rfl, Nat.le_of_ble_eq_true rfl⟩, hts _ gw_372, hts _ gw_750⟩ (tp_Tv hZ (fun _ _ => rfl) hN hK hP [0] [] rfl rfl (q0 := 0) (ci := 0) rfl rfl) rfl hl.1 rfl (Nat.le_of_ble_eq_true rfl) dP_rise_1 ⟨Nat.le_of_ble_eq_true rfl, Nat.le_of_ble_eq_true rfl⟩ (fun x9 H9 hN9 => ?_)
    exact tw_leave hlocks hne hN9

set_option maxHeartbeats 4000000 in
set_option maxRecDepth 100000 in
theorem t_P_rise_IOB (l : Launch) (dC : Nat → ClassId) (dI : Nat → Nat → Nat) (p0 : Nat) (pT : Nat) (pR : Nat) (pS : Nat) (pF : Nat) (h0 : Nat) (pQ : Nat) (pG : Nat) (tot : Int64) (pd : Bool) (gd : Bool) (rn : Int64) (rd : Int64) (part : Int32) (hfl : l.stackTraces = false) (hx9 : xP_rise tot pd gd rn rd part = 2) : tw_Met l mP_rise wP_rise ({ frames := 7, cells := 1, slots := 6, locals := 103 }) (tp_T (dC, dI) vCl [.ref p0, .int part] [(p0, .inr (0, [.ref pT, .ref pR, .ref pS, .ref pF, .ref h0, .ref pQ, .ref pG, .long tot, .int (bI pd), .int (bI gd)])), (pQ, .inr (5, [.long rn, .long rd]))] []) "java/lang/IndexOutOfBoundsException" := by
  refine tw_ofW (cc := bP_rise) (maxL := 2) (ret := (some .long)) (by decide) rfl ?_
  intro p e s m args below meth c s₁ B hml hne hv
  obtain ⟨rfl, hP, hK, hN, hZ⟩ := hv
  have hx := B.exec
  have hb := B.bytes
  have hr := B.returns
  have hts : ∀ w ∈ gT, w.before _ s = true := fun w h => atoms_spec (ws := wP_rise) B.pre w (List.mem_cons_of_mem _ h)
  have hown : s.vm.findClass RP = some m.cls := findClass_of_methodNamed B.named
  have hlocks := B.notSynchronized
  have hP : va_P (dC, dI) vCl [(p0, .inr (0, [.ref pT, .ref pR, .ref pS, .ref pF, .ref h0, .ref pQ, .ref pG, .long tot, .int (bI pd), .int (bI gd)])), (pQ, .inr (5, [.long rn, .long rd]))] s.heap := hP
  have hl := lv_entry ([.ref p0, .int part]) (n := 2) (Nat.le_of_ble_eq_true rfl)
  rw [lg_entry_eq]
  generalize (lg_sl ([.ref p0, .int part]) ++ List.replicate (2 - (lg_sl ([.ref p0, .int part])).length) Slot.unset).toArray = ls at hl ⊢
  have hl : lv_has ls 2 [(0, .ref p0), (1, .int part)] := hl
  refine lv_aload_n hx hb dP_rise_0 rfl (lv_at hl 0 rfl) ?_
  by_cases c_1 : xP_requirePlan tot pd gd = 0
  · skip
    refine tr_go (st1 := []) (va_runV (As := []) (rest := []) (C := RP) ⟨hx, hb, hml, hown, hts⟩ (c_P_requirePlan l dC dI p0 pT pR pS pF h0 pQ pG tot pd gd c_1) ⟨cB 0 hts gw_373 gw_1 gw_371 ndP_requirePlan rfl rfl ⟨Nat.le_of_ble_eq_true rfl, Nat.le_of_ble_eq_true rfl⟩, hts _ gw_372, hts _ gw_750⟩ (tp_Rv hN hK hP [0] [] rfl rfl (q0 := 0) (ci := 0) rfl rfl) rfl rfl hl.1 rfl (lv_room (Nat.le_of_ble_eq_true rfl)) dP_rise_1 ⟨Nat.le_of_ble_eq_true rfl, Nat.le_of_ble_eq_true rfl⟩) rfl ?_
    refine lv_iload_n hx hb dP_rise_4 rfl (lv_at hl 1 rfl) ?_
    refine lv_iconst (v := 2) hx hb dP_rise_5 (by decide) ?_
    by_cases c_2 : xP_requireIndex part 2 = 0
    · skip
      refine tr_go (st1 := []) (va_runS (As := [.int part, .int 2]) (rest := []) ⟨hx, hb, hml, hown, hts⟩ (c_P_requireIndex l dC dI part 2 c_2) ⟨cB 2 hts gw_376 gw_1 gw_374 ndP_requireIndex rfl rfl ⟨Nat.le_of_ble_eq_true rfl, Nat.le_of_ble_eq_true rfl⟩, hts _ gw_375⟩ (tp_Rs hN hK hP [] [] rfl rfl) rfl rfl hl.1 rfl (lv_room (Nat.le_of_ble_eq_true rfl)) dP_rise_6 ⟨Nat.le_of_ble_eq_true rfl, Nat.le_of_ble_eq_true rfl⟩) rfl ?_
      refine lv_iload_n hx hb dP_rise_9 rfl (lv_at hl 1 rfl) ?_
      refine lv_if_ne (tgt := 23) hx hb dP_rise_10 (by decide) (fun c_3 => ?_) (fun c_3 => ?_)
      · skip
        refine lv_aload_n hx hb dP_rise_23 rfl (lv_at hl 0 rfl) ?_
        refine va_get (D := (dC, dI)) (ci := 0) (v := .ref pQ) (C := RP) (T := TP) (N := 10) hx hb hts inP hown hK hP 0 rfl rfl 5 (by decide) (hts _ gw_104) (fun _ h9 => h9) rfl dP_rise_24 ?_
        refine va_getN (D := (dC, dI)) (ci := 5) (v := .long rd) (C := RQ) (T := TQ) (N := 2) hx hb hts inQ hown hK hP 1 rfl rfl 1 (by decide) (va_Nw.use rfl (hN _ nw_14 rfl)) (fun _ h9 => h9) rfl dP_rise_27 ?_
        exact absurd (hx9.symm.trans (show xP_rise tot pd gd rn rd part = 0 from by unfold xP_rise; rw [if_pos c_1, if_pos c_2, if_neg c_3])) (by decide)
      · skip
        refine lv_aload_n hx hb dP_rise_13 rfl (lv_at hl 0 rfl) ?_
        refine va_get (D := (dC, dI)) (ci := 0) (v := .ref pQ) (C := RP) (T := TP) (N := 10) hx hb hts inP hown hK hP 0 rfl rfl 5 (by decide) (hts _ gw_104) (fun _ h9 => h9) rfl dP_rise_14 ?_
        refine va_getN (D := (dC, dI)) (ci := 5) (v := .long rn) (C := RQ) (T := TQ) (N := 2) hx hb hts inQ hown hK hP 1 rfl rfl 0 (by decide) (va_Nw.use rfl (hN _ nw_13 rfl)) (fun _ h9 => h9) rfl dP_rise_17 ?_
        refine lv_goto (tgt := 30) hx hb dP_rise_20 (by decide) ?_
        exact absurd (hx9.symm.trans (show xP_rise tot pd gd rn rd part = 0 from by unfold xP_rise; rw [if_pos c_1, if_pos c_2, if_pos c_3])) (by decide)
    · skip
      refine tw_runS (As := [.int part, .int 2]) (rest := []) ⟨hx, hb, hml, hown, hts⟩ (t_P_requireIndex l dC dI part 2 hfl c_2) ⟨cB 2 hts gw_376 gw_1 gw_374 ndP_requireIndex rfl rfl ⟨Nat.le_of_ble_eq_true rfl, Nat.le_of_ble_eq_true rfl⟩, hts _ gw_375⟩ (tp_Ts hZ (fun _ _ => rfl) hN hK hP [] [] rfl rfl) rfl hl.1 rfl (Nat.le_of_ble_eq_true rfl) dP_rise_6 ⟨Nat.le_of_ble_eq_true rfl, Nat.le_of_ble_eq_true rfl⟩ (fun x9 H9 hN9 => ?_)
      exact tw_leave hlocks hne hN9
  · skip
    exact absurd (hx9.symm.trans (show xP_rise tot pd gd rn rd part = 1 from by unfold xP_rise; rw [if_neg c_1])) (by decide)
