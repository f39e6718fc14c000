def xP_requirePlan (tot : Int64) (pd : Bool) (gd : Bool) : Nat := if pd = true then 0 else 1

set_option maxHeartbeats 4000000 in
set_option maxRecDepth 100000 in
theorem c_P_requirePlan (l : Launch) (dC : Nat → ClassId) (dI : Nat → Nat → Nat) (p0 : Nat) (pT : Nat) (pR : Nat) (pS : Nat) (pF : Nat) (h0 : Nat) (pQ : Nat) (pG : Nat) (tot : Int64) (pd : Bool) (gd : Bool) (hx9 : xP_requirePlan tot pd gd = 0) : Met l mP_requirePlan wP_requirePlan ({ frames := 0, cells := 0, slots := 0, locals := 0 }) (tp_R (dC, dI) vCl [.ref p0] [(p0, .inr (0, [.ref pT, .ref pR, .ref pS, .ref pF, .ref h0, .ref pQ, .ref pG, .long tot, .int (bI pd), .int (bI gd)]))] []) (tq_R (none)) 0 0 (fun _ => False) := by
  refine Met.ofW (cc := bP_requirePlan) (maxL := 1) (ret := none) (by decide) rfl ?_
  intro p e s m args below meth c s₁ B hml hv
  obtain ⟨rfl, hP, hK, hN⟩ := hv
  have hx := B.exec
  have hb := B.bytes
  have hr := B.returns
  have hts : ∀ w ∈ gT, w.before _ s = true := fun w h => atoms_spec (ws := wP_requirePlan) B.pre w (List.mem_cons_of_mem _ h)
  have hown : s.vm.findClass RP = some m.cls := findClass_of_methodNamed B.named
  have hlocks := B.notSynchronized
  have hP : va_P (dC, dI) vCl [(p0, .inr (0, [.ref pT, .ref pR, .ref pS, .ref pF, .ref h0, .ref pQ, .ref pG, .long tot, .int (bI pd), .int (bI gd)]))] s.heap := hP
  have hl := lv_entry ([.ref p0]) (n := 1) (Nat.le_of_ble_eq_true rfl)
  rw [lg_entry_eq]
  generalize (lg_sl ([.ref p0]) ++ List.replicate (1 - (lg_sl ([.ref p0])).length) Slot.unset).toArray = ls at hl ⊢
  have hl : lv_has ls 1 [(0, .ref p0)] := hl
  refine lv_aload_n hx hb dP_requirePlan_0 rfl (lv_at hl 0 rfl) ?_
  refine va_get (D := (dC, dI)) (ci := 0) (v := .int (bI pd)) (C := RP) (T := TP) (N := 10) hx hb hts inP hown hK hP 0 rfl rfl 8 (by decide) (hts _ gw_107) (fun _ h9 => h9) rfl dP_requirePlan_1 ?_
  refine tb_ifne (tgt := 17) hx hb dP_requirePlan_4 (by decide) (fun c_1 => ?_) (fun c_1 => ?_)
  · skip
    exact W.vret hx hb hr (fun t ht hW => ⟨rfl, ht⟩) (fun q h => by cases h) dP_requirePlan_17
  · skip
    exact absurd (hx9.symm.trans (show xP_requirePlan tot pd gd = 1 from by unfold xP_requirePlan; rw [if_neg (Bool.eq_false_iff.mp c_1)])) (by decide)

set_option maxHeartbeats 4000000 in
set_option maxRecDepth 100000 in
theorem t_P_requirePlan (l : Launch) (dC : Nat → ClassId) (dI : Nat → Nat → Nat) (p0 : Nat) (pT : Nat) (pR : Nat) (pS : Nat) (pF : Nat) (h0 : Nat) (pQ : Nat) (pG : Nat) (tot : Int64) (pd : Bool) (gd : Bool) (hfl : l.stackTraces = false) (hx9 : ¬ xP_requirePlan tot pd gd = 0) : tw_Met l mP_requirePlan wP_requirePlan ({ frames := 6, cells := 1, slots := 6, locals := 82 }) (tp_T (dC, dI) vCl [.ref p0] [(p0, .inr (0, [.ref pT, .ref pR, .ref pS, .ref pF, .ref h0, .ref pQ, .ref pG, .long tot, .int (bI pd), .int (bI gd)]))] []) "java/lang/IllegalStateException" := by
  refine tw_ofW (cc := bP_requirePlan) (maxL := 1) (ret := none) (by decide) rfl ?_
  intro p e s m args below meth c s₁ B hml hne hv
  obtain ⟨rfl, hP, hK, hN, hZ⟩ := hv
  have hx := B.exec
  have hb := B.bytes
  have hr := B.returns
  have hts : ∀ w ∈ gT, w.before _ s = true := fun w h => atoms_spec (ws := wP_requirePlan) B.pre w (List.mem_cons_of_mem _ h)
  have hown : s.vm.findClass RP = some m.cls := findClass_of_methodNamed B.named
  have hlocks := B.notSynchronized
  have hP : va_P (dC, dI) vCl [(p0, .inr (0, [.ref pT, .ref pR, .ref pS, .ref pF, .ref h0, .ref pQ, .ref pG, .long tot, .int (bI pd), .int (bI gd)]))] s.heap := hP
  have hl := lv_entry ([.ref p0]) (n := 1) (Nat.le_of_ble_eq_true rfl)
  rw [lg_entry_eq]
  generalize (lg_sl ([.ref p0]) ++ List.replicate (1 - (lg_sl ([.ref p0])).length) Slot.unset).toArray = ls at hl ⊢
  have hl : lv_has ls 1 [(0, .ref p0)] := hl
  refine lv_aload_n hx hb dP_requirePlan_0 rfl (lv_at hl 0 rfl) ?_
  refine va_get (D := (dC, dI)) (ci := 0) (v := .int (bI pd)) (C := RP) (T := TP) (N := 10) hx hb hts inP hown hK hP 0 rfl rfl 8 (by decide) (hts _ gw_107) (fun _ h9 => h9) rfl dP_requirePlan_1 ?_
  refine tb_ifne (tgt := 17) hx hb dP_requirePlan_4 (by decide) (fun c_1 => ?_) (fun c_1 => ?_)
  · skip
    exact absurd (show xP_requirePlan tot pd gd = 0 from by unfold xP_requirePlan; rw [if_pos c_1]) hx9
  · skip
    exact tw_new (E := "java/lang/IllegalStateException") hx hb hml hl.1 hfl hlocks hne hown (tz_lit (hZ.1 _ sw_5 rfl)) (hts _ gw_305) (hts _ gw_16) (own_ISE hts hN hZ) (by decide) (by decide) dP_requirePlan_7 dP_requirePlan_10 dP_requirePlan_11 dP_requirePlan_13 dP_requirePlan_16 (Nat.le_of_ble_eq_true rfl) (Nat.le_of_ble_eq_true rfl) (Nat.le_of_ble_eq_true rfl) (Nat.le_of_ble_eq_true rfl)

def xP_requireIndex (ix : Int32) (cn : Int32) : Nat := if ix < 0 then 1 else (if ix < cn then 0 else 1)

set_option maxHeartbeats 4000000 in
set_option maxRecDepth 100000 in
theorem c_P_requireIndex (l : Launch) (dC : Nat → ClassId) (dI : Nat → Nat → Nat) (ix : Int32) (cn : Int32) (hx9 : xP_requireIndex ix cn = 0) : Met l mP_requireIndex wP_requireIndex ({ frames := 0, cells := 0, slots := 0, locals := 0 }) (tp_R (dC, dI) vCl [.int ix, .int cn] [] []) (tq_R (none)) 0 0 (fun _ => False) := by
  refine Met.ofW (cc := bP_requireIndex) (maxL := 2) (ret := none) (by decide) rfl ?_
  intro p e s m args below meth c s₁ B hml hv
  obtain ⟨rfl, hP, hK, hN⟩ := hv
  have hx := B.exec
  have hb := B.bytes
  have hr := B.returns
  have hts : ∀ w ∈ gT, w.before _ s = true := fun w h => atoms_spec (ws := wP_requireIndex) B.pre w (List.mem_cons_of_mem _ h)
  have hown : s.vm.findClass RP = some m.cls := findClass_of_methodNamed B.named
  have hlocks := B.notSynchronized
  have hP : va_P (dC, dI) vCl [] s.heap := hP
  have hl := lv_entry ([.int ix, .int cn]) (n := 2) (Nat.le_of_ble_eq_true rfl)
  rw [lg_entry_eq]
  generalize (lg_sl ([.int ix, .int cn]) ++ List.replicate (2 - (lg_sl ([.int ix, .int cn])).length) Slot.unset).toArray = ls at hl ⊢
  have hl : lv_has ls 2 [(0, .int ix), (1, .int cn)] := hl
  refine lv_iload_n hx hb dP_requireIndex_0 rfl (lv_at hl 0 rfl) ?_
  refine lv_if_lt (tgt := 9) hx hb dP_requireIndex_1 (by decide) (fun c_1 => ?_) (fun c_1 => ?_)
  · skip
    exact absurd (hx9.symm.trans (show xP_requireIndex ix cn = 1 from by unfold xP_requireIndex; rw [if_pos c_1])) (by decide)
  · skip
    refine lv_iload_n hx hb dP_requireIndex_4 rfl (lv_at hl 0 rfl) ?_
    refine lv_iload_n hx hb dP_requireIndex_5 rfl (lv_at hl 1 rfl) ?_
    refine lv_icmp_lt (tgt := 19) hx hb dP_requireIndex_6 (by decide) (fun c_2 => ?_) (fun c_2 => ?_)
    · skip
      exact W.vret hx hb hr (fun t ht hW => ⟨rfl, ht⟩) (fun q h => by cases h) dP_requireIndex_19
    · skip
      exact absurd (hx9.symm.trans (show xP_requireIndex ix cn = 1 from by unfold xP_requireIndex; rw [if_neg c_1, if_neg c_2])) (by decide)

set_option maxHeartbeats 4000000 in
set_option maxRecDepth 100000 in
theorem t_P_requireIndex (l : Launch) (dC : Nat → ClassId) (dI : Nat → Nat → Nat) (ix : Int32) (cn : Int32) (hfl : l.stackTraces = false) (hx9 : ¬ xP_requireIndex ix cn = 0) : tw_Met l mP_requireIndex wP_requireIndex ({ frames := 6, cells := 1, slots := 6, locals := 82 }) (tp_T (dC, dI) vCl [.int ix, .int cn] [] []) "java/lang/IndexOutOfBoundsException" := by
  refine tw_ofW (cc := bP_requireIndex) (maxL := 2) (ret := none) (by decide) rfl ?_
  intro p e s m args below meth c s₁ B hml hne hv
  obtain ⟨rfl, hP, hK, hN, hZ⟩ := hv
  have hx := B.exec
  have hb := B.bytes
  have hr := B.returns
  have hts : ∀ w ∈ gT, w.before _ s = true := fun w h => atoms_spec (ws := wP_requireIndex) B.pre w (List.mem_cons_of_mem _ h)
  have hown : s.vm.findClass RP = some m.cls := findClass_of_methodNamed B.named
  have hlocks := B.notSynchronized
  have hP : va_P (dC, dI) vCl [] s.heap := hP
  have hl := lv_entry ([.int ix, .int cn]) (n := 2) (Nat.le_of_ble_eq_true rfl)
  rw [lg_entry_eq]
  generalize (lg_sl ([.int ix, .int cn]) ++ List.replicate (2 - (lg_sl ([.int ix, .int cn])).length) Slot.unset).toArray = ls at hl ⊢
  have hl : lv_has ls 2 [(0, .int ix), (1, .int cn)] := hl
  refine lv_iload_n hx hb dP_requireIndex_0 rfl (lv_at hl 0 rfl) ?_
  refine lv_if_lt (tgt := 9) hx hb dP_requireIndex_1 (by decide) (fun c_1 => ?_) (fun c_1 => ?_)
  · skip
    exact tw_new (E := "java/lang/IndexOutOfBoundsException") hx hb hml hl.1 hfl hlocks hne hown (tz_lit (hZ.1 _ sw_6 rfl)) (hts _ gw_377) (hts _ gw_17) (own_IOB hts hN hZ) (by decide) (by decide) dP_requireIndex_9 dP_requireIndex_12 dP_requireIndex_13 dP_requireIndex_15 dP_requireIndex_18 (Nat.le_of_ble_eq_true rfl) (Nat.le_of_ble_eq_true rfl) (Nat.le_of_ble_eq_true rfl) (Nat.le_of_ble_eq_true rfl)
  · skip
    refine lv_iload_n hx hb dP_requireIndex_4 rfl (lv_at hl 0 rfl) ?_
    refine lv_iload_n hx hb dP_requireIndex_5 rfl (lv_at hl 1 rfl) ?_
    refine lv_icmp_lt (tgt := 19) hx hb dP_requireIndex_6 (by decide) (fun c_2 => ?_) (fun c_2 => ?_)
    · skip
      exact absurd (show xP_requireIndex ix cn = 0 from by unfold xP_requireIndex; rw [if_neg c_1, if_pos c_2]) hx9
    · skip
      exact tw_new (E := "java/lang/IndexOutOfBoundsException") hx hb hml hl.1 hfl hlocks hne hown (tz_lit (hZ.1 _ sw_6 rfl)) (hts _ gw_377) (hts _ gw_17) (own_IOB hts hN hZ) (by decide) (by decide) dP_requireIndex_9 dP_requireIndex_12 dP_requireIndex_13 dP_requireIndex_15 dP_requireIndex_18 (Nat.le_of_ble_eq_true rfl) (Nat.le_of_ble_eq_true rfl) (Nat.le_of_ble_eq_true rfl) (Nat.le_of_ble_eq_true rfl)

def xP_requireWinders (tot : Int64) (pd : Bool) (gd : Bool) (kind : Int32) (rises : Int32) (total : Int64) (going : Int64) (width : Int64) (cf : Int32) (ct : Int32) : Nat := if xP_requirePlan tot pd gd = 0 then (if (fA_winders kind rises total going width cf ct) = 0 then 1 else 0) else 1

set_option maxHeartbeats 4000000 in
set_option maxRecDepth 100000 in
theorem c_P_requireWinders (l : Launch) (dC : Nat → ClassId) (dI : Nat → Nat → Nat) (p0 : Nat) (pT : Nat) (pR : Nat) (pS : Nat) (pF : Nat) (h0 : Nat) (pQ : Nat) (pG : Nat) (tot : Int64) (pd : Bool) (gd : Bool) (kind : Int32) (rises : Int32) (total : Int64) (going : Int64) (width : Int64) (cf : Int32) (ct : Int32) (hx9 : xP_requireWinders tot pd gd kind rises total going width cf ct = 0) : Met l mP_requireWinders wP_requireWinders ({ frames := 1, cells := 0, slots := 0, locals := 20 }) (tp_R (dC, dI) vCl [.ref p0] [(p0, .inr (0, [.ref pT, .ref pR, .ref pS, .ref pF, .ref h0, .ref pQ, .ref pG, .long tot, .int (bI pd), .int (bI gd)])), (h0, .inr (4, [.int kind, .int rises, .long total, .long going, .long width, .int cf, .int ct]))] []) (tq_R (none)) 0 0 (fun _ => False) := by
  refine Met.ofW (cc := bP_requireWinders) (maxL := 1) (ret := none) (by decide) rfl ?_
  intro p e s m args below meth c s₁ B hml hv
  obtain ⟨rfl, hP, hK, hN⟩ := hv
  have hx := B.exec
  have hb := B.bytes
  have hr := B.returns
  have hts : ∀ w ∈ gT, w.before _ s = true := fun w h => atoms_spec (ws := wP_requireWinders) B.pre w (List.mem_cons_of_mem _ h)
  have hown : s.vm.findClass RP = some m.cls := findClass_of_methodNamed B.named
  have hlocks := B.notSynchronized
  have hP : va_P (dC, dI) vCl [(p0, .inr (0, [.ref pT, .ref pR, .ref pS, .ref pF, .ref h0, .ref pQ, .ref pG, .long tot, .int (bI pd), .int (bI gd)])), (h0, .inr (4, [.int kind, .int rises, .long total, .long going, .long width, .int cf, .int ct]))] s.heap := hP
  have hl := lv_entry ([.ref p0]) (n := 1) (Nat.le_of_ble_eq_true rfl)
  rw [lg_entry_eq]
  generalize (lg_sl ([.ref p0]) ++ List.replicate (1 - (lg_sl ([.ref p0])).length) Slot.unset).toArray = ls at hl ⊢
  have hl : lv_has ls 1 [(0, .ref p0)] := hl
  refine lv_aload_n hx hb dP_requireWinders_0 rfl (lv_at hl 0 rfl) ?_
  by_cases c_1 : xP_requirePlan tot pd gd = 0
  · skip
    refine tr_go (st1 := []) (va_runV (As := []) (rest := []) (C := RP) ⟨hx, hb, hml, hown, hts⟩ (c_P_requirePlan l dC dI p0 pT pR pS pF h0 pQ pG tot pd gd c_1) ⟨cB 0 hts gw_373 gw_1 gw_371 ndP_requirePlan rfl rfl ⟨Nat.le_of_ble_eq_true rfl, Nat.le_of_ble_eq_true rfl⟩, hts _ gw_372, hts _ gw_750⟩ (tp_Rv hN hK hP [0] [] rfl rfl (q0 := 0) (ci := 0) rfl rfl) rfl rfl hl.1 rfl (lv_room (Nat.le_of_ble_eq_true rfl)) dP_requireWinders_1 ⟨Nat.le_of_ble_eq_true rfl, Nat.le_of_ble_eq_true rfl⟩) rfl ?_
    refine lv_aload_n hx hb dP_requireWinders_4 rfl (lv_at hl 0 rfl) ?_
    refine va_get (D := (dC, dI)) (ci := 0) (v := .ref h0) (C := RP) (T := TP) (N := 10) hx hb hts inP hown hK hP 0 rfl rfl 4 (by decide) (hts _ gw_103) (fun _ h9 => h9) rfl dP_requireWinders_5 ?_
    refine tr_go (st1 := [.int (fA_winders kind rises total going width cf ct)]) (va_runV (As := []) (rest := []) (C := RA) ⟨hx, hb, hml, hown, hts⟩ (c_A_winders l dC dI h0 kind rises total going width cf ct) ⟨cB 0 hts gw_343 gw_5 gw_437 ndA_winders rfl rfl ⟨Nat.le_of_ble_eq_true rfl, Nat.le_of_ble_eq_true rfl⟩, hts _ gw_341, hts _ gw_342⟩ (tp_Rv hN hK hP [1] [] rfl rfl (q0 := 1) (ci := 4) rfl rfl) rfl rfl hl.1 rfl (lv_room (Nat.le_of_ble_eq_true rfl)) dP_requireWinders_8 ⟨Nat.le_of_ble_eq_true rfl, Nat.le_of_ble_eq_true rfl⟩) rfl ?_
    refine lv_if_ne (tgt := 24) hx hb dP_requireWinders_11 (by decide) (fun c_2 => ?_) (fun c_2 => ?_)
    · skip
      exact W.vret hx hb hr (fun t ht hW => ⟨rfl, ht⟩) (fun q h => by cases h) dP_requireWinders_24
    · skip
      exact absurd (hx9.symm.trans (show xP_requireWinders tot pd gd kind rises total going width cf ct = 1 from by unfold xP_requireWinders; rw [if_pos c_1, if_pos c_2])) (by decide)
  · skip
    exact absurd (hx9.symm.trans (show xP_requireWinders tot pd gd kind rises total going width cf ct = 1 from by unfold xP_requireWinders; rw [if_neg c_1])) (by decide)

set_option maxHeartbeats 4000000 in
set_option maxRecDepth 100000 in
theorem t_P_requireWinders (l : Launch) (dC : Nat → ClassId) (dI : Nat → Nat → Nat) (p0 : Nat) (pT : Nat) (pR : Nat) (pS : Nat) (pF : Nat) (h0 : Nat) (pQ : Nat) (pG : Nat) (tot : Int64) (pd : Bool) (gd : Bool) (kind : Int32) (rises : Int32) (total : Int64) (going : Int64) (width : Int64) (cf : Int32) (ct : Int32) (hfl : l.stackTraces = false) (hx9 : ¬ xP_requireWinders tot pd gd kind rises total going width cf ct = 0) : tw_Met l mP_requireWinders wP_requireWinders ({ frames := 7, cells := 1, slots := 6, locals := 102 }) (tp_T (dC, dI) vCl [.ref p0] [(p0, .inr (0, [.ref pT, .ref pR, .ref pS, .ref pF, .ref h0, .ref pQ, .ref pG, .long tot, .int (bI pd), .int (bI gd)])), (h0, .inr (4, [.int kind, .int rises, .long total, .long going, .long width, .int cf, .int ct]))] []) "java/lang/IllegalStateException" := by
  refine tw_ofW (cc := bP_requireWinders) (maxL := 1) (ret := none) (by decide) rfl ?_
  intro p e s m args below meth c s₁ B hml hne hv
  obtain ⟨rfl, hP, hK, hN, hZ⟩ := hv
  have hx := B.exec
  have hb := B.bytes
  have hr := B.returns
  have hts : ∀ w ∈ gT, w.before _ s = true := fun w h => atoms_spec (ws := wP_requireWinders) B.pre w (List.mem_cons_of_mem _ h)
  have hown : s.vm.findClass RP = some m.cls := findClass_of_methodNamed B.named
  have hlocks := B.notSynchronized
  have hP : va_P (dC, dI) vCl [(p0, .inr (0, [.ref pT, .ref pR, .ref pS, .ref pF, .ref h0, .ref pQ, .ref pG, .long tot, .int (bI pd), .int (bI gd)])), (h0, .inr (4, [.int kind, .int rises, .long total, .long going, .long width, .int cf, .int ct]))] s.heap := hP
  have hl := lv_entry ([.ref p0]) (n := 1) (Nat.le_of_ble_eq_true rfl)
  rw [lg_entry_eq]
  generalize (lg_sl ([.ref p0]) ++ List.replicate (1 - (lg_sl ([.ref p0])).length) Slot.unset).toArray = ls at hl ⊢
  have hl : lv_has ls 1 [(0, .ref p0)] := hl
  refine lv_aload_n hx hb dP_requireWinders_0 rfl (lv_at hl 0 rfl) ?_
  by_cases c_1 : xP_requirePlan tot pd gd = 0
  · skip
    refine tr_go (st1 := []) (va_runV (As := []) (rest := []) (C := RP) ⟨hx, hb, hml, hown, hts⟩ (c_P_requirePlan l dC dI p0 pT pR pS pF h0 pQ pG tot pd gd c_1) ⟨cB 0 hts gw_373 gw_1 gw_371 ndP_requirePlan rfl rfl ⟨Nat.le_of_ble_eq_true rfl, Nat.le_of_ble_eq_true rfl⟩, hts _ gw_372, hts _ gw_750⟩ (tp_Rv hN hK hP [0] [] rfl rfl (q0 := 0) (ci := 0) rfl rfl) rfl rfl hl.1 rfl (lv_room (Nat.le_of_ble_eq_true rfl)) dP_requireWinders_1 ⟨Nat.le_of_ble_eq_true rfl, Nat.le_of_ble_eq_true rfl⟩) rfl ?_
    refine lv_aload_n hx hb dP_requireWinders_4 rfl (lv_at hl 0 rfl) ?_
    refine va_get (D := (dC, dI)) (ci := 0) (v := .ref h0) (C := RP) (T := TP) (N := 10) hx hb hts inP hown hK hP 0 rfl rfl 4 (by decide) (hts _ gw_103) (fun _ h9 => h9) rfl dP_requireWinders_5 ?_
    refine tr_go (st1 := [.int (fA_winders kind rises total going width cf ct)]) (va_runV (As := []) (rest := []) (C := RA) ⟨hx, hb, hml, hown, hts⟩ (c_A_winders l dC dI h0 kind rises total going width cf ct) ⟨cB 0 hts gw_343 gw_5 gw_437 ndA_winders rfl rfl ⟨Nat.le_of_ble_eq_true rfl, Nat.le_of_ble_eq_true rfl⟩, hts _ gw_341, hts _ gw_342⟩ (tp_Rv hN hK hP [1] [] rfl rfl (q0 := 1) (ci := 4) rfl rfl) rfl rfl hl.1 rfl (lv_room (Nat.le_of_ble_eq_true rfl)) dP_requireWinders_8 ⟨Nat.le_of_ble_eq_true rfl, Nat.le_of_ble_eq_true rfl⟩) rfl ?_
    refine lv_if_ne (tgt := 24) hx hb dP_requireWinders_11 (by decide) (fun c_2 => ?_) (fun c_2 => ?_)
    · skip
      exact absurd (show xP_requireWinders tot pd gd kind rises total going width cf ct = 0 from by unfold xP_requireWinders; rw [if_pos c_1, if_neg c_2]) hx9
    · skip
      exact tw_new (E := "java/lang/IllegalStateException") hx hb hml hl.1 hfl hlocks hne hown (tz_lit (hZ.1 _ sw_8 rfl)) (hts _ gw_305) (hts _ gw_16) (own_ISE hts hN hZ) (by decide) (by decide) dP_requireWinders_14 dP_requireWinders_17 dP_requireWinders_18 dP_requireWinders_20 dP_requireWinders_23 (Nat.le_of_ble_eq_true rfl) (Nat.le_of_ble_eq_true rfl) (Nat.le_of_ble_eq_true rfl) (Nat.le_of_ble_eq_true rfl)
  · skip
    refine tw_runV (As := []) (rest := []) (C := RP) ⟨hx, hb, hml, hown, hts⟩ (t_P_requirePlan l dC dI p0 pT pR pS pF h0 pQ pG tot pd gd hfl c_1) ⟨cB 0 hts gw_373 gw_1 gw_371 ndP_requirePlan rfl rfl ⟨Nat.le_of_ble_eq_true rfl, Nat.le_of_ble_eq_true rfl⟩, hts _ gw_372, hts _ gw_750⟩ (tp_Tv hZ (fun _ _ => rfl) hN hK hP [0] [] rfl rfl (q0 := 0) (ci := 0) rfl rfl) rfl hl.1 rfl (Nat.le_of_ble_eq_true rfl) dP_requireWinders_1 ⟨Nat.le_of_ble_eq_true rfl, Nat.le_of_ble_eq_true rfl⟩ (fun x9 H9 hN9 => ?_)
    exact tw_leave hlocks hne hN9

def xP_rise (tot : Int64) (pd : Bool) (gd : Bool) (rn : Int64) (rd : Int64) (part : Int32) : Nat := if xP_requirePlan tot pd gd = 0 then (if xP_requireIndex part 2 = 0 then (if part = 0 then 0 else 0) else 2) else 1

def fP_rise (tot : Int64) (pd : Bool) (gd : Bool) (rn : Int64) (rd : Int64) (part : Int32) : Int64 := if xP_requirePlan tot pd gd = 0 then (if xP_requireIndex part 2 = 0 then (if part = 0 then rn else rd) else 0) else 0
set_option maxHeartbeats 4000000 in
set_option maxRecDepth 100000 in
theorem c_P_rise (l : Launch) (dC : Nat → ClassId) (dI : Nat → Nat → Nat) (p0 : Nat) (pT : Nat) (pR : Nat) (pS : Nat) (pF : Nat) (h0 : Nat) (pQ : Nat) (pG : Nat) (tot : Int64) (pd : Bool) (gd : Bool) (rn : Int64) (rd : Int64) (part : Int32) (hx9 : xP_rise tot pd gd rn rd part = 0) : Met l mP_rise wP_rise ({ frames := 1, cells := 0, slots := 0, locals := 21 }) (tp_R (dC, dI) vCl [.ref p0, .int part] [(p0, .inr (0, [.ref pT, .ref pR, .ref pS, .ref pF, .ref h0, .ref pQ, .ref pG, .long tot, .int (bI pd), .int (bI gd)])), (pQ, .inr (5, [.long rn, .long rd]))] []) (tq_R (some (.long (fP_rise tot pd gd rn rd part)))) 0 0 (fun _ => False) := by
  refine Met.ofW (cc := bP_rise) (maxL := 2) (ret := (some .long)) (by decide) rfl ?_
  intro p e s m args below meth c s₁ B hml hv
  obtain ⟨rfl, hP, hK, hN⟩ := hv
  have hx := B.exec
  have hb := B.bytes
  have hr := B.returns
  have hts : ∀ w ∈ gT, w.before _ s = true := fun w h => atoms_spec (ws := wP_rise) B.pre w (List.mem_cons_of_mem _ h)
  have hown : s.vm.findClass RP = some m.cls := findClass_of_methodNamed B.named
  have hlocks := B.notSynchronized
  have hP : va_P (dC, dI) vCl [(p0, .inr (0, [.ref pT, .ref pR, .ref pS, .ref pF, .ref h0, .ref pQ, .ref pG, .long tot, .int (bI pd), .int (bI gd)])), (pQ, .inr (5, [.long rn, .long rd]))] s.heap := hP
  have hl := lv_entry ([.ref p0, .int part]) (n := 2) (Nat.le_of_ble_eq_true rfl)
  rw [lg_entry_eq]
  generalize (lg_sl ([.ref p0, .int part]) ++ List.replicate (2 - (lg_sl ([.ref p0, .int part])).length) Slot.unset).toArray = ls at hl ⊢
  have hl : lv_has ls 2 [(0, .ref p0), (1, .int part)] := hl
  refine lv_aload_n hx hb dP_rise_0 rfl (lv_at hl 0 rfl) ?_
  by_cases c_1 : xP_requirePlan tot pd gd = 0
  · skip
    refine tr_go (st1 := []) (va_runV (As := []) (rest := []) (C := RP) ⟨hx, hb, hml, hown, hts⟩ (c_P_requirePlan l dC dI p0 pT pR pS pF h0 pQ pG tot pd gd c_1) ⟨cB 0 hts gw_373 gw_1 gw_371 ndP_requirePlan rfl rfl ⟨Nat.le_of_ble_eq_true rfl, Nat.le_of_ble_eq_true rfl⟩, hts _ gw_372, hts _ gw_750⟩ (tp_Rv hN hK hP [0] [] rfl rfl (q0 := 0) (ci := 0) rfl rfl) rfl rfl hl.1 rfl (lv_room (Nat.le_of_ble_eq_true rfl)) dP_rise_1 ⟨Nat.le_of_ble_eq_true rfl, Nat.le_of_ble_eq_true rfl⟩) rfl ?_
    refine lv_iload_n hx hb dP_rise_4 rfl (lv_at hl 1 rfl) ?_
    refine lv_iconst (v := 2) hx hb dP_rise_5 (by decide) ?_
    by_cases c_2 : xP_requireIndex part 2 = 0
    · skip
      refine tr_go (st1 := []) (va_runS (As := [.int part, .int 2]) (rest := []) ⟨hx, hb, hml, hown, hts⟩ (c_P_requireIndex l dC dI part 2 c_2) ⟨cB 2 hts gw_376 gw_1 gw_374 ndP_requireIndex rfl rfl ⟨Nat.le_of_ble_eq_true rfl, Nat.le_of_ble_eq_true rfl⟩, hts _ gw_375⟩ (tp_Rs hN hK hP [] [] rfl rfl) rfl rfl hl.1 rfl (lv_room (Nat.le_of_ble_eq_true rfl)) dP_rise_6 ⟨Nat.le_of_ble_eq_true rfl, Nat.le_of_ble_eq_true rfl⟩) rfl ?_
      refine lv_iload_n hx hb dP_rise_9 rfl (lv_at hl 1 rfl) ?_
      refine lv_if_ne (tgt := 23) hx hb dP_rise_10 (by decide) (fun c_3 => ?_) (fun c_3 => ?_)
      · skip
        refine lv_aload_n hx hb dP_rise_23 rfl (lv_at hl 0 rfl) ?_
        refine va_get (D := (dC, dI)) (ci := 0) (v := .ref pQ) (C := RP) (T := TP) (N := 10) hx hb hts inP hown hK hP 0 rfl rfl 5 (by decide) (hts _ gw_104) (fun _ h9 => h9) rfl dP_rise_24 ?_
        refine va_getN (D := (dC, dI)) (ci := 5) (v := .long rd) (C := RQ) (T := TQ) (N := 2) hx hb hts inQ hown hK hP 1 rfl rfl 1 (by decide) (va_Nw.use rfl (hN _ nw_14 rfl)) (fun _ h9 => h9) rfl dP_rise_27 ?_
        exact W.lret (v := rd) hx hb hr (fun t ht hW => ⟨by rw [show fP_rise tot pd gd rn rd part = rd from by unfold fP_rise; rw [if_pos c_1, if_pos c_2, if_neg c_3]], ht⟩) (fun q h => by cases h) dP_rise_30
      · skip
        refine lv_aload_n hx hb dP_rise_13 rfl (lv_at hl 0 rfl) ?_
        refine va_get (D := (dC, dI)) (ci := 0) (v := .ref pQ) (C := RP) (T := TP) (N := 10) hx hb hts inP hown hK hP 0 rfl rfl 5 (by decide) (hts _ gw_104) (fun _ h9 => h9) rfl dP_rise_14 ?_
        refine va_getN (D := (dC, dI)) (ci := 5) (v := .long rn) (C := RQ) (T := TQ) (N := 2) hx hb hts inQ hown hK hP 1 rfl rfl 0 (by decide) (va_Nw.use rfl (hN _ nw_13 rfl)) (fun _ h9 => h9) rfl dP_rise_17 ?_
        refine lv_goto (tgt := 30) hx hb dP_rise_20 (by decide) ?_
        exact W.lret (v := rn) hx hb hr (fun t ht hW => ⟨by rw [show fP_rise tot pd gd rn rd part = rn from by unfold fP_rise; rw [if_pos c_1, if_pos c_2, if_pos c_3]], ht⟩) (fun q h => by cases h) dP_rise_30
    · skip
      exact absurd (hx9.symm.trans (show xP_rise tot pd gd rn rd part = 2 from by unfold xP_rise; rw [if_pos c_1, if_neg c_2])) (by decide)
  · skip
    exact absurd (hx9.symm.trans (show xP_rise tot pd gd rn rd part = 1 from by unfold xP_rise; rw [if_neg c_1])) (by decide)

set_option maxHeartbeats 4000000 in
set_option maxRecDepth 100000 in
theorem t_P_rise_ISE (l : Launch) (dC : Nat → ClassId) (dI : Nat → Nat → Nat) (p0 : Nat) (pT : Nat) (pR : Nat) (pS : Nat) (pF : Nat) (h0 : Nat) (pQ : Nat) (pG : Nat) (tot : Int64) (pd : Bool) (gd : Bool) (rn : Int64) (rd : Int64) (part : Int32) (hfl : l.stackTraces = false) (hx9 : xP_rise tot pd gd rn rd part = 1) : tw_Met l mP_rise wP_rise ({ frames := 7, cells := 1, slots := 6, locals := 102 }) (tp_T (dC, dI) vCl [.ref p0, .int part] [(p0, .inr (0, [.ref pT, .ref pR, .ref pS, .ref pF, .ref h0, .ref pQ, .ref pG, .long tot, .int (bI pd), .int (bI gd)])), (pQ, .inr (5, [.long rn, .long rd]))] []) "java/lang/IllegalStateException" := by
  refine tw_ofW (cc := bP_rise) (maxL := 2) (ret := (some .long)) (by decide) rfl ?_
  intro p e s m args below meth c s₁ B hml hne hv
  obtain ⟨rfl, hP, hK, hN, hZ⟩ := hv
  have hx := B.exec
  have hb := B.bytes
  have hr := B.returns
  have hts : ∀ w ∈ gT, w.before _ s = true := fun w h => atoms_spec (ws := wP_rise) B.pre w (List.mem_cons_of_mem _ h)
  have hown : s.vm.findClass RP = some m.cls := findClass_of_methodNamed B.named
  have hlocks := B.notSynchronized
  have hP : va_P (dC, dI) vCl [(p0, .inr (0, [.ref pT, .ref pR, .ref pS, .ref pF, .ref h0, .ref pQ, .ref pG, .long tot, .int (bI pd), .int (bI gd)])), (pQ, .inr (5, [.long rn, .long rd]))] s.heap := hP
  have hl := lv_entry ([.ref p0, .int part]) (n := 2) (Nat.le_of_ble_eq_true rfl)
  rw [lg_entry_eq]
  generalize (lg_sl ([.ref p0, .int part]) ++ List.replicate (2 - (lg_sl ([.ref p0, .int part])).length) Slot.unset).toArray = ls at hl ⊢
  have hl : lv_has ls 2 [(0, .ref p0), (1, .int part)] := hl
  refine lv_aload_n hx hb dP_rise_0 rfl (lv_at hl 0 rfl) ?_
  by_cases c_1 : xP_requirePlan tot pd gd = 0
  · skip
    refine tr_go (st1 := []) (va_runV (As := []) (rest := []) (C := RP) ⟨hx, hb, hml, hown, hts⟩ (c_P_requirePlan l dC dI p0 pT pR pS pF h0 pQ pG tot pd gd c_1) ⟨cB 0 hts gw_373 gw_1 gw_371 ndP_requirePlan rfl rfl ⟨Nat.le_of_ble_eq_true rfl, Nat.le_of_ble_eq_true rfl⟩, hts _ gw_372, hts _ gw_750⟩ (tp_Rv hN hK hP [0] [] rfl rfl (q0 := 0) (ci := 0) rfl rfl) rfl rfl hl.1 rfl (lv_room (Nat.le_of_ble_eq_true rfl)) dP_rise_1 ⟨Nat.le_of_ble_eq_true rfl, Nat.le_of_ble_eq_true rfl⟩) rfl ?_
    refine lv_iload_n hx hb dP_rise_4 rfl (lv_at hl 1 rfl) ?_
    refine lv_iconst (v := 2) hx hb dP_rise_5 (by decide) ?_
    by_cases c_2 : xP_requireIndex part 2 = 0
    · skip
      refine tr_go (st1 := []) (va_runS (As := [.int part, .int 2]) (rest := []) ⟨hx, hb, hml, hown, hts⟩ (c_P_requireIndex l dC dI part 2 c_2) ⟨cB 2 hts gw_376 gw_1 gw_374 ndP_requireIndex rfl rfl ⟨Nat.le_of_ble_eq_true rfl, Nat.le_of_ble_eq_true rfl⟩, hts _ gw_375⟩ (tp_Rs hN hK hP [] [] rfl rfl) rfl rfl hl.1 rfl (lv_room (Nat.le_of_ble_eq_true rfl)) dP_rise_6 ⟨Nat.le_of_ble_eq_true rfl, Nat.le_of_ble_eq_true rfl⟩) rfl ?_
      refine lv_iload_n hx hb dP_rise_9 rfl (lv_at hl 1 rfl) ?_
      refine lv_if_ne (tgt := 23) hx hb dP_rise_10 (by decide) (fun c_3 => ?_) (fun c_3 => ?_)
      · skip
        refine lv_aload_n hx hb dP_rise_23 rfl (lv_at hl 0 rfl) ?_
        refine va_get (D := (dC, dI)) (ci := 0) (v := .ref pQ) (C := RP) (T := TP) (N := 10) hx hb hts inP hown hK hP 0 rfl rfl 5 (by decide) (hts _ gw_104) (fun _ h9 => h9) rfl dP_rise_24 ?_
        refine va_getN (D := (dC, dI)) (ci := 5) (v := .long rd) (C := RQ) (T := TQ) (N := 2) hx hb hts inQ hown hK hP 1 rfl rfl 1 (by decide) (va_Nw.use rfl (hN _ nw_14 rfl)) (fun _ h9 => h9) rfl dP_rise_27 ?_
        exact absurd (hx9.symm.trans (show xP_rise tot pd gd rn rd part = 0 from by unfold xP_rise; rw [if_pos c_1, if_pos c_2, if_neg c_3])) (by decide)
      · skip
        refine lv_aload_n hx hb dP_rise_13 rfl (lv_at hl 0 rfl) ?_
        refine va_get (D := (dC, dI)) (ci := 0) (v := .ref pQ) (C := RP) (T := TP) (N := 10) hx hb hts inP hown hK hP 0 rfl rfl 5 (by decide) (hts _ gw_104) (fun _ h9 => h9) rfl dP_rise_14 ?_
        refine va_getN (D := (dC, dI)) (ci := 5) (v := .long rn) (C := RQ) (T := TQ) (N := 2) hx hb hts inQ hown hK hP 1 rfl rfl 0 (by decide) (va_Nw.use rfl (hN _ nw_13 rfl)) (fun _ h9 => h9) rfl dP_rise_17 ?_
        refine lv_goto (tgt := 30) hx hb dP_rise_20 (by decide) ?_
        exact absurd (hx9.symm.trans (show xP_rise tot pd gd rn rd part = 0 from by unfold xP_rise; rw [if_pos c_1, if_pos c_2, if_pos c_3])) (by decide)
    · skip
      exact absurd (hx9.symm.trans (show xP_rise tot pd gd rn rd part = 2 from by unfold xP_rise; rw [if_pos c_1, if_neg c_2])) (by decide)
  · skip
    refine tw_runV (As := []) (rest := []) (C := RP) ⟨hx, hb, hml, hown, hts⟩ (t_P_requirePlan l dC dI p0 pT pR pS pF h0 pQ pG tot pd gd hfl c_1) ⟨cB 0 hts gw_373 gw_1 gw_371 ndP_requirePlan rfl rfl ⟨Nat.le_of_ble_eq_true rfl, Nat.le_of_ble_eq_true rfl⟩, hts _ gw_372, hts _ gw_750⟩ (tp_Tv hZ (fun _ _ => rfl) hN hK hP [0] [] rfl rfl (q0 := 0) (ci := 0) rfl rfl) rfl hl.1 rfl (Nat.le_of_ble_eq_true rfl) dP_rise_1 ⟨Nat.le_of_ble_eq_true rfl, Nat.le_of_ble_eq_true rfl⟩ (fun x9 H9 hN9 => ?_)
    exact tw_leave hlocks hne hN9

set_option maxHeartbeats 4000000 in
set_option maxRecDepth 100000 in
theorem t_P_rise_IOB (l : Launch) (dC : Nat → ClassId) (dI : Nat → Nat → Nat) (p0 : Nat) (pT : Nat) (pR : Nat) (pS : Nat) (pF : Nat) (h0 : Nat) (pQ : Nat) (pG : Nat) (tot : Int64) (pd : Bool) (gd : Bool) (rn : Int64) (rd : Int64) (part : Int32) (hfl : l.stackTraces = false) (hx9 : xP_rise tot pd gd rn rd part = 2) : tw_Met l mP_rise wP_rise ({ frames := 7, cells := 1, slots := 6, locals := 103 }) (tp_T (dC, dI) vCl [.ref p0, .int part] [(p0, .inr (0, [.ref pT, .ref pR, .ref pS, .ref pF, .ref h0, .ref pQ, .ref pG, .long tot, .int (bI pd), .int (bI gd)])), (pQ, .inr (5, [.long rn, .long rd]))] []) "java/lang/IndexOutOfBoundsException" := by
  refine tw_ofW (cc := bP_rise) (maxL := 2) (ret := (some .long)) (by decide) rfl ?_
  intro p e s m args below meth c s₁ B hml hne hv
  obtain ⟨rfl, hP, hK, hN, hZ⟩ := hv
  have hx := B.exec
  have hb := B.bytes
  have hr := B.returns
  have hts : ∀ w ∈ gT, w.before _ s = true := fun w h => atoms_spec (ws := wP_rise) B.pre w (List.mem_cons_of_mem _ h)
  have hown : s.vm.findClass RP = some m.cls := findClass_of_methodNamed B.named
  have hlocks := B.notSynchronized
  have hP : va_P (dC, dI) vCl [(p0, .inr (0, [.ref pT, .ref pR, .ref pS, .ref pF, .ref h0, .ref pQ, .ref pG, .long tot, .int (bI pd), .int (bI gd)])), (pQ, .inr (5, [.long rn, .long rd]))] s.heap := hP
  have hl := lv_entry ([.ref p0, .int part]) (n := 2) (Nat.le_of_ble_eq_true rfl)
  rw [lg_entry_eq]
  generalize (lg_sl ([.ref p0, .int part]) ++ List.replicate (2 - (lg_sl ([.ref p0, .int part])).length) Slot.unset).toArray = ls at hl ⊢
  have hl : lv_has ls 2 [(0, .ref p0), (1, .int part)] := hl
  refine lv_aload_n hx hb dP_rise_0 rfl (lv_at hl 0 rfl) ?_
  by_cases c_1 : xP_requirePlan tot pd gd = 0
  · skip
    refine tr_go (st1 := []) (va_runV (As := []) (rest := []) (C := RP) ⟨hx, hb, hml, hown, hts⟩ (c_P_requirePlan l dC dI p0 pT pR pS pF h0 pQ pG tot pd gd c_1) ⟨cB 0 hts gw_373 gw_1 gw_371 ndP_requirePlan rfl rfl ⟨Nat.le_of_ble_eq_true rfl, Nat.le_of_ble_eq_true rfl⟩, hts _ gw_372, hts _ gw_750⟩ (tp_Rv hN hK hP [0] [] rfl rfl (q0 := 0) (ci := 0) rfl rfl) rfl rfl hl.1 rfl (lv_room (Nat.le_of_ble_eq_true rfl)) dP_rise_1 ⟨Nat.le_of_ble_eq_true rfl, Nat.le_of_ble_eq_true rfl⟩) rfl ?_
    refine lv_iload_n hx hb dP_rise_4 rfl (lv_at hl 1 rfl) ?_
    refine lv_iconst (v := 2) hx hb dP_rise_5 (by decide) ?_
    by_cases c_2 : xP_requireIndex part 2 = 0
    · skip
      refine tr_go (st1 := []) (va_runS (As := [.int part, .int 2]) (rest := []) ⟨hx, hb, hml, hown, hts⟩ (c_P_requireIndex l dC dI part 2 c_2) ⟨cB 2 hts gw_376 gw_1 gw_374 ndP_requireIndex rfl rfl ⟨Nat.le_of_ble_eq_true rfl, Nat.le_of_ble_eq_true rfl⟩, hts _ gw_375⟩ (tp_Rs hN hK hP [] [] rfl rfl) rfl rfl hl.1 rfl (lv_room (Nat.le_of_ble_eq_true rfl)) dP_rise_6 ⟨Nat.le_of_ble_eq_true rfl, Nat.le_of_ble_eq_true rfl⟩) rfl ?_
      refine lv_iload_n hx hb dP_rise_9 rfl (lv_at hl 1 rfl) ?_
      refine lv_if_ne (tgt := 23) hx hb dP_rise_10 (by decide) (fun c_3 => ?_) (fun c_3 => ?_)
      · skip
        refine lv_aload_n hx hb dP_rise_23 rfl (lv_at hl 0 rfl) ?_
        refine va_get (D := (dC, dI)) (ci := 0) (v := .ref pQ) (C := RP) (T := TP) (N := 10) hx hb hts inP hown hK hP 0 rfl rfl 5 (by decide) (hts _ gw_104) (fun _ h9 => h9) rfl dP_rise_24 ?_
        refine va_getN (D := (dC, dI)) (ci := 5) (v := .long rd) (C := RQ) (T := TQ) (N := 2) hx hb hts inQ hown hK hP 1 rfl rfl 1 (by decide) (va_Nw.use rfl (hN _ nw_14 rfl)) (fun _ h9 => h9) rfl dP_rise_27 ?_
        exact absurd (hx9.symm.trans (show xP_rise tot pd gd rn rd part = 0 from by unfold xP_rise; rw [if_pos c_1, if_pos c_2, if_neg c_3])) (by decide)
      · skip
        refine lv_aload_n hx hb dP_rise_13 rfl (lv_at hl 0 rfl) ?_
        refine va_get (D := (dC, dI)) (ci := 0) (v := .ref pQ) (C := RP) (T := TP) (N := 10) hx hb hts inP hown hK hP 0 rfl rfl 5 (by decide) (hts _ gw_104) (fun _ h9 => h9) rfl dP_rise_14 ?_
        refine va_getN (D := (dC, dI)) (ci := 5) (v := .long rn) (C := RQ) (T := TQ) (N := 2) hx hb hts inQ hown hK hP 1 rfl rfl 0 (by decide) (va_Nw.use rfl (hN _ nw_13 rfl)) (fun _ h9 => h9) rfl dP_rise_17 ?_
        refine lv_goto (tgt := 30) hx hb dP_rise_20 (by decide) ?_
        exact absurd (hx9.symm.trans (show xP_rise tot pd gd rn rd part = 0 from by unfold xP_rise; rw [if_pos c_1, if_pos c_2, if_pos c_3])) (by decide)
    · skip
      refine tw_runS (As := [.int part, .int 2]) (rest := []) ⟨hx, hb, hml, hown, hts⟩ (t_P_requireIndex l dC dI part 2 hfl c_2) ⟨cB 2 hts gw_376 gw_1 gw_374 ndP_requireIndex rfl rfl ⟨Nat.le_of_ble_eq_true rfl, Nat.le_of_ble_eq_true rfl⟩, hts _ gw_375⟩ (tp_Ts hZ (fun _ _ => rfl) hN hK hP [] [] rfl rfl) rfl hl.1 rfl (Nat.le_of_ble_eq_true rfl) dP_rise_6 ⟨Nat.le_of_ble_eq_true rfl, Nat.le_of_ble_eq_true rfl⟩ (fun x9 H9 hN9 => ?_)
      exact tw_leave hlocks hne hN9
  · skip
    exact absurd (hx9.symm.trans (show xP_rise tot pd gd rn rd part = 1 from by unfold xP_rise; rw [if_neg c_1])) (by decide)

def xP_step (tot : Int64) (pd : Bool) (gd : Bool) (kind : Int32) (rises : Int32) (total : Int64) (going : Int64) (width : Int64) (cf : Int32) (ct : Int32) (k : Int32) (what : Int32) : Nat := if xP_requirePlan tot pd gd = 0 then (if xP_requireIndex k (fA_treads kind rises total going width cf ct) = 0 then (if what = 0 then 0 else (if what = 1 then 0 else (if what = 2 then 0 else (if what = 3 then 0 else (if what = 4 then 0 else (if what = 5 then 0 else 3)))))) else 2) else 1

def fP_step (tot : Int64) (pd : Bool) (gd : Bool) (kind : Int32) (rises : Int32) (total : Int64) (going : Int64) (width : Int64) (cf : Int32) (ct : Int32) (k : Int32) (what : Int32) : Int64 := if xP_requirePlan tot pd gd = 0 then (if xP_requireIndex k (fA_treads kind rises total going width cf ct) = 0 then (if what = 0 then (fA_leastX kind rises total going width cf ct k) else (if what = 1 then (fA_leastY kind rises total going width cf ct k) else (if what = 2 then (fA_greatestX kind rises total going width cf ct k) else (if what = 3 then (fA_greatestY kind rises total going width cf ct k) else (if what = 4 then ((fA_shape kind rises total going width cf ct k).toInt64) else (if what = 5 then (fA_height kind rises total going width cf ct k) else 0)))))) else 0) else 0
set_option maxHeartbeats 4000000 in
set_option maxRecDepth 100000 in
theorem c_P_step (l : Launch) (dC : Nat → ClassId) (dI : Nat → Nat → Nat) (p0 : Nat) (pT : Nat) (pR : Nat) (pS : Nat) (pF : Nat) (h0 : Nat) (pQ : Nat) (pG : Nat) (tot : Int64) (pd : Bool) (gd : Bool) (kind : Int32) (rises : Int32) (total : Int64) (going : Int64) (width : Int64) (cf : Int32) (ct : Int32) (k : Int32) (what : Int32) (hx9 : xP_step tot pd gd kind rises total going width cf ct k what = 0) : Met l mP_step wP_step ({ frames := 3, cells := 0, slots := 0, locals := 63 }) (tp_R (dC, dI) vCl [.ref p0, .int k, .int what] [(p0, .inr (0, [.ref pT, .ref pR, .ref pS, .ref pF, .ref h0, .ref pQ, .ref pG, .long tot, .int (bI pd), .int (bI gd)])), (h0, .inr (4, [.int kind, .int rises, .long total, .long going, .long width, .int cf, .int ct]))] []) (tq_R (some (.long (fP_step tot pd gd kind rises total going width cf ct k what)))) 0 0 (fun _ => False) := by
  refine Met.ofW (cc := bP_step) (maxL := 3) (ret := (some .long)) (by decide) rfl ?_
  intro p e s m args below meth c s₁ B hml hv
  obtain ⟨rfl, hP, hK, hN⟩ := hv
  have hx := B.exec
  have hb := B.bytes
  have hr := B.returns
  have hts : ∀ w ∈ gT, w.before _ s = true := fun w h => atoms_spec (ws := wP_step) B.pre w (List.mem_cons_of_mem _ h)
  have hown : s.vm.findClass RP = some m.cls := findClass_of_methodNamed B.named
  have hlocks := B.notSynchronized
  have hP : va_P (dC, dI) vCl [(p0, .inr (0, [.ref pT, .ref pR, .ref pS, .ref pF, .ref h0, .ref pQ, .ref pG, .long tot, .int (bI pd), .int (bI gd)])), (h0, .inr (4, [.int kind, .int rises, .long total, .long going, .long width, .int cf, .int ct]))] s.heap := hP
  have hl := lv_entry ([.ref p0, .int k, .int what]) (n := 3) (Nat.le_of_ble_eq_true rfl)
  rw [lg_entry_eq]
  generalize (lg_sl ([.ref p0, .int k, .int what]) ++ List.replicate (3 - (lg_sl ([.ref p0, .int k, .int what])).length) Slot.unset).toArray = ls at hl ⊢
  have hl : lv_has ls 3 [(0, .ref p0), (1, .int k), (2, .int what)] := hl
  refine lv_aload_n hx hb dP_step_0 rfl (lv_at hl 0 rfl) ?_
  by_cases c_1 : xP_requirePlan tot pd gd = 0
  · skip
    refine tr_go (st1 := []) (va_runV (As := []) (rest := []) (C := RP) ⟨hx, hb, hml, hown, hts⟩ (c_P_requirePlan l dC dI p0 pT pR pS pF h0 pQ pG tot pd gd c_1) ⟨cB 0 hts gw_373 gw_1 gw_371 ndP_requirePlan rfl rfl ⟨Nat.le_of_ble_eq_true rfl, Nat.le_of_ble_eq_true rfl⟩, hts _ gw_372, hts _ gw_750⟩ (tp_Rv hN hK hP [0] [] rfl rfl (q0 := 0) (ci := 0) rfl rfl) rfl rfl hl.1 rfl (lv_room (Nat.le_of_ble_eq_true rfl)) dP_step_1 ⟨Nat.le_of_ble_eq_true rfl, Nat.le_of_ble_eq_true rfl⟩) rfl ?_
    refine lv_iload_n hx hb dP_step_4 rfl (lv_at hl 1 rfl) ?_
    refine lv_aload_n hx hb dP_step_5 rfl (lv_at hl 0 rfl) ?_
    refine va_get (D := (dC, dI)) (ci := 0) (v := .ref h0) (C := RP) (T := TP) (N := 10) hx hb hts inP hown hK hP 0 rfl rfl 4 (by decide) (hts _ gw_103) (fun _ h9 => h9) rfl dP_step_6 ?_
    refine tr_go (st1 := [.int (fA_treads kind rises total going width cf ct), .int k]) (va_runV (As := []) (rest := [.int k]) (C := RA) ⟨hx, hb, hml, hown, hts⟩ (c_A_treads l dC dI h0 kind rises total going width cf ct) ⟨cB 0 hts gw_334 gw_5 gw_397 ndA_treads rfl rfl ⟨Nat.le_of_ble_eq_true rfl, Nat.le_of_ble_eq_true rfl⟩, hts _ gw_332, hts _ gw_333⟩ (tp_Rv hN hK hP [1] [] rfl rfl (q0 := 1) (ci := 4) rfl rfl) rfl rfl hl.1 rfl (lv_room (Nat.le_of_ble_eq_true rfl)) dP_step_9 ⟨Nat.le_of_ble_eq_true rfl, Nat.le_of_ble_eq_true rfl⟩) rfl ?_
    by_cases c_2 : xP_requireIndex k (fA_treads kind rises total going width cf ct) = 0
    · skip
      refine tr_go (st1 := []) (va_runS (As := [.int k, .int (fA_treads kind rises total going width cf ct)]) (rest := []) ⟨hx, hb, hml, hown, hts⟩ (c_P_requireIndex l dC dI k (fA_treads kind rises total going width cf ct) c_2) ⟨cB 2 hts gw_376 gw_1 gw_374 ndP_requireIndex rfl rfl ⟨Nat.le_of_ble_eq_true rfl, Nat.le_of_ble_eq_true rfl⟩, hts _ gw_375⟩ (tp_Rs hN hK hP [] [] rfl rfl) rfl rfl hl.1 rfl (lv_room (Nat.le_of_ble_eq_true rfl)) dP_step_12 ⟨Nat.le_of_ble_eq_true rfl, Nat.le_of_ble_eq_true rfl⟩) rfl ?_
      refine lv_iload_n hx hb dP_step_15 rfl (lv_at hl 2 rfl) ?_
      by_cases c_3 : what = 0
      · skip
        refine lv_tableIn (tgt := 56) hx hb dP_step_16 (by rw [c_3]; decide) (by rw [c_3]; decide) (by rw [c_3]; rfl) (by decide) ?_
        refine lv_aload_n hx hb dP_step_56 rfl (lv_at hl 0 rfl) ?_
        refine va_get (D := (dC, dI)) (ci := 0) (v := .ref h0) (C := RP) (T := TP) (N := 10) hx hb hts inP hown hK hP 0 rfl rfl 4 (by decide) (hts _ gw_103) (fun _ h9 => h9) rfl dP_step_57 ?_
        refine lv_iload_n hx hb dP_step_60 rfl (lv_at hl 1 rfl) ?_
        refine tr_go (st1 := [.long (fA_leastX kind rises total going width cf ct k)]) (va_runV (As := [.int k]) (rest := []) (C := RA) ⟨hx, hb, hml, hown, hts⟩ (c_A_leastX l dC dI h0 kind rises total going width cf ct k) ⟨cB 1 hts gw_401 gw_5 gw_398 ndA_leastX rfl rfl ⟨Nat.le_of_ble_eq_true rfl, Nat.le_of_ble_eq_true rfl⟩, hts _ gw_399, hts _ gw_400⟩ (tp_Rv hN hK hP [1] [] rfl rfl (q0 := 1) (ci := 4) rfl rfl) rfl rfl hl.1 rfl (lv_room (Nat.le_of_ble_eq_true rfl)) dP_step_61 ⟨Nat.le_of_ble_eq_true rfl, Nat.le_of_ble_eq_true rfl⟩) rfl ?_
        exact W.lret (v := fA_leastX kind rises total going width cf ct k) hx hb hr (fun t ht hW => ⟨by rw [show fP_step tot pd gd kind rises total going width cf ct k what = fA_leastX kind rises total going width cf ct k from by unfold fP_step; rw [if_pos c_1, if_pos c_2, if_pos c_3]], ht⟩) (fun q h => by cases h) dP_step_64
      · skip
        have ec_3 : ¬ what = nI 0 := c_3
        by_cases c_4 : what = 1
        · skip
          refine lv_tableIn (tgt := 65) hx hb dP_step_16 (by rw [c_4]; decide) (by rw [c_4]; decide) (by rw [c_4]; rfl) (by decide) ?_
          refine lv_aload_n hx hb dP_step_65 rfl (lv_at hl 0 rfl) ?_
          refine va_get (D := (dC, dI)) (ci := 0) (v := .ref h0) (C := RP) (T := TP) (N := 10) hx hb hts inP hown hK hP 0 rfl rfl 4 (by decide) (hts _ gw_103) (fun _ h9 => h9) rfl dP_step_66 ?_
          refine lv_iload_n hx hb dP_step_69 rfl (lv_at hl 1 rfl) ?_
          refine tr_go (st1 := [.long (fA_leastY kind rises total going width cf ct k)]) (va_runV (As := [.int k]) (rest := []) (C := RA) ⟨hx, hb, hml, hown, hts⟩ (c_A_leastY l dC dI h0 kind rises total going width cf ct k) ⟨cB 1 hts gw_412 gw_5 gw_409 ndA_leastY rfl rfl ⟨Nat.le_of_ble_eq_true rfl, Nat.le_of_ble_eq_true rfl⟩, hts _ gw_410, hts _ gw_411⟩ (tp_Rv hN hK hP [1] [] rfl rfl (q0 := 1) (ci := 4) rfl rfl) rfl rfl hl.1 rfl (lv_room (Nat.le_of_ble_eq_true rfl)) dP_step_70 ⟨Nat.le_of_ble_eq_true rfl, Nat.le_of_ble_eq_true rfl⟩) rfl ?_
          exact W.lret (v := fA_leastY kind rises total going width cf ct k) hx hb hr (fun t ht hW => ⟨by rw [show fP_step tot pd gd kind rises total going width cf ct k what = fA_leastY kind rises total going width cf ct k from by unfold fP_step; rw [if_pos c_1, if_pos c_2, if_neg c_3, if_pos c_4]], ht⟩) (fun q h => by cases h) dP_step_73
        · skip
          have ec_4 : ¬ what = nI 1 := c_4
          by_cases c_5 : what = 2
          · skip
            refine lv_tableIn (tgt := 74) hx hb dP_step_16 (by rw [c_5]; decide) (by rw [c_5]; decide) (by rw [c_5]; rfl) (by decide) ?_
            refine lv_aload_n hx hb dP_step_74 rfl (lv_at hl 0 rfl) ?_
            refine va_get (D := (dC, dI)) (ci := 0) (v := .ref h0) (C := RP) (T := TP) (N := 10) hx hb hts inP hown hK hP 0 rfl rfl 4 (by decide) (hts _ gw_103) (fun _ h9 => h9) rfl dP_step_75 ?_
            refine lv_iload_n hx hb dP_step_78 rfl (lv_at hl 1 rfl) ?_
            refine tr_go (st1 := [.long (fA_greatestX kind rises total going width cf ct k)]) (va_runV (As := [.int k]) (rest := []) (C := RA) ⟨hx, hb, hml, hown, hts⟩ (c_A_greatestX l dC dI h0 kind rises total going width cf ct k) ⟨cB 1 hts gw_416 gw_5 gw_413 ndA_greatestX rfl rfl ⟨Nat.le_of_ble_eq_true rfl, Nat.le_of_ble_eq_true rfl⟩, hts _ gw_414, hts _ gw_415⟩ (tp_Rv hN hK hP [1] [] rfl rfl (q0 := 1) (ci := 4) rfl rfl) rfl rfl hl.1 rfl (lv_room (Nat.le_of_ble_eq_true rfl)) dP_step_79 ⟨Nat.le_of_ble_eq_true rfl, Nat.le_of_ble_eq_true rfl⟩) rfl ?_
            exact W.lret (v := fA_greatestX kind rises total going width cf ct k) hx hb hr (fun t ht hW => ⟨by rw [show fP_step tot pd gd kind rises total going width cf ct k what = fA_greatestX kind rises total going width cf ct k from by unfold fP_step; rw [if_pos c_1, if_pos c_2, if_neg c_3, if_neg c_4, if_pos c_5]], ht⟩) (fun q h => by cases h) dP_step_82
          · skip
            have ec_5 : ¬ what = nI 2 := c_5
            by_cases c_6 : what = 3
            · skip
              refine lv_tableIn (tgt := 83) hx hb dP_step_16 (by rw [c_6]; decide) (by rw [c_6]; decide) (by rw [c_6]; rfl) (by decide) ?_
              refine lv_aload_n hx hb dP_step_83 rfl (lv_at hl 0 rfl) ?_
              refine va_get (D := (dC, dI)) (ci := 0) (v := .ref h0) (C := RP) (T := TP) (N := 10) hx hb hts inP hown hK hP 0 rfl rfl 4 (by decide) (hts _ gw_103) (fun _ h9 => h9) rfl dP_step_84 ?_
              refine lv_iload_n hx hb dP_step_87 rfl (lv_at hl 1 rfl) ?_
              refine tr_go (st1 := [.long (fA_greatestY kind rises total going width cf ct k)]) (va_runV (As := [.int k]) (rest := []) (C := RA) ⟨hx, hb, hml, hown, hts⟩ (c_A_greatestY l dC dI h0 kind rises total going width cf ct k) ⟨cB 1 hts gw_420 gw_5 gw_417 ndA_greatestY rfl rfl ⟨Nat.le_of_ble_eq_true rfl, Nat.le_of_ble_eq_true rfl⟩, hts _ gw_418, hts _ gw_419⟩ (tp_Rv hN hK hP [1] [] rfl rfl (q0 := 1) (ci := 4) rfl rfl) rfl rfl hl.1 rfl (lv_room (Nat.le_of_ble_eq_true rfl)) dP_step_88 ⟨Nat.le_of_ble_eq_true rfl, Nat.le_of_ble_eq_true rfl⟩) rfl ?_
              exact W.lret (v := fA_greatestY kind rises total going width cf ct k) hx hb hr (fun t ht hW => ⟨by rw [show fP_step tot pd gd kind rises total going width cf ct k what = fA_greatestY kind rises total going width cf ct k from by unfold fP_step; rw [if_pos c_1, if_pos c_2, if_neg c_3, if_neg c_4, if_neg c_5, if_pos c_6]], ht⟩) (fun q h => by cases h) dP_step_91
            · skip
              have ec_6 : ¬ what = nI 3 := c_6
              by_cases c_7 : what = 4
              · skip
                refine lv_tableIn (tgt := 92) hx hb dP_step_16 (by rw [c_7]; decide) (by rw [c_7]; decide) (by rw [c_7]; rfl) (by decide) ?_
                refine lv_aload_n hx hb dP_step_92 rfl (lv_at hl 0 rfl) ?_
                refine va_get (D := (dC, dI)) (ci := 0) (v := .ref h0) (C := RP) (T := TP) (N := 10) hx hb hts inP hown hK hP 0 rfl rfl 4 (by decide) (hts _ gw_103) (fun _ h9 => h9) rfl dP_step_93 ?_
                refine lv_iload_n hx hb dP_step_96 rfl (lv_at hl 1 rfl) ?_
                refine tr_go (st1 := [.int (fA_shape kind rises total going width cf ct k)]) (va_runV (As := [.int k]) (rest := []) (C := RA) ⟨hx, hb, hml, hown, hts⟩ (c_A_shape l dC dI h0 kind rises total going width cf ct k) ⟨cB 1 hts gw_405 gw_5 gw_422 ndA_shape rfl rfl ⟨Nat.le_of_ble_eq_true rfl, Nat.le_of_ble_eq_true rfl⟩, hts _ gw_403, hts _ gw_404⟩ (tp_Rv hN hK hP [1] [] rfl rfl (q0 := 1) (ci := 4) rfl rfl) rfl rfl hl.1 rfl (lv_room (Nat.le_of_ble_eq_true rfl)) dP_step_97 ⟨Nat.le_of_ble_eq_true rfl, Nat.le_of_ble_eq_true rfl⟩) rfl ?_
                refine lv_i2l (v := (fA_shape kind rises total going width cf ct k).toInt64) hx hb dP_step_100 rfl ?_
                exact W.lret (v := (fA_shape kind rises total going width cf ct k).toInt64) hx hb hr (fun t ht hW => ⟨by rw [show fP_step tot pd gd kind rises total going width cf ct k what = (fA_shape kind rises total going width cf ct k).toInt64 from by unfold fP_step; rw [if_pos c_1, if_pos c_2, if_neg c_3, if_neg c_4, if_neg c_5, if_neg c_6, if_pos c_7]], ht⟩) (fun q h => by cases h) dP_step_101
              · skip
                have ec_7 : ¬ what = nI 4 := c_7
                by_cases c_8 : what = 5
                · skip
                  refine lv_tableIn (tgt := 102) hx hb dP_step_16 (by rw [c_8]; decide) (by rw [c_8]; decide) (by rw [c_8]; rfl) (by decide) ?_
                  refine lv_aload_n hx hb dP_step_102 rfl (lv_at hl 0 rfl) ?_
                  refine va_get (D := (dC, dI)) (ci := 0) (v := .ref h0) (C := RP) (T := TP) (N := 10) hx hb hts inP hown hK hP 0 rfl rfl 4 (by decide) (hts _ gw_103) (fun _ h9 => h9) rfl dP_step_103 ?_
                  refine lv_iload_n hx hb dP_step_106 rfl (lv_at hl 1 rfl) ?_
                  refine tr_go (st1 := [.long (fA_height kind rises total going width cf ct k)]) (va_runV (As := [.int k]) (rest := []) (C := RA) ⟨hx, hb, hml, hown, hts⟩ (c_A_heightTimesRises l dC dI h0 kind rises total going width cf ct k) ⟨cB 1 hts gw_426 gw_5 gw_423 ndA_heightTimesRises rfl rfl ⟨Nat.le_of_ble_eq_true rfl, Nat.le_of_ble_eq_true rfl⟩, hts _ gw_424, hts _ gw_425⟩ (tp_Rv hN hK hP [1] [] rfl rfl (q0 := 1) (ci := 4) rfl rfl) rfl rfl hl.1 rfl (lv_room (Nat.le_of_ble_eq_true rfl)) dP_step_107 ⟨Nat.le_of_ble_eq_true rfl, Nat.le_of_ble_eq_true rfl⟩) rfl ?_
                  exact W.lret (v := fA_height kind rises total going width cf ct k) hx hb hr (fun t ht hW => ⟨by rw [show fP_step tot pd gd kind rises total going width cf ct k what = fA_height kind rises total going width cf ct k from by unfold fP_step; rw [if_pos c_1, if_pos c_2, if_neg c_3, if_neg c_4, if_neg c_5, if_neg c_6, if_neg c_7, if_pos c_8]], ht⟩) (fun q h => by cases h) dP_step_110
                · skip
                  have ec_8 : ¬ what = nI 5 := c_8
                  refine lv_tableOut (tgt := 111) hx hb dP_step_16 (tsw 5 (by decide) (fun j hj => by rcases (show j = 0 ∨ j = 1 ∨ j = 2 ∨ j = 3 ∨ j = 4 ∨ j = 5 by omega) with rfl | rfl | rfl | rfl | rfl | rfl <;> assumption)) (by decide) ?_
                  exact absurd (hx9.symm.trans (show xP_step tot pd gd kind rises total going width cf ct k what = 3 from by unfold xP_step; rw [if_pos c_1, if_pos c_2, if_neg c_3, if_neg c_4, if_neg c_5, if_neg c_6, if_neg c_7, if_neg c_8])) (by decide)
    · skip
      exact absurd (hx9.symm.trans (show xP_step tot pd gd kind rises total going width cf ct k what = 2 from by unfold xP_step; rw [if_pos c_1, if_neg c_2])) (by decide)
  · skip
    exact absurd (hx9.symm.trans (show xP_step tot pd gd kind rises total going width cf ct k what = 1 from by unfold xP_step; rw [if_neg c_1])) (by decide)

set_option maxHeartbeats 4000000 in
set_option maxRecDepth 100000 in
theorem t_P_step_ISE (l : Launch) (dC : Nat → ClassId) (dI : Nat → Nat → Nat) (p0 : Nat) (pT : Nat) (pR : Nat) (pS : Nat) (pF : Nat) (h0 : Nat) (pQ : Nat) (pG : Nat) (tot : Int64) (pd : Bool) (gd : Bool) (kind : Int32) (rises : Int32) (total : Int64) (going : Int64) (width : Int64) (cf : Int32) (ct : Int32) (k : Int32) (what : Int32) (hfl : l.stackTraces = false) (hx9 : xP_step tot pd gd kind rises total going width cf ct k what = 1) : tw_Met l mP_step wP_step ({ frames := 7, cells := 1, slots := 6, locals := 102 }) (tp_T (dC, dI) vCl [.ref p0, .int k, .int what] [(p0, .inr (0, [.ref pT, .ref pR, .ref pS, .ref pF, .ref h0, .ref pQ, .ref pG, .long tot, .int (bI pd), .int (bI gd)])), (h0, .inr (4, [.int kind, .int rises, .long total, .long going, .long width, .int cf, .int ct]))] []) "java/lang/IllegalStateException" := by
  refine tw_ofW (cc := bP_step) (maxL := 3) (ret := (some .long)) (by decide) rfl ?_
  intro p e s m args below meth c s₁ B hml hne hv
  obtain ⟨rfl, hP, hK, hN, hZ⟩ := hv
  have hx := B.exec
  have hb := B.bytes
  have hr := B.returns
  have hts : ∀ w ∈ gT, w.before _ s = true := fun w h => atoms_spec (ws := wP_step) B.pre w (List.mem_cons_of_mem _ h)
  have hown : s.vm.findClass RP = some m.cls := findClass_of_methodNamed B.named
  have hlocks := B.notSynchronized
  have hP : va_P (dC, dI) vCl [(p0, .inr (0, [.ref pT, .ref pR, .ref pS, .ref pF, .ref h0, .ref pQ, .ref pG, .long tot, .int (bI pd), .int (bI gd)])), (h0, .inr (4, [.int kind, .int rises, .long total, .long going, .long width, .int cf, .int ct]))] s.heap := hP
  have hl := lv_entry ([.ref p0, .int k, .int what]) (n := 3) (Nat.le_of_ble_eq_true rfl)
  rw [lg_entry_eq]
  generalize (lg_sl ([.ref p0, .int k, .int what]) ++ List.replicate (3 - (lg_sl ([.ref p0, .int k, .int what])).length) Slot.unset).toArray = ls at hl ⊢
  have hl : lv_has ls 3 [(0, .ref p0), (1, .int k), (2, .int what)] := hl
  refine lv_aload_n hx hb dP_step_0 rfl (lv_at hl 0 rfl) ?_
  by_cases c_1 : xP_requirePlan tot pd gd = 0
  · skip
    refine tr_go (st1 := []) (va_runV (As := []) (rest := []) (C := RP) ⟨hx, hb, hml, hown, hts⟩ (c_P_requirePlan l dC dI p0 pT pR pS pF h0 pQ pG tot pd gd c_1) ⟨cB 0 hts gw_373 gw_1 gw_371 ndP_requirePlan rfl rfl ⟨Nat.le_of_ble_eq_true rfl, Nat.le_of_ble_eq_true rfl⟩, hts _ gw_372, hts _ gw_750⟩ (tp_Rv hN hK hP [0] [] rfl rfl (q0 := 0) (ci := 0) rfl rfl) rfl rfl hl.1 rfl (lv_room (Nat.le_of_ble_eq_true rfl)) dP_step_1 ⟨Nat.le_of_ble_eq_true rfl, Nat.le_of_ble_eq_true rfl⟩) rfl ?_
    refine lv_iload_n hx hb dP_step_4 rfl (lv_at hl 1 rfl) ?_
    refine lv_aload_n hx hb dP_step_5 rfl (lv_at hl 0 rfl) ?_
    refine va_get (D := (dC, dI)) (ci := 0) (v := .ref h0) (C := RP) (T := TP) (N := 10) hx hb hts inP hown hK hP 0 rfl rfl 4 (by decide) (hts _ gw_103) (fun _ h9 => h9) rfl dP_step_6 ?_
    refine tr_go (st1 := [.int (fA_treads kind rises total going width cf ct), .int k]) (va_runV (As := []) (rest := [.int k]) (C := RA) ⟨hx, hb, hml, hown, hts⟩ (c_A_treads l dC dI h0 kind rises total going width cf ct) ⟨cB 0 hts gw_334 gw_5 gw_397 ndA_treads rfl rfl ⟨Nat.le_of_ble_eq_true rfl, Nat.le_of_ble_eq_true rfl⟩, hts _ gw_332, hts _ gw_333⟩ (tp_Rv hN hK hP [1] [] rfl rfl (q0 := 1) (ci := 4) rfl rfl) rfl rfl hl.1 rfl (lv_room (Nat.le_of_ble_eq_true rfl)) dP_step_9 ⟨Nat.le_of_ble_eq_true rfl, Nat.le_of_ble_eq_true rfl⟩) rfl ?_
    by_cases c_2 : xP_requireIndex k (fA_treads kind rises total going width cf ct) = 0
    · skip
      refine tr_go (st1 := []) (va_runS (As := [.int k, .int (fA_treads kind rises total going width cf ct)]) (rest := []) ⟨hx, hb, hml, hown, hts⟩ (c_P_requireIndex l dC dI k (fA_treads kind rises total going width cf ct) c_2) ⟨cB 2 hts gw_376 gw_1 gw_374 ndP_requireIndex rfl rfl ⟨Nat.le_of_ble_eq_true rfl, Nat.le_of_ble_eq_true rfl⟩, hts _ gw_375⟩ (tp_Rs hN hK hP [] [] rfl rfl) rfl rfl hl.1 rfl (lv_room (Nat.le_of_ble_eq_true rfl)) dP_step_12 ⟨Nat.le_of_ble_eq_true rfl, Nat.le_of_ble_eq_true rfl⟩) rfl ?_
      refine lv_iload_n hx hb dP_step_15 rfl (lv_at hl 2 rfl) ?_
      by_cases c_3 : what = 0
      · skip
        refine lv_tableIn (tgt := 56) hx hb dP_step_16 (by rw [c_3]; decide) (by rw [c_3]; decide) (by rw [c_3]; rfl) (by decide) ?_
        refine lv_aload_n hx hb dP_step_56 rfl (lv_at hl 0 rfl) ?_
        refine va_get (D := (dC, dI)) (ci := 0) (v := .ref h0) (C := RP) (T := TP) (N := 10) hx hb hts inP hown hK hP 0 rfl rfl 4 (by decide) (hts _ gw_103) (fun _ h9 => h9) rfl dP_step_57 ?_
        refine lv_iload_n hx hb dP_step_60 rfl (lv_at hl 1 rfl) ?_
        refine tr_go (st1 := [.long (fA_leastX kind rises total going width cf ct k)]) (va_runV (As := [.int k]) (rest := []) (C := RA) ⟨hx, hb, hml, hown, hts⟩ (c_A_leastX l dC dI h0 kind rises total going width cf ct k) ⟨cB 1 hts gw_401 gw_5 gw_398 ndA_leastX rfl rfl ⟨Nat.le_of_ble_eq_true rfl, Nat.le_of_ble_eq_true rfl⟩, hts _ gw_399, hts _ gw_400⟩ (tp_Rv hN hK hP [1] [] rfl rfl (q0 := 1) (ci := 4) rfl rfl) rfl rfl hl.1 rfl (lv_room (Nat.le_of_ble_eq_true rfl)) dP_step_61 ⟨Nat.le_of_ble_eq_true rfl, Nat.le_of_ble_eq_true rfl⟩) rfl ?_
        exact absurd (hx9.symm.trans (show xP_step tot pd gd kind rises total going width cf ct k what = 0 from by unfold xP_step; rw [if_pos c_1, if_pos c_2, if_pos c_3])) (by decide)
      · skip
        have ec_3 : ¬ what = nI 0 := c_3
        by_cases c_4 : what = 1
        · skip
          refine lv_tableIn (tgt := 65) hx hb dP_step_16 (by rw [c_4]; decide) (by rw [c_4]; decide) (by rw [c_4]; rfl) (by decide) ?_
          refine lv_aload_n hx hb dP_step_65 rfl (lv_at hl 0 rfl) ?_
          refine va_get (D := (dC, dI)) (ci := 0) (v := .ref h0) (C := RP) (T := TP) (N := 10) hx hb hts inP hown hK hP 0 rfl rfl 4 (by decide) (hts _ gw_103) (fun _ h9 => h9) rfl dP_step_66 ?_
          refine lv_iload_n hx hb dP_step_69 rfl (lv_at hl 1 rfl) ?_
          refine tr_go (st1 := [.long (fA_leastY kind rises total going width cf ct k)]) (va_runV (As := [.int k]) (rest := []) (C := RA) ⟨hx, hb, hml, hown, hts⟩ (c_A_leastY l dC dI h0 kind rises total going width cf ct k) ⟨cB 1 hts gw_412 gw_5 gw_409 ndA_leastY rfl rfl ⟨Nat.le_of_ble_eq_true rfl, Nat.le_of_ble_eq_true rfl⟩, hts _ gw_410, hts _ gw_411⟩ (tp_Rv hN hK hP [1] [] rfl rfl (q0 := 1) (ci := 4) rfl rfl) rfl rfl hl.1 rfl (lv_room (Nat.le_of_ble_eq_true rfl)) dP_step_70 ⟨Nat.le_of_ble_eq_true rfl, Nat.le_of_ble_eq_true rfl⟩) rfl ?_
          exact absurd (hx9.symm.trans (show xP_step tot pd gd kind rises total going width cf ct k what = 0 from by unfold xP_step; rw [if_pos c_1, if_pos c_2, if_neg c_3, if_pos c_4])) (by decide)
        · skip
          have ec_4 : ¬ what = nI 1 := c_4
          by_cases c_5 : what = 2
          · skip
            refine lv_tableIn (tgt := 74) hx hb dP_step_16 (by rw [c_5]; decide) (by rw [c_5]; decide) (by rw [c_5]; rfl) (by decide) ?_
            refine lv_aload_n hx hb dP_step_74 rfl (lv_at hl 0 rfl) ?_
            refine va_get (D := (dC, dI)) (ci := 0) (v := .ref h0) (C := RP) (T := TP) (N := 10) hx hb hts inP hown hK hP 0 rfl rfl 4 (by decide) (hts _ gw_103) (fun _ h9 => h9) rfl dP_step_75 ?_
            refine lv_iload_n hx hb dP_step_78 rfl (lv_at hl 1 rfl) ?_
            refine tr_go (st1 := [.long (fA_greatestX kind rises total going width cf ct k)]) (va_runV (As := [.int k]) (rest := []) (C := RA) ⟨hx, hb, hml, hown, hts⟩ (c_A_greatestX l dC dI h0 kind rises total going width cf ct k) ⟨cB 1 hts gw_416 gw_5 gw_413 ndA_greatestX rfl rfl ⟨Nat.le_of_ble_eq_true rfl, Nat.le_of_ble_eq_true rfl⟩, hts _ gw_414, hts _ gw_415⟩ (tp_Rv hN hK hP [1] [] rfl rfl (q0 := 1) (ci := 4) rfl rfl) rfl rfl hl.1 rfl (lv_room (Nat.le_of_ble_eq_true rfl)) dP_step_79 ⟨Nat.le_of_ble_eq_true rfl, Nat.le_of_ble_eq_true rfl⟩) rfl ?_
            exact absurd (hx9.symm.trans (show xP_step tot pd gd kind rises total going width cf ct k what = 0 from by unfold xP_step; rw [if_pos c_1, if_pos c_2, if_neg c_3, if_neg c_4, if_pos c_5])) (by decide)
          · skip
            have ec_5 : ¬ what = nI 2 := c_5
            by_cases c_6 : what = 3
            · skip
              refine lv_tableIn (tgt := 83) hx hb dP_step_16 (by rw [c_6]; decide) (by rw [c_6]; decide) (by rw [c_6]; rfl) (by decide) ?_
              refine lv_aload_n hx hb dP_step_83 rfl (lv_at hl 0 rfl) ?_
              refine va_get (D := (dC, dI)) (ci := 0) (v := .ref h0) (C := RP) (T := TP) (N := 10) hx hb hts inP hown hK hP 0 rfl rfl 4 (by decide) (hts _ gw_103) (fun _ h9 => h9) rfl dP_step_84 ?_
              refine lv_iload_n hx hb dP_step_87 rfl (lv_at hl 1 rfl) ?_
              refine tr_go (st1 := [.long (fA_greatestY kind rises total going width cf ct k)]) (va_runV (As := [.int k]) (rest := []) (C := RA) ⟨hx, hb, hml, hown, hts⟩ (c_A_greatestY l dC dI h0 kind rises total going width cf ct k) ⟨cB 1 hts gw_420 gw_5 gw_417 ndA_greatestY rfl rfl ⟨Nat.le_of_ble_eq_true rfl, Nat.le_of_ble_eq_true rfl⟩, hts _ gw_418, hts _ gw_419⟩ (tp_Rv hN hK hP [1] [] rfl rfl (q0 := 1) (ci := 4) rfl rfl) rfl rfl hl.1 rfl (lv_room (Nat.le_of_ble_eq_true rfl)) dP_step_88 ⟨Nat.le_of_ble_eq_true rfl, Nat.le_of_ble_eq_true rfl⟩) rfl ?_
              exact absurd (hx9.symm.trans (show xP_step tot pd gd kind rises total going width cf ct k what = 0 from by unfold xP_step; rw [if_pos c_1, if_pos c_2, if_neg c_3, if_neg c_4, if_neg c_5, if_pos c_6])) (by decide)
            · skip
              have ec_6 : ¬ what = nI 3 := c_6
              by_cases c_7 : what = 4
              · skip
                refine lv_tableIn (tgt := 92) hx hb dP_step_16 (by rw [c_7]; decide) (by rw [c_7]; decide) (by rw [c_7]; rfl) (by decide) ?_
                refine lv_aload_n hx hb dP_step_92 rfl (lv_at hl 0 rfl) ?_
                refine va_get (D := (dC, dI)) (ci := 0) (v := .ref h0) (C := RP) (T := TP) (N := 10) hx hb hts inP hown hK hP 0 rfl rfl 4 (by decide) (hts _ gw_103) (fun _ h9 => h9) rfl dP_step_93 ?_
                refine lv_iload_n hx hb dP_step_96 rfl (lv_at hl 1 rfl) ?_
                refine tr_go (st1 := [.int (fA_shape kind rises total going width cf ct k)]) (va_runV (As := [.int k]) (rest := []) (C := RA) ⟨hx, hb, hml, hown, hts⟩ (c_A_shape l dC dI h0 kind rises total going width cf ct k) ⟨cB 1 hts gw_405 gw_5 gw_422 ndA_shape rfl rfl ⟨Nat.le_of_ble_eq_true rfl, Nat.le_of_ble_eq_true rfl⟩, hts _ gw_403, hts _ gw_404⟩ (tp_Rv hN hK hP [1] [] rfl rfl (q0 := 1) (ci := 4) rfl rfl) rfl rfl hl.1 rfl (lv_room (Nat.le_of_ble_eq_true rfl)) dP_step_97 ⟨Nat.le_of_ble_eq_true rfl, Nat.le_of_ble_eq_true rfl⟩) rfl ?_
                refine lv_i2l (v := (fA_shape kind rises total going width cf ct k).toInt64) hx hb dP_step_100 rfl ?_
                exact absurd (hx9.symm.trans (show xP_step tot pd gd kind rises total going width cf ct k what = 0 from by unfold xP_step; rw [if_pos c_1, if_pos c_2, if_neg c_3, if_neg c_4, if_neg c_5, if_neg c_6, if_pos c_7])) (by decide)
              · skip
                have ec_7 : ¬ what = nI 4 := c_7
                by_cases c_8 : what = 5
                · skip
                  refine lv_tableIn (tgt := 102) hx hb dP_step_16 (by rw [c_8]; decide) (by rw [c_8]; decide) (by rw [c_8]; rfl) (by decide) ?_
                  refine lv_aload_n hx hb dP_step_102 rfl (lv_at hl 0 rfl) ?_
                  refine va_get (D := (dC, dI)) (ci := 0) (v := .ref h0) (C := RP) (T := TP) (N := 10) hx hb hts inP hown hK hP 0 rfl rfl 4 (by decide) (hts _ gw_103) (fun _ h9 => h9) rfl dP_step_103 ?_
                  refine lv_iload_n hx hb dP_step_106 rfl (lv_at hl 1 rfl) ?_
                  refine tr_go (st1 := [.long (fA_height kind rises total going width cf ct k)]) (va_runV (As := [.int k]) (rest := []) (C := RA) ⟨hx, hb, hml, hown, hts⟩ (c_A_heightTimesRises l dC dI h0 kind rises total going width cf ct k) ⟨cB 1 hts gw_426 gw_5 gw_423 ndA_heightTimesRises rfl rfl ⟨Nat.le_of_ble_eq_true rfl, Nat.le_of_ble_eq_true rfl⟩, hts _ gw_424, hts _ gw_425⟩ (tp_Rv hN hK hP [1] [] rfl rfl (q0 := 1) (ci := 4) rfl rfl) rfl rfl hl.1 rfl (lv_room (Nat.le_of_ble_eq_true rfl)) dP_step_107 ⟨Nat.le_of_ble_eq_true rfl, Nat.le_of_ble_eq_true rfl⟩) rfl ?_
                  exact absurd (hx9.symm.trans (show xP_step tot pd gd kind rises total going width cf ct k what = 0 from by unfold xP_step; rw [if_pos c_1, if_pos c_2, if_neg c_3, if_neg c_4, if_neg c_5, if_neg c_6, if_neg c_7, if_pos c_8])) (by decide)
                · skip
                  have ec_8 : ¬ what = nI 5 := c_8
                  refine lv_tableOut (tgt := 111) hx hb dP_step_16 (tsw 5 (by decide) (fun j hj => by rcases (show j = 0 ∨ j = 1 ∨ j = 2 ∨ j = 3 ∨ j = 4 ∨ j = 5 by omega) with rfl | rfl | rfl | rfl | rfl | rfl <;> assumption)) (by decide) ?_
                  exact absurd (hx9.symm.trans (show xP_step tot pd gd kind rises total going width cf ct k what = 3 from by unfold xP_step; rw [if_pos c_1, if_pos c_2, if_neg c_3, if_neg c_4, if_neg c_5, if_neg c_6, if_neg c_7, if_neg c_8])) (by decide)
    · skip
      exact absurd (hx9.symm.trans (show xP_step tot pd gd kind rises total going width cf ct k what = 2 from by unfold xP_step; rw [if_pos c_1, if_neg c_2])) (by decide)
  · skip
    refine tw_runV (As := []) (rest := []) (C := RP) ⟨hx, hb, hml, hown, hts⟩ (t_P_requirePlan l dC dI p0 pT pR pS pF h0 pQ pG tot pd gd hfl c_1) ⟨cB 0 hts gw_373 gw_1 gw_371 ndP_requirePlan rfl rfl ⟨Nat.le_of_ble_eq_true rfl, Nat.le_of_ble_eq_true rfl⟩, hts _ gw_372, hts _ gw_750⟩ (tp_Tv hZ (fun _ _ => rfl) hN hK hP [0] [] rfl rfl (q0 := 0) (ci := 0) rfl rfl) rfl hl.1 rfl (Nat.le_of_ble_eq_true rfl) dP_step_1 ⟨Nat.le_of_ble_eq_true rfl, Nat.le_of_ble_eq_true rfl⟩ (fun x9 H9 hN9 => ?_)
    exact tw_leave hlocks hne hN9

set_option maxHeartbeats 4000000 in
set_option maxRecDepth 100000 in
theorem t_P_step_IOB (l : Launch) (dC : Nat → ClassId) (dI : Nat → Nat → Nat) (p0 : Nat) (pT : Nat) (pR : Nat) (pS : Nat) (pF : Nat) (h0 : Nat) (pQ : Nat) (pG : Nat) (tot : Int64) (pd : Bool) (gd : Bool) (kind : Int32) (rises : Int32) (total : Int64) (going : Int64) (width : Int64) (cf : Int32) (ct : Int32) (k : Int32) (what : Int32) (hfl : l.stackTraces = false) (hx9 : xP_step tot pd gd kind rises total going width cf ct k what = 2) : tw_Met l mP_step wP_step ({ frames := 7, cells := 1, slots := 6, locals := 103 }) (tp_T (dC, dI) vCl [.ref p0, .int k, .int what] [(p0, .inr (0, [.ref pT, .ref pR, .ref pS, .ref pF, .ref h0, .ref pQ, .ref pG, .long tot, .int (bI pd), .int (bI gd)])), (h0, .inr (4, [.int kind, .int rises, .long total, .long going, .long width, .int cf, .int ct]))] []) "java/lang/IndexOutOfBoundsException" := by
  refine tw_ofW (cc := bP_step) (maxL := 3) (ret := (some .long)) (by decide) rfl ?_
  intro p e s m args below meth c s₁ B hml hne hv
  obtain ⟨rfl, hP, hK, hN, hZ⟩ := hv
  have hx := B.exec
  have hb := B.bytes
  have hr := B.returns
  have hts : ∀ w ∈ gT, w.before _ s = true := fun w h => atoms_spec (ws := wP_step) B.pre w (List.mem_cons_of_mem _ h)
  have hown : s.vm.findClass RP = some m.cls := findClass_of_methodNamed B.named
  have hlocks := B.notSynchronized
  have hP : va_P (dC, dI) vCl [(p0, .inr (0, [.ref pT, .ref pR, .ref pS, .ref pF, .ref h0, .ref pQ, .ref pG, .long tot, .int (bI pd), .int (bI gd)])), (h0, .inr (4, [.int kind, .int rises, .long total, .long going, .long width, .int cf, .int ct]))] s.heap := hP
  have hl := lv_entry ([.ref p0, .int k, .int what]) (n := 3) (Nat.le_of_ble_eq_true rfl)
  rw [lg_entry_eq]
  generalize (lg_sl ([.ref p0, .int k, .int what]) ++ List.replicate (3 - (lg_sl ([.ref p0, .int k, .int what])).length) Slot.unset).toArray = ls at hl ⊢
  have hl : lv_has ls 3 [(0, .ref p0), (1, .int k), (2, .int what)] := hl
  refine lv_aload_n hx hb dP_step_0 rfl (lv_at hl 0 rfl) ?_
  by_cases c_1 : xP_requirePlan tot pd gd = 0
  · skip
    refine tr_go (st1 := []) (va_runV (As := []) (rest := []) (C := RP) ⟨hx, hb, hml, hown, hts⟩ (c_P_requirePlan l dC dI p0 pT pR pS pF h0 pQ pG tot pd gd c_1) ⟨cB 0 hts gw_373 gw_1 gw_371 ndP_requirePlan rfl rfl ⟨Nat.le_of_ble_eq_true rfl, Nat.le_of_ble_eq_true rfl⟩, hts _ gw_372, hts _ gw_750⟩ (tp_Rv hN hK hP [0] [] rfl rfl (q0 := 0) (ci := 0) rfl rfl) rfl rfl hl.1 rfl (lv_room (Nat.le_of_ble_eq_true rfl)) dP_step_1 ⟨Nat.le_of_ble_eq_true rfl, Nat.le_of_ble_eq_true rfl⟩) rfl ?_
    refine lv_iload_n hx hb dP_step_4 rfl (lv_at hl 1 rfl) ?_
    refine lv_aload_n hx hb dP_step_5 rfl (lv_at hl 0 rfl) ?_
    refine va_get (D := (dC, dI)) (ci := 0) (v := .ref h0) (C := RP) (T := TP) (N := 10) hx hb hts inP hown hK hP 0 rfl rfl 4 (by decide) (hts _ gw_103) (fun _ h9 => h9) rfl dP_step_6 ?_
    refine tr_go (st1 := [.int (fA_treads kind rises total going width cf ct), .int k]) (va_runV (As := []) (rest := [.int k]) (C := RA) ⟨hx, hb, hml, hown, hts⟩ (c_A_treads l dC dI h0 kind rises total going width cf ct) ⟨cB 0 hts gw_334 gw_5 gw_397 ndA_treads rfl rfl ⟨Nat.le_of_ble_eq_true rfl, Nat.le_of_ble_eq_true rfl⟩, hts _ gw_332, hts _ gw_333⟩ (tp_Rv hN hK hP [1] [] rfl rfl (q0 := 1) (ci := 4) rfl rfl) rfl rfl hl.1 rfl (lv_room (Nat.le_of_ble_eq_true rfl)) dP_step_9 ⟨Nat.le_of_ble_eq_true rfl, Nat.le_of_ble_eq_true rfl⟩) rfl ?_
    by_cases c_2 : xP_requireIndex k (fA_treads kind rises total going width cf ct) = 0
    · skip
      refine tr_go (st1 := []) (va_runS (As := [.int k, .int (fA_treads kind rises total going width cf ct)]) (rest := []) ⟨hx, hb, hml, hown, hts⟩ (c_P_requireIndex l dC dI k (fA_treads kind rises total going width cf ct) c_2) ⟨cB 2 hts gw_376 gw_1 gw_374 ndP_requireIndex rfl rfl ⟨Nat.le_of_ble_eq_true rfl, Nat.le_of_ble_eq_true rfl⟩, hts _ gw_375⟩ (tp_Rs hN hK hP [] [] rfl rfl) rfl rfl hl.1 rfl (lv_room (Nat.le_of_ble_eq_true rfl)) dP_step_12 ⟨Nat.le_of_ble_eq_true rfl, Nat.le_of_ble_eq_true rfl⟩) rfl ?_
      refine lv_iload_n hx hb dP_step_15 rfl (lv_at hl 2 rfl) ?_
      by_cases c_3 : what = 0
      · skip
        refine lv_tableIn (tgt := 56) hx hb dP_step_16 (by rw [c_3]; decide) (by rw [c_3]; decide) (by rw [c_3]; rfl) (by decide) ?_
        refine lv_aload_n hx hb dP_step_56 rfl (lv_at hl 0 rfl) ?_
        refine va_get (D := (dC, dI)) (ci := 0) (v := .ref h0) (C := RP) (T := TP) (N := 10) hx hb hts inP hown hK hP 0 rfl rfl 4 (by decide) (hts _ gw_103) (fun _ h9 => h9) rfl dP_step_57 ?_
        refine lv_iload_n hx hb dP_step_60 rfl (lv_at hl 1 rfl) ?_
        refine tr_go (st1 := [.long (fA_leastX kind rises total going width cf ct k)]) (va_runV (As := [.int k]) (rest := []) (C := RA) ⟨hx, hb, hml, hown, hts⟩ (c_A_leastX l dC dI h0 kind rises total going width cf ct k) ⟨cB 1 hts gw_401 gw_5 gw_398 ndA_leastX rfl rfl ⟨Nat.le_of_ble_eq_true rfl, Nat.le_of_ble_eq_true rfl⟩, hts _ gw_399, hts _ gw_400⟩ (tp_Rv hN hK hP [1] [] rfl rfl (q0 := 1) (ci := 4) rfl rfl) rfl rfl hl.1 rfl (lv_room (Nat.le_of_ble_eq_true rfl)) dP_step_61 ⟨Nat.le_of_ble_eq_true rfl, Nat.le_of_ble_eq_true rfl⟩) rfl ?_
        exact absurd (hx9.symm.trans (show xP_step tot pd gd kind rises total going width cf ct k what = 0 from by unfold xP_step; rw [if_pos c_1, if_pos c_2, if_pos c_3])) (by decide)
      · skip
        have ec_3 : ¬ what = nI 0 := c_3
        by_cases c_4 : what = 1
        · skip
          refine lv_tableIn (tgt := 65) hx hb dP_step_16 (by rw [c_4]; decide) (by rw [c_4]; decide) (by rw [c_4]; rfl) (by decide) ?_
          refine lv_aload_n hx hb dP_step_65 rfl (lv_at hl 0 rfl) ?_
          refine va_get (D := (dC, dI)) (ci := 0) (v := .ref h0) (C := RP) (T := TP) (N := 10) hx hb hts inP hown hK hP 0 rfl rfl 4 (by decide) (hts _ gw_103) (fun _ h9 => h9) rfl dP_step_66 ?_
          refine lv_iload_n hx hb dP_step_69 rfl (lv_at hl 1 rfl) ?_
          refine tr_go (st1 := [.long (fA_leastY kind rises total going width cf ct k)]) (va_runV (As := [.int k]) (rest := []) (C := RA) ⟨hx, hb, hml, hown, hts⟩ (c_A_leastY l dC dI h0 kind rises total going width cf ct k) ⟨cB 1 hts gw_412 gw_5 gw_409 ndA_leastY rfl rfl ⟨Nat.le_of_ble_eq_true rfl, Nat.le_of_ble_eq_true rfl⟩, hts _ gw_410, hts _ gw_411⟩ (tp_Rv hN hK hP [1] [] rfl rfl (q0 := 1) (ci := 4) rfl rfl) rfl rfl hl.1 rfl (lv_room (Nat.le_of_ble_eq_true rfl)) dP_step_70 ⟨Nat.le_of_ble_eq_true rfl, Nat.le_of_ble_eq_true rfl⟩) rfl ?_
          exact absurd (hx9.symm.trans (show xP_step tot pd gd kind rises total going width cf ct k what = 0 from by unfold xP_step; rw [if_pos c_1, if_pos c_2, if_neg c_3, if_pos c_4])) (by decide)
        · skip
          have ec_4 : ¬ what = nI 1 := c_4
          by_cases c_5 : what = 2
          · skip
            refine lv_tableIn (tgt := 74) hx hb dP_step_16 (by rw [c_5]; decide) (by rw [c_5]; decide) (by rw [c_5]; rfl) (by decide) ?_
            refine lv_aload_n hx hb dP_step_74 rfl (lv_at hl 0 rfl) ?_
            refine va_get (D := (dC, dI)) (ci := 0) (v := .ref h0) (C := RP) (T := TP) (N := 10) hx hb hts inP hown hK hP 0 rfl rfl 4 (by decide) (hts _ gw_103) (fun _ h9 => h9) rfl dP_step_75 ?_
            refine lv_iload_n hx hb dP_step_78 rfl (lv_at hl 1 rfl) ?_
            refine tr_go (st1 := [.long (fA_greatestX kind rises total going width cf ct k)]) (va_runV (As := [.int k]) (rest := []) (C := RA) ⟨hx, hb, hml, hown, hts⟩ (c_A_greatestX l dC dI h0 kind rises total going width cf ct k) ⟨cB 1 hts gw_416 gw_5 gw_413 ndA_greatestX rfl rfl ⟨Nat.le_of_ble_eq_true rfl, Nat.le_of_ble_eq_true rfl⟩, hts _ gw_414, hts _ gw_415⟩ (tp_Rv hN hK hP [1] [] rfl rfl (q0 := 1) (ci := 4) rfl rfl) rfl rfl hl.1 rfl (lv_room (Nat.le_of_ble_eq_true rfl)) dP_step_79 ⟨Nat.le_of_ble_eq_true rfl, Nat.le_of_ble_eq_true rfl⟩) rfl ?_
            exact absurd (hx9.symm.trans (show xP_step tot pd gd kind rises total going width cf ct k what = 0 from by unfold xP_step; rw [if_pos c_1, if_pos c_2, if_neg c_3, if_neg c_4, if_pos c_5])) (by decide)
          · skip
            have ec_5 : ¬ what = nI 2 := c_5
            by_cases c_6 : what = 3
            · skip
              refine lv_tableIn (tgt := 83) hx hb dP_step_16 (by rw [c_6]; decide) (by rw [c_6]; decide) (by rw [c_6]; rfl) (by decide) ?_
              refine lv_aload_n hx hb dP_step_83 rfl (lv_at hl 0 rfl) ?_
              refine va_get (D := (dC, dI)) (ci := 0) (v := .ref h0) (C := RP) (T := TP) (N := 10) hx hb hts inP hown hK hP 0 rfl rfl 4 (by decide) (hts _ gw_103) (fun _ h9 => h9) rfl dP_step_84 ?_
              refine lv_iload_n hx hb dP_step_87 rfl (lv_at hl 1 rfl) ?_
              refine tr_go (st1 := [.long (fA_greatestY kind rises total going width cf ct k)]) (va_runV (As := [.int k]) (rest := []) (C := RA) ⟨hx, hb, hml, hown, hts⟩ (c_A_greatestY l dC dI h0 kind rises total going width cf ct k) ⟨cB 1 hts gw_420 gw_5 gw_417 ndA_greatestY rfl rfl ⟨Nat.le_of_ble_eq_true rfl, Nat.le_of_ble_eq_true rfl⟩, hts _ gw_418, hts _ gw_419⟩ (tp_Rv hN hK hP [1] [] rfl rfl (q0 := 1) (ci := 4) rfl rfl) rfl rfl hl.1 rfl (lv_room (Nat.le_of_ble_eq_true rfl)) dP_step_88 ⟨Nat.le_of_ble_eq_true rfl, Nat.le_of_ble_eq_true rfl⟩) rfl ?_
              exact absurd (hx9.symm.trans (show xP_step tot pd gd kind rises total going width cf ct k what = 0 from by unfold xP_step; rw [if_pos c_1, if_pos c_2, if_neg c_3, if_neg c_4, if_neg c_5, if_pos c_6])) (by decide)
            · skip
              have ec_6 : ¬ what = nI 3 := c_6
              by_cases c_7 : what = 4
              · skip
                refine lv_tableIn (tgt := 92) hx hb dP_step_16 (by rw [c_7]; decide) (by rw [c_7]; decide) (by rw [c_7]; rfl) (by decide) ?_
                refine lv_aload_n hx hb dP_step_92 rfl (lv_at hl 0 rfl) ?_
                refine va_get (D := (dC, dI)) (ci := 0) (v := .ref h0) (C := RP) (T := TP) (N := 10) hx hb hts inP hown hK hP 0 rfl rfl 4 (by decide) (hts _ gw_103) (fun _ h9 => h9) rfl dP_step_93 ?_
                refine lv_iload_n hx hb dP_step_96 rfl (lv_at hl 1 rfl) ?_
                refine tr_go (st1 := [.int (fA_shape kind rises total going width cf ct k)]) (va_runV (As := [.int k]) (rest := []) (C := RA) ⟨hx, hb, hml, hown, hts⟩ (c_A_shape l dC dI h0 kind rises total going width cf ct k) ⟨cB 1 hts gw_405 gw_5 gw_422 ndA_shape rfl rfl ⟨Nat.le_of_ble_eq_true rfl, Nat.le_of_ble_eq_true rfl⟩, hts _ gw_403, hts _ gw_404⟩ (tp_Rv hN hK hP [1] [] rfl rfl (q0 := 1) (ci := 4) rfl rfl) rfl rfl hl.1 rfl (lv_room (Nat.le_of_ble_eq_true rfl)) dP_step_97 ⟨Nat.le_of_ble_eq_true rfl, Nat.le_of_ble_eq_true rfl⟩) rfl ?_
                refine lv_i2l (v := (fA_shape kind rises total going width cf ct k).toInt64) hx hb dP_step_100 rfl ?_
                exact absurd (hx9.symm.trans (show xP_step tot pd gd kind rises total going width cf ct k what = 0 from by unfold xP_step; rw [if_pos c_1, if_pos c_2, if_neg c_3, if_neg c_4, if_neg c_5, if_neg c_6, if_pos c_7])) (by decide)
              · skip
                have ec_7 : ¬ what = nI 4 := c_7
                by_cases c_8 : what = 5
                · skip
                  refine lv_tableIn (tgt := 102) hx hb dP_step_16 (by rw [c_8]; decide) (by rw [c_8]; decide) (by rw [c_8]; rfl) (by decide) ?_
                  refine lv_aload_n hx hb dP_step_102 rfl (lv_at hl 0 rfl) ?_
                  refine va_get (D := (dC, dI)) (ci := 0) (v := .ref h0) (C := RP) (T := TP) (N := 10) hx hb hts inP hown hK hP 0 rfl rfl 4 (by decide) (hts _ gw_103) (fun _ h9 => h9) rfl dP_step_103 ?_
                  refine lv_iload_n hx hb dP_step_106 rfl (lv_at hl 1 rfl) ?_
                  refine tr_go (st1 := [.long (fA_height kind rises total going width cf ct k)]) (va_runV (As := [.int k]) (rest := []) (C := RA) ⟨hx, hb, hml, hown, hts⟩ (c_A_heightTimesRises l dC dI h0 kind rises total going width cf ct k) ⟨cB 1 hts gw_426 gw_5 gw_423 ndA_heightTimesRises rfl rfl ⟨Nat.le_of_ble_eq_true rfl, Nat.le_of_ble_eq_true rfl⟩, hts _ gw_424, hts _ gw_425⟩ (tp_Rv hN hK hP [1] [] rfl rfl (q0 := 1) (ci := 4) rfl rfl) rfl rfl hl.1 rfl (lv_room (Nat.le_of_ble_eq_true rfl)) dP_step_107 ⟨Nat.le_of_ble_eq_true rfl, Nat.le_of_ble_eq_true rfl⟩) rfl ?_
                  exact absurd (hx9.symm.trans (show xP_step tot pd gd kind rises total going width cf ct k what = 0 from by unfold xP_step; rw [if_pos c_1, if_pos c_2, if_neg c_3, if_neg c_4, if_neg c_5, if_neg c_6, if_neg c_7, if_pos c_8])) (by decide)
                · skip
                  have ec_8 : ¬ what = nI 5 := c_8
                  refine lv_tableOut (tgt := 111) hx hb dP_step_16 (tsw 5 (by decide) (fun j hj => by rcases (show j = 0 ∨ j = 1 ∨ j = 2 ∨ j = 3 ∨ j = 4 ∨ j = 5 by omega) with rfl | rfl | rfl | rfl | rfl | rfl <;> assumption)) (by decide) ?_
                  exact absurd (hx9.symm.trans (show xP_step tot pd gd kind rises total going width cf ct k what = 3 from by unfold xP_step; rw [if_pos c_1, if_pos c_2, if_neg c_3, if_neg c_4, if_neg c_5, if_neg c_6, if_neg c_7, if_neg c_8])) (by decide)
    · skip
      refine tw_runS (As := [.int k, .int (fA_treads kind rises total going width cf ct)]) (rest := []) ⟨hx, hb, hml, hown, hts⟩ (t_P_requireIndex l dC dI k (fA_treads kind rises total going width cf ct) hfl c_2) ⟨cB 2 hts gw_376 gw_1 gw_374 ndP_requireIndex rfl rfl ⟨Nat.le_of_ble_eq_true rfl, Nat.le_of_ble_eq_true rfl⟩, hts _ gw_375⟩ (tp_Ts hZ (fun _ _ => rfl) hN hK hP [] [] rfl rfl) rfl hl.1 rfl (Nat.le_of_ble_eq_true rfl) dP_step_12 ⟨Nat.le_of_ble_eq_true rfl, Nat.le_of_ble_eq_true rfl⟩ (fun x9 H9 hN9 => ?_)
      exact tw_leave hlocks hne hN9
  · skip
    exact absurd (hx9.symm.trans (show xP_step tot pd gd kind rises total going width cf ct k what = 1 from by unfold xP_step; rw [if_neg c_1])) (by decide)

set_option maxHeartbeats 4000000 in
set_option maxRecDepth 100000 in
theorem t_P_step_IAE (l : Launch) (dC : Nat → ClassId) (dI : Nat → Nat → Nat) (p0 : Nat) (pT : Nat) (pR : Nat) (pS : Nat) (pF : Nat) (h0 : Nat) (pQ : Nat) (pG : Nat) (tot : Int64) (pd : Bool) (gd : Bool) (kind : Int32) (rises : Int32) (total : Int64) (going : Int64) (width : Int64) (cf : Int32) (ct : Int32) (k : Int32) (what : Int32) (hfl : l.stackTraces = false) (hx9 : xP_step tot pd gd kind rises total going width cf ct k what = 3) : tw_Met l mP_step wP_step ({ frames := 6, cells := 1, slots := 6, locals := 82 }) (tp_T (dC, dI) vCl [.ref p0, .int k, .int what] [(p0, .inr (0, [.ref pT, .ref pR, .ref pS, .ref pF, .ref h0, .ref pQ, .ref pG, .long tot, .int (bI pd), .int (bI gd)])), (h0, .inr (4, [.int kind, .int rises, .long total, .long going, .long width, .int cf, .int ct]))] []) "java/lang/IllegalArgumentException" := by
  refine tw_ofW (cc := bP_step) (maxL := 3) (ret := (some .long)) (by decide) rfl ?_
  intro p e s m args below meth c s₁ B hml hne hv
  obtain ⟨rfl, hP, hK, hN, hZ⟩ := hv
  have hx := B.exec
  have hb := B.bytes
  have hr := B.returns
  have hts : ∀ w ∈ gT, w.before _ s = true := fun w h => atoms_spec (ws := wP_step) B.pre w (List.mem_cons_of_mem _ h)
  have hown : s.vm.findClass RP = some m.cls := findClass_of_methodNamed B.named
  have hlocks := B.notSynchronized
  have hP : va_P (dC, dI) vCl [(p0, .inr (0, [.ref pT, .ref pR, .ref pS, .ref pF, .ref h0, .ref pQ, .ref pG, .long tot, .int (bI pd), .int (bI gd)])), (h0, .inr (4, [.int kind, .int rises, .long total, .long going, .long width, .int cf, .int ct]))] s.heap := hP
  have hl := lv_entry ([.ref p0, .int k, .int what]) (n := 3) (Nat.le_of_ble_eq_true rfl)
  rw [lg_entry_eq]
  generalize (lg_sl ([.ref p0, .int k, .int what]) ++ List.replicate (3 - (lg_sl ([.ref p0, .int k, .int what])).length) Slot.unset).toArray = ls at hl ⊢
  have hl : lv_has ls 3 [(0, .ref p0), (1, .int k), (2, .int what)] := hl
  refine lv_aload_n hx hb dP_step_0 rfl (lv_at hl 0 rfl) ?_
  by_cases c_1 : xP_requirePlan tot pd gd = 0
  · skip
    refine tr_go (st1 := []) (va_runV (As := []) (rest := []) (C := RP) ⟨hx, hb, hml, hown, hts⟩ (c_P_requirePlan l dC dI p0 pT pR pS pF h0 pQ pG tot pd gd c_1) ⟨cB 0 hts gw_373 gw_1 gw_371 ndP_requirePlan rfl rfl ⟨Nat.le_of_ble_eq_true rfl, Nat.le_of_ble_eq_true rfl⟩, hts _ gw_372, hts _ gw_750⟩ (tp_Rv hN hK hP [0] [] rfl rfl (q0 := 0) (ci := 0) rfl rfl) rfl rfl hl.1 rfl (lv_room (Nat.le_of_ble_eq_true rfl)) dP_step_1 ⟨Nat.le_of_ble_eq_true rfl, Nat.le_of_ble_eq_true rfl⟩) rfl ?_
    refine lv_iload_n hx hb dP_step_4 rfl (lv_at hl 1 rfl) ?_
    refine lv_aload_n hx hb dP_step_5 rfl (lv_at hl 0 rfl) ?_
    refine va_get (D := (dC, dI)) (ci := 0) (v := .ref h0) (C := RP) (T := TP) (N := 10) hx hb hts inP hown hK hP 0 rfl rfl 4 (by decide) (hts _ gw_103) (fun _ h9 => h9) rfl dP_step_6 ?_
    refine tr_go (st1 := [.int (fA_treads kind rises total going width cf ct), .int k]) (va_runV (As := []) (rest := [.int k]) (C := RA) ⟨hx, hb, hml, hown, hts⟩ (c_A_treads l dC dI h0 kind rises total going width cf ct) ⟨cB 0 hts gw_334 gw_5 gw_397 ndA_treads rfl rfl ⟨Nat.le_of_ble_eq_true rfl, Nat.le_of_ble_eq_true rfl⟩, hts _ gw_332, hts _ gw_333⟩ (tp_Rv hN hK hP [1] [] rfl rfl (q0 := 1) (ci := 4) rfl rfl) rfl rfl hl.1 rfl (lv_room (Nat.le_of_ble_eq_true rfl)) dP_step_9 ⟨Nat.le_of_ble_eq_true rfl, Nat.le_of_ble_eq_true rfl⟩) rfl ?_
    by_cases c_2 : xP_requireIndex k (fA_treads kind rises total going width cf ct) = 0
    · skip
      refine tr_go (st1 := []) (va_runS (As := [.int k, .int (fA_treads kind rises total going width cf ct)]) (rest := []) ⟨hx, hb, hml, hown, hts⟩ (c_P_requireIndex l dC dI k (fA_treads kind rises total going width cf ct) c_2) ⟨cB 2 hts gw_376 gw_1 gw_374 ndP_requireIndex rfl rfl ⟨Nat.le_of_ble_eq_true rfl, Nat.le_of_ble_eq_true rfl⟩, hts _ gw_375⟩ (tp_Rs hN hK hP [] [] rfl rfl) rfl rfl hl.1 rfl (lv_room (Nat.le_of_ble_eq_true rfl)) dP_step_12 ⟨Nat.le_of_ble_eq_true rfl, Nat.le_of_ble_eq_true rfl⟩) rfl ?_
      refine lv_iload_n hx hb dP_step_15 rfl (lv_at hl 2 rfl) ?_
      by_cases c_3 : what = 0
      · skip
        refine lv_tableIn (tgt := 56) hx hb dP_step_16 (by rw [c_3]; decide) (by rw [c_3]; decide) (by rw [c_3]; rfl) (by decide) ?_
        refine lv_aload_n hx hb dP_step_56 rfl (lv_at hl 0 rfl) ?_
        refine va_get (D := (dC, dI)) (ci := 0) (v := .ref h0) (C := RP) (T := TP) (N := 10) hx hb hts inP hown hK hP 0 rfl rfl 4 (by decide) (hts _ gw_103) (fun _ h9 => h9) rfl dP_step_57 ?_
        refine lv_iload_n hx hb dP_step_60 rfl (lv_at hl 1 rfl) ?_
        refine tr_go (st1 := [.long (fA_leastX kind rises total going width cf ct k)]) (va_runV (As := [.int k]) (rest := []) (C := RA) ⟨hx, hb, hml, hown, hts⟩ (c_A_leastX l dC dI h0 kind rises total going width cf ct k) ⟨cB 1 hts gw_401 gw_5 gw_398 ndA_leastX rfl rfl ⟨Nat.le_of_ble_eq_true rfl, Nat.le_of_ble_eq_true rfl⟩, hts _ gw_399, hts _ gw_400⟩ (tp_Rv hN hK hP [1] [] rfl rfl (q0 := 1) (ci := 4) rfl rfl) rfl rfl hl.1 rfl (lv_room (Nat.le_of_ble_eq_true rfl)) dP_step_61 ⟨Nat.le_of_ble_eq_true rfl, Nat.le_of_ble_eq_true rfl⟩) rfl ?_
        exact absurd (hx9.symm.trans (show xP_step tot pd gd kind rises total going width cf ct k what = 0 from by unfold xP_step; rw [if_pos c_1, if_pos c_2, if_pos c_3])) (by decide)
      · skip
        have ec_3 : ¬ what = nI 0 := c_3
        by_cases c_4 : what = 1
        · skip
          refine lv_tableIn (tgt := 65) hx hb dP_step_16 (by rw [c_4]; decide) (by rw [c_4]; decide) (by rw [c_4]; rfl) (by decide) ?_
          refine lv_aload_n hx hb dP_step_65 rfl (lv_at hl 0 rfl) ?_
          refine va_get (D := (dC, dI)) (ci := 0) (v := .ref h0) (C := RP) (T := TP) (N := 10) hx hb hts inP hown hK hP 0 rfl rfl 4 (by decide) (hts _ gw_103) (fun _ h9 => h9) rfl dP_step_66 ?_
          refine lv_iload_n hx hb dP_step_69 rfl (lv_at hl 1 rfl) ?_
          refine tr_go (st1 := [.long (fA_leastY kind rises total going width cf ct k)]) (va_runV (As := [.int k]) (rest := []) (C := RA) ⟨hx, hb, hml, hown, hts⟩ (c_A_leastY l dC dI h0 kind rises total going width cf ct k) ⟨cB 1 hts gw_412 gw_5 gw_409 ndA_leastY rfl rfl ⟨Nat.le_of_ble_eq_true rfl, Nat.le_of_ble_eq_true rfl⟩, hts _ gw_410, hts _ gw_411⟩ (tp_Rv hN hK hP [1] [] rfl rfl (q0 := 1) (ci := 4) rfl rfl) rfl rfl hl.1 rfl (lv_room (Nat.le_of_ble_eq_true rfl)) dP_step_70 ⟨Nat.le_of_ble_eq_true rfl, Nat.le_of_ble_eq_true rfl⟩) rfl ?_
          exact absurd (hx9.symm.trans (show xP_step tot pd gd kind rises total going width cf ct k what = 0 from by unfold xP_step; rw [if_pos c_1, if_pos c_2, if_neg c_3, if_pos c_4])) (by decide)
        · skip
          have ec_4 : ¬ what = nI 1 := c_4
          by_cases c_5 : what = 2
          · skip
            refine lv_tableIn (tgt := 74) hx hb dP_step_16 (by rw [c_5]; decide) (by rw [c_5]; decide) (by rw [c_5]; rfl) (by decide) ?_
            refine lv_aload_n hx hb dP_step_74 rfl (lv_at hl 0 rfl) ?_
            refine va_get (D := (dC, dI)) (ci := 0) (v := .ref h0) (C := RP) (T := TP) (N := 10) hx hb hts inP hown hK hP 0 rfl rfl 4 (by decide) (hts _ gw_103) (fun _ h9 => h9) rfl dP_step_75 ?_
            refine lv_iload_n hx hb dP_step_78 rfl (lv_at hl 1 rfl) ?_
            refine tr_go (st1 := [.long (fA_greatestX kind rises total going width cf ct k)]) (va_runV (As := [.int k]) (rest := []) (C := RA) ⟨hx, hb, hml, hown, hts⟩ (c_A_greatestX l dC dI h0 kind rises total going width cf ct k) ⟨cB 1 hts gw_416 gw_5 gw_413 ndA_greatestX rfl rfl ⟨Nat.le_of_ble_eq_true rfl, Nat.le_of_ble_eq_true rfl⟩, hts _ gw_414, hts _ gw_415⟩ (tp_Rv hN hK hP [1] [] rfl rfl (q0 := 1) (ci := 4) rfl rfl) rfl rfl hl.1 rfl (lv_room (Nat.le_of_ble_eq_true rfl)) dP_step_79 ⟨Nat.le_of_ble_eq_true rfl, Nat.le_of_ble_eq_true rfl⟩) rfl ?_
            exact absurd (hx9.symm.trans (show xP_step tot pd gd kind rises total going width cf ct k what = 0 from by unfold xP_step; rw [if_pos c_1, if_pos c_2, if_neg c_3, if_neg c_4, if_pos c_5])) (by decide)
          · skip
            have ec_5 : ¬ what = nI 2 := c_5
            by_cases c_6 : what = 3
            · skip
              refine lv_tableIn (tgt := 83) hx hb dP_step_16 (by rw [c_6]; decide) (by rw [c_6]; decide) (by rw [c_6]; rfl) (by decide) ?_
              refine lv_aload_n hx hb dP_step_83 rfl (lv_at hl 0 rfl) ?_
              refine va_get (D := (dC, dI)) (ci := 0) (v := .ref h0) (C := RP) (T := TP) (N := 10) hx hb hts inP hown hK hP 0 rfl rfl 4 (by decide) (hts _ gw_103) (fun _ h9 => h9) rfl dP_step_84 ?_
              refine lv_iload_n hx hb dP_step_87 rfl (lv_at hl 1 rfl) ?_
              refine tr_go (st1 := [.long (fA_greatestY kind rises total going width cf ct k)]) (va_runV (As := [.int k]) (rest := []) (C := RA) ⟨hx, hb, hml, hown, hts⟩ (c_A_greatestY l dC dI h0 kind rises total going width cf ct k) ⟨cB 1 hts gw_420 gw_5 gw_417 ndA_greatestY rfl rfl ⟨Nat.le_of_ble_eq_true rfl, Nat.le_of_ble_eq_true rfl⟩, hts _ gw_418, hts _ gw_419⟩ (tp_Rv hN hK hP [1] [] rfl rfl (q0 := 1) (ci := 4) rfl rfl) rfl rfl hl.1 rfl (lv_room (Nat.le_of_ble_eq_true rfl)) dP_step_88 ⟨Nat.le_of_ble_eq_true rfl, Nat.le_of_ble_eq_true rfl⟩) rfl ?_
              exact absurd (hx9.symm.trans (show xP_step tot pd gd kind rises total going width cf ct k what = 0 from by unfold xP_step; rw [if_pos c_1, if_pos c_2, if_neg c_3, if_neg c_4, if_neg c_5, if_pos c_6])) (by decide)
            · skip
              have ec_6 : ¬ what = nI 3 := c_6
              by_cases c_7 : what = 4
              · skip
                refine lv_tableIn (tgt := 92) hx hb dP_step_16 (by rw [c_7]; decide) (by rw [c_7]; decide) (by rw [c_7]; rfl) (by decide) ?_
                refine lv_aload_n hx hb dP_step_92 rfl (lv_at hl 0 rfl) ?_
                refine va_get (D := (dC, dI)) (ci := 0) (v := .ref h0) (C := RP) (T := TP) (N := 10) hx hb hts inP hown hK hP 0 rfl rfl 4 (by decide) (hts _ gw_103) (fun _ h9 => h9) rfl dP_step_93 ?_
                refine lv_iload_n hx hb dP_step_96 rfl (lv_at hl 1 rfl) ?_
                refine tr_go (st1 := [.int (fA_shape kind rises total going width cf ct k)]) (va_runV (As := [.int k]) (rest := []) (C := RA) ⟨hx, hb, hml, hown, hts⟩ (c_A_shape l dC dI h0 kind rises total going width cf ct k) ⟨cB 1 hts gw_405 gw_5 gw_422 ndA_shape rfl rfl ⟨Nat.le_of_ble_eq_true rfl, Nat.le_of_ble_eq_true rfl⟩, hts _ gw_403, hts _ gw_404⟩ (tp_Rv hN hK hP [1] [] rfl rfl (q0 := 1) (ci := 4) rfl rfl) rfl rfl hl.1 rfl (lv_room (Nat.le_of_ble_eq_true rfl)) dP_step_97 ⟨Nat.le_of_ble_eq_true rfl, Nat.le_of_ble_eq_true rfl⟩) rfl ?_
                refine lv_i2l (v := (fA_shape kind rises total going width cf ct k).toInt64) hx hb dP_step_100 rfl ?_
                exact absurd (hx9.symm.trans (show xP_step tot pd gd kind rises total going width cf ct k what = 0 from by unfold xP_step; rw [if_pos c_1, if_pos c_2, if_neg c_3, if_neg c_4, if_neg c_5, if_neg c_6, if_pos c_7])) (by decide)
              · skip
                have ec_7 : ¬ what = nI 4 := c_7
                by_cases c_8 : what = 5
                · skip
                  refine lv_tableIn (tgt := 102) hx hb dP_step_16 (by rw [c_8]; decide) (by rw [c_8]; decide) (by rw [c_8]; rfl) (by decide) ?_
                  refine lv_aload_n hx hb dP_step_102 rfl (lv_at hl 0 rfl) ?_
                  refine va_get (D := (dC, dI)) (ci := 0) (v := .ref h0) (C := RP) (T := TP) (N := 10) hx hb hts inP hown hK hP 0 rfl rfl 4 (by decide) (hts _ gw_103) (fun _ h9 => h9) rfl dP_step_103 ?_
                  refine lv_iload_n hx hb dP_step_106 rfl (lv_at hl 1 rfl) ?_
                  refine tr_go (st1 := [.long (fA_height kind rises total going width cf ct k)]) (va_runV (As := [.int k]) (rest := []) (C := RA) ⟨hx, hb, hml, hown, hts⟩ (c_A_heightTimesRises l dC dI h0 kind rises total going width cf ct k) ⟨cB 1 hts gw_426 gw_5 gw_423 ndA_heightTimesRises rfl rfl ⟨Nat.le_of_ble_eq_true rfl, Nat.le_of_ble_eq_true rfl⟩, hts _ gw_424, hts _ gw_425⟩ (tp_Rv hN hK hP [1] [] rfl rfl (q0 := 1) (ci := 4) rfl rfl) rfl rfl hl.1 rfl (lv_room (Nat.le_of_ble_eq_true rfl)) dP_step_107 ⟨Nat.le_of_ble_eq_true rfl, Nat.le_of_ble_eq_true rfl⟩) rfl ?_
                  exact absurd (hx9.symm.trans (show xP_step tot pd gd kind rises total going width cf ct k what = 0 from by unfold xP_step; rw [if_pos c_1, if_pos c_2, if_neg c_3, if_neg c_4, if_neg c_5, if_neg c_6, if_neg c_7, if_pos c_8])) (by decide)
                · skip
                  have ec_8 : ¬ what = nI 5 := c_8
                  refine lv_tableOut (tgt := 111) hx hb dP_step_16 (tsw 5 (by decide) (fun j hj => by rcases (show j = 0 ∨ j = 1 ∨ j = 2 ∨ j = 3 ∨ j = 4 ∨ j = 5 by omega) with rfl | rfl | rfl | rfl | rfl | rfl <;> assumption)) (by decide) ?_
                  exact tw_new (E := "java/lang/IllegalArgumentException") hx hb hml hl.1 hfl hlocks hne hown (tz_lit (hZ.1 _ sw_7 rfl)) (hts _ gw_250) (hts _ gw_11) (own_IAE hts hN hZ) (by decide) (by decide) dP_step_111 dP_step_114 dP_step_115 dP_step_117 dP_step_120 (Nat.le_of_ble_eq_true rfl) (Nat.le_of_ble_eq_true rfl) (Nat.le_of_ble_eq_true rfl) (Nat.le_of_ble_eq_true rfl)
    · skip
      exact absurd (hx9.symm.trans (show xP_step tot pd gd kind rises total going width cf ct k what = 2 from by unfold xP_step; rw [if_pos c_1, if_neg c_2])) (by decide)
  · skip
    exact absurd (hx9.symm.trans (show xP_step tot pd gd kind rises total going width cf ct k what = 1 from by unfold xP_step; rw [if_neg c_1])) (by decide)

def xP_winder (tot : Int64) (pd : Bool) (gd : Bool) (kind : Int32) (rises : Int32) (total : Int64) (going : Int64) (width : Int64) (cf : Int32) (ct : Int32) (edge : Int32) (axis : Int32) : Nat := if xP_requireWinders tot pd gd kind rises total going width cf ct = 0 then (if xP_requireIndex edge 4 = 0 then (if xP_requireIndex axis 2 = 0 then (if axis = 0 then 0 else 0) else 2) else 2) else 1

def fP_winder (tot : Int64) (pd : Bool) (gd : Bool) (kind : Int32) (rises : Int32) (total : Int64) (going : Int64) (width : Int64) (cf : Int32) (ct : Int32) (edge : Int32) (axis : Int32) : Int64 := if xP_requireWinders tot pd gd kind rises total going width cf ct = 0 then (if xP_requireIndex edge 4 = 0 then (if xP_requireIndex axis 2 = 0 then (if axis = 0 then (fA_edgeX kind rises total going width cf ct edge) else (fA_edgeY kind rises total going width cf ct edge)) else 0) else 0) else 0
set_option maxHeartbeats 4000000 in
set_option maxRecDepth 100000 in
theorem c_P_winder (l : Launch) (dC : Nat → ClassId) (dI : Nat → Nat → Nat) (p0 : Nat) (pT : Nat) (pR : Nat) (pS : Nat) (pF : Nat) (h0 : Nat) (pQ : Nat) (pG : Nat) (tot : Int64) (pd : Bool) (gd : Bool) (kind : Int32) (rises : Int32) (total : Int64) (going : Int64) (width : Int64) (cf : Int32) (ct : Int32) (edge : Int32) (axis : Int32) (hx9 : xP_winder tot pd gd kind rises total going width cf ct edge axis = 0) : Met l mP_winder wP_winder ({ frames := 2, cells := 0, slots := 0, locals := 41 }) (tp_R (dC, dI) vCl [.ref p0, .int edge, .int axis] [(p0, .inr (0, [.ref pT, .ref pR, .ref pS, .ref pF, .ref h0, .ref pQ, .ref pG, .long tot, .int (bI pd), .int (bI gd)])), (h0, .inr (4, [.int kind, .int rises, .long total, .long going, .long width, .int cf, .int ct]))] []) (tq_R (some (.long (fP_winder tot pd gd kind rises total going width cf ct edge axis)))) 0 0 (fun _ => False) := by
  refine Met.ofW (cc := bP_winder) (maxL := 3) (ret := (some .long)) (by decide) rfl ?_
  intro p e s m args below meth c s₁ B hml hv
  obtain ⟨rfl, hP, hK, hN⟩ := hv
  have hx := B.exec
  have hb := B.bytes
  have hr := B.returns
  have hts : ∀ w ∈ gT, w.before _ s = true := fun w h => atoms_spec (ws := wP_winder) B.pre w (List.mem_cons_of_mem _ h)
  have hown : s.vm.findClass RP = some m.cls := findClass_of_methodNamed B.named
  have hlocks := B.notSynchronized
  have hP : va_P (dC, dI) vCl [(p0, .inr (0, [.ref pT, .ref pR, .ref pS, .ref pF, .ref h0, .ref pQ, .ref pG, .long tot, .int (bI pd), .int (bI gd)])), (h0, .inr (4, [.int kind, .int rises, .long total, .long going, .long width, .int cf, .int ct]))] s.heap := hP
  have hl := lv_entry ([.ref p0, .int edge, .int axis]) (n := 3) (Nat.le_of_ble_eq_true rfl)
  rw [lg_entry_eq]
  generalize (lg_sl ([.ref p0, .int edge, .int axis]) ++ List.replicate (3 - (lg_sl ([.ref p0, .int edge, .int axis])).length) Slot.unset).toArray = ls at hl ⊢
  have hl : lv_has ls 3 [(0, .ref p0), (1, .int edge), (2, .int axis)] := hl
  refine lv_aload_n hx hb dP_winder_0 rfl (lv_at hl 0 rfl) ?_
  by_cases c_1 : xP_requireWinders tot pd gd kind rises total going width cf ct = 0
  · skip
    refine tr_go (st1 := []) (va_runV (As := []) (rest := []) (C := RP) ⟨hx, hb, hml, hown, hts⟩ (c_P_requireWinders l dC dI p0 pT pR pS pF h0 pQ pG tot pd gd kind rises total going width cf ct c_1) ⟨cB 0 hts gw_436 gw_1 gw_434 ndP_requireWinders rfl rfl ⟨Nat.le_of_ble_eq_true rfl, Nat.le_of_ble_eq_true rfl⟩, hts _ gw_435, hts _ gw_752⟩ (tp_Rv hN hK hP [0, 1] [] rfl rfl (q0 := 0) (ci := 0) rfl rfl) rfl rfl hl.1 rfl (lv_room (Nat.le_of_ble_eq_true rfl)) dP_winder_1 ⟨Nat.le_of_ble_eq_true rfl, Nat.le_of_ble_eq_true rfl⟩) rfl ?_
    refine lv_iload_n hx hb dP_winder_4 rfl (lv_at hl 1 rfl) ?_
    refine lv_iconst (v := 4) hx hb dP_winder_5 (by decide) ?_
    by_cases c_2 : xP_requireIndex edge 4 = 0
    · skip
      refine tr_go (st1 := []) (va_runS (As := [.int edge, .int 4]) (rest := []) ⟨hx, hb, hml, hown, hts⟩ (c_P_requireIndex l dC dI edge 4 c_2) ⟨cB 2 hts gw_376 gw_1 gw_374 ndP_requireIndex rfl rfl ⟨Nat.le_of_ble_eq_true rfl, Nat.le_of_ble_eq_true rfl⟩, hts _ gw_375⟩ (tp_Rs hN hK hP [] [] rfl rfl) rfl rfl hl.1 rfl (lv_room (Nat.le_of_ble_eq_true rfl)) dP_winder_6 ⟨Nat.le_of_ble_eq_true rfl, Nat.le_of_ble_eq_true rfl⟩) rfl ?_
      refine lv_iload_n hx hb dP_winder_9 rfl (lv_at hl 2 rfl) ?_
      refine lv_iconst (v := 2) hx hb dP_winder_10 (by decide) ?_
      by_cases c_3 : xP_requireIndex axis 2 = 0
      · skip
        refine tr_go (st1 := []) (va_runS (As := [.int axis, .int 2]) (rest := []) ⟨hx, hb, hml, hown, hts⟩ (c_P_requireIndex l dC dI axis 2 c_3) ⟨cB 2 hts gw_376 gw_1 gw_374 ndP_requireIndex rfl rfl ⟨Nat.le_of_ble_eq_true rfl, Nat.le_of_ble_eq_true rfl⟩, hts _ gw_375⟩ (tp_Rs hN hK hP [] [] rfl rfl) rfl rfl hl.1 rfl (lv_room (Nat.le_of_ble_eq_true rfl)) dP_winder_11 ⟨Nat.le_of_ble_eq_true rfl, Nat.le_of_ble_eq_true rfl⟩) rfl ?_
        refine lv_iload_n hx hb dP_winder_14 rfl (lv_at hl 2 rfl) ?_
        refine lv_if_ne (tgt := 29) hx hb dP_winder_15 (by decide) (fun c_4 => ?_) (fun c_4 => ?_)
        · skip
          refine lv_aload_n hx hb dP_winder_29 rfl (lv_at hl 0 rfl) ?_
          refine va_get (D := (dC, dI)) (ci := 0) (v := .ref h0) (C := RP) (T := TP) (N := 10) hx hb hts inP hown hK hP 0 rfl rfl 4 (by decide) (hts _ gw_103) (fun _ h9 => h9) rfl dP_winder_30 ?_
          refine lv_iload_n hx hb dP_winder_33 rfl (lv_at hl 1 rfl) ?_
          refine tr_go (st1 := [.long (fA_edgeY kind rises total going width cf ct edge)]) (va_runV (As := [.int edge]) (rest := []) (C := RA) ⟨hx, hb, hml, hown, hts⟩ (c_A_edgeYTimesThree l dC dI h0 kind rises total going width cf ct edge) ⟨cB 1 hts gw_449 gw_5 gw_446 ndA_edgeYTimesThree rfl rfl ⟨Nat.le_of_ble_eq_true rfl, Nat.le_of_ble_eq_true rfl⟩, hts _ gw_447, hts _ gw_448⟩ (tp_Rv hN hK hP [1] [] rfl rfl (q0 := 1) (ci := 4) rfl rfl) rfl rfl hl.1 rfl (lv_room (Nat.le_of_ble_eq_true rfl)) dP_winder_34 ⟨Nat.le_of_ble_eq_true rfl, Nat.le_of_ble_eq_true rfl⟩) rfl ?_
          exact W.lret (v := fA_edgeY kind rises total going width cf ct edge) hx hb hr (fun t ht hW => ⟨by rw [show fP_winder tot pd gd kind rises total going width cf ct edge axis = fA_edgeY kind rises total going width cf ct edge from by unfold fP_winder; rw [if_pos c_1, if_pos c_2, if_pos c_3, if_neg c_4]], ht⟩) (fun q h => by cases h) dP_winder_37
        · skip
          refine lv_aload_n hx hb dP_winder_18 rfl (lv_at hl 0 rfl) ?_
          refine va_get (D := (dC, dI)) (ci := 0) (v := .ref h0) (C := RP) (T := TP) (N := 10) hx hb hts inP hown hK hP 0 rfl rfl 4 (by decide) (hts _ gw_103) (fun _ h9 => h9) rfl dP_winder_19 ?_
          refine lv_iload_n hx hb dP_winder_22 rfl (lv_at hl 1 rfl) ?_
          refine tr_go (st1 := [.long (fA_edgeX kind rises total going width cf ct edge)]) (va_runV (As := [.int edge]) (rest := []) (C := RA) ⟨hx, hb, hml, hown, hts⟩ (c_A_edgeXTimesThree l dC dI h0 kind rises total going width cf ct edge) ⟨cB 1 hts gw_441 gw_5 gw_438 ndA_edgeXTimesThree rfl rfl ⟨Nat.le_of_ble_eq_true rfl, Nat.le_of_ble_eq_true rfl⟩, hts _ gw_439, hts _ gw_440⟩ (tp_Rv hN hK hP [1] [] rfl rfl (q0 := 1) (ci := 4) rfl rfl) rfl rfl hl.1 rfl (lv_room (Nat.le_of_ble_eq_true rfl)) dP_winder_23 ⟨Nat.le_of_ble_eq_true rfl, Nat.le_of_ble_eq_true rfl⟩) rfl ?_
          refine lv_goto (tgt := 37) hx hb dP_winder_26 (by decide) ?_
          exact W.lret (v := fA_edgeX kind rises total going width cf ct edge) hx hb hr (fun t ht hW => ⟨by rw [show fP_winder tot pd gd kind rises total going width cf ct edge axis = fA_edgeX kind rises total going width cf ct edge from by unfold fP_winder; rw [if_pos c_1, if_pos c_2, if_pos c_3, if_pos c_4]], ht⟩) (fun q h => by cases h) dP_winder_37
      · skip
        exact absurd (hx9.symm.trans (show xP_winder tot pd gd kind rises total going width cf ct edge axis = 2 from by unfold xP_winder; rw [if_pos c_1, if_pos c_2, if_neg c_3])) (by decide)
    · skip
      exact absurd (hx9.symm.trans (show xP_winder tot pd gd kind rises total going width cf ct edge axis = 2 from by unfold xP_winder; rw [if_pos c_1, if_neg c_2])) (by decide)
  · skip
    exact absurd (hx9.symm.trans (show xP_winder tot pd gd kind rises total going width cf ct edge axis = 1 from by unfold xP_winder; rw [if_neg c_1])) (by decide)

set_option maxHeartbeats 4000000 in
set_option maxRecDepth 100000 in
theorem t_P_winder_ISE (l : Launch) (dC : Nat → ClassId) (dI : Nat → Nat → Nat) (p0 : Nat) (pT : Nat) (pR : Nat) (pS : Nat) (pF : Nat) (h0 : Nat) (pQ : Nat) (pG : Nat) (tot : Int64) (pd : Bool) (gd : Bool) (kind : Int32) (rises : Int32) (total : Int64) (going : Int64) (width : Int64) (cf : Int32) (ct : Int32) (edge : Int32) (axis : Int32) (hfl : l.stackTraces = false) (hx9 : xP_winder tot pd gd kind rises total going width cf ct edge axis = 1) : tw_Met l mP_winder wP_winder ({ frames := 8, cells := 1, slots := 6, locals := 122 }) (tp_T (dC, dI) vCl [.ref p0, .int edge, .int axis] [(p0, .inr (0, [.ref pT, .ref pR, .ref pS, .ref pF, .ref h0, .ref pQ, .ref pG, .long tot, .int (bI pd), .int (bI gd)])), (h0, .inr (4, [.int kind, .int rises, .long total, .long going, .long width, .int cf, .int ct]))] []) "java/lang/IllegalStateException" := by
  refine tw_ofW (cc := bP_winder) (maxL := 3) (ret := (some .long)) (by decide) rfl ?_
  intro p e s m args below meth c s₁ B hml hne hv
  obtain ⟨rfl, hP, hK, hN, hZ⟩ := hv
  have hx := B.exec
  have hb := B.bytes
  have hr := B.returns
  have hts : ∀ w ∈ gT, w.before _ s = true := fun w h => atoms_spec (ws := wP_winder) B.pre w (List.mem_cons_of_mem _ h)
  have hown : s.vm.findClass RP = some m.cls := findClass_of_methodNamed B.named
  have hlocks := B.notSynchronized
  have hP : va_P (dC, dI) vCl [(p0, .inr (0, [.ref pT, .ref pR, .ref pS, .ref pF, .ref h0, .ref pQ, .ref pG, .long tot, .int (bI pd), .int (bI gd)])), (h0, .inr (4, [.int kind, .int rises, .long total, .long going, .long width, .int cf, .int ct]))] s.heap := hP
  have hl := lv_entry ([.ref p0, .int edge, .int axis]) (n := 3) (Nat.le_of_ble_eq_true rfl)
  rw [lg_entry_eq]
  generalize (lg_sl ([.ref p0, .int edge, .int axis]) ++ List.replicate (3 - (lg_sl ([.ref p0, .int edge, .int axis])).length) Slot.unset).toArray = ls at hl ⊢
  have hl : lv_has ls 3 [(0, .ref p0), (1, .int edge), (2, .int axis)] := hl
  refine lv_aload_n hx hb dP_winder_0 rfl (lv_at hl 0 rfl) ?_
  by_cases c_1 : xP_requireWinders tot pd gd kind rises total going width cf ct = 0
  · skip
    refine tr_go (st1 := []) (va_runV (As := []) (rest := []) (C := RP) ⟨hx, hb, hml, hown, hts⟩ (c_P_requireWinders l dC dI p0 pT pR pS pF h0 pQ pG tot pd gd kind rises total going width cf ct c_1) ⟨cB 0 hts gw_436 gw_1 gw_434 ndP_requireWinders rfl rfl ⟨Nat.le_of_ble_eq_true rfl, Nat.le_of_ble_eq_true rfl⟩, hts _ gw_435, hts _ gw_752⟩ (tp_Rv hN hK hP [0, 1] [] rfl rfl (q0 := 0) (ci := 0) rfl rfl) rfl rfl hl.1 rfl (lv_room (Nat.le_of_ble_eq_true rfl)) dP_winder_1 ⟨Nat.le_of_ble_eq_true rfl, Nat.le_of_ble_eq_true rfl⟩) rfl ?_
    refine lv_iload_n hx hb dP_winder_4 rfl (lv_at hl 1 rfl) ?_
    refine lv_iconst (v := 4) hx hb dP_winder_5 (by decide) ?_
    by_cases c_2 : xP_requireIndex edge 4 = 0
    · skip
      refine tr_go (st1 := []) (va_runS (As := [.int edge, .int 4]) (rest := []) ⟨hx, hb, hml, hown, hts⟩ (c_P_requireIndex l dC dI edge 4 c_2) ⟨cB 2 hts gw_376 gw_1 gw_374 ndP_requireIndex rfl rfl ⟨Nat.le_of_ble_eq_true rfl, Nat.le_of_ble_eq_true rfl⟩, hts _ gw_375⟩ (tp_Rs hN hK hP [] [] rfl rfl) rfl rfl hl.1 rfl (lv_room (Nat.le_of_ble_eq_true rfl)) dP_winder_6 ⟨Nat.le_of_ble_eq_true rfl, Nat.le_of_ble_eq_true rfl⟩) rfl ?_
      refine lv_iload_n hx hb dP_winder_9 rfl (lv_at hl 2 rfl) ?_
      refine lv_iconst (v := 2) hx hb dP_winder_10 (by decide) ?_
      by_cases c_3 : xP_requireIndex axis 2 = 0
      · skip
        refine tr_go (st1 := []) (va_runS (As := [.int axis, .int 2]) (rest := []) ⟨hx, hb, hml, hown, hts⟩ (c_P_requireIndex l dC dI axis 2 c_3) ⟨cB 2 hts gw_376 gw_1 gw_374 ndP_requireIndex rfl rfl ⟨Nat.le_of_ble_eq_true rfl, Nat.le_of_ble_eq_true rfl⟩, hts _ gw_375⟩ (tp_Rs hN hK hP [] [] rfl rfl) rfl rfl hl.1 rfl (lv_room (Nat.le_of_ble_eq_true rfl)) dP_winder_11 ⟨Nat.le_of_ble_eq_true rfl, Nat.le_of_ble_eq_true rfl⟩) rfl ?_
        refine lv_iload_n hx hb dP_winder_14 rfl (lv_at hl 2 rfl) ?_
        refine lv_if_ne (tgt := 29) hx hb dP_winder_15 (by decide) (fun c_4 => ?_) (fun c_4 => ?_)
        · skip
          refine lv_aload_n hx hb dP_winder_29 rfl (lv_at hl 0 rfl) ?_
          refine va_get (D := (dC, dI)) (ci := 0) (v := .ref h0) (C := RP) (T := TP) (N := 10) hx hb hts inP hown hK hP 0 rfl rfl 4 (by decide) (hts _ gw_103) (fun _ h9 => h9) rfl dP_winder_30 ?_
          refine lv_iload_n hx hb dP_winder_33 rfl (lv_at hl 1 rfl) ?_
          refine tr_go (st1 := [.long (fA_edgeY kind rises total going width cf ct edge)]) (va_runV (As := [.int edge]) (rest := []) (C := RA) ⟨hx, hb, hml, hown, hts⟩ (c_A_edgeYTimesThree l dC dI h0 kind rises total going width cf ct edge) ⟨cB 1 hts gw_449 gw_5 gw_446 ndA_edgeYTimesThree rfl rfl ⟨Nat.le_of_ble_eq_true rfl, Nat.le_of_ble_eq_true rfl⟩, hts _ gw_447, hts _ gw_448⟩ (tp_Rv hN hK hP [1] [] rfl rfl (q0 := 1) (ci := 4) rfl rfl) rfl rfl hl.1 rfl (lv_room (Nat.le_of_ble_eq_true rfl)) dP_winder_34 ⟨Nat.le_of_ble_eq_true rfl, Nat.le_of_ble_eq_true rfl⟩) rfl ?_
          exact absurd (hx9.symm.trans (show xP_winder tot pd gd kind rises total going width cf ct edge axis = 0 from by unfold xP_winder; rw [if_pos c_1, if_pos c_2, if_pos c_3, if_neg c_4])) (by decide)
        · skip
          refine lv_aload_n hx hb dP_winder_18 rfl (lv_at hl 0 rfl) ?_
          refine va_get (D := (dC, dI)) (ci := 0) (v := .ref h0) (C := RP) (T := TP) (N := 10) hx hb hts inP hown hK hP 0 rfl rfl 4 (by decide) (hts _ gw_103) (fun _ h9 => h9) rfl dP_winder_19 ?_
          refine lv_iload_n hx hb dP_winder_22 rfl (lv_at hl 1 rfl) ?_
          refine tr_go (st1 := [.long (fA_edgeX kind rises total going width cf ct edge)]) (va_runV (As := [.int edge]) (rest := []) (C := RA) ⟨hx, hb, hml, hown, hts⟩ (c_A_edgeXTimesThree l dC dI h0 kind rises total going width cf ct edge) ⟨cB 1 hts gw_441 gw_5 gw_438 ndA_edgeXTimesThree rfl rfl ⟨Nat.le_of_ble_eq_true rfl, Nat.le_of_ble_eq_true rfl⟩, hts _ gw_439, hts _ gw_440⟩ (tp_Rv hN hK hP [1] [] rfl rfl (q0 := 1) (ci := 4) rfl rfl) rfl rfl hl.1 rfl (lv_room (Nat.le_of_ble_eq_true rfl)) dP_winder_23 ⟨Nat.le_of_ble_eq_true rfl, Nat.le_of_ble_eq_true rfl⟩) rfl ?_
          refine lv_goto (tgt := 37) hx hb dP_winder_26 (by decide) ?_
          exact absurd (hx9.symm.trans (show xP_winder tot pd gd kind rises total going width cf ct edge axis = 0 from by unfold xP_winder; rw [if_pos c_1, if_pos c_2, if_pos c_3, if_pos c_4])) (by decide)
      · skip
        exact absurd (hx9.symm.trans (show xP_winder tot pd gd kind rises total going width cf ct edge axis = 2 from by unfold xP_winder; rw [if_pos c_1, if_pos c_2, if_neg c_3])) (by decide)
    · skip
      exact absurd (hx9.symm.trans (show xP_winder tot pd gd kind rises total going width cf ct edge axis = 2 from by unfold xP_winder; rw [if_pos c_1, if_neg c_2])) (by decide)
  · skip
    refine tw_runV (As := []) (rest := []) (C := RP) ⟨hx, hb, hml, hown, hts⟩ (t_P_requireWinders l dC dI p0 pT pR pS pF h0 pQ pG tot pd gd kind rises total going width cf ct hfl c_1) ⟨cB 0 hts gw_436 gw_1 gw_434 ndP_requireWinders rfl rfl ⟨Nat.le_of_ble_eq_true rfl, Nat.le_of_ble_eq_true rfl⟩, hts _ gw_435, hts _ gw_752⟩ (tp_Tv hZ (fun _ _ => rfl) hN hK hP [0, 1] [] rfl rfl (q0 := 0) (ci := 0) rfl rfl) rfl hl.1 rfl (Nat.le_of_ble_eq_true rfl) dP_winder_1 ⟨Nat.le_of_ble_eq_true rfl, Nat.le_of_ble_eq_true rfl⟩ (fun x9 H9 hN9 => ?_)
    exact tw_leave hlocks hne hN9

set_option maxHeartbeats 4000000 in
set_option maxRecDepth 100000 in
theorem t_P_winder_IOB (l : Launch) (dC : Nat → ClassId) (dI : Nat → Nat → Nat) (p0 : Nat) (pT : Nat) (pR : Nat) (pS : Nat) (pF : Nat) (h0 : Nat) (pQ : Nat) (pG : Nat) (tot : Int64) (pd : Bool) (gd : Bool) (kind : Int32) (rises : Int32) (total : Int64) (going : Int64) (width : Int64) (cf : Int32) (ct : Int32) (edge : Int32) (axis : Int32) (hfl : l.stackTraces = false) (hx9 : xP_winder tot pd gd kind rises total going width cf ct edge axis = 2) : tw_Met l mP_winder wP_winder ({ frames := 7, cells := 1, slots := 6, locals := 103 }) (tp_T (dC, dI) vCl [.ref p0, .int edge, .int axis] [(p0, .inr (0, [.ref pT, .ref pR, .ref pS, .ref pF, .ref h0, .ref pQ, .ref pG, .long tot, .int (bI pd), .int (bI gd)])), (h0, .inr (4, [.int kind, .int rises, .long total, .long going, .long width, .int cf, .int ct]))] []) "java/lang/IndexOutOfBoundsException" := by
  refine tw_ofW (cc := bP_winder) (maxL := 3) (ret := (some .long)) (by decide) rfl ?_
  intro p e s m args below meth c s₁ B hml hne hv
  obtain ⟨rfl, hP, hK, hN, hZ⟩ := hv
  have hx := B.exec
  have hb := B.bytes
  have hr := B.returns
  have hts : ∀ w ∈ gT, w.before _ s = true := fun w h => atoms_spec (ws := wP_winder) B.pre w (List.mem_cons_of_mem _ h)
  have hown : s.vm.findClass RP = some m.cls := findClass_of_methodNamed B.named
  have hlocks := B.notSynchronized
  have hP : va_P (dC, dI) vCl [(p0, .inr (0, [.ref pT, .ref pR, .ref pS, .ref pF, .ref h0, .ref pQ, .ref pG, .long tot, .int (bI pd), .int (bI gd)])), (h0, .inr (4, [.int kind, .int rises, .long total, .long going, .long width, .int cf, .int ct]))] s.heap := hP
  have hl := lv_entry ([.ref p0, .int edge, .int axis]) (n := 3) (Nat.le_of_ble_eq_true rfl)
  rw [lg_entry_eq]
  generalize (lg_sl ([.ref p0, .int edge, .int axis]) ++ List.replicate (3 - (lg_sl ([.ref p0, .int edge, .int axis])).length) Slot.unset).toArray = ls at hl ⊢
  have hl : lv_has ls 3 [(0, .ref p0), (1, .int edge), (2, .int axis)] := hl
  refine lv_aload_n hx hb dP_winder_0 rfl (lv_at hl 0 rfl) ?_
  by_cases c_1 : xP_requireWinders tot pd gd kind rises total going width cf ct = 0
  · skip
    refine tr_go (st1 := []) (va_runV (As := []) (rest := []) (C := RP) ⟨hx, hb, hml, hown, hts⟩ (c_P_requireWinders l dC dI p0 pT pR pS pF h0 pQ pG tot pd gd kind rises total going width cf ct c_1) ⟨cB 0 hts gw_436 gw_1 gw_434 ndP_requireWinders rfl rfl ⟨Nat.le_of_ble_eq_true rfl, Nat.le_of_ble_eq_true rfl⟩, hts _ gw_435, hts _ gw_752⟩ (tp_Rv hN hK hP [0, 1] [] rfl rfl (q0 := 0) (ci := 0) rfl rfl) rfl rfl hl.1 rfl (lv_room (Nat.le_of_ble_eq_true rfl)) dP_winder_1 ⟨Nat.le_of_ble_eq_true rfl, Nat.le_of_ble_eq_true rfl⟩) rfl ?_
    refine lv_iload_n hx hb dP_winder_4 rfl (lv_at hl 1 rfl) ?_
    refine lv_iconst (v := 4) hx hb dP_winder_5 (by decide) ?_
    by_cases c_2 : xP_requireIndex edge 4 = 0
    · skip
      refine tr_go (st1 := []) (va_runS (As := [.int edge, .int 4]) (rest := []) ⟨hx, hb, hml, hown, hts⟩ (c_P_requireIndex l dC dI edge 4 c_2) ⟨cB 2 hts gw_376 gw_1 gw_374 ndP_requireIndex rfl rfl ⟨Nat.le_of_ble_eq_true rfl, Nat.le_of_ble_eq_true rfl⟩, hts _ gw_375⟩ (tp_Rs hN hK hP [] [] rfl rfl) rfl rfl hl.1 rfl (lv_room (Nat.le_of_ble_eq_true rfl)) dP_winder_6 ⟨Nat.le_of_ble_eq_true rfl, Nat.le_of_ble_eq_true rfl⟩) rfl ?_
      refine lv_iload_n hx hb dP_winder_9 rfl (lv_at hl 2 rfl) ?_
      refine lv_iconst (v := 2) hx hb dP_winder_10 (by decide) ?_
      by_cases c_3 : xP_requireIndex axis 2 = 0
      · skip
        refine tr_go (st1 := []) (va_runS (As := [.int axis, .int 2]) (rest := []) ⟨hx, hb, hml, hown, hts⟩ (c_P_requireIndex l dC dI axis 2 c_3) ⟨cB 2 hts gw_376 gw_1 gw_374 ndP_requireIndex rfl rfl ⟨Nat.le_of_ble_eq_true rfl, Nat.le_of_ble_eq_true rfl⟩, hts _ gw_375⟩ (tp_Rs hN hK hP [] [] rfl rfl) rfl rfl hl.1 rfl (lv_room (Nat.le_of_ble_eq_true rfl)) dP_winder_11 ⟨Nat.le_of_ble_eq_true rfl, Nat.le_of_ble_eq_true rfl⟩) rfl ?_
        refine lv_iload_n hx hb dP_winder_14 rfl (lv_at hl 2 rfl) ?_
        refine lv_if_ne (tgt := 29) hx hb dP_winder_15 (by decide) (fun c_4 => ?_) (fun c_4 => ?_)
        · skip
          refine lv_aload_n hx hb dP_winder_29 rfl (lv_at hl 0 rfl) ?_
          refine va_get (D := (dC, dI)) (ci := 0) (v := .ref h0) (C := RP) (T := TP) (N := 10) hx hb hts inP hown hK hP 0 rfl rfl 4 (by decide) (hts _ gw_103) (fun _ h9 => h9) rfl dP_winder_30 ?_
          refine lv_iload_n hx hb dP_winder_33 rfl (lv_at hl 1 rfl) ?_
          refine tr_go (st1 := [.long (fA_edgeY kind rises total going width cf ct edge)]) (va_runV (As := [.int edge]) (rest := []) (C := RA) ⟨hx, hb, hml, hown, hts⟩ (c_A_edgeYTimesThree l dC dI h0 kind rises total going width cf ct edge) ⟨cB 1 hts gw_449 gw_5 gw_446 ndA_edgeYTimesThree rfl rfl ⟨Nat.le_of_ble_eq_true rfl, Nat.le_of_ble_eq_true rfl⟩, hts _ gw_447, hts _ gw_448⟩ (tp_Rv hN hK hP [1] [] rfl rfl (q0 := 1) (ci := 4) rfl rfl) rfl rfl hl.1 rfl (lv_room (Nat.le_of_ble_eq_true rfl)) dP_winder_34 ⟨Nat.le_of_ble_eq_true rfl, Nat.le_of_ble_eq_true rfl⟩) rfl ?_
          exact absurd (hx9.symm.trans (show xP_winder tot pd gd kind rises total going width cf ct edge axis = 0 from by unfold xP_winder; rw [if_pos c_1, if_pos c_2, if_pos c_3, if_neg c_4])) (by decide)
        · skip
          refine lv_aload_n hx hb dP_winder_18 rfl (lv_at hl 0 rfl) ?_
          refine va_get (D := (dC, dI)) (ci := 0) (v := .ref h0) (C := RP) (T := TP) (N := 10) hx hb hts inP hown hK hP 0 rfl rfl 4 (by decide) (hts _ gw_103) (fun _ h9 => h9) rfl dP_winder_19 ?_
          refine lv_iload_n hx hb dP_winder_22 rfl (lv_at hl 1 rfl) ?_
          refine tr_go (st1 := [.long (fA_edgeX kind rises total going width cf ct edge)]) (va_runV (As := [.int edge]) (rest := []) (C := RA) ⟨hx, hb, hml, hown, hts⟩ (c_A_edgeXTimesThree l dC dI h0 kind rises total going width cf ct edge) ⟨cB 1 hts gw_441 gw_5 gw_438 ndA_edgeXTimesThree rfl rfl ⟨Nat.le_of_ble_eq_true rfl, Nat.le_of_ble_eq_true rfl⟩, hts _ gw_439, hts _ gw_440⟩ (tp_Rv hN hK hP [1] [] rfl rfl (q0 := 1) (ci := 4) rfl rfl) rfl rfl hl.1 rfl (lv_room (Nat.le_of_ble_eq_true rfl)) dP_winder_23 ⟨Nat.le_of_ble_eq_true rfl, Nat.le_of_ble_eq_true rfl⟩) rfl ?_
          refine lv_goto (tgt := 37) hx hb dP_winder_26 (by decide) ?_
          exact absurd (hx9.symm.trans (show xP_winder tot pd gd kind rises total going width cf ct edge axis = 0 from by unfold xP_winder; rw [if_pos c_1, if_pos c_2, if_pos c_3, if_pos c_4])) (by decide)
      · skip
        refine tw_runS (As := [.int axis, .int 2]) (rest := []) ⟨hx, hb, hml, hown, hts⟩ (t_P_requireIndex l dC dI axis 2 hfl c_3) ⟨cB 2 hts gw_376 gw_1 gw_374 ndP_requireIndex rfl rfl ⟨Nat.le_of_ble_eq_true rfl, Nat.le_of_ble_eq_true rfl⟩, hts _ gw_375⟩ (tp_Ts hZ (fun _ _ => rfl) hN hK hP [] [] rfl rfl) rfl hl.1 rfl (Nat.le_of_ble_eq_true rfl) dP_winder_11 ⟨Nat.le_of_ble_eq_true rfl, Nat.le_of_ble_eq_true rfl⟩ (fun x9 H9 hN9 => ?_)
        exact tw_leave hlocks hne hN9
    · skip
      refine tw_runS (As := [.int edge, .int 4]) (rest := []) ⟨hx, hb, hml, hown, hts⟩ (t_P_requireIndex l dC dI edge 4 hfl c_2) ⟨cB 2 hts gw_376 gw_1 gw_374 ndP_requireIndex rfl rfl ⟨Nat.le_of_ble_eq_true rfl, Nat.le_of_ble_eq_true rfl⟩, hts _ gw_375⟩ (tp_Ts hZ (fun _ _ => rfl) hN hK hP [] [] rfl rfl) rfl hl.1 rfl (Nat.le_of_ble_eq_true rfl) dP_winder_6 ⟨Nat.le_of_ble_eq_true rfl, Nat.le_of_ble_eq_true rfl⟩ (fun x9 H9 hN9 => ?_)
      exact tw_leave hlocks hne hN9
  · skip
    exact absurd (hx9.symm.trans (show xP_winder tot pd gd kind rises total going width cf ct edge axis = 1 from by unfold xP_winder; rw [if_neg c_1])) (by decide)

def xP_area (tot : Int64) (pd : Bool) (gd : Bool) (kind : Int32) (rises : Int32) (total : Int64) (going : Int64) (width : Int64) (cf : Int32) (ct : Int32) (wi : Int32) : Nat := if xP_requireWinders tot pd gd kind rises total going width cf ct = 0 then (if xP_requireIndex wi 3 = 0 then 0 else 2) else 1

def fP_area (tot : Int64) (pd : Bool) (gd : Bool) (kind : Int32) (rises : Int32) (total : Int64) (going : Int64) (width : Int64) (cf : Int32) (ct : Int32) (wi : Int32) : Int64 := if xP_requireWinders tot pd gd kind rises total going width cf ct = 0 then (if xP_requireIndex wi 3 = 0 then (fA_area kind rises total going width cf ct) else 0) else 0
set_option maxHeartbeats 4000000 in
set_option maxRecDepth 100000 in
theorem c_P_area (l : Launch) (dC : Nat → ClassId) (dI : Nat → Nat → Nat) (p0 : Nat) (pT : Nat) (pR : Nat) (pS : Nat) (pF : Nat) (h0 : Nat) (pQ : Nat) (pG : Nat) (tot : Int64) (pd : Bool) (gd : Bool) (kind : Int32) (rises : Int32) (total : Int64) (going : Int64) (width : Int64) (cf : Int32) (ct : Int32) (wi : Int32) (hx9 : xP_area tot pd gd kind rises total going width cf ct wi = 0) : Met l mP_area wP_area ({ frames := 2, cells := 0, slots := 0, locals := 40 }) (tp_R (dC, dI) vCl [.ref p0, .int wi] [(p0, .inr (0, [.ref pT, .ref pR, .ref pS, .ref pF, .ref h0, .ref pQ, .ref pG, .long tot, .int (bI pd), .int (bI gd)])), (h0, .inr (4, [.int kind, .int rises, .long total, .long going, .long width, .int cf, .int ct]))] []) (tq_R (some (.long (fP_area tot pd gd kind rises total going width cf ct wi)))) 0 0 (fun _ => False) := by
  refine Met.ofW (cc := bP_area) (maxL := 2) (ret := (some .long)) (by decide) rfl ?_
  intro p e s m args below meth c s₁ B hml hv
  obtain ⟨rfl, hP, hK, hN⟩ := hv
  have hx := B.exec
  have hb := B.bytes
  have hr := B.returns
  have hts : ∀ w ∈ gT, w.before _ s = true := fun w h => atoms_spec (ws := wP_area) B.pre w (List.mem_cons_of_mem _ h)
  have hown : s.vm.findClass RP = some m.cls := findClass_of_methodNamed B.named
  have hlocks := B.notSynchronized
  have hP : va_P (dC, dI) vCl [(p0, .inr (0, [.ref pT, .ref pR, .ref pS, .ref pF, .ref h0, .ref pQ, .ref pG, .long tot, .int (bI pd), .int (bI gd)])), (h0, .inr (4, [.int kind, .int rises, .long total, .long going, .long width, .int cf, .int ct]))] s.heap := hP
  have hl := lv_entry ([.ref p0, .int wi]) (n := 2) (Nat.le_of_ble_eq_true rfl)
  rw [lg_entry_eq]
  generalize (lg_sl ([.ref p0, .int wi]) ++ List.replicate (2 - (lg_sl ([.ref p0, .int wi])).length) Slot.unset).toArray = ls at hl ⊢
  have hl : lv_has ls 2 [(0, .ref p0), (1, .int wi)] := hl
  refine lv_aload_n hx hb dP_area_0 rfl (lv_at hl 0 rfl) ?_
  by_cases c_1 : xP_requireWinders tot pd gd kind rises total going width cf ct = 0
  · skip
    refine tr_go (st1 := []) (va_runV (As := []) (rest := []) (C := RP) ⟨hx, hb, hml, hown, hts⟩ (c_P_requireWinders l dC dI p0 pT pR pS pF h0 pQ pG tot pd gd kind rises total going width cf ct c_1) ⟨cB 0 hts gw_436 gw_1 gw_434 ndP_requireWinders rfl rfl ⟨Nat.le_of_ble_eq_true rfl, Nat.le_of_ble_eq_true rfl⟩, hts _ gw_435, hts _ gw_752⟩ (tp_Rv hN hK hP [0, 1] [] rfl rfl (q0 := 0) (ci := 0) rfl rfl) rfl rfl hl.1 rfl (lv_room (Nat.le_of_ble_eq_true rfl)) dP_area_1 ⟨Nat.le_of_ble_eq_true rfl, Nat.le_of_ble_eq_true rfl⟩) rfl ?_
    refine lv_iload_n hx hb dP_area_4 rfl (lv_at hl 1 rfl) ?_
    refine lv_iconst (v := 3) hx hb dP_area_5 (by decide) ?_
    by_cases c_2 : xP_requireIndex wi 3 = 0
    · skip
      refine tr_go (st1 := []) (va_runS (As := [.int wi, .int 3]) (rest := []) ⟨hx, hb, hml, hown, hts⟩ (c_P_requireIndex l dC dI wi 3 c_2) ⟨cB 2 hts gw_376 gw_1 gw_374 ndP_requireIndex rfl rfl ⟨Nat.le_of_ble_eq_true rfl, Nat.le_of_ble_eq_true rfl⟩, hts _ gw_375⟩ (tp_Rs hN hK hP [] [] rfl rfl) rfl rfl hl.1 rfl (lv_room (Nat.le_of_ble_eq_true rfl)) dP_area_6 ⟨Nat.le_of_ble_eq_true rfl, Nat.le_of_ble_eq_true rfl⟩) rfl ?_
      refine lv_aload_n hx hb dP_area_9 rfl (lv_at hl 0 rfl) ?_
      refine va_get (D := (dC, dI)) (ci := 0) (v := .ref h0) (C := RP) (T := TP) (N := 10) hx hb hts inP hown hK hP 0 rfl rfl 4 (by decide) (hts _ gw_103) (fun _ h9 => h9) rfl dP_area_10 ?_
      refine tr_go (st1 := [.long (fA_area kind rises total going width cf ct)]) (va_runV (As := []) (rest := []) (C := RA) ⟨hx, hb, hml, hown, hts⟩ (c_A_sixTimesWinderArea l dC dI h0 kind rises total going width cf ct) ⟨cB 0 hts gw_463 gw_5 gw_460 ndA_sixTimesWinderArea rfl rfl ⟨Nat.le_of_ble_eq_true rfl, Nat.le_of_ble_eq_true rfl⟩, hts _ gw_461, hts _ gw_462⟩ (tp_Rv hN hK hP [1] [] rfl rfl (q0 := 1) (ci := 4) rfl rfl) rfl rfl hl.1 rfl (lv_room (Nat.le_of_ble_eq_true rfl)) dP_area_13 ⟨Nat.le_of_ble_eq_true rfl, Nat.le_of_ble_eq_true rfl⟩) rfl ?_
      exact W.lret (v := fA_area kind rises total going width cf ct) hx hb hr (fun t ht hW => ⟨by rw [show fP_area tot pd gd kind rises total going width cf ct wi = fA_area kind rises total going width cf ct from by unfold fP_area; rw [if_pos c_1, if_pos c_2]], ht⟩) (fun q h => by cases h) dP_area_16
    · skip
      exact absurd (hx9.symm.trans (show xP_area tot pd gd kind rises total going width cf ct wi = 2 from by unfold xP_area; rw [if_pos c_1, if_neg c_2])) (by decide)
  · skip
    exact absurd (hx9.symm.trans (show xP_area tot pd gd kind rises total going width cf ct wi = 1 from by unfold xP_area; rw [if_neg c_1])) (by decide)

set_option maxHeartbeats 4000000 in
set_option maxRecDepth 100000 in
theorem t_P_area_ISE (l : Launch) (dC : Nat → ClassId) (dI : Nat → Nat → Nat) (p0 : Nat) (pT : Nat) (pR : Nat) (pS : Nat) (pF : Nat) (h0 : Nat) (pQ : Nat) (pG : Nat) (tot : Int64) (pd : Bool) (gd : Bool) (kind : Int32) (rises : Int32) (total : Int64) (going : Int64) (width : Int64) (cf : Int32) (ct : Int32) (wi : Int32) (hfl : l.stackTraces = false) (hx9 : xP_area tot pd gd kind rises total going width cf ct wi = 1) : tw_Met l mP_area wP_area ({ frames := 8, cells := 1, slots := 6, locals := 122 }) (tp_T (dC, dI) vCl [.ref p0, .int wi] [(p0, .inr (0, [.ref pT, .ref pR, .ref pS, .ref pF, .ref h0, .ref pQ, .ref pG, .long tot, .int (bI pd), .int (bI gd)])), (h0, .inr (4, [.int kind, .int rises, .long total, .long going, .long width, .int cf, .int ct]))] []) "java/lang/IllegalStateException" := by
  refine tw_ofW (cc := bP_area) (maxL := 2) (ret := (some .long)) (by decide) rfl ?_
  intro p e s m args below meth c s₁ B hml hne hv
  obtain ⟨rfl, hP, hK, hN, hZ⟩ := hv
  have hx := B.exec
  have hb := B.bytes
  have hr := B.returns
  have hts : ∀ w ∈ gT, w.before _ s = true := fun w h => atoms_spec (ws := wP_area) B.pre w (List.mem_cons_of_mem _ h)
  have hown : s.vm.findClass RP = some m.cls := findClass_of_methodNamed B.named
  have hlocks := B.notSynchronized
  have hP : va_P (dC, dI) vCl [(p0, .inr (0, [.ref pT, .ref pR, .ref pS, .ref pF, .ref h0, .ref pQ, .ref pG, .long tot, .int (bI pd), .int (bI gd)])), (h0, .inr (4, [.int kind, .int rises, .long total, .long going, .long width, .int cf, .int ct]))] s.heap := hP
  have hl := lv_entry ([.ref p0, .int wi]) (n := 2) (Nat.le_of_ble_eq_true rfl)
  rw [lg_entry_eq]
  generalize (lg_sl ([.ref p0, .int wi]) ++ List.replicate (2 - (lg_sl ([.ref p0, .int wi])).length) Slot.unset).toArray = ls at hl ⊢
  have hl : lv_has ls 2 [(0, .ref p0), (1, .int wi)] := hl
  refine lv_aload_n hx hb dP_area_0 rfl (lv_at hl 0 rfl) ?_
  by_cases c_1 : xP_requireWinders tot pd gd kind rises total going width cf ct = 0
  · skip
    refine tr_go (st1 := []) (va_runV (As := []) (rest := []) (C := RP) ⟨hx, hb, hml, hown, hts⟩ (c_P_requireWinders l dC dI p0 pT pR pS pF h0 pQ pG tot pd gd kind rises total going width cf ct c_1) ⟨cB 0 hts gw_436 gw_1 gw_434 ndP_requireWinders rfl rfl ⟨Nat.le_of_ble_eq_true rfl, Nat.le_of_ble_eq_true rfl⟩, hts _ gw_435, hts _ gw_752⟩ (tp_Rv hN hK hP [0, 1] [] rfl rfl (q0 := 0) (ci := 0) rfl rfl) rfl rfl hl.1 rfl (lv_room (Nat.le_of_ble_eq_true rfl)) dP_area_1 ⟨Nat.le_of_ble_eq_true rfl, Nat.le_of_ble_eq_true rfl⟩) rfl ?_
    refine lv_iload_n hx hb dP_area_4 rfl (lv_at hl 1 rfl) ?_
    refine lv_iconst (v := 3) hx hb dP_area_5 (by decide) ?_
    by_cases c_2 : xP_requireIndex wi 3 = 0
    · skip
      refine tr_go (st1 := []) (va_runS (As := [.int wi, .int 3]) (rest := []) ⟨hx, hb, hml, hown, hts⟩ (c_P_requireIndex l dC dI wi 3 c_2) ⟨cB 2 hts gw_376 gw_1 gw_374 ndP_requireIndex rfl rfl ⟨Nat.le_of_ble_eq_true rfl, Nat.le_of_ble_eq_true rfl⟩, hts _ gw_375⟩ (tp_Rs hN hK hP [] [] rfl rfl) rfl rfl hl.1 rfl (lv_room (Nat.le_of_ble_eq_true rfl)) dP_area_6 ⟨Nat.le_of_ble_eq_true rfl, Nat.le_of_ble_eq_true rfl⟩) rfl ?_
      refine lv_aload_n hx hb dP_area_9 rfl (lv_at hl 0 rfl) ?_
      refine va_get (D := (dC, dI)) (ci := 0) (v := .ref h0) (C := RP) (T := TP) (N := 10) hx hb hts inP hown hK hP 0 rfl rfl 4 (by decide) (hts _ gw_103) (fun _ h9 => h9) rfl dP_area_10 ?_
      refine tr_go (st1 := [.long (fA_area kind rises total going width cf ct)]) (va_runV (As := []) (rest := []) (C := RA) ⟨hx, hb, hml, hown, hts⟩ (c_A_sixTimesWinderArea l dC dI h0 kind rises total going width cf ct) ⟨cB 0 hts gw_463 gw_5 gw_460 ndA_sixTimesWinderArea rfl rfl ⟨Nat.le_of_ble_eq_true rfl, Nat.le_of_ble_eq_true rfl⟩, hts _ gw_461, hts _ gw_462⟩ (tp_Rv hN hK hP [1] [] rfl rfl (q0 := 1) (ci := 4) rfl rfl) rfl rfl hl.1 rfl (lv_room (Nat.le_of_ble_eq_true rfl)) dP_area_13 ⟨Nat.le_of_ble_eq_true rfl, Nat.le_of_ble_eq_true rfl⟩) rfl ?_
      exact absurd (hx9.symm.trans (show xP_area tot pd gd kind rises total going width cf ct wi = 0 from by unfold xP_area; rw [if_pos c_1, if_pos c_2])) (by decide)
    · skip
      exact absurd (hx9.symm.trans (show xP_area tot pd gd kind rises total going width cf ct wi = 2 from by unfold xP_area; rw [if_pos c_1, if_neg c_2])) (by decide)
  · skip
    refine tw_runV (As := []) (rest := []) (C := RP) ⟨hx, hb, hml, hown, hts⟩ (t_P_requireWinders l dC dI p0 pT pR pS pF h0 pQ pG tot pd gd kind rises total going width cf ct hfl c_1) ⟨cB 0 hts gw_436 gw_1 gw_434 ndP_requireWinders rfl rfl ⟨Nat.le_of_ble_eq_true rfl, Nat.le_of_ble_eq_true rfl⟩, hts _ gw_435, hts _ gw_752⟩ (tp_Tv hZ (fun _ _ => rfl) hN hK hP [0, 1] [] rfl rfl (q0 := 0) (ci := 0) rfl rfl) rfl hl.1 rfl (Nat.le_of_ble_eq_true rfl) dP_area_1 ⟨Nat.le_of_ble_eq_true rfl, Nat.le_of_ble_eq_true rfl⟩ (fun x9 H9 hN9 => ?_)
    exact tw_leave hlocks hne hN9

set_option maxHeartbeats 4000000 in
set_option maxRecDepth 100000 in
theorem t_P_area_IOB (l : Launch) (dC : Nat → ClassId) (dI : Nat → Nat → Nat) (p0 : Nat) (pT : Nat) (pR : Nat) (pS : Nat) (pF : Nat) (h0 : Nat) (pQ : Nat) (pG : Nat) (tot : Int64) (pd : Bool) (gd : Bool) (kind : Int32) (rises : Int32) (total : Int64) (going : Int64) (width : Int64) (cf : Int32) (ct : Int32) (wi : Int32) (hfl : l.stackTraces = false) (hx9 : xP_area tot pd gd kind rises total going width cf ct wi = 2) : tw_Met l mP_area wP_area ({ frames := 7, cells := 1, slots := 6, locals := 103 }) (tp_T (dC, dI) vCl [.ref p0, .int wi] [(p0, .inr (0, [.ref pT, .ref pR, .ref pS, .ref pF, .ref h0, .ref pQ, .ref pG, .long tot, .int (bI pd), .int (bI gd)])), (h0, .inr (4, [.int kind, .int rises, .long total, .long going, .long width, .int cf, .int ct]))] []) "java/lang/IndexOutOfBoundsException" := by
  refine tw_ofW (cc := bP_area) (maxL := 2) (ret := (some .long)) (by decide) rfl ?_
  intro p e s m args below meth c s₁ B hml hne hv
  obtain ⟨rfl, hP, hK, hN, hZ⟩ := hv
  have hx := B.exec
  have hb := B.bytes
  have hr := B.returns
  have hts : ∀ w ∈ gT, w.before _ s = true := fun w h => atoms_spec (ws := wP_area) B.pre w (List.mem_cons_of_mem _ h)
  have hown : s.vm.findClass RP = some m.cls := findClass_of_methodNamed B.named
  have hlocks := B.notSynchronized
  have hP : va_P (dC, dI) vCl [(p0, .inr (0, [.ref pT, .ref pR, .ref pS, .ref pF, .ref h0, .ref pQ, .ref pG, .long tot, .int (bI pd), .int (bI gd)])), (h0, .inr (4, [.int kind, .int rises, .long total, .long going, .long width, .int cf, .int ct]))] s.heap := hP
  have hl := lv_entry ([.ref p0, .int wi]) (n := 2) (Nat.le_of_ble_eq_true rfl)
  rw [lg_entry_eq]
  generalize (lg_sl ([.ref p0, .int wi]) ++ List.replicate (2 - (lg_sl ([.ref p0, .int wi])).length) Slot.unset).toArray = ls at hl ⊢
  have hl : lv_has ls 2 [(0, .ref p0), (1, .int wi)] := hl
  refine lv_aload_n hx hb dP_area_0 rfl (lv_at hl 0 rfl) ?_
  by_cases c_1 : xP_requireWinders tot pd gd kind rises total going width cf ct = 0
  · skip
    refine tr_go (st1 := []) (va_runV (As := []) (rest := []) (C := RP) ⟨hx, hb, hml, hown, hts⟩ (c_P_requireWinders l dC dI p0 pT pR pS pF h0 pQ pG tot pd gd kind rises total going width cf ct c_1) ⟨cB 0 hts gw_436 gw_1 gw_434 ndP_requireWinders rfl rfl ⟨Nat.le_of_ble_eq_true rfl, Nat.le_of_ble_eq_true rfl⟩, hts _ gw_435, hts _ gw_752⟩ (tp_Rv hN hK hP [0, 1] [] rfl rfl (q0 := 0) (ci := 0) rfl rfl) rfl rfl hl.1 rfl (lv_room (Nat.le_of_ble_eq_true rfl)) dP_area_1 ⟨Nat.le_of_ble_eq_true rfl, Nat.le_of_ble_eq_true rfl⟩) rfl ?_
    refine lv_iload_n hx hb dP_area_4 rfl (lv_at hl 1 rfl) ?_
    refine lv_iconst (v := 3) hx hb dP_area_5 (by decide) ?_
    by_cases c_2 : xP_requireIndex wi 3 = 0
    · skip
      refine tr_go (st1 := []) (va_runS (As := [.int wi, .int 3]) (rest := []) ⟨hx, hb, hml, hown, hts⟩ (c_P_requireIndex l dC dI wi 3 c_2) ⟨cB 2 hts gw_376 gw_1 gw_374 ndP_requireIndex rfl rfl ⟨Nat.le_of_ble_eq_true rfl, Nat.le_of_ble_eq_true rfl⟩, hts _ gw_375⟩ (tp_Rs hN hK hP [] [] rfl rfl) rfl rfl hl.1 rfl (lv_room (Nat.le_of_ble_eq_true rfl)) dP_area_6 ⟨Nat.le_of_ble_eq_true rfl, Nat.le_of_ble_eq_true rfl⟩) rfl ?_
      refine lv_aload_n hx hb dP_area_9 rfl (lv_at hl 0 rfl) ?_
      refine va_get (D := (dC, dI)) (ci := 0) (v := .ref h0) (C := RP) (T := TP) (N := 10) hx hb hts inP hown hK hP 0 rfl rfl 4 (by decide) (hts _ gw_103) (fun _ h9 => h9) rfl dP_area_10 ?_
      refine tr_go (st1 := [.long (fA_area kind rises total going width cf ct)]) (va_runV (As := []) (rest := []) (C := RA) ⟨hx, hb, hml, hown, hts⟩ (c_A_sixTimesWinderArea l dC dI h0 kind rises total going width cf ct) ⟨cB 0 hts gw_463 gw_5 gw_460 ndA_sixTimesWinderArea rfl rfl ⟨Nat.le_of_ble_eq_true rfl, Nat.le_of_ble_eq_true rfl⟩, hts _ gw_461, hts _ gw_462⟩ (tp_Rv hN hK hP [1] [] rfl rfl (q0 := 1) (ci := 4) rfl rfl) rfl rfl hl.1 rfl (lv_room (Nat.le_of_ble_eq_true rfl)) dP_area_13 ⟨Nat.le_of_ble_eq_true rfl, Nat.le_of_ble_eq_true rfl⟩) rfl ?_
      exact absurd (hx9.symm.trans (show xP_area tot pd gd kind rises total going width cf ct wi = 0 from by unfold xP_area; rw [if_pos c_1, if_pos c_2])) (by decide)
    · skip
      refine tw_runS (As := [.int wi, .int 3]) (rest := []) ⟨hx, hb, hml, hown, hts⟩ (t_P_requireIndex l dC dI wi 3 hfl c_2) ⟨cB 2 hts gw_376 gw_1 gw_374 ndP_requireIndex rfl rfl ⟨Nat.le_of_ble_eq_true rfl, Nat.le_of_ble_eq_true rfl⟩, hts _ gw_375⟩ (tp_Ts hZ (fun _ _ => rfl) hN hK hP [] [] rfl rfl) rfl hl.1 rfl (Nat.le_of_ble_eq_true rfl) dP_area_6 ⟨Nat.le_of_ble_eq_true rfl, Nat.le_of_ble_eq_true rfl⟩ (fun x9 H9 hN9 => ?_)
      exact tw_leave hlocks hne hN9
  · skip
    exact absurd (hx9.symm.trans (show xP_area tot pd gd kind rises total going width cf ct wi = 1 from by unfold xP_area; rw [if_neg c_1])) (by decide)

def xP_meets (tot : Int64) (pd : Bool) (gd : Bool) (fw : Nat → Int32) (fr : Nat → Int32) (fb : Nat → Int32) (cnt : Int32) (kind : Int32) (rises : Int32) (total : Int64) (going : Int64) (width : Int64) (cf : Int32) (ct : Int32) (rule : Int32) : Nat := if xP_requirePlan tot pd gd = 0 then (if xP_requireIndex rule cnt = 0 then 0 else 2) else 1

def fP_meets (tot : Int64) (pd : Bool) (gd : Bool) (fw : Nat → Int32) (fr : Nat → Int32) (fb : Nat → Int32) (cnt : Int32) (kind : Int32) (rises : Int32) (total : Int64) (going : Int64) (width : Int64) (cf : Int32) (ct : Int32) (rule : Int32) : Bool := if xP_requirePlan tot pd gd = 0 then (if xP_requireIndex rule cnt = 0 then (fS_holds fw fr fb cnt kind rises total going width cf ct rule) else false) else false
set_option maxHeartbeats 4000000 in
set_option maxRecDepth 100000 in
theorem c_P_meets (l : Launch) (dC : Nat → ClassId) (dI : Nat → Nat → Nat) (p0 : Nat) (pT : Nat) (pR : Nat) (pS : Nat) (pF : Nat) (h0 : Nat) (pQ : Nat) (pG : Nat) (tot : Int64) (pd : Bool) (gd : Bool) (aw : Nat) (ar : Nat) (ab : Nat) (cw : ClassId) (cr : ClassId) (cb : ClassId) (fw : Nat → Int32) (fr : Nat → Int32) (fb : Nat → Int32) (cnt : Int32) (kind : Int32) (rises : Int32) (total : Int64) (going : Int64) (width : Int64) (cf : Int32) (ct : Int32) (rule : Int32) (hx9 : xP_meets tot pd gd fw fr fb cnt kind rises total going width cf ct rule = 0) : Met l mP_meets wP_meets ({ frames := 2, cells := 0, slots := 0, locals := 50 }) (tp_R (dC, dI) vCl [.ref p0, .int rule] [(p0, .inr (0, [.ref pT, .ref pR, .ref pS, .ref pF, .ref h0, .ref pQ, .ref pG, .long tot, .int (bI pd), .int (bI gd)])), (h0, .inr (4, [.int kind, .int rises, .long total, .long going, .long width, .int cf, .int ct])), (pR, .inr (2, [.ref aw, .ref ar, .ref ab, .int cnt])), (aw, .inl (cw, 40, .inl fw)), (ar, .inl (cr, 8, .inl fr)), (ab, .inl (cb, 8, .inl fb))] [(cw, .int), (cr, .char), (cb, .int)]) (tq_R (some (.int (bI (fP_meets tot pd gd fw fr fb cnt kind rises total going width cf ct rule))))) 0 0 (fun _ => False) := by
  refine Met.ofW (cc := bP_meets) (maxL := 2) (ret := (some .boolean)) (by decide) rfl ?_
  intro p e s m args below meth c s₁ B hml hv
  obtain ⟨rfl, hP, hK, hN⟩ := hv
  have hx := B.exec
  have hb := B.bytes
  have hr := B.returns
  have hts : ∀ w ∈ gT, w.before _ s = true := fun w h => atoms_spec (ws := wP_meets) B.pre w (List.mem_cons_of_mem _ h)
  have hown : s.vm.findClass RP = some m.cls := findClass_of_methodNamed B.named
  have hlocks := B.notSynchronized
  have hP : va_P (dC, dI) vCl [(p0, .inr (0, [.ref pT, .ref pR, .ref pS, .ref pF, .ref h0, .ref pQ, .ref pG, .long tot, .int (bI pd), .int (bI gd)])), (h0, .inr (4, [.int kind, .int rises, .long total, .long going, .long width, .int cf, .int ct])), (pR, .inr (2, [.ref aw, .ref ar, .ref ab, .int cnt])), (aw, .inl (cw, 40, .inl fw)), (ar, .inl (cr, 8, .inl fr)), (ab, .inl (cb, 8, .inl fb))] s.heap := hP
  have hl := lv_entry ([.ref p0, .int rule]) (n := 2) (Nat.le_of_ble_eq_true rfl)
  rw [lg_entry_eq]
  generalize (lg_sl ([.ref p0, .int rule]) ++ List.replicate (2 - (lg_sl ([.ref p0, .int rule])).length) Slot.unset).toArray = ls at hl ⊢
  have hl : lv_has ls 2 [(0, .ref p0), (1, .int rule)] := hl
  refine lv_aload_n hx hb dP_meets_0 rfl (lv_at hl 0 rfl) ?_
  by_cases c_1 : xP_requirePlan tot pd gd = 0
  · skip
    refine tr_go (st1 := []) (va_runV (As := []) (rest := []) (C := RP) ⟨hx, hb, hml, hown, hts⟩ (c_P_requirePlan l dC dI p0 pT pR pS pF h0 pQ pG tot pd gd c_1) ⟨cB 0 hts gw_373 gw_1 gw_371 ndP_requirePlan rfl rfl ⟨Nat.le_of_ble_eq_true rfl, Nat.le_of_ble_eq_true rfl⟩, hts _ gw_372, hts _ gw_750⟩ (tp_Rv hN hK hP [0] [] rfl rfl (q0 := 0) (ci := 0) rfl rfl) rfl rfl hl.1 rfl (lv_room (Nat.le_of_ble_eq_true rfl)) dP_meets_1 ⟨Nat.le_of_ble_eq_true rfl, Nat.le_of_ble_eq_true rfl⟩) rfl ?_
    refine lv_iload_n hx hb dP_meets_4 rfl (lv_at hl 1 rfl) ?_
    refine lv_aload_n hx hb dP_meets_5 rfl (lv_at hl 0 rfl) ?_
    refine va_get (D := (dC, dI)) (ci := 0) (v := .ref pR) (C := RP) (T := TP) (N := 10) hx hb hts inP hown hK hP 0 rfl rfl 1 (by decide) (hts _ gw_100) (fun _ h9 => h9) rfl dP_meets_6 ?_
    refine va_getN (D := (dC, dI)) (ci := 2) (v := .int cnt) (C := RS) (T := TS) (N := 4) hx hb hts inS hown hK hP 2 rfl rfl 3 (by decide) (va_Nw.use rfl (hN _ nw_3 rfl)) (fun _ h9 => h9) rfl dP_meets_9 ?_
    by_cases c_2 : xP_requireIndex rule cnt = 0
    · skip
      refine tr_go (st1 := []) (va_runS (As := [.int rule, .int cnt]) (rest := []) ⟨hx, hb, hml, hown, hts⟩ (c_P_requireIndex l dC dI rule cnt c_2) ⟨cB 2 hts gw_376 gw_1 gw_374 ndP_requireIndex rfl rfl ⟨Nat.le_of_ble_eq_true rfl, Nat.le_of_ble_eq_true rfl⟩, hts _ gw_375⟩ (tp_Rs hN hK hP [] [] rfl rfl) rfl rfl hl.1 rfl (lv_room (Nat.le_of_ble_eq_true rfl)) dP_meets_12 ⟨Nat.le_of_ble_eq_true rfl, Nat.le_of_ble_eq_true rfl⟩) rfl ?_
      refine lv_aload_n hx hb dP_meets_15 rfl (lv_at hl 0 rfl) ?_
      refine va_get (D := (dC, dI)) (ci := 0) (v := .ref pR) (C := RP) (T := TP) (N := 10) hx hb hts inP hown hK hP 0 rfl rfl 1 (by decide) (hts _ gw_100) (fun _ h9 => h9) rfl dP_meets_16 ?_
      refine lv_iload_n hx hb dP_meets_19 rfl (lv_at hl 1 rfl) ?_
      refine lv_aload_n hx hb dP_meets_20 rfl (lv_at hl 0 rfl) ?_
      refine va_get (D := (dC, dI)) (ci := 0) (v := .ref h0) (C := RP) (T := TP) (N := 10) hx hb hts inP hown hK hP 0 rfl rfl 4 (by decide) (hts _ gw_103) (fun _ h9 => h9) rfl dP_meets_21 ?_
      refine tr_go (st1 := [.int (bI (fS_holds fw fr fb cnt kind rises total going width cf ct rule))]) (va_runV (As := [.int rule, .ref h0]) (rest := []) (C := RS) ⟨hx, hb, hml, hown, hts⟩ (c_S_holds l dC dI pR aw ar ab cw cr cb fw fr fb cnt h0 kind rises total going width cf ct rule) ⟨cB 2 hts gw_351 gw_3 gw_472 ndS_holds rfl rfl ⟨Nat.le_of_ble_eq_true rfl, Nat.le_of_ble_eq_true rfl⟩, hts _ gw_349, hts _ gw_350⟩ (tp_Rv hN hK hP [2, 3, 4, 5, 1] [0, 1, 2] rfl rfl (q0 := 2) (ci := 2) rfl rfl) rfl rfl hl.1 rfl (lv_room (Nat.le_of_ble_eq_true rfl)) dP_meets_24 ⟨Nat.le_of_ble_eq_true rfl, Nat.le_of_ble_eq_true rfl⟩) rfl ?_
      exact W.zret (v := bI (fS_holds fw fr fb cnt kind rises total going width cf ct rule)) hx hb hr (bI_n _) (fun t ht hW => ⟨by rw [show fP_meets tot pd gd fw fr fb cnt kind rises total going width cf ct rule = (fS_holds fw fr fb cnt kind rises total going width cf ct rule) from by unfold fP_meets; rw [if_pos c_1, if_pos c_2]], ht⟩) (fun q h => by cases h) dP_meets_27
    · skip
      exact absurd (hx9.symm.trans (show xP_meets tot pd gd fw fr fb cnt kind rises total going width cf ct rule = 2 from by unfold xP_meets; rw [if_pos c_1, if_neg c_2])) (by decide)
  · skip
    exact absurd (hx9.symm.trans (show xP_meets tot pd gd fw fr fb cnt kind rises total going width cf ct rule = 1 from by unfold xP_meets; rw [if_neg c_1])) (by decide)

set_option maxHeartbeats 4000000 in
set_option maxRecDepth 100000 in
theorem t_P_meets_ISE (l : Launch) (dC : Nat → ClassId) (dI : Nat → Nat → Nat) (p0 : Nat) (pT : Nat) (pR : Nat) (pS : Nat) (pF : Nat) (h0 : Nat) (pQ : Nat) (pG : Nat) (tot : Int64) (pd : Bool) (gd : Bool) (aw : Nat) (ar : Nat) (ab : Nat) (cw : ClassId) (cr : ClassId) (cb : ClassId) (fw : Nat → Int32) (fr : Nat → Int32) (fb : Nat → Int32) (cnt : Int32) (kind : Int32) (rises : Int32) (total : Int64) (going : Int64) (width : Int64) (cf : Int32) (ct : Int32) (rule : Int32) (hfl : l.stackTraces = false) (hx9 : xP_meets tot pd gd fw fr fb cnt kind rises total going width cf ct rule = 1) : tw_Met l mP_meets wP_meets ({ frames := 7, cells := 1, slots := 6, locals := 102 }) (tp_T (dC, dI) vCl [.ref p0, .int rule] [(p0, .inr (0, [.ref pT, .ref pR, .ref pS, .ref pF, .ref h0, .ref pQ, .ref pG, .long tot, .int (bI pd), .int (bI gd)])), (h0, .inr (4, [.int kind, .int rises, .long total, .long going, .long width, .int cf, .int ct])), (pR, .inr (2, [.ref aw, .ref ar, .ref ab, .int cnt])), (aw, .inl (cw, 40, .inl fw)), (ar, .inl (cr, 8, .inl fr)), (ab, .inl (cb, 8, .inl fb))] [(cw, .int), (cr, .char), (cb, .int)]) "java/lang/IllegalStateException" := by
  refine tw_ofW (cc := bP_meets) (maxL := 2) (ret := (some .boolean)) (by decide) rfl ?_
  intro p e s m args below meth c s₁ B hml hne hv
  obtain ⟨rfl, hP, hK, hN, hZ⟩ := hv
  have hx := B.exec
  have hb := B.bytes
  have hr := B.returns
  have hts : ∀ w ∈ gT, w.before _ s = true := fun w h => atoms_spec (ws := wP_meets) B.pre w (List.mem_cons_of_mem _ h)
  have hown : s.vm.findClass RP = some m.cls := findClass_of_methodNamed B.named
  have hlocks := B.notSynchronized
  have hP : va_P (dC, dI) vCl [(p0, .inr (0, [.ref pT, .ref pR, .ref pS, .ref pF, .ref h0, .ref pQ, .ref pG, .long tot, .int (bI pd), .int (bI gd)])), (h0, .inr (4, [.int kind, .int rises, .long total, .long going, .long width, .int cf, .int ct])), (pR, .inr (2, [.ref aw, .ref ar, .ref ab, .int cnt])), (aw, .inl (cw, 40, .inl fw)), (ar, .inl (cr, 8, .inl fr)), (ab, .inl (cb, 8, .inl fb))] s.heap := hP
  have hl := lv_entry ([.ref p0, .int rule]) (n := 2) (Nat.le_of_ble_eq_true rfl)
  rw [lg_entry_eq]
  generalize (lg_sl ([.ref p0, .int rule]) ++ List.replicate (2 - (lg_sl ([.ref p0, .int rule])).length) Slot.unset).toArray = ls at hl ⊢
  have hl : lv_has ls 2 [(0, .ref p0), (1, .int rule)] := hl
  refine lv_aload_n hx hb dP_meets_0 rfl (lv_at hl 0 rfl) ?_
  by_cases c_1 : xP_requirePlan tot pd gd = 0
  · skip
    refine tr_go (st1 := []) (va_runV (As := []) (rest := []) (C := RP) ⟨hx, hb, hml, hown, hts⟩ (c_P_requirePlan l dC dI p0 pT pR pS pF h0 pQ pG tot pd gd c_1) ⟨cB 0 hts gw_373 gw_1 gw_371 ndP_requirePlan rfl rfl ⟨Nat.le_of_ble_eq_true rfl, Nat.le_of_ble_eq_true rfl⟩, hts _ gw_372, hts _ gw_750⟩ (tp_Rv hN hK hP [0] [] rfl rfl (q0 := 0) (ci := 0) rfl rfl) rfl rfl hl.1 rfl (lv_room (Nat.le_of_ble_eq_true rfl)) dP_meets_1 ⟨Nat.le_of_ble_eq_true rfl, Nat.le_of_ble_eq_true rfl⟩) rfl ?_
    refine lv_iload_n hx hb dP_meets_4 rfl (lv_at hl 1 rfl) ?_
    refine lv_aload_n hx hb dP_meets_5 rfl (lv_at hl 0 rfl) ?_
    refine va_get (D := (dC, dI)) (ci := 0) (v := .ref pR) (C := RP) (T := TP) (N := 10) hx hb hts inP hown hK hP 0 rfl rfl 1 (by decide) (hts _ gw_100) (fun _ h9 => h9) rfl dP_meets_6 ?_
    refine va_getN (D := (dC, dI)) (ci := 2) (v := .int cnt) (C := RS) (T := TS) (N := 4) hx hb hts inS hown hK hP 2 rfl rfl 3 (by decide) (va_Nw.use rfl (hN _ nw_3 rfl)) (fun _ h9 => h9) rfl dP_meets_9 ?_
    by_cases c_2 : xP_requireIndex rule cnt = 0
    · skip
      refine tr_go (st1 := []) (va_runS (As := [.int rule, .int cnt]) (rest := []) ⟨hx, hb, hml, hown, hts⟩ (c_P_requireIndex l dC dI rule cnt c_2) ⟨cB 2 hts gw_376 gw_1 gw_374 ndP_requireIndex rfl rfl ⟨Nat.le_of_ble_eq_true rfl, Nat.le_of_ble_eq_true rfl⟩, hts _ gw_375⟩ (tp_Rs hN hK hP [] [] rfl rfl) rfl rfl hl.1 rfl (lv_room (Nat.le_of_ble_eq_true rfl)) dP_meets_12 ⟨Nat.le_of_ble_eq_true rfl, Nat.le_of_ble_eq_true rfl⟩) rfl ?_
      refine lv_aload_n hx hb dP_meets_15 rfl (lv_at hl 0 rfl) ?_
      refine va_get (D := (dC, dI)) (ci := 0) (v := .ref pR) (C := RP) (T := TP) (N := 10) hx hb hts inP hown hK hP 0 rfl rfl 1 (by decide) (hts _ gw_100) (fun _ h9 => h9) rfl dP_meets_16 ?_
      refine lv_iload_n hx hb dP_meets_19 rfl (lv_at hl 1 rfl) ?_
      refine lv_aload_n hx hb dP_meets_20 rfl (lv_at hl 0 rfl) ?_
      refine va_get (D := (dC, dI)) (ci := 0) (v := .ref h0) (C := RP) (T := TP) (N := 10) hx hb hts inP hown hK hP 0 rfl rfl 4 (by decide) (hts _ gw_103) (fun _ h9 => h9) rfl dP_meets_21 ?_
      refine tr_go (st1 := [.int (bI (fS_holds fw fr fb cnt kind rises total going width cf ct rule))]) (va_runV (As := [.int rule, .ref h0]) (rest := []) (C := RS) ⟨hx, hb, hml, hown, hts⟩ (c_S_holds l dC dI pR aw ar ab cw cr cb fw fr fb cnt h0 kind rises total going width cf ct rule) ⟨cB 2 hts gw_351 gw_3 gw_472 ndS_holds rfl rfl ⟨Nat.le_of_ble_eq_true rfl, Nat.le_of_ble_eq_true rfl⟩, hts _ gw_349, hts _ gw_350⟩ (tp_Rv hN hK hP [2, 3, 4, 5, 1] [0, 1, 2] rfl rfl (q0 := 2) (ci := 2) rfl rfl) rfl rfl hl.1 rfl (lv_room (Nat.le_of_ble_eq_true rfl)) dP_meets_24 ⟨Nat.le_of_ble_eq_true rfl, Nat.le_of_ble_eq_true rfl⟩) rfl ?_
      exact absurd (hx9.symm.trans (show xP_meets tot pd gd fw fr fb cnt kind rises total going width cf ct rule = 0 from by unfold xP_meets; rw [if_pos c_1, if_pos c_2])) (by decide)
    · skip
      exact absurd (hx9.symm.trans (show xP_meets tot pd gd fw fr fb cnt kind rises total going width cf ct rule = 2 from by unfold xP_meets; rw [if_pos c_1, if_neg c_2])) (by decide)
  · skip
    refine tw_runV (As := []) (rest := []) (C := RP) ⟨hx, hb, hml, hown, hts⟩ (t_P_requirePlan l dC dI p0 pT pR pS pF h0 pQ pG tot pd gd hfl c_1) ⟨cB 0 hts gw_373 gw_1 gw_371 ndP_requirePlan rfl rfl ⟨Nat.le_of_ble_eq_true rfl, Nat.le_of_ble_eq_true rfl⟩, hts _ gw_372, hts _ gw_750⟩ (tp_Tv hZ (fun _ _ => rfl) hN hK hP [0] [] rfl rfl (q0 := 0) (ci := 0) rfl rfl) rfl hl.1 rfl (Nat.le_of_ble_eq_true rfl) dP_meets_1 ⟨Nat.le_of_ble_eq_true rfl, Nat.le_of_ble_eq_true rfl⟩ (fun x9 H9 hN9 => ?_)
    exact tw_leave hlocks hne hN9

set_option maxHeartbeats 4000000 in
set_option maxRecDepth 100000 in
theorem t_P_meets_IOB (l : Launch) (dC : Nat → ClassId) (dI : Nat → Nat → Nat) (p0 : Nat) (pT : Nat) (pR : Nat) (pS : Nat) (pF : Nat) (h0 : Nat) (pQ : Nat) (pG : Nat) (tot : Int64) (pd : Bool) (gd : Bool) (aw : Nat) (ar : Nat) (ab : Nat) (cw : ClassId) (cr : ClassId) (cb : ClassId) (fw : Nat → Int32) (fr : Nat → Int32) (fb : Nat → Int32) (cnt : Int32) (kind : Int32) (rises : Int32) (total : Int64) (going : Int64) (width : Int64) (cf : Int32) (ct : Int32) (rule : Int32) (hfl : l.stackTraces = false) (hx9 : xP_meets tot pd gd fw fr fb cnt kind rises total going width cf ct rule = 2) : tw_Met l mP_meets wP_meets ({ frames := 7, cells := 1, slots := 6, locals := 103 }) (tp_T (dC, dI) vCl [.ref p0, .int rule] [(p0, .inr (0, [.ref pT, .ref pR, .ref pS, .ref pF, .ref h0, .ref pQ, .ref pG, .long tot, .int (bI pd), .int (bI gd)])), (h0, .inr (4, [.int kind, .int rises, .long total, .long going, .long width, .int cf, .int ct])), (pR, .inr (2, [.ref aw, .ref ar, .ref ab, .int cnt])), (aw, .inl (cw, 40, .inl fw)), (ar, .inl (cr, 8, .inl fr)), (ab, .inl (cb, 8, .inl fb))] [(cw, .int), (cr, .char), (cb, .int)]) "java/lang/IndexOutOfBoundsException" := by
  refine tw_ofW (cc := bP_meets) (maxL := 2) (ret := (some .boolean)) (by decide) rfl ?_
  intro p e s m args below meth c s₁ B hml hne hv
  obtain ⟨rfl, hP, hK, hN, hZ⟩ := hv
  have hx := B.exec
  have hb := B.bytes
  have hr := B.returns
  have hts : ∀ w ∈ gT, w.before _ s = true := fun w h => atoms_spec (ws := wP_meets) B.pre w (List.mem_cons_of_mem _ h)
  have hown : s.vm.findClass RP = some m.cls := findClass_of_methodNamed B.named
  have hlocks := B.notSynchronized
  have hP : va_P (dC, dI) vCl [(p0, .inr (0, [.ref pT, .ref pR, .ref pS, .ref pF, .ref h0, .ref pQ, .ref pG, .long tot, .int (bI pd), .int (bI gd)])), (h0, .inr (4, [.int kind, .int rises, .long total, .long going, .long width, .int cf, .int ct])), (pR, .inr (2, [.ref aw, .ref ar, .ref ab, .int cnt])), (aw, .inl (cw, 40, .inl fw)), (ar, .inl (cr, 8, .inl fr)), (ab, .inl (cb, 8, .inl fb))] s.heap := hP
  have hl := lv_entry ([.ref p0, .int rule]) (n := 2) (Nat.le_of_ble_eq_true rfl)
  rw [lg_entry_eq]
  generalize (lg_sl ([.ref p0, .int rule]) ++ List.replicate (2 - (lg_sl ([.ref p0, .int rule])).length) Slot.unset).toArray = ls at hl ⊢
  have hl : lv_has ls 2 [(0, .ref p0), (1, .int rule)] := hl
  refine lv_aload_n hx hb dP_meets_0 rfl (lv_at hl 0 rfl) ?_
  by_cases c_1 : xP_requirePlan tot pd gd = 0
  · skip
    refine tr_go (st1 := []) (va_runV (As := []) (rest := []) (C := RP) ⟨hx, hb, hml, hown, hts⟩ (c_P_requirePlan l dC dI p0 pT pR pS pF h0 pQ pG tot pd gd c_1) ⟨cB 0 hts gw_373 gw_1 gw_371 ndP_requirePlan rfl rfl ⟨Nat.le_of_ble_eq_true rfl, Nat.le_of_ble_eq_true rfl⟩, hts _ gw_372, hts _ gw_750⟩ (tp_Rv hN hK hP [0] [] rfl rfl (q0 := 0) (ci := 0) rfl rfl) rfl rfl hl.1 rfl (lv_room (Nat.le_of_ble_eq_true rfl)) dP_meets_1 ⟨Nat.le_of_ble_eq_true rfl, Nat.le_of_ble_eq_true rfl⟩) rfl ?_
    refine lv_iload_n hx hb dP_meets_4 rfl (lv_at hl 1 rfl) ?_
    refine lv_aload_n hx hb dP_meets_5 rfl (lv_at hl 0 rfl) ?_
    refine va_get (D := (dC, dI)) (ci := 0) (v := .ref pR) (C := RP) (T := TP) (N := 10) hx hb hts inP hown hK hP 0 rfl rfl 1 (by decide) (hts _ gw_100) (fun _ h9 => h9) rfl dP_meets_6 ?_
    refine va_getN (D := (dC, dI)) (ci := 2) (v := .int cnt) (C := RS) (T := TS) (N := 4) hx hb hts inS hown hK hP 2 rfl rfl 3 (by decide) (va_Nw.use rfl (hN _ nw_3 rfl)) (fun _ h9 => h9) rfl dP_meets_9 ?_
    by_cases c_2 : xP_requireIndex rule cnt = 0
    · skip
      refine tr_go (st1 := []) (va_runS (As := [.int rule, .int cnt]) (rest := []) ⟨hx, hb, hml, hown, hts⟩ (c_P_requireIndex l dC dI rule cnt c_2) ⟨cB 2 hts gw_376 gw_1 gw_374 ndP_requireIndex rfl rfl ⟨Nat.le_of_ble_eq_true rfl, Nat.le_of_ble_eq_true rfl⟩, hts _ gw_375⟩ (tp_Rs hN hK hP [] [] rfl rfl) rfl rfl hl.1 rfl (lv_room (Nat.le_of_ble_eq_true rfl)) dP_meets_12 ⟨Nat.le_of_ble_eq_true rfl, Nat.le_of_ble_eq_true rfl⟩) rfl ?_
      refine lv_aload_n hx hb dP_meets_15 rfl (lv_at hl 0 rfl) ?_
      refine va_get (D := (dC, dI)) (ci := 0) (v := .ref pR) (C := RP) (T := TP) (N := 10) hx hb hts inP hown hK hP 0 rfl rfl 1 (by decide) (hts _ gw_100) (fun _ h9 => h9) rfl dP_meets_16 ?_
      refine lv_iload_n hx hb dP_meets_19 rfl (lv_at hl 1 rfl) ?_
      refine lv_aload_n hx hb dP_meets_20 rfl (lv_at hl 0 rfl) ?_
      refine va_get (D := (dC, dI)) (ci := 0) (v := .ref h0) (C := RP) (T := TP) (N := 10) hx hb hts inP hown hK hP 0 rfl rfl 4 (by decide) (hts _ gw_103) (fun _ h9 => h9) rfl dP_meets_21 ?_
      refine tr_go (st1 := [.int (bI (fS_holds fw fr fb cnt kind rises total going width cf ct rule))]) (va_runV (As := [.int rule, .ref h0]) (rest := []) (C := RS) ⟨hx, hb, hml, hown, hts⟩ (c_S_holds l dC dI pR aw ar ab cw cr cb fw fr fb cnt h0 kind rises total going width cf ct rule) ⟨cB 2 hts gw_351 gw_3 gw_472 ndS_holds rfl rfl ⟨Nat.le_of_ble_eq_true rfl, Nat.le_of_ble_eq_true rfl⟩, hts _ gw_349, hts _ gw_350⟩ (tp_Rv hN hK hP [2, 3, 4, 5, 1] [0, 1, 2] rfl rfl (q0 := 2) (ci := 2) rfl rfl) rfl rfl hl.1 rfl (lv_room (Nat.le_of_ble_eq_true rfl)) dP_meets_24 ⟨Nat.le_of_ble_eq_true rfl, Nat.le_of_ble_eq_true rfl⟩) rfl ?_
      exact absurd (hx9.symm.trans (show xP_meets tot pd gd fw fr fb cnt kind rises total going width cf ct rule = 0 from by unfold xP_meets; rw [if_pos c_1, if_pos c_2])) (by decide)
    · skip
      refine tw_runS (As := [.int rule, .int cnt]) (rest := []) ⟨hx, hb, hml, hown, hts⟩ (t_P_requireIndex l dC dI rule cnt hfl c_2) ⟨cB 2 hts gw_376 gw_1 gw_374 ndP_requireIndex rfl rfl ⟨Nat.le_of_ble_eq_true rfl, Nat.le_of_ble_eq_true rfl⟩, hts _ gw_375⟩ (tp_Ts hZ (fun _ _ => rfl) hN hK hP [] [] rfl rfl) rfl hl.1 rfl (Nat.le_of_ble_eq_true rfl) dP_meets_12 ⟨Nat.le_of_ble_eq_true rfl, Nat.le_of_ble_eq_true rfl⟩ (fun x9 H9 hN9 => ?_)
      exact tw_leave hlocks hne hN9
  · skip
    exact absurd (hx9.symm.trans (show xP_meets tot pd gd fw fr fb cnt kind rises total going width cf ct rule = 1 from by unfold xP_meets; rw [if_neg c_1])) (by decide)

def xP_string (tot : Int64) (pd : Bool) (gd : Bool) (kind : Int32) (rises : Int32) (total : Int64) (going : Int64) (width : Int64) (cf : Int32) (ct : Int32) (end_ : Int32) : Nat := if xP_requirePlan tot pd gd = 0 then (if xP_requireIndex end_ 2 = 0 then (if end_ = 0 then 0 else (if (fA_whole kind rises total going width cf ct (fA_cut kind rises total going width cf ct)) = true then 0 else 0)) else 2) else 1

def fP_string (tot : Int64) (pd : Bool) (gd : Bool) (kind : Int32) (rises : Int32) (total : Int64) (going : Int64) (width : Int64) (cf : Int32) (ct : Int32) (end_ : Int32) : Int64 := if xP_requirePlan tot pd gd = 0 then (if xP_requireIndex end_ 2 = 0 then (if end_ = 0 then (fA_cut kind rises total going width cf ct) else (if (fA_whole kind rises total going width cf ct (fA_cut kind rises total going width cf ct)) = true then (fA_cut kind rises total going width cf ct) else ((fA_cut kind rises total going width cf ct) + 1))) else 0) else 0
set_option maxHeartbeats 4000000 in
set_option maxRecDepth 100000 in
theorem c_P_string (l : Launch) (dC : Nat → ClassId) (dI : Nat → Nat → Nat) (p0 : Nat) (pT : Nat) (pR : Nat) (pS : Nat) (pF : Nat) (h0 : Nat) (pQ : Nat) (pG : Nat) (tot : Int64) (pd : Bool) (gd : Bool) (kind : Int32) (rises : Int32) (total : Int64) (going : Int64) (width : Int64) (cf : Int32) (ct : Int32) (end_ : Int32) (hx9 : xP_string tot pd gd kind rises total going width cf ct end_ = 0) : Met l mP_string wP_string ({ frames := 4, cells := 0, slots := 0, locals := 91 }) (tp_R (dC, dI) vCl [.ref p0, .int end_] [(p0, .inr (0, [.ref pT, .ref pR, .ref pS, .ref pF, .ref h0, .ref pQ, .ref pG, .long tot, .int (bI pd), .int (bI gd)])), (h0, .inr (4, [.int kind, .int rises, .long total, .long going, .long width, .int cf, .int ct]))] []) (tq_R (some (.long (fP_string tot pd gd kind rises total going width cf ct end_)))) 0 0 (fun _ => False) := by
  refine Met.ofW (cc := bP_string) (maxL := 4) (ret := (some .long)) (by decide) rfl ?_
  intro p e s m args below meth c s₁ B hml hv
  obtain ⟨rfl, hP, hK, hN⟩ := hv
  have hx := B.exec
  have hb := B.bytes
  have hr := B.returns
  have hts : ∀ w ∈ gT, w.before _ s = true := fun w h => atoms_spec (ws := wP_string) B.pre w (List.mem_cons_of_mem _ h)
  have hown : s.vm.findClass RP = some m.cls := findClass_of_methodNamed B.named
  have hlocks := B.notSynchronized
  have hP : va_P (dC, dI) vCl [(p0, .inr (0, [.ref pT, .ref pR, .ref pS, .ref pF, .ref h0, .ref pQ, .ref pG, .long tot, .int (bI pd), .int (bI gd)])), (h0, .inr (4, [.int kind, .int rises, .long total, .long going, .long width, .int cf, .int ct]))] s.heap := hP
  have hl := lv_entry ([.ref p0, .int end_]) (n := 4) (Nat.le_of_ble_eq_true rfl)
  rw [lg_entry_eq]
  generalize (lg_sl ([.ref p0, .int end_]) ++ List.replicate (4 - (lg_sl ([.ref p0, .int end_])).length) Slot.unset).toArray = ls at hl ⊢
  have hl : lv_has ls 4 [(0, .ref p0), (1, .int end_)] := hl
  refine lv_aload_n hx hb dP_string_0 rfl (lv_at hl 0 rfl) ?_
  by_cases c_1 : xP_requirePlan tot pd gd = 0
  · skip
    refine tr_go (st1 := []) (va_runV (As := []) (rest := []) (C := RP) ⟨hx, hb, hml, hown, hts⟩ (c_P_requirePlan l dC dI p0 pT pR pS pF h0 pQ pG tot pd gd c_1) ⟨cB 0 hts gw_373 gw_1 gw_371 ndP_requirePlan rfl rfl ⟨Nat.le_of_ble_eq_true rfl, Nat.le_of_ble_eq_true rfl⟩, hts _ gw_372, hts _ gw_750⟩ (tp_Rv hN hK hP [0] [] rfl rfl (q0 := 0) (ci := 0) rfl rfl) rfl rfl hl.1 rfl (lv_room (Nat.le_of_ble_eq_true rfl)) dP_string_1 ⟨Nat.le_of_ble_eq_true rfl, Nat.le_of_ble_eq_true rfl⟩) rfl ?_
    refine lv_iload_n hx hb dP_string_4 rfl (lv_at hl 1 rfl) ?_
    refine lv_iconst (v := 2) hx hb dP_string_5 (by decide) ?_
    by_cases c_2 : xP_requireIndex end_ 2 = 0
    · skip
      refine tr_go (st1 := []) (va_runS (As := [.int end_, .int 2]) (rest := []) ⟨hx, hb, hml, hown, hts⟩ (c_P_requireIndex l dC dI end_ 2 c_2) ⟨cB 2 hts gw_376 gw_1 gw_374 ndP_requireIndex rfl rfl ⟨Nat.le_of_ble_eq_true rfl, Nat.le_of_ble_eq_true rfl⟩, hts _ gw_375⟩ (tp_Rs hN hK hP [] [] rfl rfl) rfl rfl hl.1 rfl (lv_room (Nat.le_of_ble_eq_true rfl)) dP_string_6 ⟨Nat.le_of_ble_eq_true rfl, Nat.le_of_ble_eq_true rfl⟩) rfl ?_
      refine lv_aload_n hx hb dP_string_9 rfl (lv_at hl 0 rfl) ?_
      refine va_get (D := (dC, dI)) (ci := 0) (v := .ref h0) (C := RP) (T := TP) (N := 10) hx hb hts inP hown hK hP 0 rfl rfl 4 (by decide) (hts _ gw_103) (fun _ h9 => h9) rfl dP_string_10 ?_
      refine tr_go (st1 := [.long (fA_cut kind rises total going width cf ct)]) (va_runV (As := []) (rest := []) (C := RA) ⟨hx, hb, hml, hown, hts⟩ (c_A_cut l dC dI h0 kind rises total going width cf ct) ⟨cB 0 hts gw_524 gw_5 gw_521 ndA_stringCutOff rfl rfl ⟨Nat.le_of_ble_eq_true rfl, Nat.le_of_ble_eq_true rfl⟩, hts _ gw_522, hts _ gw_523⟩ (tp_Rv hN hK hP [1] [] rfl rfl (q0 := 1) (ci := 4) rfl rfl) rfl rfl hl.1 rfl (lv_room (Nat.le_of_ble_eq_true rfl)) dP_string_13 ⟨Nat.le_of_ble_eq_true rfl, Nat.le_of_ble_eq_true rfl⟩) rfl ?_
      refine lv_lstore_n (lv' := [(2, .long (fA_cut kind rises total going width cf ct)), (0, .ref p0), (1, .int end_)]) hx hb dP_string_16 rfl hl (by decide) rfl (fun ls hl => ?_)
      refine lv_iload_n hx hb dP_string_17 rfl (lv_at hl 2 rfl) ?_
      refine lv_if_eq (tgt := 32) hx hb dP_string_18 (by decide) (fun c_3 => ?_) (fun c_3 => ?_)
      · skip
        refine lv_lload_n hx hb dP_string_32 rfl (lv_at hl 0 rfl) ?_
        refine lv_goto (tgt := 39) hx hb dP_string_33 (by decide) ?_
        exact W.lret (v := fA_cut kind rises total going width cf ct) hx hb hr (fun t ht hW => ⟨by rw [show fP_string tot pd gd kind rises total going width cf ct end_ = fA_cut kind rises total going width cf ct from by unfold fP_string; rw [if_pos c_1, if_pos c_2, if_pos c_3]], ht⟩) (fun q h => by cases h) dP_string_39
      · skip
        refine lv_aload_n hx hb dP_string_21 rfl (lv_at hl 1 rfl) ?_
        refine va_get (D := (dC, dI)) (ci := 0) (v := .ref h0) (C := RP) (T := TP) (N := 10) hx hb hts inP hown hK hP 0 rfl rfl 4 (by decide) (hts _ gw_103) (fun _ h9 => h9) rfl dP_string_22 ?_
        refine lv_lload_n hx hb dP_string_25 rfl (lv_at hl 0 rfl) ?_
        refine tr_go (st1 := [.int (bI (fA_whole kind rises total going width cf ct (fA_cut kind rises total going width cf ct)))]) (va_runV (As := [.long (fA_cut kind rises total going width cf ct)]) (rest := []) (C := RA) ⟨hx, hb, hml, hown, hts⟩ (c_A_isStringWhole l dC dI h0 kind rises total going width cf ct (fA_cut kind rises total going width cf ct)) ⟨cB 1 hts gw_538 gw_5 gw_535 ndA_isStringWhole rfl rfl ⟨Nat.le_of_ble_eq_true rfl, Nat.le_of_ble_eq_true rfl⟩, hts _ gw_536, hts _ gw_537⟩ (tp_Rv hN hK hP [1] [] rfl rfl (q0 := 1) (ci := 4) rfl rfl) rfl rfl hl.1 rfl (lv_room (Nat.le_of_ble_eq_true rfl)) dP_string_26 ⟨Nat.le_of_ble_eq_true rfl, Nat.le_of_ble_eq_true rfl⟩) rfl ?_
        refine tb_ifeq (tgt := 36) hx hb dP_string_29 (by decide) (fun c_4 => ?_) (fun c_4 => ?_)
        · skip
          refine lv_lload_n hx hb dP_string_36 rfl (lv_at hl 0 rfl) ?_
          refine lv_lconst (v := 1) hx hb dP_string_37 (by decide) ?_
          refine lv_ladd hx hb dP_string_38 ?_
          exact W.lret (v := (fA_cut kind rises total going width cf ct) + 1) hx hb hr (fun t ht hW => ⟨by rw [show fP_string tot pd gd kind rises total going width cf ct end_ = (fA_cut kind rises total going width cf ct) + 1 from by unfold fP_string; rw [if_pos c_1, if_pos c_2, if_neg c_3, if_neg (Bool.eq_false_iff.mp c_4)]], ht⟩) (fun q h => by cases h) dP_string_39
        · skip
          refine lv_lload_n hx hb dP_string_32 rfl (lv_at hl 0 rfl) ?_
          refine lv_goto (tgt := 39) hx hb dP_string_33 (by decide) ?_
          exact W.lret (v := fA_cut kind rises total going width cf ct) hx hb hr (fun t ht hW => ⟨by rw [show fP_string tot pd gd kind rises total going width cf ct end_ = fA_cut kind rises total going width cf ct from by unfold fP_string; rw [if_pos c_1, if_pos c_2, if_neg c_3, if_pos c_4]], ht⟩) (fun q h => by cases h) dP_string_39
    · skip
      exact absurd (hx9.symm.trans (show xP_string tot pd gd kind rises total going width cf ct end_ = 2 from by unfold xP_string; rw [if_pos c_1, if_neg c_2])) (by decide)
  · skip
    exact absurd (hx9.symm.trans (show xP_string tot pd gd kind rises total going width cf ct end_ = 1 from by unfold xP_string; rw [if_neg c_1])) (by decide)

set_option maxHeartbeats 4000000 in
set_option maxRecDepth 100000 in
theorem t_P_string_ISE (l : Launch) (dC : Nat → ClassId) (dI : Nat → Nat → Nat) (p0 : Nat) (pT : Nat) (pR : Nat) (pS : Nat) (pF : Nat) (h0 : Nat) (pQ : Nat) (pG : Nat) (tot : Int64) (pd : Bool) (gd : Bool) (kind : Int32) (rises : Int32) (total : Int64) (going : Int64) (width : Int64) (cf : Int32) (ct : Int32) (end_ : Int32) (hfl : l.stackTraces = false) (hx9 : xP_string tot pd gd kind rises total going width cf ct end_ = 1) : tw_Met l mP_string wP_string ({ frames := 7, cells := 1, slots := 6, locals := 102 }) (tp_T (dC, dI) vCl [.ref p0, .int end_] [(p0, .inr (0, [.ref pT, .ref pR, .ref pS, .ref pF, .ref h0, .ref pQ, .ref pG, .long tot, .int (bI pd), .int (bI gd)])), (h0, .inr (4, [.int kind, .int rises, .long total, .long going, .long width, .int cf, .int ct]))] []) "java/lang/IllegalStateException" := by
  refine tw_ofW (cc := bP_string) (maxL := 4) (ret := (some .long)) (by decide) rfl ?_
  intro p e s m args below meth c s₁ B hml hne hv
  obtain ⟨rfl, hP, hK, hN, hZ⟩ := hv
  have hx := B.exec
  have hb := B.bytes
  have hr := B.returns
  have hts : ∀ w ∈ gT, w.before _ s = true := fun w h => atoms_spec (ws := wP_string) B.pre w (List.mem_cons_of_mem _ h)
  have hown : s.vm.findClass RP = some m.cls := findClass_of_methodNamed B.named
  have hlocks := B.notSynchronized
  have hP : va_P (dC, dI) vCl [(p0, .inr (0, [.ref pT, .ref pR, .ref pS, .ref pF, .ref h0, .ref pQ, .ref pG, .long tot, .int (bI pd), .int (bI gd)])), (h0, .inr (4, [.int kind, .int rises, .long total, .long going, .long width, .int cf, .int ct]))] s.heap := hP
  have hl := lv_entry ([.ref p0, .int end_]) (n := 4) (Nat.le_of_ble_eq_true rfl)
  rw [lg_entry_eq]
  generalize (lg_sl ([.ref p0, .int end_]) ++ List.replicate (4 - (lg_sl ([.ref p0, .int end_])).length) Slot.unset).toArray = ls at hl ⊢
  have hl : lv_has ls 4 [(0, .ref p0), (1, .int end_)] := hl
  refine lv_aload_n hx hb dP_string_0 rfl (lv_at hl 0 rfl) ?_
  by_cases c_1 : xP_requirePlan tot pd gd = 0
  · skip
    refine tr_go (st1 := []) (va_runV (As := []) (rest := []) (C := RP) ⟨hx, hb, hml, hown, hts⟩ (c_P_requirePlan l dC dI p0 pT pR pS pF h0 pQ pG tot pd gd c_1) ⟨cB 0 hts gw_373 gw_1 gw_371 ndP_requirePlan rfl rfl ⟨Nat.le_of_ble_eq_true rfl, Nat.le_of_ble_eq_true rfl⟩, hts _ gw_372, hts _ gw_750⟩ (tp_Rv hN hK hP [0] [] rfl rfl (q0 := 0) (ci := 0) rfl rfl) rfl rfl hl.1 rfl (lv_room (Nat.le_of_ble_eq_true rfl)) dP_string_1 ⟨Nat.le_of_ble_eq_true rfl, Nat.le_of_ble_eq_true rfl⟩) rfl ?_
    refine lv_iload_n hx hb dP_string_4 rfl (lv_at hl 1 rfl) ?_
    refine lv_iconst (v := 2) hx hb dP_string_5 (by decide) ?_
    by_cases c_2 : xP_requireIndex end_ 2 = 0
    · skip
      refine tr_go (st1 := []) (va_runS (As := [.int end_, .int 2]) (rest := []) ⟨hx, hb, hml, hown, hts⟩ (c_P_requireIndex l dC dI end_ 2 c_2) ⟨cB 2 hts gw_376 gw_1 gw_374 ndP_requireIndex rfl rfl ⟨Nat.le_of_ble_eq_true rfl, Nat.le_of_ble_eq_true rfl⟩, hts _ gw_375⟩ (tp_Rs hN hK hP [] [] rfl rfl) rfl rfl hl.1 rfl (lv_room (Nat.le_of_ble_eq_true rfl)) dP_string_6 ⟨Nat.le_of_ble_eq_true rfl, Nat.le_of_ble_eq_true rfl⟩) rfl ?_
      refine lv_aload_n hx hb dP_string_9 rfl (lv_at hl 0 rfl) ?_
      refine va_get (D := (dC, dI)) (ci := 0) (v := .ref h0) (C := RP) (T := TP) (N := 10) hx hb hts inP hown hK hP 0 rfl rfl 4 (by decide) (hts _ gw_103) (fun _ h9 => h9) rfl dP_string_10 ?_
      refine tr_go (st1 := [.long (fA_cut kind rises total going width cf ct)]) (va_runV (As := []) (rest := []) (C := RA) ⟨hx, hb, hml, hown, hts⟩ (c_A_cut l dC dI h0 kind rises total going width cf ct) ⟨cB 0 hts gw_524 gw_5 gw_521 ndA_stringCutOff rfl rfl ⟨Nat.le_of_ble_eq_true rfl, Nat.le_of_ble_eq_true rfl⟩, hts _ gw_522, hts _ gw_523⟩ (tp_Rv hN hK hP [1] [] rfl rfl (q0 := 1) (ci := 4) rfl rfl) rfl rfl hl.1 rfl (lv_room (Nat.le_of_ble_eq_true rfl)) dP_string_13 ⟨Nat.le_of_ble_eq_true rfl, Nat.le_of_ble_eq_true rfl⟩) rfl ?_
      refine lv_lstore_n (lv' := [(2, .long (fA_cut kind rises total going width cf ct)), (0, .ref p0), (1, .int end_)]) hx hb dP_string_16 rfl hl (by decide) rfl (fun ls hl => ?_)
      refine lv_iload_n hx hb dP_string_17 rfl (lv_at hl 2 rfl) ?_
      refine lv_if_eq (tgt := 32) hx hb dP_string_18 (by decide) (fun c_3 => ?_) (fun c_3 => ?_)
      · skip
        refine lv_lload_n hx hb dP_string_32 rfl (lv_at hl 0 rfl) ?_
        refine lv_goto (tgt := 39) hx hb dP_string_33 (by decide) ?_
        exact absurd (hx9.symm.trans (show xP_string tot pd gd kind rises total going width cf ct end_ = 0 from by unfold xP_string; rw [if_pos c_1, if_pos c_2, if_pos c_3])) (by decide)
      · skip
        refine lv_aload_n hx hb dP_string_21 rfl (lv_at hl 1 rfl) ?_
        refine va_get (D := (dC, dI)) (ci := 0) (v := .ref h0) (C := RP) (T := TP) (N := 10) hx hb hts inP hown hK hP 0 rfl rfl 4 (by decide) (hts _ gw_103) (fun _ h9 => h9) rfl dP_string_22 ?_
        refine lv_lload_n hx hb dP_string_25 rfl (lv_at hl 0 rfl) ?_
        refine tr_go (st1 := [.int (bI (fA_whole kind rises total going width cf ct (fA_cut kind rises total going width cf ct)))]) (va_runV (As := [.long (fA_cut kind rises total going width cf ct)]) (rest := []) (C := RA) ⟨hx, hb, hml, hown, hts⟩ (c_A_isStringWhole l dC dI h0 kind rises total going width cf ct (fA_cut kind rises total going width cf ct)) ⟨cB 1 hts gw_538 gw_5 gw_535 ndA_isStringWhole rfl rfl ⟨Nat.le_of_ble_eq_true rfl, Nat.le_of_ble_eq_true rfl⟩, hts _ gw_536, hts _ gw_537⟩ (tp_Rv hN hK hP [1] [] rfl rfl (q0 := 1) (ci := 4) rfl rfl) rfl rfl hl.1 rfl (lv_room (Nat.le_of_ble_eq_true rfl)) dP_string_26 ⟨Nat.le_of_ble_eq_true rfl, Nat.le_of_ble_eq_true rfl⟩) rfl ?_
        refine tb_ifeq (tgt := 36) hx hb dP_string_29 (by decide) (fun c_4 => ?_) (fun c_4 => ?_)
        · skip
          refine lv_lload_n hx hb dP_string_36 rfl (lv_at hl 0 rfl) ?_
          refine lv_lconst (v := 1) hx hb dP_string_37 (by decide) ?_
          refine lv_ladd hx hb dP_string_38 ?_
          exact absurd (hx9.symm.trans (show xP_string tot pd gd kind rises total going width cf ct end_ = 0 from by unfold xP_string; rw [if_pos c_1, if_pos c_2, if_neg c_3, if_neg (Bool.eq_false_iff.mp c_4)])) (by decide)
        · skip
          refine lv_lload_n hx hb dP_string_32 rfl (lv_at hl 0 rfl) ?_
          refine lv_goto (tgt := 39) hx hb dP_string_33 (by decide) ?_
          exact absurd (hx9.symm.trans (show xP_string tot pd gd kind rises total going width cf ct end_ = 0 from by unfold xP_string; rw [if_pos c_1, if_pos c_2, if_neg c_3, if_pos c_4])) (by decide)
    · skip
      exact absurd (hx9.symm.trans (show xP_string tot pd gd kind rises total going width cf ct end_ = 2 from by unfold xP_string; rw [if_pos c_1, if_neg c_2])) (by decide)
  · skip
    refine tw_runV (As := []) (rest := []) (C := RP) ⟨hx, hb, hml, hown, hts⟩ (t_P_requirePlan l dC dI p0 pT pR pS pF h0 pQ pG tot pd gd hfl c_1) ⟨cB 0 hts gw_373 gw_1 gw_371 ndP_requirePlan rfl rfl ⟨Nat.le_of_ble_eq_true rfl, Nat.le_of_ble_eq_true rfl⟩, hts _ gw_372, hts _ gw_750⟩ (tp_Tv hZ (fun _ _ => rfl) hN hK hP [0] [] rfl rfl (q0 := 0) (ci := 0) rfl rfl) rfl hl.1 rfl (Nat.le_of_ble_eq_true rfl) dP_string_1 ⟨Nat.le_of_ble_eq_true rfl, Nat.le_of_ble_eq_true rfl⟩ (fun x9 H9 hN9 => ?_)
    exact tw_leave hlocks hne hN9

set_option maxHeartbeats 4000000 in
set_option maxRecDepth 100000 in
theorem t_P_string_IOB (l : Launch) (dC : Nat → ClassId) (dI : Nat → Nat → Nat) (p0 : Nat) (pT : Nat) (pR : Nat) (pS : Nat) (pF : Nat) (h0 : Nat) (pQ : Nat) (pG : Nat) (tot : Int64) (pd : Bool) (gd : Bool) (kind : Int32) (rises : Int32) (total : Int64) (going : Int64) (width : Int64) (cf : Int32) (ct : Int32) (end_ : Int32) (hfl : l.stackTraces = false) (hx9 : xP_string tot pd gd kind rises total going width cf ct end_ = 2) : tw_Met l mP_string wP_string ({ frames := 7, cells := 1, slots := 6, locals := 103 }) (tp_T (dC, dI) vCl [.ref p0, .int end_] [(p0, .inr (0, [.ref pT, .ref pR, .ref pS, .ref pF, .ref h0, .ref pQ, .ref pG, .long tot, .int (bI pd), .int (bI gd)])), (h0, .inr (4, [.int kind, .int rises, .long total, .long going, .long width, .int cf, .int ct]))] []) "java/lang/IndexOutOfBoundsException" := by
  refine tw_ofW (cc := bP_string) (maxL := 4) (ret := (some .long)) (by decide) rfl ?_
  intro p e s m args below meth c s₁ B hml hne hv
  obtain ⟨rfl, hP, hK, hN, hZ⟩ := hv
  have hx := B.exec
  have hb := B.bytes
  have hr := B.returns
  have hts : ∀ w ∈ gT, w.before _ s = true := fun w h => atoms_spec (ws := wP_string) B.pre w (List.mem_cons_of_mem _ h)
  have hown : s.vm.findClass RP = some m.cls := findClass_of_methodNamed B.named
  have hlocks := B.notSynchronized
  have hP : va_P (dC, dI) vCl [(p0, .inr (0, [.ref pT, .ref pR, .ref pS, .ref pF, .ref h0, .ref pQ, .ref pG, .long tot, .int (bI pd), .int (bI gd)])), (h0, .inr (4, [.int kind, .int rises, .long total, .long going, .long width, .int cf, .int ct]))] s.heap := hP
  have hl := lv_entry ([.ref p0, .int end_]) (n := 4) (Nat.le_of_ble_eq_true rfl)
  rw [lg_entry_eq]
  generalize (lg_sl ([.ref p0, .int end_]) ++ List.replicate (4 - (lg_sl ([.ref p0, .int end_])).length) Slot.unset).toArray = ls at hl ⊢
  have hl : lv_has ls 4 [(0, .ref p0), (1, .int end_)] := hl
  refine lv_aload_n hx hb dP_string_0 rfl (lv_at hl 0 rfl) ?_
  by_cases c_1 : xP_requirePlan tot pd gd = 0
  · skip
    refine tr_go (st1 := []) (va_runV (As := []) (rest := []) (C := RP) ⟨hx, hb, hml, hown, hts⟩ (c_P_requirePlan l dC dI p0 pT pR pS pF h0 pQ pG tot pd gd c_1) ⟨cB 0 hts gw_373 gw_1 gw_371 ndP_requirePlan rfl rfl ⟨Nat.le_of_ble_eq_true rfl, Nat.le_of_ble_eq_true rfl⟩, hts _ gw_372, hts _ gw_750⟩ (tp_Rv hN hK hP [0] [] rfl rfl (q0 := 0) (ci := 0) rfl rfl) rfl rfl hl.1 rfl (lv_room (Nat.le_of_ble_eq_true rfl)) dP_string_1 ⟨Nat.le_of_ble_eq_true rfl, Nat.le_of_ble_eq_true rfl⟩) rfl ?_
    refine lv_iload_n hx hb dP_string_4 rfl (lv_at hl 1 rfl) ?_
    refine lv_iconst (v := 2) hx hb dP_string_5 (by decide) ?_
    by_cases c_2 : xP_requireIndex end_ 2 = 0
    · skip
      refine tr_go (st1 := []) (va_runS (As := [.int end_, .int 2]) (rest := []) ⟨hx, hb, hml, hown, hts⟩ (c_P_requireIndex l dC dI end_ 2 c_2) ⟨cB 2 hts gw_376 gw_1 gw_374 ndP_requireIndex rfl rfl ⟨Nat.le_of_ble_eq_true rfl, Nat.le_of_ble_eq_true rfl⟩, hts _ gw_375⟩ (tp_Rs hN hK hP [] [] rfl rfl) rfl rfl hl.1 rfl (lv_room (Nat.le_of_ble_eq_true rfl)) dP_string_6 ⟨Nat.le_of_ble_eq_true rfl, Nat.le_of_ble_eq_true rfl⟩) rfl ?_
      refine lv_aload_n hx hb dP_string_9 rfl (lv_at hl 0 rfl) ?_
      refine va_get (D := (dC, dI)) (ci := 0) (v := .ref h0) (C := RP) (T := TP) (N := 10) hx hb hts inP hown hK hP 0 rfl rfl 4 (by decide) (hts _ gw_103) (fun _ h9 => h9) rfl dP_string_10 ?_
      refine tr_go (st1 := [.long (fA_cut kind rises total going width cf ct)]) (va_runV (As := []) (rest := []) (C := RA) ⟨hx, hb, hml, hown, hts⟩ (c_A_cut l dC dI h0 kind rises total going width cf ct) ⟨cB 0 hts gw_524 gw_5 gw_521 ndA_stringCutOff rfl rfl ⟨Nat.le_of_ble_eq_true rfl, Nat.le_of_ble_eq_true rfl⟩, hts _ gw_522, hts _ gw_523⟩ (tp_Rv hN hK hP [1] [] rfl rfl (q0 := 1) (ci := 4) rfl rfl) rfl rfl hl.1 rfl (lv_room (Nat.le_of_ble_eq_true rfl)) dP_string_13 ⟨Nat.le_of_ble_eq_true rfl, Nat.le_of_ble_eq_true rfl⟩) rfl ?_
      refine lv_lstore_n (lv' := [(2, .long (fA_cut kind rises total going width cf ct)), (0, .ref p0), (1, .int end_)]) hx hb dP_string_16 rfl hl (by decide) rfl (fun ls hl => ?_)
      refine lv_iload_n hx hb dP_string_17 rfl (lv_at hl 2 rfl) ?_
      refine lv_if_eq (tgt := 32) hx hb dP_string_18 (by decide) (fun c_3 => ?_) (fun c_3 => ?_)
      · skip
        refine lv_lload_n hx hb dP_string_32 rfl (lv_at hl 0 rfl) ?_
        refine lv_goto (tgt := 39) hx hb dP_string_33 (by decide) ?_
        exact absurd (hx9.symm.trans (show xP_string tot pd gd kind rises total going width cf ct end_ = 0 from by unfold xP_string; rw [if_pos c_1, if_pos c_2, if_pos c_3])) (by decide)
      · skip
        refine lv_aload_n hx hb dP_string_21 rfl (lv_at hl 1 rfl) ?_
        refine va_get (D := (dC, dI)) (ci := 0) (v := .ref h0) (C := RP) (T := TP) (N := 10) hx hb hts inP hown hK hP 0 rfl rfl 4 (by decide) (hts _ gw_103) (fun _ h9 => h9) rfl dP_string_22 ?_
        refine lv_lload_n hx hb dP_string_25 rfl (lv_at hl 0 rfl) ?_
        refine tr_go (st1 := [.int (bI (fA_whole kind rises total going width cf ct (fA_cut kind rises total going width cf ct)))]) (va_runV (As := [.long (fA_cut kind rises total going width cf ct)]) (rest := []) (C := RA) ⟨hx, hb, hml, hown, hts⟩ (c_A_isStringWhole l dC dI h0 kind rises total going width cf ct (fA_cut kind rises total going width cf ct)) ⟨cB 1 hts gw_538 gw_5 gw_535 ndA_isStringWhole rfl rfl ⟨Nat.le_of_ble_eq_true rfl, Nat.le_of_ble_eq_true rfl⟩, hts _ gw_536, hts _ gw_537⟩ (tp_Rv hN hK hP [1] [] rfl rfl (q0 := 1) (ci := 4) rfl rfl) rfl rfl hl.1 rfl (lv_room (Nat.le_of_ble_eq_true rfl)) dP_string_26 ⟨Nat.le_of_ble_eq_true rfl, Nat.le_of_ble_eq_true rfl⟩) rfl ?_
        refine tb_ifeq (tgt := 36) hx hb dP_string_29 (by decide) (fun c_4 => ?_) (fun c_4 => ?_)
        · skip
          refine lv_lload_n hx hb dP_string_36 rfl (lv_at hl 0 rfl) ?_
          refine lv_lconst (v := 1) hx hb dP_string_37 (by decide) ?_
          refine lv_ladd hx hb dP_string_38 ?_
          exact absurd (hx9.symm.trans (show xP_string tot pd gd kind rises total going width cf ct end_ = 0 from by unfold xP_string; rw [if_pos c_1, if_pos c_2, if_neg c_3, if_neg (Bool.eq_false_iff.mp c_4)])) (by decide)
        · skip
          refine lv_lload_n hx hb dP_string_32 rfl (lv_at hl 0 rfl) ?_
          refine lv_goto (tgt := 39) hx hb dP_string_33 (by decide) ?_
          exact absurd (hx9.symm.trans (show xP_string tot pd gd kind rises total going width cf ct end_ = 0 from by unfold xP_string; rw [if_pos c_1, if_pos c_2, if_neg c_3, if_pos c_4])) (by decide)
    · skip
      refine tw_runS (As := [.int end_, .int 2]) (rest := []) ⟨hx, hb, hml, hown, hts⟩ (t_P_requireIndex l dC dI end_ 2 hfl c_2) ⟨cB 2 hts gw_376 gw_1 gw_374 ndP_requireIndex rfl rfl ⟨Nat.le_of_ble_eq_true rfl, Nat.le_of_ble_eq_true rfl⟩, hts _ gw_375⟩ (tp_Ts hZ (fun _ _ => rfl) hN hK hP [] [] rfl rfl) rfl hl.1 rfl (Nat.le_of_ble_eq_true rfl) dP_string_6 ⟨Nat.le_of_ble_eq_true rfl, Nat.le_of_ble_eq_true rfl⟩ (fun x9 H9 hN9 => ?_)
      exact tw_leave hlocks hne hN9
  · skip
    exact absurd (hx9.symm.trans (show xP_string tot pd gd kind rises total going width cf ct end_ = 1 from by unfold xP_string; rw [if_neg c_1])) (by decide)

def xP_gap (tot : Int64) (pd : Bool) (gd : Bool) (gn : Int64) (ge : Int64) (part : Int32) : Nat := if gd = true then (if xP_requireIndex part 2 = 0 then (if part = 0 then 0 else 0) else 2) else 1

def fP_gap (tot : Int64) (pd : Bool) (gd : Bool) (gn : Int64) (ge : Int64) (part : Int32) : Int64 := if gd = true then (if xP_requireIndex part 2 = 0 then (if part = 0 then gn else ge) else 0) else 0
set_option maxHeartbeats 4000000 in
set_option maxRecDepth 100000 in
theorem c_P_gap (l : Launch) (dC : Nat → ClassId) (dI : Nat → Nat → Nat) (p0 : Nat) (pT : Nat) (pR : Nat) (pS : Nat) (pF : Nat) (h0 : Nat) (pQ : Nat) (pG : Nat) (tot : Int64) (pd : Bool) (gd : Bool) (gn : Int64) (ge : Int64) (part : Int32) (hx9 : xP_gap tot pd gd gn ge part = 0) : Met l mP_gap wP_gap ({ frames := 1, cells := 0, slots := 0, locals := 21 }) (tp_R (dC, dI) vCl [.ref p0, .int part] [(p0, .inr (0, [.ref pT, .ref pR, .ref pS, .ref pF, .ref h0, .ref pQ, .ref pG, .long tot, .int (bI pd), .int (bI gd)])), (pG, .inr (5, [.long gn, .long ge]))] []) (tq_R (some (.long (fP_gap tot pd gd gn ge part)))) 0 0 (fun _ => False) := by
  refine Met.ofW (cc := bP_gap) (maxL := 2) (ret := (some .long)) (by decide) rfl ?_
  intro p e s m args below meth c s₁ B hml hv
  obtain ⟨rfl, hP, hK, hN⟩ := hv
  have hx := B.exec
  have hb := B.bytes
  have hr := B.returns
  have hts : ∀ w ∈ gT, w.before _ s = true := fun w h => atoms_spec (ws := wP_gap) B.pre w (List.mem_cons_of_mem _ h)
  have hown : s.vm.findClass RP = some m.cls := findClass_of_methodNamed B.named
  have hlocks := B.notSynchronized
  have hP : va_P (dC, dI) vCl [(p0, .inr (0, [.ref pT, .ref pR, .ref pS, .ref pF, .ref h0, .ref pQ, .ref pG, .long tot, .int (bI pd), .int (bI gd)])), (pG, .inr (5, [.long gn, .long ge]))] s.heap := hP
  have hl := lv_entry ([.ref p0, .int part]) (n := 2) (Nat.le_of_ble_eq_true rfl)
  rw [lg_entry_eq]
  generalize (lg_sl ([.ref p0, .int part]) ++ List.replicate (2 - (lg_sl ([.ref p0, .int part])).length) Slot.unset).toArray = ls at hl ⊢
  have hl : lv_has ls 2 [(0, .ref p0), (1, .int part)] := hl
  refine lv_aload_n hx hb dP_gap_0 rfl (lv_at hl 0 rfl) ?_
  refine va_get (D := (dC, dI)) (ci := 0) (v := .int (bI gd)) (C := RP) (T := TP) (N := 10) hx hb hts inP hown hK hP 0 rfl rfl 9 (by decide) (hts _ gw_108) (fun _ h9 => h9) rfl dP_gap_1 ?_
  refine tb_ifne (tgt := 17) hx hb dP_gap_4 (by decide) (fun c_1 => ?_) (fun c_1 => ?_)
  · skip
    refine lv_iload_n hx hb dP_gap_17 rfl (lv_at hl 1 rfl) ?_
    refine lv_iconst (v := 2) hx hb dP_gap_18 (by decide) ?_
    by_cases c_2 : xP_requireIndex part 2 = 0
    · skip
      refine tr_go (st1 := []) (va_runS (As := [.int part, .int 2]) (rest := []) ⟨hx, hb, hml, hown, hts⟩ (c_P_requireIndex l dC dI part 2 c_2) ⟨cB 2 hts gw_376 gw_1 gw_374 ndP_requireIndex rfl rfl ⟨Nat.le_of_ble_eq_true rfl, Nat.le_of_ble_eq_true rfl⟩, hts _ gw_375⟩ (tp_Rs hN hK hP [] [] rfl rfl) rfl rfl hl.1 rfl (lv_room (Nat.le_of_ble_eq_true rfl)) dP_gap_19 ⟨Nat.le_of_ble_eq_true rfl, Nat.le_of_ble_eq_true rfl⟩) rfl ?_
      refine lv_iload_n hx hb dP_gap_22 rfl (lv_at hl 1 rfl) ?_
      refine lv_if_ne (tgt := 36) hx hb dP_gap_23 (by decide) (fun c_3 => ?_) (fun c_3 => ?_)
      · skip
        refine lv_aload_n hx hb dP_gap_36 rfl (lv_at hl 0 rfl) ?_
        refine va_get (D := (dC, dI)) (ci := 0) (v := .ref pG) (C := RP) (T := TP) (N := 10) hx hb hts inP hown hK hP 0 rfl rfl 6 (by decide) (hts _ gw_105) (fun _ h9 => h9) rfl dP_gap_37 ?_
        refine va_getN (D := (dC, dI)) (ci := 5) (v := .long ge) (C := RQ) (T := TQ) (N := 2) hx hb hts inQ hown hK hP 1 rfl rfl 1 (by decide) (va_Nw.use rfl (hN _ nw_14 rfl)) (fun _ h9 => h9) rfl dP_gap_40 ?_
        exact W.lret (v := ge) hx hb hr (fun t ht hW => ⟨by rw [show fP_gap tot pd gd gn ge part = ge from by unfold fP_gap; rw [if_pos c_1, if_pos c_2, if_neg c_3]], ht⟩) (fun q h => by cases h) dP_gap_43
      · skip
        refine lv_aload_n hx hb dP_gap_26 rfl (lv_at hl 0 rfl) ?_
        refine va_get (D := (dC, dI)) (ci := 0) (v := .ref pG) (C := RP) (T := TP) (N := 10) hx hb hts inP hown hK hP 0 rfl rfl 6 (by decide) (hts _ gw_105) (fun _ h9 => h9) rfl dP_gap_27 ?_
        refine va_getN (D := (dC, dI)) (ci := 5) (v := .long gn) (C := RQ) (T := TQ) (N := 2) hx hb hts inQ hown hK hP 1 rfl rfl 0 (by decide) (va_Nw.use rfl (hN _ nw_13 rfl)) (fun _ h9 => h9) rfl dP_gap_30 ?_
        refine lv_goto (tgt := 43) hx hb dP_gap_33 (by decide) ?_
        exact W.lret (v := gn) hx hb hr (fun t ht hW => ⟨by rw [show fP_gap tot pd gd gn ge part = gn from by unfold fP_gap; rw [if_pos c_1, if_pos c_2, if_pos c_3]], ht⟩) (fun q h => by cases h) dP_gap_43
    · skip
      exact absurd (hx9.symm.trans (show xP_gap tot pd gd gn ge part = 2 from by unfold xP_gap; rw [if_pos c_1, if_neg c_2])) (by decide)
  · skip
    exact absurd (hx9.symm.trans (show xP_gap tot pd gd gn ge part = 1 from by unfold xP_gap; rw [if_neg (Bool.eq_false_iff.mp c_1)])) (by decide)

set_option maxHeartbeats 4000000 in
set_option maxRecDepth 100000 in
theorem t_P_gap_ISE (l : Launch) (dC : Nat → ClassId) (dI : Nat → Nat → Nat) (p0 : Nat) (pT : Nat) (pR : Nat) (pS : Nat) (pF : Nat) (h0 : Nat) (pQ : Nat) (pG : Nat) (tot : Int64) (pd : Bool) (gd : Bool) (gn : Int64) (ge : Int64) (part : Int32) (hfl : l.stackTraces = false) (hx9 : xP_gap tot pd gd gn ge part = 1) : tw_Met l mP_gap wP_gap ({ frames := 6, cells := 1, slots := 6, locals := 82 }) (tp_T (dC, dI) vCl [.ref p0, .int part] [(p0, .inr (0, [.ref pT, .ref pR, .ref pS, .ref pF, .ref h0, .ref pQ, .ref pG, .long tot, .int (bI pd), .int (bI gd)])), (pG, .inr (5, [.long gn, .long ge]))] []) "java/lang/IllegalStateException" := by
  refine tw_ofW (cc := bP_gap) (maxL := 2) (ret := (some .long)) (by decide) rfl ?_
  intro p e s m args below meth c s₁ B hml hne hv
  obtain ⟨rfl, hP, hK, hN, hZ⟩ := hv
  have hx := B.exec
  have hb := B.bytes
  have hr := B.returns
  have hts : ∀ w ∈ gT, w.before _ s = true := fun w h => atoms_spec (ws := wP_gap) B.pre w (List.mem_cons_of_mem _ h)
  have hown : s.vm.findClass RP = some m.cls := findClass_of_methodNamed B.named
  have hlocks := B.notSynchronized
  have hP : va_P (dC, dI) vCl [(p0, .inr (0, [.ref pT, .ref pR, .ref pS, .ref pF, .ref h0, .ref pQ, .ref pG, .long tot, .int (bI pd), .int (bI gd)])), (pG, .inr (5, [.long gn, .long ge]))] s.heap := hP
  have hl := lv_entry ([.ref p0, .int part]) (n := 2) (Nat.le_of_ble_eq_true rfl)
  rw [lg_entry_eq]
  generalize (lg_sl ([.ref p0, .int part]) ++ List.replicate (2 - (lg_sl ([.ref p0, .int part])).length) Slot.unset).toArray = ls at hl ⊢
  have hl : lv_has ls 2 [(0, .ref p0), (1, .int part)] := hl
  refine lv_aload_n hx hb dP_gap_0 rfl (lv_at hl 0 rfl) ?_
  refine va_get (D := (dC, dI)) (ci := 0) (v := .int (bI gd)) (C := RP) (T := TP) (N := 10) hx hb hts inP hown hK hP 0 rfl rfl 9 (by decide) (hts _ gw_108) (fun _ h9 => h9) rfl dP_gap_1 ?_
  refine tb_ifne (tgt := 17) hx hb dP_gap_4 (by decide) (fun c_1 => ?_) (fun c_1 => ?_)
  · skip
    refine lv_iload_n hx hb dP_gap_17 rfl (lv_at hl 1 rfl) ?_
    refine lv_iconst (v := 2) hx hb dP_gap_18 (by decide) ?_
    by_cases c_2 : xP_requireIndex part 2 = 0
    · skip
      refine tr_go (st1 := []) (va_runS (As := [.int part, .int 2]) (rest := []) ⟨hx, hb, hml, hown, hts⟩ (c_P_requireIndex l dC dI part 2 c_2) ⟨cB 2 hts gw_376 gw_1 gw_374 ndP_requireIndex rfl rfl ⟨Nat.le_of_ble_eq_true rfl, Nat.le_of_ble_eq_true rfl⟩, hts _ gw_375⟩ (tp_Rs hN hK hP [] [] rfl rfl) rfl rfl hl.1 rfl (lv_room (Nat.le_of_ble_eq_true rfl)) dP_gap_19 ⟨Nat.le_of_ble_eq_true rfl, Nat.le_of_ble_eq_true rfl⟩) rfl ?_
      refine lv_iload_n hx hb dP_gap_22 rfl (lv_at hl 1 rfl) ?_
      refine lv_if_ne (tgt := 36) hx hb dP_gap_23 (by decide) (fun c_3 => ?_) (fun c_3 => ?_)
      · skip
        refine lv_aload_n hx hb dP_gap_36 rfl (lv_at hl 0 rfl) ?_
        refine va_get (D := (dC, dI)) (ci := 0) (v := .ref pG) (C := RP) (T := TP) (N := 10) hx hb hts inP hown hK hP 0 rfl rfl 6 (by decide) (hts _ gw_105) (fun _ h9 => h9) rfl dP_gap_37 ?_
        refine va_getN (D := (dC, dI)) (ci := 5) (v := .long ge) (C := RQ) (T := TQ) (N := 2) hx hb hts inQ hown hK hP 1 rfl rfl 1 (by decide) (va_Nw.use rfl (hN _ nw_14 rfl)) (fun _ h9 => h9) rfl dP_gap_40 ?_
        exact absurd (hx9.symm.trans (show xP_gap tot pd gd gn ge part = 0 from by unfold xP_gap; rw [if_pos c_1, if_pos c_2, if_neg c_3])) (by decide)
      · skip
        refine lv_aload_n hx hb dP_gap_26 rfl (lv_at hl 0 rfl) ?_
        refine va_get (D := (dC, dI)) (ci := 0) (v := .ref pG) (C := RP) (T := TP) (N := 10) hx hb hts inP hown hK hP 0 rfl rfl 6 (by decide) (hts _ gw_105) (fun _ h9 => h9) rfl dP_gap_27 ?_
        refine va_getN (D := (dC, dI)) (ci := 5) (v := .long gn) (C := RQ) (T := TQ) (N := 2) hx hb hts inQ hown hK hP 1 rfl rfl 0 (by decide) (va_Nw.use rfl (hN _ nw_13 rfl)) (fun _ h9 => h9) rfl dP_gap_30 ?_
        refine lv_goto (tgt := 43) hx hb dP_gap_33 (by decide) ?_
        exact absurd (hx9.symm.trans (show xP_gap tot pd gd gn ge part = 0 from by unfold xP_gap; rw [if_pos c_1, if_pos c_2, if_pos c_3])) (by decide)
    · skip
      exact absurd (hx9.symm.trans (show xP_gap tot pd gd gn ge part = 2 from by unfold xP_gap; rw [if_pos c_1, if_neg c_2])) (by decide)
  · skip
    exact tw_new (E := "java/lang/IllegalStateException") hx hb hml hl.1 hfl hlocks hne hown (tz_lit (hZ.1 _ sw_14 rfl)) (hts _ gw_305) (hts _ gw_16) (own_ISE hts hN hZ) (by decide) (by decide) dP_gap_7 dP_gap_10 dP_gap_11 dP_gap_13 dP_gap_16 (Nat.le_of_ble_eq_true rfl) (Nat.le_of_ble_eq_true rfl) (Nat.le_of_ble_eq_true rfl) (Nat.le_of_ble_eq_true rfl)

set_option maxHeartbeats 4000000 in
set_option maxRecDepth 100000 in
theorem t_P_gap_IOB (l : Launch) (dC : Nat → ClassId) (dI : Nat → Nat → Nat) (p0 : Nat) (pT : Nat) (pR : Nat) (pS : Nat) (pF : Nat) (h0 : Nat) (pQ : Nat) (pG : Nat) (tot : Int64) (pd : Bool) (gd : Bool) (gn : Int64) (ge : Int64) (part : Int32) (hfl : l.stackTraces = false) (hx9 : xP_gap tot pd gd gn ge part = 2) : tw_Met l mP_gap wP_gap ({ frames := 7, cells := 1, slots := 6, locals := 103 }) (tp_T (dC, dI) vCl [.ref p0, .int part] [(p0, .inr (0, [.ref pT, .ref pR, .ref pS, .ref pF, .ref h0, .ref pQ, .ref pG, .long tot, .int (bI pd), .int (bI gd)])), (pG, .inr (5, [.long gn, .long ge]))] []) "java/lang/IndexOutOfBoundsException" := by
  refine tw_ofW (cc := bP_gap) (maxL := 2) (ret := (some .long)) (by decide) rfl ?_
  intro p e s m args below meth c s₁ B hml hne hv
  obtain ⟨rfl, hP, hK, hN, hZ⟩ := hv
  have hx := B.exec
  have hb := B.bytes
  have hr := B.returns
  have hts : ∀ w ∈ gT, w.before _ s = true := fun w h => atoms_spec (ws := wP_gap) B.pre w (List.mem_cons_of_mem _ h)
  have hown : s.vm.findClass RP = some m.cls := findClass_of_methodNamed B.named
  have hlocks := B.notSynchronized
  have hP : va_P (dC, dI) vCl [(p0, .inr (0, [.ref pT, .ref pR, .ref pS, .ref pF, .ref h0, .ref pQ, .ref pG, .long tot, .int (bI pd), .int (bI gd)])), (pG, .inr (5, [.long gn, .long ge]))] s.heap := hP
  have hl := lv_entry ([.ref p0, .int part]) (n := 2) (Nat.le_of_ble_eq_true rfl)
  rw [lg_entry_eq]
  generalize (lg_sl ([.ref p0, .int part]) ++ List.replicate (2 - (lg_sl ([.ref p0, .int part])).length) Slot.unset).toArray = ls at hl ⊢
  have hl : lv_has ls 2 [(0, .ref p0), (1, .int part)] := hl
  refine lv_aload_n hx hb dP_gap_0 rfl (lv_at hl 0 rfl) ?_
  refine va_get (D := (dC, dI)) (ci := 0) (v := .int (bI gd)) (C := RP) (T := TP) (N := 10) hx hb hts inP hown hK hP 0 rfl rfl 9 (by decide) (hts _ gw_108) (fun _ h9 => h9) rfl dP_gap_1 ?_
  refine tb_ifne (tgt := 17) hx hb dP_gap_4 (by decide) (fun c_1 => ?_) (fun c_1 => ?_)
  · skip
    refine lv_iload_n hx hb dP_gap_17 rfl (lv_at hl 1 rfl) ?_
    refine lv_iconst (v := 2) hx hb dP_gap_18 (by decide) ?_
    by_cases c_2 : xP_requireIndex part 2 = 0
    · skip
      refine tr_go (st1 := []) (va_runS (As := [.int part, .int 2]) (rest := []) ⟨hx, hb, hml, hown, hts⟩ (c_P_requireIndex l dC dI part 2 c_2) ⟨cB 2 hts gw_376 gw_1 gw_374 ndP_requireIndex rfl rfl ⟨Nat.le_of_ble_eq_true rfl, Nat.le_of_ble_eq_true rfl⟩, hts _ gw_375⟩ (tp_Rs hN hK hP [] [] rfl rfl) rfl rfl hl.1 rfl (lv_room (Nat.le_of_ble_eq_true rfl)) dP_gap_19 ⟨Nat.le_of_ble_eq_true rfl, Nat.le_of_ble_eq_true rfl⟩) rfl ?_
      refine lv_iload_n hx hb dP_gap_22 rfl (lv_at hl 1 rfl) ?_
      refine lv_if_ne (tgt := 36) hx hb dP_gap_23 (by decide) (fun c_3 => ?_) (fun c_3 => ?_)
      · skip
        refine lv_aload_n hx hb dP_gap_36 rfl (lv_at hl 0 rfl) ?_
        refine va_get (D := (dC, dI)) (ci := 0) (v := .ref pG) (C := RP) (T := TP) (N := 10) hx hb hts inP hown hK hP 0 rfl rfl 6 (by decide) (hts _ gw_105) (fun _ h9 => h9) rfl dP_gap_37 ?_
        refine va_getN (D := (dC, dI)) (ci := 5) (v := .long ge) (C := RQ) (T := TQ) (N := 2) hx hb hts inQ hown hK hP 1 rfl rfl 1 (by decide) (va_Nw.use rfl (hN _ nw_14 rfl)) (fun _ h9 => h9) rfl dP_gap_40 ?_
        exact absurd (hx9.symm.trans (show xP_gap tot pd gd gn ge part = 0 from by unfold xP_gap; rw [if_pos c_1, if_pos c_2, if_neg c_3])) (by decide)
      · skip
        refine lv_aload_n hx hb dP_gap_26 rfl (lv_at hl 0 rfl) ?_
        refine va_get (D := (dC, dI)) (ci := 0) (v := .ref pG) (C := RP) (T := TP) (N := 10) hx hb hts inP hown hK hP 0 rfl rfl 6 (by decide) (hts _ gw_105) (fun _ h9 => h9) rfl dP_gap_27 ?_
        refine va_getN (D := (dC, dI)) (ci := 5) (v := .long gn) (C := RQ) (T := TQ) (N := 2) hx hb hts inQ hown hK hP 1 rfl rfl 0 (by decide) (va_Nw.use rfl (hN _ nw_13 rfl)) (fun _ h9 => h9) rfl dP_gap_30 ?_
        refine lv_goto (tgt := 43) hx hb dP_gap_33 (by decide) ?_
        exact absurd (hx9.symm.trans (show xP_gap tot pd gd gn ge part = 0 from by unfold xP_gap; rw [if_pos c_1, if_pos c_2, if_pos c_3])) (by decide)
    · skip
      refine tw_runS (As := [.int part, .int 2]) (rest := []) ⟨hx, hb, hml, hown, hts⟩ (t_P_requireIndex l dC dI part 2 hfl c_2) ⟨cB 2 hts gw_376 gw_1 gw_374 ndP_requireIndex rfl rfl ⟨Nat.le_of_ble_eq_true rfl, Nat.le_of_ble_eq_true rfl⟩, hts _ gw_375⟩ (tp_Ts hZ (fun _ _ => rfl) hN hK hP [] [] rfl rfl) rfl hl.1 rfl (Nat.le_of_ble_eq_true rfl) dP_gap_19 ⟨Nat.le_of_ble_eq_true rfl, Nat.le_of_ble_eq_true rfl⟩ (fun x9 H9 hN9 => ?_)
      exact tw_leave hlocks hne hN9
  · skip
    exact absurd (hx9.symm.trans (show xP_gap tot pd gd gn ge part = 1 from by unfold xP_gap; rw [if_neg (Bool.eq_false_iff.mp c_1)])) (by decide)

def xP_list (tot : Int64) (pd : Bool) (gd : Bool) (kind : Int32) (rises : Int32) (total : Int64) (going : Int64) (width : Int64) (cf : Int32) (ct : Int32) (k : Int32) : Nat := if xP_requirePlan tot pd gd = 0 then (if xP_requireIndex k 4 = 0 then (if k = 0 then 0 else (if k = 1 then 0 else (if k = 2 then 0 else 0))) else 2) else 1

def fP_list (tot : Int64) (pd : Bool) (gd : Bool) (kind : Int32) (rises : Int32) (total : Int64) (going : Int64) (width : Int64) (cf : Int32) (ct : Int32) (k : Int32) : Int32 := if xP_requirePlan tot pd gd = 0 then (if xP_requireIndex k 4 = 0 then (if k = 0 then (((fA_treads kind rises total going width cf ct) - (fA_landings kind rises total going width cf ct)) - (fA_winders kind rises total going width cf ct)) else (if k = 1 then (fA_landings kind rises total going width cf ct) else (if k = 2 then (fA_winders kind rises total going width cf ct) else rises))) else 0) else 0
set_option maxHeartbeats 4000000 in
set_option maxRecDepth 100000 in
theorem c_P_list (l : Launch) (dC : Nat → ClassId) (dI : Nat → Nat → Nat) (p0 : Nat) (pT : Nat) (pR : Nat) (pS : Nat) (pF : Nat) (h0 : Nat) (pQ : Nat) (pG : Nat) (tot : Int64) (pd : Bool) (gd : Bool) (kind : Int32) (rises : Int32) (total : Int64) (going : Int64) (width : Int64) (cf : Int32) (ct : Int32) (k : Int32) (hx9 : xP_list tot pd gd kind rises total going width cf ct k = 0) : Met l mP_list wP_list ({ frames := 1, cells := 0, slots := 0, locals := 21 }) (tp_R (dC, dI) vCl [.ref p0, .int k] [(p0, .inr (0, [.ref pT, .ref pR, .ref pS, .ref pF, .ref h0, .ref pQ, .ref pG, .long tot, .int (bI pd), .int (bI gd)])), (h0, .inr (4, [.int kind, .int rises, .long total, .long going, .long width, .int cf, .int ct]))] []) (tq_R (some (.int (fP_list tot pd gd kind rises total going width cf ct k)))) 0 0 (fun _ => False) := by
  refine Met.ofW (cc := bP_list) (maxL := 2) (ret := (some .int)) (by decide) rfl ?_
  intro p e s m args below meth c s₁ B hml hv
  obtain ⟨rfl, hP, hK, hN⟩ := hv
  have hx := B.exec
  have hb := B.bytes
  have hr := B.returns
  have hts : ∀ w ∈ gT, w.before _ s = true := fun w h => atoms_spec (ws := wP_list) B.pre w (List.mem_cons_of_mem _ h)
  have hown : s.vm.findClass RP = some m.cls := findClass_of_methodNamed B.named
  have hlocks := B.notSynchronized
  have hP : va_P (dC, dI) vCl [(p0, .inr (0, [.ref pT, .ref pR, .ref pS, .ref pF, .ref h0, .ref pQ, .ref pG, .long tot, .int (bI pd), .int (bI gd)])), (h0, .inr (4, [.int kind, .int rises, .long total, .long going, .long width, .int cf, .int ct]))] s.heap := hP
  have hl := lv_entry ([.ref p0, .int k]) (n := 2) (Nat.le_of_ble_eq_true rfl)
  rw [lg_entry_eq]
  generalize (lg_sl ([.ref p0, .int k]) ++ List.replicate (2 - (lg_sl ([.ref p0, .int k])).length) Slot.unset).toArray = ls at hl ⊢
  have hl : lv_has ls 2 [(0, .ref p0), (1, .int k)] := hl
  refine lv_aload_n hx hb dP_list_0 rfl (lv_at hl 0 rfl) ?_
  by_cases c_1 : xP_requirePlan tot pd gd = 0
  · skip
    refine tr_go (st1 := []) (va_runV (As := []) (rest := []) (C := RP) ⟨hx, hb, hml, hown, hts⟩ (c_P_requirePlan l dC dI p0 pT pR pS pF h0 pQ pG tot pd gd c_1) ⟨cB 0 hts gw_373 gw_1 gw_371 ndP_requirePlan rfl rfl ⟨Nat.le_of_ble_eq_true rfl, Nat.le_of_ble_eq_true rfl⟩, hts _ gw_372, hts _ gw_750⟩ (tp_Rv hN hK hP [0] [] rfl rfl (q0 := 0) (ci := 0) rfl rfl) rfl rfl hl.1 rfl (lv_room (Nat.le_of_ble_eq_true rfl)) dP_list_1 ⟨Nat.le_of_ble_eq_true rfl, Nat.le_of_ble_eq_true rfl⟩) rfl ?_
    refine lv_iload_n hx hb dP_list_4 rfl (lv_at hl 1 rfl) ?_
    refine lv_iconst (v := 4) hx hb dP_list_5 (by decide) ?_
    by_cases c_2 : xP_requireIndex k 4 = 0
    · skip
      refine tr_go (st1 := []) (va_runS (As := [.int k, .int 4]) (rest := []) ⟨hx, hb, hml, hown, hts⟩ (c_P_requireIndex l dC dI k 4 c_2) ⟨cB 2 hts gw_376 gw_1 gw_374 ndP_requireIndex rfl rfl ⟨Nat.le_of_ble_eq_true rfl, Nat.le_of_ble_eq_true rfl⟩, hts _ gw_375⟩ (tp_Rs hN hK hP [] [] rfl rfl) rfl rfl hl.1 rfl (lv_room (Nat.le_of_ble_eq_true rfl)) dP_list_6 ⟨Nat.le_of_ble_eq_true rfl, Nat.le_of_ble_eq_true rfl⟩) rfl ?_
      refine lv_iload_n hx hb dP_list_9 rfl (lv_at hl 1 rfl) ?_
      by_cases c_3 : k = 0
      · skip
        refine lv_tableIn (tgt := 36) hx hb dP_list_10 (by rw [c_3]; decide) (by rw [c_3]; decide) (by rw [c_3]; rfl) (by decide) ?_
        refine lv_aload_n hx hb dP_list_36 rfl (lv_at hl 0 rfl) ?_
        refine va_get (D := (dC, dI)) (ci := 0) (v := .ref h0) (C := RP) (T := TP) (N := 10) hx hb hts inP hown hK hP 0 rfl rfl 4 (by decide) (hts _ gw_103) (fun _ h9 => h9) rfl dP_list_37 ?_
        refine tr_go (st1 := [.int (fA_treads kind rises total going width cf ct)]) (va_runV (As := []) (rest := []) (C := RA) ⟨hx, hb, hml, hown, hts⟩ (c_A_treads l dC dI h0 kind rises total going width cf ct) ⟨cB 0 hts gw_334 gw_5 gw_397 ndA_treads rfl rfl ⟨Nat.le_of_ble_eq_true rfl, Nat.le_of_ble_eq_true rfl⟩, hts _ gw_332, hts _ gw_333⟩ (tp_Rv hN hK hP [1] [] rfl rfl (q0 := 1) (ci := 4) rfl rfl) rfl rfl hl.1 rfl (lv_room (Nat.le_of_ble_eq_true rfl)) dP_list_40 ⟨Nat.le_of_ble_eq_true rfl, Nat.le_of_ble_eq_true rfl⟩) rfl ?_
        refine lv_aload_n hx hb dP_list_43 rfl (lv_at hl 0 rfl) ?_
        refine va_get (D := (dC, dI)) (ci := 0) (v := .ref h0) (C := RP) (T := TP) (N := 10) hx hb hts inP hown hK hP 0 rfl rfl 4 (by decide) (hts _ gw_103) (fun _ h9 => h9) rfl dP_list_44 ?_
        refine tr_go (st1 := [.int (fA_landings kind rises total going width cf ct), .int (fA_treads kind rises total going width cf ct)]) (va_runV (As := []) (rest := [.int (fA_treads kind rises total going width cf ct)]) (C := RA) ⟨hx, hb, hml, hown, hts⟩ (c_A_landings l dC dI h0 kind rises total going width cf ct) ⟨cB 0 hts gw_339 gw_5 gw_566 ndA_landings rfl rfl ⟨Nat.le_of_ble_eq_true rfl, Nat.le_of_ble_eq_true rfl⟩, hts _ gw_337, hts _ gw_338⟩ (tp_Rv hN hK hP [1] [] rfl rfl (q0 := 1) (ci := 4) rfl rfl) rfl rfl hl.1 rfl (lv_room (Nat.le_of_ble_eq_true rfl)) dP_list_47 ⟨Nat.le_of_ble_eq_true rfl, Nat.le_of_ble_eq_true rfl⟩) rfl ?_
        refine lv_isub hx hb dP_list_50 ?_
        refine lv_aload_n hx hb dP_list_51 rfl (lv_at hl 0 rfl) ?_
        refine va_get (D := (dC, dI)) (ci := 0) (v := .ref h0) (C := RP) (T := TP) (N := 10) hx hb hts inP hown hK hP 0 rfl rfl 4 (by decide) (hts _ gw_103) (fun _ h9 => h9) rfl dP_list_52 ?_
        refine tr_go (st1 := [.int (fA_winders kind rises total going width cf ct), .int ((fA_treads kind rises total going width cf ct) - (fA_landings kind rises total going width cf ct))]) (va_runV (As := []) (rest := [.int ((fA_treads kind rises total going width cf ct) - (fA_landings kind rises total going width cf ct))]) (C := RA) ⟨hx, hb, hml, hown, hts⟩ (c_A_winders l dC dI h0 kind rises total going width cf ct) ⟨cB 0 hts gw_343 gw_5 gw_437 ndA_winders rfl rfl ⟨Nat.le_of_ble_eq_true rfl, Nat.le_of_ble_eq_true rfl⟩, hts _ gw_341, hts _ gw_342⟩ (tp_Rv hN hK hP [1] [] rfl rfl (q0 := 1) (ci := 4) rfl rfl) rfl rfl hl.1 rfl (lv_room (Nat.le_of_ble_eq_true rfl)) dP_list_55 ⟨Nat.le_of_ble_eq_true rfl, Nat.le_of_ble_eq_true rfl⟩) rfl ?_
        refine lv_isub hx hb dP_list_58 ?_
        exact W.iret (v := ((fA_treads kind rises total going width cf ct) - (fA_landings kind rises total going width cf ct)) - (fA_winders kind rises total going width cf ct)) hx hb hr (fun t ht hW => ⟨by rw [show fP_list tot pd gd kind rises total going width cf ct k = ((fA_treads kind rises total going width cf ct) - (fA_landings kind rises total going width cf ct)) - (fA_winders kind rises total going width cf ct) from by unfold fP_list; rw [if_pos c_1, if_pos c_2, if_pos c_3]], ht⟩) (fun q h => by cases h) dP_list_59
      · skip
        have ec_3 : ¬ k = nI 0 := c_3
        by_cases c_4 : k = 1
        · skip
          refine lv_tableIn (tgt := 60) hx hb dP_list_10 (by rw [c_4]; decide) (by rw [c_4]; decide) (by rw [c_4]; rfl) (by decide) ?_
          refine lv_aload_n hx hb dP_list_60 rfl (lv_at hl 0 rfl) ?_
          refine va_get (D := (dC, dI)) (ci := 0) (v := .ref h0) (C := RP) (T := TP) (N := 10) hx hb hts inP hown hK hP 0 rfl rfl 4 (by decide) (hts _ gw_103) (fun _ h9 => h9) rfl dP_list_61 ?_
          refine tr_go (st1 := [.int (fA_landings kind rises total going width cf ct)]) (va_runV (As := []) (rest := []) (C := RA) ⟨hx, hb, hml, hown, hts⟩ (c_A_landings l dC dI h0 kind rises total going width cf ct) ⟨cB 0 hts gw_339 gw_5 gw_566 ndA_landings rfl rfl ⟨Nat.le_of_ble_eq_true rfl, Nat.le_of_ble_eq_true rfl⟩, hts _ gw_337, hts _ gw_338⟩ (tp_Rv hN hK hP [1] [] rfl rfl (q0 := 1) (ci := 4) rfl rfl) rfl rfl hl.1 rfl (lv_room (Nat.le_of_ble_eq_true rfl)) dP_list_64 ⟨Nat.le_of_ble_eq_true rfl, Nat.le_of_ble_eq_true rfl⟩) rfl ?_
          exact W.iret (v := fA_landings kind rises total going width cf ct) hx hb hr (fun t ht hW => ⟨by rw [show fP_list tot pd gd kind rises total going width cf ct k = fA_landings kind rises total going width cf ct from by unfold fP_list; rw [if_pos c_1, if_pos c_2, if_neg c_3, if_pos c_4]], ht⟩) (fun q h => by cases h) dP_list_67
        · skip
          have ec_4 : ¬ k = nI 1 := c_4
          by_cases c_5 : k = 2
          · skip
            refine lv_tableIn (tgt := 68) hx hb dP_list_10 (by rw [c_5]; decide) (by rw [c_5]; decide) (by rw [c_5]; rfl) (by decide) ?_
            refine lv_aload_n hx hb dP_list_68 rfl (lv_at hl 0 rfl) ?_
            refine va_get (D := (dC, dI)) (ci := 0) (v := .ref h0) (C := RP) (T := TP) (N := 10) hx hb hts inP hown hK hP 0 rfl rfl 4 (by decide) (hts _ gw_103) (fun _ h9 => h9) rfl dP_list_69 ?_
            refine tr_go (st1 := [.int (fA_winders kind rises total going width cf ct)]) (va_runV (As := []) (rest := []) (C := RA) ⟨hx, hb, hml, hown, hts⟩ (c_A_winders l dC dI h0 kind rises total going width cf ct) ⟨cB 0 hts gw_343 gw_5 gw_437 ndA_winders rfl rfl ⟨Nat.le_of_ble_eq_true rfl, Nat.le_of_ble_eq_true rfl⟩, hts _ gw_341, hts _ gw_342⟩ (tp_Rv hN hK hP [1] [] rfl rfl (q0 := 1) (ci := 4) rfl rfl) rfl rfl hl.1 rfl (lv_room (Nat.le_of_ble_eq_true rfl)) dP_list_72 ⟨Nat.le_of_ble_eq_true rfl, Nat.le_of_ble_eq_true rfl⟩) rfl ?_
            exact W.iret (v := fA_winders kind rises total going width cf ct) hx hb hr (fun t ht hW => ⟨by rw [show fP_list tot pd gd kind rises total going width cf ct k = fA_winders kind rises total going width cf ct from by unfold fP_list; rw [if_pos c_1, if_pos c_2, if_neg c_3, if_neg c_4, if_pos c_5]], ht⟩) (fun q h => by cases h) dP_list_75
          · skip
            have ec_5 : ¬ k = nI 2 := c_5
            refine lv_tableOut (tgt := 76) hx hb dP_list_10 (tsw 2 (by decide) (fun j hj => by rcases (show j = 0 ∨ j = 1 ∨ j = 2 by omega) with rfl | rfl | rfl <;> assumption)) (by decide) ?_
            refine lv_aload_n hx hb dP_list_76 rfl (lv_at hl 0 rfl) ?_
            refine va_get (D := (dC, dI)) (ci := 0) (v := .ref h0) (C := RP) (T := TP) (N := 10) hx hb hts inP hown hK hP 0 rfl rfl 4 (by decide) (hts _ gw_103) (fun _ h9 => h9) rfl dP_list_77 ?_
            refine va_getN (D := (dC, dI)) (ci := 4) (v := .int rises) (C := RA) (T := TA) (N := 7) hx hb hts inA hown hK hP 1 rfl rfl 1 (by decide) (va_Nw.use rfl (hN _ nw_8 rfl)) (fun _ h9 => h9) rfl dP_list_80 ?_
            exact W.iret (v := rises) hx hb hr (fun t ht hW => ⟨by rw [show fP_list tot pd gd kind rises total going width cf ct k = rises from by unfold fP_list; rw [if_pos c_1, if_pos c_2, if_neg c_3, if_neg c_4, if_neg c_5]], ht⟩) (fun q h => by cases h) dP_list_83
    · skip
      exact absurd (hx9.symm.trans (show xP_list tot pd gd kind rises total going width cf ct k = 2 from by unfold xP_list; rw [if_pos c_1, if_neg c_2])) (by decide)
  · skip
    exact absurd (hx9.symm.trans (show xP_list tot pd gd kind rises total going width cf ct k = 1 from by unfold xP_list; rw [if_neg c_1])) (by decide)

set_option maxHeartbeats 4000000 in
set_option maxRecDepth 100000 in
theorem t_P_list_ISE (l : Launch) (dC : Nat → ClassId) (dI : Nat → Nat → Nat) (p0 : Nat) (pT : Nat) (pR : Nat) (pS : Nat) (pF : Nat) (h0 : Nat) (pQ : Nat) (pG : Nat) (tot : Int64) (pd : Bool) (gd : Bool) (kind : Int32) (rises : Int32) (total : Int64) (going : Int64) (width : Int64) (cf : Int32) (ct : Int32) (k : Int32) (hfl : l.stackTraces = false) (hx9 : xP_list tot pd gd kind rises total going width cf ct k = 1) : tw_Met l mP_list wP_list ({ frames := 7, cells := 1, slots := 6, locals := 102 }) (tp_T (dC, dI) vCl [.ref p0, .int k] [(p0, .inr (0, [.ref pT, .ref pR, .ref pS, .ref pF, .ref h0, .ref pQ, .ref pG, .long tot, .int (bI pd), .int (bI gd)])), (h0, .inr (4, [.int kind, .int rises, .long total, .long going, .long width, .int cf, .int ct]))] []) "java/lang/IllegalStateException" := by
  refine tw_ofW (cc := bP_list) (maxL := 2) (ret := (some .int)) (by decide) rfl ?_
  intro p e s m args below meth c s₁ B hml hne hv
  obtain ⟨rfl, hP, hK, hN, hZ⟩ := hv
  have hx := B.exec
  have hb := B.bytes
  have hr := B.returns
  have hts : ∀ w ∈ gT, w.before _ s = true := fun w h => atoms_spec (ws := wP_list) B.pre w (List.mem_cons_of_mem _ h)
  have hown : s.vm.findClass RP = some m.cls := findClass_of_methodNamed B.named
  have hlocks := B.notSynchronized
  have hP : va_P (dC, dI) vCl [(p0, .inr (0, [.ref pT, .ref pR, .ref pS, .ref pF, .ref h0, .ref pQ, .ref pG, .long tot, .int (bI pd), .int (bI gd)])), (h0, .inr (4, [.int kind, .int rises, .long total, .long going, .long width, .int cf, .int ct]))] s.heap := hP
  have hl := lv_entry ([.ref p0, .int k]) (n := 2) (Nat.le_of_ble_eq_true rfl)
  rw [lg_entry_eq]
  generalize (lg_sl ([.ref p0, .int k]) ++ List.replicate (2 - (lg_sl ([.ref p0, .int k])).length) Slot.unset).toArray = ls at hl ⊢
  have hl : lv_has ls 2 [(0, .ref p0), (1, .int k)] := hl
  refine lv_aload_n hx hb dP_list_0 rfl (lv_at hl 0 rfl) ?_
  by_cases c_1 : xP_requirePlan tot pd gd = 0
  · skip
    refine tr_go (st1 := []) (va_runV (As := []) (rest := []) (C := RP) ⟨hx, hb, hml, hown, hts⟩ (c_P_requirePlan l dC dI p0 pT pR pS pF h0 pQ pG tot pd gd c_1) ⟨cB 0 hts gw_373 gw_1 gw_371 ndP_requirePlan rfl rfl ⟨Nat.le_of_ble_eq_true rfl, Nat.le_of_ble_eq_true rfl⟩, hts _ gw_372, hts _ gw_750⟩ (tp_Rv hN hK hP [0] [] rfl rfl (q0 := 0) (ci := 0) rfl rfl) rfl rfl hl.1 rfl (lv_room (Nat.le_of_ble_eq_true rfl)) dP_list_1 ⟨Nat.le_of_ble_eq_true rfl, Nat.le_of_ble_eq_true rfl⟩) rfl ?_
    refine lv_iload_n hx hb dP_list_4 rfl (lv_at hl 1 rfl) ?_
    refine lv_iconst (v := 4) hx hb dP_list_5 (by decide) ?_
    by_cases c_2 : xP_requireIndex k 4 = 0
    · skip
      refine tr_go (st1 := []) (va_runS (As := [.int k, .int 4]) (rest := []) ⟨hx, hb, hml, hown, hts⟩ (c_P_requireIndex l dC dI k 4 c_2) ⟨cB 2 hts gw_376 gw_1 gw_374 ndP_requireIndex rfl rfl ⟨Nat.le_of_ble_eq_true rfl, Nat.le_of_ble_eq_true rfl⟩, hts _ gw_375⟩ (tp_Rs hN hK hP [] [] rfl rfl) rfl rfl hl.1 rfl (lv_room (Nat.le_of_ble_eq_true rfl)) dP_list_6 ⟨Nat.le_of_ble_eq_true rfl, Nat.le_of_ble_eq_true rfl⟩) rfl ?_
      refine lv_iload_n hx hb dP_list_9 rfl (lv_at hl 1 rfl) ?_
      by_cases c_3 : k = 0
      · skip
        refine lv_tableIn (tgt := 36) hx hb dP_list_10 (by rw [c_3]; decide) (by rw [c_3]; decide) (by rw [c_3]; rfl) (by decide) ?_
        refine lv_aload_n hx hb dP_list_36 rfl (lv_at hl 0 rfl) ?_
        refine va_get (D := (dC, dI)) (ci := 0) (v := .ref h0) (C := RP) (T := TP) (N := 10) hx hb hts inP hown hK hP 0 rfl rfl 4 (by decide) (hts _ gw_103) (fun _ h9 => h9) rfl dP_list_37 ?_
        refine tr_go (st1 := [.int (fA_treads kind rises total going width cf ct)]) (va_runV (As := []) (rest := []) (C := RA) ⟨hx, hb, hml, hown, hts⟩ (c_A_treads l dC dI h0 kind rises total going width cf ct) ⟨cB 0 hts gw_334 gw_5 gw_397 ndA_treads rfl rfl ⟨Nat.le_of_ble_eq_true rfl, Nat.le_of_ble_eq_true rfl⟩, hts _ gw_332, hts _ gw_333⟩ (tp_Rv hN hK hP [1] [] rfl rfl (q0 := 1) (ci := 4) rfl rfl) rfl rfl hl.1 rfl (lv_room (Nat.le_of_ble_eq_true rfl)) dP_list_40 ⟨Nat.le_of_ble_eq_true rfl, Nat.le_of_ble_eq_true rfl⟩) rfl ?_
        refine lv_aload_n hx hb dP_list_43 rfl (lv_at hl 0 rfl) ?_
        refine va_get (D := (dC, dI)) (ci := 0) (v := .ref h0) (C := RP) (T := TP) (N := 10) hx hb hts inP hown hK hP 0 rfl rfl 4 (by decide) (hts _ gw_103) (fun _ h9 => h9) rfl dP_list_44 ?_
        refine tr_go (st1 := [.int (fA_landings kind rises total going width cf ct), .int (fA_treads kind rises total going width cf ct)]) (va_runV (As := []) (rest := [.int (fA_treads kind rises total going width cf ct)]) (C := RA) ⟨hx, hb, hml, hown, hts⟩ (c_A_landings l dC dI h0 kind rises total going width cf ct) ⟨cB 0 hts gw_339 gw_5 gw_566 ndA_landings rfl rfl ⟨Nat.le_of_ble_eq_true rfl, Nat.le_of_ble_eq_true rfl⟩, hts _ gw_337, hts _ gw_338⟩ (tp_Rv hN hK hP [1] [] rfl rfl (q0 := 1) (ci := 4) rfl rfl) rfl rfl hl.1 rfl (lv_room (Nat.le_of_ble_eq_true rfl)) dP_list_47 ⟨Nat.le_of_ble_eq_true rfl, Nat.le_of_ble_eq_true rfl⟩) rfl ?_
        refine lv_isub hx hb dP_list_50 ?_
        refine lv_aload_n hx hb dP_list_51 rfl (lv_at hl 0 rfl) ?_
        refine va_get (D := (dC, dI)) (ci := 0) (v := .ref h0) (C := RP) (T := TP) (N := 10) hx hb hts inP hown hK hP 0 rfl rfl 4 (by decide) (hts _ gw_103) (fun _ h9 => h9) rfl dP_list_52 ?_
        refine tr_go (st1 := [.int (fA_winders kind rises total going width cf ct), .int ((fA_treads kind rises total going width cf ct) - (fA_landings kind rises total going width cf ct))]) (va_runV (As := []) (rest := [.int ((fA_treads kind rises total going width cf ct) - (fA_landings kind rises total going width cf ct))]) (C := RA) ⟨hx, hb, hml, hown, hts⟩ (c_A_winders l dC dI h0 kind rises total going width cf ct) ⟨cB 0 hts gw_343 gw_5 gw_437 ndA_winders rfl rfl ⟨Nat.le_of_ble_eq_true rfl, Nat.le_of_ble_eq_true rfl⟩, hts _ gw_341, hts _ gw_342⟩ (tp_Rv hN hK hP [1] [] rfl rfl (q0 := 1) (ci := 4) rfl rfl) rfl rfl hl.1 rfl (lv_room (Nat.le_of_ble_eq_true rfl)) dP_list_55 ⟨Nat.le_of_ble_eq_true rfl, Nat.le_of_ble_eq_true rfl⟩) rfl ?_
        refine lv_isub hx hb dP_list_58 ?_
        exact absurd (hx9.symm.trans (show xP_list tot pd gd kind rises total going width cf ct k = 0 from by unfold xP_list; rw [if_pos c_1, if_pos c_2, if_pos c_3])) (by decide)
      · skip
        have ec_3 : ¬ k = nI 0 := c_3
        by_cases c_4 : k = 1
        · skip
          refine lv_tableIn (tgt := 60) hx hb dP_list_10 (by rw [c_4]; decide) (by rw [c_4]; decide) (by rw [c_4]; rfl) (by decide) ?_
          refine lv_aload_n hx hb dP_list_60 rfl (lv_at hl 0 rfl) ?_
          refine va_get (D := (dC, dI)) (ci := 0) (v := .ref h0) (C := RP) (T := TP) (N := 10) hx hb hts inP hown hK hP 0 rfl rfl 4 (by decide) (hts _ gw_103) (fun _ h9 => h9) rfl dP_list_61 ?_
          refine tr_go (st1 := [.int (fA_landings kind rises total going width cf ct)]) (va_runV (As := []) (rest := []) (C := RA) ⟨hx, hb, hml, hown, hts⟩ (c_A_landings l dC dI h0 kind rises total going width cf ct) ⟨cB 0 hts gw_339 gw_5 gw_566 ndA_landings rfl rfl ⟨Nat.le_of_ble_eq_true rfl, Nat.le_of_ble_eq_true rfl⟩, hts _ gw_337, hts _ gw_338⟩ (tp_Rv hN hK hP [1] [] rfl rfl (q0 := 1) (ci := 4) rfl rfl) rfl rfl hl.1 rfl (lv_room (Nat.le_of_ble_eq_true rfl)) dP_list_64 ⟨Nat.le_of_ble_eq_true rfl, Nat.le_of_ble_eq_true rfl⟩) rfl ?_
          exact absurd (hx9.symm.trans (show xP_list tot pd gd kind rises total going width cf ct k = 0 from by unfold xP_list; rw [if_pos c_1, if_pos c_2, if_neg c_3, if_pos c_4])) (by decide)
        · skip
          have ec_4 : ¬ k = nI 1 := c_4
          by_cases c_5 : k = 2
          · skip
            refine lv_tableIn (tgt := 68) hx hb dP_list_10 (by rw [c_5]; decide) (by rw [c_5]; decide) (by rw [c_5]; rfl) (by decide) ?_
            refine lv_aload_n hx hb dP_list_68 rfl (lv_at hl 0 rfl) ?_
            refine va_get (D := (dC, dI)) (ci := 0) (v := .ref h0) (C := RP) (T := TP) (N := 10) hx hb hts inP hown hK hP 0 rfl rfl 4 (by decide) (hts _ gw_103) (fun _ h9 => h9) rfl dP_list_69 ?_
            refine tr_go (st1 := [.int (fA_winders kind rises total going width cf ct)]) (va_runV (As := []) (rest := []) (C := RA) ⟨hx, hb, hml, hown, hts⟩ (c_A_winders l dC dI h0 kind rises total going width cf ct) ⟨cB 0 hts gw_343 gw_5 gw_437 ndA_winders rfl rfl ⟨Nat.le_of_ble_eq_true rfl, Nat.le_of_ble_eq_true rfl⟩, hts _ gw_341, hts _ gw_342⟩ (tp_Rv hN hK hP [1] [] rfl rfl (q0 := 1) (ci := 4) rfl rfl) rfl rfl hl.1 rfl (lv_room (Nat.le_of_ble_eq_true rfl)) dP_list_72 ⟨Nat.le_of_ble_eq_true rfl, Nat.le_of_ble_eq_true rfl⟩) rfl ?_
            exact absurd (hx9.symm.trans (show xP_list tot pd gd kind rises total going width cf ct k = 0 from by unfold xP_list; rw [if_pos c_1, if_pos c_2, if_neg c_3, if_neg c_4, if_pos c_5])) (by decide)
          · skip
            have ec_5 : ¬ k = nI 2 := c_5
            refine lv_tableOut (tgt := 76) hx hb dP_list_10 (tsw 2 (by decide) (fun j hj => by rcases (show j = 0 ∨ j = 1 ∨ j = 2 by omega) with rfl | rfl | rfl <;> assumption)) (by decide) ?_
            refine lv_aload_n hx hb dP_list_76 rfl (lv_at hl 0 rfl) ?_
            refine va_get (D := (dC, dI)) (ci := 0) (v := .ref h0) (C := RP) (T := TP) (N := 10) hx hb hts inP hown hK hP 0 rfl rfl 4 (by decide) (hts _ gw_103) (fun _ h9 => h9) rfl dP_list_77 ?_
            refine va_getN (D := (dC, dI)) (ci := 4) (v := .int rises) (C := RA) (T := TA) (N := 7) hx hb hts inA hown hK hP 1 rfl rfl 1 (by decide) (va_Nw.use rfl (hN _ nw_8 rfl)) (fun _ h9 => h9) rfl dP_list_80 ?_
            exact absurd (hx9.symm.trans (show xP_list tot pd gd kind rises total going width cf ct k = 0 from by unfold xP_list; rw [if_pos c_1, if_pos c_2, if_neg c_3, if_neg c_4, if_neg c_5])) (by decide)
    · skip
      exact absurd (hx9.symm.trans (show xP_list tot pd gd kind rises total going width cf ct k = 2 from by unfold xP_list; rw [if_pos c_1, if_neg c_2])) (by decide)
  · skip
    refine tw_runV (As := []) (rest := []) (C := RP) ⟨hx, hb, hml, hown, hts⟩ (t_P_requirePlan l dC dI p0 pT pR pS pF h0 pQ pG tot pd gd hfl c_1) ⟨cB 0 hts gw_373 gw_1 gw_371 ndP_requirePlan rfl rfl ⟨Nat.le_of_ble_eq_true rfl, Nat.le_of_ble_eq_true rfl⟩, hts _ gw_372, hts _ gw_750⟩ (tp_Tv hZ (fun _ _ => rfl) hN hK hP [0] [] rfl rfl (q0 := 0) (ci := 0) rfl rfl) rfl hl.1 rfl (Nat.le_of_ble_eq_true rfl) dP_list_1 ⟨Nat.le_of_ble_eq_true rfl, Nat.le_of_ble_eq_true rfl⟩ (fun x9 H9 hN9 => ?_)
    exact tw_leave hlocks hne hN9

set_option maxHeartbeats 4000000 in
set_option maxRecDepth 100000 in
theorem t_P_list_IOB (l : Launch) (dC : Nat → ClassId) (dI : Nat → Nat → Nat) (p0 : Nat) (pT : Nat) (pR : Nat) (pS : Nat) (pF : Nat) (h0 : Nat) (pQ : Nat) (pG : Nat) (tot : Int64) (pd : Bool) (gd : Bool) (kind : Int32) (rises : Int32) (total : Int64) (going : Int64) (width : Int64) (cf : Int32) (ct : Int32) (k : Int32) (hfl : l.stackTraces = false) (hx9 : xP_list tot pd gd kind rises total going width cf ct k = 2) : tw_Met l mP_list wP_list ({ frames := 7, cells := 1, slots := 6, locals := 103 }) (tp_T (dC, dI) vCl [.ref p0, .int k] [(p0, .inr (0, [.ref pT, .ref pR, .ref pS, .ref pF, .ref h0, .ref pQ, .ref pG, .long tot, .int (bI pd), .int (bI gd)])), (h0, .inr (4, [.int kind, .int rises, .long total, .long going, .long width, .int cf, .int ct]))] []) "java/lang/IndexOutOfBoundsException" := by
  refine tw_ofW (cc := bP_list) (maxL := 2) (ret := (some .int)) (by decide) rfl ?_
  intro p e s m args below meth c s₁ B hml hne hv
  obtain ⟨rfl, hP, hK, hN, hZ⟩ := hv
  have hx := B.exec
  have hb := B.bytes
  have hr := B.returns
  have hts : ∀ w ∈ gT, w.before _ s = true := fun w h => atoms_spec (ws := wP_list) B.pre w (List.mem_cons_of_mem _ h)
  have hown : s.vm.findClass RP = some m.cls := findClass_of_methodNamed B.named
  have hlocks := B.notSynchronized
  have hP : va_P (dC, dI) vCl [(p0, .inr (0, [.ref pT, .ref pR, .ref pS, .ref pF, .ref h0, .ref pQ, .ref pG, .long tot, .int (bI pd), .int (bI gd)])), (h0, .inr (4, [.int kind, .int rises, .long total, .long going, .long width, .int cf, .int ct]))] s.heap := hP
  have hl := lv_entry ([.ref p0, .int k]) (n := 2) (Nat.le_of_ble_eq_true rfl)
  rw [lg_entry_eq]
  generalize (lg_sl ([.ref p0, .int k]) ++ List.replicate (2 - (lg_sl ([.ref p0, .int k])).length) Slot.unset).toArray = ls at hl ⊢
  have hl : lv_has ls 2 [(0, .ref p0), (1, .int k)] := hl
  refine lv_aload_n hx hb dP_list_0 rfl (lv_at hl 0 rfl) ?_
  by_cases c_1 : xP_requirePlan tot pd gd = 0
  · skip
    refine tr_go (st1 := []) (va_runV (As := []) (rest := []) (C := RP) ⟨hx, hb, hml, hown, hts⟩ (c_P_requirePlan l dC dI p0 pT pR pS pF h0 pQ pG tot pd gd c_1) ⟨cB 0 hts gw_373 gw_1 gw_371 ndP_requirePlan rfl rfl ⟨Nat.le_of_ble_eq_true rfl, Nat.le_of_ble_eq_true rfl⟩, hts _ gw_372, hts _ gw_750⟩ (tp_Rv hN hK hP [0] [] rfl rfl (q0 := 0) (ci := 0) rfl rfl) rfl rfl hl.1 rfl (lv_room (Nat.le_of_ble_eq_true rfl)) dP_list_1 ⟨Nat.le_of_ble_eq_true rfl, Nat.le_of_ble_eq_true rfl⟩) rfl ?_
    refine lv_iload_n hx hb dP_list_4 rfl (lv_at hl 1 rfl) ?_
    refine lv_iconst (v := 4) hx hb dP_list_5 (by decide) ?_
    by_cases c_2 : xP_requireIndex k 4 = 0
    · skip
      refine tr_go (st1 := []) (va_runS (As := [.int k, .int 4]) (rest := []) ⟨hx, hb, hml, hown, hts⟩ (c_P_requireIndex l dC dI k 4 c_2) ⟨cB 2 hts gw_376 gw_1 gw_374 ndP_requireIndex rfl rfl ⟨Nat.le_of_ble_eq_true rfl, Nat.le_of_ble_eq_true rfl⟩, hts _ gw_375⟩ (tp_Rs hN hK hP [] [] rfl rfl) rfl rfl hl.1 rfl (lv_room (Nat.le_of_ble_eq_true rfl)) dP_list_6 ⟨Nat.le_of_ble_eq_true rfl, Nat.le_of_ble_eq_true rfl⟩) rfl ?_
      refine lv_iload_n hx hb dP_list_9 rfl (lv_at hl 1 rfl) ?_
      by_cases c_3 : k = 0
      · skip
        refine lv_tableIn (tgt := 36) hx hb dP_list_10 (by rw [c_3]; decide) (by rw [c_3]; decide) (by rw [c_3]; rfl) (by decide) ?_
        refine lv_aload_n hx hb dP_list_36 rfl (lv_at hl 0 rfl) ?_
        refine va_get (D := (dC, dI)) (ci := 0) (v := .ref h0) (C := RP) (T := TP) (N := 10) hx hb hts inP hown hK hP 0 rfl rfl 4 (by decide) (hts _ gw_103) (fun _ h9 => h9) rfl dP_list_37 ?_
        refine tr_go (st1 := [.int (fA_treads kind rises total going width cf ct)]) (va_runV (As := []) (rest := []) (C := RA) ⟨hx, hb, hml, hown, hts⟩ (c_A_treads l dC dI h0 kind rises total going width cf ct) ⟨cB 0 hts gw_334 gw_5 gw_397 ndA_treads rfl rfl ⟨Nat.le_of_ble_eq_true rfl, Nat.le_of_ble_eq_true rfl⟩, hts _ gw_332, hts _ gw_333⟩ (tp_Rv hN hK hP [1] [] rfl rfl (q0 := 1) (ci := 4) rfl rfl) rfl rfl hl.1 rfl (lv_room (Nat.le_of_ble_eq_true rfl)) dP_list_40 ⟨Nat.le_of_ble_eq_true rfl, Nat.le_of_ble_eq_true rfl⟩) rfl ?_
        refine lv_aload_n hx hb dP_list_43 rfl (lv_at hl 0 rfl) ?_
        refine va_get (D := (dC, dI)) (ci := 0) (v := .ref h0) (C := RP) (T := TP) (N := 10) hx hb hts inP hown hK hP 0 rfl rfl 4 (by decide) (hts _ gw_103) (fun _ h9 => h9) rfl dP_list_44 ?_
        refine tr_go (st1 := [.int (fA_landings kind rises total going width cf ct), .int (fA_treads kind rises total going width cf ct)]) (va_runV (As := []) (rest := [.int (fA_treads kind rises total going width cf ct)]) (C := RA) ⟨hx, hb, hml, hown, hts⟩ (c_A_landings l dC dI h0 kind rises total going width cf ct) ⟨cB 0 hts gw_339 gw_5 gw_566 ndA_landings rfl rfl ⟨Nat.le_of_ble_eq_true rfl, Nat.le_of_ble_eq_true rfl⟩, hts _ gw_337, hts _ gw_338⟩ (tp_Rv hN hK hP [1] [] rfl rfl (q0 := 1) (ci := 4) rfl rfl) rfl rfl hl.1 rfl (lv_room (Nat.le_of_ble_eq_true rfl)) dP_list_47 ⟨Nat.le_of_ble_eq_true rfl, Nat.le_of_ble_eq_true rfl⟩) rfl ?_
        refine lv_isub hx hb dP_list_50 ?_
        refine lv_aload_n hx hb dP_list_51 rfl (lv_at hl 0 rfl) ?_
        refine va_get (D := (dC, dI)) (ci := 0) (v := .ref h0) (C := RP) (T := TP) (N := 10) hx hb hts inP hown hK hP 0 rfl rfl 4 (by decide) (hts _ gw_103) (fun _ h9 => h9) rfl dP_list_52 ?_
        refine tr_go (st1 := [.int (fA_winders kind rises total going width cf ct), .int ((fA_treads kind rises total going width cf ct) - (fA_landings kind rises total going width cf ct))]) (va_runV (As := []) (rest := [.int ((fA_treads kind rises total going width cf ct) - (fA_landings kind rises total going width cf ct))]) (C := RA) ⟨hx, hb, hml, hown, hts⟩ (c_A_winders l dC dI h0 kind rises total going width cf ct) ⟨cB 0 hts gw_343 gw_5 gw_437 ndA_winders rfl rfl ⟨Nat.le_of_ble_eq_true rfl, Nat.le_of_ble_eq_true rfl⟩, hts _ gw_341, hts _ gw_342⟩ (tp_Rv hN hK hP [1] [] rfl rfl (q0 := 1) (ci := 4) rfl rfl) rfl rfl hl.1 rfl (lv_room (Nat.le_of_ble_eq_true rfl)) dP_list_55 ⟨Nat.le_of_ble_eq_true rfl, Nat.le_of_ble_eq_true rfl⟩) rfl ?_
        refine lv_isub hx hb dP_list_58 ?_
        exact absurd (hx9.symm.trans (show xP_list tot pd gd kind rises total going width cf ct k = 0 from by unfold xP_list; rw [if_pos c_1, if_pos c_2, if_pos c_3])) (by decide)
      · skip
        have ec_3 : ¬ k = nI 0 := c_3
        by_cases c_4 : k = 1
        · skip
          refine lv_tableIn (tgt := 60) hx hb dP_list_10 (by rw [c_4]; decide) (by rw [c_4]; decide) (by rw [c_4]; rfl) (by decide) ?_
          refine lv_aload_n hx hb dP_list_60 rfl (lv_at hl 0 rfl) ?_
          refine va_get (D := (dC, dI)) (ci := 0) (v := .ref h0) (C := RP) (T := TP) (N := 10) hx hb hts inP hown hK hP 0 rfl rfl 4 (by decide) (hts _ gw_103) (fun _ h9 => h9) rfl dP_list_61 ?_
          refine tr_go (st1 := [.int (fA_landings kind rises total going width cf ct)]) (va_runV (As := []) (rest := []) (C := RA) ⟨hx, hb, hml, hown, hts⟩ (c_A_landings l dC dI h0 kind rises total going width cf ct) ⟨cB 0 hts gw_339 gw_5 gw_566 ndA_landings rfl rfl ⟨Nat.le_of_ble_eq_true rfl, Nat.le_of_ble_eq_true rfl⟩, hts _ gw_337, hts _ gw_338⟩ (tp_Rv hN hK hP [1] [] rfl rfl (q0 := 1) (ci := 4) rfl rfl) rfl rfl hl.1 rfl (lv_room (Nat.le_of_ble_eq_true rfl)) dP_list_64 ⟨Nat.le_of_ble_eq_true rfl, Nat.le_of_ble_eq_true rfl⟩) rfl ?_
          exact absurd (hx9.symm.trans (show xP_list tot pd gd kind rises total going width cf ct k = 0 from by unfold xP_list; rw [if_pos c_1, if_pos c_2, if_neg c_3, if_pos c_4])) (by decide)
        · skip
          have ec_4 : ¬ k = nI 1 := c_4
          by_cases c_5 : k = 2
          · skip
            refine lv_tableIn (tgt := 68) hx hb dP_list_10 (by rw [c_5]; decide) (by rw [c_5]; decide) (by rw [c_5]; rfl) (by decide) ?_
            refine lv_aload_n hx hb dP_list_68 rfl (lv_at hl 0 rfl) ?_
            refine va_get (D := (dC, dI)) (ci := 0) (v := .ref h0) (C := RP) (T := TP) (N := 10) hx hb hts inP hown hK hP 0 rfl rfl 4 (by decide) (hts _ gw_103) (fun _ h9 => h9) rfl dP_list_69 ?_
            refine tr_go (st1 := [.int (fA_winders kind rises total going width cf ct)]) (va_runV (As := []) (rest := []) (C := RA) ⟨hx, hb, hml, hown, hts⟩ (c_A_winders l dC dI h0 kind rises total going width cf ct) ⟨cB 0 hts gw_343 gw_5 gw_437 ndA_winders rfl rfl ⟨Nat.le_of_ble_eq_true rfl, Nat.le_of_ble_eq_true rfl⟩, hts _ gw_341, hts _ gw_342⟩ (tp_Rv hN hK hP [1] [] rfl rfl (q0 := 1) (ci := 4) rfl rfl) rfl rfl hl.1 rfl (lv_room (Nat.le_of_ble_eq_true rfl)) dP_list_72 ⟨Nat.le_of_ble_eq_true rfl, Nat.le_of_ble_eq_true rfl⟩) rfl ?_
            exact absurd (hx9.symm.trans (show xP_list tot pd gd kind rises total going width cf ct k = 0 from by unfold xP_list; rw [if_pos c_1, if_pos c_2, if_neg c_3, if_neg c_4, if_pos c_5])) (by decide)
          · skip
            have ec_5 : ¬ k = nI 2 := c_5
            refine lv_tableOut (tgt := 76) hx hb dP_list_10 (tsw 2 (by decide) (fun j hj => by rcases (show j = 0 ∨ j = 1 ∨ j = 2 by omega) with rfl | rfl | rfl <;> assumption)) (by decide) ?_
            refine lv_aload_n hx hb dP_list_76 rfl (lv_at hl 0 rfl) ?_
            refine va_get (D := (dC, dI)) (ci := 0) (v := .ref h0) (C := RP) (T := TP) (N := 10) hx hb hts inP hown hK hP 0 rfl rfl 4 (by decide) (hts _ gw_103) (fun _ h9 => h9) rfl dP_list_77 ?_
            refine va_getN (D := (dC, dI)) (ci := 4) (v := .int rises) (C := RA) (T := TA) (N := 7) hx hb hts inA hown hK hP 1 rfl rfl 1 (by decide) (va_Nw.use rfl (hN _ nw_8 rfl)) (fun _ h9 => h9) rfl dP_list_80 ?_
            exact absurd (hx9.symm.trans (show xP_list tot pd gd kind rises total going width cf ct k = 0 from by unfold xP_list; rw [if_pos c_1, if_pos c_2, if_neg c_3, if_neg c_4, if_neg c_5])) (by decide)
    · skip
      refine tw_runS (As := [.int k, .int 4]) (rest := []) ⟨hx, hb, hml, hown, hts⟩ (t_P_requireIndex l dC dI k 4 hfl c_2) ⟨cB 2 hts gw_376 gw_1 gw_374 ndP_requireIndex rfl rfl ⟨Nat.le_of_ble_eq_true rfl, Nat.le_of_ble_eq_true rfl⟩, hts _ gw_375⟩ (tp_Ts hZ (fun _ _ => rfl) hN hK hP [] [] rfl rfl) rfl hl.1 rfl (Nat.le_of_ble_eq_true rfl) dP_list_6 ⟨Nat.le_of_ble_eq_true rfl, Nat.le_of_ble_eq_true rfl⟩ (fun x9 H9 hN9 => ?_)
      exact tw_leave hlocks hne hN9
  · skip
    exact absurd (hx9.symm.trans (show xP_list tot pd gd kind rises total going width cf ct k = 1 from by unfold xP_list; rw [if_neg c_1])) (by decide)

def xP_headRoom (tot : Int64) (pd : Bool) (gd : Bool) (x0 : Nat → Int64) (y0 : Nat → Int64) (x1 : Nat → Int64) (y1 : Nat → Int64) (hh : Nat → Int64) (fc : Nat) (kind : Int32) (rises : Int32) (total : Int64) (going : Int64) (width : Int64) (cf : Int32) (ct : Int32) (tr : Nat) : Nat := if xP_requirePlan tot pd gd = 0 then 0 else 1

def fP_headRoom (tot : Int64) (pd : Bool) (gd : Bool) (x0 : Nat → Int64) (y0 : Nat → Int64) (x1 : Nat → Int64) (y1 : Nat → Int64) (hh : Nat → Int64) (fc : Nat) (kind : Int32) (rises : Int32) (total : Int64) (going : Int64) (width : Int64) (cf : Int32) (ct : Int32) (tr : Nat) : Int64 := if xP_requirePlan tot pd gd = 0 then (fF_least x0 y0 x1 y1 hh fc kind rises total going width cf ct tr) else 0
set_option maxHeartbeats 4000000 in
set_option maxRecDepth 100000 in
theorem c_P_headRoom (l : Launch) (dC : Nat → ClassId) (dI : Nat → Nat → Nat) (p0 : Nat) (pT : Nat) (pR : Nat) (pS : Nat) (pF : Nat) (h0 : Nat) (pQ : Nat) (pG : Nat) (tot : Int64) (pd : Bool) (gd : Bool) (b1 : Nat) (b2 : Nat) (b3 : Nat) (b4 : Nat) (b5 : Nat) (d1 : ClassId) (d2 : ClassId) (d3 : ClassId) (d4 : ClassId) (d5 : ClassId) (x0 : Nat → Int64) (y0 : Nat → Int64) (x1 : Nat → Int64) (y1 : Nat → Int64) (hh : Nat → Int64) (fc : Nat) (kind : Int32) (rises : Int32) (total : Int64) (going : Int64) (width : Int64) (cf : Int32) (ct : Int32) (tr : Nat) (hf : fc ≤ 8) (ht : tr ≤ 60) (hr0 : rises - 1 = nI tr) (hx9 : xP_headRoom tot pd gd x0 y0 x1 y1 hh fc kind rises total going width cf ct tr = 0) : Met l mP_headRoom wP_headRoom ({ frames := 5, cells := 0, slots := 0, locals := 111 }) (tp_R (dC, dI) vCl [.ref p0] [(p0, .inr (0, [.ref pT, .ref pR, .ref pS, .ref pF, .ref h0, .ref pQ, .ref pG, .long tot, .int (bI pd), .int (bI gd)])), (pF, .inr (3, [.ref b1, .ref b2, .ref b3, .ref b4, .ref b5, .int (nI fc)])), (b1, .inl (d1, 8, .inr (.inl x0))), (b2, .inl (d2, 8, .inr (.inl y0))), (b3, .inl (d3, 8, .inr (.inl x1))), (b4, .inl (d4, 8, .inr (.inl y1))), (b5, .inl (d5, 8, .inr (.inl hh))), (h0, .inr (4, [.int kind, .int rises, .long total, .long going, .long width, .int cf, .int ct]))] [(d1, .long), (d2, .long), (d3, .long), (d4, .long), (d5, .long)]) (tq_R (some (.long (fP_headRoom tot pd gd x0 y0 x1 y1 hh fc kind rises total going width cf ct tr)))) 0 0 (fun _ => False) := by
  refine Met.ofW (cc := bP_headRoom) (maxL := 1) (ret := (some .long)) (by decide) rfl ?_
  intro p e s m args below meth c s₁ B hml hv
  obtain ⟨rfl, hP, hK, hN⟩ := hv
  have hx := B.exec
  have hb := B.bytes
  have hr := B.returns
  have hts : ∀ w ∈ gT, w.before _ s = true := fun w h => atoms_spec (ws := wP_headRoom) B.pre w (List.mem_cons_of_mem _ h)
  have hown : s.vm.findClass RP = some m.cls := findClass_of_methodNamed B.named
  have hlocks := B.notSynchronized
  have hP : va_P (dC, dI) vCl [(p0, .inr (0, [.ref pT, .ref pR, .ref pS, .ref pF, .ref h0, .ref pQ, .ref pG, .long tot, .int (bI pd), .int (bI gd)])), (pF, .inr (3, [.ref b1, .ref b2, .ref b3, .ref b4, .ref b5, .int (nI fc)])), (b1, .inl (d1, 8, .inr (.inl x0))), (b2, .inl (d2, 8, .inr (.inl y0))), (b3, .inl (d3, 8, .inr (.inl x1))), (b4, .inl (d4, 8, .inr (.inl y1))), (b5, .inl (d5, 8, .inr (.inl hh))), (h0, .inr (4, [.int kind, .int rises, .long total, .long going, .long width, .int cf, .int ct]))] s.heap := hP
  have hl := lv_entry ([.ref p0]) (n := 1) (Nat.le_of_ble_eq_true rfl)
  rw [lg_entry_eq]
  generalize (lg_sl ([.ref p0]) ++ List.replicate (1 - (lg_sl ([.ref p0])).length) Slot.unset).toArray = ls at hl ⊢
  have hl : lv_has ls 1 [(0, .ref p0)] := hl
  refine lv_aload_n hx hb dP_headRoom_0 rfl (lv_at hl 0 rfl) ?_
  by_cases c_1 : xP_requirePlan tot pd gd = 0
  · skip
    refine tr_go (st1 := []) (va_runV (As := []) (rest := []) (C := RP) ⟨hx, hb, hml, hown, hts⟩ (c_P_requirePlan l dC dI p0 pT pR pS pF h0 pQ pG tot pd gd c_1) ⟨cB 0 hts gw_373 gw_1 gw_371 ndP_requirePlan rfl rfl ⟨Nat.le_of_ble_eq_true rfl, Nat.le_of_ble_eq_true rfl⟩, hts _ gw_372, hts _ gw_750⟩ (tp_Rv hN hK hP [0] [] rfl rfl (q0 := 0) (ci := 0) rfl rfl) rfl rfl hl.1 rfl (lv_room (Nat.le_of_ble_eq_true rfl)) dP_headRoom_1 ⟨Nat.le_of_ble_eq_true rfl, Nat.le_of_ble_eq_true rfl⟩) rfl ?_
    refine lv_aload_n hx hb dP_headRoom_4 rfl (lv_at hl 0 rfl) ?_
    refine va_get (D := (dC, dI)) (ci := 0) (v := .ref pF) (C := RP) (T := TP) (N := 10) hx hb hts inP hown hK hP 0 rfl rfl 3 (by decide) (hts _ gw_102) (fun _ h9 => h9) rfl dP_headRoom_5 ?_
    refine lv_aload_n hx hb dP_headRoom_8 rfl (lv_at hl 0 rfl) ?_
    refine va_get (D := (dC, dI)) (ci := 0) (v := .ref h0) (C := RP) (T := TP) (N := 10) hx hb hts inP hown hK hP 0 rfl rfl 4 (by decide) (hts _ gw_103) (fun _ h9 => h9) rfl dP_headRoom_9 ?_
    refine tr_go (st1 := [.long (fF_least x0 y0 x1 y1 hh fc kind rises total going width cf ct tr)]) (va_runV (As := [.ref h0]) (rest := []) (C := RF) ⟨hx, hb, hml, hown, hts⟩ (c_F_least l dC dI pF b1 b2 b3 b4 b5 d1 d2 d3 d4 d5 x0 y0 x1 y1 hh fc h0 kind rises total going width cf ct tr (by assumption) (by assumption) (by assumption)) ⟨cB 1 hts gw_502 gw_4 gw_499 ndF_leastRoomTimesRises rfl rfl ⟨Nat.le_of_ble_eq_true rfl, Nat.le_of_ble_eq_true rfl⟩, hts _ gw_500, hts _ gw_501⟩ (tp_Rv hN hK hP [1, 2, 3, 4, 5, 6, 7] [0, 1, 2, 3, 4] rfl rfl (q0 := 1) (ci := 3) rfl rfl) rfl rfl hl.1 rfl (lv_room (Nat.le_of_ble_eq_true rfl)) dP_headRoom_12 ⟨Nat.le_of_ble_eq_true rfl, Nat.le_of_ble_eq_true rfl⟩) rfl ?_
    exact W.lret (v := fF_least x0 y0 x1 y1 hh fc kind rises total going width cf ct tr) hx hb hr (fun t ht hW => ⟨by rw [show fP_headRoom tot pd gd x0 y0 x1 y1 hh fc kind rises total going width cf ct tr = fF_least x0 y0 x1 y1 hh fc kind rises total going width cf ct tr from by unfold fP_headRoom; rw [if_pos c_1]], ht⟩) (fun q h => by cases h) dP_headRoom_15
  · skip
    exact absurd (hx9.symm.trans (show xP_headRoom tot pd gd x0 y0 x1 y1 hh fc kind rises total going width cf ct tr = 1 from by unfold xP_headRoom; rw [if_neg c_1])) (by decide)

set_option maxHeartbeats 4000000 in
set_option maxRecDepth 100000 in
theorem t_P_headRoom_ISE (l : Launch) (dC : Nat → ClassId) (dI : Nat → Nat → Nat) (p0 : Nat) (pT : Nat) (pR : Nat) (pS : Nat) (pF : Nat) (h0 : Nat) (pQ : Nat) (pG : Nat) (tot : Int64) (pd : Bool) (gd : Bool) (b1 : Nat) (b2 : Nat) (b3 : Nat) (b4 : Nat) (b5 : Nat) (d1 : ClassId) (d2 : ClassId) (d3 : ClassId) (d4 : ClassId) (d5 : ClassId) (x0 : Nat → Int64) (y0 : Nat → Int64) (x1 : Nat → Int64) (y1 : Nat → Int64) (hh : Nat → Int64) (fc : Nat) (kind : Int32) (rises : Int32) (total : Int64) (going : Int64) (width : Int64) (cf : Int32) (ct : Int32) (tr : Nat) (hf : fc ≤ 8) (ht : tr ≤ 60) (hr0 : rises - 1 = nI tr) (hfl : l.stackTraces = false) (hx9 : xP_headRoom tot pd gd x0 y0 x1 y1 hh fc kind rises total going width cf ct tr = 1) : tw_Met l mP_headRoom wP_headRoom ({ frames := 7, cells := 1, slots := 6, locals := 111 }) (tp_T (dC, dI) vCl [.ref p0] [(p0, .inr (0, [.ref pT, .ref pR, .ref pS, .ref pF, .ref h0, .ref pQ, .ref pG, .long tot, .int (bI pd), .int (bI gd)])), (pF, .inr (3, [.ref b1, .ref b2, .ref b3, .ref b4, .ref b5, .int (nI fc)])), (b1, .inl (d1, 8, .inr (.inl x0))), (b2, .inl (d2, 8, .inr (.inl y0))), (b3, .inl (d3, 8, .inr (.inl x1))), (b4, .inl (d4, 8, .inr (.inl y1))), (b5, .inl (d5, 8, .inr (.inl hh))), (h0, .inr (4, [.int kind, .int rises, .long total, .long going, .long width, .int cf, .int ct]))] [(d1, .long), (d2, .long), (d3, .long), (d4, .long), (d5, .long)]) "java/lang/IllegalStateException" := by
  refine tw_ofW (cc := bP_headRoom) (maxL := 1) (ret := (some .long)) (by decide) rfl ?_
  intro p e s m args below meth c s₁ B hml hne hv
  obtain ⟨rfl, hP, hK, hN, hZ⟩ := hv
  have hx := B.exec
  have hb := B.bytes
  have hr := B.returns
  have hts : ∀ w ∈ gT, w.before _ s = true := fun w h => atoms_spec (ws := wP_headRoom) B.pre w (List.mem_cons_of_mem _ h)
  have hown : s.vm.findClass RP = some m.cls := findClass_of_methodNamed B.named
  have hlocks := B.notSynchronized
  have hP : va_P (dC, dI) vCl [(p0, .inr (0, [.ref pT, .ref pR, .ref pS, .ref pF, .ref h0, .ref pQ, .ref pG, .long tot, .int (bI pd), .int (bI gd)])), (pF, .inr (3, [.ref b1, .ref b2, .ref b3, .ref b4, .ref b5, .int (nI fc)])), (b1, .inl (d1, 8, .inr (.inl x0))), (b2, .inl (d2, 8, .inr (.inl y0))), (b3, .inl (d3, 8, .inr (.inl x1))), (b4, .inl (d4, 8, .inr (.inl y1))), (b5, .inl (d5, 8, .inr (.inl hh))), (h0, .inr (4, [.int kind, .int rises, .long total, .long going, .long width, .int cf, .int ct]))] s.heap := hP
  have hl := lv_entry ([.ref p0]) (n := 1) (Nat.le_of_ble_eq_true rfl)
  rw [lg_entry_eq]
  generalize (lg_sl ([.ref p0]) ++ List.replicate (1 - (lg_sl ([.ref p0])).length) Slot.unset).toArray = ls at hl ⊢
  have hl : lv_has ls 1 [(0, .ref p0)] := hl
  refine lv_aload_n hx hb dP_headRoom_0 rfl (lv_at hl 0 rfl) ?_
  by_cases c_1 : xP_requirePlan tot pd gd = 0
  · skip
    refine tr_go (st1 := []) (va_runV (As := []) (rest := []) (C := RP) ⟨hx, hb, hml, hown, hts⟩ (c_P_requirePlan l dC dI p0 pT pR pS pF h0 pQ pG tot pd gd c_1) ⟨cB 0 hts gw_373 gw_1 gw_371 ndP_requirePlan rfl rfl ⟨Nat.le_of_ble_eq_true rfl, Nat.le_of_ble_eq_true rfl⟩, hts _ gw_372, hts _ gw_750⟩ (tp_Rv hN hK hP [0] [] rfl rfl (q0 := 0) (ci := 0) rfl rfl) rfl rfl hl.1 rfl (lv_room (Nat.le_of_ble_eq_true rfl)) dP_headRoom_1 ⟨Nat.le_of_ble_eq_true rfl, Nat.le_of_ble_eq_true rfl⟩) rfl ?_
    refine lv_aload_n hx hb dP_headRoom_4 rfl (lv_at hl 0 rfl) ?_
    refine va_get (D := (dC, dI)) (ci := 0) (v := .ref pF) (C := RP) (T := TP) (N := 10) hx hb hts inP hown hK hP 0 rfl rfl 3 (by decide) (hts _ gw_102) (fun _ h9 => h9) rfl dP_headRoom_5 ?_
    refine lv_aload_n hx hb dP_headRoom_8 rfl (lv_at hl 0 rfl) ?_
    refine va_get (D := (dC, dI)) (ci := 0) (v := .ref h0) (C := RP) (T := TP) (N := 10) hx hb hts inP hown hK hP 0 rfl rfl 4 (by decide) (hts _ gw_103) (fun _ h9 => h9) rfl dP_headRoom_9 ?_
    refine tr_go (st1 := [.long (fF_least x0 y0 x1 y1 hh fc kind rises total going width cf ct tr)]) (va_runV (As := [.ref h0]) (rest := []) (C := RF) ⟨hx, hb, hml, hown, hts⟩ (c_F_least l dC dI pF b1 b2 b3 b4 b5 d1 d2 d3 d4 d5 x0 y0 x1 y1 hh fc h0 kind rises total going width cf ct tr (by assumption) (by assumption) (by assumption)) ⟨cB 1 hts gw_502 gw_4 gw_499 ndF_leastRoomTimesRises rfl rfl ⟨Nat.le_of_ble_eq_true rfl, Nat.le_of_ble_eq_true rfl⟩, hts _ gw_500, hts _ gw_501⟩ (tp_Rv hN hK hP [1, 2, 3, 4, 5, 6, 7] [0, 1, 2, 3, 4] rfl rfl (q0 := 1) (ci := 3) rfl rfl) rfl rfl hl.1 rfl (lv_room (Nat.le_of_ble_eq_true rfl)) dP_headRoom_12 ⟨Nat.le_of_ble_eq_true rfl, Nat.le_of_ble_eq_true rfl⟩) rfl ?_
    exact absurd (hx9.symm.trans (show xP_headRoom tot pd gd x0 y0 x1 y1 hh fc kind rises total going width cf ct tr = 0 from by unfold xP_headRoom; rw [if_pos c_1])) (by decide)
  · skip
    refine tw_runV (As := []) (rest := []) (C := RP) ⟨hx, hb, hml, hown, hts⟩ (t_P_requirePlan l dC dI p0 pT pR pS pF h0 pQ pG tot pd gd hfl c_1) ⟨cB 0 hts gw_373 gw_1 gw_371 ndP_requirePlan rfl rfl ⟨Nat.le_of_ble_eq_true rfl, Nat.le_of_ble_eq_true rfl⟩, hts _ gw_372, hts _ gw_750⟩ (tp_Tv hZ (fun _ _ => rfl) hN hK hP [0] [] rfl rfl (q0 := 0) (ci := 0) rfl rfl) rfl hl.1 rfl (Nat.le_of_ble_eq_true rfl) dP_headRoom_1 ⟨Nat.le_of_ble_eq_true rfl, Nat.le_of_ble_eq_true rfl⟩ (fun x9 H9 hN9 => ?_)
    exact tw_leave hlocks hne hN9
