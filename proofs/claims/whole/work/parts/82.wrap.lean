def fL_heights_a1 (tot : Int64) (pd : Bool) (gd : Bool) (v : Int64) (fo : Nat → Int64) : Nat → Int64 := if (fP_heights tot pd gd v) = true then (vp_updL fo (0 : Int32).toNatClampNeg 1) else (vp_updL fo (0 : Int32).toNatClampNeg 0)
def fL_heights (tot : Int64) (pd : Bool) (gd : Bool) (v : Int64) (fo : Nat → Int64) : Int32 := 0
set_option maxHeartbeats 1500000 in
set_option maxRecDepth 100000 in
theorem c_L_heights (l : Launch) (dC : Nat → ClassId) (dI : Nat → Nat → Nat) (p0 : Nat) (pT : Nat) (pR : Nat) (pS : Nat) (pF : Nat) (h0 : Nat) (pQ : Nat) (pG : Nat) (tot : Int64) (pd : Bool) (gd : Bool) (v : Int64) (aO : Nat) (cO : ClassId) (fo : Nat → Int64) (hx9 : xP_heights tot pd gd v = 0) : Met l mL_heights wL_heights ({ frames := 2, cells := 0, slots := 0, locals := 42 }) (tp_W (dC, dI) vCl [.ref p0, .long v, .ref aO] [(p0, .inr (0, [.ref pT, .ref pR, .ref pS, .ref pF, .ref h0, .ref pQ, .ref pG, .long tot, .int (bI pd), .int (bI gd)])), (aO, .inl (cO, 1, .inr (.inl fo)))] [(cO, .long)]) (tq_W (dC, dI) vCl (some (.int (fL_heights tot pd gd v fo))) [(p0, .inr (0, [.ref pT, .ref pR, .ref pS, .ref pF, .ref h0, .ref pQ, .ref pG, .long tot, .int (bI pd), .int (bI gd)])), (aO, .inl (cO, 1, .inr (.inl fo)))] [(p0, .inr (0, [.ref pT, .ref pR, .ref pS, .ref pF, .ref h0, .ref pQ, .ref pG, .long (fP_heights_c0f7 tot pd gd v), .int (bI (fP_heights_c0f8 tot pd gd v)), .int (bI (fP_heights_c0f9 tot pd gd v))])), (aO, .inl (cO, 1, .inr (.inl (fL_heights_a1 tot pd gd v fo))))]) 0 0 (tA [(p0, .inr (0, [.ref pT, .ref pR, .ref pS, .ref pF, .ref h0, .ref pQ, .ref pG, .long tot, .int (bI pd), .int (bI gd)])), (aO, .inl (cO, 1, .inr (.inl fo)))]) := by
  refine va_MetW (cc := bL_heights) (maxL := 5) (ret := (some .int)) (hh := [(0, 16, 19, 13)]) (by decide) rfl ?_
  intro p e s m args below meth c s₁ B hml hv
  obtain ⟨rfl, hP, hK, hN, hD0⟩ := hv
  have hx := B.exec
  have hb := B.bytes
  have hr := B.returns
  have hts : ∀ w ∈ gT, w.before _ s = true := fun w h => atoms_spec (ws := wL_heights) B.pre w (List.mem_cons_of_mem _ h)
  have hown : s.vm.findClass RL = some m.cls := findClass_of_methodNamed B.named
  have hlocks := B.notSynchronized
  have hD := tA_D hD0
  generalize hAe : tA [(p0, .inr (0, [.ref pT, .ref pR, .ref pS, .ref pF, .ref h0, .ref pQ, .ref pG, .long tot, .int (bI pd), .int (bI gd)])), (aO, .inl (cO, 1, .inr (.inl fo)))] = A at hD ⊢
  have hS : va_S A s.heap s.heap [] := va_S.rf
  have hP : va_P (dC, dI) vCl [(p0, .inr (0, [.ref pT, .ref pR, .ref pS, .ref pF, .ref h0, .ref pQ, .ref pG, .long tot, .int (bI pd), .int (bI gd)])), (aO, .inl (cO, 1, .inr (.inl fo)))] s.heap := hP
  have hl := lv_entry ([.ref p0, .long v, .ref aO]) (n := 5) (Nat.le_of_ble_eq_true rfl)
  rw [lg_entry_eq]
  generalize (lg_sl ([.ref p0, .long v, .ref aO]) ++ List.replicate (5 - (lg_sl ([.ref p0, .long v, .ref aO])).length) Slot.unset).toArray = ls at hl ⊢
  have hl : lv_has ls 5 [(0, .ref p0), (1, .long v), (3, .ref aO)] := hl
  refine lv_aload_n hx hb dL_heights_0 rfl (lv_at hl 2 rfl) ?_
  refine lv_iconst (v := 0) hx hb dL_heights_1 (by decide) ?_
  refine lv_aload_n hx hb dL_heights_2 rfl (lv_at hl 0 rfl) ?_
  refine lv_lload_n hx hb dL_heights_3 rfl (lv_at hl 1 rfl) ?_
  refine tc_go (st1 := [.int (bI (fP_heights tot pd gd v)), .int 0, .ref aO]) (ws' := [(p0, .inr (0, [.ref pT, .ref pR, .ref pS, .ref pF, .ref h0, .ref pQ, .ref pG, .long (fP_heights_c0f7 tot pd gd v), .int (bI (fP_heights_c0f8 tot pd gd v)), .int (bI (fP_heights_c0f9 tot pd gd v))])), (aO, .inl (cO, 1, .inr (.inl fo)))]) (va_runV (As := [.long v]) (rest := [.int 0, .ref aO]) (C := RP) ⟨hx, hb, hml, hown, hts⟩ (c_P_heights l dC dI p0 pT pR pS pF h0 pQ pG tot pd gd v hx9) ⟨cB 1 hts gw_248 gw_1 gw_245 ndP_heights rfl rfl ⟨Nat.le_of_ble_eq_true rfl, Nat.le_of_ble_eq_true rfl⟩, hts _ gw_246, hts _ gw_247⟩ (tp_Wv hN hK hP hD [0] [] rfl (by decide) rfl (q0 := 0) (ci := 0) rfl rfl) rfl rfl hl.1 rfl (lv_room (Nat.le_of_ble_eq_true rfl)) dL_heights_4 ⟨Nat.le_of_ble_eq_true rfl, Nat.le_of_ble_eq_true rfl⟩) rfl hP hD hS [0] rfl (show [p0] = [p0] from rfl) rfl (fun H locs hP hD hS => ?_)
  have hP : va_P (dC, dI) vCl [(p0, .inr (0, [.ref pT, .ref pR, .ref pS, .ref pF, .ref h0, .ref pQ, .ref pG, .long (fP_heights_c0f7 tot pd gd v), .int (bI (fP_heights_c0f8 tot pd gd v)), .int (bI (fP_heights_c0f9 tot pd gd v))])), (aO, .inl (cO, 1, .inr (.inl fo)))] H := hP
  have hD : va_D A [(p0, .inr (0, [.ref pT, .ref pR, .ref pS, .ref pF, .ref h0, .ref pQ, .ref pG, .long (fP_heights_c0f7 tot pd gd v), .int (bI (fP_heights_c0f8 tot pd gd v)), .int (bI (fP_heights_c0f9 tot pd gd v))])), (aO, .inl (cO, 1, .inr (.inl fo)))] := hD
  refine tb_ifeq (tgt := 14) hx hb dL_heights_7 (by decide) (fun c_1 => ?_) (fun c_1 => ?_)
  · skip
    refine lv_lconst (v := 0) hx hb dL_heights_14 (by decide) ?_
    have b_2 : vp_in 0 1 := vp_in_nI (n := 0) (N := 1) (by decide) (by decide)
    refine va_last hx hb hK hP hD hS 1 0 rfl rfl b_2 dL_heights_15 (fun H locs hP hD hS => ?_)
    have hP : va_P (dC, dI) vCl [(p0, .inr (0, [.ref pT, .ref pR, .ref pS, .ref pF, .ref h0, .ref pQ, .ref pG, .long (fP_heights_c0f7 tot pd gd v), .int (bI (fP_heights_c0f8 tot pd gd v)), .int (bI (fP_heights_c0f9 tot pd gd v))])), (aO, .inl (cO, 1, .inr (.inl (vp_updL fo (0 : Int32).toNatClampNeg 0))))] H := hP
    have hD : va_D A [(p0, .inr (0, [.ref pT, .ref pR, .ref pS, .ref pF, .ref h0, .ref pQ, .ref pG, .long (fP_heights_c0f7 tot pd gd v), .int (bI (fP_heights_c0f8 tot pd gd v)), .int (bI (fP_heights_c0f9 tot pd gd v))])), (aO, .inl (cO, 1, .inr (.inl (vp_updL fo (0 : Int32).toNatClampNeg 0))))] := hD
    refine lv_goto (tgt := 23) hx hb dL_heights_16 (by decide) ?_
    refine lv_iconst (v := 0) hx hb dL_heights_23 (by decide) ?_
    exact W.iret (v := 0) hx hb hr (fun t ht hW => ⟨by rw [show fL_heights tot pd gd v fo = 0 from by unfold fL_heights; rfl], by rw [ht, show fL_heights_a1 tot pd gd v fo = vp_updL fo (0 : Int32).toNatClampNeg 0 from by unfold fL_heights_a1; rw [if_neg (Bool.eq_false_iff.mp c_1)]]; exact hP, by rw [hAe]; exact hS.F ht⟩) hS.2.2 dL_heights_24
  · skip
    refine lv_lconst (v := 1) hx hb dL_heights_10 (by decide) ?_
    refine lv_goto (tgt := 15) hx hb dL_heights_11 (by decide) ?_
    have b_3 : vp_in 0 1 := vp_in_nI (n := 0) (N := 1) (by decide) (by decide)
    refine va_last hx hb hK hP hD hS 1 0 rfl rfl b_3 dL_heights_15 (fun H locs hP hD hS => ?_)
    have hP : va_P (dC, dI) vCl [(p0, .inr (0, [.ref pT, .ref pR, .ref pS, .ref pF, .ref h0, .ref pQ, .ref pG, .long (fP_heights_c0f7 tot pd gd v), .int (bI (fP_heights_c0f8 tot pd gd v)), .int (bI (fP_heights_c0f9 tot pd gd v))])), (aO, .inl (cO, 1, .inr (.inl (vp_updL fo (0 : Int32).toNatClampNeg 1))))] H := hP
    have hD : va_D A [(p0, .inr (0, [.ref pT, .ref pR, .ref pS, .ref pF, .ref h0, .ref pQ, .ref pG, .long (fP_heights_c0f7 tot pd gd v), .int (bI (fP_heights_c0f8 tot pd gd v)), .int (bI (fP_heights_c0f9 tot pd gd v))])), (aO, .inl (cO, 1, .inr (.inl (vp_updL fo (0 : Int32).toNatClampNeg 1))))] := hD
    refine lv_goto (tgt := 23) hx hb dL_heights_16 (by decide) ?_
    refine lv_iconst (v := 0) hx hb dL_heights_23 (by decide) ?_
    exact W.iret (v := 0) hx hb hr (fun t ht hW => ⟨by rw [show fL_heights tot pd gd v fo = 0 from by unfold fL_heights; rfl], by rw [ht, show fL_heights_a1 tot pd gd v fo = vp_updL fo (0 : Int32).toNatClampNeg 1 from by unfold fL_heights_a1; rw [if_pos c_1]]; exact hP, by rw [hAe]; exact hS.F ht⟩) hS.2.2 dL_heights_24

set_option maxHeartbeats 1500000 in
set_option maxRecDepth 100000 in
theorem c_L_heights_IAE (l : Launch) (dC : Nat → ClassId) (dI : Nat → Nat → Nat) (p0 : Nat) (pT : Nat) (pR : Nat) (pS : Nat) (pF : Nat) (h0 : Nat) (pQ : Nat) (pG : Nat) (tot : Int64) (pd : Bool) (gd : Bool) (v : Int64) (aO : Nat) (cO : ClassId) (fo : Nat → Int64) (hfl : l.stackTraces = false) (hx9 : xP_heights tot pd gd v = 1) : Met l mL_heights wL_heights ({ frames := 7, cells := 1, slots := 6, locals := 104 }) (tp_E (dC, dI) vCl [.ref p0, .long v, .ref aO] [(p0, .inr (0, [.ref pT, .ref pR, .ref pS, .ref pF, .ref h0, .ref pQ, .ref pG, .long tot, .int (bI pd), .int (bI gd)])), (aO, .inl (cO, 1, .inr (.inl fo)))] [(cO, .long)]) (tq_E (some (.int 1))) 1 6 (fun _ => False) := by
  refine va_MetW (cc := bL_heights) (maxL := 5) (ret := (some .int)) (hh := [(0, 16, 19, 13)]) (by decide) rfl ?_
  intro p e s m args below meth c s₁ B hml hv
  obtain ⟨rfl, hP, hK, hN, hZ, hC⟩ := hv
  have hx := B.exec
  have hb := B.bytes
  have hr := B.returns
  have hts : ∀ w ∈ gT, w.before _ s = true := fun w h => atoms_spec (ws := wL_heights) B.pre w (List.mem_cons_of_mem _ h)
  have hown : s.vm.findClass RL = some m.cls := findClass_of_methodNamed B.named
  have hP : va_P (dC, dI) vCl [(p0, .inr (0, [.ref pT, .ref pR, .ref pS, .ref pF, .ref h0, .ref pQ, .ref pG, .long tot, .int (bI pd), .int (bI gd)])), (aO, .inl (cO, 1, .inr (.inl fo)))] s.heap := hP
  have hl := lv_entry ([.ref p0, .long v, .ref aO]) (n := 5) (Nat.le_of_ble_eq_true rfl)
  rw [lg_entry_eq]
  generalize (lg_sl ([.ref p0, .long v, .ref aO]) ++ List.replicate (5 - (lg_sl ([.ref p0, .long v, .ref aO])).length) Slot.unset).toArray = ls at hl ⊢
  have hl : lv_has ls 5 [(0, .ref p0), (1, .long v), (3, .ref aO)] := hl
  refine lv_aload_n hx hb dL_heights_0 rfl (lv_at hl 2 rfl) ?_
  refine lv_iconst (v := 0) hx hb dL_heights_1 (by decide) ?_
  refine lv_aload_n hx hb dL_heights_2 rfl (lv_at hl 0 rfl) ?_
  refine lv_lload_n hx hb dL_heights_3 rfl (lv_at hl 1 rfl) ?_
  refine tw_runV (As := [.long v]) (rest := [.int 0, .ref aO]) (C := RP) ⟨hx, hb, hml, hown, hts⟩ (t_P_heights_IAE l dC dI p0 pT pR pS pF h0 pQ pG tot pd gd v hfl hx9) ⟨cB 1 hts gw_248 gw_1 gw_245 ndP_heights rfl rfl ⟨Nat.le_of_ble_eq_true rfl, Nat.le_of_ble_eq_true rfl⟩, hts _ gw_246, hts _ gw_247⟩ (tp_Tv hZ (fun _ _ => rfl) hN hK hP [0] [] rfl rfl (q0 := 0) (ci := 0) rfl rfl) rfl hl.1 rfl (Nat.le_of_ble_eq_true rfl) dL_heights_4 ⟨Nat.le_of_ble_eq_true rfl, Nat.le_of_ble_eq_true rfl⟩ (fun x9 H9 hN9 => ?_)
  refine tw_catch hown hN9 [] ⟨0, 16, 19, 13⟩ [] (tL_tab B List.mem_cons_self) (List.forall_mem_nil _) rfl (by decide) (tcl_A (word_at (a' := #[]) (State.WarmedH.refl s) (gT_good _ gw_244) (hts _ gw_244)) hC) ?_
  refine lv_astore (lv' := [(4, .ref x9), (0, .ref p0), (1, .long v), (3, .ref aO)]) hx hb dL_heights_19 hl (by decide) rfl (fun ls hl => ?_)
  refine lv_iconst (v := 1) hx hb dL_heights_21 (by decide) ?_
  exact W.iret (v := 1) hx hb hr (fun t ht hW => ⟨rfl, by rw [ht]; exact hN9.2.1, fun q hq => by rw [ht]; exact hN9.2.2.2 q hq⟩) (fun q h => by cases h) dL_heights_22

def fL_rise (tot : Int64) (pd : Bool) (gd : Bool) (rn : Int64) (rd : Int64) (part : Int32) (fo : Nat → Int64) : Int32 := 0
set_option maxHeartbeats 1500000 in
set_option maxRecDepth 100000 in
theorem c_L_rise (l : Launch) (dC : Nat → ClassId) (dI : Nat → Nat → Nat) (p0 : Nat) (pT : Nat) (pR : Nat) (pS : Nat) (pF : Nat) (h0 : Nat) (pQ : Nat) (pG : Nat) (tot : Int64) (pd : Bool) (gd : Bool) (rn : Int64) (rd : Int64) (part : Int32) (aO : Nat) (cO : ClassId) (fo : Nat → Int64) (hx9 : xP_rise tot pd gd rn rd part = 0) : Met l mL_rise wL_rise ({ frames := 2, cells := 0, slots := 0, locals := 42 }) (tp_W (dC, dI) vCl [.ref p0, .int part, .ref aO] [(p0, .inr (0, [.ref pT, .ref pR, .ref pS, .ref pF, .ref h0, .ref pQ, .ref pG, .long tot, .int (bI pd), .int (bI gd)])), (pQ, .inr (5, [.long rn, .long rd])), (aO, .inl (cO, 1, .inr (.inl fo)))] [(cO, .long)]) (tq_W (dC, dI) vCl (some (.int (fL_rise tot pd gd rn rd part fo))) [(p0, .inr (0, [.ref pT, .ref pR, .ref pS, .ref pF, .ref h0, .ref pQ, .ref pG, .long tot, .int (bI pd), .int (bI gd)])), (pQ, .inr (5, [.long rn, .long rd])), (aO, .inl (cO, 1, .inr (.inl fo)))] [(p0, .inr (0, [.ref pT, .ref pR, .ref pS, .ref pF, .ref h0, .ref pQ, .ref pG, .long tot, .int (bI pd), .int (bI gd)])), (pQ, .inr (5, [.long rn, .long rd])), (aO, .inl (cO, 1, .inr (.inl (vp_updL fo (0 : Int32).toNatClampNeg (fP_rise tot pd gd rn rd part)))))]) 0 0 (tA [(p0, .inr (0, [.ref pT, .ref pR, .ref pS, .ref pF, .ref h0, .ref pQ, .ref pG, .long tot, .int (bI pd), .int (bI gd)])), (pQ, .inr (5, [.long rn, .long rd])), (aO, .inl (cO, 1, .inr (.inl fo)))]) := by
  refine va_MetW (cc := bL_rise) (maxL := 4) (ret := (some .int)) (hh := [(0, 8, 11, 19), (0, 8, 14, 25)]) (by decide) rfl ?_
  intro p e s m args below meth c s₁ B hml hv
  obtain ⟨rfl, hP, hK, hN, hD0⟩ := hv
  have hx := B.exec
  have hb := B.bytes
  have hr := B.returns
  have hts : ∀ w ∈ gT, w.before _ s = true := fun w h => atoms_spec (ws := wL_rise) B.pre w (List.mem_cons_of_mem _ h)
  have hown : s.vm.findClass RL = some m.cls := findClass_of_methodNamed B.named
  have hlocks := B.notSynchronized
  have hD := tA_D hD0
  generalize hAe : tA [(p0, .inr (0, [.ref pT, .ref pR, .ref pS, .ref pF, .ref h0, .ref pQ, .ref pG, .long tot, .int (bI pd), .int (bI gd)])), (pQ, .inr (5, [.long rn, .long rd])), (aO, .inl (cO, 1, .inr (.inl fo)))] = A at hD ⊢
  have hS : va_S A s.heap s.heap [] := va_S.rf
  have hP : va_P (dC, dI) vCl [(p0, .inr (0, [.ref pT, .ref pR, .ref pS, .ref pF, .ref h0, .ref pQ, .ref pG, .long tot, .int (bI pd), .int (bI gd)])), (pQ, .inr (5, [.long rn, .long rd])), (aO, .inl (cO, 1, .inr (.inl fo)))] s.heap := hP
  have hl := lv_entry ([.ref p0, .int part, .ref aO]) (n := 4) (Nat.le_of_ble_eq_true rfl)
  rw [lg_entry_eq]
  generalize (lg_sl ([.ref p0, .int part, .ref aO]) ++ List.replicate (4 - (lg_sl ([.ref p0, .int part, .ref aO])).length) Slot.unset).toArray = ls at hl ⊢
  have hl : lv_has ls 4 [(0, .ref p0), (1, .int part), (2, .ref aO)] := hl
  refine lv_aload_n hx hb dL_rise_0 rfl (lv_at hl 2 rfl) ?_
  refine lv_iconst (v := 0) hx hb dL_rise_1 (by decide) ?_
  refine lv_aload_n hx hb dL_rise_2 rfl (lv_at hl 0 rfl) ?_
  refine lv_iload_n hx hb dL_rise_3 rfl (lv_at hl 1 rfl) ?_
  refine tr_go (st1 := [.long (fP_rise tot pd gd rn rd part), .int 0, .ref aO]) (va_runV (As := [.int part]) (rest := [.int 0, .ref aO]) (C := RP) ⟨hx, hb, hml, hown, hts⟩ (c_P_rise l dC dI p0 pT pR pS pF h0 pQ pG tot pd gd rn rd part hx9) ⟨cB 1 hts gw_370 gw_1 gw_367 ndP_rise rfl rfl ⟨Nat.le_of_ble_eq_true rfl, Nat.le_of_ble_eq_true rfl⟩, hts _ gw_368, hts _ gw_369⟩ (tp_Rv hN hK hP [0, 1] [] rfl rfl (q0 := 0) (ci := 0) rfl rfl) rfl rfl hl.1 rfl (lv_room (Nat.le_of_ble_eq_true rfl)) dL_rise_4 ⟨Nat.le_of_ble_eq_true rfl, Nat.le_of_ble_eq_true rfl⟩) rfl ?_
  have b_1 : vp_in 0 1 := vp_in_nI (n := 0) (N := 1) (by decide) (by decide)
  refine va_last hx hb hK hP hD hS 2 0 rfl rfl b_1 dL_rise_7 (fun H locs hP hD hS => ?_)
  have hP : va_P (dC, dI) vCl [(p0, .inr (0, [.ref pT, .ref pR, .ref pS, .ref pF, .ref h0, .ref pQ, .ref pG, .long tot, .int (bI pd), .int (bI gd)])), (pQ, .inr (5, [.long rn, .long rd])), (aO, .inl (cO, 1, .inr (.inl (vp_updL fo (0 : Int32).toNatClampNeg (fP_rise tot pd gd rn rd part)))))] H := hP
  have hD : va_D A [(p0, .inr (0, [.ref pT, .ref pR, .ref pS, .ref pF, .ref h0, .ref pQ, .ref pG, .long tot, .int (bI pd), .int (bI gd)])), (pQ, .inr (5, [.long rn, .long rd])), (aO, .inl (cO, 1, .inr (.inl (vp_updL fo (0 : Int32).toNatClampNeg (fP_rise tot pd gd rn rd part)))))] := hD
  refine lv_goto (tgt := 17) hx hb dL_rise_8 (by decide) ?_
  refine lv_iconst (v := 0) hx hb dL_rise_17 (by decide) ?_
  exact W.iret (v := 0) hx hb hr (fun t ht hW => ⟨by rw [show fL_rise tot pd gd rn rd part fo = 0 from by unfold fL_rise; rfl], by rw [ht]; exact hP, by rw [hAe]; exact hS.F ht⟩) hS.2.2 dL_rise_18

set_option maxHeartbeats 1500000 in
set_option maxRecDepth 100000 in
theorem c_L_rise_ISE (l : Launch) (dC : Nat → ClassId) (dI : Nat → Nat → Nat) (p0 : Nat) (pT : Nat) (pR : Nat) (pS : Nat) (pF : Nat) (h0 : Nat) (pQ : Nat) (pG : Nat) (tot : Int64) (pd : Bool) (gd : Bool) (rn : Int64) (rd : Int64) (part : Int32) (aO : Nat) (cO : ClassId) (fo : Nat → Int64) (hfl : l.stackTraces = false) (hx9 : xP_rise tot pd gd rn rd part = 1) : Met l mL_rise wL_rise ({ frames := 8, cells := 1, slots := 6, locals := 123 }) (tp_E (dC, dI) vCl [.ref p0, .int part, .ref aO] [(p0, .inr (0, [.ref pT, .ref pR, .ref pS, .ref pF, .ref h0, .ref pQ, .ref pG, .long tot, .int (bI pd), .int (bI gd)])), (pQ, .inr (5, [.long rn, .long rd])), (aO, .inl (cO, 1, .inr (.inl fo)))] [(cO, .long)]) (tq_E (some (.int 1))) 1 6 (fun _ => False) := by
  refine va_MetW (cc := bL_rise) (maxL := 4) (ret := (some .int)) (hh := [(0, 8, 11, 19), (0, 8, 14, 25)]) (by decide) rfl ?_
  intro p e s m args below meth c s₁ B hml hv
  obtain ⟨rfl, hP, hK, hN, hZ, hC⟩ := hv
  have hx := B.exec
  have hb := B.bytes
  have hr := B.returns
  have hts : ∀ w ∈ gT, w.before _ s = true := fun w h => atoms_spec (ws := wL_rise) B.pre w (List.mem_cons_of_mem _ h)
  have hown : s.vm.findClass RL = some m.cls := findClass_of_methodNamed B.named
  have hP : va_P (dC, dI) vCl [(p0, .inr (0, [.ref pT, .ref pR, .ref pS, .ref pF, .ref h0, .ref pQ, .ref pG, .long tot, .int (bI pd), .int (bI gd)])), (pQ, .inr (5, [.long rn, .long rd])), (aO, .inl (cO, 1, .inr (.inl fo)))] s.heap := hP
  have hl := lv_entry ([.ref p0, .int part, .ref aO]) (n := 4) (Nat.le_of_ble_eq_true rfl)
  rw [lg_entry_eq]
  generalize (lg_sl ([.ref p0, .int part, .ref aO]) ++ List.replicate (4 - (lg_sl ([.ref p0, .int part, .ref aO])).length) Slot.unset).toArray = ls at hl ⊢
  have hl : lv_has ls 4 [(0, .ref p0), (1, .int part), (2, .ref aO)] := hl
  refine lv_aload_n hx hb dL_rise_0 rfl (lv_at hl 2 rfl) ?_
  refine lv_iconst (v := 0) hx hb dL_rise_1 (by decide) ?_
  refine lv_aload_n hx hb dL_rise_2 rfl (lv_at hl 0 rfl) ?_
  refine lv_iload_n hx hb dL_rise_3 rfl (lv_at hl 1 rfl) ?_
  refine tw_runV (As := [.int part]) (rest := [.int 0, .ref aO]) (C := RP) ⟨hx, hb, hml, hown, hts⟩ (t_P_rise_ISE l dC dI p0 pT pR pS pF h0 pQ pG tot pd gd rn rd part hfl hx9) ⟨cB 1 hts gw_370 gw_1 gw_367 ndP_rise rfl rfl ⟨Nat.le_of_ble_eq_true rfl, Nat.le_of_ble_eq_true rfl⟩, hts _ gw_368, hts _ gw_369⟩ (tp_Tv hZ (fun _ _ => rfl) hN hK hP [0, 1] [] rfl rfl (q0 := 0) (ci := 0) rfl rfl) rfl hl.1 rfl (Nat.le_of_ble_eq_true rfl) dL_rise_4 ⟨Nat.le_of_ble_eq_true rfl, Nat.le_of_ble_eq_true rfl⟩ (fun x9 H9 hN9 => ?_)
  refine tw_catch hown hN9 [] ⟨0, 8, 11, 19⟩ [⟨0, 8, 14, 25⟩] (tL_tab B List.mem_cons_self) (List.forall_mem_nil _) rfl (by decide) (tcl_S (word_at (a' := #[]) (State.WarmedH.refl s) (gT_good _ gw_300) (hts _ gw_300)) hC) ?_
  refine lv_astore_n (lv' := [(3, .ref x9), (0, .ref p0), (1, .int part), (2, .ref aO)]) hx hb dL_rise_11 rfl hl (by decide) rfl (fun ls hl => ?_)
  refine lv_iconst (v := 1) hx hb dL_rise_12 (by decide) ?_
  exact W.iret (v := 1) hx hb hr (fun t ht hW => ⟨rfl, by rw [ht]; exact hN9.2.1, fun q hq => by rw [ht]; exact hN9.2.2.2 q hq⟩) (fun q h => by cases h) dL_rise_13

set_option maxHeartbeats 1500000 in
set_option maxRecDepth 100000 in
theorem c_L_rise_IOB (l : Launch) (dC : Nat → ClassId) (dI : Nat → Nat → Nat) (p0 : Nat) (pT : Nat) (pR : Nat) (pS : Nat) (pF : Nat) (h0 : Nat) (pQ : Nat) (pG : Nat) (tot : Int64) (pd : Bool) (gd : Bool) (rn : Int64) (rd : Int64) (part : Int32) (aO : Nat) (cO : ClassId) (fo : Nat → Int64) (hfl : l.stackTraces = false) (hx9 : xP_rise tot pd gd rn rd part = 2) : Met l mL_rise wL_rise ({ frames := 8, cells := 1, slots := 6, locals := 124 }) (tp_E (dC, dI) vCl [.ref p0, .int part, .ref aO] [(p0, .inr (0, [.ref pT, .ref pR, .ref pS, .ref pF, .ref h0, .ref pQ, .ref pG, .long tot, .int (bI pd), .int (bI gd)])), (pQ, .inr (5, [.long rn, .long rd])), (aO, .inl (cO, 1, .inr (.inl fo)))] [(cO, .long)]) (tq_E (some (.int 2))) 1 6 (fun _ => False) := by
  refine va_MetW (cc := bL_rise) (maxL := 4) (ret := (some .int)) (hh := [(0, 8, 11, 19), (0, 8, 14, 25)]) (by decide) rfl ?_
  intro p e s m args below meth c s₁ B hml hv
  obtain ⟨rfl, hP, hK, hN, hZ, hC⟩ := hv
  have hx := B.exec
  have hb := B.bytes
  have hr := B.returns
  have hts : ∀ w ∈ gT, w.before _ s = true := fun w h => atoms_spec (ws := wL_rise) B.pre w (List.mem_cons_of_mem _ h)
  have hown : s.vm.findClass RL = some m.cls := findClass_of_methodNamed B.named
  have hP : va_P (dC, dI) vCl [(p0, .inr (0, [.ref pT, .ref pR, .ref pS, .ref pF, .ref h0, .ref pQ, .ref pG, .long tot, .int (bI pd), .int (bI gd)])), (pQ, .inr (5, [.long rn, .long rd])), (aO, .inl (cO, 1, .inr (.inl fo)))] s.heap := hP
  have hl := lv_entry ([.ref p0, .int part, .ref aO]) (n := 4) (Nat.le_of_ble_eq_true rfl)
  rw [lg_entry_eq]
  generalize (lg_sl ([.ref p0, .int part, .ref aO]) ++ List.replicate (4 - (lg_sl ([.ref p0, .int part, .ref aO])).length) Slot.unset).toArray = ls at hl ⊢
  have hl : lv_has ls 4 [(0, .ref p0), (1, .int part), (2, .ref aO)] := hl
  refine lv_aload_n hx hb dL_rise_0 rfl (lv_at hl 2 rfl) ?_
  refine lv_iconst (v := 0) hx hb dL_rise_1 (by decide) ?_
  refine lv_aload_n hx hb dL_rise_2 rfl (lv_at hl 0 rfl) ?_
  refine lv_iload_n hx hb dL_rise_3 rfl (lv_at hl 1 rfl) ?_
  refine tw_runV (As := [.int part]) (rest := [.int 0, .ref aO]) (C := RP) ⟨hx, hb, hml, hown, hts⟩ (t_P_rise_IOB l dC dI p0 pT pR pS pF h0 pQ pG tot pd gd rn rd part hfl hx9) ⟨cB 1 hts gw_370 gw_1 gw_367 ndP_rise rfl rfl ⟨Nat.le_of_ble_eq_true rfl, Nat.le_of_ble_eq_true rfl⟩, hts _ gw_368, hts _ gw_369⟩ (tp_Tv hZ (fun _ _ => rfl) hN hK hP [0, 1] [] rfl rfl (q0 := 0) (ci := 0) rfl rfl) rfl hl.1 rfl (Nat.le_of_ble_eq_true rfl) dL_rise_4 ⟨Nat.le_of_ble_eq_true rfl, Nat.le_of_ble_eq_true rfl⟩ (fun x9 H9 hN9 => ?_)
  refine tw_catch hown hN9 [⟨0, 8, 11, 19⟩] ⟨0, 8, 14, 25⟩ [] (tL_tab B List.mem_cons_self) (List.forall_mem_cons.mpr ⟨⟨rfl, by decide, _, tcl_BS (word_at (a' := #[]) (State.WarmedH.refl s) (gT_good _ gw_300) (hts _ gw_300)) hC⟩, List.forall_mem_nil _⟩) rfl (by decide) (tcl_B (word_at (a' := #[]) (State.WarmedH.refl s) (gT_good _ gw_366) (hts _ gw_366)) hC) ?_
  refine lv_astore_n (lv' := [(3, .ref x9), (0, .ref p0), (1, .int part), (2, .ref aO)]) hx hb dL_rise_14 rfl hl (by decide) rfl (fun ls hl => ?_)
  refine lv_iconst (v := 2) hx hb dL_rise_15 (by decide) ?_
  exact W.iret (v := 2) hx hb hr (fun t ht hW => ⟨rfl, by rw [ht]; exact hN9.2.1, fun q hq => by rw [ht]; exact hN9.2.2.2 q hq⟩) (fun q h => by cases h) dL_rise_16

def fL_step (tot : Int64) (pd : Bool) (gd : Bool) (kind : Int32) (rises : Int32) (total : Int64) (going : Int64) (width : Int64) (cf : Int32) (ct : Int32) (k : Int32) (what : Int32) (fo : Nat → Int64) : Int32 := 0
set_option maxHeartbeats 1500000 in
set_option maxRecDepth 100000 in
theorem c_L_step (l : Launch) (dC : Nat → ClassId) (dI : Nat → Nat → Nat) (p0 : Nat) (pT : Nat) (pR : Nat) (pS : Nat) (pF : Nat) (h0 : Nat) (pQ : Nat) (pG : Nat) (tot : Int64) (pd : Bool) (gd : Bool) (kind : Int32) (rises : Int32) (total : Int64) (going : Int64) (width : Int64) (cf : Int32) (ct : Int32) (k : Int32) (what : Int32) (aO : Nat) (cO : ClassId) (fo : Nat → Int64) (hx9 : xP_step tot pd gd kind rises total going width cf ct k what = 0) : Met l mL_step wL_step ({ frames := 4, cells := 0, slots := 0, locals := 85 }) (tp_W (dC, dI) vCl [.ref p0, .int k, .int what, .ref aO] [(p0, .inr (0, [.ref pT, .ref pR, .ref pS, .ref pF, .ref h0, .ref pQ, .ref pG, .long tot, .int (bI pd), .int (bI gd)])), (h0, .inr (4, [.int kind, .int rises, .long total, .long going, .long width, .int cf, .int ct])), (aO, .inl (cO, 1, .inr (.inl fo)))] [(cO, .long)]) (tq_W (dC, dI) vCl (some (.int (fL_step tot pd gd kind rises total going width cf ct k what fo))) [(p0, .inr (0, [.ref pT, .ref pR, .ref pS, .ref pF, .ref h0, .ref pQ, .ref pG, .long tot, .int (bI pd), .int (bI gd)])), (h0, .inr (4, [.int kind, .int rises, .long total, .long going, .long width, .int cf, .int ct])), (aO, .inl (cO, 1, .inr (.inl fo)))] [(p0, .inr (0, [.ref pT, .ref pR, .ref pS, .ref pF, .ref h0, .ref pQ, .ref pG, .long tot, .int (bI pd), .int (bI gd)])), (h0, .inr (4, [.int kind, .int rises, .long total, .long going, .long width, .int cf, .int ct])), (aO, .inl (cO, 1, .inr (.inl (vp_updL fo (0 : Int32).toNatClampNeg (fP_step tot pd gd kind rises total going width cf ct k what)))))]) 0 0 (tA [(p0, .inr (0, [.ref pT, .ref pR, .ref pS, .ref pF, .ref h0, .ref pQ, .ref pG, .long tot, .int (bI pd), .int (bI gd)])), (h0, .inr (4, [.int kind, .int rises, .long total, .long going, .long width, .int cf, .int ct])), (aO, .inl (cO, 1, .inr (.inl fo)))]) := by
  refine va_MetW (cc := bL_step) (maxL := 5) (ret := (some .int)) (hh := [(0, 9, 12, 19), (0, 9, 16, 25), (0, 9, 20, 13)]) (by decide) rfl ?_
  intro p e s m args below meth c s₁ B hml hv
  obtain ⟨rfl, hP, hK, hN, hD0⟩ := hv
  have hx := B.exec
  have hb := B.bytes
  have hr := B.returns
  have hts : ∀ w ∈ gT, w.before _ s = true := fun w h => atoms_spec (ws := wL_step) B.pre w (List.mem_cons_of_mem _ h)
  have hown : s.vm.findClass RL = some m.cls := findClass_of_methodNamed B.named
  have hlocks := B.notSynchronized
  have hD := tA_D hD0
  generalize hAe : tA [(p0, .inr (0, [.ref pT, .ref pR, .ref pS, .ref pF, .ref h0, .ref pQ, .ref pG, .long tot, .int (bI pd), .int (bI gd)])), (h0, .inr (4, [.int kind, .int rises, .long total, .long going, .long width, .int cf, .int ct])), (aO, .inl (cO, 1, .inr (.inl fo)))] = A at hD ⊢
  have hS : va_S A s.heap s.heap [] := va_S.rf
  have hP : va_P (dC, dI) vCl [(p0, .inr (0, [.ref pT, .ref pR, .ref pS, .ref pF, .ref h0, .ref pQ, .ref pG, .long tot, .int (bI pd), .int (bI gd)])), (h0, .inr (4, [.int kind, .int rises, .long total, .long going, .long width, .int cf, .int ct])), (aO, .inl (cO, 1, .inr (.inl fo)))] s.heap := hP
  have hl := lv_entry ([.ref p0, .int k, .int what, .ref aO]) (n := 5) (Nat.le_of_ble_eq_true rfl)
  rw [lg_entry_eq]
  generalize (lg_sl ([.ref p0, .int k, .int what, .ref aO]) ++ List.replicate (5 - (lg_sl ([.ref p0, .int k, .int what, .ref aO])).length) Slot.unset).toArray = ls at hl ⊢
  have hl : lv_has ls 5 [(0, .ref p0), (1, .int k), (2, .int what), (3, .ref aO)] := hl
  refine lv_aload_n hx hb dL_step_0 rfl (lv_at hl 3 rfl) ?_
  refine lv_iconst (v := 0) hx hb dL_step_1 (by decide) ?_
  refine lv_aload_n hx hb dL_step_2 rfl (lv_at hl 0 rfl) ?_
  refine lv_iload_n hx hb dL_step_3 rfl (lv_at hl 1 rfl) ?_
  refine lv_iload_n hx hb dL_step_4 rfl (lv_at hl 2 rfl) ?_
  refine tr_go (st1 := [.long (fP_step tot pd gd kind rises total going width cf ct k what), .int 0, .ref aO]) (va_runV (As := [.int k, .int what]) (rest := [.int 0, .ref aO]) (C := RP) ⟨hx, hb, hml, hown, hts⟩ (c_P_step l dC dI p0 pT pR pS pF h0 pQ pG tot pd gd kind rises total going width cf ct k what hx9) ⟨cB 2 hts gw_396 gw_1 gw_393 ndP_step rfl rfl ⟨Nat.le_of_ble_eq_true rfl, Nat.le_of_ble_eq_true rfl⟩, hts _ gw_394, hts _ gw_395⟩ (tp_Rv hN hK hP [0, 1] [] rfl rfl (q0 := 0) (ci := 0) rfl rfl) rfl rfl hl.1 rfl (lv_room (Nat.le_of_ble_eq_true rfl)) dL_step_5 ⟨Nat.le_of_ble_eq_true rfl, Nat.le_of_ble_eq_true rfl⟩) rfl ?_
  have b_1 : vp_in 0 1 := vp_in_nI (n := 0) (N := 1) (by decide) (by decide)
  refine va_last hx hb hK hP hD hS 2 0 rfl rfl b_1 dL_step_8 (fun H locs hP hD hS => ?_)
  have hP : va_P (dC, dI) vCl [(p0, .inr (0, [.ref pT, .ref pR, .ref pS, .ref pF, .ref h0, .ref pQ, .ref pG, .long tot, .int (bI pd), .int (bI gd)])), (h0, .inr (4, [.int kind, .int rises, .long total, .long going, .long width, .int cf, .int ct])), (aO, .inl (cO, 1, .inr (.inl (vp_updL fo (0 : Int32).toNatClampNeg (fP_step tot pd gd kind rises total going width cf ct k what)))))] H := hP
  have hD : va_D A [(p0, .inr (0, [.ref pT, .ref pR, .ref pS, .ref pF, .ref h0, .ref pQ, .ref pG, .long tot, .int (bI pd), .int (bI gd)])), (h0, .inr (4, [.int kind, .int rises, .long total, .long going, .long width, .int cf, .int ct])), (aO, .inl (cO, 1, .inr (.inl (vp_updL fo (0 : Int32).toNatClampNeg (fP_step tot pd gd kind rises total going width cf ct k what)))))] := hD
  refine lv_goto (tgt := 24) hx hb dL_step_9 (by decide) ?_
  refine lv_iconst (v := 0) hx hb dL_step_24 (by decide) ?_
  exact W.iret (v := 0) hx hb hr (fun t ht hW => ⟨by rw [show fL_step tot pd gd kind rises total going width cf ct k what fo = 0 from by unfold fL_step; rfl], by rw [ht]; exact hP, by rw [hAe]; exact hS.F ht⟩) hS.2.2 dL_step_25

set_option maxHeartbeats 1500000 in
set_option maxRecDepth 100000 in
theorem c_L_step_ISE (l : Launch) (dC : Nat → ClassId) (dI : Nat → Nat → Nat) (p0 : Nat) (pT : Nat) (pR : Nat) (pS : Nat) (pF : Nat) (h0 : Nat) (pQ : Nat) (pG : Nat) (tot : Int64) (pd : Bool) (gd : Bool) (kind : Int32) (rises : Int32) (total : Int64) (going : Int64) (width : Int64) (cf : Int32) (ct : Int32) (k : Int32) (what : Int32) (aO : Nat) (cO : ClassId) (fo : Nat → Int64) (hfl : l.stackTraces = false) (hx9 : xP_step tot pd gd kind rises total going width cf ct k what = 1) : Met l mL_step wL_step ({ frames := 8, cells := 1, slots := 6, locals := 124 }) (tp_E (dC, dI) vCl [.ref p0, .int k, .int what, .ref aO] [(p0, .inr (0, [.ref pT, .ref pR, .ref pS, .ref pF, .ref h0, .ref pQ, .ref pG, .long tot, .int (bI pd), .int (bI gd)])), (h0, .inr (4, [.int kind, .int rises, .long total, .long going, .long width, .int cf, .int ct])), (aO, .inl (cO, 1, .inr (.inl fo)))] [(cO, .long)]) (tq_E (some (.int 1))) 1 6 (fun _ => False) := by
  refine va_MetW (cc := bL_step) (maxL := 5) (ret := (some .int)) (hh := [(0, 9, 12, 19), (0, 9, 16, 25), (0, 9, 20, 13)]) (by decide) rfl ?_
  intro p e s m args below meth c s₁ B hml hv
  obtain ⟨rfl, hP, hK, hN, hZ, hC⟩ := hv
  have hx := B.exec
  have hb := B.bytes
  have hr := B.returns
  have hts : ∀ w ∈ gT, w.before _ s = true := fun w h => atoms_spec (ws := wL_step) B.pre w (List.mem_cons_of_mem _ h)
  have hown : s.vm.findClass RL = some m.cls := findClass_of_methodNamed B.named
  have hP : va_P (dC, dI) vCl [(p0, .inr (0, [.ref pT, .ref pR, .ref pS, .ref pF, .ref h0, .ref pQ, .ref pG, .long tot, .int (bI pd), .int (bI gd)])), (h0, .inr (4, [.int kind, .int rises, .long total, .long going, .long width, .int cf, .int ct])), (aO, .inl (cO, 1, .inr (.inl fo)))] s.heap := hP
  have hl := lv_entry ([.ref p0, .int k, .int what, .ref aO]) (n := 5) (Nat.le_of_ble_eq_true rfl)
  rw [lg_entry_eq]
  generalize (lg_sl ([.ref p0, .int k, .int what, .ref aO]) ++ List.replicate (5 - (lg_sl ([.ref p0, .int k, .int what, .ref aO])).length) Slot.unset).toArray = ls at hl ⊢
  have hl : lv_has ls 5 [(0, .ref p0), (1, .int k), (2, .int what), (3, .ref aO)] := hl
  refine lv_aload_n hx hb dL_step_0 rfl (lv_at hl 3 rfl) ?_
  refine lv_iconst (v := 0) hx hb dL_step_1 (by decide) ?_
  refine lv_aload_n hx hb dL_step_2 rfl (lv_at hl 0 rfl) ?_
  refine lv_iload_n hx hb dL_step_3 rfl (lv_at hl 1 rfl) ?_
  refine lv_iload_n hx hb dL_step_4 rfl (lv_at hl 2 rfl) ?_
  refine tw_runV (As := [.int k, .int what]) (rest := [.int 0, .ref aO]) (C := RP) ⟨hx, hb, hml, hown, hts⟩ (t_P_step_ISE l dC dI p0 pT pR pS pF h0 pQ pG tot pd gd kind rises total going width cf ct k what hfl hx9) ⟨cB 2 hts gw_396 gw_1 gw_393 ndP_step rfl rfl ⟨Nat.le_of_ble_eq_true rfl, Nat.le_of_ble_eq_true rfl⟩, hts _ gw_394, hts _ gw_395⟩ (tp_Tv hZ (fun _ _ => rfl) hN hK hP [0, 1] [] rfl rfl (q0 := 0) (ci := 0) rfl rfl) rfl hl.1 rfl (Nat.le_of_ble_eq_true rfl) dL_step_5 ⟨Nat.le_of_ble_eq_true rfl, Nat.le_of_ble_eq_true rfl⟩ (fun x9 H9 hN9 => ?_)
  refine tw_catch hown hN9 [] ⟨0, 9, 12, 19⟩ [⟨0, 9, 16, 25⟩, ⟨0, 9, 20, 13⟩] (tL_tab B List.mem_cons_self) (List.forall_mem_nil _) rfl (by decide) (tcl_S (word_at (a' := #[]) (State.WarmedH.refl s) (gT_good _ gw_300) (hts _ gw_300)) hC) ?_
  refine lv_astore (lv' := [(4, .ref x9), (0, .ref p0), (1, .int k), (2, .int what), (3, .ref aO)]) hx hb dL_step_12 hl (by decide) rfl (fun ls hl => ?_)
  refine lv_iconst (v := 1) hx hb dL_step_14 (by decide) ?_
  exact W.iret (v := 1) hx hb hr (fun t ht hW => ⟨rfl, by rw [ht]; exact hN9.2.1, fun q hq => by rw [ht]; exact hN9.2.2.2 q hq⟩) (fun q h => by cases h) dL_step_15

set_option maxHeartbeats 1500000 in
set_option maxRecDepth 100000 in
theorem c_L_step_IOB (l : Launch) (dC : Nat → ClassId) (dI : Nat → Nat → Nat) (p0 : Nat) (pT : Nat) (pR : Nat) (pS : Nat) (pF : Nat) (h0 : Nat) (pQ : Nat) (pG : Nat) (tot : Int64) (pd : Bool) (gd : Bool) (kind : Int32) (rises : Int32) (total : Int64) (going : Int64) (width : Int64) (cf : Int32) (ct : Int32) (k : Int32) (what : Int32) (aO : Nat) (cO : ClassId) (fo : Nat → Int64) (hfl : l.stackTraces = false) (hx9 : xP_step tot pd gd kind rises total going width cf ct k what = 2) : Met l mL_step wL_step ({ frames := 8, cells := 1, slots := 6, locals := 125 }) (tp_E (dC, dI) vCl [.ref p0, .int k, .int what, .ref aO] [(p0, .inr (0, [.ref pT, .ref pR, .ref pS, .ref pF, .ref h0, .ref pQ, .ref pG, .long tot, .int (bI pd), .int (bI gd)])), (h0, .inr (4, [.int kind, .int rises, .long total, .long going, .long width, .int cf, .int ct])), (aO, .inl (cO, 1, .inr (.inl fo)))] [(cO, .long)]) (tq_E (some (.int 2))) 1 6 (fun _ => False) := by
  refine va_MetW (cc := bL_step) (maxL := 5) (ret := (some .int)) (hh := [(0, 9, 12, 19), (0, 9, 16, 25), (0, 9, 20, 13)]) (by decide) rfl ?_
  intro p e s m args below meth c s₁ B hml hv
  obtain ⟨rfl, hP, hK, hN, hZ, hC⟩ := hv
  have hx := B.exec
  have hb := B.bytes
  have hr := B.returns
  have hts : ∀ w ∈ gT, w.before _ s = true := fun w h => atoms_spec (ws := wL_step) B.pre w (List.mem_cons_of_mem _ h)
  have hown : s.vm.findClass RL = some m.cls := findClass_of_methodNamed B.named
  have hP : va_P (dC, dI) vCl [(p0, .inr (0, [.ref pT, .ref pR, .ref pS, .ref pF, .ref h0, .ref pQ, .ref pG, .long tot, .int (bI pd), .int (bI gd)])), (h0, .inr (4, [.int kind, .int rises, .long total, .long going, .long width, .int cf, .int ct])), (aO, .inl (cO, 1, .inr (.inl fo)))] s.heap := hP
  have hl := lv_entry ([.ref p0, .int k, .int what, .ref aO]) (n := 5) (Nat.le_of_ble_eq_true rfl)
  rw [lg_entry_eq]
  generalize (lg_sl ([.ref p0, .int k, .int what, .ref aO]) ++ List.replicate (5 - (lg_sl ([.ref p0, .int k, .int what, .ref aO])).length) Slot.unset).toArray = ls at hl ⊢
  have hl : lv_has ls 5 [(0, .ref p0), (1, .int k), (2, .int what), (3, .ref aO)] := hl
  refine lv_aload_n hx hb dL_step_0 rfl (lv_at hl 3 rfl) ?_
  refine lv_iconst (v := 0) hx hb dL_step_1 (by decide) ?_
  refine lv_aload_n hx hb dL_step_2 rfl (lv_at hl 0 rfl) ?_
  refine lv_iload_n hx hb dL_step_3 rfl (lv_at hl 1 rfl) ?_
  refine lv_iload_n hx hb dL_step_4 rfl (lv_at hl 2 rfl) ?_
  refine tw_runV (As := [.int k, .int what]) (rest := [.int 0, .ref aO]) (C := RP) ⟨hx, hb, hml, hown, hts⟩ (t_P_step_IOB l dC dI p0 pT pR pS pF h0 pQ pG tot pd gd kind rises total going width cf ct k what hfl hx9) ⟨cB 2 hts gw_396 gw_1 gw_393 ndP_step rfl rfl ⟨Nat.le_of_ble_eq_true rfl, Nat.le_of_ble_eq_true rfl⟩, hts _ gw_394, hts _ gw_395⟩ (tp_Tv hZ (fun _ _ => rfl) hN hK hP [0, 1] [] rfl rfl (q0 := 0) (ci := 0) rfl rfl) rfl hl.1 rfl (Nat.le_of_ble_eq_true rfl) dL_step_5 ⟨Nat.le_of_ble_eq_true rfl, Nat.le_of_ble_eq_true rfl⟩ (fun x9 H9 hN9 => ?_)
  refine tw_catch hown hN9 [⟨0, 9, 12, 19⟩] ⟨0, 9, 16, 25⟩ [⟨0, 9, 20, 13⟩] (tL_tab B List.mem_cons_self) (List.forall_mem_cons.mpr ⟨⟨rfl, by decide, _, tcl_BS (word_at (a' := #[]) (State.WarmedH.refl s) (gT_good _ gw_300) (hts _ gw_300)) hC⟩, List.forall_mem_nil _⟩) rfl (by decide) (tcl_B (word_at (a' := #[]) (State.WarmedH.refl s) (gT_good _ gw_366) (hts _ gw_366)) hC) ?_
  refine lv_astore (lv' := [(4, .ref x9), (0, .ref p0), (1, .int k), (2, .int what), (3, .ref aO)]) hx hb dL_step_16 hl (by decide) rfl (fun ls hl => ?_)
  refine lv_iconst (v := 2) hx hb dL_step_18 (by decide) ?_
  exact W.iret (v := 2) hx hb hr (fun t ht hW => ⟨rfl, by rw [ht]; exact hN9.2.1, fun q hq => by rw [ht]; exact hN9.2.2.2 q hq⟩) (fun q h => by cases h) dL_step_19

set_option maxHeartbeats 1500000 in
set_option maxRecDepth 100000 in
theorem c_L_step_IAE (l : Launch) (dC : Nat → ClassId) (dI : Nat → Nat → Nat) (p0 : Nat) (pT : Nat) (pR : Nat) (pS : Nat) (pF : Nat) (h0 : Nat) (pQ : Nat) (pG : Nat) (tot : Int64) (pd : Bool) (gd : Bool) (kind : Int32) (rises : Int32) (total : Int64) (going : Int64) (width : Int64) (cf : Int32) (ct : Int32) (k : Int32) (what : Int32) (aO : Nat) (cO : ClassId) (fo : Nat → Int64) (hfl : l.stackTraces = false) (hx9 : xP_step tot pd gd kind rises total going width cf ct k what = 3) : Met l mL_step wL_step ({ frames := 7, cells := 1, slots := 6, locals := 104 }) (tp_E (dC, dI) vCl [.ref p0, .int k, .int what, .ref aO] [(p0, .inr (0, [.ref pT, .ref pR, .ref pS, .ref pF, .ref h0, .ref pQ, .ref pG, .long tot, .int (bI pd), .int (bI gd)])), (h0, .inr (4, [.int kind, .int rises, .long total, .long going, .long width, .int cf, .int ct])), (aO, .inl (cO, 1, .inr (.inl fo)))] [(cO, .long)]) (tq_E (some (.int 3))) 1 6 (fun _ => False) := by
  refine va_MetW (cc := bL_step) (maxL := 5) (ret := (some .int)) (hh := [(0, 9, 12, 19), (0, 9, 16, 25), (0, 9, 20, 13)]) (by decide) rfl ?_
  intro p e s m args below meth c s₁ B hml hv
  obtain ⟨rfl, hP, hK, hN, hZ, hC⟩ := hv
  have hx := B.exec
  have hb := B.bytes
  have hr := B.returns
  have hts : ∀ w ∈ gT, w.before _ s = true := fun w h => atoms_spec (ws := wL_step) B.pre w (List.mem_cons_of_mem _ h)
  have hown : s.vm.findClass RL = some m.cls := findClass_of_methodNamed B.named
  have hP : va_P (dC, dI) vCl [(p0, .inr (0, [.ref pT, .ref pR, .ref pS, .ref pF, .ref h0, .ref pQ, .ref pG, .long tot, .int (bI pd), .int (bI gd)])), (h0, .inr (4, [.int kind, .int rises, .long total, .long going, .long width, .int cf, .int ct])), (aO, .inl (cO, 1, .inr (.inl fo)))] s.heap := hP
  have hl := lv_entry ([.ref p0, .int k, .int what, .ref aO]) (n := 5) (Nat.le_of_ble_eq_true rfl)
  rw [lg_entry_eq]
  generalize (lg_sl ([.ref p0, .int k, .int what, .ref aO]) ++ List.replicate (5 - (lg_sl ([.ref p0, .int k, .int what, .ref aO])).length) Slot.unset).toArray = ls at hl ⊢
  have hl : lv_has ls 5 [(0, .ref p0), (1, .int k), (2, .int what), (3, .ref aO)] := hl
  refine lv_aload_n hx hb dL_step_0 rfl (lv_at hl 3 rfl) ?_
  refine lv_iconst (v := 0) hx hb dL_step_1 (by decide) ?_
  refine lv_aload_n hx hb dL_step_2 rfl (lv_at hl 0 rfl) ?_
  refine lv_iload_n hx hb dL_step_3 rfl (lv_at hl 1 rfl) ?_
  refine lv_iload_n hx hb dL_step_4 rfl (lv_at hl 2 rfl) ?_
  refine tw_runV (As := [.int k, .int what]) (rest := [.int 0, .ref aO]) (C := RP) ⟨hx, hb, hml, hown, hts⟩ (t_P_step_IAE l dC dI p0 pT pR pS pF h0 pQ pG tot pd gd kind rises total going width cf ct k what hfl hx9) ⟨cB 2 hts gw_396 gw_1 gw_393 ndP_step rfl rfl ⟨Nat.le_of_ble_eq_true rfl, Nat.le_of_ble_eq_true rfl⟩, hts _ gw_394, hts _ gw_395⟩ (tp_Tv hZ (fun _ _ => rfl) hN hK hP [0, 1] [] rfl rfl (q0 := 0) (ci := 0) rfl rfl) rfl hl.1 rfl (Nat.le_of_ble_eq_true rfl) dL_step_5 ⟨Nat.le_of_ble_eq_true rfl, Nat.le_of_ble_eq_true rfl⟩ (fun x9 H9 hN9 => ?_)
  refine tw_catch hown hN9 [⟨0, 9, 12, 19⟩, ⟨0, 9, 16, 25⟩] ⟨0, 9, 20, 13⟩ [] (tL_tab B List.mem_cons_self) (List.forall_mem_cons.mpr ⟨⟨rfl, by decide, _, tcl_AS (word_at (a' := #[]) (State.WarmedH.refl s) (gT_good _ gw_300) (hts _ gw_300)) hC⟩, List.forall_mem_cons.mpr ⟨⟨rfl, by decide, _, tcl_AB (word_at (a' := #[]) (State.WarmedH.refl s) (gT_good _ gw_366) (hts _ gw_366)) hC⟩, List.forall_mem_nil _⟩⟩) rfl (by decide) (tcl_A (word_at (a' := #[]) (State.WarmedH.refl s) (gT_good _ gw_244) (hts _ gw_244)) hC) ?_
  refine lv_astore (lv' := [(4, .ref x9), (0, .ref p0), (1, .int k), (2, .int what), (3, .ref aO)]) hx hb dL_step_20 hl (by decide) rfl (fun ls hl => ?_)
  refine lv_iconst (v := 3) hx hb dL_step_22 (by decide) ?_
  exact W.iret (v := 3) hx hb hr (fun t ht hW => ⟨rfl, by rw [ht]; exact hN9.2.1, fun q hq => by rw [ht]; exact hN9.2.2.2 q hq⟩) (fun q h => by cases h) dL_step_23

def fL_winder (tot : Int64) (pd : Bool) (gd : Bool) (kind : Int32) (rises : Int32) (total : Int64) (going : Int64) (width : Int64) (cf : Int32) (ct : Int32) (edge : Int32) (axis : Int32) (fo : Nat → Int64) : Int32 := 0
set_option maxHeartbeats 1500000 in
set_option maxRecDepth 100000 in
theorem c_L_winder (l : Launch) (dC : Nat → ClassId) (dI : Nat → Nat → Nat) (p0 : Nat) (pT : Nat) (pR : Nat) (pS : Nat) (pF : Nat) (h0 : Nat) (pQ : Nat) (pG : Nat) (tot : Int64) (pd : Bool) (gd : Bool) (kind : Int32) (rises : Int32) (total : Int64) (going : Int64) (width : Int64) (cf : Int32) (ct : Int32) (edge : Int32) (axis : Int32) (aO : Nat) (cO : ClassId) (fo : Nat → Int64) (hx9 : xP_winder tot pd gd kind rises total going width cf ct edge axis = 0) : Met l mL_winder wL_winder ({ frames := 3, cells := 0, slots := 0, locals := 63 }) (tp_W (dC, dI) vCl [.ref p0, .int edge, .int axis, .ref aO] [(p0, .inr (0, [.ref pT, .ref pR, .ref pS, .ref pF, .ref h0, .ref pQ, .ref pG, .long tot, .int (bI pd), .int (bI gd)])), (h0, .inr (4, [.int kind, .int rises, .long total, .long going, .long width, .int cf, .int ct])), (aO, .inl (cO, 1, .inr (.inl fo)))] [(cO, .long)]) (tq_W (dC, dI) vCl (some (.int (fL_winder tot pd gd kind rises total going width cf ct edge axis fo))) [(p0, .inr (0, [.ref pT, .ref pR, .ref pS, .ref pF, .ref h0, .ref pQ, .ref pG, .long tot, .int (bI pd), .int (bI gd)])), (h0, .inr (4, [.int kind, .int rises, .long total, .long going, .long width, .int cf, .int ct])), (aO, .inl (cO, 1, .inr (.inl fo)))] [(p0, .inr (0, [.ref pT, .ref pR, .ref pS, .ref pF, .ref h0, .ref pQ, .ref pG, .long tot, .int (bI pd), .int (bI gd)])), (h0, .inr (4, [.int kind, .int rises, .long total, .long going, .long width, .int cf, .int ct])), (aO, .inl (cO, 1, .inr (.inl (vp_updL fo (0 : Int32).toNatClampNeg (fP_winder tot pd gd kind rises total going width cf ct edge axis)))))]) 0 0 (tA [(p0, .inr (0, [.ref pT, .ref pR, .ref pS, .ref pF, .ref h0, .ref pQ, .ref pG, .long tot, .int (bI pd), .int (bI gd)])), (h0, .inr (4, [.int kind, .int rises, .long total, .long going, .long width, .int cf, .int ct])), (aO, .inl (cO, 1, .inr (.inl fo)))]) := by
  refine va_MetW (cc := bL_winder) (maxL := 5) (ret := (some .int)) (hh := [(0, 9, 12, 19), (0, 9, 16, 25)]) (by decide) rfl ?_
  intro p e s m args below meth c s₁ B hml hv
  obtain ⟨rfl, hP, hK, hN, hD0⟩ := hv
  have hx := B.exec
  have hb := B.bytes
  have hr := B.returns
  have hts : ∀ w ∈ gT, w.before _ s = true := fun w h => atoms_spec (ws := wL_winder) B.pre w (List.mem_cons_of_mem _ h)
  have hown : s.vm.findClass RL = some m.cls := findClass_of_methodNamed B.named
  have hlocks := B.notSynchronized
  have hD := tA_D hD0
  generalize hAe : tA [(p0, .inr (0, [.ref pT, .ref pR, .ref pS, .ref pF, .ref h0, .ref pQ, .ref pG, .long tot, .int (bI pd), .int (bI gd)])), (h0, .inr (4, [.int kind, .int rises, .long total, .long going, .long width, .int cf, .int ct])), (aO, .inl (cO, 1, .inr (.inl fo)))] = A at hD ⊢
  have hS : va_S A s.heap s.heap [] := va_S.rf
  have hP : va_P (dC, dI) vCl [(p0, .inr (0, [.ref pT, .ref pR, .ref pS, .ref pF, .ref h0, .ref pQ, .ref pG, .long tot, .int (bI pd), .int (bI gd)])), (h0, .inr (4, [.int kind, .int rises, .long total, .long going, .long width, .int cf, .int ct])), (aO, .inl (cO, 1, .inr (.inl fo)))] s.heap := hP
  have hl := lv_entry ([.ref p0, .int edge, .int axis, .ref aO]) (n := 5) (Nat.le_of_ble_eq_true rfl)
  rw [lg_entry_eq]
  generalize (lg_sl ([.ref p0, .int edge, .int axis, .ref aO]) ++ List.replicate (5 - (lg_sl ([.ref p0, .int edge, .int axis, .ref aO])).length) Slot.unset).toArray = ls at hl ⊢
  have hl : lv_has ls 5 [(0, .ref p0), (1, .int edge), (2, .int axis), (3, .ref aO)] := hl
  refine lv_aload_n hx hb dL_winder_0 rfl (lv_at hl 3 rfl) ?_
  refine lv_iconst (v := 0) hx hb dL_winder_1 (by decide) ?_
  refine lv_aload_n hx hb dL_winder_2 rfl (lv_at hl 0 rfl) ?_
  refine lv_iload_n hx hb dL_winder_3 rfl (lv_at hl 1 rfl) ?_
  refine lv_iload_n hx hb dL_winder_4 rfl (lv_at hl 2 rfl) ?_
  refine tr_go (st1 := [.long (fP_winder tot pd gd kind rises total going width cf ct edge axis), .int 0, .ref aO]) (va_runV (As := [.int edge, .int axis]) (rest := [.int 0, .ref aO]) (C := RP) ⟨hx, hb, hml, hown, hts⟩ (c_P_winder l dC dI p0 pT pR pS pF h0 pQ pG tot pd gd kind rises total going width cf ct edge axis hx9) ⟨cB 2 hts gw_433 gw_1 gw_430 ndP_winder rfl rfl ⟨Nat.le_of_ble_eq_true rfl, Nat.le_of_ble_eq_true rfl⟩, hts _ gw_431, hts _ gw_432⟩ (tp_Rv hN hK hP [0, 1] [] rfl rfl (q0 := 0) (ci := 0) rfl rfl) rfl rfl hl.1 rfl (lv_room (Nat.le_of_ble_eq_true rfl)) dL_winder_5 ⟨Nat.le_of_ble_eq_true rfl, Nat.le_of_ble_eq_true rfl⟩) rfl ?_
  have b_1 : vp_in 0 1 := vp_in_nI (n := 0) (N := 1) (by decide) (by decide)
  refine va_last hx hb hK hP hD hS 2 0 rfl rfl b_1 dL_winder_8 (fun H locs hP hD hS => ?_)
  have hP : va_P (dC, dI) vCl [(p0, .inr (0, [.ref pT, .ref pR, .ref pS, .ref pF, .ref h0, .ref pQ, .ref pG, .long tot, .int (bI pd), .int (bI gd)])), (h0, .inr (4, [.int kind, .int rises, .long total, .long going, .long width, .int cf, .int ct])), (aO, .inl (cO, 1, .inr (.inl (vp_updL fo (0 : Int32).toNatClampNeg (fP_winder tot pd gd kind rises total going width cf ct edge axis)))))] H := hP
  have hD : va_D A [(p0, .inr (0, [.ref pT, .ref pR, .ref pS, .ref pF, .ref h0, .ref pQ, .ref pG, .long tot, .int (bI pd), .int (bI gd)])), (h0, .inr (4, [.int kind, .int rises, .long total, .long going, .long width, .int cf, .int ct])), (aO, .inl (cO, 1, .inr (.inl (vp_updL fo (0 : Int32).toNatClampNeg (fP_winder tot pd gd kind rises total going width cf ct edge axis)))))] := hD
  refine lv_goto (tgt := 20) hx hb dL_winder_9 (by decide) ?_
  refine lv_iconst (v := 0) hx hb dL_winder_20 (by decide) ?_
  exact W.iret (v := 0) hx hb hr (fun t ht hW => ⟨by rw [show fL_winder tot pd gd kind rises total going width cf ct edge axis fo = 0 from by unfold fL_winder; rfl], by rw [ht]; exact hP, by rw [hAe]; exact hS.F ht⟩) hS.2.2 dL_winder_21

set_option maxHeartbeats 1500000 in
set_option maxRecDepth 100000 in
theorem c_L_winder_ISE (l : Launch) (dC : Nat → ClassId) (dI : Nat → Nat → Nat) (p0 : Nat) (pT : Nat) (pR : Nat) (pS : Nat) (pF : Nat) (h0 : Nat) (pQ : Nat) (pG : Nat) (tot : Int64) (pd : Bool) (gd : Bool) (kind : Int32) (rises : Int32) (total : Int64) (going : Int64) (width : Int64) (cf : Int32) (ct : Int32) (edge : Int32) (axis : Int32) (aO : Nat) (cO : ClassId) (fo : Nat → Int64) (hfl : l.stackTraces = false) (hx9 : xP_winder tot pd gd kind rises total going width cf ct edge axis = 1) : Met l mL_winder wL_winder ({ frames := 9, cells := 1, slots := 6, locals := 144 }) (tp_E (dC, dI) vCl [.ref p0, .int edge, .int axis, .ref aO] [(p0, .inr (0, [.ref pT, .ref pR, .ref pS, .ref pF, .ref h0, .ref pQ, .ref pG, .long tot, .int (bI pd), .int (bI gd)])), (h0, .inr (4, [.int kind, .int rises, .long total, .long going, .long width, .int cf, .int ct])), (aO, .inl (cO, 1, .inr (.inl fo)))] [(cO, .long)]) (tq_E (some (.int 1))) 1 6 (fun _ => False) := by
  refine va_MetW (cc := bL_winder) (maxL := 5) (ret := (some .int)) (hh := [(0, 9, 12, 19), (0, 9, 16, 25)]) (by decide) rfl ?_
  intro p e s m args below meth c s₁ B hml hv
  obtain ⟨rfl, hP, hK, hN, hZ, hC⟩ := hv
  have hx := B.exec
  have hb := B.bytes
  have hr := B.returns
  have hts : ∀ w ∈ gT, w.before _ s = true := fun w h => atoms_spec (ws := wL_winder) B.pre w (List.mem_cons_of_mem _ h)
  have hown : s.vm.findClass RL = some m.cls := findClass_of_methodNamed B.named
  have hP : va_P (dC, dI) vCl [(p0, .inr (0, [.ref pT, .ref pR, .ref pS, .ref pF, .ref h0, .ref pQ, .ref pG, .long tot, .int (bI pd), .int (bI gd)])), (h0, .inr (4, [.int kind, .int rises, .long total, .long going, .long width, .int cf, .int ct])), (aO, .inl (cO, 1, .inr (.inl fo)))] s.heap := hP
  have hl := lv_entry ([.ref p0, .int edge, .int axis, .ref aO]) (n := 5) (Nat.le_of_ble_eq_true rfl)
  rw [lg_entry_eq]
  generalize (lg_sl ([.ref p0, .int edge, .int axis, .ref aO]) ++ List.replicate (5 - (lg_sl ([.ref p0, .int edge, .int axis, .ref aO])).length) Slot.unset).toArray = ls at hl ⊢
  have hl : lv_has ls 5 [(0, .ref p0), (1, .int edge), (2, .int axis), (3, .ref aO)] := hl
  refine lv_aload_n hx hb dL_winder_0 rfl (lv_at hl 3 rfl) ?_
  refine lv_iconst (v := 0) hx hb dL_winder_1 (by decide) ?_
  refine lv_aload_n hx hb dL_winder_2 rfl (lv_at hl 0 rfl) ?_
  refine lv_iload_n hx hb dL_winder_3 rfl (lv_at hl 1 rfl) ?_
  refine lv_iload_n hx hb dL_winder_4 rfl (lv_at hl 2 rfl) ?_
  refine tw_runV (As := [.int edge, .int axis]) (rest := [.int 0, .ref aO]) (C := RP) ⟨hx, hb, hml, hown, hts⟩ (t_P_winder_ISE l dC dI p0 pT pR pS pF h0 pQ pG tot pd gd kind rises total going width cf ct edge axis hfl hx9) ⟨cB 2 hts gw_433 gw_1 gw_430 ndP_winder rfl rfl ⟨Nat.le_of_ble_eq_true rfl, Nat.le_of_ble_eq_true rfl⟩, hts _ gw_431, hts _ gw_432⟩ (tp_Tv hZ (fun _ _ => rfl) hN hK hP [0, 1] [] rfl rfl (q0 := 0) (ci := 0) rfl rfl) rfl hl.1 rfl (Nat.le_of_ble_eq_true rfl) dL_winder_5 ⟨Nat.le_of_ble_eq_true rfl, Nat.le_of_ble_eq_true rfl⟩ (fun x9 H9 hN9 => ?_)
  refine tw_catch hown hN9 [] ⟨0, 9, 12, 19⟩ [⟨0, 9, 16, 25⟩] (tL_tab B List.mem_cons_self) (List.forall_mem_nil _) rfl (by decide) (tcl_S (word_at (a' := #[]) (State.WarmedH.refl s) (gT_good _ gw_300) (hts _ gw_300)) hC) ?_
  refine lv_astore (lv' := [(4, .ref x9), (0, .ref p0), (1, .int edge), (2, .int axis), (3, .ref aO)]) hx hb dL_winder_12 hl (by decide) rfl (fun ls hl => ?_)
  refine lv_iconst (v := 1) hx hb dL_winder_14 (by decide) ?_
  exact W.iret (v := 1) hx hb hr (fun t ht hW => ⟨rfl, by rw [ht]; exact hN9.2.1, fun q hq => by rw [ht]; exact hN9.2.2.2 q hq⟩) (fun q h => by cases h) dL_winder_15

set_option maxHeartbeats 1500000 in
set_option maxRecDepth 100000 in
theorem c_L_winder_IOB (l : Launch) (dC : Nat → ClassId) (dI : Nat → Nat → Nat) (p0 : Nat) (pT : Nat) (pR : Nat) (pS : Nat) (pF : Nat) (h0 : Nat) (pQ : Nat) (pG : Nat) (tot : Int64) (pd : Bool) (gd : Bool) (kind : Int32) (rises : Int32) (total : Int64) (going : Int64) (width : Int64) (cf : Int32) (ct : Int32) (edge : Int32) (axis : Int32) (aO : Nat) (cO : ClassId) (fo : Nat → Int64) (hfl : l.stackTraces = false) (hx9 : xP_winder tot pd gd kind rises total going width cf ct edge axis = 2) : Met l mL_winder wL_winder ({ frames := 8, cells := 1, slots := 6, locals := 125 }) (tp_E (dC, dI) vCl [.ref p0, .int edge, .int axis, .ref aO] [(p0, .inr (0, [.ref pT, .ref pR, .ref pS, .ref pF, .ref h0, .ref pQ, .ref pG, .long tot, .int (bI pd), .int (bI gd)])), (h0, .inr (4, [.int kind, .int rises, .long total, .long going, .long width, .int cf, .int ct])), (aO, .inl (cO, 1, .inr (.inl fo)))] [(cO, .long)]) (tq_E (some (.int 2))) 1 6 (fun _ => False) := by
  refine va_MetW (cc := bL_winder) (maxL := 5) (ret := (some .int)) (hh := [(0, 9, 12, 19), (0, 9, 16, 25)]) (by decide) rfl ?_
  intro p e s m args below meth c s₁ B hml hv
  obtain ⟨rfl, hP, hK, hN, hZ, hC⟩ := hv
  have hx := B.exec
  have hb := B.bytes
  have hr := B.returns
  have hts : ∀ w ∈ gT, w.before _ s = true := fun w h => atoms_spec (ws := wL_winder) B.pre w (List.mem_cons_of_mem _ h)
  have hown : s.vm.findClass RL = some m.cls := findClass_of_methodNamed B.named
  have hP : va_P (dC, dI) vCl [(p0, .inr (0, [.ref pT, .ref pR, .ref pS, .ref pF, .ref h0, .ref pQ, .ref pG, .long tot, .int (bI pd), .int (bI gd)])), (h0, .inr (4, [.int kind, .int rises, .long total, .long going, .long width, .int cf, .int ct])), (aO, .inl (cO, 1, .inr (.inl fo)))] s.heap := hP
  have hl := lv_entry ([.ref p0, .int edge, .int axis, .ref aO]) (n := 5) (Nat.le_of_ble_eq_true rfl)
  rw [lg_entry_eq]
  generalize (lg_sl ([.ref p0, .int edge, .int axis, .ref aO]) ++ List.replicate (5 - (lg_sl ([.ref p0, .int edge, .int axis, .ref aO])).length) Slot.unset).toArray = ls at hl ⊢
  have hl : lv_has ls 5 [(0, .ref p0), (1, .int edge), (2, .int axis), (3, .ref aO)] := hl
  refine lv_aload_n hx hb dL_winder_0 rfl (lv_at hl 3 rfl) ?_
  refine lv_iconst (v := 0) hx hb dL_winder_1 (by decide) ?_
  refine lv_aload_n hx hb dL_winder_2 rfl (lv_at hl 0 rfl) ?_
  refine lv_iload_n hx hb dL_winder_3 rfl (lv_at hl 1 rfl) ?_
  refine lv_iload_n hx hb dL_winder_4 rfl (lv_at hl 2 rfl) ?_
  refine tw_runV (As := [.int edge, .int axis]) (rest := [.int 0, .ref aO]) (C := RP) ⟨hx, hb, hml, hown, hts⟩ (t_P_winder_IOB l dC dI p0 pT pR pS pF h0 pQ pG tot pd gd kind rises total going width cf ct edge axis hfl hx9) ⟨cB 2 hts gw_433 gw_1 gw_430 ndP_winder rfl rfl ⟨Nat.le_of_ble_eq_true rfl, Nat.le_of_ble_eq_true rfl⟩, hts _ gw_431, hts _ gw_432⟩ (tp_Tv hZ (fun _ _ => rfl) hN hK hP [0, 1] [] rfl rfl (q0 := 0) (ci := 0) rfl rfl) rfl hl.1 rfl (Nat.le_of_ble_eq_true rfl) dL_winder_5 ⟨Nat.le_of_ble_eq_true rfl, Nat.le_of_ble_eq_true rfl⟩ (fun x9 H9 hN9 => ?_)
  refine tw_catch hown hN9 [⟨0, 9, 12, 19⟩] ⟨0, 9, 16, 25⟩ [] (tL_tab B List.mem_cons_self) (List.forall_mem_cons.mpr ⟨⟨rfl, by decide, _, tcl_BS (word_at (a' := #[]) (State.WarmedH.refl s) (gT_good _ gw_300) (hts _ gw_300)) hC⟩, List.forall_mem_nil _⟩) rfl (by decide) (tcl_B (word_at (a' := #[]) (State.WarmedH.refl s) (gT_good _ gw_366) (hts _ gw_366)) hC) ?_
  refine lv_astore (lv' := [(4, .ref x9), (0, .ref p0), (1, .int edge), (2, .int axis), (3, .ref aO)]) hx hb dL_winder_16 hl (by decide) rfl (fun ls hl => ?_)
  refine lv_iconst (v := 2) hx hb dL_winder_18 (by decide) ?_
  exact W.iret (v := 2) hx hb hr (fun t ht hW => ⟨rfl, by rw [ht]; exact hN9.2.1, fun q hq => by rw [ht]; exact hN9.2.2.2 q hq⟩) (fun q h => by cases h) dL_winder_19

def fL_area (tot : Int64) (pd : Bool) (gd : Bool) (kind : Int32) (rises : Int32) (total : Int64) (going : Int64) (width : Int64) (cf : Int32) (ct : Int32) (wi : Int32) (fo : Nat → Int64) : Int32 := 0
set_option maxHeartbeats 1500000 in
set_option maxRecDepth 100000 in
theorem c_L_area (l : Launch) (dC : Nat → ClassId) (dI : Nat → Nat → Nat) (p0 : Nat) (pT : Nat) (pR : Nat) (pS : Nat) (pF : Nat) (h0 : Nat) (pQ : Nat) (pG : Nat) (tot : Int64) (pd : Bool) (gd : Bool) (kind : Int32) (rises : Int32) (total : Int64) (going : Int64) (width : Int64) (cf : Int32) (ct : Int32) (wi : Int32) (aO : Nat) (cO : ClassId) (fo : Nat → Int64) (hx9 : xP_area tot pd gd kind rises total going width cf ct wi = 0) : Met l mL_area wL_area ({ frames := 3, cells := 0, slots := 0, locals := 61 }) (tp_W (dC, dI) vCl [.ref p0, .int wi, .ref aO] [(p0, .inr (0, [.ref pT, .ref pR, .ref pS, .ref pF, .ref h0, .ref pQ, .ref pG, .long tot, .int (bI pd), .int (bI gd)])), (h0, .inr (4, [.int kind, .int rises, .long total, .long going, .long width, .int cf, .int ct])), (aO, .inl (cO, 1, .inr (.inl fo)))] [(cO, .long)]) (tq_W (dC, dI) vCl (some (.int (fL_area tot pd gd kind rises total going width cf ct wi fo))) [(p0, .inr (0, [.ref pT, .ref pR, .ref pS, .ref pF, .ref h0, .ref pQ, .ref pG, .long tot, .int (bI pd), .int (bI gd)])), (h0, .inr (4, [.int kind, .int rises, .long total, .long going, .long width, .int cf, .int ct])), (aO, .inl (cO, 1, .inr (.inl fo)))] [(p0, .inr (0, [.ref pT, .ref pR, .ref pS, .ref pF, .ref h0, .ref pQ, .ref pG, .long tot, .int (bI pd), .int (bI gd)])), (h0, .inr (4, [.int kind, .int rises, .long total, .long going, .long width, .int cf, .int ct])), (aO, .inl (cO, 1, .inr (.inl (vp_updL fo (0 : Int32).toNatClampNeg (fP_area tot pd gd kind rises total going width cf ct wi)))))]) 0 0 (tA [(p0, .inr (0, [.ref pT, .ref pR, .ref pS, .ref pF, .ref h0, .ref pQ, .ref pG, .long tot, .int (bI pd), .int (bI gd)])), (h0, .inr (4, [.int kind, .int rises, .long total, .long going, .long width, .int cf, .int ct])), (aO, .inl (cO, 1, .inr (.inl fo)))]) := by
  refine va_MetW (cc := bL_area) (maxL := 4) (ret := (some .int)) (hh := [(0, 8, 11, 19), (0, 8, 14, 25)]) (by decide) rfl ?_
  intro p e s m args below meth c s₁ B hml hv
  obtain ⟨rfl, hP, hK, hN, hD0⟩ := hv
  have hx := B.exec
  have hb := B.bytes
  have hr := B.returns
  have hts : ∀ w ∈ gT, w.before _ s = true := fun w h => atoms_spec (ws := wL_area) B.pre w (List.mem_cons_of_mem _ h)
  have hown : s.vm.findClass RL = some m.cls := findClass_of_methodNamed B.named
  have hlocks := B.notSynchronized
  have hD := tA_D hD0
  generalize hAe : tA [(p0, .inr (0, [.ref pT, .ref pR, .ref pS, .ref pF, .ref h0, .ref pQ, .ref pG, .long tot, .int (bI pd), .int (bI gd)])), (h0, .inr (4, [.int kind, .int rises, .long total, .long going, .long width, .int cf, .int ct])), (aO, .inl (cO, 1, .inr (.inl fo)))] = A at hD ⊢
  have hS : va_S A s.heap s.heap [] := va_S.rf
  have hP : va_P (dC, dI) vCl [(p0, .inr (0, [.ref pT, .ref pR, .ref pS, .ref pF, .ref h0, .ref pQ, .ref pG, .long tot, .int (bI pd), .int (bI gd)])), (h0, .inr (4, [.int kind, .int rises, .long total, .long going, .long width, .int cf, .int ct])), (aO, .inl (cO, 1, .inr (.inl fo)))] s.heap := hP
  have hl := lv_entry ([.ref p0, .int wi, .ref aO]) (n := 4) (Nat.le_of_ble_eq_true rfl)
  rw [lg_entry_eq]
  generalize (lg_sl ([.ref p0, .int wi, .ref aO]) ++ List.replicate (4 - (lg_sl ([.ref p0, .int wi, .ref aO])).length) Slot.unset).toArray = ls at hl ⊢
  have hl : lv_has ls 4 [(0, .ref p0), (1, .int wi), (2, .ref aO)] := hl
  refine lv_aload_n hx hb dL_area_0 rfl (lv_at hl 2 rfl) ?_
  refine lv_iconst (v := 0) hx hb dL_area_1 (by decide) ?_
  refine lv_aload_n hx hb dL_area_2 rfl (lv_at hl 0 rfl) ?_
  refine lv_iload_n hx hb dL_area_3 rfl (lv_at hl 1 rfl) ?_
  refine tr_go (st1 := [.long (fP_area tot pd gd kind rises total going width cf ct wi), .int 0, .ref aO]) (va_runV (As := [.int wi]) (rest := [.int 0, .ref aO]) (C := RP) ⟨hx, hb, hml, hown, hts⟩ (c_P_area l dC dI p0 pT pR pS pF h0 pQ pG tot pd gd kind rises total going width cf ct wi hx9) ⟨cB 1 hts gw_459 gw_1 gw_456 ndP_area rfl rfl ⟨Nat.le_of_ble_eq_true rfl, Nat.le_of_ble_eq_true rfl⟩, hts _ gw_457, hts _ gw_458⟩ (tp_Rv hN hK hP [0, 1] [] rfl rfl (q0 := 0) (ci := 0) rfl rfl) rfl rfl hl.1 rfl (lv_room (Nat.le_of_ble_eq_true rfl)) dL_area_4 ⟨Nat.le_of_ble_eq_true rfl, Nat.le_of_ble_eq_true rfl⟩) rfl ?_
  have b_1 : vp_in 0 1 := vp_in_nI (n := 0) (N := 1) (by decide) (by decide)
  refine va_last hx hb hK hP hD hS 2 0 rfl rfl b_1 dL_area_7 (fun H locs hP hD hS => ?_)
  have hP : va_P (dC, dI) vCl [(p0, .inr (0, [.ref pT, .ref pR, .ref pS, .ref pF, .ref h0, .ref pQ, .ref pG, .long tot, .int (bI pd), .int (bI gd)])), (h0, .inr (4, [.int kind, .int rises, .long total, .long going, .long width, .int cf, .int ct])), (aO, .inl (cO, 1, .inr (.inl (vp_updL fo (0 : Int32).toNatClampNeg (fP_area tot pd gd kind rises total going width cf ct wi)))))] H := hP
  have hD : va_D A [(p0, .inr (0, [.ref pT, .ref pR, .ref pS, .ref pF, .ref h0, .ref pQ, .ref pG, .long tot, .int (bI pd), .int (bI gd)])), (h0, .inr (4, [.int kind, .int rises, .long total, .long going, .long width, .int cf, .int ct])), (aO, .inl (cO, 1, .inr (.inl (vp_updL fo (0 : Int32).toNatClampNeg (fP_area tot pd gd kind rises total going width cf ct wi)))))] := hD
  refine lv_goto (tgt := 17) hx hb dL_area_8 (by decide) ?_
  refine lv_iconst (v := 0) hx hb dL_area_17 (by decide) ?_
  exact W.iret (v := 0) hx hb hr (fun t ht hW => ⟨by rw [show fL_area tot pd gd kind rises total going width cf ct wi fo = 0 from by unfold fL_area; rfl], by rw [ht]; exact hP, by rw [hAe]; exact hS.F ht⟩) hS.2.2 dL_area_18

set_option maxHeartbeats 1500000 in
set_option maxRecDepth 100000 in
theorem c_L_area_ISE (l : Launch) (dC : Nat → ClassId) (dI : Nat → Nat → Nat) (p0 : Nat) (pT : Nat) (pR : Nat) (pS : Nat) (pF : Nat) (h0 : Nat) (pQ : Nat) (pG : Nat) (tot : Int64) (pd : Bool) (gd : Bool) (kind : Int32) (rises : Int32) (total : Int64) (going : Int64) (width : Int64) (cf : Int32) (ct : Int32) (wi : Int32) (aO : Nat) (cO : ClassId) (fo : Nat → Int64) (hfl : l.stackTraces = false) (hx9 : xP_area tot pd gd kind rises total going width cf ct wi = 1) : Met l mL_area wL_area ({ frames := 9, cells := 1, slots := 6, locals := 143 }) (tp_E (dC, dI) vCl [.ref p0, .int wi, .ref aO] [(p0, .inr (0, [.ref pT, .ref pR, .ref pS, .ref pF, .ref h0, .ref pQ, .ref pG, .long tot, .int (bI pd), .int (bI gd)])), (h0, .inr (4, [.int kind, .int rises, .long total, .long going, .long width, .int cf, .int ct])), (aO, .inl (cO, 1, .inr (.inl fo)))] [(cO, .long)]) (tq_E (some (.int 1))) 1 6 (fun _ => False) := by
  refine va_MetW (cc := bL_area) (maxL := 4) (ret := (some .int)) (hh := [(0, 8, 11, 19), (0, 8, 14, 25)]) (by decide) rfl ?_
  intro p e s m args below meth c s₁ B hml hv
  obtain ⟨rfl, hP, hK, hN, hZ, hC⟩ := hv
  have hx := B.exec
  have hb := B.bytes
  have hr := B.returns
  have hts : ∀ w ∈ gT, w.before _ s = true := fun w h => atoms_spec (ws := wL_area) B.pre w (List.mem_cons_of_mem _ h)
  have hown : s.vm.findClass RL = some m.cls := findClass_of_methodNamed B.named
  have hP : va_P (dC, dI) vCl [(p0, .inr (0, [.ref pT, .ref pR, .ref pS, .ref pF, .ref h0, .ref pQ, .ref pG, .long tot, .int (bI pd), .int (bI gd)])), (h0, .inr (4, [.int kind, .int rises, .long total, .long going, .long width, .int cf, .int ct])), (aO, .inl (cO, 1, .inr (.inl fo)))] s.heap := hP
  have hl := lv_entry ([.ref p0, .int wi, .ref aO]) (n := 4) (Nat.le_of_ble_eq_true rfl)
  rw [lg_entry_eq]
  generalize (lg_sl ([.ref p0, .int wi, .ref aO]) ++ List.replicate (4 - (lg_sl ([.ref p0, .int wi, .ref aO])).length) Slot.unset).toArray = ls at hl ⊢
  have hl : lv_has ls 4 [(0, .ref p0), (1, .int wi), (2, .ref aO)] := hl
  refine lv_aload_n hx hb dL_area_0 rfl (lv_at hl 2 rfl) ?_
  refine lv_iconst (v := 0) hx hb dL_area_1 (by decide) ?_
  refine lv_aload_n hx hb dL_area_2 rfl (lv_at hl 0 rfl) ?_
  refine lv_iload_n hx hb dL_area_3 rfl (lv_at hl 1 rfl) ?_
  refine tw_runV (As := [.int wi]) (rest := [.int 0, .ref aO]) (C := RP) ⟨hx, hb, hml, hown, hts⟩ (t_P_area_ISE l dC dI p0 pT pR pS pF h0 pQ pG tot pd gd kind rises total going width cf ct wi hfl hx9) ⟨cB 1 hts gw_459 gw_1 gw_456 ndP_area rfl rfl ⟨Nat.le_of_ble_eq_true rfl, Nat.le_of_ble_eq_true rfl⟩, hts _ gw_457, hts _ gw_458⟩ (tp_Tv hZ (fun _ _ => rfl) hN hK hP [0, 1] [] rfl rfl (q0 := 0) (ci := 0) rfl rfl) rfl hl.1 rfl (Nat.le_of_ble_eq_true rfl) dL_area_4 ⟨Nat.le_of_ble_eq_true rfl, Nat.le_of_ble_eq_true rfl⟩ (fun x9 H9 hN9 => ?_)
  refine tw_catch hown hN9 [] ⟨0, 8, 11, 19⟩ [⟨0, 8, 14, 25⟩] (tL_tab B List.mem_cons_self) (List.forall_mem_nil _) rfl (by decide) (tcl_S (word_at (a' := #[]) (State.WarmedH.refl s) (gT_good _ gw_300) (hts _ gw_300)) hC) ?_
  refine lv_astore_n (lv' := [(3, .ref x9), (0, .ref p0), (1, .int wi), (2, .ref aO)]) hx hb dL_area_11 rfl hl (by decide) rfl (fun ls hl => ?_)
  refine lv_iconst (v := 1) hx hb dL_area_12 (by decide) ?_
  exact W.iret (v := 1) hx hb hr (fun t ht hW => ⟨rfl, by rw [ht]; exact hN9.2.1, fun q hq => by rw [ht]; exact hN9.2.2.2 q hq⟩) (fun q h => by cases h) dL_area_13

set_option maxHeartbeats 1500000 in
set_option maxRecDepth 100000 in
theorem c_L_area_IOB (l : Launch) (dC : Nat → ClassId) (dI : Nat → Nat → Nat) (p0 : Nat) (pT : Nat) (pR : Nat) (pS : Nat) (pF : Nat) (h0 : Nat) (pQ : Nat) (pG : Nat) (tot : Int64) (pd : Bool) (gd : Bool) (kind : Int32) (rises : Int32) (total : Int64) (going : Int64) (width : Int64) (cf : Int32) (ct : Int32) (wi : Int32) (aO : Nat) (cO : ClassId) (fo : Nat → Int64) (hfl : l.stackTraces = false) (hx9 : xP_area tot pd gd kind rises total going width cf ct wi = 2) : Met l mL_area wL_area ({ frames := 8, cells := 1, slots := 6, locals := 124 }) (tp_E (dC, dI) vCl [.ref p0, .int wi, .ref aO] [(p0, .inr (0, [.ref pT, .ref pR, .ref pS, .ref pF, .ref h0, .ref pQ, .ref pG, .long tot, .int (bI pd), .int (bI gd)])), (h0, .inr (4, [.int kind, .int rises, .long total, .long going, .long width, .int cf, .int ct])), (aO, .inl (cO, 1, .inr (.inl fo)))] [(cO, .long)]) (tq_E (some (.int 2))) 1 6 (fun _ => False) := by
  refine va_MetW (cc := bL_area) (maxL := 4) (ret := (some .int)) (hh := [(0, 8, 11, 19), (0, 8, 14, 25)]) (by decide) rfl ?_
  intro p e s m args below meth c s₁ B hml hv
  obtain ⟨rfl, hP, hK, hN, hZ, hC⟩ := hv
  have hx := B.exec
  have hb := B.bytes
  have hr := B.returns
  have hts : ∀ w ∈ gT, w.before _ s = true := fun w h => atoms_spec (ws := wL_area) B.pre w (List.mem_cons_of_mem _ h)
  have hown : s.vm.findClass RL = some m.cls := findClass_of_methodNamed B.named
  have hP : va_P (dC, dI) vCl [(p0, .inr (0, [.ref pT, .ref pR, .ref pS, .ref pF, .ref h0, .ref pQ, .ref pG, .long tot, .int (bI pd), .int (bI gd)])), (h0, .inr (4, [.int kind, .int rises, .long total, .long going, .long width, .int cf, .int ct])), (aO, .inl (cO, 1, .inr (.inl fo)))] s.heap := hP
  have hl := lv_entry ([.ref p0, .int wi, .ref aO]) (n := 4) (Nat.le_of_ble_eq_true rfl)
  rw [lg_entry_eq]
  generalize (lg_sl ([.ref p0, .int wi, .ref aO]) ++ List.replicate (4 - (lg_sl ([.ref p0, .int wi, .ref aO])).length) Slot.unset).toArray = ls at hl ⊢
  have hl : lv_has ls 4 [(0, .ref p0), (1, .int wi), (2, .ref aO)] := hl
  refine lv_aload_n hx hb dL_area_0 rfl (lv_at hl 2 rfl) ?_
  refine lv_iconst (v := 0) hx hb dL_area_1 (by decide) ?_
  refine lv_aload_n hx hb dL_area_2 rfl (lv_at hl 0 rfl) ?_
  refine lv_iload_n hx hb dL_area_3 rfl (lv_at hl 1 rfl) ?_
  refine tw_runV (As := [.int wi]) (rest := [.int 0, .ref aO]) (C := RP) ⟨hx, hb, hml, hown, hts⟩ (t_P_area_IOB l dC dI p0 pT pR pS pF h0 pQ pG tot pd gd kind rises total going width cf ct wi hfl hx9) ⟨cB 1 hts gw_459 gw_1 gw_456 ndP_area rfl rfl ⟨Nat.le_of_ble_eq_true rfl, Nat.le_of_ble_eq_true rfl⟩, hts _ gw_457, hts _ gw_458⟩ (tp_Tv hZ (fun _ _ => rfl) hN hK hP [0, 1] [] rfl rfl (q0 := 0) (ci := 0) rfl rfl) rfl hl.1 rfl (Nat.le_of_ble_eq_true rfl) dL_area_4 ⟨Nat.le_of_ble_eq_true rfl, Nat.le_of_ble_eq_true rfl⟩ (fun x9 H9 hN9 => ?_)
  refine tw_catch hown hN9 [⟨0, 8, 11, 19⟩] ⟨0, 8, 14, 25⟩ [] (tL_tab B List.mem_cons_self) (List.forall_mem_cons.mpr ⟨⟨rfl, by decide, _, tcl_BS (word_at (a' := #[]) (State.WarmedH.refl s) (gT_good _ gw_300) (hts _ gw_300)) hC⟩, List.forall_mem_nil _⟩) rfl (by decide) (tcl_B (word_at (a' := #[]) (State.WarmedH.refl s) (gT_good _ gw_366) (hts _ gw_366)) hC) ?_
  refine lv_astore_n (lv' := [(3, .ref x9), (0, .ref p0), (1, .int wi), (2, .ref aO)]) hx hb dL_area_14 rfl hl (by decide) rfl (fun ls hl => ?_)
  refine lv_iconst (v := 2) hx hb dL_area_15 (by decide) ?_
  exact W.iret (v := 2) hx hb hr (fun t ht hW => ⟨rfl, by rw [ht]; exact hN9.2.1, fun q hq => by rw [ht]; exact hN9.2.2.2 q hq⟩) (fun q h => by cases h) dL_area_16

def fL_meets_a6 (tot : Int64) (pd : Bool) (gd : Bool) (fw : Nat → Int32) (fr : Nat → Int32) (fb : Nat → Int32) (cnt : Int32) (kind : Int32) (rises : Int32) (total : Int64) (going : Int64) (width : Int64) (cf : Int32) (ct : Int32) (rule : Int32) (fo : Nat → Int64) : Nat → Int64 := if (fP_meets tot pd gd fw fr fb cnt kind rises total going width cf ct rule) = true then (vp_updL fo (0 : Int32).toNatClampNeg 1) else (vp_updL fo (0 : Int32).toNatClampNeg 0)
def fL_meets (tot : Int64) (pd : Bool) (gd : Bool) (fw : Nat → Int32) (fr : Nat → Int32) (fb : Nat → Int32) (cnt : Int32) (kind : Int32) (rises : Int32) (total : Int64) (going : Int64) (width : Int64) (cf : Int32) (ct : Int32) (rule : Int32) (fo : Nat → Int64) : Int32 := 0
set_option maxHeartbeats 1500000 in
set_option maxRecDepth 100000 in
theorem c_L_meets (l : Launch) (dC : Nat → ClassId) (dI : Nat → Nat → Nat) (p0 : Nat) (pT : Nat) (pR : Nat) (pS : Nat) (pF : Nat) (h0 : Nat) (pQ : Nat) (pG : Nat) (tot : Int64) (pd : Bool) (gd : Bool) (aw : Nat) (ar : Nat) (ab : Nat) (cw : ClassId) (cr : ClassId) (cb : ClassId) (fw : Nat → Int32) (fr : Nat → Int32) (fb : Nat → Int32) (cnt : Int32) (kind : Int32) (rises : Int32) (total : Int64) (going : Int64) (width : Int64) (cf : Int32) (ct : Int32) (rule : Int32) (aO : Nat) (cO : ClassId) (fo : Nat → Int64) (hx9 : xP_meets tot pd gd fw fr fb cnt kind rises total going width cf ct rule = 0) : Met l mL_meets wL_meets ({ frames := 3, cells := 0, slots := 0, locals := 71 }) (tp_W (dC, dI) vCl [.ref p0, .int rule, .ref aO] [(p0, .inr (0, [.ref pT, .ref pR, .ref pS, .ref pF, .ref h0, .ref pQ, .ref pG, .long tot, .int (bI pd), .int (bI gd)])), (h0, .inr (4, [.int kind, .int rises, .long total, .long going, .long width, .int cf, .int ct])), (pR, .inr (2, [.ref aw, .ref ar, .ref ab, .int cnt])), (aw, .inl (cw, 40, .inl fw)), (ar, .inl (cr, 8, .inl fr)), (ab, .inl (cb, 8, .inl fb)), (aO, .inl (cO, 1, .inr (.inl fo)))] [(cw, .int), (cr, .char), (cb, .int), (cO, .long)]) (tq_W (dC, dI) vCl (some (.int (fL_meets tot pd gd fw fr fb cnt kind rises total going width cf ct rule fo))) [(p0, .inr (0, [.ref pT, .ref pR, .ref pS, .ref pF, .ref h0, .ref pQ, .ref pG, .long tot, .int (bI pd), .int (bI gd)])), (h0, .inr (4, [.int kind, .int rises, .long total, .long going, .long width, .int cf, .int ct])), (pR, .inr (2, [.ref aw, .ref ar, .ref ab, .int cnt])), (aw, .inl (cw, 40, .inl fw)), (ar, .inl (cr, 8, .inl fr)), (ab, .inl (cb, 8, .inl fb)), (aO, .inl (cO, 1, .inr (.inl fo)))] [(p0, .inr (0, [.ref pT, .ref pR, .ref pS, .ref pF, .ref h0, .ref pQ, .ref pG, .long tot, .int (bI pd), .int (bI gd)])), (h0, .inr (4, [.int kind, .int rises, .long total, .long going, .long width, .int cf, .int ct])), (pR, .inr (2, [.ref aw, .ref ar, .ref ab, .int cnt])), (aw, .inl (cw, 40, .inl fw)), (ar, .inl (cr, 8, .inl fr)), (ab, .inl (cb, 8, .inl fb)), (aO, .inl (cO, 1, .inr (.inl (fL_meets_a6 tot pd gd fw fr fb cnt kind rises total going width cf ct rule fo))))]) 0 0 (tA [(p0, .inr (0, [.ref pT, .ref pR, .ref pS, .ref pF, .ref h0, .ref pQ, .ref pG, .long tot, .int (bI pd), .int (bI gd)])), (h0, .inr (4, [.int kind, .int rises, .long total, .long going, .long width, .int cf, .int ct])), (pR, .inr (2, [.ref aw, .ref ar, .ref ab, .int cnt])), (aw, .inl (cw, 40, .inl fw)), (ar, .inl (cr, 8, .inl fr)), (ab, .inl (cb, 8, .inl fb)), (aO, .inl (cO, 1, .inr (.inl fo)))]) := by
  refine va_MetW (cc := bL_meets) (maxL := 4) (ret := (some .int)) (hh := [(0, 16, 19, 19), (0, 16, 22, 25)]) (by decide) rfl ?_
  intro p e s m args below meth c s₁ B hml hv
  obtain ⟨rfl, hP, hK, hN, hD0⟩ := hv
  have hx := B.exec
  have hb := B.bytes
  have hr := B.returns
  have hts : ∀ w ∈ gT, w.before _ s = true := fun w h => atoms_spec (ws := wL_meets) B.pre w (List.mem_cons_of_mem _ h)
  have hown : s.vm.findClass RL = some m.cls := findClass_of_methodNamed B.named
  have hlocks := B.notSynchronized
  have hD := tA_D hD0
  generalize hAe : tA [(p0, .inr (0, [.ref pT, .ref pR, .ref pS, .ref pF, .ref h0, .ref pQ, .ref pG, .long tot, .int (bI pd), .int (bI gd)])), (h0, .inr (4, [.int kind, .int rises, .long total, .long going, .long width, .int cf, .int ct])), (pR, .inr (2, [.ref aw, .ref ar, .ref ab, .int cnt])), (aw, .inl (cw, 40, .inl fw)), (ar, .inl (cr, 8, .inl fr)), (ab, .inl (cb, 8, .inl fb)), (aO, .inl (cO, 1, .inr (.inl fo)))] = A at hD ⊢
  have hS : va_S A s.heap s.heap [] := va_S.rf
  have hP : va_P (dC, dI) vCl [(p0, .inr (0, [.ref pT, .ref pR, .ref pS, .ref pF, .ref h0, .ref pQ, .ref pG, .long tot, .int (bI pd), .int (bI gd)])), (h0, .inr (4, [.int kind, .int rises, .long total, .long going, .long width, .int cf, .int ct])), (pR, .inr (2, [.ref aw, .ref ar, .ref ab, .int cnt])), (aw, .inl (cw, 40, .inl fw)), (ar, .inl (cr, 8, .inl fr)), (ab, .inl (cb, 8, .inl fb)), (aO, .inl (cO, 1, .inr (.inl fo)))] s.heap := hP
  have hl := lv_entry ([.ref p0, .int rule, .ref aO]) (n := 4) (Nat.le_of_ble_eq_true rfl)
  rw [lg_entry_eq]
  generalize (lg_sl ([.ref p0, .int rule, .ref aO]) ++ List.replicate (4 - (lg_sl ([.ref p0, .int rule, .ref aO])).length) Slot.unset).toArray = ls at hl ⊢
  have hl : lv_has ls 4 [(0, .ref p0), (1, .int rule), (2, .ref aO)] := hl
  refine lv_aload_n hx hb dL_meets_0 rfl (lv_at hl 2 rfl) ?_
  refine lv_iconst (v := 0) hx hb dL_meets_1 (by decide) ?_
  refine lv_aload_n hx hb dL_meets_2 rfl (lv_at hl 0 rfl) ?_
  refine lv_iload_n hx hb dL_meets_3 rfl (lv_at hl 1 rfl) ?_
  refine tr_go (st1 := [.int (bI (fP_meets tot pd gd fw fr fb cnt kind rises total going width cf ct rule)), .int 0, .ref aO]) (va_runV (As := [.int rule]) (rest := [.int 0, .ref aO]) (C := RP) ⟨hx, hb, hml, hown, hts⟩ (c_P_meets l dC dI p0 pT pR pS pF h0 pQ pG tot pd gd aw ar ab cw cr cb fw fr fb cnt kind rises total going width cf ct rule hx9) ⟨cB 1 hts gw_471 gw_1 gw_468 ndP_meets rfl rfl ⟨Nat.le_of_ble_eq_true rfl, Nat.le_of_ble_eq_true rfl⟩, hts _ gw_469, hts _ gw_470⟩ (tp_Rv hN hK hP [0, 1, 2, 3, 4, 5] [0, 1, 2] rfl rfl (q0 := 0) (ci := 0) rfl rfl) rfl rfl hl.1 rfl (lv_room (Nat.le_of_ble_eq_true rfl)) dL_meets_4 ⟨Nat.le_of_ble_eq_true rfl, Nat.le_of_ble_eq_true rfl⟩) rfl ?_
  refine tb_ifeq (tgt := 14) hx hb dL_meets_7 (by decide) (fun c_1 => ?_) (fun c_1 => ?_)
  · skip
    refine lv_lconst (v := 0) hx hb dL_meets_14 (by decide) ?_
    have b_2 : vp_in 0 1 := vp_in_nI (n := 0) (N := 1) (by decide) (by decide)
    refine va_last hx hb hK hP hD hS 6 3 rfl rfl b_2 dL_meets_15 (fun H locs hP hD hS => ?_)
    have hP : va_P (dC, dI) vCl [(p0, .inr (0, [.ref pT, .ref pR, .ref pS, .ref pF, .ref h0, .ref pQ, .ref pG, .long tot, .int (bI pd), .int (bI gd)])), (h0, .inr (4, [.int kind, .int rises, .long total, .long going, .long width, .int cf, .int ct])), (pR, .inr (2, [.ref aw, .ref ar, .ref ab, .int cnt])), (aw, .inl (cw, 40, .inl fw)), (ar, .inl (cr, 8, .inl fr)), (ab, .inl (cb, 8, .inl fb)), (aO, .inl (cO, 1, .inr (.inl (vp_updL fo (0 : Int32).toNatClampNeg 0))))] H := hP
    have hD : va_D A [(p0, .inr (0, [.ref pT, .ref pR, .ref pS, .ref pF, .ref h0, .ref pQ, .ref pG, .long tot, .int (bI pd), .int (bI gd)])), (h0, .inr (4, [.int kind, .int rises, .long total, .long going, .long width, .int cf, .int ct])), (pR, .inr (2, [.ref aw, .ref ar, .ref ab, .int cnt])), (aw, .inl (cw, 40, .inl fw)), (ar, .inl (cr, 8, .inl fr)), (ab, .inl (cb, 8, .inl fb)), (aO, .inl (cO, 1, .inr (.inl (vp_updL fo (0 : Int32).toNatClampNeg 0))))] := hD
    refine lv_goto (tgt := 25) hx hb dL_meets_16 (by decide) ?_
    refine lv_iconst (v := 0) hx hb dL_meets_25 (by decide) ?_
    exact W.iret (v := 0) hx hb hr (fun t ht hW => ⟨by rw [show fL_meets tot pd gd fw fr fb cnt kind rises total going width cf ct rule fo = 0 from by unfold fL_meets; rfl], by rw [ht, show fL_meets_a6 tot pd gd fw fr fb cnt kind rises total going width cf ct rule fo = vp_updL fo (0 : Int32).toNatClampNeg 0 from by unfold fL_meets_a6; rw [if_neg (Bool.eq_false_iff.mp c_1)]]; exact hP, by rw [hAe]; exact hS.F ht⟩) hS.2.2 dL_meets_26
  · skip
    refine lv_lconst (v := 1) hx hb dL_meets_10 (by decide) ?_
    refine lv_goto (tgt := 15) hx hb dL_meets_11 (by decide) ?_
    have b_3 : vp_in 0 1 := vp_in_nI (n := 0) (N := 1) (by decide) (by decide)
    refine va_last hx hb hK hP hD hS 6 3 rfl rfl b_3 dL_meets_15 (fun H locs hP hD hS => ?_)
    have hP : va_P (dC, dI) vCl [(p0, .inr (0, [.ref pT, .ref pR, .ref pS, .ref pF, .ref h0, .ref pQ, .ref pG, .long tot, .int (bI pd), .int (bI gd)])), (h0, .inr (4, [.int kind, .int rises, .long total, .long going, .long width, .int cf, .int ct])), (pR, .inr (2, [.ref aw, .ref ar, .ref ab, .int cnt])), (aw, .inl (cw, 40, .inl fw)), (ar, .inl (cr, 8, .inl fr)), (ab, .inl (cb, 8, .inl fb)), (aO, .inl (cO, 1, .inr (.inl (vp_updL fo (0 : Int32).toNatClampNeg 1))))] H := hP
    have hD : va_D A [(p0, .inr (0, [.ref pT, .ref pR, .ref pS, .ref pF, .ref h0, .ref pQ, .ref pG, .long tot, .int (bI pd), .int (bI gd)])), (h0, .inr (4, [.int kind, .int rises, .long total, .long going, .long width, .int cf, .int ct])), (pR, .inr (2, [.ref aw, .ref ar, .ref ab, .int cnt])), (aw, .inl (cw, 40, .inl fw)), (ar, .inl (cr, 8, .inl fr)), (ab, .inl (cb, 8, .inl fb)), (aO, .inl (cO, 1, .inr (.inl (vp_updL fo (0 : Int32).toNatClampNeg 1))))] := hD
    refine lv_goto (tgt := 25) hx hb dL_meets_16 (by decide) ?_
    refine lv_iconst (v := 0) hx hb dL_meets_25 (by decide) ?_
    exact W.iret (v := 0) hx hb hr (fun t ht hW => ⟨by rw [show fL_meets tot pd gd fw fr fb cnt kind rises total going width cf ct rule fo = 0 from by unfold fL_meets; rfl], by rw [ht, show fL_meets_a6 tot pd gd fw fr fb cnt kind rises total going width cf ct rule fo = vp_updL fo (0 : Int32).toNatClampNeg 1 from by unfold fL_meets_a6; rw [if_pos c_1]]; exact hP, by rw [hAe]; exact hS.F ht⟩) hS.2.2 dL_meets_26

set_option maxHeartbeats 1500000 in
set_option maxRecDepth 100000 in
theorem c_L_meets_ISE (l : Launch) (dC : Nat → ClassId) (dI : Nat → Nat → Nat) (p0 : Nat) (pT : Nat) (pR : Nat) (pS : Nat) (pF : Nat) (h0 : Nat) (pQ : Nat) (pG : Nat) (tot : Int64) (pd : Bool) (gd : Bool) (aw : Nat) (ar : Nat) (ab : Nat) (cw : ClassId) (cr : ClassId) (cb : ClassId) (fw : Nat → Int32) (fr : Nat → Int32) (fb : Nat → Int32) (cnt : Int32) (kind : Int32) (rises : Int32) (total : Int64) (going : Int64) (width : Int64) (cf : Int32) (ct : Int32) (rule : Int32) (aO : Nat) (cO : ClassId) (fo : Nat → Int64) (hfl : l.stackTraces = false) (hx9 : xP_meets tot pd gd fw fr fb cnt kind rises total going width cf ct rule = 1) : Met l mL_meets wL_meets ({ frames := 8, cells := 1, slots := 6, locals := 123 }) (tp_E (dC, dI) vCl [.ref p0, .int rule, .ref aO] [(p0, .inr (0, [.ref pT, .ref pR, .ref pS, .ref pF, .ref h0, .ref pQ, .ref pG, .long tot, .int (bI pd), .int (bI gd)])), (h0, .inr (4, [.int kind, .int rises, .long total, .long going, .long width, .int cf, .int ct])), (pR, .inr (2, [.ref aw, .ref ar, .ref ab, .int cnt])), (aw, .inl (cw, 40, .inl fw)), (ar, .inl (cr, 8, .inl fr)), (ab, .inl (cb, 8, .inl fb)), (aO, .inl (cO, 1, .inr (.inl fo)))] [(cw, .int), (cr, .char), (cb, .int), (cO, .long)]) (tq_E (some (.int 1))) 1 6 (fun _ => False) := by
  refine va_MetW (cc := bL_meets) (maxL := 4) (ret := (some .int)) (hh := [(0, 16, 19, 19), (0, 16, 22, 25)]) (by decide) rfl ?_
  intro p e s m args below meth c s₁ B hml hv
  obtain ⟨rfl, hP, hK, hN, hZ, hC⟩ := hv
  have hx := B.exec
  have hb := B.bytes
  have hr := B.returns
  have hts : ∀ w ∈ gT, w.before _ s = true := fun w h => atoms_spec (ws := wL_meets) B.pre w (List.mem_cons_of_mem _ h)
  have hown : s.vm.findClass RL = some m.cls := findClass_of_methodNamed B.named
  have hP : va_P (dC, dI) vCl [(p0, .inr (0, [.ref pT, .ref pR, .ref pS, .ref pF, .ref h0, .ref pQ, .ref pG, .long tot, .int (bI pd), .int (bI gd)])), (h0, .inr (4, [.int kind, .int rises, .long total, .long going, .long width, .int cf, .int ct])), (pR, .inr (2, [.ref aw, .ref ar, .ref ab, .int cnt])), (aw, .inl (cw, 40, .inl fw)), (ar, .inl (cr, 8, .inl fr)), (ab, .inl (cb, 8, .inl fb)), (aO, .inl (cO, 1, .inr (.inl fo)))] s.heap := hP
  have hl := lv_entry ([.ref p0, .int rule, .ref aO]) (n := 4) (Nat.le_of_ble_eq_true rfl)
  rw [lg_entry_eq]
  generalize (lg_sl ([.ref p0, .int rule, .ref aO]) ++ List.replicate (4 - (lg_sl ([.ref p0, .int rule, .ref aO])).length) Slot.unset).toArray = ls at hl ⊢
  have hl : lv_has ls 4 [(0, .ref p0), (1, .int rule), (2, .ref aO)] := hl
  refine lv_aload_n hx hb dL_meets_0 rfl (lv_at hl 2 rfl) ?_
  refine lv_iconst (v := 0) hx hb dL_meets_1 (by decide) ?_
  refine lv_aload_n hx hb dL_meets_2 rfl (lv_at hl 0 rfl) ?_
  refine lv_iload_n hx hb dL_meets_3 rfl (lv_at hl 1 rfl) ?_
  refine tw_runV (As := [.int rule]) (rest := [.int 0, .ref aO]) (C := RP) ⟨hx, hb, hml, hown, hts⟩ (t_P_meets_ISE l dC dI p0 pT pR pS pF h0 pQ pG tot pd gd aw ar ab cw cr cb fw fr fb cnt kind rises total going width cf ct rule hfl hx9) ⟨cB 1 hts gw_471 gw_1 gw_468 ndP_meets rfl rfl ⟨Nat.le_of_ble_eq_true rfl, Nat.le_of_ble_eq_true rfl⟩, hts _ gw_469, hts _ gw_470⟩ (tp_Tv hZ (fun _ _ => rfl) hN hK hP [0, 1, 2, 3, 4, 5] [0, 1, 2] rfl rfl (q0 := 0) (ci := 0) rfl rfl) rfl hl.1 rfl (Nat.le_of_ble_eq_true rfl) dL_meets_4 ⟨Nat.le_of_ble_eq_true rfl, Nat.le_of_ble_eq_true rfl⟩ (fun x9 H9 hN9 => ?_)
  refine tw_catch hown hN9 [] ⟨0, 16, 19, 19⟩ [⟨0, 16, 22, 25⟩] (tL_tab B List.mem_cons_self) (List.forall_mem_nil _) rfl (by decide) (tcl_S (word_at (a' := #[]) (State.WarmedH.refl s) (gT_good _ gw_300) (hts _ gw_300)) hC) ?_
  refine lv_astore_n (lv' := [(3, .ref x9), (0, .ref p0), (1, .int rule), (2, .ref aO)]) hx hb dL_meets_19 rfl hl (by decide) rfl (fun ls hl => ?_)
  refine lv_iconst (v := 1) hx hb dL_meets_20 (by decide) ?_
  exact W.iret (v := 1) hx hb hr (fun t ht hW => ⟨rfl, by rw [ht]; exact hN9.2.1, fun q hq => by rw [ht]; exact hN9.2.2.2 q hq⟩) (fun q h => by cases h) dL_meets_21

set_option maxHeartbeats 1500000 in
set_option maxRecDepth 100000 in
theorem c_L_meets_IOB (l : Launch) (dC : Nat → ClassId) (dI : Nat → Nat → Nat) (p0 : Nat) (pT : Nat) (pR : Nat) (pS : Nat) (pF : Nat) (h0 : Nat) (pQ : Nat) (pG : Nat) (tot : Int64) (pd : Bool) (gd : Bool) (aw : Nat) (ar : Nat) (ab : Nat) (cw : ClassId) (cr : ClassId) (cb : ClassId) (fw : Nat → Int32) (fr : Nat → Int32) (fb : Nat → Int32) (cnt : Int32) (kind : Int32) (rises : Int32) (total : Int64) (going : Int64) (width : Int64) (cf : Int32) (ct : Int32) (rule : Int32) (aO : Nat) (cO : ClassId) (fo : Nat → Int64) (hfl : l.stackTraces = false) (hx9 : xP_meets tot pd gd fw fr fb cnt kind rises total going width cf ct rule = 2) : Met l mL_meets wL_meets ({ frames := 8, cells := 1, slots := 6, locals := 124 }) (tp_E (dC, dI) vCl [.ref p0, .int rule, .ref aO] [(p0, .inr (0, [.ref pT, .ref pR, .ref pS, .ref pF, .ref h0, .ref pQ, .ref pG, .long tot, .int (bI pd), .int (bI gd)])), (h0, .inr (4, [.int kind, .int rises, .long total, .long going, .long width, .int cf, .int ct])), (pR, .inr (2, [.ref aw, .ref ar, .ref ab, .int cnt])), (aw, .inl (cw, 40, .inl fw)), (ar, .inl (cr, 8, .inl fr)), (ab, .inl (cb, 8, .inl fb)), (aO, .inl (cO, 1, .inr (.inl fo)))] [(cw, .int), (cr, .char), (cb, .int), (cO, .long)]) (tq_E (some (.int 2))) 1 6 (fun _ => False) := by
  refine va_MetW (cc := bL_meets) (maxL := 4) (ret := (some .int)) (hh := [(0, 16, 19, 19), (0, 16, 22, 25)]) (by decide) rfl ?_
  intro p e s m args below meth c s₁ B hml hv
  obtain ⟨rfl, hP, hK, hN, hZ, hC⟩ := hv
  have hx := B.exec
  have hb := B.bytes
  have hr := B.returns
  have hts : ∀ w ∈ gT, w.before _ s = true := fun w h => atoms_spec (ws := wL_meets) B.pre w (List.mem_cons_of_mem _ h)
  have hown : s.vm.findClass RL = some m.cls := findClass_of_methodNamed B.named
  have hP : va_P (dC, dI) vCl [(p0, .inr (0, [.ref pT, .ref pR, .ref pS, .ref pF, .ref h0, .ref pQ, .ref pG, .long tot, .int (bI pd), .int (bI gd)])), (h0, .inr (4, [.int kind, .int rises, .long total, .long going, .long width, .int cf, .int ct])), (pR, .inr (2, [.ref aw, .ref ar, .ref ab, .int cnt])), (aw, .inl (cw, 40, .inl fw)), (ar, .inl (cr, 8, .inl fr)), (ab, .inl (cb, 8, .inl fb)), (aO, .inl (cO, 1, .inr (.inl fo)))] s.heap := hP
  have hl := lv_entry ([.ref p0, .int rule, .ref aO]) (n := 4) (Nat.le_of_ble_eq_true rfl)
  rw [lg_entry_eq]
  generalize (lg_sl ([.ref p0, .int rule, .ref aO]) ++ List.replicate (4 - (lg_sl ([.ref p0, .int rule, .ref aO])).length) Slot.unset).toArray = ls at hl ⊢
  have hl : lv_has ls 4 [(0, .ref p0), (1, .int rule), (2, .ref aO)] := hl
  refine lv_aload_n hx hb dL_meets_0 rfl (lv_at hl 2 rfl) ?_
  refine lv_iconst (v := 0) hx hb dL_meets_1 (by decide) ?_
  refine lv_aload_n hx hb dL_meets_2 rfl (lv_at hl 0 rfl) ?_
  refine lv_iload_n hx hb dL_meets_3 rfl (lv_at hl 1 rfl) ?_
  refine tw_runV (As := [.int rule]) (rest := [.int 0, .ref aO]) (C := RP) ⟨hx, hb, hml, hown, hts⟩ (t_P_meets_IOB l dC dI p0 pT pR pS pF h0 pQ pG tot pd gd aw ar ab cw cr cb fw fr fb cnt kind rises total going width cf ct rule hfl hx9) ⟨cB 1 hts gw_471 gw_1 gw_468 ndP_meets rfl rfl ⟨Nat.le_of_ble_eq_true rfl, Nat.le_of_ble_eq_true rfl⟩, hts _ gw_469, hts _ gw_470⟩ (tp_Tv hZ (fun _ _ => rfl) hN hK hP [0, 1, 2, 3, 4, 5] [0, 1, 2] rfl rfl (q0 := 0) (ci := 0) rfl rfl) rfl hl.1 rfl (Nat.le_of_ble_eq_true rfl) dL_meets_4 ⟨Nat.le_of_ble_eq_true rfl, Nat.le_of_ble_eq_true rfl⟩ (fun x9 H9 hN9 => ?_)
  refine tw_catch hown hN9 [⟨0, 16, 19, 19⟩] ⟨0, 16, 22, 25⟩ [] (tL_tab B List.mem_cons_self) (List.forall_mem_cons.mpr ⟨⟨rfl, by decide, _, tcl_BS (word_at (a' := #[]) (State.WarmedH.refl s) (gT_good _ gw_300) (hts _ gw_300)) hC⟩, List.forall_mem_nil _⟩) rfl (by decide) (tcl_B (word_at (a' := #[]) (State.WarmedH.refl s) (gT_good _ gw_366) (hts _ gw_366)) hC) ?_
  refine lv_astore_n (lv' := [(3, .ref x9), (0, .ref p0), (1, .int rule), (2, .ref aO)]) hx hb dL_meets_22 rfl hl (by decide) rfl (fun ls hl => ?_)
  refine lv_iconst (v := 2) hx hb dL_meets_23 (by decide) ?_
  exact W.iret (v := 2) hx hb hr (fun t ht hW => ⟨rfl, by rw [ht]; exact hN9.2.1, fun q hq => by rw [ht]; exact hN9.2.2.2 q hq⟩) (fun q h => by cases h) dL_meets_24

def fL_floor_a7 (tot : Int64) (pd : Bool) (gd : Bool) (x0 : Nat → Int64) (y0 : Nat → Int64) (x1 : Nat → Int64) (y1 : Nat → Int64) (hh : Nat → Int64) (fc : Nat) (q1 : Int64) (q2 : Int64) (q3 : Int64) (q4 : Int64) (q5 : Int64) (fo : Nat → Int64) : Nat → Int64 := if (fP_floor tot pd gd x0 y0 x1 y1 hh fc q1 q2 q3 q4 q5) = true then (vp_updL fo (0 : Int32).toNatClampNeg 1) else (vp_updL fo (0 : Int32).toNatClampNeg 0)
def fL_floor (tot : Int64) (pd : Bool) (gd : Bool) (x0 : Nat → Int64) (y0 : Nat → Int64) (x1 : Nat → Int64) (y1 : Nat → Int64) (hh : Nat → Int64) (fc : Nat) (q1 : Int64) (q2 : Int64) (q3 : Int64) (q4 : Int64) (q5 : Int64) (fo : Nat → Int64) : Int32 := 0
set_option maxHeartbeats 1500000 in
set_option maxRecDepth 100000 in
theorem c_L_floor (l : Launch) (dC : Nat → ClassId) (dI : Nat → Nat → Nat) (p0 : Nat) (pT : Nat) (pR : Nat) (pS : Nat) (pF : Nat) (h0 : Nat) (pQ : Nat) (pG : Nat) (tot : Int64) (pd : Bool) (gd : Bool) (b1 : Nat) (b2 : Nat) (b3 : Nat) (b4 : Nat) (b5 : Nat) (d1 : ClassId) (d2 : ClassId) (d3 : ClassId) (d4 : ClassId) (d5 : ClassId) (x0 : Nat → Int64) (y0 : Nat → Int64) (x1 : Nat → Int64) (y1 : Nat → Int64) (hh : Nat → Int64) (fc : Nat) (q1 : Int64) (q2 : Int64) (q3 : Int64) (q4 : Int64) (q5 : Int64) (aO : Nat) (cO : ClassId) (fo : Nat → Int64) (hf : fc ≤ 8) (hx9 : xP_floor tot pd gd x0 y0 x1 y1 hh fc q1 q2 q3 q4 q5 = 0) : Met l mL_floor wL_floor ({ frames := 2, cells := 0, slots := 0, locals := 60 }) (tp_W (dC, dI) vCl [.ref p0, .long q1, .long q2, .long q3, .long q4, .long q5, .ref aO] [(p0, .inr (0, [.ref pT, .ref pR, .ref pS, .ref pF, .ref h0, .ref pQ, .ref pG, .long tot, .int (bI pd), .int (bI gd)])), (pF, .inr (3, [.ref b1, .ref b2, .ref b3, .ref b4, .ref b5, .int (nI fc)])), (b1, .inl (d1, 8, .inr (.inl x0))), (b2, .inl (d2, 8, .inr (.inl y0))), (b3, .inl (d3, 8, .inr (.inl x1))), (b4, .inl (d4, 8, .inr (.inl y1))), (b5, .inl (d5, 8, .inr (.inl hh))), (aO, .inl (cO, 1, .inr (.inl fo)))] [(d1, .long), (d2, .long), (d3, .long), (d4, .long), (d5, .long), (cO, .long)]) (tq_W (dC, dI) vCl (some (.int (fL_floor tot pd gd x0 y0 x1 y1 hh fc q1 q2 q3 q4 q5 fo))) [(p0, .inr (0, [.ref pT, .ref pR, .ref pS, .ref pF, .ref h0, .ref pQ, .ref pG, .long tot, .int (bI pd), .int (bI gd)])), (pF, .inr (3, [.ref b1, .ref b2, .ref b3, .ref b4, .ref b5, .int (nI fc)])), (b1, .inl (d1, 8, .inr (.inl x0))), (b2, .inl (d2, 8, .inr (.inl y0))), (b3, .inl (d3, 8, .inr (.inl x1))), (b4, .inl (d4, 8, .inr (.inl y1))), (b5, .inl (d5, 8, .inr (.inl hh))), (aO, .inl (cO, 1, .inr (.inl fo)))] [(p0, .inr (0, [.ref pT, .ref pR, .ref pS, .ref pF, .ref h0, .ref pQ, .ref pG, .long tot, .int (bI pd), .int (bI gd)])), (pF, .inr (3, [.ref b1, .ref b2, .ref b3, .ref b4, .ref b5, .int (nI (fF_append_c0f5 x0 y0 x1 y1 hh fc q1 q2 q3 q4 q5))])), (b1, .inl (d1, 8, .inr (.inl (fF_append_a1 x0 y0 x1 y1 hh fc q1 q2 q3 q4 q5)))), (b2, .inl (d2, 8, .inr (.inl (fF_append_a2 x0 y0 x1 y1 hh fc q1 q2 q3 q4 q5)))), (b3, .inl (d3, 8, .inr (.inl (fF_append_a3 x0 y0 x1 y1 hh fc q1 q2 q3 q4 q5)))), (b4, .inl (d4, 8, .inr (.inl (fF_append_a4 x0 y0 x1 y1 hh fc q1 q2 q3 q4 q5)))), (b5, .inl (d5, 8, .inr (.inl (fF_append_a5 x0 y0 x1 y1 hh fc q1 q2 q3 q4 q5)))), (aO, .inl (cO, 1, .inr (.inl (fL_floor_a7 tot pd gd x0 y0 x1 y1 hh fc q1 q2 q3 q4 q5 fo))))]) 0 0 (tA [(p0, .inr (0, [.ref pT, .ref pR, .ref pS, .ref pF, .ref h0, .ref pQ, .ref pG, .long tot, .int (bI pd), .int (bI gd)])), (pF, .inr (3, [.ref b1, .ref b2, .ref b3, .ref b4, .ref b5, .int (nI fc)])), (b1, .inl (d1, 8, .inr (.inl x0))), (b2, .inl (d2, 8, .inr (.inl y0))), (b3, .inl (d3, 8, .inr (.inl x1))), (b4, .inl (d4, 8, .inr (.inl y1))), (b5, .inl (d5, 8, .inr (.inl hh))), (aO, .inl (cO, 1, .inr (.inl fo)))]) := by
  refine va_MetW (cc := bL_floor) (maxL := 13) (ret := (some .int)) (hh := [(0, 24, 27, 13)]) (by decide) rfl ?_
  intro p e s m args below meth c s₁ B hml hv
  obtain ⟨rfl, hP, hK, hN, hD0⟩ := hv
  have hx := B.exec
  have hb := B.bytes
  have hr := B.returns
  have hts : ∀ w ∈ gT, w.before _ s = true := fun w h => atoms_spec (ws := wL_floor) B.pre w (List.mem_cons_of_mem _ h)
  have hown : s.vm.findClass RL = some m.cls := findClass_of_methodNamed B.named
  have hlocks := B.notSynchronized
  have hD := tA_D hD0
  generalize hAe : tA [(p0, .inr (0, [.ref pT, .ref pR, .ref pS, .ref pF, .ref h0, .ref pQ, .ref pG, .long tot, .int (bI pd), .int (bI gd)])), (pF, .inr (3, [.ref b1, .ref b2, .ref b3, .ref b4, .ref b5, .int (nI fc)])), (b1, .inl (d1, 8, .inr (.inl x0))), (b2, .inl (d2, 8, .inr (.inl y0))), (b3, .inl (d3, 8, .inr (.inl x1))), (b4, .inl (d4, 8, .inr (.inl y1))), (b5, .inl (d5, 8, .inr (.inl hh))), (aO, .inl (cO, 1, .inr (.inl fo)))] = A at hD ⊢
  have hS : va_S A s.heap s.heap [] := va_S.rf
  have hP : va_P (dC, dI) vCl [(p0, .inr (0, [.ref pT, .ref pR, .ref pS, .ref pF, .ref h0, .ref pQ, .ref pG, .long tot, .int (bI pd), .int (bI gd)])), (pF, .inr (3, [.ref b1, .ref b2, .ref b3, .ref b4, .ref b5, .int (nI fc)])), (b1, .inl (d1, 8, .inr (.inl x0))), (b2, .inl (d2, 8, .inr (.inl y0))), (b3, .inl (d3, 8, .inr (.inl x1))), (b4, .inl (d4, 8, .inr (.inl y1))), (b5, .inl (d5, 8, .inr (.inl hh))), (aO, .inl (cO, 1, .inr (.inl fo)))] s.heap := hP
  have hl := lv_entry ([.ref p0, .long q1, .long q2, .long q3, .long q4, .long q5, .ref aO]) (n := 13) (Nat.le_of_ble_eq_true rfl)
  rw [lg_entry_eq]
  generalize (lg_sl ([.ref p0, .long q1, .long q2, .long q3, .long q4, .long q5, .ref aO]) ++ List.replicate (13 - (lg_sl ([.ref p0, .long q1, .long q2, .long q3, .long q4, .long q5, .ref aO])).length) Slot.unset).toArray = ls at hl ⊢
  have hl : lv_has ls 13 [(0, .ref p0), (1, .long q1), (3, .long q2), (5, .long q3), (7, .long q4), (9, .long q5), (11, .ref aO)] := hl
  refine lv_aload hx hb dL_floor_0 (lv_at hl 6 rfl) ?_
  refine lv_iconst (v := 0) hx hb dL_floor_2 (by decide) ?_
  refine lv_aload_n hx hb dL_floor_3 rfl (lv_at hl 0 rfl) ?_
  refine lv_lload_n hx hb dL_floor_4 rfl (lv_at hl 1 rfl) ?_
  refine lv_lload_n hx hb dL_floor_5 rfl (lv_at hl 2 rfl) ?_
  refine lv_lload hx hb dL_floor_6 (lv_at hl 3 rfl) ?_
  refine lv_lload hx hb dL_floor_8 (lv_at hl 4 rfl) ?_
  refine lv_lload hx hb dL_floor_10 (lv_at hl 5 rfl) ?_
  refine tc_go (st1 := [.int (bI (fP_floor tot pd gd x0 y0 x1 y1 hh fc q1 q2 q3 q4 q5)), .int 0, .ref aO]) (ws' := [(p0, .inr (0, [.ref pT, .ref pR, .ref pS, .ref pF, .ref h0, .ref pQ, .ref pG, .long tot, .int (bI pd), .int (bI gd)])), (pF, .inr (3, [.ref b1, .ref b2, .ref b3, .ref b4, .ref b5, .int (nI (fF_append_c0f5 x0 y0 x1 y1 hh fc q1 q2 q3 q4 q5))])), (b1, .inl (d1, 8, .inr (.inl (fF_append_a1 x0 y0 x1 y1 hh fc q1 q2 q3 q4 q5)))), (b2, .inl (d2, 8, .inr (.inl (fF_append_a2 x0 y0 x1 y1 hh fc q1 q2 q3 q4 q5)))), (b3, .inl (d3, 8, .inr (.inl (fF_append_a3 x0 y0 x1 y1 hh fc q1 q2 q3 q4 q5)))), (b4, .inl (d4, 8, .inr (.inl (fF_append_a4 x0 y0 x1 y1 hh fc q1 q2 q3 q4 q5)))), (b5, .inl (d5, 8, .inr (.inl (fF_append_a5 x0 y0 x1 y1 hh fc q1 q2 q3 q4 q5)))), (aO, .inl (cO, 1, .inr (.inl fo)))]) (va_runV (As := [.long q1, .long q2, .long q3, .long q4, .long q5]) (rest := [.int 0, .ref aO]) (C := RP) ⟨hx, hb, hml, hown, hts⟩ (c_P_floor l dC dI p0 pT pR pS pF h0 pQ pG tot pd gd b1 b2 b3 b4 b5 d1 d2 d3 d4 d5 x0 y0 x1 y1 hh fc q1 q2 q3 q4 q5 hf hx9) ⟨cB 5 hts gw_479 gw_1 gw_476 ndP_floor rfl rfl ⟨Nat.le_of_ble_eq_true rfl, Nat.le_of_ble_eq_true rfl⟩, hts _ gw_477, hts _ gw_478⟩ (tp_Wv hN hK hP hD [0, 1, 2, 3, 4, 5, 6] [0, 1, 2, 3, 4] rfl (by decide) rfl (q0 := 0) (ci := 0) rfl rfl) rfl rfl hl.1 rfl (lv_room (Nat.le_of_ble_eq_true rfl)) dL_floor_12 ⟨Nat.le_of_ble_eq_true rfl, Nat.le_of_ble_eq_true rfl⟩) rfl hP hD hS [0, 1, 2, 3, 4, 5, 6] rfl (show [p0, pF, b1, b2, b3, b4, b5] = [p0, pF, b1, b2, b3, b4, b5] from rfl) rfl (fun H locs hP hD hS => ?_)
  have hP : va_P (dC, dI) vCl [(p0, .inr (0, [.ref pT, .ref pR, .ref pS, .ref pF, .ref h0, .ref pQ, .ref pG, .long tot, .int (bI pd), .int (bI gd)])), (pF, .inr (3, [.ref b1, .ref b2, .ref b3, .ref b4, .ref b5, .int (nI (fF_append_c0f5 x0 y0 x1 y1 hh fc q1 q2 q3 q4 q5))])), (b1, .inl (d1, 8, .inr (.inl (fF_append_a1 x0 y0 x1 y1 hh fc q1 q2 q3 q4 q5)))), (b2, .inl (d2, 8, .inr (.inl (fF_append_a2 x0 y0 x1 y1 hh fc q1 q2 q3 q4 q5)))), (b3, .inl (d3, 8, .inr (.inl (fF_append_a3 x0 y0 x1 y1 hh fc q1 q2 q3 q4 q5)))), (b4, .inl (d4, 8, .inr (.inl (fF_append_a4 x0 y0 x1 y1 hh fc q1 q2 q3 q4 q5)))), (b5, .inl (d5, 8, .inr (.inl (fF_append_a5 x0 y0 x1 y1 hh fc q1 q2 q3 q4 q5)))), (aO, .inl (cO, 1, .inr (.inl fo)))] H := hP
  have hD : va_D A [(p0, .inr (0, [.ref pT, .ref pR, .ref pS, .ref pF, .ref h0, .ref pQ, .ref pG, .long tot, .int (bI pd), .int (bI gd)])), (pF, .inr (3, [.ref b1, .ref b2, .ref b3, .ref b4, .ref b5, .int (nI (fF_append_c0f5 x0 y0 x1 y1 hh fc q1 q2 q3 q4 q5))])), (b1, .inl (d1, 8, .inr (.inl (fF_append_a1 x0 y0 x1 y1 hh fc q1 q2 q3 q4 q5)))), (b2, .inl (d2, 8, .inr (.inl (fF_append_a2 x0 y0 x1 y1 hh fc q1 q2 q3 q4 q5)))), (b3, .inl (d3, 8, .inr (.inl (fF_append_a3 x0 y0 x1 y1 hh fc q1 q2 q3 q4 q5)))), (b4, .inl (d4, 8, .inr (.inl (fF_append_a4 x0 y0 x1 y1 hh fc q1 q2 q3 q4 q5)))), (b5, .inl (d5, 8, .inr (.inl (fF_append_a5 x0 y0 x1 y1 hh fc q1 q2 q3 q4 q5)))), (aO, .inl (cO, 1, .inr (.inl fo)))] := hD
  refine tb_ifeq (tgt := 22) hx hb dL_floor_15 (by decide) (fun c_1 => ?_) (fun c_1 => ?_)
  · skip
    refine lv_lconst (v := 0) hx hb dL_floor_22 (by decide) ?_
    have b_2 : vp_in 0 1 := vp_in_nI (n := 0) (N := 1) (by decide) (by decide)
    refine va_last hx hb hK hP hD hS 7 5 rfl rfl b_2 dL_floor_23 (fun H locs hP hD hS => ?_)
    have hP : va_P (dC, dI) vCl [(p0, .inr (0, [.ref pT, .ref pR, .ref pS, .ref pF, .ref h0, .ref pQ, .ref pG, .long tot, .int (bI pd), .int (bI gd)])), (pF, .inr (3, [.ref b1, .ref b2, .ref b3, .ref b4, .ref b5, .int (nI (fF_append_c0f5 x0 y0 x1 y1 hh fc q1 q2 q3 q4 q5))])), (b1, .inl (d1, 8, .inr (.inl (fF_append_a1 x0 y0 x1 y1 hh fc q1 q2 q3 q4 q5)))), (b2, .inl (d2, 8, .inr (.inl (fF_append_a2 x0 y0 x1 y1 hh fc q1 q2 q3 q4 q5)))), (b3, .inl (d3, 8, .inr (.inl (fF_append_a3 x0 y0 x1 y1 hh fc q1 q2 q3 q4 q5)))), (b4, .inl (d4, 8, .inr (.inl (fF_append_a4 x0 y0 x1 y1 hh fc q1 q2 q3 q4 q5)))), (b5, .inl (d5, 8, .inr (.inl (fF_append_a5 x0 y0 x1 y1 hh fc q1 q2 q3 q4 q5)))), (aO, .inl (cO, 1, .inr (.inl (vp_updL fo (0 : Int32).toNatClampNeg 0))))] H := hP
    have hD : va_D A [(p0, .inr (0, [.ref pT, .ref pR, .ref pS, .ref pF, .ref h0, .ref pQ, .ref pG, .long tot, .int (bI pd), .int (bI gd)])), (pF, .inr (3, [.ref b1, .ref b2, .ref b3, .ref b4, .ref b5, .int (nI (fF_append_c0f5 x0 y0 x1 y1 hh fc q1 q2 q3 q4 q5))])), (b1, .inl (d1, 8, .inr (.inl (fF_append_a1 x0 y0 x1 y1 hh fc q1 q2 q3 q4 q5)))), (b2, .inl (d2, 8, .inr (.inl (fF_append_a2 x0 y0 x1 y1 hh fc q1 q2 q3 q4 q5)))), (b3, .inl (d3, 8, .inr (.inl (fF_append_a3 x0 y0 x1 y1 hh fc q1 q2 q3 q4 q5)))), (b4, .inl (d4, 8, .inr (.inl (fF_append_a4 x0 y0 x1 y1 hh fc q1 q2 q3 q4 q5)))), (b5, .inl (d5, 8, .inr (.inl (fF_append_a5 x0 y0 x1 y1 hh fc q1 q2 q3 q4 q5)))), (aO, .inl (cO, 1, .inr (.inl (vp_updL fo (0 : Int32).toNatClampNeg 0))))] := hD
    refine lv_goto (tgt := 31) hx hb dL_floor_24 (by decide) ?_
    refine lv_iconst (v := 0) hx hb dL_floor_31 (by decide) ?_
    exact W.iret (v := 0) hx hb hr (fun t ht hW => ⟨by rw [show fL_floor tot pd gd x0 y0 x1 y1 hh fc q1 q2 q3 q4 q5 fo = 0 from by unfold fL_floor; rfl], by rw [ht, show fL_floor_a7 tot pd gd x0 y0 x1 y1 hh fc q1 q2 q3 q4 q5 fo = vp_updL fo (0 : Int32).toNatClampNeg 0 from by unfold fL_floor_a7; rw [if_neg (Bool.eq_false_iff.mp c_1)]]; exact hP, by rw [hAe]; exact hS.F ht⟩) hS.2.2 dL_floor_32
  · skip
    refine lv_lconst (v := 1) hx hb dL_floor_18 (by decide) ?_
    refine lv_goto (tgt := 23) hx hb dL_floor_19 (by decide) ?_
    have b_3 : vp_in 0 1 := vp_in_nI (n := 0) (N := 1) (by decide) (by decide)
    refine va_last hx hb hK hP hD hS 7 5 rfl rfl b_3 dL_floor_23 (fun H locs hP hD hS => ?_)
    have hP : va_P (dC, dI) vCl [(p0, .inr (0, [.ref pT, .ref pR, .ref pS, .ref pF, .ref h0, .ref pQ, .ref pG, .long tot, .int (bI pd), .int (bI gd)])), (pF, .inr (3, [.ref b1, .ref b2, .ref b3, .ref b4, .ref b5, .int (nI (fF_append_c0f5 x0 y0 x1 y1 hh fc q1 q2 q3 q4 q5))])), (b1, .inl (d1, 8, .inr (.inl (fF_append_a1 x0 y0 x1 y1 hh fc q1 q2 q3 q4 q5)))), (b2, .inl (d2, 8, .inr (.inl (fF_append_a2 x0 y0 x1 y1 hh fc q1 q2 q3 q4 q5)))), (b3, .inl (d3, 8, .inr (.inl (fF_append_a3 x0 y0 x1 y1 hh fc q1 q2 q3 q4 q5)))), (b4, .inl (d4, 8, .inr (.inl (fF_append_a4 x0 y0 x1 y1 hh fc q1 q2 q3 q4 q5)))), (b5, .inl (d5, 8, .inr (.inl (fF_append_a5 x0 y0 x1 y1 hh fc q1 q2 q3 q4 q5)))), (aO, .inl (cO, 1, .inr (.inl (vp_updL fo (0 : Int32).toNatClampNeg 1))))] H := hP
    have hD : va_D A [(p0, .inr (0, [.ref pT, .ref pR, .ref pS, .ref pF, .ref h0, .ref pQ, .ref pG, .long tot, .int (bI pd), .int (bI gd)])), (pF, .inr (3, [.ref b1, .ref b2, .ref b3, .ref b4, .ref b5, .int (nI (fF_append_c0f5 x0 y0 x1 y1 hh fc q1 q2 q3 q4 q5))])), (b1, .inl (d1, 8, .inr (.inl (fF_append_a1 x0 y0 x1 y1 hh fc q1 q2 q3 q4 q5)))), (b2, .inl (d2, 8, .inr (.inl (fF_append_a2 x0 y0 x1 y1 hh fc q1 q2 q3 q4 q5)))), (b3, .inl (d3, 8, .inr (.inl (fF_append_a3 x0 y0 x1 y1 hh fc q1 q2 q3 q4 q5)))), (b4, .inl (d4, 8, .inr (.inl (fF_append_a4 x0 y0 x1 y1 hh fc q1 q2 q3 q4 q5)))), (b5, .inl (d5, 8, .inr (.inl (fF_append_a5 x0 y0 x1 y1 hh fc q1 q2 q3 q4 q5)))), (aO, .inl (cO, 1, .inr (.inl (vp_updL fo (0 : Int32).toNatClampNeg 1))))] := hD
    refine lv_goto (tgt := 31) hx hb dL_floor_24 (by decide) ?_
    refine lv_iconst (v := 0) hx hb dL_floor_31 (by decide) ?_
    exact W.iret (v := 0) hx hb hr (fun t ht hW => ⟨by rw [show fL_floor tot pd gd x0 y0 x1 y1 hh fc q1 q2 q3 q4 q5 fo = 0 from by unfold fL_floor; rfl], by rw [ht, show fL_floor_a7 tot pd gd x0 y0 x1 y1 hh fc q1 q2 q3 q4 q5 fo = vp_updL fo (0 : Int32).toNatClampNeg 1 from by unfold fL_floor_a7; rw [if_pos c_1]]; exact hP, by rw [hAe]; exact hS.F ht⟩) hS.2.2 dL_floor_32

set_option maxHeartbeats 1500000 in
set_option maxRecDepth 100000 in
theorem c_L_floor_IAE (l : Launch) (dC : Nat → ClassId) (dI : Nat → Nat → Nat) (p0 : Nat) (pT : Nat) (pR : Nat) (pS : Nat) (pF : Nat) (h0 : Nat) (pQ : Nat) (pG : Nat) (tot : Int64) (pd : Bool) (gd : Bool) (b1 : Nat) (b2 : Nat) (b3 : Nat) (b4 : Nat) (b5 : Nat) (d1 : ClassId) (d2 : ClassId) (d3 : ClassId) (d4 : ClassId) (d5 : ClassId) (x0 : Nat → Int64) (y0 : Nat → Int64) (x1 : Nat → Int64) (y1 : Nat → Int64) (hh : Nat → Int64) (fc : Nat) (q1 : Int64) (q2 : Int64) (q3 : Int64) (q4 : Int64) (q5 : Int64) (aO : Nat) (cO : ClassId) (fo : Nat → Int64) (hf : fc ≤ 8) (hfl : l.stackTraces = false) (hx9 : xP_floor tot pd gd x0 y0 x1 y1 hh fc q1 q2 q3 q4 q5 = 1) : Met l mL_floor wL_floor ({ frames := 7, cells := 1, slots := 6, locals := 112 }) (tp_E (dC, dI) vCl [.ref p0, .long q1, .long q2, .long q3, .long q4, .long q5, .ref aO] [(p0, .inr (0, [.ref pT, .ref pR, .ref pS, .ref pF, .ref h0, .ref pQ, .ref pG, .long tot, .int (bI pd), .int (bI gd)])), (pF, .inr (3, [.ref b1, .ref b2, .ref b3, .ref b4, .ref b5, .int (nI fc)])), (b1, .inl (d1, 8, .inr (.inl x0))), (b2, .inl (d2, 8, .inr (.inl y0))), (b3, .inl (d3, 8, .inr (.inl x1))), (b4, .inl (d4, 8, .inr (.inl y1))), (b5, .inl (d5, 8, .inr (.inl hh))), (aO, .inl (cO, 1, .inr (.inl fo)))] [(d1, .long), (d2, .long), (d3, .long), (d4, .long), (d5, .long), (cO, .long)]) (tq_E (some (.int 1))) 1 6 (fun _ => False) := by
  refine va_MetW (cc := bL_floor) (maxL := 13) (ret := (some .int)) (hh := [(0, 24, 27, 13)]) (by decide) rfl ?_
  intro p e s m args below meth c s₁ B hml hv
  obtain ⟨rfl, hP, hK, hN, hZ, hC⟩ := hv
  have hx := B.exec
  have hb := B.bytes
  have hr := B.returns
  have hts : ∀ w ∈ gT, w.before _ s = true := fun w h => atoms_spec (ws := wL_floor) B.pre w (List.mem_cons_of_mem _ h)
  have hown : s.vm.findClass RL = some m.cls := findClass_of_methodNamed B.named
  have hP : va_P (dC, dI) vCl [(p0, .inr (0, [.ref pT, .ref pR, .ref pS, .ref pF, .ref h0, .ref pQ, .ref pG, .long tot, .int (bI pd), .int (bI gd)])), (pF, .inr (3, [.ref b1, .ref b2, .ref b3, .ref b4, .ref b5, .int (nI fc)])), (b1, .inl (d1, 8, .inr (.inl x0))), (b2, .inl (d2, 8, .inr (.inl y0))), (b3, .inl (d3, 8, .inr (.inl x1))), (b4, .inl (d4, 8, .inr (.inl y1))), (b5, .inl (d5, 8, .inr (.inl hh))), (aO, .inl (cO, 1, .inr (.inl fo)))] s.heap := hP
  have hl := lv_entry ([.ref p0, .long q1, .long q2, .long q3, .long q4, .long q5, .ref aO]) (n := 13) (Nat.le_of_ble_eq_true rfl)
  rw [lg_entry_eq]
  generalize (lg_sl ([.ref p0, .long q1, .long q2, .long q3, .long q4, .long q5, .ref aO]) ++ List.replicate (13 - (lg_sl ([.ref p0, .long q1, .long q2, .long q3, .long q4, .long q5, .ref aO])).length) Slot.unset).toArray = ls at hl ⊢
  have hl : lv_has ls 13 [(0, .ref p0), (1, .long q1), (3, .long q2), (5, .long q3), (7, .long q4), (9, .long q5), (11, .ref aO)] := hl
  refine lv_aload hx hb dL_floor_0 (lv_at hl 6 rfl) ?_
  refine lv_iconst (v := 0) hx hb dL_floor_2 (by decide) ?_
  refine lv_aload_n hx hb dL_floor_3 rfl (lv_at hl 0 rfl) ?_
  refine lv_lload_n hx hb dL_floor_4 rfl (lv_at hl 1 rfl) ?_
  refine lv_lload_n hx hb dL_floor_5 rfl (lv_at hl 2 rfl) ?_
  refine lv_lload hx hb dL_floor_6 (lv_at hl 3 rfl) ?_
  refine lv_lload hx hb dL_floor_8 (lv_at hl 4 rfl) ?_
  refine lv_lload hx hb dL_floor_10 (lv_at hl 5 rfl) ?_
  refine tw_runV (As := [.long q1, .long q2, .long q3, .long q4, .long q5]) (rest := [.int 0, .ref aO]) (C := RP) ⟨hx, hb, hml, hown, hts⟩ (t_P_floor_IAE l dC dI p0 pT pR pS pF h0 pQ pG tot pd gd b1 b2 b3 b4 b5 d1 d2 d3 d4 d5 x0 y0 x1 y1 hh fc q1 q2 q3 q4 q5 hf hfl hx9) ⟨cB 5 hts gw_479 gw_1 gw_476 ndP_floor rfl rfl ⟨Nat.le_of_ble_eq_true rfl, Nat.le_of_ble_eq_true rfl⟩, hts _ gw_477, hts _ gw_478⟩ (tp_Tv hZ (fun _ _ => rfl) hN hK hP [0, 1, 2, 3, 4, 5, 6] [0, 1, 2, 3, 4] rfl rfl (q0 := 0) (ci := 0) rfl rfl) rfl hl.1 rfl (Nat.le_of_ble_eq_true rfl) dL_floor_12 ⟨Nat.le_of_ble_eq_true rfl, Nat.le_of_ble_eq_true rfl⟩ (fun x9 H9 hN9 => ?_)
  refine tw_catch hown hN9 [] ⟨0, 24, 27, 13⟩ [] (tL_tab B List.mem_cons_self) (List.forall_mem_nil _) rfl (by decide) (tcl_A (word_at (a' := #[]) (State.WarmedH.refl s) (gT_good _ gw_244) (hts _ gw_244)) hC) ?_
  refine lv_astore (lv' := [(12, .ref x9), (0, .ref p0), (1, .long q1), (3, .long q2), (5, .long q3), (7, .long q4), (9, .long q5), (11, .ref aO)]) hx hb dL_floor_27 hl (by decide) rfl (fun ls hl => ?_)
  refine lv_iconst (v := 1) hx hb dL_floor_29 (by decide) ?_
  exact W.iret (v := 1) hx hb hr (fun t ht hW => ⟨rfl, by rw [ht]; exact hN9.2.1, fun q hq => by rw [ht]; exact hN9.2.2.2 q hq⟩) (fun q h => by cases h) dL_floor_30

def fL_headRoom (tot : Int64) (pd : Bool) (gd : Bool) (x0 : Nat → Int64) (y0 : Nat → Int64) (x1 : Nat → Int64) (y1 : Nat → Int64) (hh : Nat → Int64) (fc : Nat) (kind : Int32) (rises : Int32) (total : Int64) (going : Int64) (width : Int64) (cf : Int32) (ct : Int32) (tr : Nat) (fo : Nat → Int64) : Int32 := 0
set_option maxHeartbeats 1500000 in
set_option maxRecDepth 100000 in
theorem c_L_headRoom (l : Launch) (dC : Nat → ClassId) (dI : Nat → Nat → Nat) (p0 : Nat) (pT : Nat) (pR : Nat) (pS : Nat) (pF : Nat) (h0 : Nat) (pQ : Nat) (pG : Nat) (tot : Int64) (pd : Bool) (gd : Bool) (b1 : Nat) (b2 : Nat) (b3 : Nat) (b4 : Nat) (b5 : Nat) (d1 : ClassId) (d2 : ClassId) (d3 : ClassId) (d4 : ClassId) (d5 : ClassId) (x0 : Nat → Int64) (y0 : Nat → Int64) (x1 : Nat → Int64) (y1 : Nat → Int64) (hh : Nat → Int64) (fc : Nat) (kind : Int32) (rises : Int32) (total : Int64) (going : Int64) (width : Int64) (cf : Int32) (ct : Int32) (tr : Nat) (aO : Nat) (cO : ClassId) (fo : Nat → Int64) (hf : fc ≤ 8) (ht : tr ≤ 60) (hr0 : rises - 1 = nI tr) (hx9 : xP_headRoom tot pd gd x0 y0 x1 y1 hh fc kind rises total going width cf ct tr = 0) : Met l mL_headRoom wL_headRoom ({ frames := 6, cells := 0, slots := 0, locals := 131 }) (tp_W (dC, dI) vCl [.ref p0, .ref aO] [(p0, .inr (0, [.ref pT, .ref pR, .ref pS, .ref pF, .ref h0, .ref pQ, .ref pG, .long tot, .int (bI pd), .int (bI gd)])), (pF, .inr (3, [.ref b1, .ref b2, .ref b3, .ref b4, .ref b5, .int (nI fc)])), (b1, .inl (d1, 8, .inr (.inl x0))), (b2, .inl (d2, 8, .inr (.inl y0))), (b3, .inl (d3, 8, .inr (.inl x1))), (b4, .inl (d4, 8, .inr (.inl y1))), (b5, .inl (d5, 8, .inr (.inl hh))), (h0, .inr (4, [.int kind, .int rises, .long total, .long going, .long width, .int cf, .int ct])), (aO, .inl (cO, 1, .inr (.inl fo)))] [(d1, .long), (d2, .long), (d3, .long), (d4, .long), (d5, .long), (cO, .long)]) (tq_W (dC, dI) vCl (some (.int (fL_headRoom tot pd gd x0 y0 x1 y1 hh fc kind rises total going width cf ct tr fo))) [(p0, .inr (0, [.ref pT, .ref pR, .ref pS, .ref pF, .ref h0, .ref pQ, .ref pG, .long tot, .int (bI pd), .int (bI gd)])), (pF, .inr (3, [.ref b1, .ref b2, .ref b3, .ref b4, .ref b5, .int (nI fc)])), (b1, .inl (d1, 8, .inr (.inl x0))), (b2, .inl (d2, 8, .inr (.inl y0))), (b3, .inl (d3, 8, .inr (.inl x1))), (b4, .inl (d4, 8, .inr (.inl y1))), (b5, .inl (d5, 8, .inr (.inl hh))), (h0, .inr (4, [.int kind, .int rises, .long total, .long going, .long width, .int cf, .int ct])), (aO, .inl (cO, 1, .inr (.inl fo)))] [(p0, .inr (0, [.ref pT, .ref pR, .ref pS, .ref pF, .ref h0, .ref pQ, .ref pG, .long tot, .int (bI pd), .int (bI gd)])), (pF, .inr (3, [.ref b1, .ref b2, .ref b3, .ref b4, .ref b5, .int (nI fc)])), (b1, .inl (d1, 8, .inr (.inl x0))), (b2, .inl (d2, 8, .inr (.inl y0))), (b3, .inl (d3, 8, .inr (.inl x1))), (b4, .inl (d4, 8, .inr (.inl y1))), (b5, .inl (d5, 8, .inr (.inl hh))), (h0, .inr (4, [.int kind, .int rises, .long total, .long going, .long width, .int cf, .int ct])), (aO, .inl (cO, 1, .inr (.inl (vp_updL fo (0 : Int32).toNatClampNeg (fP_headRoom tot pd gd x0 y0 x1 y1 hh fc kind rises total going width cf ct tr)))))]) 0 0 (tA [(p0, .inr (0, [.ref pT, .ref pR, .ref pS, .ref pF, .ref h0, .ref pQ, .ref pG, .long tot, .int (bI pd), .int (bI gd)])), (pF, .inr (3, [.ref b1, .ref b2, .ref b3, .ref b4, .ref b5, .int (nI fc)])), (b1, .inl (d1, 8, .inr (.inl x0))), (b2, .inl (d2, 8, .inr (.inl y0))), (b3, .inl (d3, 8, .inr (.inl x1))), (b4, .inl (d4, 8, .inr (.inl y1))), (b5, .inl (d5, 8, .inr (.inl hh))), (h0, .inr (4, [.int kind, .int rises, .long total, .long going, .long width, .int cf, .int ct])), (aO, .inl (cO, 1, .inr (.inl fo)))]) := by
  refine va_MetW (cc := bL_headRoom) (maxL := 3) (ret := (some .int)) (hh := [(0, 7, 10, 19)]) (by decide) rfl ?_
  intro p e s m args below meth c s₁ B hml hv
  obtain ⟨rfl, hP, hK, hN, hD0⟩ := hv
  have hx := B.exec
  have hb := B.bytes
  have hr := B.returns
  have hts : ∀ w ∈ gT, w.before _ s = true := fun w h => atoms_spec (ws := wL_headRoom) B.pre w (List.mem_cons_of_mem _ h)
  have hown : s.vm.findClass RL = some m.cls := findClass_of_methodNamed B.named
  have hlocks := B.notSynchronized
  have hD := tA_D hD0
  generalize hAe : tA [(p0, .inr (0, [.ref pT, .ref pR, .ref pS, .ref pF, .ref h0, .ref pQ, .ref pG, .long tot, .int (bI pd), .int (bI gd)])), (pF, .inr (3, [.ref b1, .ref b2, .ref b3, .ref b4, .ref b5, .int (nI fc)])), (b1, .inl (d1, 8, .inr (.inl x0))), (b2, .inl (d2, 8, .inr (.inl y0))), (b3, .inl (d3, 8, .inr (.inl x1))), (b4, .inl (d4, 8, .inr (.inl y1))), (b5, .inl (d5, 8, .inr (.inl hh))), (h0, .inr (4, [.int kind, .int rises, .long total, .long going, .long width, .int cf, .int ct])), (aO, .inl (cO, 1, .inr (.inl fo)))] = A at hD ⊢
  have hS : va_S A s.heap s.heap [] := va_S.rf
  have hP : va_P (dC, dI) vCl [(p0, .inr (0, [.ref pT, .ref pR, .ref pS, .ref pF, .ref h0, .ref pQ, .ref pG, .long tot, .int (bI pd), .int (bI gd)])), (pF, .inr (3, [.ref b1, .ref b2, .ref b3, .ref b4, .ref b5, .int (nI fc)])), (b1, .inl (d1, 8, .inr (.inl x0))), (b2, .inl (d2, 8, .inr (.inl y0))), (b3, .inl (d3, 8, .inr (.inl x1))), (b4, .inl (d4, 8, .inr (.inl y1))), (b5, .inl (d5, 8, .inr (.inl hh))), (h0, .inr (4, [.int kind, .int rises, .long total, .long going, .long width, .int cf, .int ct])), (aO, .inl (cO, 1, .inr (.inl fo)))] s.heap := hP
  have hl := lv_entry ([.ref p0, .ref aO]) (n := 3) (Nat.le_of_ble_eq_true rfl)
  rw [lg_entry_eq]
  generalize (lg_sl ([.ref p0, .ref aO]) ++ List.replicate (3 - (lg_sl ([.ref p0, .ref aO])).length) Slot.unset).toArray = ls at hl ⊢
  have hl : lv_has ls 3 [(0, .ref p0), (1, .ref aO)] := hl
  refine lv_aload_n hx hb dL_headRoom_0 rfl (lv_at hl 1 rfl) ?_
  refine lv_iconst (v := 0) hx hb dL_headRoom_1 (by decide) ?_
  refine lv_aload_n hx hb dL_headRoom_2 rfl (lv_at hl 0 rfl) ?_
  refine tr_go (st1 := [.long (fP_headRoom tot pd gd x0 y0 x1 y1 hh fc kind rises total going width cf ct tr), .int 0, .ref aO]) (va_runV (As := []) (rest := [.int 0, .ref aO]) (C := RP) ⟨hx, hb, hml, hown, hts⟩ (c_P_headRoom l dC dI p0 pT pR pS pF h0 pQ pG tot pd gd b1 b2 b3 b4 b5 d1 d2 d3 d4 d5 x0 y0 x1 y1 hh fc kind rises total going width cf ct tr hf ht hr0 hx9) ⟨cB 0 hts gw_498 gw_1 gw_495 ndP_headRoom rfl rfl ⟨Nat.le_of_ble_eq_true rfl, Nat.le_of_ble_eq_true rfl⟩, hts _ gw_496, hts _ gw_497⟩ (tp_Rv hN hK hP [0, 1, 2, 3, 4, 5, 6, 7] [0, 1, 2, 3, 4] rfl rfl (q0 := 0) (ci := 0) rfl rfl) rfl rfl hl.1 rfl (lv_room (Nat.le_of_ble_eq_true rfl)) dL_headRoom_3 ⟨Nat.le_of_ble_eq_true rfl, Nat.le_of_ble_eq_true rfl⟩) rfl ?_
  have b_1 : vp_in 0 1 := vp_in_nI (n := 0) (N := 1) (by decide) (by decide)
  refine va_last hx hb hK hP hD hS 8 5 rfl rfl b_1 dL_headRoom_6 (fun H locs hP hD hS => ?_)
  have hP : va_P (dC, dI) vCl [(p0, .inr (0, [.ref pT, .ref pR, .ref pS, .ref pF, .ref h0, .ref pQ, .ref pG, .long tot, .int (bI pd), .int (bI gd)])), (pF, .inr (3, [.ref b1, .ref b2, .ref b3, .ref b4, .ref b5, .int (nI fc)])), (b1, .inl (d1, 8, .inr (.inl x0))), (b2, .inl (d2, 8, .inr (.inl y0))), (b3, .inl (d3, 8, .inr (.inl x1))), (b4, .inl (d4, 8, .inr (.inl y1))), (b5, .inl (d5, 8, .inr (.inl hh))), (h0, .inr (4, [.int kind, .int rises, .long total, .long going, .long width, .int cf, .int ct])), (aO, .inl (cO, 1, .inr (.inl (vp_updL fo (0 : Int32).toNatClampNeg (fP_headRoom tot pd gd x0 y0 x1 y1 hh fc kind rises total going width cf ct tr)))))] H := hP
  have hD : va_D A [(p0, .inr (0, [.ref pT, .ref pR, .ref pS, .ref pF, .ref h0, .ref pQ, .ref pG, .long tot, .int (bI pd), .int (bI gd)])), (pF, .inr (3, [.ref b1, .ref b2, .ref b3, .ref b4, .ref b5, .int (nI fc)])), (b1, .inl (d1, 8, .inr (.inl x0))), (b2, .inl (d2, 8, .inr (.inl y0))), (b3, .inl (d3, 8, .inr (.inl x1))), (b4, .inl (d4, 8, .inr (.inl y1))), (b5, .inl (d5, 8, .inr (.inl hh))), (h0, .inr (4, [.int kind, .int rises, .long total, .long going, .long width, .int cf, .int ct])), (aO, .inl (cO, 1, .inr (.inl (vp_updL fo (0 : Int32).toNatClampNeg (fP_headRoom tot pd gd x0 y0 x1 y1 hh fc kind rises total going width cf ct tr)))))] := hD
  refine lv_goto (tgt := 13) hx hb dL_headRoom_7 (by decide) ?_
  refine lv_iconst (v := 0) hx hb dL_headRoom_13 (by decide) ?_
  exact W.iret (v := 0) hx hb hr (fun t ht hW => ⟨by rw [show fL_headRoom tot pd gd x0 y0 x1 y1 hh fc kind rises total going width cf ct tr fo = 0 from by unfold fL_headRoom; rfl], by rw [ht]; exact hP, by rw [hAe]; exact hS.F ht⟩) hS.2.2 dL_headRoom_14

set_option maxHeartbeats 1500000 in
set_option maxRecDepth 100000 in
theorem c_L_headRoom_ISE (l : Launch) (dC : Nat → ClassId) (dI : Nat → Nat → Nat) (p0 : Nat) (pT : Nat) (pR : Nat) (pS : Nat) (pF : Nat) (h0 : Nat) (pQ : Nat) (pG : Nat) (tot : Int64) (pd : Bool) (gd : Bool) (b1 : Nat) (b2 : Nat) (b3 : Nat) (b4 : Nat) (b5 : Nat) (d1 : ClassId) (d2 : ClassId) (d3 : ClassId) (d4 : ClassId) (d5 : ClassId) (x0 : Nat → Int64) (y0 : Nat → Int64) (x1 : Nat → Int64) (y1 : Nat → Int64) (hh : Nat → Int64) (fc : Nat) (kind : Int32) (rises : Int32) (total : Int64) (going : Int64) (width : Int64) (cf : Int32) (ct : Int32) (tr : Nat) (aO : Nat) (cO : ClassId) (fo : Nat → Int64) (hf : fc ≤ 8) (ht : tr ≤ 60) (hr0 : rises - 1 = nI tr) (hfl : l.stackTraces = false) (hx9 : xP_headRoom tot pd gd x0 y0 x1 y1 hh fc kind rises total going width cf ct tr = 1) : Met l mL_headRoom wL_headRoom ({ frames := 8, cells := 1, slots := 6, locals := 131 }) (tp_E (dC, dI) vCl [.ref p0, .ref aO] [(p0, .inr (0, [.ref pT, .ref pR, .ref pS, .ref pF, .ref h0, .ref pQ, .ref pG, .long tot, .int (bI pd), .int (bI gd)])), (pF, .inr (3, [.ref b1, .ref b2, .ref b3, .ref b4, .ref b5, .int (nI fc)])), (b1, .inl (d1, 8, .inr (.inl x0))), (b2, .inl (d2, 8, .inr (.inl y0))), (b3, .inl (d3, 8, .inr (.inl x1))), (b4, .inl (d4, 8, .inr (.inl y1))), (b5, .inl (d5, 8, .inr (.inl hh))), (h0, .inr (4, [.int kind, .int rises, .long total, .long going, .long width, .int cf, .int ct])), (aO, .inl (cO, 1, .inr (.inl fo)))] [(d1, .long), (d2, .long), (d3, .long), (d4, .long), (d5, .long), (cO, .long)]) (tq_E (some (.int 1))) 1 6 (fun _ => False) := by
  refine va_MetW (cc := bL_headRoom) (maxL := 3) (ret := (some .int)) (hh := [(0, 7, 10, 19)]) (by decide) rfl ?_
  intro p e s m args below meth c s₁ B hml hv
  obtain ⟨rfl, hP, hK, hN, hZ, hC⟩ := hv
  have hx := B.exec
  have hb := B.bytes
  have hr := B.returns
  have hts : ∀ w ∈ gT, w.before _ s = true := fun w h => atoms_spec (ws := wL_headRoom) B.pre w (List.mem_cons_of_mem _ h)
  have hown : s.vm.findClass RL = some m.cls := findClass_of_methodNamed B.named
  have hP : va_P (dC, dI) vCl [(p0, .inr (0, [.ref pT, .ref pR, .ref pS, .ref pF, .ref h0, .ref pQ, .ref pG, .long tot, .int (bI pd), .int (bI gd)])), (pF, .inr (3, [.ref b1, .ref b2, .ref b3, .ref b4, .ref b5, .int (nI fc)])), (b1, .inl (d1, 8, .inr (.inl x0))), (b2, .inl (d2, 8, .inr (.inl y0))), (b3, .inl (d3, 8, .inr (.inl x1))), (b4, .inl (d4, 8, .inr (.inl y1))), (b5, .inl (d5, 8, .inr (.inl hh))), (h0, .inr (4, [.int kind, .int rises, .long total, .long going, .long width, .int cf, .int ct])), (aO, .inl (cO, 1, .inr (.inl fo)))] s.heap := hP
  have hl := lv_entry ([.ref p0, .ref aO]) (n := 3) (Nat.le_of_ble_eq_true rfl)
  rw [lg_entry_eq]
  generalize (lg_sl ([.ref p0, .ref aO]) ++ List.replicate (3 - (lg_sl ([.ref p0, .ref aO])).length) Slot.unset).toArray = ls at hl ⊢
  have hl : lv_has ls 3 [(0, .ref p0), (1, .ref aO)] := hl
  refine lv_aload_n hx hb dL_headRoom_0 rfl (lv_at hl 1 rfl) ?_
  refine lv_iconst (v := 0) hx hb dL_headRoom_1 (by decide) ?_
  refine lv_aload_n hx hb dL_headRoom_2 rfl (lv_at hl 0 rfl) ?_
  refine tw_runV (As := []) (rest := [.int 0, .ref aO]) (C := RP) ⟨hx, hb, hml, hown, hts⟩ (t_P_headRoom_ISE l dC dI p0 pT pR pS pF h0 pQ pG tot pd gd b1 b2 b3 b4 b5 d1 d2 d3 d4 d5 x0 y0 x1 y1 hh fc kind rises total going width cf ct tr hf ht hr0 hfl hx9) ⟨cB 0 hts gw_498 gw_1 gw_495 ndP_headRoom rfl rfl ⟨Nat.le_of_ble_eq_true rfl, Nat.le_of_ble_eq_true rfl⟩, hts _ gw_496, hts _ gw_497⟩ (tp_Tv hZ (fun _ _ => rfl) hN hK hP [0, 1, 2, 3, 4, 5, 6, 7] [0, 1, 2, 3, 4] rfl rfl (q0 := 0) (ci := 0) rfl rfl) rfl hl.1 rfl (Nat.le_of_ble_eq_true rfl) dL_headRoom_3 ⟨Nat.le_of_ble_eq_true rfl, Nat.le_of_ble_eq_true rfl⟩ (fun x9 H9 hN9 => ?_)
  refine tw_catch hown hN9 [] ⟨0, 7, 10, 19⟩ [] (tL_tab B List.mem_cons_self) (List.forall_mem_nil _) rfl (by decide) (tcl_S (word_at (a' := #[]) (State.WarmedH.refl s) (gT_good _ gw_300) (hts _ gw_300)) hC) ?_
  refine lv_astore_n (lv' := [(2, .ref x9), (0, .ref p0), (1, .ref aO)]) hx hb dL_headRoom_10 rfl hl (by decide) rfl (fun ls hl => ?_)
  refine lv_iconst (v := 1) hx hb dL_headRoom_11 (by decide) ?_
  exact W.iret (v := 1) hx hb hr (fun t ht hW => ⟨rfl, by rw [ht]; exact hN9.2.1, fun q hq => by rw [ht]; exact hN9.2.2.2 q hq⟩) (fun q h => by cases h) dL_headRoom_12

def fL_string (tot : Int64) (pd : Bool) (gd : Bool) (kind : Int32) (rises : Int32) (total : Int64) (going : Int64) (width : Int64) (cf : Int32) (ct : Int32) (end_ : Int32) (fo : Nat → Int64) : Int32 := 0
set_option maxHeartbeats 1500000 in
set_option maxRecDepth 100000 in
theorem c_L_string (l : Launch) (dC : Nat → ClassId) (dI : Nat → Nat → Nat) (p0 : Nat) (pT : Nat) (pR : Nat) (pS : Nat) (pF : Nat) (h0 : Nat) (pQ : Nat) (pG : Nat) (tot : Int64) (pd : Bool) (gd : Bool) (kind : Int32) (rises : Int32) (total : Int64) (going : Int64) (width : Int64) (cf : Int32) (ct : Int32) (end_ : Int32) (aO : Nat) (cO : ClassId) (fo : Nat → Int64) (hx9 : xP_string tot pd gd kind rises total going width cf ct end_ = 0) : Met l mL_string wL_string ({ frames := 5, cells := 0, slots := 0, locals := 114 }) (tp_W (dC, dI) vCl [.ref p0, .int end_, .ref aO] [(p0, .inr (0, [.ref pT, .ref pR, .ref pS, .ref pF, .ref h0, .ref pQ, .ref pG, .long tot, .int (bI pd), .int (bI gd)])), (h0, .inr (4, [.int kind, .int rises, .long total, .long going, .long width, .int cf, .int ct])), (aO, .inl (cO, 1, .inr (.inl fo)))] [(cO, .long)]) (tq_W (dC, dI) vCl (some (.int (fL_string tot pd gd kind rises total going width cf ct end_ fo))) [(p0, .inr (0, [.ref pT, .ref pR, .ref pS, .ref pF, .ref h0, .ref pQ, .ref pG, .long tot, .int (bI pd), .int (bI gd)])), (h0, .inr (4, [.int kind, .int rises, .long total, .long going, .long width, .int cf, .int ct])), (aO, .inl (cO, 1, .inr (.inl fo)))] [(p0, .inr (0, [.ref pT, .ref pR, .ref pS, .ref pF, .ref h0, .ref pQ, .ref pG, .long tot, .int (bI pd), .int (bI gd)])), (h0, .inr (4, [.int kind, .int rises, .long total, .long going, .long width, .int cf, .int ct])), (aO, .inl (cO, 1, .inr (.inl (vp_updL fo (0 : Int32).toNatClampNeg (fP_string tot pd gd kind rises total going width cf ct end_)))))]) 0 0 (tA [(p0, .inr (0, [.ref pT, .ref pR, .ref pS, .ref pF, .ref h0, .ref pQ, .ref pG, .long tot, .int (bI pd), .int (bI gd)])), (h0, .inr (4, [.int kind, .int rises, .long total, .long going, .long width, .int cf, .int ct])), (aO, .inl (cO, 1, .inr (.inl fo)))]) := by
  refine va_MetW (cc := bL_string) (maxL := 4) (ret := (some .int)) (hh := [(0, 8, 11, 19), (0, 8, 14, 25)]) (by decide) rfl ?_
  intro p e s m args below meth c s₁ B hml hv
  obtain ⟨rfl, hP, hK, hN, hD0⟩ := hv
  have hx := B.exec
  have hb := B.bytes
  have hr := B.returns
  have hts : ∀ w ∈ gT, w.before _ s = true := fun w h => atoms_spec (ws := wL_string) B.pre w (List.mem_cons_of_mem _ h)
  have hown : s.vm.findClass RL = some m.cls := findClass_of_methodNamed B.named
  have hlocks := B.notSynchronized
  have hD := tA_D hD0
  generalize hAe : tA [(p0, .inr (0, [.ref pT, .ref pR, .ref pS, .ref pF, .ref h0, .ref pQ, .ref pG, .long tot, .int (bI pd), .int (bI gd)])), (h0, .inr (4, [.int kind, .int rises, .long total, .long going, .long width, .int cf, .int ct])), (aO, .inl (cO, 1, .inr (.inl fo)))] = A at hD ⊢
  have hS : va_S A s.heap s.heap [] := va_S.rf
  have hP : va_P (dC, dI) vCl [(p0, .inr (0, [.ref pT, .ref pR, .ref pS, .ref pF, .ref h0, .ref pQ, .ref pG, .long tot, .int (bI pd), .int (bI gd)])), (h0, .inr (4, [.int kind, .int rises, .long total, .long going, .long width, .int cf, .int ct])), (aO, .inl (cO, 1, .inr (.inl fo)))] s.heap := hP
  have hl := lv_entry ([.ref p0, .int end_, .ref aO]) (n := 4) (Nat.le_of_ble_eq_true rfl)
  rw [lg_entry_eq]
  generalize (lg_sl ([.ref p0, .int end_, .ref aO]) ++ List.replicate (4 - (lg_sl ([.ref p0, .int end_, .ref aO])).length) Slot.unset).toArray = ls at hl ⊢
  have hl : lv_has ls 4 [(0, .ref p0), (1, .int end_), (2, .ref aO)] := hl
  refine lv_aload_n hx hb dL_string_0 rfl (lv_at hl 2 rfl) ?_
  refine lv_iconst (v := 0) hx hb dL_string_1 (by decide) ?_
  refine lv_aload_n hx hb dL_string_2 rfl (lv_at hl 0 rfl) ?_
  refine lv_iload_n hx hb dL_string_3 rfl (lv_at hl 1 rfl) ?_
  refine tr_go (st1 := [.long (fP_string tot pd gd kind rises total going width cf ct end_), .int 0, .ref aO]) (va_runV (As := [.int end_]) (rest := [.int 0, .ref aO]) (C := RP) ⟨hx, hb, hml, hown, hts⟩ (c_P_string l dC dI p0 pT pR pS pF h0 pQ pG tot pd gd kind rises total going width cf ct end_ hx9) ⟨cB 1 hts gw_520 gw_1 gw_517 ndP_string rfl rfl ⟨Nat.le_of_ble_eq_true rfl, Nat.le_of_ble_eq_true rfl⟩, hts _ gw_518, hts _ gw_519⟩ (tp_Rv hN hK hP [0, 1] [] rfl rfl (q0 := 0) (ci := 0) rfl rfl) rfl rfl hl.1 rfl (lv_room (Nat.le_of_ble_eq_true rfl)) dL_string_4 ⟨Nat.le_of_ble_eq_true rfl, Nat.le_of_ble_eq_true rfl⟩) rfl ?_
  have b_1 : vp_in 0 1 := vp_in_nI (n := 0) (N := 1) (by decide) (by decide)
  refine va_last hx hb hK hP hD hS 2 0 rfl rfl b_1 dL_string_7 (fun H locs hP hD hS => ?_)
  have hP : va_P (dC, dI) vCl [(p0, .inr (0, [.ref pT, .ref pR, .ref pS, .ref pF, .ref h0, .ref pQ, .ref pG, .long tot, .int (bI pd), .int (bI gd)])), (h0, .inr (4, [.int kind, .int rises, .long total, .long going, .long width, .int cf, .int ct])), (aO, .inl (cO, 1, .inr (.inl (vp_updL fo (0 : Int32).toNatClampNeg (fP_string tot pd gd kind rises total going width cf ct end_)))))] H := hP
  have hD : va_D A [(p0, .inr (0, [.ref pT, .ref pR, .ref pS, .ref pF, .ref h0, .ref pQ, .ref pG, .long tot, .int (bI pd), .int (bI gd)])), (h0, .inr (4, [.int kind, .int rises, .long total, .long going, .long width, .int cf, .int ct])), (aO, .inl (cO, 1, .inr (.inl (vp_updL fo (0 : Int32).toNatClampNeg (fP_string tot pd gd kind rises total going width cf ct end_)))))] := hD
  refine lv_goto (tgt := 17) hx hb dL_string_8 (by decide) ?_
  refine lv_iconst (v := 0) hx hb dL_string_17 (by decide) ?_
  exact W.iret (v := 0) hx hb hr (fun t ht hW => ⟨by rw [show fL_string tot pd gd kind rises total going width cf ct end_ fo = 0 from by unfold fL_string; rfl], by rw [ht]; exact hP, by rw [hAe]; exact hS.F ht⟩) hS.2.2 dL_string_18

set_option maxHeartbeats 1500000 in
set_option maxRecDepth 100000 in
theorem c_L_string_ISE (l : Launch) (dC : Nat → ClassId) (dI : Nat → Nat → Nat) (p0 : Nat) (pT : Nat) (pR : Nat) (pS : Nat) (pF : Nat) (h0 : Nat) (pQ : Nat) (pG : Nat) (tot : Int64) (pd : Bool) (gd : Bool) (kind : Int32) (rises : Int32) (total : Int64) (going : Int64) (width : Int64) (cf : Int32) (ct : Int32) (end_ : Int32) (aO : Nat) (cO : ClassId) (fo : Nat → Int64) (hfl : l.stackTraces = false) (hx9 : xP_string tot pd gd kind rises total going width cf ct end_ = 1) : Met l mL_string wL_string ({ frames := 8, cells := 1, slots := 6, locals := 125 }) (tp_E (dC, dI) vCl [.ref p0, .int end_, .ref aO] [(p0, .inr (0, [.ref pT, .ref pR, .ref pS, .ref pF, .ref h0, .ref pQ, .ref pG, .long tot, .int (bI pd), .int (bI gd)])), (h0, .inr (4, [.int kind, .int rises, .long total, .long going, .long width, .int cf, .int ct])), (aO, .inl (cO, 1, .inr (.inl fo)))] [(cO, .long)]) (tq_E (some (.int 1))) 1 6 (fun _ => False) := by
  refine va_MetW (cc := bL_string) (maxL := 4) (ret := (some .int)) (hh := [(0, 8, 11, 19), (0, 8, 14, 25)]) (by decide) rfl ?_
  intro p e s m args below meth c s₁ B hml hv
  obtain ⟨rfl, hP, hK, hN, hZ, hC⟩ := hv
  have hx := B.exec
  have hb := B.bytes
  have hr := B.returns
  have hts : ∀ w ∈ gT, w.before _ s = true := fun w h => atoms_spec (ws := wL_string) B.pre w (List.mem_cons_of_mem _ h)
  have hown : s.vm.findClass RL = some m.cls := findClass_of_methodNamed B.named
  have hP : va_P (dC, dI) vCl [(p0, .inr (0, [.ref pT, .ref pR, .ref pS, .ref pF, .ref h0, .ref pQ, .ref pG, .long tot, .int (bI pd), .int (bI gd)])), (h0, .inr (4, [.int kind, .int rises, .long total, .long going, .long width, .int cf, .int ct])), (aO, .inl (cO, 1, .inr (.inl fo)))] s.heap := hP
  have hl := lv_entry ([.ref p0, .int end_, .ref aO]) (n := 4) (Nat.le_of_ble_eq_true rfl)
  rw [lg_entry_eq]
  generalize (lg_sl ([.ref p0, .int end_, .ref aO]) ++ List.replicate (4 - (lg_sl ([.ref p0, .int end_, .ref aO])).length) Slot.unset).toArray = ls at hl ⊢
  have hl : lv_has ls 4 [(0, .ref p0), (1, .int end_), (2, .ref aO)] := hl
  refine lv_aload_n hx hb dL_string_0 rfl (lv_at hl 2 rfl) ?_
  refine lv_iconst (v := 0) hx hb dL_string_1 (by decide) ?_
  refine lv_aload_n hx hb dL_string_2 rfl (lv_at hl 0 rfl) ?_
  refine lv_iload_n hx hb dL_string_3 rfl (lv_at hl 1 rfl) ?_
  refine tw_runV (As := [.int end_]) (rest := [.int 0, .ref aO]) (C := RP) ⟨hx, hb, hml, hown, hts⟩ (t_P_string_ISE l dC dI p0 pT pR pS pF h0 pQ pG tot pd gd kind rises total going width cf ct end_ hfl hx9) ⟨cB 1 hts gw_520 gw_1 gw_517 ndP_string rfl rfl ⟨Nat.le_of_ble_eq_true rfl, Nat.le_of_ble_eq_true rfl⟩, hts _ gw_518, hts _ gw_519⟩ (tp_Tv hZ (fun _ _ => rfl) hN hK hP [0, 1] [] rfl rfl (q0 := 0) (ci := 0) rfl rfl) rfl hl.1 rfl (Nat.le_of_ble_eq_true rfl) dL_string_4 ⟨Nat.le_of_ble_eq_true rfl, Nat.le_of_ble_eq_true rfl⟩ (fun x9 H9 hN9 => ?_)
  refine tw_catch hown hN9 [] ⟨0, 8, 11, 19⟩ [⟨0, 8, 14, 25⟩] (tL_tab B List.mem_cons_self) (List.forall_mem_nil _) rfl (by decide) (tcl_S (word_at (a' := #[]) (State.WarmedH.refl s) (gT_good _ gw_300) (hts _ gw_300)) hC) ?_
  refine lv_astore_n (lv' := [(3, .ref x9), (0, .ref p0), (1, .int end_), (2, .ref aO)]) hx hb dL_string_11 rfl hl (by decide) rfl (fun ls hl => ?_)
  refine lv_iconst (v := 1) hx hb dL_string_12 (by decide) ?_
  exact W.iret (v := 1) hx hb hr (fun t ht hW => ⟨rfl, by rw [ht]; exact hN9.2.1, fun q hq => by rw [ht]; exact hN9.2.2.2 q hq⟩) (fun q h => by cases h) dL_string_13

set_option maxHeartbeats 1500000 in
set_option maxRecDepth 100000 in
theorem c_L_string_IOB (l : Launch) (dC : Nat → ClassId) (dI : Nat → Nat → Nat) (p0 : Nat) (pT : Nat) (pR : Nat) (pS : Nat) (pF : Nat) (h0 : Nat) (pQ : Nat) (pG : Nat) (tot : Int64) (pd : Bool) (gd : Bool) (kind : Int32) (rises : Int32) (total : Int64) (going : Int64) (width : Int64) (cf : Int32) (ct : Int32) (end_ : Int32) (aO : Nat) (cO : ClassId) (fo : Nat → Int64) (hfl : l.stackTraces = false) (hx9 : xP_string tot pd gd kind rises total going width cf ct end_ = 2) : Met l mL_string wL_string ({ frames := 8, cells := 1, slots := 6, locals := 126 }) (tp_E (dC, dI) vCl [.ref p0, .int end_, .ref aO] [(p0, .inr (0, [.ref pT, .ref pR, .ref pS, .ref pF, .ref h0, .ref pQ, .ref pG, .long tot, .int (bI pd), .int (bI gd)])), (h0, .inr (4, [.int kind, .int rises, .long total, .long going, .long width, .int cf, .int ct])), (aO, .inl (cO, 1, .inr (.inl fo)))] [(cO, .long)]) (tq_E (some (.int 2))) 1 6 (fun _ => False) := by
  refine va_MetW (cc := bL_string) (maxL := 4) (ret := (some .int)) (hh := [(0, 8, 11, 19), (0, 8, 14, 25)]) (by decide) rfl ?_
  intro p e s m args below meth c s₁ B hml hv
  obtain ⟨rfl, hP, hK, hN, hZ, hC⟩ := hv
  have hx := B.exec
  have hb := B.bytes
  have hr := B.returns
  have hts : ∀ w ∈ gT, w.before _ s = true := fun w h => atoms_spec (ws := wL_string) B.pre w (List.mem_cons_of_mem _ h)
  have hown : s.vm.findClass RL = some m.cls := findClass_of_methodNamed B.named
  have hP : va_P (dC, dI) vCl [(p0, .inr (0, [.ref pT, .ref pR, .ref pS, .ref pF, .ref h0, .ref pQ, .ref pG, .long tot, .int (bI pd), .int (bI gd)])), (h0, .inr (4, [.int kind, .int rises, .long total, .long going, .long width, .int cf, .int ct])), (aO, .inl (cO, 1, .inr (.inl fo)))] s.heap := hP
  have hl := lv_entry ([.ref p0, .int end_, .ref aO]) (n := 4) (Nat.le_of_ble_eq_true rfl)
  rw [lg_entry_eq]
  generalize (lg_sl ([.ref p0, .int end_, .ref aO]) ++ List.replicate (4 - (lg_sl ([.ref p0, .int end_, .ref aO])).length) Slot.unset).toArray = ls at hl ⊢
  have hl : lv_has ls 4 [(0, .ref p0), (1, .int end_), (2, .ref aO)] := hl
  refine lv_aload_n hx hb dL_string_0 rfl (lv_at hl 2 rfl) ?_
  refine lv_iconst (v := 0) hx hb dL_string_1 (by decide) ?_
  refine lv_aload_n hx hb dL_string_2 rfl (lv_at hl 0 rfl) ?_
  refine lv_iload_n hx hb dL_string_3 rfl (lv_at hl 1 rfl) ?_
  refine tw_runV (As := [.int end_]) (rest := [.int 0, .ref aO]) (C := RP) ⟨hx, hb, hml, hown, hts⟩ (t_P_string_IOB l dC dI p0 pT pR pS pF h0 pQ pG tot pd gd kind rises total going width cf ct end_ hfl hx9) ⟨cB 1 hts gw_520 gw_1 gw_517 ndP_string rfl rfl ⟨Nat.le_of_ble_eq_true rfl, Nat.le_of_ble_eq_true rfl⟩, hts _ gw_518, hts _ gw_519⟩ (tp_Tv hZ (fun _ _ => rfl) hN hK hP [0, 1] [] rfl rfl (q0 := 0) (ci := 0) rfl rfl) rfl hl.1 rfl (Nat.le_of_ble_eq_true rfl) dL_string_4 ⟨Nat.le_of_ble_eq_true rfl, Nat.le_of_ble_eq_true rfl⟩ (fun x9 H9 hN9 => ?_)
  refine tw_catch hown hN9 [⟨0, 8, 11, 19⟩] ⟨0, 8, 14, 25⟩ [] (tL_tab B List.mem_cons_self) (List.forall_mem_cons.mpr ⟨⟨rfl, by decide, _, tcl_BS (word_at (a' := #[]) (State.WarmedH.refl s) (gT_good _ gw_300) (hts _ gw_300)) hC⟩, List.forall_mem_nil _⟩) rfl (by decide) (tcl_B (word_at (a' := #[]) (State.WarmedH.refl s) (gT_good _ gw_366) (hts _ gw_366)) hC) ?_
  refine lv_astore_n (lv' := [(3, .ref x9), (0, .ref p0), (1, .int end_), (2, .ref aO)]) hx hb dL_string_14 rfl hl (by decide) rfl (fun ls hl => ?_)
  refine lv_iconst (v := 2) hx hb dL_string_15 (by decide) ?_
  exact W.iret (v := 2) hx hb hr (fun t ht hW => ⟨rfl, by rw [ht]; exact hN9.2.1, fun q hq => by rw [ht]; exact hN9.2.2.2 q hq⟩) (fun q h => by cases h) dL_string_16

def fL_balusters (tot : Int64) (pd : Bool) (gd : Bool) (kind : Int32) (rises : Int32) (total : Int64) (going : Int64) (width : Int64) (cf : Int32) (ct : Int32) (gn : Int64) (ge : Int64) (thick : Int64) (most : Int64) (fo : Nat → Int64) : Int32 := 0
set_option maxHeartbeats 1500000 in
set_option maxRecDepth 100000 in
theorem c_L_balusters (l : Launch) (dC : Nat → ClassId) (dI : Nat → Nat → Nat) (p0 : Nat) (pT : Nat) (pR : Nat) (pS : Nat) (pF : Nat) (h0 : Nat) (pQ : Nat) (pG : Nat) (tot : Int64) (pd : Bool) (gd : Bool) (kind : Int32) (rises : Int32) (total : Int64) (going : Int64) (width : Int64) (cf : Int32) (ct : Int32) (gn : Int64) (ge : Int64) (thick : Int64) (most : Int64) (aO : Nat) (cO : ClassId) (fo : Nat → Int64) (hx9 : xP_balusters tot pd gd kind rises total going width cf ct gn ge thick most = 0) : Met l mL_balusters wL_balusters ({ frames := 3, cells := 0, slots := 0, locals := 83 }) (tp_W (dC, dI) vCl [.ref p0, .long thick, .long most, .ref aO] [(p0, .inr (0, [.ref pT, .ref pR, .ref pS, .ref pF, .ref h0, .ref pQ, .ref pG, .long tot, .int (bI pd), .int (bI gd)])), (h0, .inr (4, [.int kind, .int rises, .long total, .long going, .long width, .int cf, .int ct])), (pG, .inr (5, [.long gn, .long ge])), (aO, .inl (cO, 1, .inr (.inl fo)))] [(cO, .long)]) (tq_W (dC, dI) vCl (some (.int (fL_balusters tot pd gd kind rises total going width cf ct gn ge thick most fo))) [(p0, .inr (0, [.ref pT, .ref pR, .ref pS, .ref pF, .ref h0, .ref pQ, .ref pG, .long tot, .int (bI pd), .int (bI gd)])), (h0, .inr (4, [.int kind, .int rises, .long total, .long going, .long width, .int cf, .int ct])), (pG, .inr (5, [.long gn, .long ge])), (aO, .inl (cO, 1, .inr (.inl fo)))] [(p0, .inr (0, [.ref pT, .ref pR, .ref pS, .ref pF, .ref h0, .ref pQ, .ref pG, .long tot, .int (bI pd), .int (bI (fP_balusters_c0f9 tot pd gd kind rises total going width cf ct gn ge thick most))])), (h0, .inr (4, [.int kind, .int rises, .long total, .long going, .long width, .int cf, .int ct])), (pG, .inr (5, [.long (fP_balusters_c2f0 tot pd gd kind rises total going width cf ct gn ge thick most), .long (fP_balusters_c2f1 tot pd gd kind rises total going width cf ct gn ge thick most)])), (aO, .inl (cO, 1, .inr (.inl (vp_updL fo (0 : Int32).toNatClampNeg ((fP_balusters tot pd gd kind rises total going width cf ct gn ge thick most).toInt64)))))]) 0 0 (tA [(p0, .inr (0, [.ref pT, .ref pR, .ref pS, .ref pF, .ref h0, .ref pQ, .ref pG, .long tot, .int (bI pd), .int (bI gd)])), (h0, .inr (4, [.int kind, .int rises, .long total, .long going, .long width, .int cf, .int ct])), (pG, .inr (5, [.long gn, .long ge])), (aO, .inl (cO, 1, .inr (.inl fo)))]) := by
  refine va_MetW (cc := bL_balusters) (maxL := 7) (ret := (some .int)) (hh := [(0, 11, 14, 19), (0, 11, 18, 13)]) (by decide) rfl ?_
  intro p e s m args below meth c s₁ B hml hv
  obtain ⟨rfl, hP, hK, hN, hD0⟩ := hv
  have hx := B.exec
  have hb := B.bytes
  have hr := B.returns
  have hts : ∀ w ∈ gT, w.before _ s = true := fun w h => atoms_spec (ws := wL_balusters) B.pre w (List.mem_cons_of_mem _ h)
  have hown : s.vm.findClass RL = some m.cls := findClass_of_methodNamed B.named
  have hlocks := B.notSynchronized
  have hD := tA_D hD0
  generalize hAe : tA [(p0, .inr (0, [.ref pT, .ref pR, .ref pS, .ref pF, .ref h0, .ref pQ, .ref pG, .long tot, .int (bI pd), .int (bI gd)])), (h0, .inr (4, [.int kind, .int rises, .long total, .long going, .long width, .int cf, .int ct])), (pG, .inr (5, [.long gn, .long ge])), (aO, .inl (cO, 1, .inr (.inl fo)))] = A at hD ⊢
  have hS : va_S A s.heap s.heap [] := va_S.rf
  have hP : va_P (dC, dI) vCl [(p0, .inr (0, [.ref pT, .ref pR, .ref pS, .ref pF, .ref h0, .ref pQ, .ref pG, .long tot, .int (bI pd), .int (bI gd)])), (h0, .inr (4, [.int kind, .int rises, .long total, .long going, .long width, .int cf, .int ct])), (pG, .inr (5, [.long gn, .long ge])), (aO, .inl (cO, 1, .inr (.inl fo)))] s.heap := hP
  have hl := lv_entry ([.ref p0, .long thick, .long most, .ref aO]) (n := 7) (Nat.le_of_ble_eq_true rfl)
  rw [lg_entry_eq]
  generalize (lg_sl ([.ref p0, .long thick, .long most, .ref aO]) ++ List.replicate (7 - (lg_sl ([.ref p0, .long thick, .long most, .ref aO])).length) Slot.unset).toArray = ls at hl ⊢
  have hl : lv_has ls 7 [(0, .ref p0), (1, .long thick), (3, .long most), (5, .ref aO)] := hl
  refine lv_aload hx hb dL_balusters_0 (lv_at hl 3 rfl) ?_
  refine lv_iconst (v := 0) hx hb dL_balusters_2 (by decide) ?_
  refine lv_aload_n hx hb dL_balusters_3 rfl (lv_at hl 0 rfl) ?_
  refine lv_lload_n hx hb dL_balusters_4 rfl (lv_at hl 1 rfl) ?_
  refine lv_lload_n hx hb dL_balusters_5 rfl (lv_at hl 2 rfl) ?_
  refine tc_go (st1 := [.int (fP_balusters tot pd gd kind rises total going width cf ct gn ge thick most), .int 0, .ref aO]) (ws' := [(p0, .inr (0, [.ref pT, .ref pR, .ref pS, .ref pF, .ref h0, .ref pQ, .ref pG, .long tot, .int (bI pd), .int (bI (fP_balusters_c0f9 tot pd gd kind rises total going width cf ct gn ge thick most))])), (h0, .inr (4, [.int kind, .int rises, .long total, .long going, .long width, .int cf, .int ct])), (pG, .inr (5, [.long (fP_balusters_c2f0 tot pd gd kind rises total going width cf ct gn ge thick most), .long (fP_balusters_c2f1 tot pd gd kind rises total going width cf ct gn ge thick most)])), (aO, .inl (cO, 1, .inr (.inl fo)))]) (va_runV (As := [.long thick, .long most]) (rest := [.int 0, .ref aO]) (C := RP) ⟨hx, hb, hml, hown, hts⟩ (c_P_balusters l dC dI p0 pT pR pS pF h0 pQ pG tot pd gd kind rises total going width cf ct gn ge thick most hx9) ⟨cB 2 hts gw_545 gw_1 gw_542 ndP_balusters rfl rfl ⟨Nat.le_of_ble_eq_true rfl, Nat.le_of_ble_eq_true rfl⟩, hts _ gw_543, hts _ gw_544⟩ (tp_Wv hN hK hP hD [0, 1, 2] [] rfl (by decide) rfl (q0 := 0) (ci := 0) rfl rfl) rfl rfl hl.1 rfl (lv_room (Nat.le_of_ble_eq_true rfl)) dL_balusters_6 ⟨Nat.le_of_ble_eq_true rfl, Nat.le_of_ble_eq_true rfl⟩) rfl hP hD hS [0, 1, 2] rfl (show [p0, h0, pG] = [p0, h0, pG] from rfl) rfl (fun H locs hP hD hS => ?_)
  have hP : va_P (dC, dI) vCl [(p0, .inr (0, [.ref pT, .ref pR, .ref pS, .ref pF, .ref h0, .ref pQ, .ref pG, .long tot, .int (bI pd), .int (bI (fP_balusters_c0f9 tot pd gd kind rises total going width cf ct gn ge thick most))])), (h0, .inr (4, [.int kind, .int rises, .long total, .long going, .long width, .int cf, .int ct])), (pG, .inr (5, [.long (fP_balusters_c2f0 tot pd gd kind rises total going width cf ct gn ge thick most), .long (fP_balusters_c2f1 tot pd gd kind rises total going width cf ct gn ge thick most)])), (aO, .inl (cO, 1, .inr (.inl fo)))] H := hP
  have hD : va_D A [(p0, .inr (0, [.ref pT, .ref pR, .ref pS, .ref pF, .ref h0, .ref pQ, .ref pG, .long tot, .int (bI pd), .int (bI (fP_balusters_c0f9 tot pd gd kind rises total going width cf ct gn ge thick most))])), (h0, .inr (4, [.int kind, .int rises, .long total, .long going, .long width, .int cf, .int ct])), (pG, .inr (5, [.long (fP_balusters_c2f0 tot pd gd kind rises total going width cf ct gn ge thick most), .long (fP_balusters_c2f1 tot pd gd kind rises total going width cf ct gn ge thick most)])), (aO, .inl (cO, 1, .inr (.inl fo)))] := hD
  refine lv_i2l (v := (fP_balusters tot pd gd kind rises total going width cf ct gn ge thick most).toInt64) hx hb dL_balusters_9 rfl ?_
  have b_1 : vp_in 0 1 := vp_in_nI (n := 0) (N := 1) (by decide) (by decide)
  refine va_last hx hb hK hP hD hS 3 0 rfl rfl b_1 dL_balusters_10 (fun H locs hP hD hS => ?_)
  have hP : va_P (dC, dI) vCl [(p0, .inr (0, [.ref pT, .ref pR, .ref pS, .ref pF, .ref h0, .ref pQ, .ref pG, .long tot, .int (bI pd), .int (bI (fP_balusters_c0f9 tot pd gd kind rises total going width cf ct gn ge thick most))])), (h0, .inr (4, [.int kind, .int rises, .long total, .long going, .long width, .int cf, .int ct])), (pG, .inr (5, [.long (fP_balusters_c2f0 tot pd gd kind rises total going width cf ct gn ge thick most), .long (fP_balusters_c2f1 tot pd gd kind rises total going width cf ct gn ge thick most)])), (aO, .inl (cO, 1, .inr (.inl (vp_updL fo (0 : Int32).toNatClampNeg ((fP_balusters tot pd gd kind rises total going width cf ct gn ge thick most).toInt64)))))] H := hP
  have hD : va_D A [(p0, .inr (0, [.ref pT, .ref pR, .ref pS, .ref pF, .ref h0, .ref pQ, .ref pG, .long tot, .int (bI pd), .int (bI (fP_balusters_c0f9 tot pd gd kind rises total going width cf ct gn ge thick most))])), (h0, .inr (4, [.int kind, .int rises, .long total, .long going, .long width, .int cf, .int ct])), (pG, .inr (5, [.long (fP_balusters_c2f0 tot pd gd kind rises total going width cf ct gn ge thick most), .long (fP_balusters_c2f1 tot pd gd kind rises total going width cf ct gn ge thick most)])), (aO, .inl (cO, 1, .inr (.inl (vp_updL fo (0 : Int32).toNatClampNeg ((fP_balusters tot pd gd kind rises total going width cf ct gn ge thick most).toInt64)))))] := hD
  refine lv_goto (tgt := 22) hx hb dL_balusters_11 (by decide) ?_
  refine lv_iconst (v := 0) hx hb dL_balusters_22 (by decide) ?_
  exact W.iret (v := 0) hx hb hr (fun t ht hW => ⟨by rw [show fL_balusters tot pd gd kind rises total going width cf ct gn ge thick most fo = 0 from by unfold fL_balusters; rfl], by rw [ht]; exact hP, by rw [hAe]; exact hS.F ht⟩) hS.2.2 dL_balusters_23

set_option maxHeartbeats 1500000 in
set_option maxRecDepth 100000 in
theorem c_L_balusters_ISE (l : Launch) (dC : Nat → ClassId) (dI : Nat → Nat → Nat) (p0 : Nat) (pT : Nat) (pR : Nat) (pS : Nat) (pF : Nat) (h0 : Nat) (pQ : Nat) (pG : Nat) (tot : Int64) (pd : Bool) (gd : Bool) (kind : Int32) (rises : Int32) (total : Int64) (going : Int64) (width : Int64) (cf : Int32) (ct : Int32) (gn : Int64) (ge : Int64) (thick : Int64) (most : Int64) (aO : Nat) (cO : ClassId) (fo : Nat → Int64) (hfl : l.stackTraces = false) (hx9 : xP_balusters tot pd gd kind rises total going width cf ct gn ge thick most = 1) : Met l mL_balusters wL_balusters ({ frames := 8, cells := 1, slots := 6, locals := 129 }) (tp_E (dC, dI) vCl [.ref p0, .long thick, .long most, .ref aO] [(p0, .inr (0, [.ref pT, .ref pR, .ref pS, .ref pF, .ref h0, .ref pQ, .ref pG, .long tot, .int (bI pd), .int (bI gd)])), (h0, .inr (4, [.int kind, .int rises, .long total, .long going, .long width, .int cf, .int ct])), (pG, .inr (5, [.long gn, .long ge])), (aO, .inl (cO, 1, .inr (.inl fo)))] [(cO, .long)]) (tq_E (some (.int 1))) 1 6 (fun _ => False) := by
  refine va_MetW (cc := bL_balusters) (maxL := 7) (ret := (some .int)) (hh := [(0, 11, 14, 19), (0, 11, 18, 13)]) (by decide) rfl ?_
  intro p e s m args below meth c s₁ B hml hv
  obtain ⟨rfl, hP, hK, hN, hZ, hC⟩ := hv
  have hx := B.exec
  have hb := B.bytes
  have hr := B.returns
  have hts : ∀ w ∈ gT, w.before _ s = true := fun w h => atoms_spec (ws := wL_balusters) B.pre w (List.mem_cons_of_mem _ h)
  have hown : s.vm.findClass RL = some m.cls := findClass_of_methodNamed B.named
  have hP : va_P (dC, dI) vCl [(p0, .inr (0, [.ref pT, .ref pR, .ref pS, .ref pF, .ref h0, .ref pQ, .ref pG, .long tot, .int (bI pd), .int (bI gd)])), (h0, .inr (4, [.int kind, .int rises, .long total, .long going, .long width, .int cf, .int ct])), (pG, .inr (5, [.long gn, .long ge])), (aO, .inl (cO, 1, .inr (.inl fo)))] s.heap := hP
  have hl := lv_entry ([.ref p0, .long thick, .long most, .ref aO]) (n := 7) (Nat.le_of_ble_eq_true rfl)
  rw [lg_entry_eq]
  generalize (lg_sl ([.ref p0, .long thick, .long most, .ref aO]) ++ List.replicate (7 - (lg_sl ([.ref p0, .long thick, .long most, .ref aO])).length) Slot.unset).toArray = ls at hl ⊢
  have hl : lv_has ls 7 [(0, .ref p0), (1, .long thick), (3, .long most), (5, .ref aO)] := hl
  refine lv_aload hx hb dL_balusters_0 (lv_at hl 3 rfl) ?_
  refine lv_iconst (v := 0) hx hb dL_balusters_2 (by decide) ?_
  refine lv_aload_n hx hb dL_balusters_3 rfl (lv_at hl 0 rfl) ?_
  refine lv_lload_n hx hb dL_balusters_4 rfl (lv_at hl 1 rfl) ?_
  refine lv_lload_n hx hb dL_balusters_5 rfl (lv_at hl 2 rfl) ?_
  refine tw_runV (As := [.long thick, .long most]) (rest := [.int 0, .ref aO]) (C := RP) ⟨hx, hb, hml, hown, hts⟩ (t_P_balusters_ISE l dC dI p0 pT pR pS pF h0 pQ pG tot pd gd kind rises total going width cf ct gn ge thick most hfl hx9) ⟨cB 2 hts gw_545 gw_1 gw_542 ndP_balusters rfl rfl ⟨Nat.le_of_ble_eq_true rfl, Nat.le_of_ble_eq_true rfl⟩, hts _ gw_543, hts _ gw_544⟩ (tp_Tv hZ (fun _ _ => rfl) hN hK hP [0, 1, 2] [] rfl rfl (q0 := 0) (ci := 0) rfl rfl) rfl hl.1 rfl (Nat.le_of_ble_eq_true rfl) dL_balusters_6 ⟨Nat.le_of_ble_eq_true rfl, Nat.le_of_ble_eq_true rfl⟩ (fun x9 H9 hN9 => ?_)
  refine tw_catch hown hN9 [] ⟨0, 11, 14, 19⟩ [⟨0, 11, 18, 13⟩] (tL_tab B List.mem_cons_self) (List.forall_mem_nil _) rfl (by decide) (tcl_S (word_at (a' := #[]) (State.WarmedH.refl s) (gT_good _ gw_300) (hts _ gw_300)) hC) ?_
  refine lv_astore (lv' := [(6, .ref x9), (0, .ref p0), (1, .long thick), (3, .long most), (5, .ref aO)]) hx hb dL_balusters_14 hl (by decide) rfl (fun ls hl => ?_)
  refine lv_iconst (v := 1) hx hb dL_balusters_16 (by decide) ?_
  exact W.iret (v := 1) hx hb hr (fun t ht hW => ⟨rfl, by rw [ht]; exact hN9.2.1, fun q hq => by rw [ht]; exact hN9.2.2.2 q hq⟩) (fun q h => by cases h) dL_balusters_17

set_option maxHeartbeats 1500000 in
set_option maxRecDepth 100000 in
theorem c_L_balusters_IAE (l : Launch) (dC : Nat → ClassId) (dI : Nat → Nat → Nat) (p0 : Nat) (pT : Nat) (pR : Nat) (pS : Nat) (pF : Nat) (h0 : Nat) (pQ : Nat) (pG : Nat) (tot : Int64) (pd : Bool) (gd : Bool) (kind : Int32) (rises : Int32) (total : Int64) (going : Int64) (width : Int64) (cf : Int32) (ct : Int32) (gn : Int64) (ge : Int64) (thick : Int64) (most : Int64) (aO : Nat) (cO : ClassId) (fo : Nat → Int64) (hfl : l.stackTraces = false) (hx9 : xP_balusters tot pd gd kind rises total going width cf ct gn ge thick most = 2) : Met l mL_balusters wL_balusters ({ frames := 7, cells := 1, slots := 6, locals := 109 }) (tp_E (dC, dI) vCl [.ref p0, .long thick, .long most, .ref aO] [(p0, .inr (0, [.ref pT, .ref pR, .ref pS, .ref pF, .ref h0, .ref pQ, .ref pG, .long tot, .int (bI pd), .int (bI gd)])), (h0, .inr (4, [.int kind, .int rises, .long total, .long going, .long width, .int cf, .int ct])), (pG, .inr (5, [.long gn, .long ge])), (aO, .inl (cO, 1, .inr (.inl fo)))] [(cO, .long)]) (tq_E (some (.int 2))) 1 6 (fun _ => False) := by
  refine va_MetW (cc := bL_balusters) (maxL := 7) (ret := (some .int)) (hh := [(0, 11, 14, 19), (0, 11, 18, 13)]) (by decide) rfl ?_
  intro p e s m args below meth c s₁ B hml hv
  obtain ⟨rfl, hP, hK, hN, hZ, hC⟩ := hv
  have hx := B.exec
  have hb := B.bytes
  have hr := B.returns
  have hts : ∀ w ∈ gT, w.before _ s = true := fun w h => atoms_spec (ws := wL_balusters) B.pre w (List.mem_cons_of_mem _ h)
  have hown : s.vm.findClass RL = some m.cls := findClass_of_methodNamed B.named
  have hP : va_P (dC, dI) vCl [(p0, .inr (0, [.ref pT, .ref pR, .ref pS, .ref pF, .ref h0, .ref pQ, .ref pG, .long tot, .int (bI pd), .int (bI gd)])), (h0, .inr (4, [.int kind, .int rises, .long total, .long going, .long width, .int cf, .int ct])), (pG, .inr (5, [.long gn, .long ge])), (aO, .inl (cO, 1, .inr (.inl fo)))] s.heap := hP
  have hl := lv_entry ([.ref p0, .long thick, .long most, .ref aO]) (n := 7) (Nat.le_of_ble_eq_true rfl)
  rw [lg_entry_eq]
  generalize (lg_sl ([.ref p0, .long thick, .long most, .ref aO]) ++ List.replicate (7 - (lg_sl ([.ref p0, .long thick, .long most, .ref aO])).length) Slot.unset).toArray = ls at hl ⊢
  have hl : lv_has ls 7 [(0, .ref p0), (1, .long thick), (3, .long most), (5, .ref aO)] := hl
  refine lv_aload hx hb dL_balusters_0 (lv_at hl 3 rfl) ?_
  refine lv_iconst (v := 0) hx hb dL_balusters_2 (by decide) ?_
  refine lv_aload_n hx hb dL_balusters_3 rfl (lv_at hl 0 rfl) ?_
  refine lv_lload_n hx hb dL_balusters_4 rfl (lv_at hl 1 rfl) ?_
  refine lv_lload_n hx hb dL_balusters_5 rfl (lv_at hl 2 rfl) ?_
  refine tw_runV (As := [.long thick, .long most]) (rest := [.int 0, .ref aO]) (C := RP) ⟨hx, hb, hml, hown, hts⟩ (t_P_balusters_IAE l dC dI p0 pT pR pS pF h0 pQ pG tot pd gd kind rises total going width cf ct gn ge thick most hfl hx9) ⟨cB 2 hts gw_545 gw_1 gw_542 ndP_balusters rfl rfl ⟨Nat.le_of_ble_eq_true rfl, Nat.le_of_ble_eq_true rfl⟩, hts _ gw_543, hts _ gw_544⟩ (tp_Tv hZ (fun _ _ => rfl) hN hK hP [0, 1, 2] [] rfl rfl (q0 := 0) (ci := 0) rfl rfl) rfl hl.1 rfl (Nat.le_of_ble_eq_true rfl) dL_balusters_6 ⟨Nat.le_of_ble_eq_true rfl, Nat.le_of_ble_eq_true rfl⟩ (fun x9 H9 hN9 => ?_)
  refine tw_catch hown hN9 [⟨0, 11, 14, 19⟩] ⟨0, 11, 18, 13⟩ [] (tL_tab B List.mem_cons_self) (List.forall_mem_cons.mpr ⟨⟨rfl, by decide, _, tcl_AS (word_at (a' := #[]) (State.WarmedH.refl s) (gT_good _ gw_300) (hts _ gw_300)) hC⟩, List.forall_mem_nil _⟩) rfl (by decide) (tcl_A (word_at (a' := #[]) (State.WarmedH.refl s) (gT_good _ gw_244) (hts _ gw_244)) hC) ?_
  refine lv_astore (lv' := [(6, .ref x9), (0, .ref p0), (1, .long thick), (3, .long most), (5, .ref aO)]) hx hb dL_balusters_18 hl (by decide) rfl (fun ls hl => ?_)
  refine lv_iconst (v := 2) hx hb dL_balusters_20 (by decide) ?_
  exact W.iret (v := 2) hx hb hr (fun t ht hW => ⟨rfl, by rw [ht]; exact hN9.2.1, fun q hq => by rw [ht]; exact hN9.2.2.2 q hq⟩) (fun q h => by cases h) dL_balusters_21

def fL_gap (tot : Int64) (pd : Bool) (gd : Bool) (gn : Int64) (ge : Int64) (part : Int32) (fo : Nat → Int64) : Int32 := 0
set_option maxHeartbeats 1500000 in
set_option maxRecDepth 100000 in
theorem c_L_gap (l : Launch) (dC : Nat → ClassId) (dI : Nat → Nat → Nat) (p0 : Nat) (pT : Nat) (pR : Nat) (pS : Nat) (pF : Nat) (h0 : Nat) (pQ : Nat) (pG : Nat) (tot : Int64) (pd : Bool) (gd : Bool) (gn : Int64) (ge : Int64) (part : Int32) (aO : Nat) (cO : ClassId) (fo : Nat → Int64) (hx9 : xP_gap tot pd gd gn ge part = 0) : Met l mL_gap wL_gap ({ frames := 2, cells := 0, slots := 0, locals := 42 }) (tp_W (dC, dI) vCl [.ref p0, .int part, .ref aO] [(p0, .inr (0, [.ref pT, .ref pR, .ref pS, .ref pF, .ref h0, .ref pQ, .ref pG, .long tot, .int (bI pd), .int (bI gd)])), (pG, .inr (5, [.long gn, .long ge])), (aO, .inl (cO, 1, .inr (.inl fo)))] [(cO, .long)]) (tq_W (dC, dI) vCl (some (.int (fL_gap tot pd gd gn ge part fo))) [(p0, .inr (0, [.ref pT, .ref pR, .ref pS, .ref pF, .ref h0, .ref pQ, .ref pG, .long tot, .int (bI pd), .int (bI gd)])), (pG, .inr (5, [.long gn, .long ge])), (aO, .inl (cO, 1, .inr (.inl fo)))] [(p0, .inr (0, [.ref pT, .ref pR, .ref pS, .ref pF, .ref h0, .ref pQ, .ref pG, .long tot, .int (bI pd), .int (bI gd)])), (pG, .inr (5, [.long gn, .long ge])), (aO, .inl (cO, 1, .inr (.inl (vp_updL fo (0 : Int32).toNatClampNeg (fP_gap tot pd gd gn ge part)))))]) 0 0 (tA [(p0, .inr (0, [.ref pT, .ref pR, .ref pS, .ref pF, .ref h0, .ref pQ, .ref pG, .long tot, .int (bI pd), .int (bI gd)])), (pG, .inr (5, [.long gn, .long ge])), (aO, .inl (cO, 1, .inr (.inl fo)))]) := by
  refine va_MetW (cc := bL_gap) (maxL := 4) (ret := (some .int)) (hh := [(0, 8, 11, 19), (0, 8, 14, 25)]) (by decide) rfl ?_
  intro p e s m args below meth c s₁ B hml hv
  obtain ⟨rfl, hP, hK, hN, hD0⟩ := hv
  have hx := B.exec
  have hb := B.bytes
  have hr := B.returns
  have hts : ∀ w ∈ gT, w.before _ s = true := fun w h => atoms_spec (ws := wL_gap) B.pre w (List.mem_cons_of_mem _ h)
  have hown : s.vm.findClass RL = some m.cls := findClass_of_methodNamed B.named
  have hlocks := B.notSynchronized
  have hD := tA_D hD0
  generalize hAe : tA [(p0, .inr (0, [.ref pT, .ref pR, .ref pS, .ref pF, .ref h0, .ref pQ, .ref pG, .long tot, .int (bI pd), .int (bI gd)])), (pG, .inr (5, [.long gn, .long ge])), (aO, .inl (cO, 1, .inr (.inl fo)))] = A at hD ⊢
  have hS : va_S A s.heap s.heap [] := va_S.rf
  have hP : va_P (dC, dI) vCl [(p0, .inr (0, [.ref pT, .ref pR, .ref pS, .ref pF, .ref h0, .ref pQ, .ref pG, .long tot, .int (bI pd), .int (bI gd)])), (pG, .inr (5, [.long gn, .long ge])), (aO, .inl (cO, 1, .inr (.inl fo)))] s.heap := hP
  have hl := lv_entry ([.ref p0, .int part, .ref aO]) (n := 4) (Nat.le_of_ble_eq_true rfl)
  rw [lg_entry_eq]
  generalize (lg_sl ([.ref p0, .int part, .ref aO]) ++ List.replicate (4 - (lg_sl ([.ref p0, .int part, .ref aO])).length) Slot.unset).toArray = ls at hl ⊢
  have hl : lv_has ls 4 [(0, .ref p0), (1, .int part), (2, .ref aO)] := hl
  refine lv_aload_n hx hb dL_gap_0 rfl (lv_at hl 2 rfl) ?_
  refine lv_iconst (v := 0) hx hb dL_gap_1 (by decide) ?_
  refine lv_aload_n hx hb dL_gap_2 rfl (lv_at hl 0 rfl) ?_
  refine lv_iload_n hx hb dL_gap_3 rfl (lv_at hl 1 rfl) ?_
  refine tr_go (st1 := [.long (fP_gap tot pd gd gn ge part), .int 0, .ref aO]) (va_runV (As := [.int part]) (rest := [.int 0, .ref aO]) (C := RP) ⟨hx, hb, hml, hown, hts⟩ (c_P_gap l dC dI p0 pT pR pS pF h0 pQ pG tot pd gd gn ge part hx9) ⟨cB 1 hts gw_558 gw_1 gw_555 ndP_gap rfl rfl ⟨Nat.le_of_ble_eq_true rfl, Nat.le_of_ble_eq_true rfl⟩, hts _ gw_556, hts _ gw_557⟩ (tp_Rv hN hK hP [0, 1] [] rfl rfl (q0 := 0) (ci := 0) rfl rfl) rfl rfl hl.1 rfl (lv_room (Nat.le_of_ble_eq_true rfl)) dL_gap_4 ⟨Nat.le_of_ble_eq_true rfl, Nat.le_of_ble_eq_true rfl⟩) rfl ?_
  have b_1 : vp_in 0 1 := vp_in_nI (n := 0) (N := 1) (by decide) (by decide)
  refine va_last hx hb hK hP hD hS 2 0 rfl rfl b_1 dL_gap_7 (fun H locs hP hD hS => ?_)
  have hP : va_P (dC, dI) vCl [(p0, .inr (0, [.ref pT, .ref pR, .ref pS, .ref pF, .ref h0, .ref pQ, .ref pG, .long tot, .int (bI pd), .int (bI gd)])), (pG, .inr (5, [.long gn, .long ge])), (aO, .inl (cO, 1, .inr (.inl (vp_updL fo (0 : Int32).toNatClampNeg (fP_gap tot pd gd gn ge part)))))] H := hP
  have hD : va_D A [(p0, .inr (0, [.ref pT, .ref pR, .ref pS, .ref pF, .ref h0, .ref pQ, .ref pG, .long tot, .int (bI pd), .int (bI gd)])), (pG, .inr (5, [.long gn, .long ge])), (aO, .inl (cO, 1, .inr (.inl (vp_updL fo (0 : Int32).toNatClampNeg (fP_gap tot pd gd gn ge part)))))] := hD
  refine lv_goto (tgt := 17) hx hb dL_gap_8 (by decide) ?_
  refine lv_iconst (v := 0) hx hb dL_gap_17 (by decide) ?_
  exact W.iret (v := 0) hx hb hr (fun t ht hW => ⟨by rw [show fL_gap tot pd gd gn ge part fo = 0 from by unfold fL_gap; rfl], by rw [ht]; exact hP, by rw [hAe]; exact hS.F ht⟩) hS.2.2 dL_gap_18

set_option maxHeartbeats 1500000 in
set_option maxRecDepth 100000 in
theorem c_L_gap_ISE (l : Launch) (dC : Nat → ClassId) (dI : Nat → Nat → Nat) (p0 : Nat) (pT : Nat) (pR : Nat) (pS : Nat) (pF : Nat) (h0 : Nat) (pQ : Nat) (pG : Nat) (tot : Int64) (pd : Bool) (gd : Bool) (gn : Int64) (ge : Int64) (part : Int32) (aO : Nat) (cO : ClassId) (fo : Nat → Int64) (hfl : l.stackTraces = false) (hx9 : xP_gap tot pd gd gn ge part = 1) : Met l mL_gap wL_gap ({ frames := 7, cells := 1, slots := 6, locals := 103 }) (tp_E (dC, dI) vCl [.ref p0, .int part, .ref aO] [(p0, .inr (0, [.ref pT, .ref pR, .ref pS, .ref pF, .ref h0, .ref pQ, .ref pG, .long tot, .int (bI pd), .int (bI gd)])), (pG, .inr (5, [.long gn, .long ge])), (aO, .inl (cO, 1, .inr (.inl fo)))] [(cO, .long)]) (tq_E (some (.int 1))) 1 6 (fun _ => False) := by
  refine va_MetW (cc := bL_gap) (maxL := 4) (ret := (some .int)) (hh := [(0, 8, 11, 19), (0, 8, 14, 25)]) (by decide) rfl ?_
  intro p e s m args below meth c s₁ B hml hv
  obtain ⟨rfl, hP, hK, hN, hZ, hC⟩ := hv
  have hx := B.exec
  have hb := B.bytes
  have hr := B.returns
  have hts : ∀ w ∈ gT, w.before _ s = true := fun w h => atoms_spec (ws := wL_gap) B.pre w (List.mem_cons_of_mem _ h)
  have hown : s.vm.findClass RL = some m.cls := findClass_of_methodNamed B.named
  have hP : va_P (dC, dI) vCl [(p0, .inr (0, [.ref pT, .ref pR, .ref pS, .ref pF, .ref h0, .ref pQ, .ref pG, .long tot, .int (bI pd), .int (bI gd)])), (pG, .inr (5, [.long gn, .long ge])), (aO, .inl (cO, 1, .inr (.inl fo)))] s.heap := hP
  have hl := lv_entry ([.ref p0, .int part, .ref aO]) (n := 4) (Nat.le_of_ble_eq_true rfl)
  rw [lg_entry_eq]
  generalize (lg_sl ([.ref p0, .int part, .ref aO]) ++ List.replicate (4 - (lg_sl ([.ref p0, .int part, .ref aO])).length) Slot.unset).toArray = ls at hl ⊢
  have hl : lv_has ls 4 [(0, .ref p0), (1, .int part), (2, .ref aO)] := hl
  refine lv_aload_n hx hb dL_gap_0 rfl (lv_at hl 2 rfl) ?_
  refine lv_iconst (v := 0) hx hb dL_gap_1 (by decide) ?_
  refine lv_aload_n hx hb dL_gap_2 rfl (lv_at hl 0 rfl) ?_
  refine lv_iload_n hx hb dL_gap_3 rfl (lv_at hl 1 rfl) ?_
  refine tw_runV (As := [.int part]) (rest := [.int 0, .ref aO]) (C := RP) ⟨hx, hb, hml, hown, hts⟩ (t_P_gap_ISE l dC dI p0 pT pR pS pF h0 pQ pG tot pd gd gn ge part hfl hx9) ⟨cB 1 hts gw_558 gw_1 gw_555 ndP_gap rfl rfl ⟨Nat.le_of_ble_eq_true rfl, Nat.le_of_ble_eq_true rfl⟩, hts _ gw_556, hts _ gw_557⟩ (tp_Tv hZ (fun _ _ => rfl) hN hK hP [0, 1] [] rfl rfl (q0 := 0) (ci := 0) rfl rfl) rfl hl.1 rfl (Nat.le_of_ble_eq_true rfl) dL_gap_4 ⟨Nat.le_of_ble_eq_true rfl, Nat.le_of_ble_eq_true rfl⟩ (fun x9 H9 hN9 => ?_)
  refine tw_catch hown hN9 [] ⟨0, 8, 11, 19⟩ [⟨0, 8, 14, 25⟩] (tL_tab B List.mem_cons_self) (List.forall_mem_nil _) rfl (by decide) (tcl_S (word_at (a' := #[]) (State.WarmedH.refl s) (gT_good _ gw_300) (hts _ gw_300)) hC) ?_
  refine lv_astore_n (lv' := [(3, .ref x9), (0, .ref p0), (1, .int part), (2, .ref aO)]) hx hb dL_gap_11 rfl hl (by decide) rfl (fun ls hl => ?_)
  refine lv_iconst (v := 1) hx hb dL_gap_12 (by decide) ?_
  exact W.iret (v := 1) hx hb hr (fun t ht hW => ⟨rfl, by rw [ht]; exact hN9.2.1, fun q hq => by rw [ht]; exact hN9.2.2.2 q hq⟩) (fun q h => by cases h) dL_gap_13

set_option maxHeartbeats 1500000 in
set_option maxRecDepth 100000 in
theorem c_L_gap_IOB (l : Launch) (dC : Nat → ClassId) (dI : Nat → Nat → Nat) (p0 : Nat) (pT : Nat) (pR : Nat) (pS : Nat) (pF : Nat) (h0 : Nat) (pQ : Nat) (pG : Nat) (tot : Int64) (pd : Bool) (gd : Bool) (gn : Int64) (ge : Int64) (part : Int32) (aO : Nat) (cO : ClassId) (fo : Nat → Int64) (hfl : l.stackTraces = false) (hx9 : xP_gap tot pd gd gn ge part = 2) : Met l mL_gap wL_gap ({ frames := 8, cells := 1, slots := 6, locals := 124 }) (tp_E (dC, dI) vCl [.ref p0, .int part, .ref aO] [(p0, .inr (0, [.ref pT, .ref pR, .ref pS, .ref pF, .ref h0, .ref pQ, .ref pG, .long tot, .int (bI pd), .int (bI gd)])), (pG, .inr (5, [.long gn, .long ge])), (aO, .inl (cO, 1, .inr (.inl fo)))] [(cO, .long)]) (tq_E (some (.int 2))) 1 6 (fun _ => False) := by
  refine va_MetW (cc := bL_gap) (maxL := 4) (ret := (some .int)) (hh := [(0, 8, 11, 19), (0, 8, 14, 25)]) (by decide) rfl ?_
  intro p e s m args below meth c s₁ B hml hv
  obtain ⟨rfl, hP, hK, hN, hZ, hC⟩ := hv
  have hx := B.exec
  have hb := B.bytes
  have hr := B.returns
  have hts : ∀ w ∈ gT, w.before _ s = true := fun w h => atoms_spec (ws := wL_gap) B.pre w (List.mem_cons_of_mem _ h)
  have hown : s.vm.findClass RL = some m.cls := findClass_of_methodNamed B.named
  have hP : va_P (dC, dI) vCl [(p0, .inr (0, [.ref pT, .ref pR, .ref pS, .ref pF, .ref h0, .ref pQ, .ref pG, .long tot, .int (bI pd), .int (bI gd)])), (pG, .inr (5, [.long gn, .long ge])), (aO, .inl (cO, 1, .inr (.inl fo)))] s.heap := hP
  have hl := lv_entry ([.ref p0, .int part, .ref aO]) (n := 4) (Nat.le_of_ble_eq_true rfl)
  rw [lg_entry_eq]
  generalize (lg_sl ([.ref p0, .int part, .ref aO]) ++ List.replicate (4 - (lg_sl ([.ref p0, .int part, .ref aO])).length) Slot.unset).toArray = ls at hl ⊢
  have hl : lv_has ls 4 [(0, .ref p0), (1, .int part), (2, .ref aO)] := hl
  refine lv_aload_n hx hb dL_gap_0 rfl (lv_at hl 2 rfl) ?_
  refine lv_iconst (v := 0) hx hb dL_gap_1 (by decide) ?_
  refine lv_aload_n hx hb dL_gap_2 rfl (lv_at hl 0 rfl) ?_
  refine lv_iload_n hx hb dL_gap_3 rfl (lv_at hl 1 rfl) ?_
  refine tw_runV (As := [.int part]) (rest := [.int 0, .ref aO]) (C := RP) ⟨hx, hb, hml, hown, hts⟩ (t_P_gap_IOB l dC dI p0 pT pR pS pF h0 pQ pG tot pd gd gn ge part hfl hx9) ⟨cB 1 hts gw_558 gw_1 gw_555 ndP_gap rfl rfl ⟨Nat.le_of_ble_eq_true rfl, Nat.le_of_ble_eq_true rfl⟩, hts _ gw_556, hts _ gw_557⟩ (tp_Tv hZ (fun _ _ => rfl) hN hK hP [0, 1] [] rfl rfl (q0 := 0) (ci := 0) rfl rfl) rfl hl.1 rfl (Nat.le_of_ble_eq_true rfl) dL_gap_4 ⟨Nat.le_of_ble_eq_true rfl, Nat.le_of_ble_eq_true rfl⟩ (fun x9 H9 hN9 => ?_)
  refine tw_catch hown hN9 [⟨0, 8, 11, 19⟩] ⟨0, 8, 14, 25⟩ [] (tL_tab B List.mem_cons_self) (List.forall_mem_cons.mpr ⟨⟨rfl, by decide, _, tcl_BS (word_at (a' := #[]) (State.WarmedH.refl s) (gT_good _ gw_300) (hts _ gw_300)) hC⟩, List.forall_mem_nil _⟩) rfl (by decide) (tcl_B (word_at (a' := #[]) (State.WarmedH.refl s) (gT_good _ gw_366) (hts _ gw_366)) hC) ?_
  refine lv_astore_n (lv' := [(3, .ref x9), (0, .ref p0), (1, .int part), (2, .ref aO)]) hx hb dL_gap_14 rfl hl (by decide) rfl (fun ls hl => ?_)
  refine lv_iconst (v := 2) hx hb dL_gap_15 (by decide) ?_
  exact W.iret (v := 2) hx hb hr (fun t ht hW => ⟨rfl, by rw [ht]; exact hN9.2.1, fun q hq => by rw [ht]; exact hN9.2.2.2 q hq⟩) (fun q h => by cases h) dL_gap_16

def fL_list (tot : Int64) (pd : Bool) (gd : Bool) (kind : Int32) (rises : Int32) (total : Int64) (going : Int64) (width : Int64) (cf : Int32) (ct : Int32) (k : Int32) (fo : Nat → Int64) : Int32 := 0
set_option maxHeartbeats 1500000 in
set_option maxRecDepth 100000 in
theorem c_L_list (l : Launch) (dC : Nat → ClassId) (dI : Nat → Nat → Nat) (p0 : Nat) (pT : Nat) (pR : Nat) (pS : Nat) (pF : Nat) (h0 : Nat) (pQ : Nat) (pG : Nat) (tot : Int64) (pd : Bool) (gd : Bool) (kind : Int32) (rises : Int32) (total : Int64) (going : Int64) (width : Int64) (cf : Int32) (ct : Int32) (k : Int32) (aO : Nat) (cO : ClassId) (fo : Nat → Int64) (hx9 : xP_list tot pd gd kind rises total going width cf ct k = 0) : Met l mL_list wL_list ({ frames := 2, cells := 0, slots := 0, locals := 42 }) (tp_W (dC, dI) vCl [.ref p0, .int k, .ref aO] [(p0, .inr (0, [.ref pT, .ref pR, .ref pS, .ref pF, .ref h0, .ref pQ, .ref pG, .long tot, .int (bI pd), .int (bI gd)])), (h0, .inr (4, [.int kind, .int rises, .long total, .long going, .long width, .int cf, .int ct])), (aO, .inl (cO, 1, .inr (.inl fo)))] [(cO, .long)]) (tq_W (dC, dI) vCl (some (.int (fL_list tot pd gd kind rises total going width cf ct k fo))) [(p0, .inr (0, [.ref pT, .ref pR, .ref pS, .ref pF, .ref h0, .ref pQ, .ref pG, .long tot, .int (bI pd), .int (bI gd)])), (h0, .inr (4, [.int kind, .int rises, .long total, .long going, .long width, .int cf, .int ct])), (aO, .inl (cO, 1, .inr (.inl fo)))] [(p0, .inr (0, [.ref pT, .ref pR, .ref pS, .ref pF, .ref h0, .ref pQ, .ref pG, .long tot, .int (bI pd), .int (bI gd)])), (h0, .inr (4, [.int kind, .int rises, .long total, .long going, .long width, .int cf, .int ct])), (aO, .inl (cO, 1, .inr (.inl (vp_updL fo (0 : Int32).toNatClampNeg ((fP_list tot pd gd kind rises total going width cf ct k).toInt64)))))]) 0 0 (tA [(p0, .inr (0, [.ref pT, .ref pR, .ref pS, .ref pF, .ref h0, .ref pQ, .ref pG, .long tot, .int (bI pd), .int (bI gd)])), (h0, .inr (4, [.int kind, .int rises, .long total, .long going, .long width, .int cf, .int ct])), (aO, .inl (cO, 1, .inr (.inl fo)))]) := by
  refine va_MetW (cc := bL_list) (maxL := 4) (ret := (some .int)) (hh := [(0, 9, 12, 19), (0, 9, 15, 25)]) (by decide) rfl ?_
  intro p e s m args below meth c s₁ B hml hv
  obtain ⟨rfl, hP, hK, hN, hD0⟩ := hv
  have hx := B.exec
  have hb := B.bytes
  have hr := B.returns
  have hts : ∀ w ∈ gT, w.before _ s = true := fun w h => atoms_spec (ws := wL_list) B.pre w (List.mem_cons_of_mem _ h)
  have hown : s.vm.findClass RL = some m.cls := findClass_of_methodNamed B.named
  have hlocks := B.notSynchronized
  have hD := tA_D hD0
  generalize hAe : tA [(p0, .inr (0, [.ref pT, .ref pR, .ref pS, .ref pF, .ref h0, .ref pQ, .ref pG, .long tot, .int (bI pd), .int (bI gd)])), (h0, .inr (4, [.int kind, .int rises, .long total, .long going, .long width, .int cf, .int ct])), (aO, .inl (cO, 1, .inr (.inl fo)))] = A at hD ⊢
  have hS : va_S A s.heap s.heap [] := va_S.rf
  have hP : va_P (dC, dI) vCl [(p0, .inr (0, [.ref pT, .ref pR, .ref pS, .ref pF, .ref h0, .ref pQ, .ref pG, .long tot, .int (bI pd), .int (bI gd)])), (h0, .inr (4, [.int kind, .int rises, .long total, .long going, .long width, .int cf, .int ct])), (aO, .inl (cO, 1, .inr (.inl fo)))] s.heap := hP
  have hl := lv_entry ([.ref p0, .int k, .ref aO]) (n := 4) (Nat.le_of_ble_eq_true rfl)
  rw [lg_entry_eq]
  generalize (lg_sl ([.ref p0, .int k, .ref aO]) ++ List.replicate (4 - (lg_sl ([.ref p0, .int k, .ref aO])).length) Slot.unset).toArray = ls at hl ⊢
  have hl : lv_has ls 4 [(0, .ref p0), (1, .int k), (2, .ref aO)] := hl
  refine lv_aload_n hx hb dL_list_0 rfl (lv_at hl 2 rfl) ?_
  refine lv_iconst (v := 0) hx hb dL_list_1 (by decide) ?_
  refine lv_aload_n hx hb dL_list_2 rfl (lv_at hl 0 rfl) ?_
  refine lv_iload_n hx hb dL_list_3 rfl (lv_at hl 1 rfl) ?_
  refine tr_go (st1 := [.int (fP_list tot pd gd kind rises total going width cf ct k), .int 0, .ref aO]) (va_runV (As := [.int k]) (rest := [.int 0, .ref aO]) (C := RP) ⟨hx, hb, hml, hown, hts⟩ (c_P_list l dC dI p0 pT pR pS pF h0 pQ pG tot pd gd kind rises total going width cf ct k hx9) ⟨cB 1 hts gw_565 gw_1 gw_562 ndP_list rfl rfl ⟨Nat.le_of_ble_eq_true rfl, Nat.le_of_ble_eq_true rfl⟩, hts _ gw_563, hts _ gw_564⟩ (tp_Rv hN hK hP [0, 1] [] rfl rfl (q0 := 0) (ci := 0) rfl rfl) rfl rfl hl.1 rfl (lv_room (Nat.le_of_ble_eq_true rfl)) dL_list_4 ⟨Nat.le_of_ble_eq_true rfl, Nat.le_of_ble_eq_true rfl⟩) rfl ?_
  refine lv_i2l (v := (fP_list tot pd gd kind rises total going width cf ct k).toInt64) hx hb dL_list_7 rfl ?_
  have b_1 : vp_in 0 1 := vp_in_nI (n := 0) (N := 1) (by decide) (by decide)
  refine va_last hx hb hK hP hD hS 2 0 rfl rfl b_1 dL_list_8 (fun H locs hP hD hS => ?_)
  have hP : va_P (dC, dI) vCl [(p0, .inr (0, [.ref pT, .ref pR, .ref pS, .ref pF, .ref h0, .ref pQ, .ref pG, .long tot, .int (bI pd), .int (bI gd)])), (h0, .inr (4, [.int kind, .int rises, .long total, .long going, .long width, .int cf, .int ct])), (aO, .inl (cO, 1, .inr (.inl (vp_updL fo (0 : Int32).toNatClampNeg ((fP_list tot pd gd kind rises total going width cf ct k).toInt64)))))] H := hP
  have hD : va_D A [(p0, .inr (0, [.ref pT, .ref pR, .ref pS, .ref pF, .ref h0, .ref pQ, .ref pG, .long tot, .int (bI pd), .int (bI gd)])), (h0, .inr (4, [.int kind, .int rises, .long total, .long going, .long width, .int cf, .int ct])), (aO, .inl (cO, 1, .inr (.inl (vp_updL fo (0 : Int32).toNatClampNeg ((fP_list tot pd gd kind rises total going width cf ct k).toInt64)))))] := hD
  refine lv_goto (tgt := 18) hx hb dL_list_9 (by decide) ?_
  refine lv_iconst (v := 0) hx hb dL_list_18 (by decide) ?_
  exact W.iret (v := 0) hx hb hr (fun t ht hW => ⟨by rw [show fL_list tot pd gd kind rises total going width cf ct k fo = 0 from by unfold fL_list; rfl], by rw [ht]; exact hP, by rw [hAe]; exact hS.F ht⟩) hS.2.2 dL_list_19

set_option maxHeartbeats 1500000 in
set_option maxRecDepth 100000 in
theorem c_L_list_ISE (l : Launch) (dC : Nat → ClassId) (dI : Nat → Nat → Nat) (p0 : Nat) (pT : Nat) (pR : Nat) (pS : Nat) (pF : Nat) (h0 : Nat) (pQ : Nat) (pG : Nat) (tot : Int64) (pd : Bool) (gd : Bool) (kind : Int32) (rises : Int32) (total : Int64) (going : Int64) (width : Int64) (cf : Int32) (ct : Int32) (k : Int32) (aO : Nat) (cO : ClassId) (fo : Nat → Int64) (hfl : l.stackTraces = false) (hx9 : xP_list tot pd gd kind rises total going width cf ct k = 1) : Met l mL_list wL_list ({ frames := 8, cells := 1, slots := 6, locals := 123 }) (tp_E (dC, dI) vCl [.ref p0, .int k, .ref aO] [(p0, .inr (0, [.ref pT, .ref pR, .ref pS, .ref pF, .ref h0, .ref pQ, .ref pG, .long tot, .int (bI pd), .int (bI gd)])), (h0, .inr (4, [.int kind, .int rises, .long total, .long going, .long width, .int cf, .int ct])), (aO, .inl (cO, 1, .inr (.inl fo)))] [(cO, .long)]) (tq_E (some (.int 1))) 1 6 (fun _ => False) := by
  refine va_MetW (cc := bL_list) (maxL := 4) (ret := (some .int)) (hh := [(0, 9, 12, 19), (0, 9, 15, 25)]) (by decide) rfl ?_
  intro p e s m args below meth c s₁ B hml hv
  obtain ⟨rfl, hP, hK, hN, hZ, hC⟩ := hv
  have hx := B.exec
  have hb := B.bytes
  have hr := B.returns
  have hts : ∀ w ∈ gT, w.before _ s = true := fun w h => atoms_spec (ws := wL_list) B.pre w (List.mem_cons_of_mem _ h)
  have hown : s.vm.findClass RL = some m.cls := findClass_of_methodNamed B.named
  have hP : va_P (dC, dI) vCl [(p0, .inr (0, [.ref pT, .ref pR, .ref pS, .ref pF, .ref h0, .ref pQ, .ref pG, .long tot, .int (bI pd), .int (bI gd)])), (h0, .inr (4, [.int kind, .int rises, .long total, .long going, .long width, .int cf, .int ct])), (aO, .inl (cO, 1, .inr (.inl fo)))] s.heap := hP
  have hl := lv_entry ([.ref p0, .int k, .ref aO]) (n := 4) (Nat.le_of_ble_eq_true rfl)
  rw [lg_entry_eq]
  generalize (lg_sl ([.ref p0, .int k, .ref aO]) ++ List.replicate (4 - (lg_sl ([.ref p0, .int k, .ref aO])).length) Slot.unset).toArray = ls at hl ⊢
  have hl : lv_has ls 4 [(0, .ref p0), (1, .int k), (2, .ref aO)] := hl
  refine lv_aload_n hx hb dL_list_0 rfl (lv_at hl 2 rfl) ?_
  refine lv_iconst (v := 0) hx hb dL_list_1 (by decide) ?_
  refine lv_aload_n hx hb dL_list_2 rfl (lv_at hl 0 rfl) ?_
  refine lv_iload_n hx hb dL_list_3 rfl (lv_at hl 1 rfl) ?_
  refine tw_runV (As := [.int k]) (rest := [.int 0, .ref aO]) (C := RP) ⟨hx, hb, hml, hown, hts⟩ (t_P_list_ISE l dC dI p0 pT pR pS pF h0 pQ pG tot pd gd kind rises total going width cf ct k hfl hx9) ⟨cB 1 hts gw_565 gw_1 gw_562 ndP_list rfl rfl ⟨Nat.le_of_ble_eq_true rfl, Nat.le_of_ble_eq_true rfl⟩, hts _ gw_563, hts _ gw_564⟩ (tp_Tv hZ (fun _ _ => rfl) hN hK hP [0, 1] [] rfl rfl (q0 := 0) (ci := 0) rfl rfl) rfl hl.1 rfl (Nat.le_of_ble_eq_true rfl) dL_list_4 ⟨Nat.le_of_ble_eq_true rfl, Nat.le_of_ble_eq_true rfl⟩ (fun x9 H9 hN9 => ?_)
  refine tw_catch hown hN9 [] ⟨0, 9, 12, 19⟩ [⟨0, 9, 15, 25⟩] (tL_tab B List.mem_cons_self) (List.forall_mem_nil _) rfl (by decide) (tcl_S (word_at (a' := #[]) (State.WarmedH.refl s) (gT_good _ gw_300) (hts _ gw_300)) hC) ?_
  refine lv_astore_n (lv' := [(3, .ref x9), (0, .ref p0), (1, .int k), (2, .ref aO)]) hx hb dL_list_12 rfl hl (by decide) rfl (fun ls hl => ?_)
  refine lv_iconst (v := 1) hx hb dL_list_13 (by decide) ?_
  exact W.iret (v := 1) hx hb hr (fun t ht hW => ⟨rfl, by rw [ht]; exact hN9.2.1, fun q hq => by rw [ht]; exact hN9.2.2.2 q hq⟩) (fun q h => by cases h) dL_list_14

set_option maxHeartbeats 1500000 in
set_option maxRecDepth 100000 in
theorem c_L_list_IOB (l : Launch) (dC : Nat → ClassId) (dI : Nat → Nat → Nat) (p0 : Nat) (pT : Nat) (pR : Nat) (pS : Nat) (pF : Nat) (h0 : Nat) (pQ : Nat) (pG : Nat) (tot : Int64) (pd : Bool) (gd : Bool) (kind : Int32) (rises : Int32) (total : Int64) (going : Int64) (width : Int64) (cf : Int32) (ct : Int32) (k : Int32) (aO : Nat) (cO : ClassId) (fo : Nat → Int64) (hfl : l.stackTraces = false) (hx9 : xP_list tot pd gd kind rises total going width cf ct k = 2) : Met l mL_list wL_list ({ frames := 8, cells := 1, slots := 6, locals := 124 }) (tp_E (dC, dI) vCl [.ref p0, .int k, .ref aO] [(p0, .inr (0, [.ref pT, .ref pR, .ref pS, .ref pF, .ref h0, .ref pQ, .ref pG, .long tot, .int (bI pd), .int (bI gd)])), (h0, .inr (4, [.int kind, .int rises, .long total, .long going, .long width, .int cf, .int ct])), (aO, .inl (cO, 1, .inr (.inl fo)))] [(cO, .long)]) (tq_E (some (.int 2))) 1 6 (fun _ => False) := by
  refine va_MetW (cc := bL_list) (maxL := 4) (ret := (some .int)) (hh := [(0, 9, 12, 19), (0, 9, 15, 25)]) (by decide) rfl ?_
  intro p e s m args below meth c s₁ B hml hv
  obtain ⟨rfl, hP, hK, hN, hZ, hC⟩ := hv
  have hx := B.exec
  have hb := B.bytes
  have hr := B.returns
  have hts : ∀ w ∈ gT, w.before _ s = true := fun w h => atoms_spec (ws := wL_list) B.pre w (List.mem_cons_of_mem _ h)
  have hown : s.vm.findClass RL = some m.cls := findClass_of_methodNamed B.named
  have hP : va_P (dC, dI) vCl [(p0, .inr (0, [.ref pT, .ref pR, .ref pS, .ref pF, .ref h0, .ref pQ, .ref pG, .long tot, .int (bI pd), .int (bI gd)])), (h0, .inr (4, [.int kind, .int rises, .long total, .long going, .long width, .int cf, .int ct])), (aO, .inl (cO, 1, .inr (.inl fo)))] s.heap := hP
  have hl := lv_entry ([.ref p0, .int k, .ref aO]) (n := 4) (Nat.le_of_ble_eq_true rfl)
  rw [lg_entry_eq]
  generalize (lg_sl ([.ref p0, .int k, .ref aO]) ++ List.replicate (4 - (lg_sl ([.ref p0, .int k, .ref aO])).length) Slot.unset).toArray = ls at hl ⊢
  have hl : lv_has ls 4 [(0, .ref p0), (1, .int k), (2, .ref aO)] := hl
  refine lv_aload_n hx hb dL_list_0 rfl (lv_at hl 2 rfl) ?_
  refine lv_iconst (v := 0) hx hb dL_list_1 (by decide) ?_
  refine lv_aload_n hx hb dL_list_2 rfl (lv_at hl 0 rfl) ?_
  refine lv_iload_n hx hb dL_list_3 rfl (lv_at hl 1 rfl) ?_
  refine tw_runV (As := [.int k]) (rest := [.int 0, .ref aO]) (C := RP) ⟨hx, hb, hml, hown, hts⟩ (t_P_list_IOB l dC dI p0 pT pR pS pF h0 pQ pG tot pd gd kind rises total going width cf ct k hfl hx9) ⟨cB 1 hts gw_565 gw_1 gw_562 ndP_list rfl rfl ⟨Nat.le_of_ble_eq_true rfl, Nat.le_of_ble_eq_true rfl⟩, hts _ gw_563, hts _ gw_564⟩ (tp_Tv hZ (fun _ _ => rfl) hN hK hP [0, 1] [] rfl rfl (q0 := 0) (ci := 0) rfl rfl) rfl hl.1 rfl (Nat.le_of_ble_eq_true rfl) dL_list_4 ⟨Nat.le_of_ble_eq_true rfl, Nat.le_of_ble_eq_true rfl⟩ (fun x9 H9 hN9 => ?_)
  refine tw_catch hown hN9 [⟨0, 9, 12, 19⟩] ⟨0, 9, 15, 25⟩ [] (tL_tab B List.mem_cons_self) (List.forall_mem_cons.mpr ⟨⟨rfl, by decide, _, tcl_BS (word_at (a' := #[]) (State.WarmedH.refl s) (gT_good _ gw_300) (hts _ gw_300)) hC⟩, List.forall_mem_nil _⟩) rfl (by decide) (tcl_B (word_at (a' := #[]) (State.WarmedH.refl s) (gT_good _ gw_366) (hts _ gw_366)) hC) ?_
  refine lv_astore_n (lv' := [(3, .ref x9), (0, .ref p0), (1, .int k), (2, .ref aO)]) hx hb dL_list_15 rfl hl (by decide) rfl (fun ls hl => ?_)
  refine lv_iconst (v := 2) hx hb dL_list_16 (by decide) ?_
  exact W.iret (v := 2) hx hb hr (fun t ht hW => ⟨rfl, by rw [ht]; exact hN9.2.1, fun q hq => by rw [ht]; exact hN9.2.2.2 q hq⟩) (fun q h => by cases h) dL_list_17

def fL_run (tot : Int64) (pd : Bool) (gd : Bool) (fw : Nat → Int32) (fr : Nat → Int32) (fb : Nat → Int32) (rc : Nat) (kind : Int32) (rises : Int32) (total : Int64) (going : Int64) (width : Int64) (cf : Int32) (ct : Int32) (rn : Int64) (rd : Int64) (k1 : Int32) (g1 : Int64) (w1 : Int64) (j9 : Nat) (fo : Nat → Int64) : Int32 := 0
set_option maxHeartbeats 1500000 in
set_option maxRecDepth 100000 in
theorem c_L_run (l : Launch) (dC : Nat → ClassId) (dI : Nat → Nat → Nat) (p0 : Nat) (pT : Nat) (pR : Nat) (pS : Nat) (pF : Nat) (h0 : Nat) (pQ : Nat) (pG : Nat) (tot : Int64) (pd : Bool) (gd : Bool) (aw : Nat) (ar : Nat) (ab : Nat) (cw : ClassId) (cr : ClassId) (cb : ClassId) (fw : Nat → Int32) (fr : Nat → Int32) (fb : Nat → Int32) (rc : Nat) (kind : Int32) (rises : Int32) (total : Int64) (going : Int64) (width : Int64) (cf : Int32) (ct : Int32) (rn : Int64) (rd : Int64) (k1 : Int32) (g1 : Int64) (w1 : Int64) (j9 : Nat) (aO : Nat) (cO : ClassId) (fo : Nat → Int64) (hrc : rc ≤ 8) (hx9 : xP_run tot pd gd fw fr fb rc kind rises total going width cf ct rn rd k1 g1 w1 = 0) (hJ9 : runJ fw fr fb rc k1 tot g1 w1 = j9) (h60 : j9 ≤ 60) : Met l mL_run wL_run ({ frames := 4, cells := 0, slots := 0, locals := 100 }) (tp_W (dC, dI) vCl [.ref p0, .int k1, .long g1, .long w1, .ref aO] [(p0, .inr (0, [.ref pT, .ref pR, .ref pS, .ref pF, .ref h0, .ref pQ, .ref pG, .long tot, .int (bI pd), .int (bI gd)])), (h0, .inr (4, [.int kind, .int rises, .long total, .long going, .long width, .int cf, .int ct])), (pR, .inr (2, [.ref aw, .ref ar, .ref ab, .int (nI rc)])), (aw, .inl (cw, 40, .inl fw)), (ar, .inl (cr, 8, .inl fr)), (ab, .inl (cb, 8, .inl fb)), (pQ, .inr (5, [.long rn, .long rd])), (aO, .inl (cO, 1, .inr (.inl fo)))] [(cw, .int), (cr, .char), (cb, .int), (cO, .long)]) (tq_W (dC, dI) vCl (some (.int (fL_run tot pd gd fw fr fb rc kind rises total going width cf ct rn rd k1 g1 w1 j9 fo))) [(p0, .inr (0, [.ref pT, .ref pR, .ref pS, .ref pF, .ref h0, .ref pQ, .ref pG, .long tot, .int (bI pd), .int (bI gd)])), (h0, .inr (4, [.int kind, .int rises, .long total, .long going, .long width, .int cf, .int ct])), (pR, .inr (2, [.ref aw, .ref ar, .ref ab, .int (nI rc)])), (aw, .inl (cw, 40, .inl fw)), (ar, .inl (cr, 8, .inl fr)), (ab, .inl (cb, 8, .inl fb)), (pQ, .inr (5, [.long rn, .long rd])), (aO, .inl (cO, 1, .inr (.inl fo)))] [(p0, .inr (0, [.ref pT, .ref pR, .ref pS, .ref pF, .ref h0, .ref pQ, .ref pG, .long tot, .int (bI true), .int (bI false)])), (h0, .inr (4, [.int k1, .int (nI j9), .long tot, .long g1, .long w1, .int (dcf k1 (nI j9)), .int (dct k1 (nI j9))])), (pR, .inr (2, [.ref aw, .ref ar, .ref ab, .int (nI rc)])), (aw, .inl (cw, 40, .inl fw)), (ar, .inl (cr, 8, .inl fr)), (ab, .inl (cb, 8, .inl fb)), (pQ, .inr (5, [.long (fQ_take_c0f0 rn rd tot (nI j9).toInt64), .long (fQ_take_c0f1 rn rd tot (nI j9).toInt64)])), (aO, .inl (cO, 1, .inr (.inl (vp_updL fo (0 : Int32).toNatClampNeg ((nI j9).toInt64)))))]) 0 0 (tA [(p0, .inr (0, [.ref pT, .ref pR, .ref pS, .ref pF, .ref h0, .ref pQ, .ref pG, .long tot, .int (bI pd), .int (bI gd)])), (h0, .inr (4, [.int kind, .int rises, .long total, .long going, .long width, .int cf, .int ct])), (pR, .inr (2, [.ref aw, .ref ar, .ref ab, .int (nI rc)])), (aw, .inl (cw, 40, .inl fw)), (ar, .inl (cr, 8, .inl fr)), (ab, .inl (cb, 8, .inl fb)), (pQ, .inr (5, [.long rn, .long rd])), (aO, .inl (cO, 1, .inr (.inl fo)))]) := by
  refine va_MetW (cc := bL_run) (maxL := 8) (ret := (some .int)) (hh := [(0, 13, 16, 19), (0, 13, 20, 13)]) (by decide) rfl ?_
  intro p e s m args below meth c s₁ B hml hv
  obtain ⟨rfl, hP, hK, hN, hD0⟩ := hv
  have hx := B.exec
  have hb := B.bytes
  have hr := B.returns
  have hts : ∀ w ∈ gT, w.before _ s = true := fun w h => atoms_spec (ws := wL_run) B.pre w (List.mem_cons_of_mem _ h)
  have hown : s.vm.findClass RL = some m.cls := findClass_of_methodNamed B.named
  have hlocks := B.notSynchronized
  have hD := tA_D hD0
  generalize hAe : tA [(p0, .inr (0, [.ref pT, .ref pR, .ref pS, .ref pF, .ref h0, .ref pQ, .ref pG, .long tot, .int (bI pd), .int (bI gd)])), (h0, .inr (4, [.int kind, .int rises, .long total, .long going, .long width, .int cf, .int ct])), (pR, .inr (2, [.ref aw, .ref ar, .ref ab, .int (nI rc)])), (aw, .inl (cw, 40, .inl fw)), (ar, .inl (cr, 8, .inl fr)), (ab, .inl (cb, 8, .inl fb)), (pQ, .inr (5, [.long rn, .long rd])), (aO, .inl (cO, 1, .inr (.inl fo)))] = A at hD ⊢
  have hS : va_S A s.heap s.heap [] := va_S.rf
  have hP : va_P (dC, dI) vCl [(p0, .inr (0, [.ref pT, .ref pR, .ref pS, .ref pF, .ref h0, .ref pQ, .ref pG, .long tot, .int (bI pd), .int (bI gd)])), (h0, .inr (4, [.int kind, .int rises, .long total, .long going, .long width, .int cf, .int ct])), (pR, .inr (2, [.ref aw, .ref ar, .ref ab, .int (nI rc)])), (aw, .inl (cw, 40, .inl fw)), (ar, .inl (cr, 8, .inl fr)), (ab, .inl (cb, 8, .inl fb)), (pQ, .inr (5, [.long rn, .long rd])), (aO, .inl (cO, 1, .inr (.inl fo)))] s.heap := hP
  have hl := lv_entry ([.ref p0, .int k1, .long g1, .long w1, .ref aO]) (n := 8) (Nat.le_of_ble_eq_true rfl)
  rw [lg_entry_eq]
  generalize (lg_sl ([.ref p0, .int k1, .long g1, .long w1, .ref aO]) ++ List.replicate (8 - (lg_sl ([.ref p0, .int k1, .long g1, .long w1, .ref aO])).length) Slot.unset).toArray = ls at hl ⊢
  have hl : lv_has ls 8 [(0, .ref p0), (1, .int k1), (2, .long g1), (4, .long w1), (6, .ref aO)] := hl
  refine lv_aload hx hb dL_run_0 (lv_at hl 4 rfl) ?_
  refine lv_iconst (v := 0) hx hb dL_run_2 (by decide) ?_
  refine lv_aload_n hx hb dL_run_3 rfl (lv_at hl 0 rfl) ?_
  refine lv_iload_n hx hb dL_run_4 rfl (lv_at hl 1 rfl) ?_
  refine lv_lload_n hx hb dL_run_5 rfl (lv_at hl 2 rfl) ?_
  refine lv_lload hx hb dL_run_6 (lv_at hl 3 rfl) ?_
  refine tc_go (st1 := [.int (nI j9), .int 0, .ref aO]) (ws' := [(p0, .inr (0, [.ref pT, .ref pR, .ref pS, .ref pF, .ref h0, .ref pQ, .ref pG, .long tot, .int (bI true), .int (bI false)])), (h0, .inr (4, [.int k1, .int (nI j9), .long tot, .long g1, .long w1, .int (dcf k1 (nI j9)), .int (dct k1 (nI j9))])), (pR, .inr (2, [.ref aw, .ref ar, .ref ab, .int (nI rc)])), (aw, .inl (cw, 40, .inl fw)), (ar, .inl (cr, 8, .inl fr)), (ab, .inl (cb, 8, .inl fb)), (pQ, .inr (5, [.long (fQ_take_c0f0 rn rd tot (nI j9).toInt64), .long (fQ_take_c0f1 rn rd tot (nI j9).toInt64)])), (aO, .inl (cO, 1, .inr (.inl fo)))]) (va_runV (As := [.int k1, .long g1, .long w1]) (rest := [.int 0, .ref aO]) (C := RP) ⟨hx, hb, hml, hown, hts⟩ (c_P_run l dC dI p0 pT pR pS pF h0 pQ pG tot pd gd aw ar ab cw cr cb fw fr fb rc kind rises total going width cf ct rn rd k1 g1 w1 j9 hrc hx9 hJ9 h60) ⟨cB 3 hts gw_304 gw_1 gw_301 ndP_run rfl rfl ⟨Nat.le_of_ble_eq_true rfl, Nat.le_of_ble_eq_true rfl⟩, hts _ gw_302, hts _ gw_303⟩ (tp_Wv hN hK hP hD [0, 1, 2, 3, 4, 5, 6] [0, 1, 2] rfl (by decide) rfl (q0 := 0) (ci := 0) rfl rfl) rfl rfl hl.1 rfl (lv_room (Nat.le_of_ble_eq_true rfl)) dL_run_8 ⟨Nat.le_of_ble_eq_true rfl, Nat.le_of_ble_eq_true rfl⟩) rfl hP hD hS [0, 1, 2, 3, 4, 5, 6] rfl (show [p0, h0, pR, aw, ar, ab, pQ] = [p0, h0, pR, aw, ar, ab, pQ] from rfl) rfl (fun H locs hP hD hS => ?_)
  have hP : va_P (dC, dI) vCl [(p0, .inr (0, [.ref pT, .ref pR, .ref pS, .ref pF, .ref h0, .ref pQ, .ref pG, .long tot, .int (bI true), .int (bI false)])), (h0, .inr (4, [.int k1, .int (nI j9), .long tot, .long g1, .long w1, .int (dcf k1 (nI j9)), .int (dct k1 (nI j9))])), (pR, .inr (2, [.ref aw, .ref ar, .ref ab, .int (nI rc)])), (aw, .inl (cw, 40, .inl fw)), (ar, .inl (cr, 8, .inl fr)), (ab, .inl (cb, 8, .inl fb)), (pQ, .inr (5, [.long (fQ_take_c0f0 rn rd tot (nI j9).toInt64), .long (fQ_take_c0f1 rn rd tot (nI j9).toInt64)])), (aO, .inl (cO, 1, .inr (.inl fo)))] H := hP
  have hD : va_D A [(p0, .inr (0, [.ref pT, .ref pR, .ref pS, .ref pF, .ref h0, .ref pQ, .ref pG, .long tot, .int (bI true), .int (bI false)])), (h0, .inr (4, [.int k1, .int (nI j9), .long tot, .long g1, .long w1, .int (dcf k1 (nI j9)), .int (dct k1 (nI j9))])), (pR, .inr (2, [.ref aw, .ref ar, .ref ab, .int (nI rc)])), (aw, .inl (cw, 40, .inl fw)), (ar, .inl (cr, 8, .inl fr)), (ab, .inl (cb, 8, .inl fb)), (pQ, .inr (5, [.long (fQ_take_c0f0 rn rd tot (nI j9).toInt64), .long (fQ_take_c0f1 rn rd tot (nI j9).toInt64)])), (aO, .inl (cO, 1, .inr (.inl fo)))] := hD
  refine lv_i2l (v := (nI j9).toInt64) hx hb dL_run_11 rfl ?_
  have b_1 : vp_in 0 1 := vp_in_nI (n := 0) (N := 1) (by decide) (by decide)
  refine va_last hx hb hK hP hD hS 7 3 rfl rfl b_1 dL_run_12 (fun H locs hP hD hS => ?_)
  have hP : va_P (dC, dI) vCl [(p0, .inr (0, [.ref pT, .ref pR, .ref pS, .ref pF, .ref h0, .ref pQ, .ref pG, .long tot, .int (bI true), .int (bI false)])), (h0, .inr (4, [.int k1, .int (nI j9), .long tot, .long g1, .long w1, .int (dcf k1 (nI j9)), .int (dct k1 (nI j9))])), (pR, .inr (2, [.ref aw, .ref ar, .ref ab, .int (nI rc)])), (aw, .inl (cw, 40, .inl fw)), (ar, .inl (cr, 8, .inl fr)), (ab, .inl (cb, 8, .inl fb)), (pQ, .inr (5, [.long (fQ_take_c0f0 rn rd tot (nI j9).toInt64), .long (fQ_take_c0f1 rn rd tot (nI j9).toInt64)])), (aO, .inl (cO, 1, .inr (.inl (vp_updL fo (0 : Int32).toNatClampNeg ((nI j9).toInt64)))))] H := hP
  have hD : va_D A [(p0, .inr (0, [.ref pT, .ref pR, .ref pS, .ref pF, .ref h0, .ref pQ, .ref pG, .long tot, .int (bI true), .int (bI false)])), (h0, .inr (4, [.int k1, .int (nI j9), .long tot, .long g1, .long w1, .int (dcf k1 (nI j9)), .int (dct k1 (nI j9))])), (pR, .inr (2, [.ref aw, .ref ar, .ref ab, .int (nI rc)])), (aw, .inl (cw, 40, .inl fw)), (ar, .inl (cr, 8, .inl fr)), (ab, .inl (cb, 8, .inl fb)), (pQ, .inr (5, [.long (fQ_take_c0f0 rn rd tot (nI j9).toInt64), .long (fQ_take_c0f1 rn rd tot (nI j9).toInt64)])), (aO, .inl (cO, 1, .inr (.inl (vp_updL fo (0 : Int32).toNatClampNeg ((nI j9).toInt64)))))] := hD
  refine lv_goto (tgt := 24) hx hb dL_run_13 (by decide) ?_
  refine lv_iconst (v := 0) hx hb dL_run_24 (by decide) ?_
  exact W.iret (v := 0) hx hb hr (fun t ht hW => ⟨by rw [show fL_run tot pd gd fw fr fb rc kind rises total going width cf ct rn rd k1 g1 w1 j9 fo = 0 from by unfold fL_run; rfl], by rw [ht]; exact hP, by rw [hAe]; exact hS.F ht⟩) hS.2.2 dL_run_25

def fL_run_none (tot : Int64) (pd : Bool) (gd : Bool) (fw : Nat → Int32) (fr : Nat → Int32) (fb : Nat → Int32) (rc : Nat) (kind : Int32) (rises : Int32) (total : Int64) (going : Int64) (width : Int64) (cf : Int32) (ct : Int32) (rn : Int64) (rd : Int64) (k1 : Int32) (g1 : Int64) (w1 : Int64) (fo : Nat → Int64) : Int32 := 0
set_option maxHeartbeats 1500000 in
set_option maxRecDepth 100000 in
theorem c_L_run_none (l : Launch) (dC : Nat → ClassId) (dI : Nat → Nat → Nat) (p0 : Nat) (pT : Nat) (pR : Nat) (pS : Nat) (pF : Nat) (h0 : Nat) (pQ : Nat) (pG : Nat) (tot : Int64) (pd : Bool) (gd : Bool) (aw : Nat) (ar : Nat) (ab : Nat) (cw : ClassId) (cr : ClassId) (cb : ClassId) (fw : Nat → Int32) (fr : Nat → Int32) (fb : Nat → Int32) (rc : Nat) (kind : Int32) (rises : Int32) (total : Int64) (going : Int64) (width : Int64) (cf : Int32) (ct : Int32) (rn : Int64) (rd : Int64) (k1 : Int32) (g1 : Int64) (w1 : Int64) (aO : Nat) (cO : ClassId) (fo : Nat → Int64) (hrc : rc ≤ 8) (hx9 : xP_run tot pd gd fw fr fb rc kind rises total going width cf ct rn rd k1 g1 w1 = 0) (hJ9 : runJ fw fr fb rc k1 tot g1 w1 = 61) : Met l mL_run wL_run ({ frames := 4, cells := 0, slots := 0, locals := 100 }) (tp_W (dC, dI) vCl [.ref p0, .int k1, .long g1, .long w1, .ref aO] [(p0, .inr (0, [.ref pT, .ref pR, .ref pS, .ref pF, .ref h0, .ref pQ, .ref pG, .long tot, .int (bI pd), .int (bI gd)])), (h0, .inr (4, [.int kind, .int rises, .long total, .long going, .long width, .int cf, .int ct])), (pR, .inr (2, [.ref aw, .ref ar, .ref ab, .int (nI rc)])), (aw, .inl (cw, 40, .inl fw)), (ar, .inl (cr, 8, .inl fr)), (ab, .inl (cb, 8, .inl fb)), (pQ, .inr (5, [.long rn, .long rd])), (aO, .inl (cO, 1, .inr (.inl fo)))] [(cw, .int), (cr, .char), (cb, .int), (cO, .long)]) (tq_W (dC, dI) vCl (some (.int (fL_run_none tot pd gd fw fr fb rc kind rises total going width cf ct rn rd k1 g1 w1 fo))) [(p0, .inr (0, [.ref pT, .ref pR, .ref pS, .ref pF, .ref h0, .ref pQ, .ref pG, .long tot, .int (bI pd), .int (bI gd)])), (h0, .inr (4, [.int kind, .int rises, .long total, .long going, .long width, .int cf, .int ct])), (pR, .inr (2, [.ref aw, .ref ar, .ref ab, .int (nI rc)])), (aw, .inl (cw, 40, .inl fw)), (ar, .inl (cr, 8, .inl fr)), (ab, .inl (cb, 8, .inl fb)), (pQ, .inr (5, [.long rn, .long rd])), (aO, .inl (cO, 1, .inr (.inl fo)))] [(p0, .inr (0, [.ref pT, .ref pR, .ref pS, .ref pF, .ref h0, .ref pQ, .ref pG, .long tot, .int (bI false), .int (bI false)])), (h0, .inr (4, [.int k1, .int (nI 60), .long tot, .long g1, .long w1, .int (dcf k1 (nI 60)), .int (dct k1 (nI 60))])), (pR, .inr (2, [.ref aw, .ref ar, .ref ab, .int (nI rc)])), (aw, .inl (cw, 40, .inl fw)), (ar, .inl (cr, 8, .inl fr)), (ab, .inl (cb, 8, .inl fb)), (pQ, .inr (5, [.long rn, .long rd])), (aO, .inl (cO, 1, .inr (.inl (vp_updL fo (0 : Int32).toNatClampNeg (((-1) - runM fw fr fb rc k1 tot g1 w1 (61 - fewN k1) (fewN k1) 0).toInt64)))))]) 0 0 (tA [(p0, .inr (0, [.ref pT, .ref pR, .ref pS, .ref pF, .ref h0, .ref pQ, .ref pG, .long tot, .int (bI pd), .int (bI gd)])), (h0, .inr (4, [.int kind, .int rises, .long total, .long going, .long width, .int cf, .int ct])), (pR, .inr (2, [.ref aw, .ref ar, .ref ab, .int (nI rc)])), (aw, .inl (cw, 40, .inl fw)), (ar, .inl (cr, 8, .inl fr)), (ab, .inl (cb, 8, .inl fb)), (pQ, .inr (5, [.long rn, .long rd])), (aO, .inl (cO, 1, .inr (.inl fo)))]) := by
  refine va_MetW (cc := bL_run) (maxL := 8) (ret := (some .int)) (hh := [(0, 13, 16, 19), (0, 13, 20, 13)]) (by decide) rfl ?_
  intro p e s m args below meth c s₁ B hml hv
  obtain ⟨rfl, hP, hK, hN, hD0⟩ := hv
  have hx := B.exec
  have hb := B.bytes
  have hr := B.returns
  have hts : ∀ w ∈ gT, w.before _ s = true := fun w h => atoms_spec (ws := wL_run) B.pre w (List.mem_cons_of_mem _ h)
  have hown : s.vm.findClass RL = some m.cls := findClass_of_methodNamed B.named
  have hlocks := B.notSynchronized
  have hD := tA_D hD0
  generalize hAe : tA [(p0, .inr (0, [.ref pT, .ref pR, .ref pS, .ref pF, .ref h0, .ref pQ, .ref pG, .long tot, .int (bI pd), .int (bI gd)])), (h0, .inr (4, [.int kind, .int rises, .long total, .long going, .long width, .int cf, .int ct])), (pR, .inr (2, [.ref aw, .ref ar, .ref ab, .int (nI rc)])), (aw, .inl (cw, 40, .inl fw)), (ar, .inl (cr, 8, .inl fr)), (ab, .inl (cb, 8, .inl fb)), (pQ, .inr (5, [.long rn, .long rd])), (aO, .inl (cO, 1, .inr (.inl fo)))] = A at hD ⊢
  have hS : va_S A s.heap s.heap [] := va_S.rf
  have hP : va_P (dC, dI) vCl [(p0, .inr (0, [.ref pT, .ref pR, .ref pS, .ref pF, .ref h0, .ref pQ, .ref pG, .long tot, .int (bI pd), .int (bI gd)])), (h0, .inr (4, [.int kind, .int rises, .long total, .long going, .long width, .int cf, .int ct])), (pR, .inr (2, [.ref aw, .ref ar, .ref ab, .int (nI rc)])), (aw, .inl (cw, 40, .inl fw)), (ar, .inl (cr, 8, .inl fr)), (ab, .inl (cb, 8, .inl fb)), (pQ, .inr (5, [.long rn, .long rd])), (aO, .inl (cO, 1, .inr (.inl fo)))] s.heap := hP
  have hl := lv_entry ([.ref p0, .int k1, .long g1, .long w1, .ref aO]) (n := 8) (Nat.le_of_ble_eq_true rfl)
  rw [lg_entry_eq]
  generalize (lg_sl ([.ref p0, .int k1, .long g1, .long w1, .ref aO]) ++ List.replicate (8 - (lg_sl ([.ref p0, .int k1, .long g1, .long w1, .ref aO])).length) Slot.unset).toArray = ls at hl ⊢
  have hl : lv_has ls 8 [(0, .ref p0), (1, .int k1), (2, .long g1), (4, .long w1), (6, .ref aO)] := hl
  refine lv_aload hx hb dL_run_0 (lv_at hl 4 rfl) ?_
  refine lv_iconst (v := 0) hx hb dL_run_2 (by decide) ?_
  refine lv_aload_n hx hb dL_run_3 rfl (lv_at hl 0 rfl) ?_
  refine lv_iload_n hx hb dL_run_4 rfl (lv_at hl 1 rfl) ?_
  refine lv_lload_n hx hb dL_run_5 rfl (lv_at hl 2 rfl) ?_
  refine lv_lload hx hb dL_run_6 (lv_at hl 3 rfl) ?_
  refine tc_go (st1 := [.int ((-1) - runM fw fr fb rc k1 tot g1 w1 (61 - fewN k1) (fewN k1) 0), .int 0, .ref aO]) (ws' := [(p0, .inr (0, [.ref pT, .ref pR, .ref pS, .ref pF, .ref h0, .ref pQ, .ref pG, .long tot, .int (bI false), .int (bI false)])), (h0, .inr (4, [.int k1, .int (nI 60), .long tot, .long g1, .long w1, .int (dcf k1 (nI 60)), .int (dct k1 (nI 60))])), (pR, .inr (2, [.ref aw, .ref ar, .ref ab, .int (nI rc)])), (aw, .inl (cw, 40, .inl fw)), (ar, .inl (cr, 8, .inl fr)), (ab, .inl (cb, 8, .inl fb)), (pQ, .inr (5, [.long rn, .long rd])), (aO, .inl (cO, 1, .inr (.inl fo)))]) (va_runV (As := [.int k1, .long g1, .long w1]) (rest := [.int 0, .ref aO]) (C := RP) ⟨hx, hb, hml, hown, hts⟩ (c_P_run_none l dC dI p0 pT pR pS pF h0 pQ pG tot pd gd aw ar ab cw cr cb fw fr fb rc kind rises total going width cf ct rn rd k1 g1 w1 hrc hx9 hJ9) ⟨cB 3 hts gw_304 gw_1 gw_301 ndP_run rfl rfl ⟨Nat.le_of_ble_eq_true rfl, Nat.le_of_ble_eq_true rfl⟩, hts _ gw_302, hts _ gw_303⟩ (tp_Wv hN hK hP hD [0, 1, 2, 3, 4, 5, 6] [0, 1, 2] rfl (by decide) rfl (q0 := 0) (ci := 0) rfl rfl) rfl rfl hl.1 rfl (lv_room (Nat.le_of_ble_eq_true rfl)) dL_run_8 ⟨Nat.le_of_ble_eq_true rfl, Nat.le_of_ble_eq_true rfl⟩) rfl hP hD hS [0, 1, 2, 3, 4, 5, 6] rfl (show [p0, h0, pR, aw, ar, ab, pQ] = [p0, h0, pR, aw, ar, ab, pQ] from rfl) rfl (fun H locs hP hD hS => ?_)
  have hP : va_P (dC, dI) vCl [(p0, .inr (0, [.ref pT, .ref pR, .ref pS, .ref pF, .ref h0, .ref pQ, .ref pG, .long tot, .int (bI false), .int (bI false)])), (h0, .inr (4, [.int k1, .int (nI 60), .long tot, .long g1, .long w1, .int (dcf k1 (nI 60)), .int (dct k1 (nI 60))])), (pR, .inr (2, [.ref aw, .ref ar, .ref ab, .int (nI rc)])), (aw, .inl (cw, 40, .inl fw)), (ar, .inl (cr, 8, .inl fr)), (ab, .inl (cb, 8, .inl fb)), (pQ, .inr (5, [.long rn, .long rd])), (aO, .inl (cO, 1, .inr (.inl fo)))] H := hP
  have hD : va_D A [(p0, .inr (0, [.ref pT, .ref pR, .ref pS, .ref pF, .ref h0, .ref pQ, .ref pG, .long tot, .int (bI false), .int (bI false)])), (h0, .inr (4, [.int k1, .int (nI 60), .long tot, .long g1, .long w1, .int (dcf k1 (nI 60)), .int (dct k1 (nI 60))])), (pR, .inr (2, [.ref aw, .ref ar, .ref ab, .int (nI rc)])), (aw, .inl (cw, 40, .inl fw)), (ar, .inl (cr, 8, .inl fr)), (ab, .inl (cb, 8, .inl fb)), (pQ, .inr (5, [.long rn, .long rd])), (aO, .inl (cO, 1, .inr (.inl fo)))] := hD
  refine lv_i2l (v := ((-1) - runM fw fr fb rc k1 tot g1 w1 (61 - fewN k1) (fewN k1) 0).toInt64) hx hb dL_run_11 rfl ?_
  have b_1 : vp_in 0 1 := vp_in_nI (n := 0) (N := 1) (by decide) (by decide)
  refine va_last hx hb hK hP hD hS 7 3 rfl rfl b_1 dL_run_12 (fun H locs hP hD hS => ?_)
  have hP : va_P (dC, dI) vCl [(p0, .inr (0, [.ref pT, .ref pR, .ref pS, .ref pF, .ref h0, .ref pQ, .ref pG, .long tot, .int (bI false), .int (bI false)])), (h0, .inr (4, [.int k1, .int (nI 60), .long tot, .long g1, .long w1, .int (dcf k1 (nI 60)), .int (dct k1 (nI 60))])), (pR, .inr (2, [.ref aw, .ref ar, .ref ab, .int (nI rc)])), (aw, .inl (cw, 40, .inl fw)), (ar, .inl (cr, 8, .inl fr)), (ab, .inl (cb, 8, .inl fb)), (pQ, .inr (5, [.long rn, .long rd])), (aO, .inl (cO, 1, .inr (.inl (vp_updL fo (0 : Int32).toNatClampNeg (((-1) - runM fw fr fb rc k1 tot g1 w1 (61 - fewN k1) (fewN k1) 0).toInt64)))))] H := hP
  have hD : va_D A [(p0, .inr (0, [.ref pT, .ref pR, .ref pS, .ref pF, .ref h0, .ref pQ, .ref pG, .long tot, .int (bI false), .int (bI false)])), (h0, .inr (4, [.int k1, .int (nI 60), .long tot, .long g1, .long w1, .int (dcf k1 (nI 60)), .int (dct k1 (nI 60))])), (pR, .inr (2, [.ref aw, .ref ar, .ref ab, .int (nI rc)])), (aw, .inl (cw, 40, .inl fw)), (ar, .inl (cr, 8, .inl fr)), (ab, .inl (cb, 8, .inl fb)), (pQ, .inr (5, [.long rn, .long rd])), (aO, .inl (cO, 1, .inr (.inl (vp_updL fo (0 : Int32).toNatClampNeg (((-1) - runM fw fr fb rc k1 tot g1 w1 (61 - fewN k1) (fewN k1) 0).toInt64)))))] := hD
  refine lv_goto (tgt := 24) hx hb dL_run_13 (by decide) ?_
  refine lv_iconst (v := 0) hx hb dL_run_24 (by decide) ?_
  exact W.iret (v := 0) hx hb hr (fun t ht hW => ⟨by rw [show fL_run_none tot pd gd fw fr fb rc kind rises total going width cf ct rn rd k1 g1 w1 fo = 0 from by unfold fL_run_none; rfl], by rw [ht]; exact hP, by rw [hAe]; exact hS.F ht⟩) hS.2.2 dL_run_25

set_option maxHeartbeats 1500000 in
set_option maxRecDepth 100000 in
theorem c_L_run_ISE (l : Launch) (dC : Nat → ClassId) (dI : Nat → Nat → Nat) (p0 : Nat) (pT : Nat) (pR : Nat) (pS : Nat) (pF : Nat) (h0 : Nat) (pQ : Nat) (pG : Nat) (tot : Int64) (pd : Bool) (gd : Bool) (aw : Nat) (ar : Nat) (ab : Nat) (cw : ClassId) (cr : ClassId) (cb : ClassId) (fw : Nat → Int32) (fr : Nat → Int32) (fb : Nat → Int32) (rc : Nat) (kind : Int32) (rises : Int32) (total : Int64) (going : Int64) (width : Int64) (cf : Int32) (ct : Int32) (rn : Int64) (rd : Int64) (k1 : Int32) (g1 : Int64) (w1 : Int64) (aO : Nat) (cO : ClassId) (fo : Nat → Int64) (hfl : l.stackTraces = false) (hx9 : xP_run tot pd gd fw fr fb rc kind rises total going width cf ct rn rd k1 g1 w1 = 1) : Met l mL_run wL_run ({ frames := 7, cells := 1, slots := 6, locals := 110 }) (tp_E (dC, dI) vCl [.ref p0, .int k1, .long g1, .long w1, .ref aO] [(p0, .inr (0, [.ref pT, .ref pR, .ref pS, .ref pF, .ref h0, .ref pQ, .ref pG, .long tot, .int (bI pd), .int (bI gd)])), (h0, .inr (4, [.int kind, .int rises, .long total, .long going, .long width, .int cf, .int ct])), (pR, .inr (2, [.ref aw, .ref ar, .ref ab, .int (nI rc)])), (aw, .inl (cw, 40, .inl fw)), (ar, .inl (cr, 8, .inl fr)), (ab, .inl (cb, 8, .inl fb)), (pQ, .inr (5, [.long rn, .long rd])), (aO, .inl (cO, 1, .inr (.inl fo)))] [(cw, .int), (cr, .char), (cb, .int), (cO, .long)]) (tq_E (some (.int 1))) 1 6 (fun _ => False) := by
  refine va_MetW (cc := bL_run) (maxL := 8) (ret := (some .int)) (hh := [(0, 13, 16, 19), (0, 13, 20, 13)]) (by decide) rfl ?_
  intro p e s m args below meth c s₁ B hml hv
  obtain ⟨rfl, hP, hK, hN, hZ, hC⟩ := hv
  have hx := B.exec
  have hb := B.bytes
  have hr := B.returns
  have hts : ∀ w ∈ gT, w.before _ s = true := fun w h => atoms_spec (ws := wL_run) B.pre w (List.mem_cons_of_mem _ h)
  have hown : s.vm.findClass RL = some m.cls := findClass_of_methodNamed B.named
  have hP : va_P (dC, dI) vCl [(p0, .inr (0, [.ref pT, .ref pR, .ref pS, .ref pF, .ref h0, .ref pQ, .ref pG, .long tot, .int (bI pd), .int (bI gd)])), (h0, .inr (4, [.int kind, .int rises, .long total, .long going, .long width, .int cf, .int ct])), (pR, .inr (2, [.ref aw, .ref ar, .ref ab, .int (nI rc)])), (aw, .inl (cw, 40, .inl fw)), (ar, .inl (cr, 8, .inl fr)), (ab, .inl (cb, 8, .inl fb)), (pQ, .inr (5, [.long rn, .long rd])), (aO, .inl (cO, 1, .inr (.inl fo)))] s.heap := hP
  have hl := lv_entry ([.ref p0, .int k1, .long g1, .long w1, .ref aO]) (n := 8) (Nat.le_of_ble_eq_true rfl)
  rw [lg_entry_eq]
  generalize (lg_sl ([.ref p0, .int k1, .long g1, .long w1, .ref aO]) ++ List.replicate (8 - (lg_sl ([.ref p0, .int k1, .long g1, .long w1, .ref aO])).length) Slot.unset).toArray = ls at hl ⊢
  have hl : lv_has ls 8 [(0, .ref p0), (1, .int k1), (2, .long g1), (4, .long w1), (6, .ref aO)] := hl
  refine lv_aload hx hb dL_run_0 (lv_at hl 4 rfl) ?_
  refine lv_iconst (v := 0) hx hb dL_run_2 (by decide) ?_
  refine lv_aload_n hx hb dL_run_3 rfl (lv_at hl 0 rfl) ?_
  refine lv_iload_n hx hb dL_run_4 rfl (lv_at hl 1 rfl) ?_
  refine lv_lload_n hx hb dL_run_5 rfl (lv_at hl 2 rfl) ?_
  refine lv_lload hx hb dL_run_6 (lv_at hl 3 rfl) ?_
  refine tw_runV (As := [.int k1, .long g1, .long w1]) (rest := [.int 0, .ref aO]) (C := RP) ⟨hx, hb, hml, hown, hts⟩ (t_P_run_ISE l dC dI p0 pT pR pS pF h0 pQ pG tot pd gd aw ar ab cw cr cb fw fr fb rc kind rises total going width cf ct rn rd k1 g1 w1 hfl hx9) ⟨cB 3 hts gw_304 gw_1 gw_301 ndP_run rfl rfl ⟨Nat.le_of_ble_eq_true rfl, Nat.le_of_ble_eq_true rfl⟩, hts _ gw_302, hts _ gw_303⟩ (tp_Tv hZ (fun _ _ => rfl) hN hK hP [0, 1, 2, 3, 4, 5, 6] [0, 1, 2] rfl rfl (q0 := 0) (ci := 0) rfl rfl) rfl hl.1 rfl (Nat.le_of_ble_eq_true rfl) dL_run_8 ⟨Nat.le_of_ble_eq_true rfl, Nat.le_of_ble_eq_true rfl⟩ (fun x9 H9 hN9 => ?_)
  refine tw_catch hown hN9 [] ⟨0, 13, 16, 19⟩ [⟨0, 13, 20, 13⟩] (tL_tab B List.mem_cons_self) (List.forall_mem_nil _) rfl (by decide) (tcl_S (word_at (a' := #[]) (State.WarmedH.refl s) (gT_good _ gw_300) (hts _ gw_300)) hC) ?_
  refine lv_astore (lv' := [(7, .ref x9), (0, .ref p0), (1, .int k1), (2, .long g1), (4, .long w1), (6, .ref aO)]) hx hb dL_run_16 hl (by decide) rfl (fun ls hl => ?_)
  refine lv_iconst (v := 1) hx hb dL_run_18 (by decide) ?_
  exact W.iret (v := 1) hx hb hr (fun t ht hW => ⟨rfl, by rw [ht]; exact hN9.2.1, fun q hq => by rw [ht]; exact hN9.2.2.2 q hq⟩) (fun q h => by cases h) dL_run_19

set_option maxHeartbeats 1500000 in
set_option maxRecDepth 100000 in
theorem c_L_run_IAE (l : Launch) (dC : Nat → ClassId) (dI : Nat → Nat → Nat) (p0 : Nat) (pT : Nat) (pR : Nat) (pS : Nat) (pF : Nat) (h0 : Nat) (pQ : Nat) (pG : Nat) (tot : Int64) (pd : Bool) (gd : Bool) (aw : Nat) (ar : Nat) (ab : Nat) (cw : ClassId) (cr : ClassId) (cb : ClassId) (fw : Nat → Int32) (fr : Nat → Int32) (fb : Nat → Int32) (rc : Nat) (kind : Int32) (rises : Int32) (total : Int64) (going : Int64) (width : Int64) (cf : Int32) (ct : Int32) (rn : Int64) (rd : Int64) (k1 : Int32) (g1 : Int64) (w1 : Int64) (aO : Nat) (cO : ClassId) (fo : Nat → Int64) (hfl : l.stackTraces = false) (hx9 : xP_run tot pd gd fw fr fb rc kind rises total going width cf ct rn rd k1 g1 w1 = 2) : Met l mL_run wL_run ({ frames := 7, cells := 1, slots := 6, locals := 110 }) (tp_E (dC, dI) vCl [.ref p0, .int k1, .long g1, .long w1, .ref aO] [(p0, .inr (0, [.ref pT, .ref pR, .ref pS, .ref pF, .ref h0, .ref pQ, .ref pG, .long tot, .int (bI pd), .int (bI gd)])), (h0, .inr (4, [.int kind, .int rises, .long total, .long going, .long width, .int cf, .int ct])), (pR, .inr (2, [.ref aw, .ref ar, .ref ab, .int (nI rc)])), (aw, .inl (cw, 40, .inl fw)), (ar, .inl (cr, 8, .inl fr)), (ab, .inl (cb, 8, .inl fb)), (pQ, .inr (5, [.long rn, .long rd])), (aO, .inl (cO, 1, .inr (.inl fo)))] [(cw, .int), (cr, .char), (cb, .int), (cO, .long)]) (tq_E (some (.int 2))) 1 6 (fun _ => False) := by
  refine va_MetW (cc := bL_run) (maxL := 8) (ret := (some .int)) (hh := [(0, 13, 16, 19), (0, 13, 20, 13)]) (by decide) rfl ?_
  intro p e s m args below meth c s₁ B hml hv
  obtain ⟨rfl, hP, hK, hN, hZ, hC⟩ := hv
  have hx := B.exec
  have hb := B.bytes
  have hr := B.returns
  have hts : ∀ w ∈ gT, w.before _ s = true := fun w h => atoms_spec (ws := wL_run) B.pre w (List.mem_cons_of_mem _ h)
  have hown : s.vm.findClass RL = some m.cls := findClass_of_methodNamed B.named
  have hP : va_P (dC, dI) vCl [(p0, .inr (0, [.ref pT, .ref pR, .ref pS, .ref pF, .ref h0, .ref pQ, .ref pG, .long tot, .int (bI pd), .int (bI gd)])), (h0, .inr (4, [.int kind, .int rises, .long total, .long going, .long width, .int cf, .int ct])), (pR, .inr (2, [.ref aw, .ref ar, .ref ab, .int (nI rc)])), (aw, .inl (cw, 40, .inl fw)), (ar, .inl (cr, 8, .inl fr)), (ab, .inl (cb, 8, .inl fb)), (pQ, .inr (5, [.long rn, .long rd])), (aO, .inl (cO, 1, .inr (.inl fo)))] s.heap := hP
  have hl := lv_entry ([.ref p0, .int k1, .long g1, .long w1, .ref aO]) (n := 8) (Nat.le_of_ble_eq_true rfl)
  rw [lg_entry_eq]
  generalize (lg_sl ([.ref p0, .int k1, .long g1, .long w1, .ref aO]) ++ List.replicate (8 - (lg_sl ([.ref p0, .int k1, .long g1, .long w1, .ref aO])).length) Slot.unset).toArray = ls at hl ⊢
  have hl : lv_has ls 8 [(0, .ref p0), (1, .int k1), (2, .long g1), (4, .long w1), (6, .ref aO)] := hl
  refine lv_aload hx hb dL_run_0 (lv_at hl 4 rfl) ?_
  refine lv_iconst (v := 0) hx hb dL_run_2 (by decide) ?_
  refine lv_aload_n hx hb dL_run_3 rfl (lv_at hl 0 rfl) ?_
  refine lv_iload_n hx hb dL_run_4 rfl (lv_at hl 1 rfl) ?_
  refine lv_lload_n hx hb dL_run_5 rfl (lv_at hl 2 rfl) ?_
  refine lv_lload hx hb dL_run_6 (lv_at hl 3 rfl) ?_
  refine tw_runV (As := [.int k1, .long g1, .long w1]) (rest := [.int 0, .ref aO]) (C := RP) ⟨hx, hb, hml, hown, hts⟩ (t_P_run_IAE l dC dI p0 pT pR pS pF h0 pQ pG tot pd gd aw ar ab cw cr cb fw fr fb rc kind rises total going width cf ct rn rd k1 g1 w1 hfl hx9) ⟨cB 3 hts gw_304 gw_1 gw_301 ndP_run rfl rfl ⟨Nat.le_of_ble_eq_true rfl, Nat.le_of_ble_eq_true rfl⟩, hts _ gw_302, hts _ gw_303⟩ (tp_Tv hZ (fun _ _ => rfl) hN hK hP [0, 1, 2, 3, 4, 5, 6] [0, 1, 2] rfl rfl (q0 := 0) (ci := 0) rfl rfl) rfl hl.1 rfl (Nat.le_of_ble_eq_true rfl) dL_run_8 ⟨Nat.le_of_ble_eq_true rfl, Nat.le_of_ble_eq_true rfl⟩ (fun x9 H9 hN9 => ?_)
  refine tw_catch hown hN9 [⟨0, 13, 16, 19⟩] ⟨0, 13, 20, 13⟩ [] (tL_tab B List.mem_cons_self) (List.forall_mem_cons.mpr ⟨⟨rfl, by decide, _, tcl_AS (word_at (a' := #[]) (State.WarmedH.refl s) (gT_good _ gw_300) (hts _ gw_300)) hC⟩, List.forall_mem_nil _⟩) rfl (by decide) (tcl_A (word_at (a' := #[]) (State.WarmedH.refl s) (gT_good _ gw_244) (hts _ gw_244)) hC) ?_
  refine lv_astore (lv' := [(7, .ref x9), (0, .ref p0), (1, .int k1), (2, .long g1), (4, .long w1), (6, .ref aO)]) hx hb dL_run_20 hl (by decide) rfl (fun ls hl => ?_)
  refine lv_iconst (v := 2) hx hb dL_run_22 (by decide) ?_
  exact W.iret (v := 2) hx hb hr (fun t ht hW => ⟨rfl, by rw [ht]; exact hN9.2.1, fun q hq => by rw [ht]; exact hN9.2.2.2 q hq⟩) (fun q h => by cases h) dL_run_23
