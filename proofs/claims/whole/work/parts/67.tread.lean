def fT_readTerm_c0f2 (ft : Nat → Int32) (tl : Nat) (fw : Nat → Int32) (fr : Nat → Int32) (fb : Nat → Int32) (rc : Nat) (pn : Nat) : Nat := if 0 ≤ (fJ_ix (fT_next ft tl ((rnL ft tl 2 0 (-1) pn).2))) then (if ((rnL ft tl 2 0 (-1) pn).1) = (-1) then ((rnL ft tl 2 0 (-1) pn).2 + 1) else ((rnL ft tl 2 0 (-1) pn).2 + 1)) else ((rnL ft tl 2 0 (-1) pn).2)
def fT_readTerm_a3 (ft : Nat → Int32) (tl : Nat) (fw : Nat → Int32) (fr : Nat → Int32) (fb : Nat → Int32) (rc : Nat) (pn : Nat) : Nat → Int32 := if 0 ≤ (fJ_ix (fT_next ft tl ((rnL ft tl 2 0 (-1) pn).2))) then (if ((rnL ft tl 2 0 (-1) pn).1) = (-1) then (fS_add_a1 fw fr fb rc 1 (fJ_ix (fT_next ft tl ((rnL ft tl 2 0 (-1) pn).2)))) else (fS_add_a1 fw fr fb rc ((rnL ft tl 2 0 (-1) pn).1) (fJ_ix (fT_next ft tl ((rnL ft tl 2 0 (-1) pn).2))))) else fw
def fT_readTerm (ft : Nat → Int32) (tl : Nat) (fw : Nat → Int32) (fr : Nat → Int32) (fb : Nat → Int32) (rc : Nat) (pn : Nat) : Bool := if 0 ≤ (fJ_ix (fT_next ft tl ((rnL ft tl 2 0 (-1) pn).2))) then (if ((rnL ft tl 2 0 (-1) pn).1) = (-1) then true else true) else false
set_option maxHeartbeats 1500000 in
set_option maxRecDepth 100000 in
theorem c_T_readTerm (l : Launch) (dC : Nat → ClassId) (dI : Nat → Nat → Nat) (pT : Nat) (ac : Nat) (ca : ClassId) (ft : Nat → Int32) (tl : Nat) (r0 : Nat) (aw : Nat) (ar : Nat) (ab : Nat) (cw : ClassId) (cr : ClassId) (cb : ClassId) (fw : Nat → Int32) (fr : Nat → Int32) (fb : Nat → Int32) (rc : Nat) (pn : Nat) (hft : tch ft) (hpn : pn < 2147400000) (hc : rc ≤ 8) : Met l mT_readTerm wT_readTerm ({ frames := 4, cells := 0, slots := 0, locals := 91 }) (tp_X (dC, dI) vCl [.ref pT, .ref r0] [(pT, .inr (1, [.ref ac, .int (nI tl), .int (nI pn)])), (ac, .inl (ca, 120, .inl ft)), (r0, .inr (2, [.ref aw, .ref ar, .ref ab, .int (nI rc)])), (aw, .inl (cw, 40, .inl fw)), (ar, .inl (cr, 8, .inl fr)), (ab, .inl (cb, 8, .inl fb))] [(ca, .char), (cw, .int), (cr, .char), (cb, .int)]) (tq_W (dC, dI) vCl (some (.int (bI (fT_readTerm ft tl fw fr fb rc pn)))) [(pT, .inr (1, [.ref ac, .int (nI tl), .int (nI pn)])), (ac, .inl (ca, 120, .inl ft)), (r0, .inr (2, [.ref aw, .ref ar, .ref ab, .int (nI rc)])), (aw, .inl (cw, 40, .inl fw)), (ar, .inl (cr, 8, .inl fr)), (ab, .inl (cb, 8, .inl fb))] [(pT, .inr (1, [.ref ac, .int (nI tl), .int (nI (fT_readTerm_c0f2 ft tl fw fr fb rc pn))])), (ac, .inl (ca, 120, .inl ft)), (r0, .inr (2, [.ref aw, .ref ar, .ref ab, .int (nI rc)])), (aw, .inl (cw, 40, .inl (fT_readTerm_a3 ft tl fw fr fb rc pn))), (ar, .inl (cr, 8, .inl fr)), (ab, .inl (cb, 8, .inl fb))]) 0 0 (tA [(pT, .inr (1, [.ref ac, .int (nI tl), .int (nI pn)])), (ac, .inl (ca, 120, .inl ft)), (r0, .inr (2, [.ref aw, .ref ar, .ref ab, .int (nI rc)])), (aw, .inl (cw, 40, .inl fw)), (ar, .inl (cr, 8, .inl fr)), (ab, .inl (cb, 8, .inl fb))]) := by
  refine Met.ofW (cc := bT_readTerm) (maxL := 4) (ret := (some .boolean)) (by decide) rfl ?_
  intro p e s m args below meth c s₁ B hml hv
  obtain ⟨rfl, hP, hK, hN, hD0, qS, vS, hR9, hG⟩ := hv
  have hx := B.exec
  have hb := B.bytes
  have hr := B.returns
  have hts : ∀ w ∈ gT, w.before _ s = true := fun w h => atoms_spec (ws := wT_readTerm) B.pre w (List.mem_cons_of_mem _ h)
  have hown : s.vm.findClass RT = some m.cls := findClass_of_methodNamed B.named
  have hlocks := B.notSynchronized
  have hD := tA_D hD0
  generalize hAe : tA [(pT, .inr (1, [.ref ac, .int (nI tl), .int (nI pn)])), (ac, .inl (ca, 120, .inl ft)), (r0, .inr (2, [.ref aw, .ref ar, .ref ab, .int (nI rc)])), (aw, .inl (cw, 40, .inl fw)), (ar, .inl (cr, 8, .inl fr)), (ab, .inl (cb, 8, .inl fb))] = A at hD hG ⊢
  have hS : va_S A s.heap s.heap [] := va_S.rf
  have hP : va_P (dC, dI) vCl [(pT, .inr (1, [.ref ac, .int (nI tl), .int (nI pn)])), (ac, .inl (ca, 120, .inl ft)), (r0, .inr (2, [.ref aw, .ref ar, .ref ab, .int (nI rc)])), (aw, .inl (cw, 40, .inl fw)), (ar, .inl (cr, 8, .inl fr)), (ab, .inl (cb, 8, .inl fb))] s.heap := hP
  have hl := lv_entry ([.ref pT, .ref r0]) (n := 4) (Nat.le_of_ble_eq_true rfl)
  rw [lg_entry_eq]
  generalize (lg_sl ([.ref pT, .ref r0]) ++ List.replicate (4 - (lg_sl ([.ref pT, .ref r0])).length) Slot.unset).toArray = ls at hl ⊢
  have hl : lv_has ls 4 [(0, .ref pT), (1, .ref r0)] := hl
  refine lv_aload_n hx hb dT_readTerm_0 rfl (lv_at hl 0 rfl) ?_
  refine lv_iconst (v := 2) hx hb dT_readTerm_1 (by decide) ?_
  refine tc_go (st1 := [.int ((rnL ft tl 2 0 (-1) pn).1)]) (ws' := [(pT, .inr (1, [.ref ac, .int (nI tl), .int (nI (rnL ft tl 2 0 (-1) pn).2)])), (ac, .inl (ca, 120, .inl ft)), (r0, .inr (2, [.ref aw, .ref ar, .ref ab, .int (nI rc)])), (aw, .inl (cw, 40, .inl fw)), (ar, .inl (cr, 8, .inl fr)), (ab, .inl (cb, 8, .inl fb))]) (va_runV (As := [.int 2]) (rest := []) (C := RT) ⟨hx, hb, hml, hown, hts⟩ (c_T_readNumber l dC dI pT ac ca ft tl 2 pn hft (by omega) (by omega)) ⟨cB 1 hts gw_150 gw_2 gw_148 ndT_readNumber rfl rfl ⟨Nat.le_of_ble_eq_true rfl, Nat.le_of_ble_eq_true rfl⟩, hts _ gw_149, hts _ gw_746⟩ (tp_Wv hN hK hP hD [0, 1] [0] rfl (by decide) rfl (q0 := 0) (ci := 1) rfl rfl) rfl rfl hl.1 rfl (lv_room (Nat.le_of_ble_eq_true rfl)) dT_readTerm_2 ⟨Nat.le_of_ble_eq_true rfl, Nat.le_of_ble_eq_true rfl⟩) rfl hP hD hS [0, 1] rfl (show [pT, ac] = [pT, ac] from rfl) rfl (fun H locs hP hD hS => ?_)
  have hP : va_P (dC, dI) vCl [(pT, .inr (1, [.ref ac, .int (nI tl), .int (nI (rnL ft tl 2 0 (-1) pn).2)])), (ac, .inl (ca, 120, .inl ft)), (r0, .inr (2, [.ref aw, .ref ar, .ref ab, .int (nI rc)])), (aw, .inl (cw, 40, .inl fw)), (ar, .inl (cr, 8, .inl fr)), (ab, .inl (cb, 8, .inl fb))] H := hP
  have hD : va_D A [(pT, .inr (1, [.ref ac, .int (nI tl), .int (nI (rnL ft tl 2 0 (-1) pn).2)])), (ac, .inl (ca, 120, .inl ft)), (r0, .inr (2, [.ref aw, .ref ar, .ref ab, .int (nI rc)])), (aw, .inl (cw, 40, .inl fw)), (ar, .inl (cr, 8, .inl fr)), (ab, .inl (cb, 8, .inl fb))] := hD
  refine lv_istore_n (lv' := [(2, .int ((rnL ft tl 2 0 (-1) pn).1)), (0, .ref pT), (1, .ref r0)]) hx hb dT_readTerm_5 rfl hl (by decide) rfl (fun ls hl => ?_)
  refine va_ldcS hx hb hown hR9 dT_readTerm_6 ?_
  refine lv_aload_n hx hb dT_readTerm_8 rfl (lv_at hl 1 rfl) ?_
  refine tr_go (st1 := [.int (fT_next ft tl ((rnL ft tl 2 0 (-1) pn).2)), .ref qS]) (va_runV (As := []) (rest := [.ref qS]) (C := RT) ⟨hx, hb, hml, hown, hts⟩ (c_T_next l dC dI pT ac ca ft tl ((rnL ft tl 2 0 (-1) pn).2) hft (by have h80 := rnL_le ft tl 2 0 (-1) pn; omega)) ⟨cB 0 hts gw_153 gw_2 gw_151 ndT_next rfl rfl ⟨Nat.le_of_ble_eq_true rfl, Nat.le_of_ble_eq_true rfl⟩, hts _ gw_152, hts _ gw_747⟩ (tp_Rv hN hK hP [0, 1] [0] rfl rfl (q0 := 0) (ci := 1) rfl rfl) rfl rfl hl.1 rfl (lv_room (Nat.le_of_ble_eq_true rfl)) dT_readTerm_9 ⟨Nat.le_of_ble_eq_true rfl, Nat.le_of_ble_eq_true rfl⟩) rfl ?_
  refine tr_go (st1 := [.int (fJ_ix (fT_next ft tl ((rnL ft tl 2 0 (-1) pn).2)))]) (va_runV (As := [.int (fT_next ft tl ((rnL ft tl 2 0 (-1) pn).2))]) (rest := []) (C := RJ) ⟨hx, hb, hml, hown, hts⟩ (c_J_ix l dC dI qS vS (fT_next ft tl ((rnL ft tl 2 0 (-1) pn).2))) ⟨cB 1 hts gw_157 gw_12 gw_154 ndJ_indexOf rfl rfl ⟨Nat.le_of_ble_eq_true rfl, Nat.le_of_ble_eq_true rfl⟩, hts _ gw_155, hts _ gw_156⟩ (tp_Gv hG hS) rfl rfl hl.1 rfl (lv_room (Nat.le_of_ble_eq_true rfl)) dT_readTerm_12 ⟨Nat.le_of_ble_eq_true rfl, Nat.le_of_ble_eq_true rfl⟩) rfl ?_
  refine lv_istore_n (lv' := [(3, .int (fJ_ix (fT_next ft tl ((rnL ft tl 2 0 (-1) pn).2)))), (2, .int ((rnL ft tl 2 0 (-1) pn).1)), (0, .ref pT), (1, .ref r0)]) hx hb dT_readTerm_15 rfl hl (by decide) rfl (fun ls hl => ?_)
  refine lv_iload_n hx hb dT_readTerm_16 rfl (lv_at hl 0 rfl) ?_
  refine lv_if_ge (tgt := 22) hx hb dT_readTerm_17 (by decide) (fun c_1 => ?_) (fun c_1 => ?_)
  · skip
    refine lv_aload_n hx hb dT_readTerm_22 rfl (lv_at hl 2 rfl) ?_
    refine lv_dup hx hb dT_readTerm_23 rfl ?_
    refine va_get (D := (dC, dI)) (ci := 1) (v := .int (nI (rnL ft tl 2 0 (-1) pn).2)) (C := RT) (T := TT) (N := 3) hx hb hts inT hown hK hP 0 rfl rfl 2 (by decide) (hts _ gw_33) (fun _ h9 => h9) rfl dT_readTerm_24 ?_
    refine lv_iconst (v := 1) hx hb dT_readTerm_27 (by decide) ?_
    refine lv_iadd hx hb dT_readTerm_28 ?_
    rw [nI_1 ((rnL ft tl 2 0 (-1) pn).2)]
    refine va_put (D := (dC, dI)) (ci := 1) (v := .int (nI ((rnL ft tl 2 0 (-1) pn).2 + 1))) (ty := .int) (C := RT) (T := TT) (N := 3) hx hb hts inT yT yoT noT hown hK hP hD hS 0 rfl rfl 2 (by decide) (hts _ gw_33) (fun _ h9 => h9) rfl (by decide +kernel) rfl rfl (Nat.le_of_ble_eq_true rfl) dT_readTerm_29 (fun H locs hP hD hS => ?_)
    have hP : va_P (dC, dI) vCl [(pT, .inr (1, [.ref ac, .int (nI tl), .int (nI ((rnL ft tl 2 0 (-1) pn).2 + 1))])), (ac, .inl (ca, 120, .inl ft)), (r0, .inr (2, [.ref aw, .ref ar, .ref ab, .int (nI rc)])), (aw, .inl (cw, 40, .inl fw)), (ar, .inl (cr, 8, .inl fr)), (ab, .inl (cb, 8, .inl fb))] H := hP
    have hD : va_D A [(pT, .inr (1, [.ref ac, .int (nI tl), .int (nI ((rnL ft tl 2 0 (-1) pn).2 + 1))])), (ac, .inl (ca, 120, .inl ft)), (r0, .inr (2, [.ref aw, .ref ar, .ref ab, .int (nI rc)])), (aw, .inl (cw, 40, .inl fw)), (ar, .inl (cr, 8, .inl fr)), (ab, .inl (cb, 8, .inl fb))] := hD
    refine lv_aload_n hx hb dT_readTerm_32 rfl (lv_at hl 3 rfl) ?_
    refine lv_iload_n hx hb dT_readTerm_33 rfl (lv_at hl 1 rfl) ?_
    refine lv_iconst (v := (-1)) hx hb dT_readTerm_34 (by decide) ?_
    refine lv_icmp_ne (tgt := 42) hx hb dT_readTerm_35 (by decide) (fun c_2 => ?_) (fun c_2 => ?_)
    · skip
      refine lv_iload_n hx hb dT_readTerm_42 rfl (lv_at hl 1 rfl) ?_
      refine lv_iload_n hx hb dT_readTerm_43 rfl (lv_at hl 0 rfl) ?_
      refine tc_go (st1 := []) (ws' := [(pT, .inr (1, [.ref ac, .int (nI tl), .int (nI ((rnL ft tl 2 0 (-1) pn).2 + 1))])), (ac, .inl (ca, 120, .inl ft)), (r0, .inr (2, [.ref aw, .ref ar, .ref ab, .int (nI rc)])), (aw, .inl (cw, 40, .inl (fS_add_a1 fw fr fb rc ((rnL ft tl 2 0 (-1) pn).1) (fJ_ix (fT_next ft tl ((rnL ft tl 2 0 (-1) pn).2)))))), (ar, .inl (cr, 8, .inl fr)), (ab, .inl (cb, 8, .inl fb))]) (va_runV (As := [.int ((rnL ft tl 2 0 (-1) pn).1), .int (fJ_ix (fT_next ft tl ((rnL ft tl 2 0 (-1) pn).2)))]) (rest := []) (C := RS) ⟨hx, hb, hml, hown, hts⟩ (c_S_add l dC dI r0 aw ar ab cw cr cb fw fr fb rc ((rnL ft tl 2 0 (-1) pn).1) (fJ_ix (fT_next ft tl ((rnL ft tl 2 0 (-1) pn).2))) hc) ⟨cB 2 hts gw_228 gw_3 gw_225 ndS_addTerm rfl rfl ⟨Nat.le_of_ble_eq_true rfl, Nat.le_of_ble_eq_true rfl⟩, hts _ gw_226, hts _ gw_227⟩ (tp_Wv hN hK hP hD [2, 3, 4, 5] [1, 2, 3] rfl (by decide) rfl (q0 := 2) (ci := 2) rfl rfl) rfl rfl hl.1 rfl (lv_room (Nat.le_of_ble_eq_true rfl)) dT_readTerm_44 ⟨Nat.le_of_ble_eq_true rfl, Nat.le_of_ble_eq_true rfl⟩) rfl hP hD hS [2, 3, 4, 5] rfl (show [r0, aw, ar, ab] = [r0, aw, ar, ab] from rfl) rfl (fun H locs hP hD hS => ?_)
      have hP : va_P (dC, dI) vCl [(pT, .inr (1, [.ref ac, .int (nI tl), .int (nI ((rnL ft tl 2 0 (-1) pn).2 + 1))])), (ac, .inl (ca, 120, .inl ft)), (r0, .inr (2, [.ref aw, .ref ar, .ref ab, .int (nI rc)])), (aw, .inl (cw, 40, .inl (fS_add_a1 fw fr fb rc ((rnL ft tl 2 0 (-1) pn).1) (fJ_ix (fT_next ft tl ((rnL ft tl 2 0 (-1) pn).2)))))), (ar, .inl (cr, 8, .inl fr)), (ab, .inl (cb, 8, .inl fb))] H := hP
      have hD : va_D A [(pT, .inr (1, [.ref ac, .int (nI tl), .int (nI ((rnL ft tl 2 0 (-1) pn).2 + 1))])), (ac, .inl (ca, 120, .inl ft)), (r0, .inr (2, [.ref aw, .ref ar, .ref ab, .int (nI rc)])), (aw, .inl (cw, 40, .inl (fS_add_a1 fw fr fb rc ((rnL ft tl 2 0 (-1) pn).1) (fJ_ix (fT_next ft tl ((rnL ft tl 2 0 (-1) pn).2)))))), (ar, .inl (cr, 8, .inl fr)), (ab, .inl (cb, 8, .inl fb))] := hD
      refine lv_iconst (v := 1) hx hb dT_readTerm_47 (by decide) ?_
      exact W.zret (v := 1) hx hb hr (rfl) (fun t ht hW => ⟨by rw [show fT_readTerm ft tl fw fr fb rc pn = true from by unfold fT_readTerm; rw [if_pos c_1, if_neg c_2]]; rfl, by rw [ht, show fT_readTerm_c0f2 ft tl fw fr fb rc pn = ((rnL ft tl 2 0 (-1) pn).2 + 1) from by unfold fT_readTerm_c0f2; rw [if_pos c_1, if_neg c_2], show fT_readTerm_a3 ft tl fw fr fb rc pn = fS_add_a1 fw fr fb rc ((rnL ft tl 2 0 (-1) pn).1) (fJ_ix (fT_next ft tl ((rnL ft tl 2 0 (-1) pn).2))) from by unfold fT_readTerm_a3; rw [if_pos c_1, if_neg c_2]]; exact hP, by rw [hAe]; exact hS.F ht⟩) hS.2.2 dT_readTerm_48
    · skip
      refine lv_iconst (v := 1) hx hb dT_readTerm_38 (by decide) ?_
      refine lv_goto (tgt := 43) hx hb dT_readTerm_39 (by decide) ?_
      refine lv_iload_n hx hb dT_readTerm_43 rfl (lv_at hl 0 rfl) ?_
      refine tc_go (st1 := []) (ws' := [(pT, .inr (1, [.ref ac, .int (nI tl), .int (nI ((rnL ft tl 2 0 (-1) pn).2 + 1))])), (ac, .inl (ca, 120, .inl ft)), (r0, .inr (2, [.ref aw, .ref ar, .ref ab, .int (nI rc)])), (aw, .inl (cw, 40, .inl (fS_add_a1 fw fr fb rc 1 (fJ_ix (fT_next ft tl ((rnL ft tl 2 0 (-1) pn).2)))))), (ar, .inl (cr, 8, .inl fr)), (ab, .inl (cb, 8, .inl fb))]) (va_runV (As := [.int 1, .int (fJ_ix (fT_next ft tl ((rnL ft tl 2 0 (-1) pn).2)))]) (rest := []) (C := RS) ⟨hx, hb, hml, hown, hts⟩ (c_S_add l dC dI r0 aw ar ab cw cr cb fw fr fb rc 1 (fJ_ix (fT_next ft tl ((rnL ft tl 2 0 (-1) pn).2))) hc) ⟨cB 2 hts gw_228 gw_3 gw_225 ndS_addTerm rfl rfl ⟨Nat.le_of_ble_eq_true rfl, Nat.le_of_ble_eq_true rfl⟩, hts _ gw_226, hts _ gw_227⟩ (tp_Wv hN hK hP hD [2, 3, 4, 5] [1, 2, 3] rfl (by decide) rfl (q0 := 2) (ci := 2) rfl rfl) rfl rfl hl.1 rfl (lv_room (Nat.le_of_ble_eq_true rfl)) dT_readTerm_44 ⟨Nat.le_of_ble_eq_true rfl, Nat.le_of_ble_eq_true rfl⟩) rfl hP hD hS [2, 3, 4, 5] rfl (show [r0, aw, ar, ab] = [r0, aw, ar, ab] from rfl) rfl (fun H locs hP hD hS => ?_)
      have hP : va_P (dC, dI) vCl [(pT, .inr (1, [.ref ac, .int (nI tl), .int (nI ((rnL ft tl 2 0 (-1) pn).2 + 1))])), (ac, .inl (ca, 120, .inl ft)), (r0, .inr (2, [.ref aw, .ref ar, .ref ab, .int (nI rc)])), (aw, .inl (cw, 40, .inl (fS_add_a1 fw fr fb rc 1 (fJ_ix (fT_next ft tl ((rnL ft tl 2 0 (-1) pn).2)))))), (ar, .inl (cr, 8, .inl fr)), (ab, .inl (cb, 8, .inl fb))] H := hP
      have hD : va_D A [(pT, .inr (1, [.ref ac, .int (nI tl), .int (nI ((rnL ft tl 2 0 (-1) pn).2 + 1))])), (ac, .inl (ca, 120, .inl ft)), (r0, .inr (2, [.ref aw, .ref ar, .ref ab, .int (nI rc)])), (aw, .inl (cw, 40, .inl (fS_add_a1 fw fr fb rc 1 (fJ_ix (fT_next ft tl ((rnL ft tl 2 0 (-1) pn).2)))))), (ar, .inl (cr, 8, .inl fr)), (ab, .inl (cb, 8, .inl fb))] := hD
      refine lv_iconst (v := 1) hx hb dT_readTerm_47 (by decide) ?_
      exact W.zret (v := 1) hx hb hr (rfl) (fun t ht hW => ⟨by rw [show fT_readTerm ft tl fw fr fb rc pn = true from by unfold fT_readTerm; rw [if_pos c_1, if_pos c_2]]; rfl, by rw [ht, show fT_readTerm_c0f2 ft tl fw fr fb rc pn = ((rnL ft tl 2 0 (-1) pn).2 + 1) from by unfold fT_readTerm_c0f2; rw [if_pos c_1, if_pos c_2], show fT_readTerm_a3 ft tl fw fr fb rc pn = fS_add_a1 fw fr fb rc 1 (fJ_ix (fT_next ft tl ((rnL ft tl 2 0 (-1) pn).2))) from by unfold fT_readTerm_a3; rw [if_pos c_1, if_pos c_2]]; exact hP, by rw [hAe]; exact hS.F ht⟩) hS.2.2 dT_readTerm_48
  · skip
    refine lv_iconst (v := 0) hx hb dT_readTerm_20 (by decide) ?_
    exact W.zret (v := 0) hx hb hr (rfl) (fun t ht hW => ⟨by rw [show fT_readTerm ft tl fw fr fb rc pn = false from by unfold fT_readTerm; rw [if_neg c_1]]; rfl, by rw [ht, show fT_readTerm_c0f2 ft tl fw fr fb rc pn = (rnL ft tl 2 0 (-1) pn).2 from by unfold fT_readTerm_c0f2; rw [if_neg c_1], show fT_readTerm_a3 ft tl fw fr fb rc pn = fw from by unfold fT_readTerm_a3; rw [if_neg c_1]]; exact hP, by rw [hAe]; exact hS.F ht⟩) hS.2.2 dT_readTerm_21

theorem tt_le (ft : Nat → Int32) (tl : Nat) (fw : Nat → Int32) (fr : Nat → Int32) (fb : Nat → Int32) (rc : Nat) (pn : Nat) : fT_readTerm_c0f2 ft tl fw fr fb rc pn ≤ pn + 3 := by
  have h := rnL_le ft tl 2 0 (-1) pn
  unfold fT_readTerm_c0f2
  repeat' split
  all_goals omega

def rsL (ft : Nat → Int32) (tl : Nat) (fr : Nat → Int32) (fb : Nat → Int32) (rc : Nat) : Nat → Nat → Nat → (Nat → Int32) → Bool × Nat × (Nat → Int32)
  | 0, _, pb, ff => (true, pb, ff)
  | n + 1, k, pb, ff => if (fT_readTerm ft tl ff fr fb rc pb) = true then (if (fT_next ft tl (fT_readTerm_c0f2 ft tl ff fr fb rc pb)) = 43 then (if (nI k) = 3 then (true, fT_readTerm_c0f2 ft tl ff fr fb rc pb, fT_readTerm_a3 ft tl ff fr fb rc pb) else (rsL ft tl fr fb rc n (k + 1) (fT_readTerm_c0f2 ft tl ff fr fb rc pb + 1) (fT_readTerm_a3 ft tl ff fr fb rc pb))) else (true, fT_readTerm_c0f2 ft tl ff fr fb rc pb, fT_readTerm_a3 ft tl ff fr fb rc pb)) else (false, fT_readTerm_c0f2 ft tl ff fr fb rc pb, fT_readTerm_a3 ft tl ff fr fb rc pb)
theorem rs_le (ft : Nat → Int32) (tl : Nat) (fr : Nat → Int32) (fb : Nat → Int32) (rc : Nat) : ∀ (n k pb : Nat) (ff : Nat → Int32), (rsL ft tl fr fb rc n k pb ff).2.1 ≤ pb + 4 * n := by
  intro n
  induction n with
  | zero => intro k pb ff; rw [rsL]; exact Nat.le_refl _
  | succ n ih =>
    intro k pb ff
    have h1 := tt_le ft tl ff fr fb rc pb
    rw [rsL]
    by_cases c1 : fT_readTerm ft tl ff fr fb rc pb = true
    · rw [if_pos c1]
      by_cases c2 : (fT_next ft tl (fT_readTerm_c0f2 ft tl ff fr fb rc pb)) = 43
      · rw [if_pos c2]
        by_cases c3 : (nI k) = 3
        · rw [if_pos c3]; dsimp only; omega
        · rw [if_neg c3]; have h2 := ih (k + 1) (fT_readTerm_c0f2 ft tl ff fr fb rc pb + 1) (fT_readTerm_a3 ft tl ff fr fb rc pb); omega
      · rw [if_neg c2]; dsimp only; omega
    · rw [if_neg c1]; dsimp only; omega
