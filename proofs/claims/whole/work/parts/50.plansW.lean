def fT_append_c0f1 (ft : Nat → Int32) (tl : Nat) (pl : Int32) (u : Int32) : Nat := if u < 33 then tl else (if 126 < u then tl else (if (nI tl) < 120 then (tl + 1) else tl))
def fT_append_a1 (ft : Nat → Int32) (tl : Nat) (pl : Int32) (u : Int32) : Nat → Int32 := if u < 33 then ft else (if 126 < u then ft else (if (nI tl) < 120 then (upd ft (nI tl).toNatClampNeg (vp_nar .char ((u.toUInt32 % 65536).toInt32))) else ft))
def fT_append (ft : Nat → Int32) (tl : Nat) (pl : Int32) (u : Int32) : Bool := if u < 33 then false else (if 126 < u then false else (if (nI tl) < 120 then true else false))
set_option maxHeartbeats 4000000 in
set_option maxRecDepth 100000 in
theorem c_T_append (l : Launch) (dC : Nat → ClassId) (dI : Nat → Nat → Nat) (pT : Nat) (ac : Nat) (ca : ClassId) (ft : Nat → Int32) (tl : Nat) (pl : Int32) (u : Int32) (htl : tl ≤ 120) : Met l mT_append wT_append ({ frames := 0, cells := 0, slots := 0, locals := 0 }) (tp_W (dC, dI) vCl [.ref pT, .int u] [(pT, .inr (1, [.ref ac, .int (nI tl), .int pl])), (ac, .inl (ca, 120, .inl ft))] [(ca, .char)]) (tq_W (dC, dI) vCl (some (.int (bI (fT_append ft tl pl u)))) [(pT, .inr (1, [.ref ac, .int (nI tl), .int pl])), (ac, .inl (ca, 120, .inl ft))] [(pT, .inr (1, [.ref ac, .int (nI (fT_append_c0f1 ft tl pl u)), .int pl])), (ac, .inl (ca, 120, .inl (fT_append_a1 ft tl pl u)))]) 0 0 (tA [(pT, .inr (1, [.ref ac, .int (nI tl), .int pl])), (ac, .inl (ca, 120, .inl ft))]) := by
  refine Met.ofW (cc := bT_append) (maxL := 2) (ret := (some .boolean)) (by decide) rfl ?_
  intro p e s m args below meth c s₁ B hml hv
  obtain ⟨rfl, hP, hK, hN, hD0⟩ := hv
  have hx := B.exec
  have hb := B.bytes
  have hr := B.returns
  have hts : ∀ w ∈ gT, w.before _ s = true := fun w h => atoms_spec (ws := wT_append) B.pre w (List.mem_cons_of_mem _ h)
  have hown : s.vm.findClass RT = some m.cls := findClass_of_methodNamed B.named
  have hlocks := B.notSynchronized
  have hD := tA_D hD0
  generalize hAe : tA [(pT, .inr (1, [.ref ac, .int (nI tl), .int pl])), (ac, .inl (ca, 120, .inl ft))] = A at hD ⊢
  have hS : va_S A s.heap s.heap [] := va_S.rf
  have hP : va_P (dC, dI) vCl [(pT, .inr (1, [.ref ac, .int (nI tl), .int pl])), (ac, .inl (ca, 120, .inl ft))] s.heap := hP
  have hl := lv_entry ([.ref pT, .int u]) (n := 2) (Nat.le_of_ble_eq_true rfl)
  rw [lg_entry_eq]
  generalize (lg_sl ([.ref pT, .int u]) ++ List.replicate (2 - (lg_sl ([.ref pT, .int u])).length) Slot.unset).toArray = ls at hl ⊢
  have hl : lv_has ls 2 [(0, .ref pT), (1, .int u)] := hl
  refine lv_iload_n hx hb dT_append_0 rfl (lv_at hl 1 rfl) ?_
  refine lv_bipush (v := 33) hx hb dT_append_1 (by decide) ?_
  refine lv_icmp_lt (tgt := 21) hx hb dT_append_3 (by decide) (fun c_1 => ?_) (fun c_1 => ?_)
  · skip
    refine lv_iconst (v := 0) hx hb dT_append_21 (by decide) ?_
    exact W.zret (v := 0) hx hb hr (rfl) (fun t ht hW => ⟨by rw [show fT_append ft tl pl u = false from by unfold fT_append; rw [if_pos c_1]]; rfl, by rw [ht, show fT_append_c0f1 ft tl pl u = tl from by unfold fT_append_c0f1; rw [if_pos c_1], show fT_append_a1 ft tl pl u = ft from by unfold fT_append_a1; rw [if_pos c_1]]; exact hP, by rw [hAe]; exact hS.F ht⟩) hS.2.2 dT_append_22
  · skip
    refine lv_iload_n hx hb dT_append_6 rfl (lv_at hl 1 rfl) ?_
    refine lv_bipush (v := 126) hx hb dT_append_7 (by decide) ?_
    refine lv_icmp_gt (tgt := 21) hx hb dT_append_9 (by decide) (fun c_2 => ?_) (fun c_2 => ?_)
    · skip
      refine lv_iconst (v := 0) hx hb dT_append_21 (by decide) ?_
      exact W.zret (v := 0) hx hb hr (rfl) (fun t ht hW => ⟨by rw [show fT_append ft tl pl u = false from by unfold fT_append; rw [if_neg c_1, if_pos c_2]]; rfl, by rw [ht, show fT_append_c0f1 ft tl pl u = tl from by unfold fT_append_c0f1; rw [if_neg c_1, if_pos c_2], show fT_append_a1 ft tl pl u = ft from by unfold fT_append_a1; rw [if_neg c_1, if_pos c_2]]; exact hP, by rw [hAe]; exact hS.F ht⟩) hS.2.2 dT_append_22
    · skip
      refine lv_aload_n hx hb dT_append_12 rfl (lv_at hl 0 rfl) ?_
      refine va_get (D := (dC, dI)) (ci := 1) (v := .int (nI tl)) (C := RT) (T := TT) (N := 3) hx hb hts inT hown hK hP 0 rfl rfl 1 (by decide) (hts _ gw_32) (fun _ h9 => h9) rfl dT_append_13 ?_
      refine lv_bipush (v := 120) hx hb dT_append_16 (by decide) ?_
      refine lv_icmp_lt (tgt := 23) hx hb dT_append_18 (by decide) (fun c_3 => ?_) (fun c_3 => ?_)
      · skip
        refine lv_aload_n hx hb dT_append_23 rfl (lv_at hl 0 rfl) ?_
        refine va_get (D := (dC, dI)) (ci := 1) (v := .ref ac) (C := RT) (T := TT) (N := 3) hx hb hts inT hown hK hP 0 rfl rfl 0 (by decide) (hts _ gw_31) (fun _ h9 => h9) rfl dT_append_24 ?_
        refine lv_aload_n hx hb dT_append_27 rfl (lv_at hl 0 rfl) ?_
        refine va_get (D := (dC, dI)) (ci := 1) (v := .int (nI tl)) (C := RT) (T := TT) (N := 3) hx hb hts inT hown hK hP 0 rfl rfl 1 (by decide) (hts _ gw_32) (fun _ h9 => h9) rfl dT_append_28 ?_
        refine lv_iload_n hx hb dT_append_31 rfl (lv_at hl 1 rfl) ?_
        refine lv_i2c (v := (u.toUInt32 % 65536).toInt32) hx hb dT_append_32 rfl ?_
        have b_4 : vp_in (nI tl) 120 := tin_c rfl (by decide) (by omega) (tin_u c_3)
        refine va_cast hx hb hK hP hD hS 1 0 rfl rfl b_4 dT_append_33 (fun H locs hP hD hS => ?_)
        have hP : va_P (dC, dI) vCl [(pT, .inr (1, [.ref ac, .int (nI tl), .int pl])), (ac, .inl (ca, 120, .inl (upd ft (nI tl).toNatClampNeg (vp_nar .char ((u.toUInt32 % 65536).toInt32)))))] H := hP
        have hD : va_D A [(pT, .inr (1, [.ref ac, .int (nI tl), .int pl])), (ac, .inl (ca, 120, .inl (upd ft (nI tl).toNatClampNeg (vp_nar .char ((u.toUInt32 % 65536).toInt32)))))] := hD
        refine lv_aload_n hx hb dT_append_34 rfl (lv_at hl 0 rfl) ?_
        refine lv_dup hx hb dT_append_35 rfl ?_
        refine va_get (D := (dC, dI)) (ci := 1) (v := .int (nI tl)) (C := RT) (T := TT) (N := 3) hx hb hts inT hown hK hP 0 rfl rfl 1 (by decide) (hts _ gw_32) (fun _ h9 => h9) rfl dT_append_36 ?_
        refine lv_iconst (v := 1) hx hb dT_append_39 (by decide) ?_
        refine lv_iadd hx hb dT_append_40 ?_
        rw [nI_1 (tl)]
        refine va_put (D := (dC, dI)) (ci := 1) (v := .int (nI (tl + 1))) (ty := .int) (C := RT) (T := TT) (N := 3) hx hb hts inT yT yoT noT hown hK hP hD hS 0 rfl rfl 1 (by decide) (hts _ gw_32) (fun _ h9 => h9) rfl (by decide +kernel) rfl rfl (Nat.le_of_ble_eq_true rfl) dT_append_41 (fun H locs hP hD hS => ?_)
        have hP : va_P (dC, dI) vCl [(pT, .inr (1, [.ref ac, .int (nI (tl + 1)), .int pl])), (ac, .inl (ca, 120, .inl (upd ft (nI tl).toNatClampNeg (vp_nar .char ((u.toUInt32 % 65536).toInt32)))))] H := hP
        have hD : va_D A [(pT, .inr (1, [.ref ac, .int (nI (tl + 1)), .int pl])), (ac, .inl (ca, 120, .inl (upd ft (nI tl).toNatClampNeg (vp_nar .char ((u.toUInt32 % 65536).toInt32)))))] := hD
        refine lv_iconst (v := 1) hx hb dT_append_44 (by decide) ?_
        exact W.zret (v := 1) hx hb hr (rfl) (fun t ht hW => ⟨by rw [show fT_append ft tl pl u = true from by unfold fT_append; rw [if_neg c_1, if_neg c_2, if_pos c_3]]; rfl, by rw [ht, show fT_append_c0f1 ft tl pl u = (tl + 1) from by unfold fT_append_c0f1; rw [if_neg c_1, if_neg c_2, if_pos c_3], show fT_append_a1 ft tl pl u = upd ft (nI tl).toNatClampNeg (vp_nar .char ((u.toUInt32 % 65536).toInt32)) from by unfold fT_append_a1; rw [if_neg c_1, if_neg c_2, if_pos c_3]]; exact hP, by rw [hAe]; exact hS.F ht⟩) hS.2.2 dT_append_45
      · skip
        refine lv_iconst (v := 0) hx hb dT_append_21 (by decide) ?_
        exact W.zret (v := 0) hx hb hr (rfl) (fun t ht hW => ⟨by rw [show fT_append ft tl pl u = false from by unfold fT_append; rw [if_neg c_1, if_neg c_2, if_neg c_3]]; rfl, by rw [ht, show fT_append_c0f1 ft tl pl u = tl from by unfold fT_append_c0f1; rw [if_neg c_1, if_neg c_2, if_neg c_3], show fT_append_a1 ft tl pl u = ft from by unfold fT_append_a1; rw [if_neg c_1, if_neg c_2, if_neg c_3]]; exact hP, by rw [hAe]; exact hS.F ht⟩) hS.2.2 dT_append_22

set_option maxHeartbeats 4000000 in
set_option maxRecDepth 100000 in
theorem c_T_clear (l : Launch) (dC : Nat → ClassId) (dI : Nat → Nat → Nat) (pT : Nat) (ac : Nat) (ca : ClassId) (ft : Nat → Int32) (tl : Nat) (pl : Int32) : Met l mT_clear wT_clear ({ frames := 0, cells := 0, slots := 0, locals := 0 }) (tp_W (dC, dI) vCl [.ref pT] [(pT, .inr (1, [.ref ac, .int (nI tl), .int pl])), (ac, .inl (ca, 120, .inl ft))] [(ca, .char)]) (tq_W (dC, dI) vCl (none) [(pT, .inr (1, [.ref ac, .int (nI tl), .int pl])), (ac, .inl (ca, 120, .inl ft))] [(pT, .inr (1, [.ref ac, .int 0, .int pl])), (ac, .inl (ca, 120, .inl ft))]) 0 0 (tA [(pT, .inr (1, [.ref ac, .int (nI tl), .int pl])), (ac, .inl (ca, 120, .inl ft))]) := by
  refine Met.ofW (cc := bT_clear) (maxL := 1) (ret := none) (by decide) rfl ?_
  intro p e s m args below meth c s₁ B hml hv
  obtain ⟨rfl, hP, hK, hN, hD0⟩ := hv
  have hx := B.exec
  have hb := B.bytes
  have hr := B.returns
  have hts : ∀ w ∈ gT, w.before _ s = true := fun w h => atoms_spec (ws := wT_clear) B.pre w (List.mem_cons_of_mem _ h)
  have hown : s.vm.findClass RT = some m.cls := findClass_of_methodNamed B.named
  have hlocks := B.notSynchronized
  have hD := tA_D hD0
  generalize hAe : tA [(pT, .inr (1, [.ref ac, .int (nI tl), .int pl])), (ac, .inl (ca, 120, .inl ft))] = A at hD ⊢
  have hS : va_S A s.heap s.heap [] := va_S.rf
  have hP : va_P (dC, dI) vCl [(pT, .inr (1, [.ref ac, .int (nI tl), .int pl])), (ac, .inl (ca, 120, .inl ft))] s.heap := hP
  have hl := lv_entry ([.ref pT]) (n := 1) (Nat.le_of_ble_eq_true rfl)
  rw [lg_entry_eq]
  generalize (lg_sl ([.ref pT]) ++ List.replicate (1 - (lg_sl ([.ref pT])).length) Slot.unset).toArray = ls at hl ⊢
  have hl : lv_has ls 1 [(0, .ref pT)] := hl
  refine lv_aload_n hx hb dT_clear_0 rfl (lv_at hl 0 rfl) ?_
  refine lv_iconst (v := 0) hx hb dT_clear_1 (by decide) ?_
  refine va_put (D := (dC, dI)) (ci := 1) (v := .int 0) (ty := .int) (C := RT) (T := TT) (N := 3) hx hb hts inT yT yoT noT hown hK hP hD hS 0 rfl rfl 1 (by decide) (hts _ gw_32) (fun _ h9 => h9) rfl (by decide +kernel) rfl rfl (Nat.le_of_ble_eq_true rfl) dT_clear_2 (fun H locs hP hD hS => ?_)
  have hP : va_P (dC, dI) vCl [(pT, .inr (1, [.ref ac, .int 0, .int pl])), (ac, .inl (ca, 120, .inl ft))] H := hP
  have hD : va_D A [(pT, .inr (1, [.ref ac, .int 0, .int pl])), (ac, .inl (ca, 120, .inl ft))] := hD
  exact W.vret hx hb hr (fun t ht hW => ⟨rfl, by rw [ht]; exact hP, by rw [hAe]; exact hS.F ht⟩) hS.2.2 dT_clear_5

def fP_unit (tot : Int64) (pd : Bool) (gd : Bool) (ft : Nat → Int32) (tl : Nat) (pl : Int32) (u : Int32) : Bool := (fT_append ft tl pl u)
set_option maxHeartbeats 4000000 in
set_option maxRecDepth 100000 in
theorem c_P_unit (l : Launch) (dC : Nat → ClassId) (dI : Nat → Nat → Nat) (p0 : Nat) (pT : Nat) (pR : Nat) (pS : Nat) (pF : Nat) (h0 : Nat) (pQ : Nat) (pG : Nat) (tot : Int64) (pd : Bool) (gd : Bool) (ac : Nat) (ca : ClassId) (ft : Nat → Int32) (tl : Nat) (pl : Int32) (u : Int32) (htl : tl ≤ 120) : Met l mP_unit wP_unit ({ frames := 1, cells := 0, slots := 0, locals := 21 }) (tp_W (dC, dI) vCl [.ref p0, .int u] [(p0, .inr (0, [.ref pT, .ref pR, .ref pS, .ref pF, .ref h0, .ref pQ, .ref pG, .long tot, .int (bI pd), .int (bI gd)])), (pT, .inr (1, [.ref ac, .int (nI tl), .int pl])), (ac, .inl (ca, 120, .inl ft))] [(ca, .char)]) (tq_W (dC, dI) vCl (some (.int (bI (fP_unit tot pd gd ft tl pl u)))) [(p0, .inr (0, [.ref pT, .ref pR, .ref pS, .ref pF, .ref h0, .ref pQ, .ref pG, .long tot, .int (bI pd), .int (bI gd)])), (pT, .inr (1, [.ref ac, .int (nI tl), .int pl])), (ac, .inl (ca, 120, .inl ft))] [(p0, .inr (0, [.ref pT, .ref pR, .ref pS, .ref pF, .ref h0, .ref pQ, .ref pG, .long tot, .int (bI pd), .int (bI gd)])), (pT, .inr (1, [.ref ac, .int (nI (fT_append_c0f1 ft tl pl u)), .int pl])), (ac, .inl (ca, 120, .inl (fT_append_a1 ft tl pl u)))]) 0 0 (tA [(p0, .inr (0, [.ref pT, .ref pR, .ref pS, .ref pF, .ref h0, .ref pQ, .ref pG, .long tot, .int (bI pd), .int (bI gd)])), (pT, .inr (1, [.ref ac, .int (nI tl), .int pl])), (ac, .inl (ca, 120, .inl ft))]) := by
  refine Met.ofW (cc := bP_unit) (maxL := 2) (ret := (some .boolean)) (by decide) rfl ?_
  intro p e s m args below meth c s₁ B hml hv
  obtain ⟨rfl, hP, hK, hN, hD0⟩ := hv
  have hx := B.exec
  have hb := B.bytes
  have hr := B.returns
  have hts : ∀ w ∈ gT, w.before _ s = true := fun w h => atoms_spec (ws := wP_unit) B.pre w (List.mem_cons_of_mem _ h)
  have hown : s.vm.findClass RP = some m.cls := findClass_of_methodNamed B.named
  have hlocks := B.notSynchronized
  have hD := tA_D hD0
  generalize hAe : tA [(p0, .inr (0, [.ref pT, .ref pR, .ref pS, .ref pF, .ref h0, .ref pQ, .ref pG, .long tot, .int (bI pd), .int (bI gd)])), (pT, .inr (1, [.ref ac, .int (nI tl), .int pl])), (ac, .inl (ca, 120, .inl ft))] = A at hD ⊢
  have hS : va_S A s.heap s.heap [] := va_S.rf
  have hP : va_P (dC, dI) vCl [(p0, .inr (0, [.ref pT, .ref pR, .ref pS, .ref pF, .ref h0, .ref pQ, .ref pG, .long tot, .int (bI pd), .int (bI gd)])), (pT, .inr (1, [.ref ac, .int (nI tl), .int pl])), (ac, .inl (ca, 120, .inl ft))] s.heap := hP
  have hl := lv_entry ([.ref p0, .int u]) (n := 2) (Nat.le_of_ble_eq_true rfl)
  rw [lg_entry_eq]
  generalize (lg_sl ([.ref p0, .int u]) ++ List.replicate (2 - (lg_sl ([.ref p0, .int u])).length) Slot.unset).toArray = ls at hl ⊢
  have hl : lv_has ls 2 [(0, .ref p0), (1, .int u)] := hl
  refine lv_aload_n hx hb dP_unit_0 rfl (lv_at hl 0 rfl) ?_
  refine va_get (D := (dC, dI)) (ci := 0) (v := .ref pT) (C := RP) (T := TP) (N := 10) hx hb hts inP hown hK hP 0 rfl rfl 0 (by decide) (hts _ gw_99) (fun _ h9 => h9) rfl dP_unit_1 ?_
  refine lv_iload_n hx hb dP_unit_4 rfl (lv_at hl 1 rfl) ?_
  refine tc_go (st1 := [.int (bI (fT_append ft tl pl u))]) (ws' := [(p0, .inr (0, [.ref pT, .ref pR, .ref pS, .ref pF, .ref h0, .ref pQ, .ref pG, .long tot, .int (bI pd), .int (bI gd)])), (pT, .inr (1, [.ref ac, .int (nI (fT_append_c0f1 ft tl pl u)), .int pl])), (ac, .inl (ca, 120, .inl (fT_append_a1 ft tl pl u)))]) (va_runV (As := [.int u]) (rest := []) (C := RT) ⟨hx, hb, hml, hown, hts⟩ (c_T_append l dC dI pT ac ca ft tl pl u (by assumption)) ⟨cB 1 hts gw_126 gw_2 gw_123 ndT_append rfl rfl ⟨Nat.le_of_ble_eq_true rfl, Nat.le_of_ble_eq_true rfl⟩, hts _ gw_124, hts _ gw_125⟩ (tp_Wv hN hK hP hD [1, 2] [0] rfl (by decide) rfl (q0 := 1) (ci := 1) rfl rfl) rfl rfl hl.1 rfl (lv_room (Nat.le_of_ble_eq_true rfl)) dP_unit_5 ⟨Nat.le_of_ble_eq_true rfl, Nat.le_of_ble_eq_true rfl⟩) rfl hP hD hS [1, 2] rfl rfl rfl (fun H locs hP hD hS => ?_)
  have hP : va_P (dC, dI) vCl [(p0, .inr (0, [.ref pT, .ref pR, .ref pS, .ref pF, .ref h0, .ref pQ, .ref pG, .long tot, .int (bI pd), .int (bI gd)])), (pT, .inr (1, [.ref ac, .int (nI (fT_append_c0f1 ft tl pl u)), .int pl])), (ac, .inl (ca, 120, .inl (fT_append_a1 ft tl pl u)))] H := hP
  have hD : va_D A [(p0, .inr (0, [.ref pT, .ref pR, .ref pS, .ref pF, .ref h0, .ref pQ, .ref pG, .long tot, .int (bI pd), .int (bI gd)])), (pT, .inr (1, [.ref ac, .int (nI (fT_append_c0f1 ft tl pl u)), .int pl])), (ac, .inl (ca, 120, .inl (fT_append_a1 ft tl pl u)))] := hD
  exact W.zret (v := bI (fT_append ft tl pl u)) hx hb hr (bI_n _) (fun t ht hW => ⟨by rw [show fP_unit tot pd gd ft tl pl u = (fT_append ft tl pl u) from by unfold fP_unit; rfl], by rw [ht]; exact hP, by rw [hAe]; exact hS.F ht⟩) hS.2.2 dP_unit_8

set_option maxHeartbeats 4000000 in
set_option maxRecDepth 100000 in
theorem c_P_forget (l : Launch) (dC : Nat → ClassId) (dI : Nat → Nat → Nat) (p0 : Nat) (pT : Nat) (pR : Nat) (pS : Nat) (pF : Nat) (h0 : Nat) (pQ : Nat) (pG : Nat) (tot : Int64) (pd : Bool) (gd : Bool) : Met l mP_forgetPlan wP_forgetPlan ({ frames := 0, cells := 0, slots := 0, locals := 0 }) (tp_W (dC, dI) vCl [.ref p0] [(p0, .inr (0, [.ref pT, .ref pR, .ref pS, .ref pF, .ref h0, .ref pQ, .ref pG, .long tot, .int (bI pd), .int (bI gd)]))] []) (tq_W (dC, dI) vCl (none) [(p0, .inr (0, [.ref pT, .ref pR, .ref pS, .ref pF, .ref h0, .ref pQ, .ref pG, .long tot, .int (bI pd), .int (bI gd)]))] [(p0, .inr (0, [.ref pT, .ref pR, .ref pS, .ref pF, .ref h0, .ref pQ, .ref pG, .long tot, .int (bI false), .int (bI false)]))]) 0 0 (tA [(p0, .inr (0, [.ref pT, .ref pR, .ref pS, .ref pF, .ref h0, .ref pQ, .ref pG, .long tot, .int (bI pd), .int (bI gd)]))]) := by
  refine Met.ofW (cc := bP_forgetPlan) (maxL := 1) (ret := none) (by decide) rfl ?_
  intro p e s m args below meth c s₁ B hml hv
  obtain ⟨rfl, hP, hK, hN, hD0⟩ := hv
  have hx := B.exec
  have hb := B.bytes
  have hr := B.returns
  have hts : ∀ w ∈ gT, w.before _ s = true := fun w h => atoms_spec (ws := wP_forgetPlan) B.pre w (List.mem_cons_of_mem _ h)
  have hown : s.vm.findClass RP = some m.cls := findClass_of_methodNamed B.named
  have hlocks := B.notSynchronized
  have hD := tA_D hD0
  generalize hAe : tA [(p0, .inr (0, [.ref pT, .ref pR, .ref pS, .ref pF, .ref h0, .ref pQ, .ref pG, .long tot, .int (bI pd), .int (bI gd)]))] = A at hD ⊢
  have hS : va_S A s.heap s.heap [] := va_S.rf
  have hP : va_P (dC, dI) vCl [(p0, .inr (0, [.ref pT, .ref pR, .ref pS, .ref pF, .ref h0, .ref pQ, .ref pG, .long tot, .int (bI pd), .int (bI gd)]))] s.heap := hP
  have hl := lv_entry ([.ref p0]) (n := 1) (Nat.le_of_ble_eq_true rfl)
  rw [lg_entry_eq]
  generalize (lg_sl ([.ref p0]) ++ List.replicate (1 - (lg_sl ([.ref p0])).length) Slot.unset).toArray = ls at hl ⊢
  have hl : lv_has ls 1 [(0, .ref p0)] := hl
  refine lv_aload_n hx hb dP_forgetPlan_0 rfl (lv_at hl 0 rfl) ?_
  refine lv_iconst (v := 0) hx hb dP_forgetPlan_1 (by decide) ?_
  refine va_put (D := (dC, dI)) (ci := 0) (v := .int 0) (ty := .boolean) (C := RP) (T := TP) (N := 10) hx hb hts inP yP yoP noP hown hK hP hD hS 0 rfl rfl 8 (by decide) (hts _ gw_107) (fun _ h9 => h9) rfl (by decide +kernel) rfl rfl (Nat.le_of_ble_eq_true rfl) dP_forgetPlan_2 (fun H locs hP hD hS => ?_)
  have hP : va_P (dC, dI) vCl [(p0, .inr (0, [.ref pT, .ref pR, .ref pS, .ref pF, .ref h0, .ref pQ, .ref pG, .long tot, .int 0, .int (bI gd)]))] H := hP
  have hD : va_D A [(p0, .inr (0, [.ref pT, .ref pR, .ref pS, .ref pF, .ref h0, .ref pQ, .ref pG, .long tot, .int 0, .int (bI gd)]))] := hD
  refine lv_aload_n hx hb dP_forgetPlan_5 rfl (lv_at hl 0 rfl) ?_
  refine lv_iconst (v := 0) hx hb dP_forgetPlan_6 (by decide) ?_
  refine va_put (D := (dC, dI)) (ci := 0) (v := .int 0) (ty := .boolean) (C := RP) (T := TP) (N := 10) hx hb hts inP yP yoP noP hown hK hP hD hS 0 rfl rfl 9 (by decide) (hts _ gw_108) (fun _ h9 => h9) rfl (by decide +kernel) rfl rfl (Nat.le_of_ble_eq_true rfl) dP_forgetPlan_7 (fun H locs hP hD hS => ?_)
  have hP : va_P (dC, dI) vCl [(p0, .inr (0, [.ref pT, .ref pR, .ref pS, .ref pF, .ref h0, .ref pQ, .ref pG, .long tot, .int 0, .int 0]))] H := hP
  have hD : va_D A [(p0, .inr (0, [.ref pT, .ref pR, .ref pS, .ref pF, .ref h0, .ref pQ, .ref pG, .long tot, .int 0, .int 0]))] := hD
  exact W.vret hx hb hr (fun t ht hW => ⟨rfl, by rw [ht]; exact hP, by rw [hAe]; exact hS.F ht⟩) hS.2.2 dP_forgetPlan_10

def xP_heights (tot : Int64) (pd : Bool) (gd : Bool) (v : Int64) : Nat := if v < 1 then 1 else (if v ≤ 100000 then (if v = tot then 0 else 0) else 1)

def fP_heights_c0f7 (tot : Int64) (pd : Bool) (gd : Bool) (v : Int64) : Int64 := if v < 1 then tot else (if v ≤ 100000 then (if v = tot then tot else v) else tot)
def fP_heights_c0f8 (tot : Int64) (pd : Bool) (gd : Bool) (v : Int64) : Bool := if v < 1 then pd else (if v ≤ 100000 then (if v = tot then pd else false) else pd)
def fP_heights_c0f9 (tot : Int64) (pd : Bool) (gd : Bool) (v : Int64) : Bool := if v < 1 then gd else (if v ≤ 100000 then (if v = tot then gd else false) else gd)
def fP_heights (tot : Int64) (pd : Bool) (gd : Bool) (v : Int64) : Bool := if v < 1 then false else (if v ≤ 100000 then (if v = tot then false else true) else false)
set_option maxHeartbeats 4000000 in
set_option maxRecDepth 100000 in
theorem c_P_heights (l : Launch) (dC : Nat → ClassId) (dI : Nat → Nat → Nat) (p0 : Nat) (pT : Nat) (pR : Nat) (pS : Nat) (pF : Nat) (h0 : Nat) (pQ : Nat) (pG : Nat) (tot : Int64) (pd : Bool) (gd : Bool) (v : Int64) (hx9 : xP_heights tot pd gd v = 0) : Met l mP_heights wP_heights ({ frames := 1, cells := 0, slots := 0, locals := 20 }) (tp_W (dC, dI) vCl [.ref p0, .long v] [(p0, .inr (0, [.ref pT, .ref pR, .ref pS, .ref pF, .ref h0, .ref pQ, .ref pG, .long tot, .int (bI pd), .int (bI gd)]))] []) (tq_W (dC, dI) vCl (some (.int (bI (fP_heights tot pd gd v)))) [(p0, .inr (0, [.ref pT, .ref pR, .ref pS, .ref pF, .ref h0, .ref pQ, .ref pG, .long tot, .int (bI pd), .int (bI gd)]))] [(p0, .inr (0, [.ref pT, .ref pR, .ref pS, .ref pF, .ref h0, .ref pQ, .ref pG, .long (fP_heights_c0f7 tot pd gd v), .int (bI (fP_heights_c0f8 tot pd gd v)), .int (bI (fP_heights_c0f9 tot pd gd v))]))]) 0 0 (tA [(p0, .inr (0, [.ref pT, .ref pR, .ref pS, .ref pF, .ref h0, .ref pQ, .ref pG, .long tot, .int (bI pd), .int (bI gd)]))]) := by
  refine Met.ofW (cc := bP_heights) (maxL := 3) (ret := (some .boolean)) (by decide) rfl ?_
  intro p e s m args below meth c s₁ B hml hv
  obtain ⟨rfl, hP, hK, hN, hD0⟩ := hv
  have hx := B.exec
  have hb := B.bytes
  have hr := B.returns
  have hts : ∀ w ∈ gT, w.before _ s = true := fun w h => atoms_spec (ws := wP_heights) B.pre w (List.mem_cons_of_mem _ h)
  have hown : s.vm.findClass RP = some m.cls := findClass_of_methodNamed B.named
  have hlocks := B.notSynchronized
  have hD := tA_D hD0
  generalize hAe : tA [(p0, .inr (0, [.ref pT, .ref pR, .ref pS, .ref pF, .ref h0, .ref pQ, .ref pG, .long tot, .int (bI pd), .int (bI gd)]))] = A at hD ⊢
  have hS : va_S A s.heap s.heap [] := va_S.rf
  have hP : va_P (dC, dI) vCl [(p0, .inr (0, [.ref pT, .ref pR, .ref pS, .ref pF, .ref h0, .ref pQ, .ref pG, .long tot, .int (bI pd), .int (bI gd)]))] s.heap := hP
  have hl := lv_entry ([.ref p0, .long v]) (n := 3) (Nat.le_of_ble_eq_true rfl)
  rw [lg_entry_eq]
  generalize (lg_sl ([.ref p0, .long v]) ++ List.replicate (3 - (lg_sl ([.ref p0, .long v])).length) Slot.unset).toArray = ls at hl ⊢
  have hl : lv_has ls 3 [(0, .ref p0), (1, .long v)] := hl
  refine lv_lload_n hx hb dP_heights_0 rfl (lv_at hl 1 rfl) ?_
  refine lv_lconst (v := 1) hx hb dP_heights_1 (by decide) ?_
  refine tl_lt (tgt := 14) hx hb dP_heights_2 dP_heights_3 (by decide) (fun c_1 => ?_) (fun c_1 => ?_)
  · skip
    exact absurd (hx9.symm.trans (show xP_heights tot pd gd v = 1 from by unfold xP_heights; rw [if_pos c_1])) (by decide)
  · skip
    refine lv_lload_n hx hb dP_heights_6 rfl (lv_at hl 1 rfl) ?_
    refine lv_ldc2 (v := 100000) hx hb hown (hts _ gw_249) dP_heights_7 ?_
    refine tl_le (tgt := 24) hx hb dP_heights_10 dP_heights_11 (by decide) (fun c_2 => ?_) (fun c_2 => ?_)
    · skip
      refine lv_lload_n hx hb dP_heights_24 rfl (lv_at hl 1 rfl) ?_
      refine lv_aload_n hx hb dP_heights_25 rfl (lv_at hl 0 rfl) ?_
      refine va_get (D := (dC, dI)) (ci := 0) (v := .long tot) (C := RP) (T := TP) (N := 10) hx hb hts inP hown hK hP 0 rfl rfl 7 (by decide) (hts _ gw_106) (fun _ h9 => h9) rfl dP_heights_26 ?_
      refine tl_ne (tgt := 35) hx hb dP_heights_29 dP_heights_30 (by decide) (fun c_3 => ?_) (fun c_3 => ?_)
      · skip
        refine lv_aload_n hx hb dP_heights_35 rfl (lv_at hl 0 rfl) ?_
        refine lv_lload_n hx hb dP_heights_36 rfl (lv_at hl 1 rfl) ?_
        refine va_put (D := (dC, dI)) (ci := 0) (v := .long v) (ty := .long) (C := RP) (T := TP) (N := 10) hx hb hts inP yP yoP noP hown hK hP hD hS 0 rfl rfl 7 (by decide) (hts _ gw_106) (fun _ h9 => h9) rfl (by decide +kernel) rfl rfl (Nat.le_of_ble_eq_true rfl) dP_heights_37 (fun H locs hP hD hS => ?_)
        have hP : va_P (dC, dI) vCl [(p0, .inr (0, [.ref pT, .ref pR, .ref pS, .ref pF, .ref h0, .ref pQ, .ref pG, .long v, .int (bI pd), .int (bI gd)]))] H := hP
        have hD : va_D A [(p0, .inr (0, [.ref pT, .ref pR, .ref pS, .ref pF, .ref h0, .ref pQ, .ref pG, .long v, .int (bI pd), .int (bI gd)]))] := hD
        refine lv_aload_n hx hb dP_heights_40 rfl (lv_at hl 0 rfl) ?_
        refine tc_go (st1 := []) (ws' := [(p0, .inr (0, [.ref pT, .ref pR, .ref pS, .ref pF, .ref h0, .ref pQ, .ref pG, .long v, .int (bI false), .int (bI false)]))]) (va_runV (As := []) (rest := []) (C := RP) ⟨hx, hb, hml, hown, hts⟩ (c_P_forget l dC dI p0 pT pR pS pF h0 pQ pG v pd gd) ⟨cB 0 hts gw_239 gw_1 gw_237 ndP_forgetPlan rfl rfl ⟨Nat.le_of_ble_eq_true rfl, Nat.le_of_ble_eq_true rfl⟩, hts _ gw_238, hts _ gw_748⟩ (tp_Wv hN hK hP hD [0] [] rfl (by decide) rfl (q0 := 0) (ci := 0) rfl rfl) rfl rfl hl.1 rfl (lv_room (Nat.le_of_ble_eq_true rfl)) dP_heights_41 ⟨Nat.le_of_ble_eq_true rfl, Nat.le_of_ble_eq_true rfl⟩) rfl hP hD hS [0] rfl rfl rfl (fun H locs hP hD hS => ?_)
        have hP : va_P (dC, dI) vCl [(p0, .inr (0, [.ref pT, .ref pR, .ref pS, .ref pF, .ref h0, .ref pQ, .ref pG, .long v, .int (bI false), .int (bI false)]))] H := hP
        have hD : va_D A [(p0, .inr (0, [.ref pT, .ref pR, .ref pS, .ref pF, .ref h0, .ref pQ, .ref pG, .long v, .int (bI false), .int (bI false)]))] := hD
        refine lv_iconst (v := 1) hx hb dP_heights_44 (by decide) ?_
        exact W.zret (v := 1) hx hb hr (rfl) (fun t ht hW => ⟨by rw [show fP_heights tot pd gd v = true from by unfold fP_heights; rw [if_neg c_1, if_pos c_2, if_neg c_3]]; rfl, by rw [ht, show fP_heights_c0f7 tot pd gd v = v from by unfold fP_heights_c0f7; rw [if_neg c_1, if_pos c_2, if_neg c_3], show fP_heights_c0f8 tot pd gd v = false from by unfold fP_heights_c0f8; rw [if_neg c_1, if_pos c_2, if_neg c_3], show fP_heights_c0f9 tot pd gd v = false from by unfold fP_heights_c0f9; rw [if_neg c_1, if_pos c_2, if_neg c_3]]; exact hP, by rw [hAe]; exact hS.F ht⟩) hS.2.2 dP_heights_45
      · skip
        refine lv_iconst (v := 0) hx hb dP_heights_33 (by decide) ?_
        exact W.zret (v := 0) hx hb hr (rfl) (fun t ht hW => ⟨by rw [show fP_heights tot pd gd v = false from by unfold fP_heights; rw [if_neg c_1, if_pos c_2, if_pos c_3]]; rfl, by rw [ht, show fP_heights_c0f7 tot pd gd v = tot from by unfold fP_heights_c0f7; rw [if_neg c_1, if_pos c_2, if_pos c_3], show fP_heights_c0f8 tot pd gd v = pd from by unfold fP_heights_c0f8; rw [if_neg c_1, if_pos c_2, if_pos c_3], show fP_heights_c0f9 tot pd gd v = gd from by unfold fP_heights_c0f9; rw [if_neg c_1, if_pos c_2, if_pos c_3]]; exact hP, by rw [hAe]; exact hS.F ht⟩) hS.2.2 dP_heights_34
    · skip
      exact absurd (hx9.symm.trans (show xP_heights tot pd gd v = 1 from by unfold xP_heights; rw [if_neg c_1, if_neg c_2])) (by decide)

set_option maxHeartbeats 4000000 in
set_option maxRecDepth 100000 in
theorem t_P_heights_IAE (l : Launch) (dC : Nat → ClassId) (dI : Nat → Nat → Nat) (p0 : Nat) (pT : Nat) (pR : Nat) (pS : Nat) (pF : Nat) (h0 : Nat) (pQ : Nat) (pG : Nat) (tot : Int64) (pd : Bool) (gd : Bool) (v : Int64) (hfl : l.stackTraces = false) (hx9 : xP_heights tot pd gd v = 1) : tw_Met l mP_heights wP_heights ({ frames := 6, cells := 1, slots := 6, locals := 82 }) (tp_T (dC, dI) vCl [.ref p0, .long v] [(p0, .inr (0, [.ref pT, .ref pR, .ref pS, .ref pF, .ref h0, .ref pQ, .ref pG, .long tot, .int (bI pd), .int (bI gd)]))] []) "java/lang/IllegalArgumentException" := by
  refine tw_ofW (cc := bP_heights) (maxL := 3) (ret := (some .boolean)) (by decide) rfl ?_
  intro p e s m args below meth c s₁ B hml hne hv
  obtain ⟨rfl, hP, hK, hN, hZ⟩ := hv
  have hx := B.exec
  have hb := B.bytes
  have hr := B.returns
  have hts : ∀ w ∈ gT, w.before _ s = true := fun w h => atoms_spec (ws := wP_heights) B.pre w (List.mem_cons_of_mem _ h)
  have hown : s.vm.findClass RP = some m.cls := findClass_of_methodNamed B.named
  have hlocks := B.notSynchronized
  have hP : va_P (dC, dI) vCl [(p0, .inr (0, [.ref pT, .ref pR, .ref pS, .ref pF, .ref h0, .ref pQ, .ref pG, .long tot, .int (bI pd), .int (bI gd)]))] s.heap := hP
  have hl := lv_entry ([.ref p0, .long v]) (n := 3) (Nat.le_of_ble_eq_true rfl)
  rw [lg_entry_eq]
  generalize (lg_sl ([.ref p0, .long v]) ++ List.replicate (3 - (lg_sl ([.ref p0, .long v])).length) Slot.unset).toArray = ls at hl ⊢
  have hl : lv_has ls 3 [(0, .ref p0), (1, .long v)] := hl
  refine lv_lload_n hx hb dP_heights_0 rfl (lv_at hl 1 rfl) ?_
  refine lv_lconst (v := 1) hx hb dP_heights_1 (by decide) ?_
  refine tl_lt (tgt := 14) hx hb dP_heights_2 dP_heights_3 (by decide) (fun c_1 => ?_) (fun c_1 => ?_)
  · skip
    exact tw_new (E := "java/lang/IllegalArgumentException") hx hb hml hl.1 hfl hlocks hne hown (tz_lit (hZ.1 _ sw_1 rfl)) (hts _ gw_250) (hts _ gw_11) (own_IAE hts hN hZ) (by decide) (by decide) dP_heights_14 dP_heights_17 dP_heights_18 dP_heights_20 dP_heights_23 (Nat.le_of_ble_eq_true rfl) (Nat.le_of_ble_eq_true rfl) (Nat.le_of_ble_eq_true rfl) (Nat.le_of_ble_eq_true rfl)
  · skip
    refine lv_lload_n hx hb dP_heights_6 rfl (lv_at hl 1 rfl) ?_
    refine lv_ldc2 (v := 100000) hx hb hown (hts _ gw_249) dP_heights_7 ?_
    refine tl_le (tgt := 24) hx hb dP_heights_10 dP_heights_11 (by decide) (fun c_2 => ?_) (fun c_2 => ?_)
    · skip
      refine lv_lload_n hx hb dP_heights_24 rfl (lv_at hl 1 rfl) ?_
      refine lv_aload_n hx hb dP_heights_25 rfl (lv_at hl 0 rfl) ?_
      refine va_get (D := (dC, dI)) (ci := 0) (v := .long tot) (C := RP) (T := TP) (N := 10) hx hb hts inP hown hK hP 0 rfl rfl 7 (by decide) (hts _ gw_106) (fun _ h9 => h9) rfl dP_heights_26 ?_
      refine tl_ne (tgt := 35) hx hb dP_heights_29 dP_heights_30 (by decide) (fun c_3 => ?_) (fun c_3 => ?_)
      · skip
        refine lv_aload_n hx hb dP_heights_35 rfl (lv_at hl 0 rfl) ?_
        refine lv_lload_n hx hb dP_heights_36 rfl (lv_at hl 1 rfl) ?_
        exact absurd (hx9.symm.trans (show xP_heights tot pd gd v = 0 from by unfold xP_heights; rw [if_neg c_1, if_pos c_2, if_neg c_3])) (by decide)
      · skip
        refine lv_iconst (v := 0) hx hb dP_heights_33 (by decide) ?_
        exact absurd (hx9.symm.trans (show xP_heights tot pd gd v = 0 from by unfold xP_heights; rw [if_neg c_1, if_pos c_2, if_pos c_3])) (by decide)
    · skip
      exact tw_new (E := "java/lang/IllegalArgumentException") hx hb hml hl.1 hfl hlocks hne hown (tz_lit (hZ.1 _ sw_1 rfl)) (hts _ gw_250) (hts _ gw_11) (own_IAE hts hN hZ) (by decide) (by decide) dP_heights_14 dP_heights_17 dP_heights_18 dP_heights_20 dP_heights_23 (Nat.le_of_ble_eq_true rfl) (Nat.le_of_ble_eq_true rfl) (Nat.le_of_ble_eq_true rfl) (Nat.le_of_ble_eq_true rfl)

def xP_floor (tot : Int64) (pd : Bool) (gd : Bool) (x0 : Nat → Int64) (y0 : Nat → Int64) (x1 : Nat → Int64) (y1 : Nat → Int64) (hh : Nat → Int64) (fc : Nat) (q1 : Int64) (q2 : Int64) (q3 : Int64) (q4 : Int64) (q5 : Int64) : Nat := if (fF_isPlace q1) = true then (if (fF_isPlace q2) = true then (if (fF_isPlace q3) = true then (if (fF_isPlace q4) = true then (if q3 ≤ q1 then 1 else (if q2 < q4 then (if (fF_isHeight q5) = true then 0 else 1) else 1)) else 1) else 1) else 1) else 1

def fP_floor (tot : Int64) (pd : Bool) (gd : Bool) (x0 : Nat → Int64) (y0 : Nat → Int64) (x1 : Nat → Int64) (y1 : Nat → Int64) (hh : Nat → Int64) (fc : Nat) (q1 : Int64) (q2 : Int64) (q3 : Int64) (q4 : Int64) (q5 : Int64) : Bool := if (fF_isPlace q1) = true then (if (fF_isPlace q2) = true then (if (fF_isPlace q3) = true then (if (fF_isPlace q4) = true then (if q3 ≤ q1 then false else (if q2 < q4 then (if (fF_isHeight q5) = true then (fF_append x0 y0 x1 y1 hh fc q1 q2 q3 q4 q5) else false) else false)) else false) else false) else false) else false
set_option maxHeartbeats 4000000 in
set_option maxRecDepth 100000 in
theorem c_P_floor (l : Launch) (dC : Nat → ClassId) (dI : Nat → Nat → Nat) (p0 : Nat) (pT : Nat) (pR : Nat) (pS : Nat) (pF : Nat) (h0 : Nat) (pQ : Nat) (pG : Nat) (tot : Int64) (pd : Bool) (gd : Bool) (b1 : Nat) (b2 : Nat) (b3 : Nat) (b4 : Nat) (b5 : Nat) (d1 : ClassId) (d2 : ClassId) (d3 : ClassId) (d4 : ClassId) (d5 : ClassId) (x0 : Nat → Int64) (y0 : Nat → Int64) (x1 : Nat → Int64) (y1 : Nat → Int64) (hh : Nat → Int64) (fc : Nat) (q1 : Int64) (q2 : Int64) (q3 : Int64) (q4 : Int64) (q5 : Int64) (hf : fc ≤ 8) (hx9 : xP_floor tot pd gd x0 y0 x1 y1 hh fc q1 q2 q3 q4 q5 = 0) : Met l mP_floor wP_floor ({ frames := 1, cells := 0, slots := 0, locals := 30 }) (tp_W (dC, dI) vCl [.ref p0, .long q1, .long q2, .long q3, .long q4, .long q5] [(p0, .inr (0, [.ref pT, .ref pR, .ref pS, .ref pF, .ref h0, .ref pQ, .ref pG, .long tot, .int (bI pd), .int (bI gd)])), (pF, .inr (3, [.ref b1, .ref b2, .ref b3, .ref b4, .ref b5, .int (nI fc)])), (b1, .inl (d1, 8, .inr (.inl x0))), (b2, .inl (d2, 8, .inr (.inl y0))), (b3, .inl (d3, 8, .inr (.inl x1))), (b4, .inl (d4, 8, .inr (.inl y1))), (b5, .inl (d5, 8, .inr (.inl hh)))] [(d1, .long), (d2, .long), (d3, .long), (d4, .long), (d5, .long)]) (tq_W (dC, dI) vCl (some (.int (bI (fP_floor tot pd gd x0 y0 x1 y1 hh fc q1 q2 q3 q4 q5)))) [(p0, .inr (0, [.ref pT, .ref pR, .ref pS, .ref pF, .ref h0, .ref pQ, .ref pG, .long tot, .int (bI pd), .int (bI gd)])), (pF, .inr (3, [.ref b1, .ref b2, .ref b3, .ref b4, .ref b5, .int (nI fc)])), (b1, .inl (d1, 8, .inr (.inl x0))), (b2, .inl (d2, 8, .inr (.inl y0))), (b3, .inl (d3, 8, .inr (.inl x1))), (b4, .inl (d4, 8, .inr (.inl y1))), (b5, .inl (d5, 8, .inr (.inl hh)))] [(p0, .inr (0, [.ref pT, .ref pR, .ref pS, .ref pF, .ref h0, .ref pQ, .ref pG, .long tot, .int (bI pd), .int (bI gd)])), (pF, .inr (3, [.ref b1, .ref b2, .ref b3, .ref b4, .ref b5, .int (nI (fF_append_c0f5 x0 y0 x1 y1 hh fc q1 q2 q3 q4 q5))])), (b1, .inl (d1, 8, .inr (.inl (fF_append_a1 x0 y0 x1 y1 hh fc q1 q2 q3 q4 q5)))), (b2, .inl (d2, 8, .inr (.inl (fF_append_a2 x0 y0 x1 y1 hh fc q1 q2 q3 q4 q5)))), (b3, .inl (d3, 8, .inr (.inl (fF_append_a3 x0 y0 x1 y1 hh fc q1 q2 q3 q4 q5)))), (b4, .inl (d4, 8, .inr (.inl (fF_append_a4 x0 y0 x1 y1 hh fc q1 q2 q3 q4 q5)))), (b5, .inl (d5, 8, .inr (.inl (fF_append_a5 x0 y0 x1 y1 hh fc q1 q2 q3 q4 q5))))]) 0 0 (tA [(p0, .inr (0, [.ref pT, .ref pR, .ref pS, .ref pF, .ref h0, .ref pQ, .ref pG, .long tot, .int (bI pd), .int (bI gd)])), (pF, .inr (3, [.ref b1, .ref b2, .ref b3, .ref b4, .ref b5, .int (nI fc)])), (b1, .inl (d1, 8, .inr (.inl x0))), (b2, .inl (d2, 8, .inr (.inl y0))), (b3, .inl (d3, 8, .inr (.inl x1))), (b4, .inl (d4, 8, .inr (.inl y1))), (b5, .inl (d5, 8, .inr (.inl hh)))]) := by
  refine Met.ofW (cc := bP_floor) (maxL := 11) (ret := (some .boolean)) (by decide) rfl ?_
  intro p e s m args below meth c s₁ B hml hv
  obtain ⟨rfl, hP, hK, hN, hD0⟩ := hv
  have hx := B.exec
  have hb := B.bytes
  have hr := B.returns
  have hts : ∀ w ∈ gT, w.before _ s = true := fun w h => atoms_spec (ws := wP_floor) B.pre w (List.mem_cons_of_mem _ h)
  have hown : s.vm.findClass RP = some m.cls := findClass_of_methodNamed B.named
  have hlocks := B.notSynchronized
  have hD := tA_D hD0
  generalize hAe : tA [(p0, .inr (0, [.ref pT, .ref pR, .ref pS, .ref pF, .ref h0, .ref pQ, .ref pG, .long tot, .int (bI pd), .int (bI gd)])), (pF, .inr (3, [.ref b1, .ref b2, .ref b3, .ref b4, .ref b5, .int (nI fc)])), (b1, .inl (d1, 8, .inr (.inl x0))), (b2, .inl (d2, 8, .inr (.inl y0))), (b3, .inl (d3, 8, .inr (.inl x1))), (b4, .inl (d4, 8, .inr (.inl y1))), (b5, .inl (d5, 8, .inr (.inl hh)))] = A at hD ⊢
  have hS : va_S A s.heap s.heap [] := va_S.rf
  have hP : va_P (dC, dI) vCl [(p0, .inr (0, [.ref pT, .ref pR, .ref pS, .ref pF, .ref h0, .ref pQ, .ref pG, .long tot, .int (bI pd), .int (bI gd)])), (pF, .inr (3, [.ref b1, .ref b2, .ref b3, .ref b4, .ref b5, .int (nI fc)])), (b1, .inl (d1, 8, .inr (.inl x0))), (b2, .inl (d2, 8, .inr (.inl y0))), (b3, .inl (d3, 8, .inr (.inl x1))), (b4, .inl (d4, 8, .inr (.inl y1))), (b5, .inl (d5, 8, .inr (.inl hh)))] s.heap := hP
  have hl := lv_entry ([.ref p0, .long q1, .long q2, .long q3, .long q4, .long q5]) (n := 11) (Nat.le_of_ble_eq_true rfl)
  rw [lg_entry_eq]
  generalize (lg_sl ([.ref p0, .long q1, .long q2, .long q3, .long q4, .long q5]) ++ List.replicate (11 - (lg_sl ([.ref p0, .long q1, .long q2, .long q3, .long q4, .long q5])).length) Slot.unset).toArray = ls at hl ⊢
  have hl : lv_has ls 11 [(0, .ref p0), (1, .long q1), (3, .long q2), (5, .long q3), (7, .long q4), (9, .long q5)] := hl
  refine lv_lload_n hx hb dP_floor_0 rfl (lv_at hl 1 rfl) ?_
  refine tr_go (st1 := [.int (bI (fF_isPlace q1))]) (va_runS (As := [.long q1]) (rest := []) ⟨hx, hb, hml, hown, hts⟩ (c_F_isPlace l dC dI q1) ⟨cB 1 hts gw_482 gw_4 gw_480 ndF_isPlace rfl rfl ⟨Nat.le_of_ble_eq_true rfl, Nat.le_of_ble_eq_true rfl⟩, hts _ gw_481⟩ (tp_Rs hN hK hP [] [] rfl rfl) rfl rfl hl.1 rfl (lv_room (Nat.le_of_ble_eq_true rfl)) dP_floor_1 ⟨Nat.le_of_ble_eq_true rfl, Nat.le_of_ble_eq_true rfl⟩) rfl ?_
  refine tb_ifeq (tgt := 30) hx hb dP_floor_4 (by decide) (fun c_1 => ?_) (fun c_1 => ?_)
  · skip
    exact absurd (hx9.symm.trans (show xP_floor tot pd gd x0 y0 x1 y1 hh fc q1 q2 q3 q4 q5 = 1 from by unfold xP_floor; rw [if_neg (Bool.eq_false_iff.mp c_1)])) (by decide)
  · skip
    refine lv_lload_n hx hb dP_floor_7 rfl (lv_at hl 2 rfl) ?_
    refine tr_go (st1 := [.int (bI (fF_isPlace q2))]) (va_runS (As := [.long q2]) (rest := []) ⟨hx, hb, hml, hown, hts⟩ (c_F_isPlace l dC dI q2) ⟨cB 1 hts gw_482 gw_4 gw_480 ndF_isPlace rfl rfl ⟨Nat.le_of_ble_eq_true rfl, Nat.le_of_ble_eq_true rfl⟩, hts _ gw_481⟩ (tp_Rs hN hK hP [] [] rfl rfl) rfl rfl hl.1 rfl (lv_room (Nat.le_of_ble_eq_true rfl)) dP_floor_8 ⟨Nat.le_of_ble_eq_true rfl, Nat.le_of_ble_eq_true rfl⟩) rfl ?_
    refine tb_ifeq (tgt := 30) hx hb dP_floor_11 (by decide) (fun c_2 => ?_) (fun c_2 => ?_)
    · skip
      exact absurd (hx9.symm.trans (show xP_floor tot pd gd x0 y0 x1 y1 hh fc q1 q2 q3 q4 q5 = 1 from by unfold xP_floor; rw [if_pos c_1, if_neg (Bool.eq_false_iff.mp c_2)])) (by decide)
    · skip
      refine lv_lload hx hb dP_floor_14 (lv_at hl 3 rfl) ?_
      refine tr_go (st1 := [.int (bI (fF_isPlace q3))]) (va_runS (As := [.long q3]) (rest := []) ⟨hx, hb, hml, hown, hts⟩ (c_F_isPlace l dC dI q3) ⟨cB 1 hts gw_482 gw_4 gw_480 ndF_isPlace rfl rfl ⟨Nat.le_of_ble_eq_true rfl, Nat.le_of_ble_eq_true rfl⟩, hts _ gw_481⟩ (tp_Rs hN hK hP [] [] rfl rfl) rfl rfl hl.1 rfl (lv_room (Nat.le_of_ble_eq_true rfl)) dP_floor_16 ⟨Nat.le_of_ble_eq_true rfl, Nat.le_of_ble_eq_true rfl⟩) rfl ?_
      refine tb_ifeq (tgt := 30) hx hb dP_floor_19 (by decide) (fun c_3 => ?_) (fun c_3 => ?_)
      · skip
        exact absurd (hx9.symm.trans (show xP_floor tot pd gd x0 y0 x1 y1 hh fc q1 q2 q3 q4 q5 = 1 from by unfold xP_floor; rw [if_pos c_1, if_pos c_2, if_neg (Bool.eq_false_iff.mp c_3)])) (by decide)
      · skip
        refine lv_lload hx hb dP_floor_22 (lv_at hl 4 rfl) ?_
        refine tr_go (st1 := [.int (bI (fF_isPlace q4))]) (va_runS (As := [.long q4]) (rest := []) ⟨hx, hb, hml, hown, hts⟩ (c_F_isPlace l dC dI q4) ⟨cB 1 hts gw_482 gw_4 gw_480 ndF_isPlace rfl rfl ⟨Nat.le_of_ble_eq_true rfl, Nat.le_of_ble_eq_true rfl⟩, hts _ gw_481⟩ (tp_Rs hN hK hP [] [] rfl rfl) rfl rfl hl.1 rfl (lv_room (Nat.le_of_ble_eq_true rfl)) dP_floor_24 ⟨Nat.le_of_ble_eq_true rfl, Nat.le_of_ble_eq_true rfl⟩) rfl ?_
        refine tb_ifne (tgt := 40) hx hb dP_floor_27 (by decide) (fun c_4 => ?_) (fun c_4 => ?_)
        · skip
          refine lv_lload hx hb dP_floor_40 (lv_at hl 3 rfl) ?_
          refine lv_lload_n hx hb dP_floor_42 rfl (lv_at hl 1 rfl) ?_
          refine tl_le (tgt := 54) hx hb dP_floor_43 dP_floor_44 (by decide) (fun c_5 => ?_) (fun c_5 => ?_)
          · skip
            exact absurd (hx9.symm.trans (show xP_floor tot pd gd x0 y0 x1 y1 hh fc q1 q2 q3 q4 q5 = 1 from by unfold xP_floor; rw [if_pos c_1, if_pos c_2, if_pos c_3, if_pos c_4, if_pos c_5])) (by decide)
          · skip
            refine lv_lload hx hb dP_floor_47 (lv_at hl 4 rfl) ?_
            refine lv_lload_n hx hb dP_floor_49 rfl (lv_at hl 2 rfl) ?_
            refine tl_gt (tgt := 64) hx hb dP_floor_50 dP_floor_51 (by decide) (fun c_6 => ?_) (fun c_6 => ?_)
            · skip
              refine lv_lload hx hb dP_floor_64 (lv_at hl 5 rfl) ?_
              refine tr_go (st1 := [.int (bI (fF_isHeight q5))]) (va_runS (As := [.long q5]) (rest := []) ⟨hx, hb, hml, hown, hts⟩ (c_F_isHeight l dC dI q5) ⟨cB 1 hts gw_487 gw_4 gw_485 ndF_isHeight rfl rfl ⟨Nat.le_of_ble_eq_true rfl, Nat.le_of_ble_eq_true rfl⟩, hts _ gw_486⟩ (tp_Rs hN hK hP [] [] rfl rfl) rfl rfl hl.1 rfl (lv_room (Nat.le_of_ble_eq_true rfl)) dP_floor_66 ⟨Nat.le_of_ble_eq_true rfl, Nat.le_of_ble_eq_true rfl⟩) rfl ?_
              refine tb_ifne (tgt := 82) hx hb dP_floor_69 (by decide) (fun c_7 => ?_) (fun c_7 => ?_)
              · skip
                refine lv_aload_n hx hb dP_floor_82 rfl (lv_at hl 0 rfl) ?_
                refine va_get (D := (dC, dI)) (ci := 0) (v := .ref pF) (C := RP) (T := TP) (N := 10) hx hb hts inP hown hK hP 0 rfl rfl 3 (by decide) (hts _ gw_102) (fun _ h9 => h9) rfl dP_floor_83 ?_
                refine lv_lload_n hx hb dP_floor_86 rfl (lv_at hl 1 rfl) ?_
                refine lv_lload_n hx hb dP_floor_87 rfl (lv_at hl 2 rfl) ?_
                refine lv_lload hx hb dP_floor_88 (lv_at hl 3 rfl) ?_
                refine lv_lload hx hb dP_floor_90 (lv_at hl 4 rfl) ?_
                refine lv_lload hx hb dP_floor_92 (lv_at hl 5 rfl) ?_
                refine tc_go (st1 := [.int (bI (fF_append x0 y0 x1 y1 hh fc q1 q2 q3 q4 q5))]) (ws' := [(p0, .inr (0, [.ref pT, .ref pR, .ref pS, .ref pF, .ref h0, .ref pQ, .ref pG, .long tot, .int (bI pd), .int (bI gd)])), (pF, .inr (3, [.ref b1, .ref b2, .ref b3, .ref b4, .ref b5, .int (nI (fF_append_c0f5 x0 y0 x1 y1 hh fc q1 q2 q3 q4 q5))])), (b1, .inl (d1, 8, .inr (.inl (fF_append_a1 x0 y0 x1 y1 hh fc q1 q2 q3 q4 q5)))), (b2, .inl (d2, 8, .inr (.inl (fF_append_a2 x0 y0 x1 y1 hh fc q1 q2 q3 q4 q5)))), (b3, .inl (d3, 8, .inr (.inl (fF_append_a3 x0 y0 x1 y1 hh fc q1 q2 q3 q4 q5)))), (b4, .inl (d4, 8, .inr (.inl (fF_append_a4 x0 y0 x1 y1 hh fc q1 q2 q3 q4 q5)))), (b5, .inl (d5, 8, .inr (.inl (fF_append_a5 x0 y0 x1 y1 hh fc q1 q2 q3 q4 q5))))]) (va_runV (As := [.long q1, .long q2, .long q3, .long q4, .long q5]) (rest := []) (C := RF) ⟨hx, hb, hml, hown, hts⟩ (c_F_append l dC dI pF b1 b2 b3 b4 b5 d1 d2 d3 d4 d5 x0 y0 x1 y1 hh fc q1 q2 q3 q4 q5 (by assumption)) ⟨cB 5 hts gw_491 gw_4 gw_488 ndF_append rfl rfl ⟨Nat.le_of_ble_eq_true rfl, Nat.le_of_ble_eq_true rfl⟩, hts _ gw_489, hts _ gw_490⟩ (tp_Wv hN hK hP hD [1, 2, 3, 4, 5, 6] [0, 1, 2, 3, 4] rfl (by decide) rfl (q0 := 1) (ci := 3) rfl rfl) rfl rfl hl.1 rfl (lv_room (Nat.le_of_ble_eq_true rfl)) dP_floor_94 ⟨Nat.le_of_ble_eq_true rfl, Nat.le_of_ble_eq_true rfl⟩) rfl hP hD hS [1, 2, 3, 4, 5, 6] rfl rfl rfl (fun H locs hP hD hS => ?_)
                have hP : va_P (dC, dI) vCl [(p0, .inr (0, [.ref pT, .ref pR, .ref pS, .ref pF, .ref h0, .ref pQ, .ref pG, .long tot, .int (bI pd), .int (bI gd)])), (pF, .inr (3, [.ref b1, .ref b2, .ref b3, .ref b4, .ref b5, .int (nI (fF_append_c0f5 x0 y0 x1 y1 hh fc q1 q2 q3 q4 q5))])), (b1, .inl (d1, 8, .inr (.inl (fF_append_a1 x0 y0 x1 y1 hh fc q1 q2 q3 q4 q5)))), (b2, .inl (d2, 8, .inr (.inl (fF_append_a2 x0 y0 x1 y1 hh fc q1 q2 q3 q4 q5)))), (b3, .inl (d3, 8, .inr (.inl (fF_append_a3 x0 y0 x1 y1 hh fc q1 q2 q3 q4 q5)))), (b4, .inl (d4, 8, .inr (.inl (fF_append_a4 x0 y0 x1 y1 hh fc q1 q2 q3 q4 q5)))), (b5, .inl (d5, 8, .inr (.inl (fF_append_a5 x0 y0 x1 y1 hh fc q1 q2 q3 q4 q5))))] H := hP
                have hD : va_D A [(p0, .inr (0, [.ref pT, .ref pR, .ref pS, .ref pF, .ref h0, .ref pQ, .ref pG, .long tot, .int (bI pd), .int (bI gd)])), (pF, .inr (3, [.ref b1, .ref b2, .ref b3, .ref b4, .ref b5, .int (nI (fF_append_c0f5 x0 y0 x1 y1 hh fc q1 q2 q3 q4 q5))])), (b1, .inl (d1, 8, .inr (.inl (fF_append_a1 x0 y0 x1 y1 hh fc q1 q2 q3 q4 q5)))), (b2, .inl (d2, 8, .inr (.inl (fF_append_a2 x0 y0 x1 y1 hh fc q1 q2 q3 q4 q5)))), (b3, .inl (d3, 8, .inr (.inl (fF_append_a3 x0 y0 x1 y1 hh fc q1 q2 q3 q4 q5)))), (b4, .inl (d4, 8, .inr (.inl (fF_append_a4 x0 y0 x1 y1 hh fc q1 q2 q3 q4 q5)))), (b5, .inl (d5, 8, .inr (.inl (fF_append_a5 x0 y0 x1 y1 hh fc q1 q2 q3 q4 q5))))] := hD
                exact W.zret (v := bI (fF_append x0 y0 x1 y1 hh fc q1 q2 q3 q4 q5)) hx hb hr (bI_n _) (fun t ht hW => ⟨by rw [show fP_floor tot pd gd x0 y0 x1 y1 hh fc q1 q2 q3 q4 q5 = (fF_append x0 y0 x1 y1 hh fc q1 q2 q3 q4 q5) from by unfold fP_floor; rw [if_pos c_1, if_pos c_2, if_pos c_3, if_pos c_4, if_neg c_5, if_pos c_6, if_pos c_7]], by rw [ht]; exact hP, by rw [hAe]; exact hS.F ht⟩) hS.2.2 dP_floor_97
              · skip
                exact absurd (hx9.symm.trans (show xP_floor tot pd gd x0 y0 x1 y1 hh fc q1 q2 q3 q4 q5 = 1 from by unfold xP_floor; rw [if_pos c_1, if_pos c_2, if_pos c_3, if_pos c_4, if_neg c_5, if_pos c_6, if_neg (Bool.eq_false_iff.mp c_7)])) (by decide)
            · skip
              exact absurd (hx9.symm.trans (show xP_floor tot pd gd x0 y0 x1 y1 hh fc q1 q2 q3 q4 q5 = 1 from by unfold xP_floor; rw [if_pos c_1, if_pos c_2, if_pos c_3, if_pos c_4, if_neg c_5, if_neg c_6])) (by decide)
        · skip
          exact absurd (hx9.symm.trans (show xP_floor tot pd gd x0 y0 x1 y1 hh fc q1 q2 q3 q4 q5 = 1 from by unfold xP_floor; rw [if_pos c_1, if_pos c_2, if_pos c_3, if_neg (Bool.eq_false_iff.mp c_4)])) (by decide)

set_option maxHeartbeats 4000000 in
set_option maxRecDepth 100000 in
theorem t_P_floor_IAE (l : Launch) (dC : Nat → ClassId) (dI : Nat → Nat → Nat) (p0 : Nat) (pT : Nat) (pR : Nat) (pS : Nat) (pF : Nat) (h0 : Nat) (pQ : Nat) (pG : Nat) (tot : Int64) (pd : Bool) (gd : Bool) (b1 : Nat) (b2 : Nat) (b3 : Nat) (b4 : Nat) (b5 : Nat) (d1 : ClassId) (d2 : ClassId) (d3 : ClassId) (d4 : ClassId) (d5 : ClassId) (x0 : Nat → Int64) (y0 : Nat → Int64) (x1 : Nat → Int64) (y1 : Nat → Int64) (hh : Nat → Int64) (fc : Nat) (q1 : Int64) (q2 : Int64) (q3 : Int64) (q4 : Int64) (q5 : Int64) (hf : fc ≤ 8) (hfl : l.stackTraces = false) (hx9 : xP_floor tot pd gd x0 y0 x1 y1 hh fc q1 q2 q3 q4 q5 = 1) : tw_Met l mP_floor wP_floor ({ frames := 6, cells := 1, slots := 6, locals := 82 }) (tp_T (dC, dI) vCl [.ref p0, .long q1, .long q2, .long q3, .long q4, .long q5] [(p0, .inr (0, [.ref pT, .ref pR, .ref pS, .ref pF, .ref h0, .ref pQ, .ref pG, .long tot, .int (bI pd), .int (bI gd)])), (pF, .inr (3, [.ref b1, .ref b2, .ref b3, .ref b4, .ref b5, .int (nI fc)])), (b1, .inl (d1, 8, .inr (.inl x0))), (b2, .inl (d2, 8, .inr (.inl y0))), (b3, .inl (d3, 8, .inr (.inl x1))), (b4, .inl (d4, 8, .inr (.inl y1))), (b5, .inl (d5, 8, .inr (.inl hh)))] [(d1, .long), (d2, .long), (d3, .long), (d4, .long), (d5, .long)]) "java/lang/IllegalArgumentException" := by
  refine tw_ofW (cc := bP_floor) (maxL := 11) (ret := (some .boolean)) (by decide) rfl ?_
  intro p e s m args below meth c s₁ B hml hne hv
  obtain ⟨rfl, hP, hK, hN, hZ⟩ := hv
  have hx := B.exec
  have hb := B.bytes
  have hr := B.returns
  have hts : ∀ w ∈ gT, w.before _ s = true := fun w h => atoms_spec (ws := wP_floor) B.pre w (List.mem_cons_of_mem _ h)
  have hown : s.vm.findClass RP = some m.cls := findClass_of_methodNamed B.named
  have hlocks := B.notSynchronized
  have hP : va_P (dC, dI) vCl [(p0, .inr (0, [.ref pT, .ref pR, .ref pS, .ref pF, .ref h0, .ref pQ, .ref pG, .long tot, .int (bI pd), .int (bI gd)])), (pF, .inr (3, [.ref b1, .ref b2, .ref b3, .ref b4, .ref b5, .int (nI fc)])), (b1, .inl (d1, 8, .inr (.inl x0))), (b2, .inl (d2, 8, .inr (.inl y0))), (b3, .inl (d3, 8, .inr (.inl x1))), (b4, .inl (d4, 8, .inr (.inl y1))), (b5, .inl (d5, 8, .inr (.inl hh)))] s.heap := hP
  have hl := lv_entry ([.ref p0, .long q1, .long q2, .long q3, .long q4, .long q5]) (n := 11) (Nat.le_of_ble_eq_true rfl)
  rw [lg_entry_eq]
  generalize (lg_sl ([.ref p0, .long q1, .long q2, .long q3, .long q4, .long q5]) ++ List.replicate (11 - (lg_sl ([.ref p0, .long q1, .long q2, .long q3, .long q4, .long q5])).length) Slot.unset).toArray = ls at hl ⊢
  have hl : lv_has ls 11 [(0, .ref p0), (1, .long q1), (3, .long q2), (5, .long q3), (7, .long q4), (9, .long q5)] := hl
  refine lv_lload_n hx hb dP_floor_0 rfl (lv_at hl 1 rfl) ?_
  refine tr_go (st1 := [.int (bI (fF_isPlace q1))]) (va_runS (As := [.long q1]) (rest := []) ⟨hx, hb, hml, hown, hts⟩ (c_F_isPlace l dC dI q1) ⟨cB 1 hts gw_482 gw_4 gw_480 ndF_isPlace rfl rfl ⟨Nat.le_of_ble_eq_true rfl, Nat.le_of_ble_eq_true rfl⟩, hts _ gw_481⟩ (tp_Rs hN hK hP [] [] rfl rfl) rfl rfl hl.1 rfl (lv_room (Nat.le_of_ble_eq_true rfl)) dP_floor_1 ⟨Nat.le_of_ble_eq_true rfl, Nat.le_of_ble_eq_true rfl⟩) rfl ?_
  refine tb_ifeq (tgt := 30) hx hb dP_floor_4 (by decide) (fun c_1 => ?_) (fun c_1 => ?_)
  · skip
    exact tw_new (E := "java/lang/IllegalArgumentException") hx hb hml hl.1 hfl hlocks hne hown (tz_lit (hZ.1 _ sw_9 rfl)) (hts _ gw_250) (hts _ gw_11) (own_IAE hts hN hZ) (by decide) (by decide) dP_floor_30 dP_floor_33 dP_floor_34 dP_floor_36 dP_floor_39 (Nat.le_of_ble_eq_true rfl) (Nat.le_of_ble_eq_true rfl) (Nat.le_of_ble_eq_true rfl) (Nat.le_of_ble_eq_true rfl)
  · skip
    refine lv_lload_n hx hb dP_floor_7 rfl (lv_at hl 2 rfl) ?_
    refine tr_go (st1 := [.int (bI (fF_isPlace q2))]) (va_runS (As := [.long q2]) (rest := []) ⟨hx, hb, hml, hown, hts⟩ (c_F_isPlace l dC dI q2) ⟨cB 1 hts gw_482 gw_4 gw_480 ndF_isPlace rfl rfl ⟨Nat.le_of_ble_eq_true rfl, Nat.le_of_ble_eq_true rfl⟩, hts _ gw_481⟩ (tp_Rs hN hK hP [] [] rfl rfl) rfl rfl hl.1 rfl (lv_room (Nat.le_of_ble_eq_true rfl)) dP_floor_8 ⟨Nat.le_of_ble_eq_true rfl, Nat.le_of_ble_eq_true rfl⟩) rfl ?_
    refine tb_ifeq (tgt := 30) hx hb dP_floor_11 (by decide) (fun c_2 => ?_) (fun c_2 => ?_)
    · skip
      exact tw_new (E := "java/lang/IllegalArgumentException") hx hb hml hl.1 hfl hlocks hne hown (tz_lit (hZ.1 _ sw_9 rfl)) (hts _ gw_250) (hts _ gw_11) (own_IAE hts hN hZ) (by decide) (by decide) dP_floor_30 dP_floor_33 dP_floor_34 dP_floor_36 dP_floor_39 (Nat.le_of_ble_eq_true rfl) (Nat.le_of_ble_eq_true rfl) (Nat.le_of_ble_eq_true rfl) (Nat.le_of_ble_eq_true rfl)
    · skip
      refine lv_lload hx hb dP_floor_14 (lv_at hl 3 rfl) ?_
      refine tr_go (st1 := [.int (bI (fF_isPlace q3))]) (va_runS (As := [.long q3]) (rest := []) ⟨hx, hb, hml, hown, hts⟩ (c_F_isPlace l dC dI q3) ⟨cB 1 hts gw_482 gw_4 gw_480 ndF_isPlace rfl rfl ⟨Nat.le_of_ble_eq_true rfl, Nat.le_of_ble_eq_true rfl⟩, hts _ gw_481⟩ (tp_Rs hN hK hP [] [] rfl rfl) rfl rfl hl.1 rfl (lv_room (Nat.le_of_ble_eq_true rfl)) dP_floor_16 ⟨Nat.le_of_ble_eq_true rfl, Nat.le_of_ble_eq_true rfl⟩) rfl ?_
      refine tb_ifeq (tgt := 30) hx hb dP_floor_19 (by decide) (fun c_3 => ?_) (fun c_3 => ?_)
      · skip
        exact tw_new (E := "java/lang/IllegalArgumentException") hx hb hml hl.1 hfl hlocks hne hown (tz_lit (hZ.1 _ sw_9 rfl)) (hts _ gw_250) (hts _ gw_11) (own_IAE hts hN hZ) (by decide) (by decide) dP_floor_30 dP_floor_33 dP_floor_34 dP_floor_36 dP_floor_39 (Nat.le_of_ble_eq_true rfl) (Nat.le_of_ble_eq_true rfl) (Nat.le_of_ble_eq_true rfl) (Nat.le_of_ble_eq_true rfl)
      · skip
        refine lv_lload hx hb dP_floor_22 (lv_at hl 4 rfl) ?_
        refine tr_go (st1 := [.int (bI (fF_isPlace q4))]) (va_runS (As := [.long q4]) (rest := []) ⟨hx, hb, hml, hown, hts⟩ (c_F_isPlace l dC dI q4) ⟨cB 1 hts gw_482 gw_4 gw_480 ndF_isPlace rfl rfl ⟨Nat.le_of_ble_eq_true rfl, Nat.le_of_ble_eq_true rfl⟩, hts _ gw_481⟩ (tp_Rs hN hK hP [] [] rfl rfl) rfl rfl hl.1 rfl (lv_room (Nat.le_of_ble_eq_true rfl)) dP_floor_24 ⟨Nat.le_of_ble_eq_true rfl, Nat.le_of_ble_eq_true rfl⟩) rfl ?_
        refine tb_ifne (tgt := 40) hx hb dP_floor_27 (by decide) (fun c_4 => ?_) (fun c_4 => ?_)
        · skip
          refine lv_lload hx hb dP_floor_40 (lv_at hl 3 rfl) ?_
          refine lv_lload_n hx hb dP_floor_42 rfl (lv_at hl 1 rfl) ?_
          refine tl_le (tgt := 54) hx hb dP_floor_43 dP_floor_44 (by decide) (fun c_5 => ?_) (fun c_5 => ?_)
          · skip
            exact tw_new (E := "java/lang/IllegalArgumentException") hx hb hml hl.1 hfl hlocks hne hown (tz_lit (hZ.1 _ sw_10 rfl)) (hts _ gw_250) (hts _ gw_11) (own_IAE hts hN hZ) (by decide) (by decide) dP_floor_54 dP_floor_57 dP_floor_58 dP_floor_60 dP_floor_63 (Nat.le_of_ble_eq_true rfl) (Nat.le_of_ble_eq_true rfl) (Nat.le_of_ble_eq_true rfl) (Nat.le_of_ble_eq_true rfl)
          · skip
            refine lv_lload hx hb dP_floor_47 (lv_at hl 4 rfl) ?_
            refine lv_lload_n hx hb dP_floor_49 rfl (lv_at hl 2 rfl) ?_
            refine tl_gt (tgt := 64) hx hb dP_floor_50 dP_floor_51 (by decide) (fun c_6 => ?_) (fun c_6 => ?_)
            · skip
              refine lv_lload hx hb dP_floor_64 (lv_at hl 5 rfl) ?_
              refine tr_go (st1 := [.int (bI (fF_isHeight q5))]) (va_runS (As := [.long q5]) (rest := []) ⟨hx, hb, hml, hown, hts⟩ (c_F_isHeight l dC dI q5) ⟨cB 1 hts gw_487 gw_4 gw_485 ndF_isHeight rfl rfl ⟨Nat.le_of_ble_eq_true rfl, Nat.le_of_ble_eq_true rfl⟩, hts _ gw_486⟩ (tp_Rs hN hK hP [] [] rfl rfl) rfl rfl hl.1 rfl (lv_room (Nat.le_of_ble_eq_true rfl)) dP_floor_66 ⟨Nat.le_of_ble_eq_true rfl, Nat.le_of_ble_eq_true rfl⟩) rfl ?_
              refine tb_ifne (tgt := 82) hx hb dP_floor_69 (by decide) (fun c_7 => ?_) (fun c_7 => ?_)
              · skip
                refine lv_aload_n hx hb dP_floor_82 rfl (lv_at hl 0 rfl) ?_
                refine va_get (D := (dC, dI)) (ci := 0) (v := .ref pF) (C := RP) (T := TP) (N := 10) hx hb hts inP hown hK hP 0 rfl rfl 3 (by decide) (hts _ gw_102) (fun _ h9 => h9) rfl dP_floor_83 ?_
                refine lv_lload_n hx hb dP_floor_86 rfl (lv_at hl 1 rfl) ?_
                refine lv_lload_n hx hb dP_floor_87 rfl (lv_at hl 2 rfl) ?_
                refine lv_lload hx hb dP_floor_88 (lv_at hl 3 rfl) ?_
                refine lv_lload hx hb dP_floor_90 (lv_at hl 4 rfl) ?_
                refine lv_lload hx hb dP_floor_92 (lv_at hl 5 rfl) ?_
                exact absurd (hx9.symm.trans (show xP_floor tot pd gd x0 y0 x1 y1 hh fc q1 q2 q3 q4 q5 = 0 from by unfold xP_floor; rw [if_pos c_1, if_pos c_2, if_pos c_3, if_pos c_4, if_neg c_5, if_pos c_6, if_pos c_7])) (by decide)
              · skip
                exact tw_new (E := "java/lang/IllegalArgumentException") hx hb hml hl.1 hfl hlocks hne hown (tz_lit (hZ.1 _ sw_11 rfl)) (hts _ gw_250) (hts _ gw_11) (own_IAE hts hN hZ) (by decide) (by decide) dP_floor_72 dP_floor_75 dP_floor_76 dP_floor_78 dP_floor_81 (Nat.le_of_ble_eq_true rfl) (Nat.le_of_ble_eq_true rfl) (Nat.le_of_ble_eq_true rfl) (Nat.le_of_ble_eq_true rfl)
            · skip
              exact tw_new (E := "java/lang/IllegalArgumentException") hx hb hml hl.1 hfl hlocks hne hown (tz_lit (hZ.1 _ sw_10 rfl)) (hts _ gw_250) (hts _ gw_11) (own_IAE hts hN hZ) (by decide) (by decide) dP_floor_54 dP_floor_57 dP_floor_58 dP_floor_60 dP_floor_63 (Nat.le_of_ble_eq_true rfl) (Nat.le_of_ble_eq_true rfl) (Nat.le_of_ble_eq_true rfl) (Nat.le_of_ble_eq_true rfl)
        · skip
          exact tw_new (E := "java/lang/IllegalArgumentException") hx hb hml hl.1 hfl hlocks hne hown (tz_lit (hZ.1 _ sw_9 rfl)) (hts _ gw_250) (hts _ gw_11) (own_IAE hts hN hZ) (by decide) (by decide) dP_floor_30 dP_floor_33 dP_floor_34 dP_floor_36 dP_floor_39 (Nat.le_of_ble_eq_true rfl) (Nat.le_of_ble_eq_true rfl) (Nat.le_of_ble_eq_true rfl) (Nat.le_of_ble_eq_true rfl)

def balL (len thick br : Int64) : Nat → Nat → Int32
  | 0, _ => (-1)
  | n + 1, k => if 0 ≤ len - (nI k).toInt64 * thick then (if br * (nI (k + 1)).toInt64 < len - (nI k).toInt64 * thick then balL len thick br n (k + 1) else nI k) else (-1)
def fP_few (len thick most : Int64) : Int32 := balL len thick (if len < most then len else most) 1001 0

set_option maxHeartbeats 4000000 in
set_option maxRecDepth 100000 in
theorem c_P_few (l : Launch) (dC : Nat → ClassId) (dI : Nat → Nat → Nat) (len : Int64) (thick : Int64) (most : Int64) : Met l mP_fewestBalusters wP_fewestBalusters ({ frames := 1, cells := 0, slots := 0, locals := 15 }) (tp_R (dC, dI) vCl [.long len, .long thick, .long most] [] []) (tq_R (some (.int (fP_few len thick most)))) 0 0 (fun _ => False) := by
  refine Met.ofW (cc := bP_fewestBalusters) (maxL := 11) (ret := (some .int)) (by decide) rfl ?_
  intro p e s m args below meth c s₁ B hml hv
  obtain ⟨rfl, hP, hK, hN⟩ := hv
  have hx := B.exec
  have hb := B.bytes
  have hr := B.returns
  have hts : ∀ w ∈ gT, w.before _ s = true := fun w h => atoms_spec (ws := wP_fewestBalusters) B.pre w (List.mem_cons_of_mem _ h)
  have hown : s.vm.findClass RP = some m.cls := findClass_of_methodNamed B.named
  have hlocks := B.notSynchronized
  have hP : va_P (dC, dI) vCl [] s.heap := hP
  have hl := lv_entry ([.long len, .long thick, .long most]) (n := 11) (Nat.le_of_ble_eq_true rfl)
  rw [lg_entry_eq]
  generalize (lg_sl ([.long len, .long thick, .long most]) ++ List.replicate (11 - (lg_sl ([.long len, .long thick, .long most])).length) Slot.unset).toArray = ls at hl ⊢
  have hl : lv_has ls 11 [(0, .long len), (2, .long thick), (4, .long most)] := hl
  have loop : ∀ (n : Nat) (k : Nat) (br : Int64) (hk : n + k = 1001) (hR : balL len thick br n k = fP_few len thick most) (ls : Array Slot), lv_has ls 11 [(8, .int (nI k)), (6, .long br), (4, .long most), (2, .long thick), (0, .long len)] → W p l e (headSpec wP_fewestBalusters ({ frames := 1, cells := 0, slots := 0, locals := 15 })).room s m ([.long len, .long thick, .long most] : List Value).toArray below meth c s.heap [] 0 0 (MQ below (tq_R (some (.int (fP_few len thick most)))) ([.long len, .long thick, .long most] : List Value).toArray s 0 0 (fun _ => False)) (F0 m 11 ls []) := by
    intro n
    induction n with
    | zero =>
      intro k br hk hR ls hl
      refine lv_iload hx hb dP_fewestBalusters_11 (lv_at hl 0 rfl) ?_
      refine lv_sipush (v := 1000) hx hb dP_fewestBalusters_13 (by decide) ?_
      refine lv_icmp_gt (tgt := 60) hx hb dP_fewestBalusters_16 (by decide) (fun c_1 => ?_) (fun c_1 => absurd (by rw [show k = 1001 by omega]; decide) c_1)
      refine lv_iconst (v := (-1)) hx hb dP_fewestBalusters_60 (by decide) ?_
      exact W.iret (v := (-1)) hx hb hr (fun t ht hW => ⟨by rw [← hR, balL], ht⟩) (fun q h => by cases h) dP_fewestBalusters_61
    | succ n ih =>
      intro k br hk hR ls hl
      refine lv_iload hx hb dP_fewestBalusters_11 (lv_at hl 0 rfl) ?_
      refine lv_sipush (v := 1000) hx hb dP_fewestBalusters_13 (by decide) ?_
      refine lv_icmp_gt (tgt := 60) hx hb dP_fewestBalusters_16 (by decide) (fun c_2 => absurd c_2 ((nI_nlt (by omega) (by decide) : ¬ nI 1000 < nI k))) (fun c_2 => ?_)
      refine lv_lload_n hx hb dP_fewestBalusters_19 rfl (lv_at hl 4 rfl) ?_
      refine lv_iload hx hb dP_fewestBalusters_20 (lv_at hl 0 rfl) ?_
      refine lv_i2l (v := (nI k).toInt64) hx hb dP_fewestBalusters_22 rfl ?_
      refine lv_lload_n hx hb dP_fewestBalusters_23 rfl (lv_at hl 3 rfl) ?_
      refine lv_lmul hx hb dP_fewestBalusters_24 ?_
      refine lv_lsub hx hb dP_fewestBalusters_25 ?_
      refine lv_lstore (lv' := [(9, .long (len - (((nI k).toInt64) * thick))), (8, .int (nI k)), (6, .long br), (4, .long most), (2, .long thick), (0, .long len)]) hx hb dP_fewestBalusters_26 hl (by decide) rfl (fun ls hl => ?_)
      refine lv_lload hx hb dP_fewestBalusters_28 (lv_at hl 0 rfl) ?_
      refine lv_lconst (v := 0) hx hb dP_fewestBalusters_30 (by decide) ?_
      refine tl_ge (tgt := 37) hx hb dP_fewestBalusters_31 dP_fewestBalusters_32 (by decide) (fun c_3 => ?_) (fun c_3 => ?_)
      · skip
        refine lv_lload hx hb dP_fewestBalusters_37 (lv_at hl 0 rfl) ?_
        refine lv_lload hx hb dP_fewestBalusters_39 (lv_at hl 2 rfl) ?_
        refine lv_iload hx hb dP_fewestBalusters_41 (lv_at hl 1 rfl) ?_
        refine lv_iconst (v := 1) hx hb dP_fewestBalusters_43 (by decide) ?_
        refine lv_iadd hx hb dP_fewestBalusters_44 ?_
        rw [nI_1 (k)]
        refine lv_i2l (v := (nI (k + 1)).toInt64) hx hb dP_fewestBalusters_45 rfl ?_
        refine lv_lmul hx hb dP_fewestBalusters_46 ?_
        refine tl_gt (tgt := 54) hx hb dP_fewestBalusters_47 dP_fewestBalusters_48 (by decide) (fun c_4 => ?_) (fun c_4 => ?_)
        · skip
          refine lv_iinc (v := nI (k + 1)) (lv' := [(8, .int (nI (k + 1))), (9, .long (len - (((nI k).toInt64) * thick))), (6, .long br), (4, .long most), (2, .long thick), (0, .long len)]) hx hb dP_fewestBalusters_54 hl (k := 1) rfl (by rw [nI_succ]; rfl) (by decide) rfl (fun ls hl => ?_)
          refine lv_goto (tgt := 11) hx hb dP_fewestBalusters_57 (by decide) ?_
          exact ih (k + 1) br (by omega) (by rw [balL, if_pos c_3, if_pos c_4] at hR; exact hR) ls (lv_sub hl [0, 2, 3, 4, 5] rfl)
        · skip
          refine lv_iload hx hb dP_fewestBalusters_51 (lv_at hl 1 rfl) ?_
          exact W.iret (v := nI k) hx hb hr (fun t ht hW => ⟨by rw [← hR, balL, if_pos c_3, if_neg c_4], ht⟩) (fun q h => by cases h) dP_fewestBalusters_53
      · skip
        refine lv_iconst (v := (-1)) hx hb dP_fewestBalusters_35 (by decide) ?_
        exact W.iret (v := (-1)) hx hb hr (fun t ht hW => ⟨by rw [← hR, balL, if_neg c_3], ht⟩) (fun q h => by cases h) dP_fewestBalusters_36
  refine lv_lload hx hb dP_fewestBalusters_0 (lv_at hl 2 rfl) ?_
  refine lv_lload_n hx hb dP_fewestBalusters_2 rfl (lv_at hl 0 rfl) ?_
  refine va_mmin_long hx hb (hml.trans hl.1.symm) hown (hts _ gw_551) (hts _ gw_444) (hts _ gw_14) (hts _ gw_445) (Nat.le_of_ble_eq_true rfl) (Nat.le_of_ble_eq_true rfl) (Nat.le_of_ble_eq_true rfl) (Nat.le_of_ble_eq_true rfl) dP_fewestBalusters_3 ?_
  refine lv_lstore (lv' := [(6, .long (if len < most then len else most)), (0, .long len), (2, .long thick), (4, .long most)]) hx hb dP_fewestBalusters_6 hl (by decide) rfl (fun ls hl => ?_)
  refine lv_iconst (v := 0) hx hb dP_fewestBalusters_8 (by decide) ?_
  refine lv_istore (lv' := [(8, .int 0), (6, .long (if len < most then len else most)), (0, .long len), (2, .long thick), (4, .long most)]) hx hb dP_fewestBalusters_9 hl (by decide) rfl (fun ls hl => ?_)
  exact loop 1001 0 (if len < most then len else most) rfl rfl ls (lv_sub hl [0, 1, 4, 3, 2] rfl)

def xP_balusters (tot : Int64) (pd : Bool) (gd : Bool) (kind : Int32) (rises : Int32) (total : Int64) (going : Int64) (width : Int64) (cf : Int32) (ct : Int32) (gn : Int64) (ge : Int64) (thick : Int64) (most : Int64) : Nat := if xP_requirePlan tot pd gd = 0 then (if thick < 1 then 2 else (if thick ≤ 1000 then (if 0 ≤ most then (if (fP_few (fA_along kind rises total going width cf ct) thick most) = (-1) then 0 else 0) else 2) else 2)) else 1

def fP_balusters_c0f9 (tot : Int64) (pd : Bool) (gd : Bool) (kind : Int32) (rises : Int32) (total : Int64) (going : Int64) (width : Int64) (cf : Int32) (ct : Int32) (gn : Int64) (ge : Int64) (thick : Int64) (most : Int64) : Bool := if xP_requirePlan tot pd gd = 0 then (if thick < 1 then gd else (if thick ≤ 1000 then (if 0 ≤ most then (if (fP_few (fA_along kind rises total going width cf ct) thick most) = (-1) then false else true) else gd) else gd)) else gd
def fP_balusters_c2f0 (tot : Int64) (pd : Bool) (gd : Bool) (kind : Int32) (rises : Int32) (total : Int64) (going : Int64) (width : Int64) (cf : Int32) (ct : Int32) (gn : Int64) (ge : Int64) (thick : Int64) (most : Int64) : Int64 := if xP_requirePlan tot pd gd = 0 then (if thick < 1 then gn else (if thick ≤ 1000 then (if 0 ≤ most then (if (fP_few (fA_along kind rises total going width cf ct) thick most) = (-1) then gn else (fQ_take_c0f0 gn ge ((fA_along kind rises total going width cf ct) - (((fP_few (fA_along kind rises total going width cf ct) thick most).toInt64) * thick)) (((fP_few (fA_along kind rises total going width cf ct) thick most) + 1).toInt64))) else gn) else gn)) else gn
def fP_balusters_c2f1 (tot : Int64) (pd : Bool) (gd : Bool) (kind : Int32) (rises : Int32) (total : Int64) (going : Int64) (width : Int64) (cf : Int32) (ct : Int32) (gn : Int64) (ge : Int64) (thick : Int64) (most : Int64) : Int64 := if xP_requirePlan tot pd gd = 0 then (if thick < 1 then ge else (if thick ≤ 1000 then (if 0 ≤ most then (if (fP_few (fA_along kind rises total going width cf ct) thick most) = (-1) then ge else (fQ_take_c0f1 gn ge ((fA_along kind rises total going width cf ct) - (((fP_few (fA_along kind rises total going width cf ct) thick most).toInt64) * thick)) (((fP_few (fA_along kind rises total going width cf ct) thick most) + 1).toInt64))) else ge) else ge)) else ge
def fP_balusters (tot : Int64) (pd : Bool) (gd : Bool) (kind : Int32) (rises : Int32) (total : Int64) (going : Int64) (width : Int64) (cf : Int32) (ct : Int32) (gn : Int64) (ge : Int64) (thick : Int64) (most : Int64) : Int32 := if xP_requirePlan tot pd gd = 0 then (if thick < 1 then 0 else (if thick ≤ 1000 then (if 0 ≤ most then (if (fP_few (fA_along kind rises total going width cf ct) thick most) = (-1) then (fP_few (fA_along kind rises total going width cf ct) thick most) else (fP_few (fA_along kind rises total going width cf ct) thick most)) else 0) else 0)) else 0
set_option maxHeartbeats 4000000 in
set_option maxRecDepth 100000 in
theorem c_P_balusters (l : Launch) (dC : Nat → ClassId) (dI : Nat → Nat → Nat) (p0 : Nat) (pT : Nat) (pR : Nat) (pS : Nat) (pF : Nat) (h0 : Nat) (pQ : Nat) (pG : Nat) (tot : Int64) (pd : Bool) (gd : Bool) (kind : Int32) (rises : Int32) (total : Int64) (going : Int64) (width : Int64) (cf : Int32) (ct : Int32) (gn : Int64) (ge : Int64) (thick : Int64) (most : Int64) (hx9 : xP_balusters tot pd gd kind rises total going width cf ct gn ge thick most = 0) : Met l mP_balusters wP_balusters ({ frames := 2, cells := 0, slots := 0, locals := 56 }) (tp_W (dC, dI) vCl [.ref p0, .long thick, .long most] [(p0, .inr (0, [.ref pT, .ref pR, .ref pS, .ref pF, .ref h0, .ref pQ, .ref pG, .long tot, .int (bI pd), .int (bI gd)])), (h0, .inr (4, [.int kind, .int rises, .long total, .long going, .long width, .int cf, .int ct])), (pG, .inr (5, [.long gn, .long ge]))] []) (tq_W (dC, dI) vCl (some (.int (fP_balusters tot pd gd kind rises total going width cf ct gn ge thick most))) [(p0, .inr (0, [.ref pT, .ref pR, .ref pS, .ref pF, .ref h0, .ref pQ, .ref pG, .long tot, .int (bI pd), .int (bI gd)])), (h0, .inr (4, [.int kind, .int rises, .long total, .long going, .long width, .int cf, .int ct])), (pG, .inr (5, [.long gn, .long ge]))] [(p0, .inr (0, [.ref pT, .ref pR, .ref pS, .ref pF, .ref h0, .ref pQ, .ref pG, .long tot, .int (bI pd), .int (bI (fP_balusters_c0f9 tot pd gd kind rises total going width cf ct gn ge thick most))])), (h0, .inr (4, [.int kind, .int rises, .long total, .long going, .long width, .int cf, .int ct])), (pG, .inr (5, [.long (fP_balusters_c2f0 tot pd gd kind rises total going width cf ct gn ge thick most), .long (fP_balusters_c2f1 tot pd gd kind rises total going width cf ct gn ge thick most)]))]) 0 0 (tA [(p0, .inr (0, [.ref pT, .ref pR, .ref pS, .ref pF, .ref h0, .ref pQ, .ref pG, .long tot, .int (bI pd), .int (bI gd)])), (h0, .inr (4, [.int kind, .int rises, .long total, .long going, .long width, .int cf, .int ct])), (pG, .inr (5, [.long gn, .long ge]))]) := by
  refine Met.ofW (cc := bP_balusters) (maxL := 8) (ret := (some .int)) (by decide) rfl ?_
  intro p e s m args below meth c s₁ B hml hv
  obtain ⟨rfl, hP, hK, hN, hD0⟩ := hv
  have hx := B.exec
  have hb := B.bytes
  have hr := B.returns
  have hts : ∀ w ∈ gT, w.before _ s = true := fun w h => atoms_spec (ws := wP_balusters) B.pre w (List.mem_cons_of_mem _ h)
  have hown : s.vm.findClass RP = some m.cls := findClass_of_methodNamed B.named
  have hlocks := B.notSynchronized
  have hD := tA_D hD0
  generalize hAe : tA [(p0, .inr (0, [.ref pT, .ref pR, .ref pS, .ref pF, .ref h0, .ref pQ, .ref pG, .long tot, .int (bI pd), .int (bI gd)])), (h0, .inr (4, [.int kind, .int rises, .long total, .long going, .long width, .int cf, .int ct])), (pG, .inr (5, [.long gn, .long ge]))] = A at hD ⊢
  have hS : va_S A s.heap s.heap [] := va_S.rf
  have hP : va_P (dC, dI) vCl [(p0, .inr (0, [.ref pT, .ref pR, .ref pS, .ref pF, .ref h0, .ref pQ, .ref pG, .long tot, .int (bI pd), .int (bI gd)])), (h0, .inr (4, [.int kind, .int rises, .long total, .long going, .long width, .int cf, .int ct])), (pG, .inr (5, [.long gn, .long ge]))] s.heap := hP
  have hl := lv_entry ([.ref p0, .long thick, .long most]) (n := 8) (Nat.le_of_ble_eq_true rfl)
  rw [lg_entry_eq]
  generalize (lg_sl ([.ref p0, .long thick, .long most]) ++ List.replicate (8 - (lg_sl ([.ref p0, .long thick, .long most])).length) Slot.unset).toArray = ls at hl ⊢
  have hl : lv_has ls 8 [(0, .ref p0), (1, .long thick), (3, .long most)] := hl
  refine lv_aload_n hx hb dP_balusters_0 rfl (lv_at hl 0 rfl) ?_
  by_cases c_1 : xP_requirePlan tot pd gd = 0
  · skip
    refine tr_go (st1 := []) (va_runV (As := []) (rest := []) (C := RP) ⟨hx, hb, hml, hown, hts⟩ (c_P_requirePlan l dC dI p0 pT pR pS pF h0 pQ pG tot pd gd c_1) ⟨cB 0 hts gw_373 gw_1 gw_371 ndP_requirePlan rfl rfl ⟨Nat.le_of_ble_eq_true rfl, Nat.le_of_ble_eq_true rfl⟩, hts _ gw_372, hts _ gw_750⟩ (tp_Rv hN hK hP [0] [] rfl rfl (q0 := 0) (ci := 0) rfl rfl) rfl rfl hl.1 rfl (lv_room (Nat.le_of_ble_eq_true rfl)) dP_balusters_1 ⟨Nat.le_of_ble_eq_true rfl, Nat.le_of_ble_eq_true rfl⟩) rfl ?_
    refine lv_lload_n hx hb dP_balusters_4 rfl (lv_at hl 1 rfl) ?_
    refine lv_lconst (v := 1) hx hb dP_balusters_5 (by decide) ?_
    refine tl_lt (tgt := 18) hx hb dP_balusters_6 dP_balusters_7 (by decide) (fun c_2 => ?_) (fun c_2 => ?_)
    · skip
      exact absurd (hx9.symm.trans (show xP_balusters tot pd gd kind rises total going width cf ct gn ge thick most = 2 from by unfold xP_balusters; rw [if_pos c_1, if_pos c_2])) (by decide)
    · skip
      refine lv_lload_n hx hb dP_balusters_10 rfl (lv_at hl 1 rfl) ?_
      refine lv_ldc2 (v := 1000) hx hb hown (hts _ gw_546) dP_balusters_11 ?_
      refine tl_le (tgt := 28) hx hb dP_balusters_14 dP_balusters_15 (by decide) (fun c_3 => ?_) (fun c_3 => ?_)
      · skip
        refine lv_lload_n hx hb dP_balusters_28 rfl (lv_at hl 2 rfl) ?_
        refine lv_lconst (v := 0) hx hb dP_balusters_29 (by decide) ?_
        refine tl_ge (tgt := 44) hx hb dP_balusters_30 dP_balusters_31 (by decide) (fun c_4 => ?_) (fun c_4 => ?_)
        · skip
          refine lv_aload_n hx hb dP_balusters_44 rfl (lv_at hl 0 rfl) ?_
          refine va_get (D := (dC, dI)) (ci := 0) (v := .ref h0) (C := RP) (T := TP) (N := 10) hx hb hts inP hown hK hP 0 rfl rfl 4 (by decide) (hts _ gw_103) (fun _ h9 => h9) rfl dP_balusters_45 ?_
          refine tr_go (st1 := [.long (fA_along kind rises total going width cf ct)]) (va_runV (As := []) (rest := []) (C := RA) ⟨hx, hb, hml, hown, hts⟩ (c_A_along l dC dI h0 kind rises total going width cf ct) ⟨cB 0 hts gw_531 gw_5 gw_547 ndA_along rfl rfl ⟨Nat.le_of_ble_eq_true rfl, Nat.le_of_ble_eq_true rfl⟩, hts _ gw_529, hts _ gw_530⟩ (tp_Rv hN hK hP [1] [] rfl rfl (q0 := 1) (ci := 4) rfl rfl) rfl rfl hl.1 rfl (lv_room (Nat.le_of_ble_eq_true rfl)) dP_balusters_48 ⟨Nat.le_of_ble_eq_true rfl, Nat.le_of_ble_eq_true rfl⟩) rfl ?_
          refine lv_lstore (lv' := [(5, .long (fA_along kind rises total going width cf ct)), (0, .ref p0), (1, .long thick), (3, .long most)]) hx hb dP_balusters_51 hl (by decide) rfl (fun ls hl => ?_)
          refine lv_lload hx hb dP_balusters_53 (lv_at hl 0 rfl) ?_
          refine lv_lload_n hx hb dP_balusters_55 rfl (lv_at hl 2 rfl) ?_
          refine lv_lload_n hx hb dP_balusters_56 rfl (lv_at hl 3 rfl) ?_
          refine tr_go (st1 := [.int (fP_few (fA_along kind rises total going width cf ct) thick most)]) (va_runS (As := [.long (fA_along kind rises total going width cf ct), .long thick, .long most]) (rest := []) ⟨hx, hb, hml, hown, hts⟩ (c_P_few l dC dI (fA_along kind rises total going width cf ct) thick most) ⟨cB 3 hts gw_550 gw_1 gw_548 ndP_fewestBalusters rfl rfl ⟨Nat.le_of_ble_eq_true rfl, Nat.le_of_ble_eq_true rfl⟩, hts _ gw_549⟩ (tp_Rs hN hK hP [] [] rfl rfl) rfl rfl hl.1 rfl (lv_room (Nat.le_of_ble_eq_true rfl)) dP_balusters_57 ⟨Nat.le_of_ble_eq_true rfl, Nat.le_of_ble_eq_true rfl⟩) rfl ?_
          refine lv_istore (lv' := [(7, .int (fP_few (fA_along kind rises total going width cf ct) thick most)), (5, .long (fA_along kind rises total going width cf ct)), (0, .ref p0), (1, .long thick), (3, .long most)]) hx hb dP_balusters_60 hl (by decide) rfl (fun ls hl => ?_)
          refine lv_aload_n hx hb dP_balusters_62 rfl (lv_at hl 2 rfl) ?_
          refine lv_iload hx hb dP_balusters_63 (lv_at hl 0 rfl) ?_
          refine lv_iconst (v := (-1)) hx hb dP_balusters_65 (by decide) ?_
          refine lv_icmp_eq (tgt := 73) hx hb dP_balusters_66 (by decide) (fun c_5 => ?_) (fun c_5 => ?_)
          · skip
            refine lv_iconst (v := 0) hx hb dP_balusters_73 (by decide) ?_
            refine va_put (D := (dC, dI)) (ci := 0) (v := .int 0) (ty := .boolean) (C := RP) (T := TP) (N := 10) hx hb hts inP yP yoP noP hown hK hP hD hS 0 rfl rfl 9 (by decide) (hts _ gw_108) (fun _ h9 => h9) rfl (by decide +kernel) rfl rfl (Nat.le_of_ble_eq_true rfl) dP_balusters_74 (fun H locs hP hD hS => ?_)
            have hP : va_P (dC, dI) vCl [(p0, .inr (0, [.ref pT, .ref pR, .ref pS, .ref pF, .ref h0, .ref pQ, .ref pG, .long tot, .int (bI pd), .int 0])), (h0, .inr (4, [.int kind, .int rises, .long total, .long going, .long width, .int cf, .int ct])), (pG, .inr (5, [.long gn, .long ge]))] H := hP
            have hD : va_D A [(p0, .inr (0, [.ref pT, .ref pR, .ref pS, .ref pF, .ref h0, .ref pQ, .ref pG, .long tot, .int (bI pd), .int 0])), (h0, .inr (4, [.int kind, .int rises, .long total, .long going, .long width, .int cf, .int ct])), (pG, .inr (5, [.long gn, .long ge]))] := hD
            refine lv_aload_n hx hb dP_balusters_77 rfl (lv_at hl 2 rfl) ?_
            refine va_get (D := (dC, dI)) (ci := 0) (v := .int 0) (C := RP) (T := TP) (N := 10) hx hb hts inP hown hK hP 0 rfl rfl 9 (by decide) (hts _ gw_108) (fun _ h9 => h9) rfl dP_balusters_78 ?_
            refine lv_if_eq (tgt := 104) hx hb dP_balusters_81 (by decide) (fun c_6 => ?_) (fun c_6 => absurd (by decide) c_6)
            refine lv_iload hx hb dP_balusters_104 (lv_at hl 0 rfl) ?_
            exact W.iret (v := fP_few (fA_along kind rises total going width cf ct) thick most) hx hb hr (fun t ht hW => ⟨by rw [show fP_balusters tot pd gd kind rises total going width cf ct gn ge thick most = fP_few (fA_along kind rises total going width cf ct) thick most from by unfold fP_balusters; rw [if_pos c_1, if_neg c_2, if_pos c_3, if_pos c_4, if_pos c_5]], by rw [ht, show fP_balusters_c0f9 tot pd gd kind rises total going width cf ct gn ge thick most = false from by unfold fP_balusters_c0f9; rw [if_pos c_1, if_neg c_2, if_pos c_3, if_pos c_4, if_pos c_5], show fP_balusters_c2f0 tot pd gd kind rises total going width cf ct gn ge thick most = gn from by unfold fP_balusters_c2f0; rw [if_pos c_1, if_neg c_2, if_pos c_3, if_pos c_4, if_pos c_5], show fP_balusters_c2f1 tot pd gd kind rises total going width cf ct gn ge thick most = ge from by unfold fP_balusters_c2f1; rw [if_pos c_1, if_neg c_2, if_pos c_3, if_pos c_4, if_pos c_5]]; exact hP, by rw [hAe]; exact hS.F ht⟩) hS.2.2 dP_balusters_106
          · skip
            refine lv_iconst (v := 1) hx hb dP_balusters_69 (by decide) ?_
            refine lv_goto (tgt := 74) hx hb dP_balusters_70 (by decide) ?_
            refine va_put (D := (dC, dI)) (ci := 0) (v := .int 1) (ty := .boolean) (C := RP) (T := TP) (N := 10) hx hb hts inP yP yoP noP hown hK hP hD hS 0 rfl rfl 9 (by decide) (hts _ gw_108) (fun _ h9 => h9) rfl (by decide +kernel) rfl rfl (Nat.le_of_ble_eq_true rfl) dP_balusters_74 (fun H locs hP hD hS => ?_)
            have hP : va_P (dC, dI) vCl [(p0, .inr (0, [.ref pT, .ref pR, .ref pS, .ref pF, .ref h0, .ref pQ, .ref pG, .long tot, .int (bI pd), .int 1])), (h0, .inr (4, [.int kind, .int rises, .long total, .long going, .long width, .int cf, .int ct])), (pG, .inr (5, [.long gn, .long ge]))] H := hP
            have hD : va_D A [(p0, .inr (0, [.ref pT, .ref pR, .ref pS, .ref pF, .ref h0, .ref pQ, .ref pG, .long tot, .int (bI pd), .int 1])), (h0, .inr (4, [.int kind, .int rises, .long total, .long going, .long width, .int cf, .int ct])), (pG, .inr (5, [.long gn, .long ge]))] := hD
            refine lv_aload_n hx hb dP_balusters_77 rfl (lv_at hl 2 rfl) ?_
            refine va_get (D := (dC, dI)) (ci := 0) (v := .int 1) (C := RP) (T := TP) (N := 10) hx hb hts inP hown hK hP 0 rfl rfl 9 (by decide) (hts _ gw_108) (fun _ h9 => h9) rfl dP_balusters_78 ?_
            refine lv_if_eq (tgt := 104) hx hb dP_balusters_81 (by decide) (fun c_7 => absurd c_7 (by decide)) (fun c_7 => ?_)
            refine lv_aload_n hx hb dP_balusters_84 rfl (lv_at hl 2 rfl) ?_
            refine va_get (D := (dC, dI)) (ci := 0) (v := .ref pG) (C := RP) (T := TP) (N := 10) hx hb hts inP hown hK hP 0 rfl rfl 6 (by decide) (hts _ gw_105) (fun _ h9 => h9) rfl dP_balusters_85 ?_
            refine lv_lload hx hb dP_balusters_88 (lv_at hl 1 rfl) ?_
            refine lv_iload hx hb dP_balusters_90 (lv_at hl 0 rfl) ?_
            refine lv_i2l (v := (fP_few (fA_along kind rises total going width cf ct) thick most).toInt64) hx hb dP_balusters_92 rfl ?_
            refine lv_lload_n hx hb dP_balusters_93 rfl (lv_at hl 3 rfl) ?_
            refine lv_lmul hx hb dP_balusters_94 ?_
            refine lv_lsub hx hb dP_balusters_95 ?_
            refine lv_iload hx hb dP_balusters_96 (lv_at hl 0 rfl) ?_
            refine lv_iconst (v := 1) hx hb dP_balusters_98 (by decide) ?_
            refine lv_iadd hx hb dP_balusters_99 ?_
            refine lv_i2l (v := ((fP_few (fA_along kind rises total going width cf ct) thick most) + 1).toInt64) hx hb dP_balusters_100 rfl ?_
            refine tc_go (st1 := []) (ws' := [(p0, .inr (0, [.ref pT, .ref pR, .ref pS, .ref pF, .ref h0, .ref pQ, .ref pG, .long tot, .int (bI pd), .int 1])), (h0, .inr (4, [.int kind, .int rises, .long total, .long going, .long width, .int cf, .int ct])), (pG, .inr (5, [.long (fQ_take_c0f0 gn ge ((fA_along kind rises total going width cf ct) - (((fP_few (fA_along kind rises total going width cf ct) thick most).toInt64) * thick)) (((fP_few (fA_along kind rises total going width cf ct) thick most) + 1).toInt64)), .long (fQ_take_c0f1 gn ge ((fA_along kind rises total going width cf ct) - (((fP_few (fA_along kind rises total going width cf ct) thick most).toInt64) * thick)) (((fP_few (fA_along kind rises total going width cf ct) thick most) + 1).toInt64))]))]) (va_runV (As := [.long ((fA_along kind rises total going width cf ct) - (((fP_few (fA_along kind rises total going width cf ct) thick most).toInt64) * thick)), .long (((fP_few (fA_along kind rises total going width cf ct) thick most) + 1).toInt64)]) (rest := []) (C := RQ) ⟨hx, hb, hml, hown, hts⟩ (c_Q_take l dC dI pG gn ge ((fA_along kind rises total going width cf ct) - (((fP_few (fA_along kind rises total going width cf ct) thick most).toInt64) * thick)) (((fP_few (fA_along kind rises total going width cf ct) thick most) + 1).toInt64)) ⟨cB 2 hts gw_358 gw_6 gw_355 ndQ_take rfl rfl ⟨Nat.le_of_ble_eq_true rfl, Nat.le_of_ble_eq_true rfl⟩, hts _ gw_356, hts _ gw_357⟩ (tp_Wv hN hK hP hD [2] [] rfl (by decide) rfl (q0 := 2) (ci := 5) rfl rfl) rfl rfl hl.1 rfl (lv_room (Nat.le_of_ble_eq_true rfl)) dP_balusters_101 ⟨Nat.le_of_ble_eq_true rfl, Nat.le_of_ble_eq_true rfl⟩) rfl hP hD hS [2] rfl rfl rfl (fun H locs hP hD hS => ?_)
            have hP : va_P (dC, dI) vCl [(p0, .inr (0, [.ref pT, .ref pR, .ref pS, .ref pF, .ref h0, .ref pQ, .ref pG, .long tot, .int (bI pd), .int 1])), (h0, .inr (4, [.int kind, .int rises, .long total, .long going, .long width, .int cf, .int ct])), (pG, .inr (5, [.long (fQ_take_c0f0 gn ge ((fA_along kind rises total going width cf ct) - (((fP_few (fA_along kind rises total going width cf ct) thick most).toInt64) * thick)) (((fP_few (fA_along kind rises total going width cf ct) thick most) + 1).toInt64)), .long (fQ_take_c0f1 gn ge ((fA_along kind rises total going width cf ct) - (((fP_few (fA_along kind rises total going width cf ct) thick most).toInt64) * thick)) (((fP_few (fA_along kind rises total going width cf ct) thick most) + 1).toInt64))]))] H := hP
            have hD : va_D A [(p0, .inr (0, [.ref pT, .ref pR, .ref pS, .ref pF, .ref h0, .ref pQ, .ref pG, .long tot, .int (bI pd), .int 1])), (h0, .inr (4, [.int kind, .int rises, .long total, .long going, .long width, .int cf, .int ct])), (pG, .inr (5, [.long (fQ_take_c0f0 gn ge ((fA_along kind rises total going width cf ct) - (((fP_few (fA_along kind rises total going width cf ct) thick most).toInt64) * thick)) (((fP_few (fA_along kind rises total going width cf ct) thick most) + 1).toInt64)), .long (fQ_take_c0f1 gn ge ((fA_along kind rises total going width cf ct) - (((fP_few (fA_along kind rises total going width cf ct) thick most).toInt64) * thick)) (((fP_few (fA_along kind rises total going width cf ct) thick most) + 1).toInt64))]))] := hD
            refine lv_iload hx hb dP_balusters_104 (lv_at hl 0 rfl) ?_
            exact W.iret (v := fP_few (fA_along kind rises total going width cf ct) thick most) hx hb hr (fun t ht hW => ⟨by rw [show fP_balusters tot pd gd kind rises total going width cf ct gn ge thick most = fP_few (fA_along kind rises total going width cf ct) thick most from by unfold fP_balusters; rw [if_pos c_1, if_neg c_2, if_pos c_3, if_pos c_4, if_neg c_5]], by rw [ht, show fP_balusters_c0f9 tot pd gd kind rises total going width cf ct gn ge thick most = true from by unfold fP_balusters_c0f9; rw [if_pos c_1, if_neg c_2, if_pos c_3, if_pos c_4, if_neg c_5], show fP_balusters_c2f0 tot pd gd kind rises total going width cf ct gn ge thick most = fQ_take_c0f0 gn ge ((fA_along kind rises total going width cf ct) - (((fP_few (fA_along kind rises total going width cf ct) thick most).toInt64) * thick)) (((fP_few (fA_along kind rises total going width cf ct) thick most) + 1).toInt64) from by unfold fP_balusters_c2f0; rw [if_pos c_1, if_neg c_2, if_pos c_3, if_pos c_4, if_neg c_5], show fP_balusters_c2f1 tot pd gd kind rises total going width cf ct gn ge thick most = fQ_take_c0f1 gn ge ((fA_along kind rises total going width cf ct) - (((fP_few (fA_along kind rises total going width cf ct) thick most).toInt64) * thick)) (((fP_few (fA_along kind rises total going width cf ct) thick most) + 1).toInt64) from by unfold fP_balusters_c2f1; rw [if_pos c_1, if_neg c_2, if_pos c_3, if_pos c_4, if_neg c_5]]; exact hP, by rw [hAe]; exact hS.F ht⟩) hS.2.2 dP_balusters_106
        · skip
          exact absurd (hx9.symm.trans (show xP_balusters tot pd gd kind rises total going width cf ct gn ge thick most = 2 from by unfold xP_balusters; rw [if_pos c_1, if_neg c_2, if_pos c_3, if_neg c_4])) (by decide)
      · skip
        exact absurd (hx9.symm.trans (show xP_balusters tot pd gd kind rises total going width cf ct gn ge thick most = 2 from by unfold xP_balusters; rw [if_pos c_1, if_neg c_2, if_neg c_3])) (by decide)
  · skip
    exact absurd (hx9.symm.trans (show xP_balusters tot pd gd kind rises total going width cf ct gn ge thick most = 1 from by unfold xP_balusters; rw [if_neg c_1])) (by decide)

set_option maxHeartbeats 4000000 in
set_option maxRecDepth 100000 in
theorem t_P_balusters_ISE (l : Launch) (dC : Nat → ClassId) (dI : Nat → Nat → Nat) (p0 : Nat) (pT : Nat) (pR : Nat) (pS : Nat) (pF : Nat) (h0 : Nat) (pQ : Nat) (pG : Nat) (tot : Int64) (pd : Bool) (gd : Bool) (kind : Int32) (rises : Int32) (total : Int64) (going : Int64) (width : Int64) (cf : Int32) (ct : Int32) (gn : Int64) (ge : Int64) (thick : Int64) (most : Int64) (hfl : l.stackTraces = false) (hx9 : xP_balusters tot pd gd kind rises total going width cf ct gn ge thick most = 1) : tw_Met l mP_balusters wP_balusters ({ frames := 7, cells := 1, slots := 6, locals := 102 }) (tp_T (dC, dI) vCl [.ref p0, .long thick, .long most] [(p0, .inr (0, [.ref pT, .ref pR, .ref pS, .ref pF, .ref h0, .ref pQ, .ref pG, .long tot, .int (bI pd), .int (bI gd)])), (h0, .inr (4, [.int kind, .int rises, .long total, .long going, .long width, .int cf, .int ct])), (pG, .inr (5, [.long gn, .long ge]))] []) "java/lang/IllegalStateException" := by
  refine tw_ofW (cc := bP_balusters) (maxL := 8) (ret := (some .int)) (by decide) rfl ?_
  intro p e s m args below meth c s₁ B hml hne hv
  obtain ⟨rfl, hP, hK, hN, hZ⟩ := hv
  have hx := B.exec
  have hb := B.bytes
  have hr := B.returns
  have hts : ∀ w ∈ gT, w.before _ s = true := fun w h => atoms_spec (ws := wP_balusters) B.pre w (List.mem_cons_of_mem _ h)
  have hown : s.vm.findClass RP = some m.cls := findClass_of_methodNamed B.named
  have hlocks := B.notSynchronized
  have hP : va_P (dC, dI) vCl [(p0, .inr (0, [.ref pT, .ref pR, .ref pS, .ref pF, .ref h0, .ref pQ, .ref pG, .long tot, .int (bI pd), .int (bI gd)])), (h0, .inr (4, [.int kind, .int rises, .long total, .long going, .long width, .int cf, .int ct])), (pG, .inr (5, [.long gn, .long ge]))] s.heap := hP
  have hl := lv_entry ([.ref p0, .long thick, .long most]) (n := 8) (Nat.le_of_ble_eq_true rfl)
  rw [lg_entry_eq]
  generalize (lg_sl ([.ref p0, .long thick, .long most]) ++ List.replicate (8 - (lg_sl ([.ref p0, .long thick, .long most])).length) Slot.unset).toArray = ls at hl ⊢
  have hl : lv_has ls 8 [(0, .ref p0), (1, .long thick), (3, .long most)] := hl
  refine lv_aload_n hx hb dP_balusters_0 rfl (lv_at hl 0 rfl) ?_
  by_cases c_1 : xP_requirePlan tot pd gd = 0
  · skip
    refine tr_go (st1 := []) (va_runV (As := []) (rest := []) (C := RP) ⟨hx, hb, hml, hown, hts⟩ (c_P_requirePlan l dC dI p0 pT pR pS pF h0 pQ pG tot pd gd c_1) ⟨cB 0 hts gw_373 gw_1 gw_371 ndP_requirePlan rfl rfl ⟨Nat.le_of_ble_eq_true rfl, Nat.le_of_ble_eq_true rfl⟩, hts _ gw_372, hts _ gw_750⟩ (tp_Rv hN hK hP [0] [] rfl rfl (q0 := 0) (ci := 0) rfl rfl) rfl rfl hl.1 rfl (lv_room (Nat.le_of_ble_eq_true rfl)) dP_balusters_1 ⟨Nat.le_of_ble_eq_true rfl, Nat.le_of_ble_eq_true rfl⟩) rfl ?_
    refine lv_lload_n hx hb dP_balusters_4 rfl (lv_at hl 1 rfl) ?_
    refine lv_lconst (v := 1) hx hb dP_balusters_5 (by decide) ?_
    refine tl_lt (tgt := 18) hx hb dP_balusters_6 dP_balusters_7 (by decide) (fun c_2 => ?_) (fun c_2 => ?_)
    · skip
      exact absurd (hx9.symm.trans (show xP_balusters tot pd gd kind rises total going width cf ct gn ge thick most = 2 from by unfold xP_balusters; rw [if_pos c_1, if_pos c_2])) (by decide)
    · skip
      refine lv_lload_n hx hb dP_balusters_10 rfl (lv_at hl 1 rfl) ?_
      refine lv_ldc2 (v := 1000) hx hb hown (hts _ gw_546) dP_balusters_11 ?_
      refine tl_le (tgt := 28) hx hb dP_balusters_14 dP_balusters_15 (by decide) (fun c_3 => ?_) (fun c_3 => ?_)
      · skip
        refine lv_lload_n hx hb dP_balusters_28 rfl (lv_at hl 2 rfl) ?_
        refine lv_lconst (v := 0) hx hb dP_balusters_29 (by decide) ?_
        refine tl_ge (tgt := 44) hx hb dP_balusters_30 dP_balusters_31 (by decide) (fun c_4 => ?_) (fun c_4 => ?_)
        · skip
          refine lv_aload_n hx hb dP_balusters_44 rfl (lv_at hl 0 rfl) ?_
          refine va_get (D := (dC, dI)) (ci := 0) (v := .ref h0) (C := RP) (T := TP) (N := 10) hx hb hts inP hown hK hP 0 rfl rfl 4 (by decide) (hts _ gw_103) (fun _ h9 => h9) rfl dP_balusters_45 ?_
          refine tr_go (st1 := [.long (fA_along kind rises total going width cf ct)]) (va_runV (As := []) (rest := []) (C := RA) ⟨hx, hb, hml, hown, hts⟩ (c_A_along l dC dI h0 kind rises total going width cf ct) ⟨cB 0 hts gw_531 gw_5 gw_547 ndA_along rfl rfl ⟨Nat.le_of_ble_eq_true rfl, Nat.le_of_ble_eq_true rfl⟩, hts _ gw_529, hts _ gw_530⟩ (tp_Rv hN hK hP [1] [] rfl rfl (q0 := 1) (ci := 4) rfl rfl) rfl rfl hl.1 rfl (lv_room (Nat.le_of_ble_eq_true rfl)) dP_balusters_48 ⟨Nat.le_of_ble_eq_true rfl, Nat.le_of_ble_eq_true rfl⟩) rfl ?_
          refine lv_lstore (lv' := [(5, .long (fA_along kind rises total going width cf ct)), (0, .ref p0), (1, .long thick), (3, .long most)]) hx hb dP_balusters_51 hl (by decide) rfl (fun ls hl => ?_)
          refine lv_lload hx hb dP_balusters_53 (lv_at hl 0 rfl) ?_
          refine lv_lload_n hx hb dP_balusters_55 rfl (lv_at hl 2 rfl) ?_
          refine lv_lload_n hx hb dP_balusters_56 rfl (lv_at hl 3 rfl) ?_
          refine tr_go (st1 := [.int (fP_few (fA_along kind rises total going width cf ct) thick most)]) (va_runS (As := [.long (fA_along kind rises total going width cf ct), .long thick, .long most]) (rest := []) ⟨hx, hb, hml, hown, hts⟩ (c_P_few l dC dI (fA_along kind rises total going width cf ct) thick most) ⟨cB 3 hts gw_550 gw_1 gw_548 ndP_fewestBalusters rfl rfl ⟨Nat.le_of_ble_eq_true rfl, Nat.le_of_ble_eq_true rfl⟩, hts _ gw_549⟩ (tp_Rs hN hK hP [] [] rfl rfl) rfl rfl hl.1 rfl (lv_room (Nat.le_of_ble_eq_true rfl)) dP_balusters_57 ⟨Nat.le_of_ble_eq_true rfl, Nat.le_of_ble_eq_true rfl⟩) rfl ?_
          refine lv_istore (lv' := [(7, .int (fP_few (fA_along kind rises total going width cf ct) thick most)), (5, .long (fA_along kind rises total going width cf ct)), (0, .ref p0), (1, .long thick), (3, .long most)]) hx hb dP_balusters_60 hl (by decide) rfl (fun ls hl => ?_)
          refine lv_aload_n hx hb dP_balusters_62 rfl (lv_at hl 2 rfl) ?_
          refine lv_iload hx hb dP_balusters_63 (lv_at hl 0 rfl) ?_
          refine lv_iconst (v := (-1)) hx hb dP_balusters_65 (by decide) ?_
          refine lv_icmp_eq (tgt := 73) hx hb dP_balusters_66 (by decide) (fun c_5 => ?_) (fun c_5 => ?_)
          · skip
            refine lv_iconst (v := 0) hx hb dP_balusters_73 (by decide) ?_
            exact absurd (hx9.symm.trans (show xP_balusters tot pd gd kind rises total going width cf ct gn ge thick most = 0 from by unfold xP_balusters; rw [if_pos c_1, if_neg c_2, if_pos c_3, if_pos c_4, if_pos c_5])) (by decide)
          · skip
            refine lv_iconst (v := 1) hx hb dP_balusters_69 (by decide) ?_
            refine lv_goto (tgt := 74) hx hb dP_balusters_70 (by decide) ?_
            exact absurd (hx9.symm.trans (show xP_balusters tot pd gd kind rises total going width cf ct gn ge thick most = 0 from by unfold xP_balusters; rw [if_pos c_1, if_neg c_2, if_pos c_3, if_pos c_4, if_neg c_5])) (by decide)
        · skip
          exact absurd (hx9.symm.trans (show xP_balusters tot pd gd kind rises total going width cf ct gn ge thick most = 2 from by unfold xP_balusters; rw [if_pos c_1, if_neg c_2, if_pos c_3, if_neg c_4])) (by decide)
      · skip
        exact absurd (hx9.symm.trans (show xP_balusters tot pd gd kind rises total going width cf ct gn ge thick most = 2 from by unfold xP_balusters; rw [if_pos c_1, if_neg c_2, if_neg c_3])) (by decide)
  · skip
    refine tw_runV (As := []) (rest := []) (C := RP) ⟨hx, hb, hml, hown, hts⟩ (t_P_requirePlan l dC dI p0 pT pR pS pF h0 pQ pG tot pd gd hfl c_1) ⟨cB 0 hts gw_373 gw_1 gw_371 ndP_requirePlan rfl rfl ⟨Nat.le_of_ble_eq_true rfl, Nat.le_of_ble_eq_true rfl⟩, hts _ gw_372, hts _ gw_750⟩ (tp_Tv hZ (fun _ _ => rfl) hN hK hP [0] [] rfl rfl (q0 := 0) (ci := 0) rfl rfl) rfl hl.1 rfl (Nat.le_of_ble_eq_true rfl) dP_balusters_1 ⟨Nat.le_of_ble_eq_true rfl, Nat.le_of_ble_eq_true rfl⟩ (fun x9 H9 hN9 => ?_)
    exact tw_leave hlocks hne hN9

set_option maxHeartbeats 4000000 in
set_option maxRecDepth 100000 in
theorem t_P_balusters_IAE (l : Launch) (dC : Nat → ClassId) (dI : Nat → Nat → Nat) (p0 : Nat) (pT : Nat) (pR : Nat) (pS : Nat) (pF : Nat) (h0 : Nat) (pQ : Nat) (pG : Nat) (tot : Int64) (pd : Bool) (gd : Bool) (kind : Int32) (rises : Int32) (total : Int64) (going : Int64) (width : Int64) (cf : Int32) (ct : Int32) (gn : Int64) (ge : Int64) (thick : Int64) (most : Int64) (hfl : l.stackTraces = false) (hx9 : xP_balusters tot pd gd kind rises total going width cf ct gn ge thick most = 2) : tw_Met l mP_balusters wP_balusters ({ frames := 6, cells := 1, slots := 6, locals := 82 }) (tp_T (dC, dI) vCl [.ref p0, .long thick, .long most] [(p0, .inr (0, [.ref pT, .ref pR, .ref pS, .ref pF, .ref h0, .ref pQ, .ref pG, .long tot, .int (bI pd), .int (bI gd)])), (h0, .inr (4, [.int kind, .int rises, .long total, .long going, .long width, .int cf, .int ct])), (pG, .inr (5, [.long gn, .long ge]))] []) "java/lang/IllegalArgumentException" := by
  refine tw_ofW (cc := bP_balusters) (maxL := 8) (ret := (some .int)) (by decide) rfl ?_
  intro p e s m args below meth c s₁ B hml hne hv
  obtain ⟨rfl, hP, hK, hN, hZ⟩ := hv
  have hx := B.exec
  have hb := B.bytes
  have hr := B.returns
  have hts : ∀ w ∈ gT, w.before _ s = true := fun w h => atoms_spec (ws := wP_balusters) B.pre w (List.mem_cons_of_mem _ h)
  have hown : s.vm.findClass RP = some m.cls := findClass_of_methodNamed B.named
  have hlocks := B.notSynchronized
  have hP : va_P (dC, dI) vCl [(p0, .inr (0, [.ref pT, .ref pR, .ref pS, .ref pF, .ref h0, .ref pQ, .ref pG, .long tot, .int (bI pd), .int (bI gd)])), (h0, .inr (4, [.int kind, .int rises, .long total, .long going, .long width, .int cf, .int ct])), (pG, .inr (5, [.long gn, .long ge]))] s.heap := hP
  have hl := lv_entry ([.ref p0, .long thick, .long most]) (n := 8) (Nat.le_of_ble_eq_true rfl)
  rw [lg_entry_eq]
  generalize (lg_sl ([.ref p0, .long thick, .long most]) ++ List.replicate (8 - (lg_sl ([.ref p0, .long thick, .long most])).length) Slot.unset).toArray = ls at hl ⊢
  have hl : lv_has ls 8 [(0, .ref p0), (1, .long thick), (3, .long most)] := hl
  refine lv_aload_n hx hb dP_balusters_0 rfl (lv_at hl 0 rfl) ?_
  by_cases c_1 : xP_requirePlan tot pd gd = 0
  · skip
    refine tr_go (st1 := []) (va_runV (As := []) (rest := []) (C := RP) ⟨hx, hb, hml, hown, hts⟩ (c_P_requirePlan l dC dI p0 pT pR pS pF h0 pQ pG tot pd gd c_1) ⟨cB 0 hts gw_373 gw_1 gw_371 ndP_requirePlan rfl rfl ⟨Nat.le_of_ble_eq_true rfl, Nat.le_of_ble_eq_true rfl⟩, hts _ gw_372, hts _ gw_750⟩ (tp_Rv hN hK hP [0] [] rfl rfl (q0 := 0) (ci := 0) rfl rfl) rfl rfl hl.1 rfl (lv_room (Nat.le_of_ble_eq_true rfl)) dP_balusters_1 ⟨Nat.le_of_ble_eq_true rfl, Nat.le_of_ble_eq_true rfl⟩) rfl ?_
    refine lv_lload_n hx hb dP_balusters_4 rfl (lv_at hl 1 rfl) ?_
    refine lv_lconst (v := 1) hx hb dP_balusters_5 (by decide) ?_
    refine tl_lt (tgt := 18) hx hb dP_balusters_6 dP_balusters_7 (by decide) (fun c_2 => ?_) (fun c_2 => ?_)
    · skip
      exact tw_new (E := "java/lang/IllegalArgumentException") hx hb hml hl.1 hfl hlocks hne hown (tz_lit (hZ.1 _ sw_12 rfl)) (hts _ gw_250) (hts _ gw_11) (own_IAE hts hN hZ) (by decide) (by decide) dP_balusters_18 dP_balusters_21 dP_balusters_22 dP_balusters_24 dP_balusters_27 (Nat.le_of_ble_eq_true rfl) (Nat.le_of_ble_eq_true rfl) (Nat.le_of_ble_eq_true rfl) (Nat.le_of_ble_eq_true rfl)
    · skip
      refine lv_lload_n hx hb dP_balusters_10 rfl (lv_at hl 1 rfl) ?_
      refine lv_ldc2 (v := 1000) hx hb hown (hts _ gw_546) dP_balusters_11 ?_
      refine tl_le (tgt := 28) hx hb dP_balusters_14 dP_balusters_15 (by decide) (fun c_3 => ?_) (fun c_3 => ?_)
      · skip
        refine lv_lload_n hx hb dP_balusters_28 rfl (lv_at hl 2 rfl) ?_
        refine lv_lconst (v := 0) hx hb dP_balusters_29 (by decide) ?_
        refine tl_ge (tgt := 44) hx hb dP_balusters_30 dP_balusters_31 (by decide) (fun c_4 => ?_) (fun c_4 => ?_)
        · skip
          refine lv_aload_n hx hb dP_balusters_44 rfl (lv_at hl 0 rfl) ?_
          refine va_get (D := (dC, dI)) (ci := 0) (v := .ref h0) (C := RP) (T := TP) (N := 10) hx hb hts inP hown hK hP 0 rfl rfl 4 (by decide) (hts _ gw_103) (fun _ h9 => h9) rfl dP_balusters_45 ?_
          refine tr_go (st1 := [.long (fA_along kind rises total going width cf ct)]) (va_runV (As := []) (rest := []) (C := RA) ⟨hx, hb, hml, hown, hts⟩ (c_A_along l dC dI h0 kind rises total going width cf ct) ⟨cB 0 hts gw_531 gw_5 gw_547 ndA_along rfl rfl ⟨Nat.le_of_ble_eq_true rfl, Nat.le_of_ble_eq_true rfl⟩, hts _ gw_529, hts _ gw_530⟩ (tp_Rv hN hK hP [1] [] rfl rfl (q0 := 1) (ci := 4) rfl rfl) rfl rfl hl.1 rfl (lv_room (Nat.le_of_ble_eq_true rfl)) dP_balusters_48 ⟨Nat.le_of_ble_eq_true rfl, Nat.le_of_ble_eq_true rfl⟩) rfl ?_
          refine lv_lstore (lv' := [(5, .long (fA_along kind rises total going width cf ct)), (0, .ref p0), (1, .long thick), (3, .long most)]) hx hb dP_balusters_51 hl (by decide) rfl (fun ls hl => ?_)
          refine lv_lload hx hb dP_balusters_53 (lv_at hl 0 rfl) ?_
          refine lv_lload_n hx hb dP_balusters_55 rfl (lv_at hl 2 rfl) ?_
          refine lv_lload_n hx hb dP_balusters_56 rfl (lv_at hl 3 rfl) ?_
          refine tr_go (st1 := [.int (fP_few (fA_along kind rises total going width cf ct) thick most)]) (va_runS (As := [.long (fA_along kind rises total going width cf ct), .long thick, .long most]) (rest := []) ⟨hx, hb, hml, hown, hts⟩ (c_P_few l dC dI (fA_along kind rises total going width cf ct) thick most) ⟨cB 3 hts gw_550 gw_1 gw_548 ndP_fewestBalusters rfl rfl ⟨Nat.le_of_ble_eq_true rfl, Nat.le_of_ble_eq_true rfl⟩, hts _ gw_549⟩ (tp_Rs hN hK hP [] [] rfl rfl) rfl rfl hl.1 rfl (lv_room (Nat.le_of_ble_eq_true rfl)) dP_balusters_57 ⟨Nat.le_of_ble_eq_true rfl, Nat.le_of_ble_eq_true rfl⟩) rfl ?_
          refine lv_istore (lv' := [(7, .int (fP_few (fA_along kind rises total going width cf ct) thick most)), (5, .long (fA_along kind rises total going width cf ct)), (0, .ref p0), (1, .long thick), (3, .long most)]) hx hb dP_balusters_60 hl (by decide) rfl (fun ls hl => ?_)
          refine lv_aload_n hx hb dP_balusters_62 rfl (lv_at hl 2 rfl) ?_
          refine lv_iload hx hb dP_balusters_63 (lv_at hl 0 rfl) ?_
          refine lv_iconst (v := (-1)) hx hb dP_balusters_65 (by decide) ?_
          refine lv_icmp_eq (tgt := 73) hx hb dP_balusters_66 (by decide) (fun c_5 => ?_) (fun c_5 => ?_)
          · skip
            refine lv_iconst (v := 0) hx hb dP_balusters_73 (by decide) ?_
            exact absurd (hx9.symm.trans (show xP_balusters tot pd gd kind rises total going width cf ct gn ge thick most = 0 from by unfold xP_balusters; rw [if_pos c_1, if_neg c_2, if_pos c_3, if_pos c_4, if_pos c_5])) (by decide)
          · skip
            refine lv_iconst (v := 1) hx hb dP_balusters_69 (by decide) ?_
            refine lv_goto (tgt := 74) hx hb dP_balusters_70 (by decide) ?_
            exact absurd (hx9.symm.trans (show xP_balusters tot pd gd kind rises total going width cf ct gn ge thick most = 0 from by unfold xP_balusters; rw [if_pos c_1, if_neg c_2, if_pos c_3, if_pos c_4, if_neg c_5])) (by decide)
        · skip
          exact tw_new (E := "java/lang/IllegalArgumentException") hx hb hml hl.1 hfl hlocks hne hown (tz_lit (hZ.1 _ sw_13 rfl)) (hts _ gw_250) (hts _ gw_11) (own_IAE hts hN hZ) (by decide) (by decide) dP_balusters_34 dP_balusters_37 dP_balusters_38 dP_balusters_40 dP_balusters_43 (Nat.le_of_ble_eq_true rfl) (Nat.le_of_ble_eq_true rfl) (Nat.le_of_ble_eq_true rfl) (Nat.le_of_ble_eq_true rfl)
      · skip
        exact tw_new (E := "java/lang/IllegalArgumentException") hx hb hml hl.1 hfl hlocks hne hown (tz_lit (hZ.1 _ sw_12 rfl)) (hts _ gw_250) (hts _ gw_11) (own_IAE hts hN hZ) (by decide) (by decide) dP_balusters_18 dP_balusters_21 dP_balusters_22 dP_balusters_24 dP_balusters_27 (Nat.le_of_ble_eq_true rfl) (Nat.le_of_ble_eq_true rfl) (Nat.le_of_ble_eq_true rfl) (Nat.le_of_ble_eq_true rfl)
  · skip
    exact absurd (hx9.symm.trans (show xP_balusters tot pd gd kind rises total going width cf ct gn ge thick most = 1 from by unfold xP_balusters; rw [if_neg c_1])) (by decide)
