
set_option maxHeartbeats 1500000 in
set_option maxRecDepth 100000 in
theorem c_T_readSum (l : Launch) (dC : Nat → ClassId) (dI : Nat → Nat → Nat) (pT : Nat) (ac : Nat) (ca : ClassId) (ft : Nat → Int32) (tl : Nat) (r0 : Nat) (aw : Nat) (ar : Nat) (ab : Nat) (cw : ClassId) (cr : ClassId) (cb : ClassId) (fw : Nat → Int32) (fr : Nat → Int32) (fb : Nat → Int32) (rc : Nat) (pn : Nat) (hft : tch ft) (hpn : pn < 2147300000) (hc : rc ≤ 8) : Met l mT_readSum wT_readSum ({ frames := 5, cells := 0, slots := 0, locals := 114 }) (tp_X (dC, dI) vCl [.ref pT, .ref r0] [(pT, .inr (1, [.ref ac, .int (nI tl), .int (nI pn)])), (ac, .inl (ca, 120, .inl ft)), (r0, .inr (2, [.ref aw, .ref ar, .ref ab, .int (nI rc)])), (aw, .inl (cw, 40, .inl fw)), (ar, .inl (cr, 8, .inl fr)), (ab, .inl (cb, 8, .inl fb))] [(ca, .char), (cw, .int), (cr, .char), (cb, .int)]) (tq_W (dC, dI) vCl (some (.int (bI ((rsL ft tl fr fb rc 4 0 pn fw).1)))) [(pT, .inr (1, [.ref ac, .int (nI tl), .int (nI pn)])), (ac, .inl (ca, 120, .inl ft)), (r0, .inr (2, [.ref aw, .ref ar, .ref ab, .int (nI rc)])), (aw, .inl (cw, 40, .inl fw)), (ar, .inl (cr, 8, .inl fr)), (ab, .inl (cb, 8, .inl fb))] [(pT, .inr (1, [.ref ac, .int (nI tl), .int (nI (rsL ft tl fr fb rc 4 0 pn fw).2.1)])), (ac, .inl (ca, 120, .inl ft)), (r0, .inr (2, [.ref aw, .ref ar, .ref ab, .int (nI rc)])), (aw, .inl (cw, 40, .inl ((rsL ft tl fr fb rc 4 0 pn fw).2.2))), (ar, .inl (cr, 8, .inl fr)), (ab, .inl (cb, 8, .inl fb))]) 0 0 (tA [(pT, .inr (1, [.ref ac, .int (nI tl), .int (nI pn)])), (ac, .inl (ca, 120, .inl ft)), (r0, .inr (2, [.ref aw, .ref ar, .ref ab, .int (nI rc)])), (aw, .inl (cw, 40, .inl fw)), (ar, .inl (cr, 8, .inl fr)), (ab, .inl (cb, 8, .inl fb))]) := by
  refine Met.ofW (cc := bT_readSum) (maxL := 3) (ret := (some .boolean)) (by decide) rfl ?_
  intro p e s m args below meth c s₁ B hml hv
  obtain ⟨rfl, hP, hK, hN, hD0, qS, vS, hR9, hG⟩ := hv
  have hx := B.exec
  have hb := B.bytes
  have hr := B.returns
  have hts : ∀ w ∈ gT, w.before _ s = true := fun w h => atoms_spec (ws := wT_readSum) B.pre w (List.mem_cons_of_mem _ h)
  have hown : s.vm.findClass RT = some m.cls := findClass_of_methodNamed B.named
  have hlocks := B.notSynchronized
  have hD := tA_D hD0
  generalize hAe : tA [(pT, .inr (1, [.ref ac, .int (nI tl), .int (nI pn)])), (ac, .inl (ca, 120, .inl ft)), (r0, .inr (2, [.ref aw, .ref ar, .ref ab, .int (nI rc)])), (aw, .inl (cw, 40, .inl fw)), (ar, .inl (cr, 8, .inl fr)), (ab, .inl (cb, 8, .inl fb))] = A at hD hG ⊢
  have hS : va_S A s.heap s.heap [] := va_S.rf
  have hP : va_P (dC, dI) vCl [(pT, .inr (1, [.ref ac, .int (nI tl), .int (nI pn)])), (ac, .inl (ca, 120, .inl ft)), (r0, .inr (2, [.ref aw, .ref ar, .ref ab, .int (nI rc)])), (aw, .inl (cw, 40, .inl fw)), (ar, .inl (cr, 8, .inl fr)), (ab, .inl (cb, 8, .inl fb))] s.heap := hP
  have hl := lv_entry ([.ref pT, .ref r0]) (n := 3) (Nat.le_of_ble_eq_true rfl)
  rw [lg_entry_eq]
  generalize (lg_sl ([.ref pT, .ref r0]) ++ List.replicate (3 - (lg_sl ([.ref pT, .ref r0])).length) Slot.unset).toArray = ls at hl ⊢
  have hl : lv_has ls 3 [(0, .ref pT), (1, .ref r0)] := hl
  have loop : ∀ (n : Nat) (k : Nat) (pb : Nat) (ff : Nat → Int32) (hk : n + k = 4) (hpb : pb + 4 * n < 2147400000) (hR : rsL ft tl fr fb rc n k pb ff = rsL ft tl fr fb rc 4 0 pn fw) (H : Heap) (locs : List Loc) (hP : va_P (dC, dI) vCl [(pT, .inr (1, [.ref ac, .int (nI tl), .int (nI pb)])), (ac, .inl (ca, 120, .inl ft)), (r0, .inr (2, [.ref aw, .ref ar, .ref ab, .int (nI rc)])), (aw, .inl (cw, 40, .inl ff)), (ar, .inl (cr, 8, .inl fr)), (ab, .inl (cb, 8, .inl fb))] H) (hD : va_D A [(pT, .inr (1, [.ref ac, .int (nI tl), .int (nI pb)])), (ac, .inl (ca, 120, .inl ft)), (r0, .inr (2, [.ref aw, .ref ar, .ref ab, .int (nI rc)])), (aw, .inl (cw, 40, .inl ff)), (ar, .inl (cr, 8, .inl fr)), (ab, .inl (cb, 8, .inl fb))]) (hS : va_S A s.heap H locs) (ls : Array Slot), lv_has ls 3 [(2, .int (nI k)), (1, .ref r0), (0, .ref pT)] → W p l e (headSpec wT_readSum ({ frames := 5, cells := 0, slots := 0, locals := 114 })).room s m ([.ref pT, .ref r0] : List Value).toArray below meth c H locs 0 0 (MQ below (tq_W (dC, dI) vCl (some (.int (bI ((rsL ft tl fr fb rc 4 0 pn fw).1)))) [(pT, .inr (1, [.ref ac, .int (nI tl), .int (nI pn)])), (ac, .inl (ca, 120, .inl ft)), (r0, .inr (2, [.ref aw, .ref ar, .ref ab, .int (nI rc)])), (aw, .inl (cw, 40, .inl fw)), (ar, .inl (cr, 8, .inl fr)), (ab, .inl (cb, 8, .inl fb))] [(pT, .inr (1, [.ref ac, .int (nI tl), .int (nI (rsL ft tl fr fb rc 4 0 pn fw).2.1)])), (ac, .inl (ca, 120, .inl ft)), (r0, .inr (2, [.ref aw, .ref ar, .ref ab, .int (nI rc)])), (aw, .inl (cw, 40, .inl ((rsL ft tl fr fb rc 4 0 pn fw).2.2))), (ar, .inl (cr, 8, .inl fr)), (ab, .inl (cb, 8, .inl fb))]) ([.ref pT, .ref r0] : List Value).toArray s 0 0 A) (F0 m 2 ls []) := by
    intro n
    induction n with
    | zero =>
      intro k pb ff hk hpb hR H locs hP hD hS ls hl
      refine lv_iload_n hx hb dT_readSum_2 rfl (lv_at hl 0 rfl) ?_
      refine lv_iconst (v := 4) hx hb dT_readSum_3 (by decide) ?_
      refine lv_icmp_ge (tgt := 49) hx hb dT_readSum_4 (by decide) (fun c_1 => ?_) (fun c_1 => absurd (by rw [show k = 4 by omega]; decide) c_1)
      refine lv_iconst (v := 1) hx hb dT_readSum_49 (by decide) ?_
      have er : rsL ft tl fr fb rc 4 0 pn fw = (true, pb, ff) := by rw [← hR, rsL]
      exact W.zret (v := 1) hx hb hr rfl (fun t ht hW => ⟨by rw [er]; rfl, by rw [ht, er]; dsimp only; exact hP, by rw [hAe]; exact hS.F ht⟩) hS.2.2 dT_readSum_50
    | succ n ih =>
      intro k pb ff hk hpb hR H locs hP hD hS ls hl
      refine lv_iload_n hx hb dT_readSum_2 rfl (lv_at hl 0 rfl) ?_
      refine lv_iconst (v := 4) hx hb dT_readSum_3 (by decide) ?_
      refine lv_icmp_ge (tgt := 49) hx hb dT_readSum_4 (by decide) (fun c_2 => absurd c_2 ((nI_ge (by omega) (by decide) : ¬ nI 4 ≤ nI k))) (fun c_2 => ?_)
      refine lv_aload_n hx hb dT_readSum_7 rfl (lv_at hl 2 rfl) ?_
      refine lv_aload_n hx hb dT_readSum_8 rfl (lv_at hl 1 rfl) ?_
      refine tc_go (st1 := [.int (bI (fT_readTerm ft tl ff fr fb rc pb))]) (ws' := [(pT, .inr (1, [.ref ac, .int (nI tl), .int (nI (fT_readTerm_c0f2 ft tl ff fr fb rc pb))])), (ac, .inl (ca, 120, .inl ft)), (r0, .inr (2, [.ref aw, .ref ar, .ref ab, .int (nI rc)])), (aw, .inl (cw, 40, .inl (fT_readTerm_a3 ft tl ff fr fb rc pb))), (ar, .inl (cr, 8, .inl fr)), (ab, .inl (cb, 8, .inl fb))]) (va_runV (As := [.ref r0]) (rest := []) (C := RT) ⟨hx, hb, hml, hown, hts⟩ (c_T_readTerm l dC dI pT ac ca ft tl r0 aw ar ab cw cr cb ff fr fb rc pb hft (by omega) hc) ⟨cB 1 hts gw_147 gw_2 gw_145 ndT_readTerm rfl rfl ⟨Nat.le_of_ble_eq_true rfl, Nat.le_of_ble_eq_true rfl⟩, hts _ gw_146, hts _ gw_745⟩ (tp_Xv hN hK hP hD hS hR9 hG [0, 1, 2, 3, 4, 5] [0, 1, 2, 3] rfl (by decide) rfl (q0 := 0) (ci := 1) rfl rfl) rfl rfl hl.1 rfl (lv_room (Nat.le_of_ble_eq_true rfl)) dT_readSum_9 ⟨Nat.le_of_ble_eq_true rfl, Nat.le_of_ble_eq_true rfl⟩) rfl hP hD hS [0, 1, 2, 3, 4, 5] rfl (show [pT, ac, r0, aw, ar, ab] = [pT, ac, r0, aw, ar, ab] from rfl) rfl (fun H locs hP hD hS => ?_)
      have hP : va_P (dC, dI) vCl [(pT, .inr (1, [.ref ac, .int (nI tl), .int (nI (fT_readTerm_c0f2 ft tl ff fr fb rc pb))])), (ac, .inl (ca, 120, .inl ft)), (r0, .inr (2, [.ref aw, .ref ar, .ref ab, .int (nI rc)])), (aw, .inl (cw, 40, .inl (fT_readTerm_a3 ft tl ff fr fb rc pb))), (ar, .inl (cr, 8, .inl fr)), (ab, .inl (cb, 8, .inl fb))] H := hP
      have hD : va_D A [(pT, .inr (1, [.ref ac, .int (nI tl), .int (nI (fT_readTerm_c0f2 ft tl ff fr fb rc pb))])), (ac, .inl (ca, 120, .inl ft)), (r0, .inr (2, [.ref aw, .ref ar, .ref ab, .int (nI rc)])), (aw, .inl (cw, 40, .inl (fT_readTerm_a3 ft tl ff fr fb rc pb))), (ar, .inl (cr, 8, .inl fr)), (ab, .inl (cb, 8, .inl fb))] := hD
      refine tb_ifne (tgt := 17) hx hb dT_readSum_12 (by decide) (fun c_3 => ?_) (fun c_3 => ?_)
      · skip
        refine lv_aload_n hx hb dT_readSum_17 rfl (lv_at hl 2 rfl) ?_
        refine tr_go (st1 := [.int (fT_next ft tl (fT_readTerm_c0f2 ft tl ff fr fb rc pb))]) (va_runV (As := []) (rest := []) (C := RT) ⟨hx, hb, hml, hown, hts⟩ (c_T_next l dC dI pT ac ca ft tl (fT_readTerm_c0f2 ft tl ff fr fb rc pb) hft (by have h80 := tt_le ft tl ff fr fb rc pb; omega)) ⟨cB 0 hts gw_153 gw_2 gw_151 ndT_next rfl rfl ⟨Nat.le_of_ble_eq_true rfl, Nat.le_of_ble_eq_true rfl⟩, hts _ gw_152, hts _ gw_747⟩ (tp_Rv hN hK hP [0, 1] [0] rfl rfl (q0 := 0) (ci := 1) rfl rfl) rfl rfl hl.1 rfl (lv_room (Nat.le_of_ble_eq_true rfl)) dT_readSum_18 ⟨Nat.le_of_ble_eq_true rfl, Nat.le_of_ble_eq_true rfl⟩) rfl ?_
        refine lv_bipush (v := 43) hx hb dT_readSum_21 (by decide) ?_
        refine lv_icmp_ne (tgt := 31) hx hb dT_readSum_23 (by decide) (fun c_4 => ?_) (fun c_4 => ?_)
        · skip
          refine lv_iconst (v := 1) hx hb dT_readSum_31 (by decide) ?_
          have er : rsL ft tl fr fb rc 4 0 pn fw = (true, fT_readTerm_c0f2 ft tl ff fr fb rc pb, fT_readTerm_a3 ft tl ff fr fb rc pb) := by rw [← hR, rsL, if_pos c_3, if_neg c_4]
          exact W.zret (v := 1) hx hb hr rfl (fun t ht hW => ⟨by rw [er]; rfl, by rw [ht, er]; dsimp only; exact hP, by rw [hAe]; exact hS.F ht⟩) hS.2.2 dT_readSum_32
        · skip
          refine lv_iload_n hx hb dT_readSum_26 rfl (lv_at hl 0 rfl) ?_
          refine lv_iconst (v := 3) hx hb dT_readSum_27 (by decide) ?_
          refine lv_icmp_ne (tgt := 33) hx hb dT_readSum_28 (by decide) (fun c_5 => ?_) (fun c_5 => ?_)
          · skip
            refine lv_aload_n hx hb dT_readSum_33 rfl (lv_at hl 2 rfl) ?_
            refine lv_dup hx hb dT_readSum_34 rfl ?_
            refine va_get (D := (dC, dI)) (ci := 1) (v := .int (nI (fT_readTerm_c0f2 ft tl ff fr fb rc pb))) (C := RT) (T := TT) (N := 3) hx hb hts inT hown hK hP 0 rfl rfl 2 (by decide) (hts _ gw_33) (fun _ h9 => h9) rfl dT_readSum_35 ?_
            refine lv_iconst (v := 1) hx hb dT_readSum_38 (by decide) ?_
            refine lv_iadd hx hb dT_readSum_39 ?_
            rw [nI_1 (fT_readTerm_c0f2 ft tl ff fr fb rc pb)]
            refine va_put (D := (dC, dI)) (ci := 1) (v := .int (nI (fT_readTerm_c0f2 ft tl ff fr fb rc pb + 1))) (ty := .int) (C := RT) (T := TT) (N := 3) hx hb hts inT yT yoT noT hown hK hP hD hS 0 rfl rfl 2 (by decide) (hts _ gw_33) (fun _ h9 => h9) rfl (by decide +kernel) rfl rfl (Nat.le_of_ble_eq_true rfl) dT_readSum_40 (fun H locs hP hD hS => ?_)
            have hP : va_P (dC, dI) vCl [(pT, .inr (1, [.ref ac, .int (nI tl), .int (nI (fT_readTerm_c0f2 ft tl ff fr fb rc pb + 1))])), (ac, .inl (ca, 120, .inl ft)), (r0, .inr (2, [.ref aw, .ref ar, .ref ab, .int (nI rc)])), (aw, .inl (cw, 40, .inl (fT_readTerm_a3 ft tl ff fr fb rc pb))), (ar, .inl (cr, 8, .inl fr)), (ab, .inl (cb, 8, .inl fb))] H := hP
            have hD : va_D A [(pT, .inr (1, [.ref ac, .int (nI tl), .int (nI (fT_readTerm_c0f2 ft tl ff fr fb rc pb + 1))])), (ac, .inl (ca, 120, .inl ft)), (r0, .inr (2, [.ref aw, .ref ar, .ref ab, .int (nI rc)])), (aw, .inl (cw, 40, .inl (fT_readTerm_a3 ft tl ff fr fb rc pb))), (ar, .inl (cr, 8, .inl fr)), (ab, .inl (cb, 8, .inl fb))] := hD
            refine lv_iinc (v := nI (k + 1)) (lv' := [(2, .int (nI (k + 1))), (1, .ref r0), (0, .ref pT)]) hx hb dT_readSum_43 hl (k := 0) rfl (by rw [nI_succ]; rfl) (by decide) rfl (fun ls hl => ?_)
            refine lv_goto (tgt := 2) hx hb dT_readSum_46 (by decide) ?_
            exact ih (k + 1) (fT_readTerm_c0f2 ft tl ff fr fb rc pb + 1) (fT_readTerm_a3 ft tl ff fr fb rc pb) (by omega) (by have h80 := tt_le ft tl ff fr fb rc pb; omega) (by rw [rsL, if_pos c_3, if_pos c_4, if_neg c_5] at hR; exact hR) _ _ hP hD hS ls (lv_sub hl [0, 1, 2] rfl)
          · skip
            refine lv_iconst (v := 1) hx hb dT_readSum_31 (by decide) ?_
            have er : rsL ft tl fr fb rc 4 0 pn fw = (true, fT_readTerm_c0f2 ft tl ff fr fb rc pb, fT_readTerm_a3 ft tl ff fr fb rc pb) := by rw [← hR, rsL, if_pos c_3, if_pos c_4, if_pos c_5]
            exact W.zret (v := 1) hx hb hr rfl (fun t ht hW => ⟨by rw [er]; rfl, by rw [ht, er]; dsimp only; exact hP, by rw [hAe]; exact hS.F ht⟩) hS.2.2 dT_readSum_32
      · skip
        refine lv_iconst (v := 0) hx hb dT_readSum_15 (by decide) ?_
        have er : rsL ft tl fr fb rc 4 0 pn fw = (false, fT_readTerm_c0f2 ft tl ff fr fb rc pb, fT_readTerm_a3 ft tl ff fr fb rc pb) := by rw [← hR, rsL, if_neg (Bool.eq_false_iff.mp c_3)]
        exact W.zret (v := 0) hx hb hr rfl (fun t ht hW => ⟨by rw [er]; rfl, by rw [ht, er]; dsimp only; exact hP, by rw [hAe]; exact hS.F ht⟩) hS.2.2 dT_readSum_16
  refine lv_iconst (v := 0) hx hb dT_readSum_0 (by decide) ?_
  refine lv_istore_n (lv' := [(2, .int 0), (0, .ref pT), (1, .ref r0)]) hx hb dT_readSum_1 rfl hl (by decide) rfl (fun ls hl => ?_)
  exact loop 4 0 pn fw rfl (by omega) rfl _ _ hP hD hS ls (lv_sub hl [0, 2, 1] rfl)
