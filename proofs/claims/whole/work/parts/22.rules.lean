def fS_sum (fw : Nat → Int32) (fr : Nat → Int32) (fb : Nat → Int32) (cnt : Int32) (kind : Int32) (rises : Int32) (total : Int64) (going : Int64) (width : Int64) (cf : Int32) (ct : Int32) (first : Int32) : Int64 := if first < 0 then 0 else (if first ≤ (40 - 5) then ((((fw first.toNatClampNeg).toInt64) * total) + (((((((fw (first + 1).toNatClampNeg).toInt64) * going) + (((fw (first + 2).toNatClampNeg).toInt64) * rises.toInt64)) + (((fw (first + 3).toNatClampNeg).toInt64) * width)) + (((fw (first + 4).toNatClampNeg).toInt64) * total)) * rises.toInt64)) else 0)
set_option maxHeartbeats 4000000 in
set_option maxRecDepth 100000 in
theorem c_S_sum (l : Launch) (dC : Nat → ClassId) (dI : Nat → Nat → Nat) (r0 : Nat) (aw : Nat) (ar : Nat) (ab : Nat) (cw : ClassId) (cr : ClassId) (cb : ClassId) (fw : Nat → Int32) (fr : Nat → Int32) (fb : Nat → Int32) (cnt : Int32) (h0 : Nat) (kind : Int32) (rises : Int32) (total : Int64) (going : Int64) (width : Int64) (cf : Int32) (ct : Int32) (first : Int32) : Met l mS_sumTimesRises wS_sumTimesRises ({ frames := 0, cells := 0, slots := 0, locals := 0 }) (tp_R (dC, dI) vCl [.ref r0, .int first, .ref h0] [(r0, .inr (2, [.ref aw, .ref ar, .ref ab, .int cnt])), (aw, .inl (cw, 40, .inl fw)), (ar, .inl (cr, 8, .inl fr)), (ab, .inl (cb, 8, .inl fb)), (h0, .inr (4, [.int kind, .int rises, .long total, .long going, .long width, .int cf, .int ct]))] [(cw, .int), (cr, .char), (cb, .int)]) (tq_R (some (.long (fS_sum fw fr fb cnt kind rises total going width cf ct first)))) 0 0 (fun _ => False) := by
  refine Met.ofW (cc := bS_sumTimesRises) (maxL := 5) (ret := (some .long)) (by decide) rfl ?_
  intro p e s m args below meth c s₁ B hml hv
  obtain ⟨rfl, hP, hK, hN⟩ := hv
  have hx := B.exec
  have hb := B.bytes
  have hr := B.returns
  have hts : ∀ w ∈ gT, w.before _ s = true := fun w h => atoms_spec (ws := wS_sumTimesRises) B.pre w (List.mem_cons_of_mem _ h)
  have hown : s.vm.findClass RS = some m.cls := findClass_of_methodNamed B.named
  have hlocks := B.notSynchronized
  have hP : va_P (dC, dI) vCl [(r0, .inr (2, [.ref aw, .ref ar, .ref ab, .int cnt])), (aw, .inl (cw, 40, .inl fw)), (ar, .inl (cr, 8, .inl fr)), (ab, .inl (cb, 8, .inl fb)), (h0, .inr (4, [.int kind, .int rises, .long total, .long going, .long width, .int cf, .int ct]))] s.heap := hP
  have hl := lv_entry ([.ref r0, .int first, .ref h0]) (n := 5) (Nat.le_of_ble_eq_true rfl)
  rw [lg_entry_eq]
  generalize (lg_sl ([.ref r0, .int first, .ref h0]) ++ List.replicate (5 - (lg_sl ([.ref r0, .int first, .ref h0])).length) Slot.unset).toArray = ls at hl ⊢
  have hl : lv_has ls 5 [(0, .ref r0), (1, .int first), (2, .ref h0)] := hl
  refine lv_iload_n hx hb dS_sumTimesRises_0 rfl (lv_at hl 1 rfl) ?_
  refine lv_if_lt (tgt := 15) hx hb dS_sumTimesRises_1 (by decide) (fun c_1 => ?_) (fun c_1 => ?_)
  · skip
    refine lv_lconst (v := 0) hx hb dS_sumTimesRises_15 (by decide) ?_
    exact W.lret (v := 0) hx hb hr (fun t ht hW => ⟨by rw [show fS_sum fw fr fb cnt kind rises total going width cf ct first = 0 from by unfold fS_sum; rw [if_pos c_1]], ht⟩) (fun q h => by cases h) dS_sumTimesRises_16
  · skip
    refine lv_iload_n hx hb dS_sumTimesRises_4 rfl (lv_at hl 1 rfl) ?_
    refine lv_aload_n hx hb dS_sumTimesRises_5 rfl (lv_at hl 0 rfl) ?_
    refine va_get (D := (dC, dI)) (ci := 2) (v := .ref aw) (C := RS) (T := TS) (N := 4) hx hb hts inS hown hK hP 0 rfl rfl 0 (by decide) (hts _ gw_43) (fun _ h9 => h9) rfl dS_sumTimesRises_6 ?_
    refine va_alen (v := 40) hx hb hK hP 1 0 rfl rfl rfl dS_sumTimesRises_9 ?_
    refine lv_iconst (v := 5) hx hb dS_sumTimesRises_10 (by decide) ?_
    refine lv_isub hx hb dS_sumTimesRises_11 ?_
    refine lv_icmp_le (tgt := 17) hx hb dS_sumTimesRises_12 (by decide) (fun c_2 => ?_) (fun c_2 => ?_)
    · skip
      refine lv_aload_n hx hb dS_sumTimesRises_17 rfl (lv_at hl 0 rfl) ?_
      refine va_get (D := (dC, dI)) (ci := 2) (v := .ref aw) (C := RS) (T := TS) (N := 4) hx hb hts inS hown hK hP 0 rfl rfl 0 (by decide) (hts _ gw_43) (fun _ h9 => h9) rfl dS_sumTimesRises_18 ?_
      refine lv_iload_n hx hb dS_sumTimesRises_21 rfl (lv_at hl 1 rfl) ?_
      refine lv_iconst (v := 1) hx hb dS_sumTimesRises_22 (by decide) ?_
      refine lv_iadd hx hb dS_sumTimesRises_23 ?_
      have b_3 : vp_in (first + 1) 40 := tin_5 1 (by decide) rfl c_1 c_2
      refine va_iald hx hb hK hP 1 0 rfl rfl b_3 dS_sumTimesRises_24 ?_
      refine lv_i2l (v := (fw (first + 1).toNatClampNeg).toInt64) hx hb dS_sumTimesRises_25 rfl ?_
      refine lv_aload_n hx hb dS_sumTimesRises_26 rfl (lv_at hl 2 rfl) ?_
      refine va_getN (D := (dC, dI)) (ci := 4) (v := .long going) (C := RA) (T := TA) (N := 7) hx hb hts inA hown hK hP 4 rfl rfl 3 (by decide) (va_Nw.use rfl (hN _ nw_10 rfl)) (fun _ h9 => h9) rfl dS_sumTimesRises_27 ?_
      refine lv_lmul hx hb dS_sumTimesRises_30 ?_
      refine lv_aload_n hx hb dS_sumTimesRises_31 rfl (lv_at hl 0 rfl) ?_
      refine va_get (D := (dC, dI)) (ci := 2) (v := .ref aw) (C := RS) (T := TS) (N := 4) hx hb hts inS hown hK hP 0 rfl rfl 0 (by decide) (hts _ gw_43) (fun _ h9 => h9) rfl dS_sumTimesRises_32 ?_
      refine lv_iload_n hx hb dS_sumTimesRises_35 rfl (lv_at hl 1 rfl) ?_
      refine lv_iconst (v := 2) hx hb dS_sumTimesRises_36 (by decide) ?_
      refine lv_iadd hx hb dS_sumTimesRises_37 ?_
      have b_4 : vp_in (first + 2) 40 := tin_5 2 (by decide) rfl c_1 c_2
      refine va_iald hx hb hK hP 1 0 rfl rfl b_4 dS_sumTimesRises_38 ?_
      refine lv_i2l (v := (fw (first + 2).toNatClampNeg).toInt64) hx hb dS_sumTimesRises_39 rfl ?_
      refine lv_aload_n hx hb dS_sumTimesRises_40 rfl (lv_at hl 2 rfl) ?_
      refine va_getN (D := (dC, dI)) (ci := 4) (v := .int rises) (C := RA) (T := TA) (N := 7) hx hb hts inA hown hK hP 4 rfl rfl 1 (by decide) (va_Nw.use rfl (hN _ nw_7 rfl)) (fun _ h9 => h9) rfl dS_sumTimesRises_41 ?_
      refine lv_i2l (v := rises.toInt64) hx hb dS_sumTimesRises_44 rfl ?_
      refine lv_lmul hx hb dS_sumTimesRises_45 ?_
      refine lv_ladd hx hb dS_sumTimesRises_46 ?_
      refine lv_aload_n hx hb dS_sumTimesRises_47 rfl (lv_at hl 0 rfl) ?_
      refine va_get (D := (dC, dI)) (ci := 2) (v := .ref aw) (C := RS) (T := TS) (N := 4) hx hb hts inS hown hK hP 0 rfl rfl 0 (by decide) (hts _ gw_43) (fun _ h9 => h9) rfl dS_sumTimesRises_48 ?_
      refine lv_iload_n hx hb dS_sumTimesRises_51 rfl (lv_at hl 1 rfl) ?_
      refine lv_iconst (v := 3) hx hb dS_sumTimesRises_52 (by decide) ?_
      refine lv_iadd hx hb dS_sumTimesRises_53 ?_
      have b_5 : vp_in (first + 3) 40 := tin_5 3 (by decide) rfl c_1 c_2
      refine va_iald hx hb hK hP 1 0 rfl rfl b_5 dS_sumTimesRises_54 ?_
      refine lv_i2l (v := (fw (first + 3).toNatClampNeg).toInt64) hx hb dS_sumTimesRises_55 rfl ?_
      refine lv_aload_n hx hb dS_sumTimesRises_56 rfl (lv_at hl 2 rfl) ?_
      refine va_getN (D := (dC, dI)) (ci := 4) (v := .long width) (C := RA) (T := TA) (N := 7) hx hb hts inA hown hK hP 4 rfl rfl 4 (by decide) (va_Nw.use rfl (hN _ nw_11 rfl)) (fun _ h9 => h9) rfl dS_sumTimesRises_57 ?_
      refine lv_lmul hx hb dS_sumTimesRises_60 ?_
      refine lv_ladd hx hb dS_sumTimesRises_61 ?_
      refine lv_aload_n hx hb dS_sumTimesRises_62 rfl (lv_at hl 0 rfl) ?_
      refine va_get (D := (dC, dI)) (ci := 2) (v := .ref aw) (C := RS) (T := TS) (N := 4) hx hb hts inS hown hK hP 0 rfl rfl 0 (by decide) (hts _ gw_43) (fun _ h9 => h9) rfl dS_sumTimesRises_63 ?_
      refine lv_iload_n hx hb dS_sumTimesRises_66 rfl (lv_at hl 1 rfl) ?_
      refine lv_iconst (v := 4) hx hb dS_sumTimesRises_67 (by decide) ?_
      refine lv_iadd hx hb dS_sumTimesRises_68 ?_
      have b_6 : vp_in (first + 4) 40 := tin_5 4 (by decide) rfl c_1 c_2
      refine va_iald hx hb hK hP 1 0 rfl rfl b_6 dS_sumTimesRises_69 ?_
      refine lv_i2l (v := (fw (first + 4).toNatClampNeg).toInt64) hx hb dS_sumTimesRises_70 rfl ?_
      refine lv_aload_n hx hb dS_sumTimesRises_71 rfl (lv_at hl 2 rfl) ?_
      refine va_getN (D := (dC, dI)) (ci := 4) (v := .long total) (C := RA) (T := TA) (N := 7) hx hb hts inA hown hK hP 4 rfl rfl 2 (by decide) (va_Nw.use rfl (hN _ nw_9 rfl)) (fun _ h9 => h9) rfl dS_sumTimesRises_72 ?_
      refine lv_lmul hx hb dS_sumTimesRises_75 ?_
      refine lv_ladd hx hb dS_sumTimesRises_76 ?_
      refine lv_lstore_n (lv' := [(3, .long ((((((fw (first + 1).toNatClampNeg).toInt64) * going) + (((fw (first + 2).toNatClampNeg).toInt64) * rises.toInt64)) + (((fw (first + 3).toNatClampNeg).toInt64) * width)) + (((fw (first + 4).toNatClampNeg).toInt64) * total))), (0, .ref r0), (1, .int first), (2, .ref h0)]) hx hb dS_sumTimesRises_77 rfl hl (by decide) rfl (fun ls hl => ?_)
      refine lv_aload_n hx hb dS_sumTimesRises_78 rfl (lv_at hl 1 rfl) ?_
      refine va_get (D := (dC, dI)) (ci := 2) (v := .ref aw) (C := RS) (T := TS) (N := 4) hx hb hts inS hown hK hP 0 rfl rfl 0 (by decide) (hts _ gw_43) (fun _ h9 => h9) rfl dS_sumTimesRises_79 ?_
      refine lv_iload_n hx hb dS_sumTimesRises_82 rfl (lv_at hl 2 rfl) ?_
      have b_7 : vp_in first 40 := tin_50 c_1 c_2
      refine va_iald hx hb hK hP 1 0 rfl rfl b_7 dS_sumTimesRises_83 ?_
      refine lv_i2l (v := (fw first.toNatClampNeg).toInt64) hx hb dS_sumTimesRises_84 rfl ?_
      refine lv_aload_n hx hb dS_sumTimesRises_85 rfl (lv_at hl 3 rfl) ?_
      refine va_getN (D := (dC, dI)) (ci := 4) (v := .long total) (C := RA) (T := TA) (N := 7) hx hb hts inA hown hK hP 4 rfl rfl 2 (by decide) (va_Nw.use rfl (hN _ nw_9 rfl)) (fun _ h9 => h9) rfl dS_sumTimesRises_86 ?_
      refine lv_lmul hx hb dS_sumTimesRises_89 ?_
      refine lv_lload_n hx hb dS_sumTimesRises_90 rfl (lv_at hl 0 rfl) ?_
      refine lv_aload_n hx hb dS_sumTimesRises_91 rfl (lv_at hl 3 rfl) ?_
      refine va_getN (D := (dC, dI)) (ci := 4) (v := .int rises) (C := RA) (T := TA) (N := 7) hx hb hts inA hown hK hP 4 rfl rfl 1 (by decide) (va_Nw.use rfl (hN _ nw_7 rfl)) (fun _ h9 => h9) rfl dS_sumTimesRises_92 ?_
      refine lv_i2l (v := rises.toInt64) hx hb dS_sumTimesRises_95 rfl ?_
      refine lv_lmul hx hb dS_sumTimesRises_96 ?_
      refine lv_ladd hx hb dS_sumTimesRises_97 ?_
      exact W.lret (v := (((fw first.toNatClampNeg).toInt64) * total) + (((((((fw (first + 1).toNatClampNeg).toInt64) * going) + (((fw (first + 2).toNatClampNeg).toInt64) * rises.toInt64)) + (((fw (first + 3).toNatClampNeg).toInt64) * width)) + (((fw (first + 4).toNatClampNeg).toInt64) * total)) * rises.toInt64)) hx hb hr (fun t ht hW => ⟨by rw [show fS_sum fw fr fb cnt kind rises total going width cf ct first = (((fw first.toNatClampNeg).toInt64) * total) + (((((((fw (first + 1).toNatClampNeg).toInt64) * going) + (((fw (first + 2).toNatClampNeg).toInt64) * rises.toInt64)) + (((fw (first + 3).toNatClampNeg).toInt64) * width)) + (((fw (first + 4).toNatClampNeg).toInt64) * total)) * rises.toInt64) from by unfold fS_sum; rw [if_neg c_1, if_pos c_2]], ht⟩) (fun q h => by cases h) dS_sumTimesRises_98
    · skip
      refine lv_lconst (v := 0) hx hb dS_sumTimesRises_15 (by decide) ?_
      exact W.lret (v := 0) hx hb hr (fun t ht hW => ⟨by rw [show fS_sum fw fr fb cnt kind rises total going width cf ct first = 0 from by unfold fS_sum; rw [if_neg c_1, if_neg c_2]], ht⟩) (fun q h => by cases h) dS_sumTimesRises_16

def fS_holds (fw : Nat → Int32) (fr : Nat → Int32) (fb : Nat → Int32) (cnt : Int32) (kind : Int32) (rises : Int32) (total : Int64) (going : Int64) (width : Int64) (cf : Int32) (ct : Int32) (rule : Int32) : Bool := if rule < 0 then false else (if cnt ≤ rule then false else (if rule < 8 then (if (fr rule.toNatClampNeg) = 60 then (if (((fb rule.toNatClampNeg).toInt64) * rises.toInt64) ≤ (fS_sum fw fr fb cnt kind rises total going width cf ct (rule * 5)) then false else true) else (if (fr rule.toNatClampNeg) = 62 then (if (fS_sum fw fr fb cnt kind rises total going width cf ct (rule * 5)) ≤ (((fb rule.toNatClampNeg).toInt64) * rises.toInt64) then false else true) else (if (fS_sum fw fr fb cnt kind rises total going width cf ct (rule * 5)) = (((fb rule.toNatClampNeg).toInt64) * rises.toInt64) then true else false))) else false))
set_option maxHeartbeats 4000000 in
set_option maxRecDepth 100000 in
theorem c_S_holds (l : Launch) (dC : Nat → ClassId) (dI : Nat → Nat → Nat) (r0 : Nat) (aw : Nat) (ar : Nat) (ab : Nat) (cw : ClassId) (cr : ClassId) (cb : ClassId) (fw : Nat → Int32) (fr : Nat → Int32) (fb : Nat → Int32) (cnt : Int32) (h0 : Nat) (kind : Int32) (rises : Int32) (total : Int64) (going : Int64) (width : Int64) (cf : Int32) (ct : Int32) (rule : Int32) : Met l mS_holds wS_holds ({ frames := 1, cells := 0, slots := 0, locals := 24 }) (tp_R (dC, dI) vCl [.ref r0, .int rule, .ref h0] [(r0, .inr (2, [.ref aw, .ref ar, .ref ab, .int cnt])), (aw, .inl (cw, 40, .inl fw)), (ar, .inl (cr, 8, .inl fr)), (ab, .inl (cb, 8, .inl fb)), (h0, .inr (4, [.int kind, .int rises, .long total, .long going, .long width, .int cf, .int ct]))] [(cw, .int), (cr, .char), (cb, .int)]) (tq_R (some (.int (bI (fS_holds fw fr fb cnt kind rises total going width cf ct rule))))) 0 0 (fun _ => False) := by
  refine Met.ofW (cc := bS_holds) (maxL := 7) (ret := (some .boolean)) (by decide) rfl ?_
  intro p e s m args below meth c s₁ B hml hv
  obtain ⟨rfl, hP, hK, hN⟩ := hv
  have hx := B.exec
  have hb := B.bytes
  have hr := B.returns
  have hts : ∀ w ∈ gT, w.before _ s = true := fun w h => atoms_spec (ws := wS_holds) B.pre w (List.mem_cons_of_mem _ h)
  have hown : s.vm.findClass RS = some m.cls := findClass_of_methodNamed B.named
  have hlocks := B.notSynchronized
  have hP : va_P (dC, dI) vCl [(r0, .inr (2, [.ref aw, .ref ar, .ref ab, .int cnt])), (aw, .inl (cw, 40, .inl fw)), (ar, .inl (cr, 8, .inl fr)), (ab, .inl (cb, 8, .inl fb)), (h0, .inr (4, [.int kind, .int rises, .long total, .long going, .long width, .int cf, .int ct]))] s.heap := hP
  have hl := lv_entry ([.ref r0, .int rule, .ref h0]) (n := 7) (Nat.le_of_ble_eq_true rfl)
  rw [lg_entry_eq]
  generalize (lg_sl ([.ref r0, .int rule, .ref h0]) ++ List.replicate (7 - (lg_sl ([.ref r0, .int rule, .ref h0])).length) Slot.unset).toArray = ls at hl ⊢
  have hl : lv_has ls 7 [(0, .ref r0), (1, .int rule), (2, .ref h0)] := hl
  refine lv_iload_n hx hb dS_holds_0 rfl (lv_at hl 1 rfl) ?_
  refine lv_if_lt (tgt := 18) hx hb dS_holds_1 (by decide) (fun c_1 => ?_) (fun c_1 => ?_)
  · skip
    refine lv_iconst (v := 0) hx hb dS_holds_18 (by decide) ?_
    exact W.zret (v := 0) hx hb hr (rfl) (fun t ht hW => ⟨by rw [show fS_holds fw fr fb cnt kind rises total going width cf ct rule = false from by unfold fS_holds; rw [if_pos c_1]]; rfl, ht⟩) (fun q h => by cases h) dS_holds_19
  · skip
    refine lv_iload_n hx hb dS_holds_4 rfl (lv_at hl 1 rfl) ?_
    refine lv_aload_n hx hb dS_holds_5 rfl (lv_at hl 0 rfl) ?_
    refine va_get (D := (dC, dI)) (ci := 2) (v := .int cnt) (C := RS) (T := TS) (N := 4) hx hb hts inS hown hK hP 0 rfl rfl 3 (by decide) (hts _ gw_46) (fun _ h9 => h9) rfl dS_holds_6 ?_
    refine lv_icmp_ge (tgt := 18) hx hb dS_holds_9 (by decide) (fun c_2 => ?_) (fun c_2 => ?_)
    · skip
      refine lv_iconst (v := 0) hx hb dS_holds_18 (by decide) ?_
      exact W.zret (v := 0) hx hb hr (rfl) (fun t ht hW => ⟨by rw [show fS_holds fw fr fb cnt kind rises total going width cf ct rule = false from by unfold fS_holds; rw [if_neg c_1, if_pos c_2]]; rfl, ht⟩) (fun q h => by cases h) dS_holds_19
    · skip
      refine lv_iload_n hx hb dS_holds_12 rfl (lv_at hl 1 rfl) ?_
      refine lv_bipush (v := 8) hx hb dS_holds_13 (by decide) ?_
      refine lv_icmp_lt (tgt := 20) hx hb dS_holds_15 (by decide) (fun c_3 => ?_) (fun c_3 => ?_)
      · skip
        refine lv_aload_n hx hb dS_holds_20 rfl (lv_at hl 0 rfl) ?_
        refine lv_iload_n hx hb dS_holds_21 rfl (lv_at hl 1 rfl) ?_
        refine lv_iconst (v := 5) hx hb dS_holds_22 (by decide) ?_
        refine lv_imul hx hb dS_holds_23 ?_
        refine lv_aload_n hx hb dS_holds_24 rfl (lv_at hl 2 rfl) ?_
        refine tr_go (st1 := [.long (fS_sum fw fr fb cnt kind rises total going width cf ct (rule * 5))]) (va_runV (As := [.int (rule * 5), .ref h0]) (rest := []) (C := RS) ⟨hx, hb, hml, hown, hts⟩ (c_S_sum l dC dI r0 aw ar ab cw cr cb fw fr fb cnt h0 kind rises total going width cf ct (rule * 5)) ⟨cB 2 hts gw_354 gw_3 gw_352 ndS_sumTimesRises rfl rfl ⟨Nat.le_of_ble_eq_true rfl, Nat.le_of_ble_eq_true rfl⟩, hts _ gw_353, hts _ gw_749⟩ (tp_Rv hN hK hP [0, 1, 2, 3, 4] [0, 1, 2] rfl rfl (q0 := 0) (ci := 2) rfl rfl) rfl rfl hl.1 rfl (lv_room (Nat.le_of_ble_eq_true rfl)) dS_holds_25 ⟨Nat.le_of_ble_eq_true rfl, Nat.le_of_ble_eq_true rfl⟩) rfl ?_
        refine lv_lstore_n (lv' := [(3, .long (fS_sum fw fr fb cnt kind rises total going width cf ct (rule * 5))), (0, .ref r0), (1, .int rule), (2, .ref h0)]) hx hb dS_holds_28 rfl hl (by decide) rfl (fun ls hl => ?_)
        refine lv_aload_n hx hb dS_holds_29 rfl (lv_at hl 1 rfl) ?_
        refine va_get (D := (dC, dI)) (ci := 2) (v := .ref ab) (C := RS) (T := TS) (N := 4) hx hb hts inS hown hK hP 0 rfl rfl 2 (by decide) (hts _ gw_45) (fun _ h9 => h9) rfl dS_holds_30 ?_
        refine lv_iload_n hx hb dS_holds_33 rfl (lv_at hl 2 rfl) ?_
        have b_4 : vp_in rule 8 := tin (by decide) c_1 (tin_u c_3)
        refine va_iald hx hb hK hP 3 2 rfl rfl b_4 dS_holds_34 ?_
        refine lv_i2l (v := (fb rule.toNatClampNeg).toInt64) hx hb dS_holds_35 rfl ?_
        refine lv_aload_n hx hb dS_holds_36 rfl (lv_at hl 3 rfl) ?_
        refine va_getN (D := (dC, dI)) (ci := 4) (v := .int rises) (C := RA) (T := TA) (N := 7) hx hb hts inA hown hK hP 4 rfl rfl 1 (by decide) (va_Nw.use rfl (hN _ nw_7 rfl)) (fun _ h9 => h9) rfl dS_holds_37 ?_
        refine lv_i2l (v := rises.toInt64) hx hb dS_holds_40 rfl ?_
        refine lv_lmul hx hb dS_holds_41 ?_
        refine lv_lstore (lv' := [(5, .long (((fb rule.toNatClampNeg).toInt64) * rises.toInt64)), (3, .long (fS_sum fw fr fb cnt kind rises total going width cf ct (rule * 5))), (0, .ref r0), (1, .int rule), (2, .ref h0)]) hx hb dS_holds_42 hl (by decide) rfl (fun ls hl => ?_)
        refine lv_aload_n hx hb dS_holds_44 rfl (lv_at hl 2 rfl) ?_
        refine va_get (D := (dC, dI)) (ci := 2) (v := .ref ar) (C := RS) (T := TS) (N := 4) hx hb hts inS hown hK hP 0 rfl rfl 1 (by decide) (hts _ gw_44) (fun _ h9 => h9) rfl dS_holds_45 ?_
        refine lv_iload_n hx hb dS_holds_48 rfl (lv_at hl 3 rfl) ?_
        have b_5 : vp_in rule 8 := tin (by decide) c_1 (tin_u c_3)
        refine va_cald hx hb hK hP 2 1 rfl rfl b_5 dS_holds_49 ?_
        refine lv_bipush (v := 60) hx hb dS_holds_50 (by decide) ?_
        refine lv_icmp_ne (tgt := 68) hx hb dS_holds_52 (by decide) (fun c_6 => ?_) (fun c_6 => ?_)
        · skip
          refine lv_aload_n hx hb dS_holds_68 rfl (lv_at hl 2 rfl) ?_
          refine va_get (D := (dC, dI)) (ci := 2) (v := .ref ar) (C := RS) (T := TS) (N := 4) hx hb hts inS hown hK hP 0 rfl rfl 1 (by decide) (hts _ gw_44) (fun _ h9 => h9) rfl dS_holds_69 ?_
          refine lv_iload_n hx hb dS_holds_72 rfl (lv_at hl 3 rfl) ?_
          have b_7 : vp_in rule 8 := tin (by decide) c_1 (tin_u c_3)
          refine va_cald hx hb hK hP 2 1 rfl rfl b_7 dS_holds_73 ?_
          refine lv_bipush (v := 62) hx hb dS_holds_74 (by decide) ?_
          refine lv_icmp_ne (tgt := 92) hx hb dS_holds_76 (by decide) (fun c_8 => ?_) (fun c_8 => ?_)
          · skip
            refine lv_lload_n hx hb dS_holds_92 rfl (lv_at hl 1 rfl) ?_
            refine lv_lload hx hb dS_holds_93 (lv_at hl 0 rfl) ?_
            refine tl_ne (tgt := 103) hx hb dS_holds_95 dS_holds_96 (by decide) (fun c_9 => ?_) (fun c_9 => ?_)
            · skip
              refine lv_iconst (v := 0) hx hb dS_holds_103 (by decide) ?_
              exact W.zret (v := 0) hx hb hr (rfl) (fun t ht hW => ⟨by rw [show fS_holds fw fr fb cnt kind rises total going width cf ct rule = false from by unfold fS_holds; rw [if_neg c_1, if_neg c_2, if_pos c_3, if_neg c_6, if_neg c_8, if_neg c_9]]; rfl, ht⟩) (fun q h => by cases h) dS_holds_104
            · skip
              refine lv_iconst (v := 1) hx hb dS_holds_99 (by decide) ?_
              refine lv_goto (tgt := 104) hx hb dS_holds_100 (by decide) ?_
              exact W.zret (v := 1) hx hb hr (rfl) (fun t ht hW => ⟨by rw [show fS_holds fw fr fb cnt kind rises total going width cf ct rule = true from by unfold fS_holds; rw [if_neg c_1, if_neg c_2, if_pos c_3, if_neg c_6, if_neg c_8, if_pos c_9]]; rfl, ht⟩) (fun q h => by cases h) dS_holds_104
          · skip
            refine lv_lload_n hx hb dS_holds_79 rfl (lv_at hl 1 rfl) ?_
            refine lv_lload hx hb dS_holds_80 (lv_at hl 0 rfl) ?_
            refine tl_le (tgt := 90) hx hb dS_holds_82 dS_holds_83 (by decide) (fun c_10 => ?_) (fun c_10 => ?_)
            · skip
              refine lv_iconst (v := 0) hx hb dS_holds_90 (by decide) ?_
              exact W.zret (v := 0) hx hb hr (rfl) (fun t ht hW => ⟨by rw [show fS_holds fw fr fb cnt kind rises total going width cf ct rule = false from by unfold fS_holds; rw [if_neg c_1, if_neg c_2, if_pos c_3, if_neg c_6, if_pos c_8, if_pos c_10]]; rfl, ht⟩) (fun q h => by cases h) dS_holds_91
            · skip
              refine lv_iconst (v := 1) hx hb dS_holds_86 (by decide) ?_
              refine lv_goto (tgt := 91) hx hb dS_holds_87 (by decide) ?_
              exact W.zret (v := 1) hx hb hr (rfl) (fun t ht hW => ⟨by rw [show fS_holds fw fr fb cnt kind rises total going width cf ct rule = true from by unfold fS_holds; rw [if_neg c_1, if_neg c_2, if_pos c_3, if_neg c_6, if_pos c_8, if_neg c_10]]; rfl, ht⟩) (fun q h => by cases h) dS_holds_91
        · skip
          refine lv_lload_n hx hb dS_holds_55 rfl (lv_at hl 1 rfl) ?_
          refine lv_lload hx hb dS_holds_56 (lv_at hl 0 rfl) ?_
          refine tl_ge (tgt := 66) hx hb dS_holds_58 dS_holds_59 (by decide) (fun c_11 => ?_) (fun c_11 => ?_)
          · skip
            refine lv_iconst (v := 0) hx hb dS_holds_66 (by decide) ?_
            exact W.zret (v := 0) hx hb hr (rfl) (fun t ht hW => ⟨by rw [show fS_holds fw fr fb cnt kind rises total going width cf ct rule = false from by unfold fS_holds; rw [if_neg c_1, if_neg c_2, if_pos c_3, if_pos c_6, if_pos c_11]]; rfl, ht⟩) (fun q h => by cases h) dS_holds_67
          · skip
            refine lv_iconst (v := 1) hx hb dS_holds_62 (by decide) ?_
            refine lv_goto (tgt := 67) hx hb dS_holds_63 (by decide) ?_
            exact W.zret (v := 1) hx hb hr (rfl) (fun t ht hW => ⟨by rw [show fS_holds fw fr fb cnt kind rises total going width cf ct rule = true from by unfold fS_holds; rw [if_neg c_1, if_neg c_2, if_pos c_3, if_pos c_6, if_neg c_11]]; rfl, ht⟩) (fun q h => by cases h) dS_holds_67
      · skip
        refine lv_iconst (v := 0) hx hb dS_holds_18 (by decide) ?_
        exact W.zret (v := 0) hx hb hr (rfl) (fun t ht hW => ⟨by rw [show fS_holds fw fr fb cnt kind rises total going width cf ct rule = false from by unfold fS_holds; rw [if_neg c_1, if_neg c_2, if_neg c_3]]; rfl, ht⟩) (fun q h => by cases h) dS_holds_19

def heldL (fw : Nat → Int32) (fr : Nat → Int32) (fb : Nat → Int32) (rc : Nat) (kind : Int32) (rises : Int32) (total : Int64) (going : Int64) (width : Int64) (cf : Int32) (ct : Int32) : Nat → Nat → Nat
  | 0, k => k
  | n + 1, k => if fS_holds fw fr fb (nI rc) kind rises total going width cf ct (nI k) = true then heldL fw fr fb rc kind rises total going width cf ct n (k + 1) else k
def fS_held (fw : Nat → Int32) (fr : Nat → Int32) (fb : Nat → Int32) (rc : Nat) (kind : Int32) (rises : Int32) (total : Int64) (going : Int64) (width : Int64) (cf : Int32) (ct : Int32) : Int32 := nI (heldL fw fr fb rc kind rises total going width cf ct rc 0)

set_option maxHeartbeats 4000000 in
set_option maxRecDepth 100000 in
theorem c_S_held (l : Launch) (dC : Nat → ClassId) (dI : Nat → Nat → Nat) (r0 : Nat) (aw : Nat) (ar : Nat) (ab : Nat) (cw : ClassId) (cr : ClassId) (cb : ClassId) (fw : Nat → Int32) (fr : Nat → Int32) (fb : Nat → Int32) (rc : Nat) (h0 : Nat) (kind : Int32) (rises : Int32) (total : Int64) (going : Int64) (width : Int64) (cf : Int32) (ct : Int32) (hc : rc ≤ 8) : Met l mS_heldFromFirst wS_heldFromFirst ({ frames := 2, cells := 0, slots := 0, locals := 50 }) (tp_R (dC, dI) vCl [.ref r0, .ref h0] [(r0, .inr (2, [.ref aw, .ref ar, .ref ab, .int (nI rc)])), (aw, .inl (cw, 40, .inl fw)), (ar, .inl (cr, 8, .inl fr)), (ab, .inl (cb, 8, .inl fb)), (h0, .inr (4, [.int kind, .int rises, .long total, .long going, .long width, .int cf, .int ct]))] [(cw, .int), (cr, .char), (cb, .int)]) (tq_R (some (.int (fS_held fw fr fb rc kind rises total going width cf ct)))) 0 0 (fun _ => False) := by
  refine Met.ofW (cc := bS_heldFromFirst) (maxL := 3) (ret := (some .int)) (by decide) rfl ?_
  intro p e s m args below meth c s₁ B hml hv
  obtain ⟨rfl, hP, hK, hN⟩ := hv
  have hx := B.exec
  have hb := B.bytes
  have hr := B.returns
  have hts : ∀ w ∈ gT, w.before _ s = true := fun w h => atoms_spec (ws := wS_heldFromFirst) B.pre w (List.mem_cons_of_mem _ h)
  have hown : s.vm.findClass RS = some m.cls := findClass_of_methodNamed B.named
  have hlocks := B.notSynchronized
  have hP : va_P (dC, dI) vCl [(r0, .inr (2, [.ref aw, .ref ar, .ref ab, .int (nI rc)])), (aw, .inl (cw, 40, .inl fw)), (ar, .inl (cr, 8, .inl fr)), (ab, .inl (cb, 8, .inl fb)), (h0, .inr (4, [.int kind, .int rises, .long total, .long going, .long width, .int cf, .int ct]))] s.heap := hP
  have hl := lv_entry ([.ref r0, .ref h0]) (n := 3) (Nat.le_of_ble_eq_true rfl)
  rw [lg_entry_eq]
  generalize (lg_sl ([.ref r0, .ref h0]) ++ List.replicate (3 - (lg_sl ([.ref r0, .ref h0])).length) Slot.unset).toArray = ls at hl ⊢
  have hl : lv_has ls 3 [(0, .ref r0), (1, .ref h0)] := hl
  have loop : ∀ (n : Nat) (k : Nat) (hk : n + k = rc) (hR : heldL fw fr fb rc kind rises total going width cf ct n k = heldL fw fr fb rc kind rises total going width cf ct rc 0) (ls : Array Slot), lv_has ls 3 [(2, .int (nI k)), (0, .ref r0), (1, .ref h0)] → W p l e (headSpec wS_heldFromFirst ({ frames := 2, cells := 0, slots := 0, locals := 50 })).room s m ([.ref r0, .ref h0] : List Value).toArray below meth c s.heap [] 0 0 (MQ below (tq_R (some (.int (fS_held fw fr fb rc kind rises total going width cf ct)))) ([.ref r0, .ref h0] : List Value).toArray s 0 0 (fun _ => False)) (F0 m 2 ls []) := by
    intro n
    induction n with
    | zero =>
      intro k hk hR ls hl
      refine lv_iload_n hx hb dS_heldFromFirst_2 rfl (lv_at hl 0 rfl) ?_
      refine lv_aload_n hx hb dS_heldFromFirst_3 rfl (lv_at hl 1 rfl) ?_
      refine va_get (D := (dC, dI)) (ci := 2) (v := .int (nI rc)) (C := RS) (T := TS) (N := 4) hx hb hts inS hown hK hP 0 rfl rfl 3 (by decide) (hts _ gw_46) (fun _ h9 => h9) rfl dS_heldFromFirst_4 ?_
      refine lv_icmp_ge (tgt := 25) hx hb dS_heldFromFirst_7 (by decide) (fun c_1 => ?_) (fun c_1 => absurd (by rw [show k = rc by omega]; exact Int32.le_refl _) c_1)
      refine lv_iload_n hx hb dS_heldFromFirst_25 rfl (lv_at hl 0 rfl) ?_
      exact W.iret (v := nI k) hx hb hr (fun t ht hW => ⟨by rw [fS_held, ← hR, heldL], ht⟩) (fun q h => by cases h) dS_heldFromFirst_26
    | succ n ih =>
      intro k hk hR ls hl
      refine lv_iload_n hx hb dS_heldFromFirst_2 rfl (lv_at hl 0 rfl) ?_
      refine lv_aload_n hx hb dS_heldFromFirst_3 rfl (lv_at hl 1 rfl) ?_
      refine va_get (D := (dC, dI)) (ci := 2) (v := .int (nI rc)) (C := RS) (T := TS) (N := 4) hx hb hts inS hown hK hP 0 rfl rfl 3 (by decide) (hts _ gw_46) (fun _ h9 => h9) rfl dS_heldFromFirst_4 ?_
      refine lv_icmp_ge (tgt := 25) hx hb dS_heldFromFirst_7 (by decide) (fun c_2 => absurd c_2 (nI_ge (by omega) (by omega))) (fun c_2 => ?_)
      refine lv_aload_n hx hb dS_heldFromFirst_10 rfl (lv_at hl 1 rfl) ?_
      refine lv_iload_n hx hb dS_heldFromFirst_11 rfl (lv_at hl 0 rfl) ?_
      refine lv_aload_n hx hb dS_heldFromFirst_12 rfl (lv_at hl 2 rfl) ?_
      refine tr_go (st1 := [.int (bI (fS_holds fw fr fb (nI rc) kind rises total going width cf ct (nI k)))]) (va_runV (As := [.int (nI k), .ref h0]) (rest := []) (C := RS) ⟨hx, hb, hml, hown, hts⟩ (c_S_holds l dC dI r0 aw ar ab cw cr cb fw fr fb (nI rc) h0 kind rises total going width cf ct (nI k)) ⟨cB 2 hts gw_351 gw_3 gw_348 ndS_holds rfl rfl ⟨Nat.le_of_ble_eq_true rfl, Nat.le_of_ble_eq_true rfl⟩, hts _ gw_349, hts _ gw_350⟩ (tp_Rv hN hK hP [0, 1, 2, 3, 4] [0, 1, 2] rfl rfl (q0 := 0) (ci := 2) rfl rfl) rfl rfl hl.1 rfl (lv_room (Nat.le_of_ble_eq_true rfl)) dS_heldFromFirst_13 ⟨Nat.le_of_ble_eq_true rfl, Nat.le_of_ble_eq_true rfl⟩) rfl ?_
      refine tb_ifeq (tgt := 25) hx hb dS_heldFromFirst_16 (by decide) (fun c_3 => ?_) (fun c_3 => ?_)
      · skip
        refine lv_iload_n hx hb dS_heldFromFirst_25 rfl (lv_at hl 0 rfl) ?_
        exact W.iret (v := nI k) hx hb hr (fun t ht hW => ⟨by rw [fS_held, ← hR, heldL, if_neg (Bool.eq_false_iff.mp c_3)], ht⟩) (fun q h => by cases h) dS_heldFromFirst_26
      · skip
        refine lv_iinc (v := nI (k + 1)) (lv' := [(2, .int (nI (k + 1))), (0, .ref r0), (1, .ref h0)]) hx hb dS_heldFromFirst_19 hl (k := 0) rfl (by rw [nI_succ]; rfl) (by decide) rfl (fun ls hl => ?_)
        refine lv_goto (tgt := 2) hx hb dS_heldFromFirst_22 (by decide) ?_
        exact ih (k + 1) (by omega) (by rw [heldL, if_pos c_3] at hR; exact hR) ls (lv_sub hl [0, 1, 2] rfl)
  refine lv_iconst (v := 0) hx hb dS_heldFromFirst_0 (by decide) ?_
  refine lv_istore_n (lv' := [(2, .int 0), (0, .ref r0), (1, .ref h0)]) hx hb dS_heldFromFirst_1 rfl hl (by decide) rfl (fun ls hl => ?_)
  exact loop rc 0 rfl rfl ls (lv_sub hl [0, 1, 2] rfl)

def clrL : Nat → Nat → (Nat → Int32) → Nat → Int32
  | 0, _, f => f
  | n + 1, k, f => clrL n (k + 1) (upd f (nI k).toNatClampNeg 0)

set_option maxHeartbeats 4000000 in
set_option maxRecDepth 100000 in
theorem c_S_clear (l : Launch) (dC : Nat → ClassId) (dI : Nat → Nat → Nat) (r0 : Nat) (aw : Nat) (ar : Nat) (ab : Nat) (cw : ClassId) (cr : ClassId) (cb : ClassId) (fw : Nat → Int32) (fr : Nat → Int32) (fb : Nat → Int32) (cnt : Int32) : Met l mS_clear wS_clear ({ frames := 0, cells := 0, slots := 0, locals := 0 }) (tp_W (dC, dI) vCl [.ref r0] [(r0, .inr (2, [.ref aw, .ref ar, .ref ab, .int cnt])), (aw, .inl (cw, 40, .inl fw)), (ar, .inl (cr, 8, .inl fr)), (ab, .inl (cb, 8, .inl fb))] [(cw, .int), (cr, .char), (cb, .int)]) (tq_W (dC, dI) vCl (none) [(r0, .inr (2, [.ref aw, .ref ar, .ref ab, .int cnt])), (aw, .inl (cw, 40, .inl fw)), (ar, .inl (cr, 8, .inl fr)), (ab, .inl (cb, 8, .inl fb))] [(r0, .inr (2, [.ref aw, .ref ar, .ref ab, .int 0])), (aw, .inl (cw, 40, .inl (clrL 40 0 fw))), (ar, .inl (cr, 8, .inl fr)), (ab, .inl (cb, 8, .inl fb))]) 0 0 (tA [(r0, .inr (2, [.ref aw, .ref ar, .ref ab, .int cnt])), (aw, .inl (cw, 40, .inl fw)), (ar, .inl (cr, 8, .inl fr)), (ab, .inl (cb, 8, .inl fb))]) := by
  refine Met.ofW (cc := bS_clear) (maxL := 2) (ret := none) (by decide) rfl ?_
  intro p e s m args below meth c s₁ B hml hv
  obtain ⟨rfl, hP, hK, hN, hD0⟩ := hv
  have hx := B.exec
  have hb := B.bytes
  have hr := B.returns
  have hts : ∀ w ∈ gT, w.before _ s = true := fun w h => atoms_spec (ws := wS_clear) B.pre w (List.mem_cons_of_mem _ h)
  have hown : s.vm.findClass RS = some m.cls := findClass_of_methodNamed B.named
  have hlocks := B.notSynchronized
  have hD := tA_D hD0
  generalize hAe : tA [(r0, .inr (2, [.ref aw, .ref ar, .ref ab, .int cnt])), (aw, .inl (cw, 40, .inl fw)), (ar, .inl (cr, 8, .inl fr)), (ab, .inl (cb, 8, .inl fb))] = A at hD ⊢
  have hS : va_S A s.heap s.heap [] := va_S.rf
  have hP : va_P (dC, dI) vCl [(r0, .inr (2, [.ref aw, .ref ar, .ref ab, .int cnt])), (aw, .inl (cw, 40, .inl fw)), (ar, .inl (cr, 8, .inl fr)), (ab, .inl (cb, 8, .inl fb))] s.heap := hP
  have hl := lv_entry ([.ref r0]) (n := 2) (Nat.le_of_ble_eq_true rfl)
  rw [lg_entry_eq]
  generalize (lg_sl ([.ref r0]) ++ List.replicate (2 - (lg_sl ([.ref r0])).length) Slot.unset).toArray = ls at hl ⊢
  have hl : lv_has ls 2 [(0, .ref r0)] := hl
  have loop : ∀ (n : Nat) (k : Nat) (f : Nat → Int32) (hk : n + k = 40) (hR : clrL n k f = clrL 40 0 fw) (H : Heap) (locs : List Loc) (hP : va_P (dC, dI) vCl [(r0, .inr (2, [.ref aw, .ref ar, .ref ab, .int 0])), (aw, .inl (cw, 40, .inl f)), (ar, .inl (cr, 8, .inl fr)), (ab, .inl (cb, 8, .inl fb))] H) (hD : va_D A [(r0, .inr (2, [.ref aw, .ref ar, .ref ab, .int 0])), (aw, .inl (cw, 40, .inl f)), (ar, .inl (cr, 8, .inl fr)), (ab, .inl (cb, 8, .inl fb))]) (hS : va_S A s.heap H locs) (ls : Array Slot), lv_has ls 2 [(1, .int (nI k)), (0, .ref r0)] → W p l e (headSpec wS_clear ({ frames := 0, cells := 0, slots := 0, locals := 0 })).room s m ([.ref r0] : List Value).toArray below meth c H locs 0 0 (MQ below (tq_W (dC, dI) vCl (none) [(r0, .inr (2, [.ref aw, .ref ar, .ref ab, .int cnt])), (aw, .inl (cw, 40, .inl fw)), (ar, .inl (cr, 8, .inl fr)), (ab, .inl (cb, 8, .inl fb))] [(r0, .inr (2, [.ref aw, .ref ar, .ref ab, .int 0])), (aw, .inl (cw, 40, .inl (clrL 40 0 fw))), (ar, .inl (cr, 8, .inl fr)), (ab, .inl (cb, 8, .inl fb))]) ([.ref r0] : List Value).toArray s 0 0 A) (F0 m 7 ls []) := by
    intro n
    induction n with
    | zero =>
      intro k f hk hR H locs hP hD hS ls hl
      refine lv_iload_n hx hb dS_clear_7 rfl (lv_at hl 0 rfl) ?_
      refine lv_aload_n hx hb dS_clear_8 rfl (lv_at hl 1 rfl) ?_
      refine va_get (D := (dC, dI)) (ci := 2) (v := .ref aw) (C := RS) (T := TS) (N := 4) hx hb hts inS hown hK hP 0 rfl rfl 0 (by decide) (hts _ gw_43) (fun _ h9 => h9) rfl dS_clear_9 ?_
      refine va_alen (v := 40) hx hb hK hP 1 0 rfl rfl rfl dS_clear_12 ?_
      refine lv_icmp_ge (tgt := 29) hx hb dS_clear_13 (by decide) (fun c_1 => ?_) (fun c_1 => absurd (by rw [show k = 40 by omega]; decide) c_1)
      exact W.vret hx hb hr (fun t ht hW => ⟨rfl, by rw [ht, ← hR, clrL]; exact hP, by rw [hAe]; exact hS.F ht⟩) hS.2.2 dS_clear_29
    | succ n ih =>
      intro k f hk hR H locs hP hD hS ls hl
      refine lv_iload_n hx hb dS_clear_7 rfl (lv_at hl 0 rfl) ?_
      refine lv_aload_n hx hb dS_clear_8 rfl (lv_at hl 1 rfl) ?_
      refine va_get (D := (dC, dI)) (ci := 2) (v := .ref aw) (C := RS) (T := TS) (N := 4) hx hb hts inS hown hK hP 0 rfl rfl 0 (by decide) (hts _ gw_43) (fun _ h9 => h9) rfl dS_clear_9 ?_
      refine va_alen (v := 40) hx hb hK hP 1 0 rfl rfl rfl dS_clear_12 ?_
      refine lv_icmp_ge (tgt := 29) hx hb dS_clear_13 (by decide) (fun c_2 => absurd c_2 ((nI_ge (by omega) (by decide) : ¬ nI 40 ≤ nI k))) (fun c_2 => ?_)
      refine lv_aload_n hx hb dS_clear_16 rfl (lv_at hl 1 rfl) ?_
      refine va_get (D := (dC, dI)) (ci := 2) (v := .ref aw) (C := RS) (T := TS) (N := 4) hx hb hts inS hown hK hP 0 rfl rfl 0 (by decide) (hts _ gw_43) (fun _ h9 => h9) rfl dS_clear_17 ?_
      refine lv_iload_n hx hb dS_clear_20 rfl (lv_at hl 0 rfl) ?_
      refine lv_iconst (v := 0) hx hb dS_clear_21 (by decide) ?_
      have b_3 : vp_in (nI k) 40 := vp_in_nI (by omega) (by decide)
      refine va_iast hx hb hK hP hD hS 1 0 rfl rfl b_3 dS_clear_22 (fun H locs hP hD hS => ?_)
      have hP : va_P (dC, dI) vCl [(r0, .inr (2, [.ref aw, .ref ar, .ref ab, .int 0])), (aw, .inl (cw, 40, .inl (upd f (nI k).toNatClampNeg 0))), (ar, .inl (cr, 8, .inl fr)), (ab, .inl (cb, 8, .inl fb))] H := hP
      have hD : va_D A [(r0, .inr (2, [.ref aw, .ref ar, .ref ab, .int 0])), (aw, .inl (cw, 40, .inl (upd f (nI k).toNatClampNeg 0))), (ar, .inl (cr, 8, .inl fr)), (ab, .inl (cb, 8, .inl fb))] := hD
      refine lv_iinc (v := nI (k + 1)) (lv' := [(1, .int (nI (k + 1))), (0, .ref r0)]) hx hb dS_clear_23 hl (k := 0) rfl (by rw [nI_succ]; rfl) (by decide) rfl (fun ls hl => ?_)
      refine lv_goto (tgt := 7) hx hb dS_clear_26 (by decide) ?_
      exact ih (k + 1) (upd f (nI k).toNatClampNeg 0) (by omega) (by rw [clrL] at hR; exact hR) _ _ hP hD hS ls (lv_sub hl [0, 1] rfl)
  refine lv_aload_n hx hb dS_clear_0 rfl (lv_at hl 0 rfl) ?_
  refine lv_iconst (v := 0) hx hb dS_clear_1 (by decide) ?_
  refine va_put (D := (dC, dI)) (ci := 2) (v := .int 0) (ty := .int) (C := RS) (T := TS) (N := 4) hx hb hts inS yS yoS noS hown hK hP hD hS 0 rfl rfl 3 (by decide) (hts _ gw_46) (fun _ h9 => h9) rfl (by decide +kernel) rfl rfl (Nat.le_of_ble_eq_true rfl) dS_clear_2 (fun H locs hP hD hS => ?_)
  have hP : va_P (dC, dI) vCl [(r0, .inr (2, [.ref aw, .ref ar, .ref ab, .int 0])), (aw, .inl (cw, 40, .inl fw)), (ar, .inl (cr, 8, .inl fr)), (ab, .inl (cb, 8, .inl fb))] H := hP
  have hD : va_D A [(r0, .inr (2, [.ref aw, .ref ar, .ref ab, .int 0])), (aw, .inl (cw, 40, .inl fw)), (ar, .inl (cr, 8, .inl fr)), (ab, .inl (cb, 8, .inl fb))] := hD
  refine lv_iconst (v := 0) hx hb dS_clear_5 (by decide) ?_
  refine lv_istore_n (lv' := [(1, .int 0), (0, .ref r0)]) hx hb dS_clear_6 rfl hl (by decide) rfl (fun ls hl => ?_)
  exact loop 40 0 fw rfl rfl _ _ hP hD hS ls (lv_sub hl [0, 1] rfl)

def fS_add_a1 (fw : Nat → Int32) (fr : Nat → Int32) (fb : Nat → Int32) (rc : Nat) (wt : Int32) (lt : Int32) : Nat → Int32 := if 8 ≤ (nI rc) then fw else (if lt < 0 then fw else (if 5 ≤ lt then fw else (upd fw (((nI rc) * 5) + lt).toNatClampNeg ((fw (((nI rc) * 5) + lt).toNatClampNeg) + wt))))
set_option maxHeartbeats 4000000 in
set_option maxRecDepth 100000 in
theorem c_S_add (l : Launch) (dC : Nat → ClassId) (dI : Nat → Nat → Nat) (r0 : Nat) (aw : Nat) (ar : Nat) (ab : Nat) (cw : ClassId) (cr : ClassId) (cb : ClassId) (fw : Nat → Int32) (fr : Nat → Int32) (fb : Nat → Int32) (rc : Nat) (wt : Int32) (lt : Int32) (hc : rc ≤ 8) : Met l mS_addTerm wS_addTerm ({ frames := 0, cells := 0, slots := 0, locals := 0 }) (tp_W (dC, dI) vCl [.ref r0, .int wt, .int lt] [(r0, .inr (2, [.ref aw, .ref ar, .ref ab, .int (nI rc)])), (aw, .inl (cw, 40, .inl fw)), (ar, .inl (cr, 8, .inl fr)), (ab, .inl (cb, 8, .inl fb))] [(cw, .int), (cr, .char), (cb, .int)]) (tq_W (dC, dI) vCl (none) [(r0, .inr (2, [.ref aw, .ref ar, .ref ab, .int (nI rc)])), (aw, .inl (cw, 40, .inl fw)), (ar, .inl (cr, 8, .inl fr)), (ab, .inl (cb, 8, .inl fb))] [(r0, .inr (2, [.ref aw, .ref ar, .ref ab, .int (nI rc)])), (aw, .inl (cw, 40, .inl (fS_add_a1 fw fr fb rc wt lt))), (ar, .inl (cr, 8, .inl fr)), (ab, .inl (cb, 8, .inl fb))]) 0 0 (tA [(r0, .inr (2, [.ref aw, .ref ar, .ref ab, .int (nI rc)])), (aw, .inl (cw, 40, .inl fw)), (ar, .inl (cr, 8, .inl fr)), (ab, .inl (cb, 8, .inl fb))]) := by
  refine Met.ofW (cc := bS_addTerm) (maxL := 3) (ret := none) (by decide) rfl ?_
  intro p e s m args below meth c s₁ B hml hv
  obtain ⟨rfl, hP, hK, hN, hD0⟩ := hv
  have hx := B.exec
  have hb := B.bytes
  have hr := B.returns
  have hts : ∀ w ∈ gT, w.before _ s = true := fun w h => atoms_spec (ws := wS_addTerm) B.pre w (List.mem_cons_of_mem _ h)
  have hown : s.vm.findClass RS = some m.cls := findClass_of_methodNamed B.named
  have hlocks := B.notSynchronized
  have hD := tA_D hD0
  generalize hAe : tA [(r0, .inr (2, [.ref aw, .ref ar, .ref ab, .int (nI rc)])), (aw, .inl (cw, 40, .inl fw)), (ar, .inl (cr, 8, .inl fr)), (ab, .inl (cb, 8, .inl fb))] = A at hD ⊢
  have hS : va_S A s.heap s.heap [] := va_S.rf
  have hP : va_P (dC, dI) vCl [(r0, .inr (2, [.ref aw, .ref ar, .ref ab, .int (nI rc)])), (aw, .inl (cw, 40, .inl fw)), (ar, .inl (cr, 8, .inl fr)), (ab, .inl (cb, 8, .inl fb))] s.heap := hP
  have hl := lv_entry ([.ref r0, .int wt, .int lt]) (n := 3) (Nat.le_of_ble_eq_true rfl)
  rw [lg_entry_eq]
  generalize (lg_sl ([.ref r0, .int wt, .int lt]) ++ List.replicate (3 - (lg_sl ([.ref r0, .int wt, .int lt])).length) Slot.unset).toArray = ls at hl ⊢
  have hl : lv_has ls 3 [(0, .ref r0), (1, .int wt), (2, .int lt)] := hl
  refine lv_aload_n hx hb dS_addTerm_0 rfl (lv_at hl 0 rfl) ?_
  refine va_get (D := (dC, dI)) (ci := 2) (v := .int (nI rc)) (C := RS) (T := TS) (N := 4) hx hb hts inS hown hK hP 0 rfl rfl 3 (by decide) (hts _ gw_46) (fun _ h9 => h9) rfl dS_addTerm_1 ?_
  refine lv_bipush (v := 8) hx hb dS_addTerm_4 (by decide) ?_
  refine lv_icmp_ge (tgt := 35) hx hb dS_addTerm_6 (by decide) (fun c_1 => ?_) (fun c_1 => ?_)
  · skip
    exact W.vret hx hb hr (fun t ht hW => ⟨rfl, by rw [ht, show fS_add_a1 fw fr fb rc wt lt = fw from by unfold fS_add_a1; rw [if_pos c_1]]; exact hP, by rw [hAe]; exact hS.F ht⟩) hS.2.2 dS_addTerm_35
  · skip
    refine lv_iload_n hx hb dS_addTerm_9 rfl (lv_at hl 2 rfl) ?_
    refine lv_if_lt (tgt := 35) hx hb dS_addTerm_10 (by decide) (fun c_2 => ?_) (fun c_2 => ?_)
    · skip
      exact W.vret hx hb hr (fun t ht hW => ⟨rfl, by rw [ht, show fS_add_a1 fw fr fb rc wt lt = fw from by unfold fS_add_a1; rw [if_neg c_1, if_pos c_2]]; exact hP, by rw [hAe]; exact hS.F ht⟩) hS.2.2 dS_addTerm_35
    · skip
      refine lv_iload_n hx hb dS_addTerm_13 rfl (lv_at hl 2 rfl) ?_
      refine lv_iconst (v := 5) hx hb dS_addTerm_14 (by decide) ?_
      refine lv_icmp_ge (tgt := 35) hx hb dS_addTerm_15 (by decide) (fun c_3 => ?_) (fun c_3 => ?_)
      · skip
        exact W.vret hx hb hr (fun t ht hW => ⟨rfl, by rw [ht, show fS_add_a1 fw fr fb rc wt lt = fw from by unfold fS_add_a1; rw [if_neg c_1, if_neg c_2, if_pos c_3]]; exact hP, by rw [hAe]; exact hS.F ht⟩) hS.2.2 dS_addTerm_35
      · skip
        refine lv_aload_n hx hb dS_addTerm_18 rfl (lv_at hl 0 rfl) ?_
        refine va_get (D := (dC, dI)) (ci := 2) (v := .ref aw) (C := RS) (T := TS) (N := 4) hx hb hts inS hown hK hP 0 rfl rfl 0 (by decide) (hts _ gw_43) (fun _ h9 => h9) rfl dS_addTerm_19 ?_
        refine lv_aload_n hx hb dS_addTerm_22 rfl (lv_at hl 0 rfl) ?_
        refine va_get (D := (dC, dI)) (ci := 2) (v := .int (nI rc)) (C := RS) (T := TS) (N := 4) hx hb hts inS hown hK hP 0 rfl rfl 3 (by decide) (hts _ gw_46) (fun _ h9 => h9) rfl dS_addTerm_23 ?_
        refine lv_iconst (v := 5) hx hb dS_addTerm_26 (by decide) ?_
        refine lv_imul hx hb dS_addTerm_27 ?_
        refine lv_iload_n hx hb dS_addTerm_28 rfl (lv_at hl 2 rfl) ?_
        refine lv_iadd hx hb dS_addTerm_29 ?_
        refine lv_dup2_11 hx hb dS_addTerm_30 rfl rfl ?_
        have b_4 : vp_in (((nI rc) * 5) + lt) 40 := tin_40 hc c_1 c_2 c_3
        refine va_iald hx hb hK hP 1 0 rfl rfl b_4 dS_addTerm_31 ?_
        refine lv_iload_n hx hb dS_addTerm_32 rfl (lv_at hl 1 rfl) ?_
        refine lv_iadd hx hb dS_addTerm_33 ?_
        have b_5 : vp_in (((nI rc) * 5) + lt) 40 := tin_40 hc c_1 c_2 c_3
        refine va_iast hx hb hK hP hD hS 1 0 rfl rfl b_5 dS_addTerm_34 (fun H locs hP hD hS => ?_)
        have hP : va_P (dC, dI) vCl [(r0, .inr (2, [.ref aw, .ref ar, .ref ab, .int (nI rc)])), (aw, .inl (cw, 40, .inl (upd fw (((nI rc) * 5) + lt).toNatClampNeg ((fw (((nI rc) * 5) + lt).toNatClampNeg) + wt)))), (ar, .inl (cr, 8, .inl fr)), (ab, .inl (cb, 8, .inl fb))] H := hP
        have hD : va_D A [(r0, .inr (2, [.ref aw, .ref ar, .ref ab, .int (nI rc)])), (aw, .inl (cw, 40, .inl (upd fw (((nI rc) * 5) + lt).toNatClampNeg ((fw (((nI rc) * 5) + lt).toNatClampNeg) + wt)))), (ar, .inl (cr, 8, .inl fr)), (ab, .inl (cb, 8, .inl fb))] := hD
        exact W.vret hx hb hr (fun t ht hW => ⟨rfl, by rw [ht, show fS_add_a1 fw fr fb rc wt lt = upd fw (((nI rc) * 5) + lt).toNatClampNeg ((fw (((nI rc) * 5) + lt).toNatClampNeg) + wt) from by unfold fS_add_a1; rw [if_neg c_1, if_neg c_2, if_neg c_3]]; exact hP, by rw [hAe]; exact hS.F ht⟩) hS.2.2 dS_addTerm_35

def fS_close_c0f3 (fw : Nat → Int32) (fr : Nat → Int32) (fb : Nat → Int32) (rc : Nat) (rel : Int32) (bd : Int32) : Nat := if 8 ≤ (nI rc) then rc else (rc + 1)
def fS_close_a2 (fw : Nat → Int32) (fr : Nat → Int32) (fb : Nat → Int32) (rc : Nat) (rel : Int32) (bd : Int32) : Nat → Int32 := if 8 ≤ (nI rc) then fr else (upd fr (nI rc).toNatClampNeg (vp_nar .char rel))
def fS_close_a3 (fw : Nat → Int32) (fr : Nat → Int32) (fb : Nat → Int32) (rc : Nat) (rel : Int32) (bd : Int32) : Nat → Int32 := if 8 ≤ (nI rc) then fb else (upd fb (nI rc).toNatClampNeg bd)
set_option maxHeartbeats 4000000 in
set_option maxRecDepth 100000 in
theorem c_S_close (l : Launch) (dC : Nat → ClassId) (dI : Nat → Nat → Nat) (r0 : Nat) (aw : Nat) (ar : Nat) (ab : Nat) (cw : ClassId) (cr : ClassId) (cb : ClassId) (fw : Nat → Int32) (fr : Nat → Int32) (fb : Nat → Int32) (rc : Nat) (rel : Int32) (bd : Int32) (hc : rc ≤ 8) : Met l mS_close wS_close ({ frames := 0, cells := 0, slots := 0, locals := 0 }) (tp_W (dC, dI) vCl [.ref r0, .int rel, .int bd] [(r0, .inr (2, [.ref aw, .ref ar, .ref ab, .int (nI rc)])), (aw, .inl (cw, 40, .inl fw)), (ar, .inl (cr, 8, .inl fr)), (ab, .inl (cb, 8, .inl fb))] [(cw, .int), (cr, .char), (cb, .int)]) (tq_W (dC, dI) vCl (none) [(r0, .inr (2, [.ref aw, .ref ar, .ref ab, .int (nI rc)])), (aw, .inl (cw, 40, .inl fw)), (ar, .inl (cr, 8, .inl fr)), (ab, .inl (cb, 8, .inl fb))] [(r0, .inr (2, [.ref aw, .ref ar, .ref ab, .int (nI (fS_close_c0f3 fw fr fb rc rel bd))])), (aw, .inl (cw, 40, .inl fw)), (ar, .inl (cr, 8, .inl (fS_close_a2 fw fr fb rc rel bd))), (ab, .inl (cb, 8, .inl (fS_close_a3 fw fr fb rc rel bd)))]) 0 0 (tA [(r0, .inr (2, [.ref aw, .ref ar, .ref ab, .int (nI rc)])), (aw, .inl (cw, 40, .inl fw)), (ar, .inl (cr, 8, .inl fr)), (ab, .inl (cb, 8, .inl fb))]) := by
  refine Met.ofW (cc := bS_close) (maxL := 3) (ret := none) (by decide) rfl ?_
  intro p e s m args below meth c s₁ B hml hv
  obtain ⟨rfl, hP, hK, hN, hD0⟩ := hv
  have hx := B.exec
  have hb := B.bytes
  have hr := B.returns
  have hts : ∀ w ∈ gT, w.before _ s = true := fun w h => atoms_spec (ws := wS_close) B.pre w (List.mem_cons_of_mem _ h)
  have hown : s.vm.findClass RS = some m.cls := findClass_of_methodNamed B.named
  have hlocks := B.notSynchronized
  have hD := tA_D hD0
  generalize hAe : tA [(r0, .inr (2, [.ref aw, .ref ar, .ref ab, .int (nI rc)])), (aw, .inl (cw, 40, .inl fw)), (ar, .inl (cr, 8, .inl fr)), (ab, .inl (cb, 8, .inl fb))] = A at hD ⊢
  have hS : va_S A s.heap s.heap [] := va_S.rf
  have hP : va_P (dC, dI) vCl [(r0, .inr (2, [.ref aw, .ref ar, .ref ab, .int (nI rc)])), (aw, .inl (cw, 40, .inl fw)), (ar, .inl (cr, 8, .inl fr)), (ab, .inl (cb, 8, .inl fb))] s.heap := hP
  have hl := lv_entry ([.ref r0, .int rel, .int bd]) (n := 3) (Nat.le_of_ble_eq_true rfl)
  rw [lg_entry_eq]
  generalize (lg_sl ([.ref r0, .int rel, .int bd]) ++ List.replicate (3 - (lg_sl ([.ref r0, .int rel, .int bd])).length) Slot.unset).toArray = ls at hl ⊢
  have hl : lv_has ls 3 [(0, .ref r0), (1, .int rel), (2, .int bd)] := hl
  refine lv_aload_n hx hb dS_close_0 rfl (lv_at hl 0 rfl) ?_
  refine va_get (D := (dC, dI)) (ci := 2) (v := .int (nI rc)) (C := RS) (T := TS) (N := 4) hx hb hts inS hown hK hP 0 rfl rfl 3 (by decide) (hts _ gw_46) (fun _ h9 => h9) rfl dS_close_1 ?_
  refine lv_bipush (v := 8) hx hb dS_close_4 (by decide) ?_
  refine lv_icmp_ge (tgt := 39) hx hb dS_close_6 (by decide) (fun c_1 => ?_) (fun c_1 => ?_)
  · skip
    exact W.vret hx hb hr (fun t ht hW => ⟨rfl, by rw [ht, show fS_close_c0f3 fw fr fb rc rel bd = rc from by unfold fS_close_c0f3; rw [if_pos c_1], show fS_close_a2 fw fr fb rc rel bd = fr from by unfold fS_close_a2; rw [if_pos c_1], show fS_close_a3 fw fr fb rc rel bd = fb from by unfold fS_close_a3; rw [if_pos c_1]]; exact hP, by rw [hAe]; exact hS.F ht⟩) hS.2.2 dS_close_39
  · skip
    refine lv_aload_n hx hb dS_close_9 rfl (lv_at hl 0 rfl) ?_
    refine va_get (D := (dC, dI)) (ci := 2) (v := .ref ar) (C := RS) (T := TS) (N := 4) hx hb hts inS hown hK hP 0 rfl rfl 1 (by decide) (hts _ gw_44) (fun _ h9 => h9) rfl dS_close_10 ?_
    refine lv_aload_n hx hb dS_close_13 rfl (lv_at hl 0 rfl) ?_
    refine va_get (D := (dC, dI)) (ci := 2) (v := .int (nI rc)) (C := RS) (T := TS) (N := 4) hx hb hts inS hown hK hP 0 rfl rfl 3 (by decide) (hts _ gw_46) (fun _ h9 => h9) rfl dS_close_14 ?_
    refine lv_iload_n hx hb dS_close_17 rfl (lv_at hl 1 rfl) ?_
    have b_2 : vp_in (nI rc) 8 := tin_c rfl (by decide) (by omega) c_1
    refine va_cast hx hb hK hP hD hS 2 1 rfl rfl b_2 dS_close_18 (fun H locs hP hD hS => ?_)
    have hP : va_P (dC, dI) vCl [(r0, .inr (2, [.ref aw, .ref ar, .ref ab, .int (nI rc)])), (aw, .inl (cw, 40, .inl fw)), (ar, .inl (cr, 8, .inl (upd fr (nI rc).toNatClampNeg (vp_nar .char rel)))), (ab, .inl (cb, 8, .inl fb))] H := hP
    have hD : va_D A [(r0, .inr (2, [.ref aw, .ref ar, .ref ab, .int (nI rc)])), (aw, .inl (cw, 40, .inl fw)), (ar, .inl (cr, 8, .inl (upd fr (nI rc).toNatClampNeg (vp_nar .char rel)))), (ab, .inl (cb, 8, .inl fb))] := hD
    refine lv_aload_n hx hb dS_close_19 rfl (lv_at hl 0 rfl) ?_
    refine va_get (D := (dC, dI)) (ci := 2) (v := .ref ab) (C := RS) (T := TS) (N := 4) hx hb hts inS hown hK hP 0 rfl rfl 2 (by decide) (hts _ gw_45) (fun _ h9 => h9) rfl dS_close_20 ?_
    refine lv_aload_n hx hb dS_close_23 rfl (lv_at hl 0 rfl) ?_
    refine va_get (D := (dC, dI)) (ci := 2) (v := .int (nI rc)) (C := RS) (T := TS) (N := 4) hx hb hts inS hown hK hP 0 rfl rfl 3 (by decide) (hts _ gw_46) (fun _ h9 => h9) rfl dS_close_24 ?_
    refine lv_iload_n hx hb dS_close_27 rfl (lv_at hl 2 rfl) ?_
    have b_3 : vp_in (nI rc) 8 := tin_c rfl (by decide) (by omega) c_1
    refine va_iast hx hb hK hP hD hS 3 2 rfl rfl b_3 dS_close_28 (fun H locs hP hD hS => ?_)
    have hP : va_P (dC, dI) vCl [(r0, .inr (2, [.ref aw, .ref ar, .ref ab, .int (nI rc)])), (aw, .inl (cw, 40, .inl fw)), (ar, .inl (cr, 8, .inl (upd fr (nI rc).toNatClampNeg (vp_nar .char rel)))), (ab, .inl (cb, 8, .inl (upd fb (nI rc).toNatClampNeg bd)))] H := hP
    have hD : va_D A [(r0, .inr (2, [.ref aw, .ref ar, .ref ab, .int (nI rc)])), (aw, .inl (cw, 40, .inl fw)), (ar, .inl (cr, 8, .inl (upd fr (nI rc).toNatClampNeg (vp_nar .char rel)))), (ab, .inl (cb, 8, .inl (upd fb (nI rc).toNatClampNeg bd)))] := hD
    refine lv_aload_n hx hb dS_close_29 rfl (lv_at hl 0 rfl) ?_
    refine lv_dup hx hb dS_close_30 rfl ?_
    refine va_get (D := (dC, dI)) (ci := 2) (v := .int (nI rc)) (C := RS) (T := TS) (N := 4) hx hb hts inS hown hK hP 0 rfl rfl 3 (by decide) (hts _ gw_46) (fun _ h9 => h9) rfl dS_close_31 ?_
    refine lv_iconst (v := 1) hx hb dS_close_34 (by decide) ?_
    refine lv_iadd hx hb dS_close_35 ?_
    rw [nI_1 (rc)]
    refine va_put (D := (dC, dI)) (ci := 2) (v := .int (nI (rc + 1))) (ty := .int) (C := RS) (T := TS) (N := 4) hx hb hts inS yS yoS noS hown hK hP hD hS 0 rfl rfl 3 (by decide) (hts _ gw_46) (fun _ h9 => h9) rfl (by decide +kernel) rfl rfl (Nat.le_of_ble_eq_true rfl) dS_close_36 (fun H locs hP hD hS => ?_)
    have hP : va_P (dC, dI) vCl [(r0, .inr (2, [.ref aw, .ref ar, .ref ab, .int (nI (rc + 1))])), (aw, .inl (cw, 40, .inl fw)), (ar, .inl (cr, 8, .inl (upd fr (nI rc).toNatClampNeg (vp_nar .char rel)))), (ab, .inl (cb, 8, .inl (upd fb (nI rc).toNatClampNeg bd)))] H := hP
    have hD : va_D A [(r0, .inr (2, [.ref aw, .ref ar, .ref ab, .int (nI (rc + 1))])), (aw, .inl (cw, 40, .inl fw)), (ar, .inl (cr, 8, .inl (upd fr (nI rc).toNatClampNeg (vp_nar .char rel)))), (ab, .inl (cb, 8, .inl (upd fb (nI rc).toNatClampNeg bd)))] := hD
    exact W.vret hx hb hr (fun t ht hW => ⟨rfl, by rw [ht, show fS_close_c0f3 fw fr fb rc rel bd = (rc + 1) from by unfold fS_close_c0f3; rw [if_neg c_1], show fS_close_a2 fw fr fb rc rel bd = upd fr (nI rc).toNatClampNeg (vp_nar .char rel) from by unfold fS_close_a2; rw [if_neg c_1], show fS_close_a3 fw fr fb rc rel bd = upd fb (nI rc).toNatClampNeg bd from by unfold fS_close_a3; rw [if_neg c_1]]; exact hP, by rw [hAe]; exact hS.F ht⟩) hS.2.2 dS_close_39
