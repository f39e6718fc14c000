def tch (f : Nat → Int32) : Prop := ∀ j : Nat, narrow .char (.int (f j)) = .int (f j)

def fT_next (ft : Nat → Int32) (tl : Nat) (pn : Nat) : Int32 := if (nI pn) < 0 then 0 else (if (nI tl) ≤ (nI pn) then 0 else (if 120 ≤ (nI pn) then 0 else (ft (nI pn).toNatClampNeg)))
set_option maxHeartbeats 4000000 in
set_option maxRecDepth 100000 in
theorem c_T_next (l : Launch) (dC : Nat → ClassId) (dI : Nat → Nat → Nat) (pT : Nat) (ac : Nat) (ca : ClassId) (ft : Nat → Int32) (tl : Nat) (pn : Nat) (hft : tch ft) (hpn : pn < 2147483648) : Met l mT_next wT_next ({ frames := 0, cells := 0, slots := 0, locals := 0 }) (tp_R (dC, dI) vCl [.ref pT] [(pT, .inr (1, [.ref ac, .int (nI tl), .int (nI pn)])), (ac, .inl (ca, 120, .inl ft))] [(ca, .char)]) (tq_R (some (.int (fT_next ft tl pn)))) 0 0 (fun _ => False) := by
  refine Met.ofW (cc := bT_next) (maxL := 1) (ret := (some .char)) (by decide) rfl ?_
  intro p e s m args below meth c s₁ B hml hv
  obtain ⟨rfl, hP, hK, hN⟩ := hv
  have hx := B.exec
  have hb := B.bytes
  have hr := B.returns
  have hts : ∀ w ∈ gT, w.before _ s = true := fun w h => atoms_spec (ws := wT_next) B.pre w (List.mem_cons_of_mem _ h)
  have hown : s.vm.findClass RT = some m.cls := findClass_of_methodNamed B.named
  have hlocks := B.notSynchronized
  have hP : va_P (dC, dI) vCl [(pT, .inr (1, [.ref ac, .int (nI tl), .int (nI pn)])), (ac, .inl (ca, 120, .inl ft))] s.heap := hP
  have hl := lv_entry ([.ref pT]) (n := 1) (Nat.le_of_ble_eq_true rfl)
  rw [lg_entry_eq]
  generalize (lg_sl ([.ref pT]) ++ List.replicate (1 - (lg_sl ([.ref pT])).length) Slot.unset).toArray = ls at hl ⊢
  have hl : lv_has ls 1 [(0, .ref pT)] := hl
  refine lv_aload_n hx hb dT_next_0 rfl (lv_at hl 0 rfl) ?_
  refine va_get (D := (dC, dI)) (ci := 1) (v := .int (nI pn)) (C := RT) (T := TT) (N := 3) hx hb hts inT hown hK hP 0 rfl rfl 2 (by decide) (hts _ gw_33) (fun _ h9 => h9) rfl dT_next_1 ?_
  refine lv_if_lt (tgt := 39) hx hb dT_next_4 (by decide) (fun c_1 => ?_) (fun c_1 => ?_)
  · skip
    refine lv_iconst (v := 0) hx hb dT_next_39 (by decide) ?_
    exact W.zret (v := 0) hx hb hr (by first | rfl | exact hft _) (fun t ht hW => ⟨by rw [show fT_next ft tl pn = 0 from by unfold fT_next; rw [if_pos c_1]], ht⟩) (fun q h => by cases h) dT_next_40
  · skip
    refine lv_aload_n hx hb dT_next_7 rfl (lv_at hl 0 rfl) ?_
    refine va_get (D := (dC, dI)) (ci := 1) (v := .int (nI pn)) (C := RT) (T := TT) (N := 3) hx hb hts inT hown hK hP 0 rfl rfl 2 (by decide) (hts _ gw_33) (fun _ h9 => h9) rfl dT_next_8 ?_
    refine lv_aload_n hx hb dT_next_11 rfl (lv_at hl 0 rfl) ?_
    refine va_get (D := (dC, dI)) (ci := 1) (v := .int (nI tl)) (C := RT) (T := TT) (N := 3) hx hb hts inT hown hK hP 0 rfl rfl 1 (by decide) (hts _ gw_32) (fun _ h9 => h9) rfl dT_next_12 ?_
    refine lv_icmp_ge (tgt := 39) hx hb dT_next_15 (by decide) (fun c_2 => ?_) (fun c_2 => ?_)
    · skip
      refine lv_iconst (v := 0) hx hb dT_next_39 (by decide) ?_
      exact W.zret (v := 0) hx hb hr (by first | rfl | exact hft _) (fun t ht hW => ⟨by rw [show fT_next ft tl pn = 0 from by unfold fT_next; rw [if_neg c_1, if_pos c_2]], ht⟩) (fun q h => by cases h) dT_next_40
    · skip
      refine lv_aload_n hx hb dT_next_18 rfl (lv_at hl 0 rfl) ?_
      refine va_get (D := (dC, dI)) (ci := 1) (v := .int (nI pn)) (C := RT) (T := TT) (N := 3) hx hb hts inT hown hK hP 0 rfl rfl 2 (by decide) (hts _ gw_33) (fun _ h9 => h9) rfl dT_next_19 ?_
      refine lv_bipush (v := 120) hx hb dT_next_22 (by decide) ?_
      refine lv_icmp_ge (tgt := 39) hx hb dT_next_24 (by decide) (fun c_3 => ?_) (fun c_3 => ?_)
      · skip
        refine lv_iconst (v := 0) hx hb dT_next_39 (by decide) ?_
        exact W.zret (v := 0) hx hb hr (by first | rfl | exact hft _) (fun t ht hW => ⟨by rw [show fT_next ft tl pn = 0 from by unfold fT_next; rw [if_neg c_1, if_neg c_2, if_pos c_3]], ht⟩) (fun q h => by cases h) dT_next_40
      · skip
        refine lv_aload_n hx hb dT_next_27 rfl (lv_at hl 0 rfl) ?_
        refine va_get (D := (dC, dI)) (ci := 1) (v := .ref ac) (C := RT) (T := TT) (N := 3) hx hb hts inT hown hK hP 0 rfl rfl 0 (by decide) (hts _ gw_31) (fun _ h9 => h9) rfl dT_next_28 ?_
        refine lv_aload_n hx hb dT_next_31 rfl (lv_at hl 0 rfl) ?_
        refine va_get (D := (dC, dI)) (ci := 1) (v := .int (nI pn)) (C := RT) (T := TT) (N := 3) hx hb hts inT hown hK hP 0 rfl rfl 2 (by decide) (hts _ gw_33) (fun _ h9 => h9) rfl dT_next_32 ?_
        have b_4 : vp_in (nI pn) 120 := tin_c rfl (by decide) (by omega) c_3
        refine va_cald hx hb hK hP 1 0 rfl rfl b_4 dT_next_35 ?_
        refine lv_goto (tgt := 40) hx hb dT_next_36 (by decide) ?_
        exact W.zret (v := ft (nI pn).toNatClampNeg) hx hb hr (by first | rfl | exact hft _) (fun t ht hW => ⟨by rw [show fT_next ft tl pn = ft (nI pn).toNatClampNeg from by unfold fT_next; rw [if_neg c_1, if_neg c_2, if_neg c_3]], ht⟩) (fun q h => by cases h) dT_next_40

def rnL (ft : Nat → Int32) (tl : Nat) : Nat → Nat → Int32 → Nat → Int32 × Nat
  | 0, _, v, pn => (v, pn)
  | n + 1, k, v, pn => if (fT_next ft tl pn) < 48 then (v, pn) else (if 57 < (fT_next ft tl pn) then (v, pn) else (if (nI k) = 0 then rnL ft tl n (k + 1) ((fT_next ft tl pn) - 48) (pn + 1) else rnL ft tl n (k + 1) ((v * 10) + ((fT_next ft tl pn) - 48)) (pn + 1)))


set_option maxHeartbeats 4000000 in
set_option maxRecDepth 100000 in
theorem c_T_readNumber (l : Launch) (dC : Nat → ClassId) (dI : Nat → Nat → Nat) (pT : Nat) (ac : Nat) (ca : ClassId) (ft : Nat → Int32) (tl : Nat) (mo : Nat) (pn : Nat) (hft : tch ft) (hmo : mo ≤ 100) (hpn : pn + mo < 2147483648) : Met l mT_readNumber wT_readNumber ({ frames := 1, cells := 0, slots := 0, locals := 20 }) (tp_W (dC, dI) vCl [.ref pT, .int (nI mo)] [(pT, .inr (1, [.ref ac, .int (nI tl), .int (nI pn)])), (ac, .inl (ca, 120, .inl ft))] [(ca, .char)]) (tq_W (dC, dI) vCl (some (.int ((rnL ft tl mo 0 (-1) pn).1))) [(pT, .inr (1, [.ref ac, .int (nI tl), .int (nI pn)])), (ac, .inl (ca, 120, .inl ft))] [(pT, .inr (1, [.ref ac, .int (nI tl), .int (nI (rnL ft tl mo 0 (-1) pn).2)])), (ac, .inl (ca, 120, .inl ft))]) 0 0 (tA [(pT, .inr (1, [.ref ac, .int (nI tl), .int (nI pn)])), (ac, .inl (ca, 120, .inl ft))]) := by
  refine Met.ofW (cc := bT_readNumber) (maxL := 5) (ret := (some .int)) (by decide) rfl ?_
  intro p e s m args below meth c s₁ B hml hv
  obtain ⟨rfl, hP, hK, hN, hD0⟩ := hv
  have hx := B.exec
  have hb := B.bytes
  have hr := B.returns
  have hts : ∀ w ∈ gT, w.before _ s = true := fun w h => atoms_spec (ws := wT_readNumber) B.pre w (List.mem_cons_of_mem _ h)
  have hown : s.vm.findClass RT = some m.cls := findClass_of_methodNamed B.named
  have hlocks := B.notSynchronized
  have hD := tA_D hD0
  generalize hAe : tA [(pT, .inr (1, [.ref ac, .int (nI tl), .int (nI pn)])), (ac, .inl (ca, 120, .inl ft))] = A at hD ⊢
  have hS : va_S A s.heap s.heap [] := va_S.rf
  have hP : va_P (dC, dI) vCl [(pT, .inr (1, [.ref ac, .int (nI tl), .int (nI pn)])), (ac, .inl (ca, 120, .inl ft))] s.heap := hP
  have hl := lv_entry ([.ref pT, .int (nI mo)]) (n := 5) (Nat.le_of_ble_eq_true rfl)
  rw [lg_entry_eq]
  generalize (lg_sl ([.ref pT, .int (nI mo)]) ++ List.replicate (5 - (lg_sl ([.ref pT, .int (nI mo)])).length) Slot.unset).toArray = ls at hl ⊢
  have hl : lv_has ls 5 [(0, .ref pT), (1, .int (nI mo))] := hl
  have loop : ∀ (n : Nat) (k : Nat) (vv : Int32) (pb : Nat) (hk : n + k = mo) (hpb : pb + n < 2147483648) (hR : rnL ft tl n k vv pb = rnL ft tl mo 0 (-1) pn) (H : Heap) (locs : List Loc) (hP : va_P (dC, dI) vCl [(pT, .inr (1, [.ref ac, .int (nI tl), .int (nI pb)])), (ac, .inl (ca, 120, .inl ft))] H) (hD : va_D A [(pT, .inr (1, [.ref ac, .int (nI tl), .int (nI pb)])), (ac, .inl (ca, 120, .inl ft))]) (hS : va_S A s.heap H locs) (ls : Array Slot), lv_has ls 5 [(3, .int (nI k)), (2, .int vv), (1, .int (nI mo)), (0, .ref pT)] → W p l e (headSpec wT_readNumber ({ frames := 1, cells := 0, slots := 0, locals := 20 })).room s m ([.ref pT, .int (nI mo)] : List Value).toArray below meth c H locs 0 0 (MQ below (tq_W (dC, dI) vCl (some (.int ((rnL ft tl mo 0 (-1) pn).1))) [(pT, .inr (1, [.ref ac, .int (nI tl), .int (nI pn)])), (ac, .inl (ca, 120, .inl ft))] [(pT, .inr (1, [.ref ac, .int (nI tl), .int (nI (rnL ft tl mo 0 (-1) pn).2)])), (ac, .inl (ca, 120, .inl ft))]) ([.ref pT, .int (nI mo)] : List Value).toArray s 0 0 A) (F0 m 4 ls []) := by
    intro n
    induction n with
    | zero =>
      intro k vv pb hk hpb hR H locs hP hD hS ls hl
      refine lv_iload_n hx hb dT_readNumber_4 rfl (lv_at hl 0 rfl) ?_
      refine lv_iload_n hx hb dT_readNumber_5 rfl (lv_at hl 2 rfl) ?_
      refine lv_icmp_ge (tgt := 69) hx hb dT_readNumber_6 (by decide) (fun c_1 => ?_) (fun c_1 => absurd (by rw [show k = mo by omega]; exact Int32.le_refl _) c_1)
      refine lv_iload_n hx hb dT_readNumber_69 rfl (lv_at hl 1 rfl) ?_
      have er : rnL ft tl mo 0 (-1) pn = (vv, pb) := by rw [← hR, rnL]
      exact W.iret (v := vv) hx hb hr (fun t ht hW => ⟨by rw [er], by rw [ht, er]; exact hP, by rw [hAe]; exact hS.F ht⟩) hS.2.2 dT_readNumber_70
    | succ n ih =>
      intro k vv pb hk hpb hR H locs hP hD hS ls hl
      refine lv_iload_n hx hb dT_readNumber_4 rfl (lv_at hl 0 rfl) ?_
      refine lv_iload_n hx hb dT_readNumber_5 rfl (lv_at hl 2 rfl) ?_
      refine lv_icmp_ge (tgt := 69) hx hb dT_readNumber_6 (by decide) (fun c_2 => absurd c_2 (nI_ge (by omega) (by omega))) (fun c_2 => ?_)
      refine lv_aload_n hx hb dT_readNumber_9 rfl (lv_at hl 3 rfl) ?_
      refine tr_go (st1 := [.int (fT_next ft tl pb)]) (va_runV (As := []) (rest := []) (C := RT) ⟨hx, hb, hml, hown, hts⟩ (c_T_next l dC dI pT ac ca ft tl pb (by assumption) (by omega)) ⟨cB 0 hts gw_153 gw_2 gw_151 ndT_next rfl rfl ⟨Nat.le_of_ble_eq_true rfl, Nat.le_of_ble_eq_true rfl⟩, hts _ gw_152, hts _ gw_747⟩ (tp_Rv hN hK hP [0, 1] [0] rfl rfl (q0 := 0) (ci := 1) rfl rfl) rfl rfl hl.1 rfl (lv_room (Nat.le_of_ble_eq_true rfl)) dT_readNumber_10 ⟨Nat.le_of_ble_eq_true rfl, Nat.le_of_ble_eq_true rfl⟩) rfl ?_
      refine lv_bipush (v := 48) hx hb dT_readNumber_13 (by decide) ?_
      refine lv_icmp_lt (tgt := 69) hx hb dT_readNumber_15 (by decide) (fun c_3 => ?_) (fun c_3 => ?_)
      · skip
        refine lv_iload_n hx hb dT_readNumber_69 rfl (lv_at hl 1 rfl) ?_
        have er : rnL ft tl mo 0 (-1) pn = (vv, pb) := by rw [← hR, rnL, if_pos c_3]
        exact W.iret (v := vv) hx hb hr (fun t ht hW => ⟨by rw [er], by rw [ht, er]; exact hP, by rw [hAe]; exact hS.F ht⟩) hS.2.2 dT_readNumber_70
      · skip
        refine lv_aload_n hx hb dT_readNumber_18 rfl (lv_at hl 3 rfl) ?_
        refine tr_go (st1 := [.int (fT_next ft tl pb)]) (va_runV (As := []) (rest := []) (C := RT) ⟨hx, hb, hml, hown, hts⟩ (c_T_next l dC dI pT ac ca ft tl pb (by assumption) (by omega)) ⟨cB 0 hts gw_153 gw_2 gw_151 ndT_next rfl rfl ⟨Nat.le_of_ble_eq_true rfl, Nat.le_of_ble_eq_true rfl⟩, hts _ gw_152, hts _ gw_747⟩ (tp_Rv hN hK hP [0, 1] [0] rfl rfl (q0 := 0) (ci := 1) rfl rfl) rfl rfl hl.1 rfl (lv_room (Nat.le_of_ble_eq_true rfl)) dT_readNumber_19 ⟨Nat.le_of_ble_eq_true rfl, Nat.le_of_ble_eq_true rfl⟩) rfl ?_
        refine lv_bipush (v := 57) hx hb dT_readNumber_22 (by decide) ?_
        refine lv_icmp_gt (tgt := 69) hx hb dT_readNumber_24 (by decide) (fun c_4 => ?_) (fun c_4 => ?_)
        · skip
          refine lv_iload_n hx hb dT_readNumber_69 rfl (lv_at hl 1 rfl) ?_
          have er : rnL ft tl mo 0 (-1) pn = (vv, pb) := by rw [← hR, rnL, if_neg c_3, if_pos c_4]
          exact W.iret (v := vv) hx hb hr (fun t ht hW => ⟨by rw [er], by rw [ht, er]; exact hP, by rw [hAe]; exact hS.F ht⟩) hS.2.2 dT_readNumber_70
        · skip
          refine lv_aload_n hx hb dT_readNumber_27 rfl (lv_at hl 3 rfl) ?_
          refine tr_go (st1 := [.int (fT_next ft tl pb)]) (va_runV (As := []) (rest := []) (C := RT) ⟨hx, hb, hml, hown, hts⟩ (c_T_next l dC dI pT ac ca ft tl pb (by assumption) (by omega)) ⟨cB 0 hts gw_153 gw_2 gw_151 ndT_next rfl rfl ⟨Nat.le_of_ble_eq_true rfl, Nat.le_of_ble_eq_true rfl⟩, hts _ gw_152, hts _ gw_747⟩ (tp_Rv hN hK hP [0, 1] [0] rfl rfl (q0 := 0) (ci := 1) rfl rfl) rfl rfl hl.1 rfl (lv_room (Nat.le_of_ble_eq_true rfl)) dT_readNumber_28 ⟨Nat.le_of_ble_eq_true rfl, Nat.le_of_ble_eq_true rfl⟩) rfl ?_
          refine lv_bipush (v := 48) hx hb dT_readNumber_31 (by decide) ?_
          refine lv_isub hx hb dT_readNumber_33 ?_
          refine lv_istore (lv' := [(4, .int ((fT_next ft tl pb) - 48)), (3, .int (nI k)), (2, .int vv), (1, .int (nI mo)), (0, .ref pT)]) hx hb dT_readNumber_34 hl (by decide) rfl (fun ls hl => ?_)
          refine lv_iload_n hx hb dT_readNumber_36 rfl (lv_at hl 1 rfl) ?_
          refine lv_if_ne (tgt := 45) hx hb dT_readNumber_37 (by decide) (fun c_5 => ?_) (fun c_5 => ?_)
          · skip
            refine lv_iload_n hx hb dT_readNumber_45 rfl (lv_at hl 2 rfl) ?_
            refine lv_bipush (v := 10) hx hb dT_readNumber_46 (by decide) ?_
            refine lv_imul hx hb dT_readNumber_48 ?_
            refine lv_iload hx hb dT_readNumber_49 (lv_at hl 0 rfl) ?_
            refine lv_iadd hx hb dT_readNumber_51 ?_
            refine lv_istore_n (lv' := [(2, .int ((vv * 10) + ((fT_next ft tl pb) - 48))), (4, .int ((fT_next ft tl pb) - 48)), (3, .int (nI k)), (1, .int (nI mo)), (0, .ref pT)]) hx hb dT_readNumber_52 rfl hl (by decide) rfl (fun ls hl => ?_)
            refine lv_aload_n hx hb dT_readNumber_53 rfl (lv_at hl 4 rfl) ?_
            refine lv_dup hx hb dT_readNumber_54 rfl ?_
            refine va_get (D := (dC, dI)) (ci := 1) (v := .int (nI pb)) (C := RT) (T := TT) (N := 3) hx hb hts inT hown hK hP 0 rfl rfl 2 (by decide) (hts _ gw_33) (fun _ h9 => h9) rfl dT_readNumber_55 ?_
            refine lv_iconst (v := 1) hx hb dT_readNumber_58 (by decide) ?_
            refine lv_iadd hx hb dT_readNumber_59 ?_
            rw [nI_1 (pb)]
            refine va_put (D := (dC, dI)) (ci := 1) (v := .int (nI (pb + 1))) (ty := .int) (C := RT) (T := TT) (N := 3) hx hb hts inT yT yoT noT hown hK hP hD hS 0 rfl rfl 2 (by decide) (hts _ gw_33) (fun _ h9 => h9) rfl (by decide +kernel) rfl rfl (Nat.le_of_ble_eq_true rfl) dT_readNumber_60 (fun H locs hP hD hS => ?_)
            have hP : va_P (dC, dI) vCl [(pT, .inr (1, [.ref ac, .int (nI tl), .int (nI (pb + 1))])), (ac, .inl (ca, 120, .inl ft))] H := hP
            have hD : va_D A [(pT, .inr (1, [.ref ac, .int (nI tl), .int (nI (pb + 1))])), (ac, .inl (ca, 120, .inl ft))] := hD
            refine lv_iinc (v := nI (k + 1)) (lv' := [(3, .int (nI (k + 1))), (2, .int ((vv * 10) + ((fT_next ft tl pb) - 48))), (4, .int ((fT_next ft tl pb) - 48)), (1, .int (nI mo)), (0, .ref pT)]) hx hb dT_readNumber_63 hl (k := 2) rfl (by rw [nI_succ]; rfl) (by decide) rfl (fun ls hl => ?_)
            refine lv_goto (tgt := 4) hx hb dT_readNumber_66 (by decide) ?_
            exact ih (k + 1) ((vv * 10) + ((fT_next ft tl pb) - 48)) (pb + 1) (by omega) (by omega) (by rw [rnL, if_neg c_3, if_neg c_4, if_neg c_5] at hR; exact hR) _ _ hP hD hS ls (lv_sub hl [0, 1, 3, 4] rfl)
          · skip
            refine lv_iload hx hb dT_readNumber_40 (lv_at hl 0 rfl) ?_
            refine lv_goto (tgt := 52) hx hb dT_readNumber_42 (by decide) ?_
            refine lv_istore_n (lv' := [(2, .int ((fT_next ft tl pb) - 48)), (4, .int ((fT_next ft tl pb) - 48)), (3, .int (nI k)), (1, .int (nI mo)), (0, .ref pT)]) hx hb dT_readNumber_52 rfl hl (by decide) rfl (fun ls hl => ?_)
            refine lv_aload_n hx hb dT_readNumber_53 rfl (lv_at hl 4 rfl) ?_
            refine lv_dup hx hb dT_readNumber_54 rfl ?_
            refine va_get (D := (dC, dI)) (ci := 1) (v := .int (nI pb)) (C := RT) (T := TT) (N := 3) hx hb hts inT hown hK hP 0 rfl rfl 2 (by decide) (hts _ gw_33) (fun _ h9 => h9) rfl dT_readNumber_55 ?_
            refine lv_iconst (v := 1) hx hb dT_readNumber_58 (by decide) ?_
            refine lv_iadd hx hb dT_readNumber_59 ?_
            rw [nI_1 (pb)]
            refine va_put (D := (dC, dI)) (ci := 1) (v := .int (nI (pb + 1))) (ty := .int) (C := RT) (T := TT) (N := 3) hx hb hts inT yT yoT noT hown hK hP hD hS 0 rfl rfl 2 (by decide) (hts _ gw_33) (fun _ h9 => h9) rfl (by decide +kernel) rfl rfl (Nat.le_of_ble_eq_true rfl) dT_readNumber_60 (fun H locs hP hD hS => ?_)
            have hP : va_P (dC, dI) vCl [(pT, .inr (1, [.ref ac, .int (nI tl), .int (nI (pb + 1))])), (ac, .inl (ca, 120, .inl ft))] H := hP
            have hD : va_D A [(pT, .inr (1, [.ref ac, .int (nI tl), .int (nI (pb + 1))])), (ac, .inl (ca, 120, .inl ft))] := hD
            refine lv_iinc (v := nI (k + 1)) (lv' := [(3, .int (nI (k + 1))), (2, .int ((fT_next ft tl pb) - 48)), (4, .int ((fT_next ft tl pb) - 48)), (1, .int (nI mo)), (0, .ref pT)]) hx hb dT_readNumber_63 hl (k := 2) rfl (by rw [nI_succ]; rfl) (by decide) rfl (fun ls hl => ?_)
            refine lv_goto (tgt := 4) hx hb dT_readNumber_66 (by decide) ?_
            exact ih (k + 1) ((fT_next ft tl pb) - 48) (pb + 1) (by omega) (by omega) (by rw [rnL, if_neg c_3, if_neg c_4, if_pos c_5] at hR; exact hR) _ _ hP hD hS ls (lv_sub hl [0, 1, 3, 4] rfl)
  refine lv_iconst (v := (-1)) hx hb dT_readNumber_0 (by decide) ?_
  refine lv_istore_n (lv' := [(2, .int (-1)), (0, .ref pT), (1, .int (nI mo))]) hx hb dT_readNumber_1 rfl hl (by decide) rfl (fun ls hl => ?_)
  refine lv_iconst (v := 0) hx hb dT_readNumber_2 (by decide) ?_
  refine lv_istore_n (lv' := [(3, .int 0), (2, .int (-1)), (0, .ref pT), (1, .int (nI mo))]) hx hb dT_readNumber_3 rfl hl (by decide) rfl (fun ls hl => ?_)
  exact loop mo 0 (-1) pn rfl hpn rfl _ _ hP hD hS ls (lv_sub hl [0, 1, 3, 2] rfl)
