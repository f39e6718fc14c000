def lrI (fc : Nat) (x0 : Nat → Int64) (y0 : Nat → Int64) (x1 : Nat → Int64) (y1 : Nat → Int64) (hh : Nat → Int64) (kind : Int32) (rises : Int32) (total : Int64) (going : Int64) (width : Int64) (cf : Int32) (ct : Int32) (i : Nat) : Nat → Nat → Int64 → Int64
  | 0, _, b => b
  | n + 1, k, b => if fF_over x0 y0 x1 y1 hh (nI fc) kind rises total going width cf ct (nI i) (nI k) = true then lrI fc x0 y0 x1 y1 hh kind rises total going width cf ct i n (k + 1) (if (hh (nI i).toNatClampNeg * rises.toInt64 - fA_height kind rises total going width cf ct (nI k)) < b then (hh (nI i).toNatClampNeg * rises.toInt64 - fA_height kind rises total going width cf ct (nI k)) else b) else lrI fc x0 y0 x1 y1 hh kind rises total going width cf ct i n (k + 1) b
def lrO (fc : Nat) (x0 : Nat → Int64) (y0 : Nat → Int64) (x1 : Nat → Int64) (y1 : Nat → Int64) (hh : Nat → Int64) (kind : Int32) (rises : Int32) (total : Int64) (going : Int64) (width : Int64) (cf : Int32) (ct : Int32) (tr : Nat) : Nat → Nat → Int64 → Int64
  | 0, _, b => b
  | n + 1, i, b => lrO fc x0 y0 x1 y1 hh kind rises total going width cf ct tr n (i + 1) (lrI fc x0 y0 x1 y1 hh kind rises total going width cf ct i tr 0 b)
def fF_least (x0 : Nat → Int64) (y0 : Nat → Int64) (x1 : Nat → Int64) (y1 : Nat → Int64) (hh : Nat → Int64) (fc : Nat) (kind : Int32) (rises : Int32) (total : Int64) (going : Int64) (width : Int64) (cf : Int32) (ct : Int32) (tr : Nat) : Int64 := lrO fc x0 y0 x1 y1 hh kind rises total going width cf ct tr fc 0 9223372036854775807

set_option maxHeartbeats 4000000 in
set_option maxRecDepth 100000 in
theorem c_F_least (l : Launch) (dC : Nat → ClassId) (dI : Nat → Nat → Nat) (f0 : Nat) (b1 : Nat) (b2 : Nat) (b3 : Nat) (b4 : Nat) (b5 : Nat) (d1 : ClassId) (d2 : ClassId) (d3 : ClassId) (d4 : ClassId) (d5 : ClassId) (x0 : Nat → Int64) (y0 : Nat → Int64) (x1 : Nat → Int64) (y1 : Nat → Int64) (hh : Nat → Int64) (fc : Nat) (h0 : Nat) (kind : Int32) (rises : Int32) (total : Int64) (going : Int64) (width : Int64) (cf : Int32) (ct : Int32) (tr : Nat) (hf : fc ≤ 8) (ht : tr ≤ 60) (hr0 : rises - 1 = nI tr) : Met l mF_leastRoomTimesRises wF_leastRoomTimesRises ({ frames := 4, cells := 0, slots := 0, locals := 86 }) (tp_R (dC, dI) vCl [.ref f0, .ref h0] [(f0, .inr (3, [.ref b1, .ref b2, .ref b3, .ref b4, .ref b5, .int (nI fc)])), (b1, .inl (d1, 8, .inr (.inl x0))), (b2, .inl (d2, 8, .inr (.inl y0))), (b3, .inl (d3, 8, .inr (.inl x1))), (b4, .inl (d4, 8, .inr (.inl y1))), (b5, .inl (d5, 8, .inr (.inl hh))), (h0, .inr (4, [.int kind, .int rises, .long total, .long going, .long width, .int cf, .int ct]))] [(d1, .long), (d2, .long), (d3, .long), (d4, .long), (d5, .long)]) (tq_R (some (.long (fF_least x0 y0 x1 y1 hh fc kind rises total going width cf ct tr)))) 0 0 (fun _ => False) := by
  refine Met.ofW (cc := bF_leastRoomTimesRises) (maxL := 6) (ret := (some .long)) (by decide) rfl ?_
  intro p e s m args below meth c s₁ B hml hv
  obtain ⟨rfl, hP, hK, hN⟩ := hv
  have hx := B.exec
  have hb := B.bytes
  have hr := B.returns
  have hts : ∀ w ∈ gT, w.before _ s = true := fun w h => atoms_spec (ws := wF_leastRoomTimesRises) B.pre w (List.mem_cons_of_mem _ h)
  have hown : s.vm.findClass RF = some m.cls := findClass_of_methodNamed B.named
  have hlocks := B.notSynchronized
  have hP : va_P (dC, dI) vCl [(f0, .inr (3, [.ref b1, .ref b2, .ref b3, .ref b4, .ref b5, .int (nI fc)])), (b1, .inl (d1, 8, .inr (.inl x0))), (b2, .inl (d2, 8, .inr (.inl y0))), (b3, .inl (d3, 8, .inr (.inl x1))), (b4, .inl (d4, 8, .inr (.inl y1))), (b5, .inl (d5, 8, .inr (.inl hh))), (h0, .inr (4, [.int kind, .int rises, .long total, .long going, .long width, .int cf, .int ct]))] s.heap := hP
  have hl := lv_entry ([.ref f0, .ref h0]) (n := 6) (Nat.le_of_ble_eq_true rfl)
  rw [lg_entry_eq]
  generalize (lg_sl ([.ref f0, .ref h0]) ++ List.replicate (6 - (lg_sl ([.ref f0, .ref h0])).length) Slot.unset).toArray = ls at hl ⊢
  have hl : lv_has ls 6 [(0, .ref f0), (1, .ref h0)] := hl
  have inner : ∀ (n : Nat) (k : Nat) (i : Nat) (bb : Int64) (r9 : Int64) (hk : n + k = tr) (hi : i < 8) (hR : lrI fc x0 y0 x1 y1 hh kind rises total going width cf ct i n k bb = r9) (kont : ∀ (ls : Array Slot), lv_has ls 6 [(4, .int (nI i)), (2, .long r9), (0, .ref f0), (1, .ref h0)] → W p l e (headSpec wF_leastRoomTimesRises ({ frames := 4, cells := 0, slots := 0, locals := 86 })).room s m ([.ref f0, .ref h0] : List Value).toArray below meth c s.heap [] 0 0 (MQ below (tq_R (some (.long (fF_least x0 y0 x1 y1 hh fc kind rises total going width cf ct tr)))) ([.ref f0, .ref h0] : List Value).toArray s 0 0 (fun _ => False)) (F0 m 78 ls [])) (ls : Array Slot), lv_has ls 6 [(5, .int (nI k)), (4, .int (nI i)), (2, .long bb), (0, .ref f0), (1, .ref h0)] → W p l e (headSpec wF_leastRoomTimesRises ({ frames := 4, cells := 0, slots := 0, locals := 86 })).room s m ([.ref f0, .ref h0] : List Value).toArray below meth c s.heap [] 0 0 (MQ below (tq_R (some (.long (fF_least x0 y0 x1 y1 hh fc kind rises total going width cf ct tr)))) ([.ref f0, .ref h0] : List Value).toArray s 0 0 (fun _ => False)) (F0 m 26 ls []) := by
    intro n
    induction n with
    | zero =>
      intro k i bb r9 hk hi hR kont ls hl
      rw [lrI] at hR
      subst hR
      refine lv_iload hx hb dF_leastRoomTimesRises_26 (lv_at hl 0 rfl) ?_
      refine lv_aload_n hx hb dF_leastRoomTimesRises_28 rfl (lv_at hl 4 rfl) ?_
      refine tr_go (st1 := [.int (fA_treads kind rises total going width cf ct), .int (nI k)]) (va_runV (As := []) (rest := [.int (nI k)]) (C := RA) ⟨hx, hb, hml, hown, hts⟩ (c_A_treads l dC dI h0 kind rises total going width cf ct) ⟨cB 0 hts gw_334 gw_5 gw_504 ndA_treads rfl rfl ⟨Nat.le_of_ble_eq_true rfl, Nat.le_of_ble_eq_true rfl⟩, hts _ gw_332, hts _ gw_333⟩ (tp_Rv hN hK hP [6] [] rfl rfl (q0 := 6) (ci := 4) rfl rfl) rfl rfl hl.1 rfl (lv_room (Nat.le_of_ble_eq_true rfl)) dF_leastRoomTimesRises_29 ⟨Nat.le_of_ble_eq_true rfl, Nat.le_of_ble_eq_true rfl⟩) rfl ?_
      refine lv_icmp_ge (tgt := 78) hx hb dF_leastRoomTimesRises_32 (by decide) (fun c_1 => ?_) (fun c_1 => absurd (by rw [show fA_treads kind rises total going width cf ct = nI tr from hr0, show k = tr by omega]; exact Int32.le_refl _) c_1)
      exact kont ls (lv_sub hl [1, 2, 3, 4] rfl)
    | succ n ih =>
      intro k i bb r9 hk hi hR kont ls hl
      refine lv_iload hx hb dF_leastRoomTimesRises_26 (lv_at hl 0 rfl) ?_
      refine lv_aload_n hx hb dF_leastRoomTimesRises_28 rfl (lv_at hl 4 rfl) ?_
      refine tr_go (st1 := [.int (fA_treads kind rises total going width cf ct), .int (nI k)]) (va_runV (As := []) (rest := [.int (nI k)]) (C := RA) ⟨hx, hb, hml, hown, hts⟩ (c_A_treads l dC dI h0 kind rises total going width cf ct) ⟨cB 0 hts gw_334 gw_5 gw_504 ndA_treads rfl rfl ⟨Nat.le_of_ble_eq_true rfl, Nat.le_of_ble_eq_true rfl⟩, hts _ gw_332, hts _ gw_333⟩ (tp_Rv hN hK hP [6] [] rfl rfl (q0 := 6) (ci := 4) rfl rfl) rfl rfl hl.1 rfl (lv_room (Nat.le_of_ble_eq_true rfl)) dF_leastRoomTimesRises_29 ⟨Nat.le_of_ble_eq_true rfl, Nat.le_of_ble_eq_true rfl⟩) rfl ?_
      refine lv_icmp_ge (tgt := 78) hx hb dF_leastRoomTimesRises_32 (by decide) (fun c_2 => absurd c_2 (by rw [show fA_treads kind rises total going width cf ct = nI tr from hr0]; exact nI_ge (by omega) (by omega))) (fun c_2 => ?_)
      refine lv_aload_n hx hb dF_leastRoomTimesRises_35 rfl (lv_at hl 3 rfl) ?_
      refine lv_iload hx hb dF_leastRoomTimesRises_36 (lv_at hl 1 rfl) ?_
      refine lv_aload_n hx hb dF_leastRoomTimesRises_38 rfl (lv_at hl 4 rfl) ?_
      refine lv_iload hx hb dF_leastRoomTimesRises_39 (lv_at hl 0 rfl) ?_
      refine tr_go (st1 := [.int (bI (fF_over x0 y0 x1 y1 hh (nI fc) kind rises total going width cf ct (nI i) (nI k)))]) (va_runV (As := [.int (nI i), .ref h0, .int (nI k)]) (rest := []) (C := RF) ⟨hx, hb, hml, hown, hts⟩ (c_F_over l dC dI f0 b1 b2 b3 b4 b5 d1 d2 d3 d4 d5 x0 y0 x1 y1 hh (nI fc) h0 kind rises total going width cf ct (nI i) (nI k)) ⟨cB 3 hts gw_507 gw_4 gw_505 ndF_isOver rfl rfl ⟨Nat.le_of_ble_eq_true rfl, Nat.le_of_ble_eq_true rfl⟩, hts _ gw_506, hts _ gw_753⟩ (tp_Rv hN hK hP [0, 1, 2, 3, 4, 5, 6] [0, 1, 2, 3, 4] rfl rfl (q0 := 0) (ci := 3) rfl rfl) rfl rfl hl.1 rfl (lv_room (Nat.le_of_ble_eq_true rfl)) dF_leastRoomTimesRises_41 ⟨Nat.le_of_ble_eq_true rfl, Nat.le_of_ble_eq_true rfl⟩) rfl ?_
      refine tb_ifeq (tgt := 72) hx hb dF_leastRoomTimesRises_44 (by decide) (fun c_3 => ?_) (fun c_3 => ?_)
      · skip
        refine lv_iinc (v := nI (k + 1)) (lv' := [(5, .int (nI (k + 1))), (4, .int (nI i)), (2, .long bb), (0, .ref f0), (1, .ref h0)]) hx hb dF_leastRoomTimesRises_72 hl (k := 0) rfl (by rw [nI_succ]; rfl) (by decide) rfl (fun ls hl => ?_)
        refine lv_goto (tgt := 26) hx hb dF_leastRoomTimesRises_75 (by decide) ?_
        exact ih (k + 1) i bb r9 (by omega) hi (by rw [lrI, if_neg (Bool.eq_false_iff.mp c_3)] at hR; exact hR) kont ls (lv_sub hl [0, 1, 2, 3, 4] rfl)
      · skip
        refine lv_lload_n hx hb dF_leastRoomTimesRises_47 rfl (lv_at hl 2 rfl) ?_
        refine lv_aload_n hx hb dF_leastRoomTimesRises_48 rfl (lv_at hl 3 rfl) ?_
        refine va_get (D := (dC, dI)) (ci := 3) (v := .ref b5) (C := RF) (T := TF) (N := 6) hx hb hts inF hown hK hP 0 rfl rfl 4 (by decide) (hts _ gw_61) (fun _ h9 => h9) rfl dF_leastRoomTimesRises_49 ?_
        refine lv_iload hx hb dF_leastRoomTimesRises_52 (lv_at hl 1 rfl) ?_
        have b_4 : vp_in (nI i) 8 := vp_in_nI (by omega) (by decide)
        refine va_lald hx hb hK hP 5 4 rfl rfl b_4 dF_leastRoomTimesRises_54 ?_
        refine lv_aload_n hx hb dF_leastRoomTimesRises_55 rfl (lv_at hl 4 rfl) ?_
        refine va_getN (D := (dC, dI)) (ci := 4) (v := .int rises) (C := RA) (T := TA) (N := 7) hx hb hts inA hown hK hP 6 rfl rfl 1 (by decide) (va_Nw.use rfl (hN _ nw_6 rfl)) (fun _ h9 => h9) rfl dF_leastRoomTimesRises_56 ?_
        refine lv_i2l (v := rises.toInt64) hx hb dF_leastRoomTimesRises_59 rfl ?_
        refine lv_lmul hx hb dF_leastRoomTimesRises_60 ?_
        refine lv_aload_n hx hb dF_leastRoomTimesRises_61 rfl (lv_at hl 4 rfl) ?_
        refine lv_iload hx hb dF_leastRoomTimesRises_62 (lv_at hl 0 rfl) ?_
        refine tr_go (st1 := [.long (fA_height kind rises total going width cf ct (nI k)), .long ((hh (nI i).toNatClampNeg) * rises.toInt64), .long bb]) (va_runV (As := [.int (nI k)]) (rest := [.long ((hh (nI i).toNatClampNeg) * rises.toInt64), .long bb]) (C := RA) ⟨hx, hb, hml, hown, hts⟩ (c_A_heightTimesRises l dC dI h0 kind rises total going width cf ct (nI k)) ⟨cB 1 hts gw_426 gw_5 gw_512 ndA_heightTimesRises rfl rfl ⟨Nat.le_of_ble_eq_true rfl, Nat.le_of_ble_eq_true rfl⟩, hts _ gw_424, hts _ gw_425⟩ (tp_Rv hN hK hP [6] [] rfl rfl (q0 := 6) (ci := 4) rfl rfl) rfl rfl hl.1 rfl (lv_room (Nat.le_of_ble_eq_true rfl)) dF_leastRoomTimesRises_64 ⟨Nat.le_of_ble_eq_true rfl, Nat.le_of_ble_eq_true rfl⟩) rfl ?_
        refine lv_lsub hx hb dF_leastRoomTimesRises_67 ?_
        refine va_mmin_long hx hb (hml.trans hl.1.symm) hown (hts _ gw_513) (hts _ gw_444) (hts _ gw_14) (hts _ gw_445) (Nat.le_of_ble_eq_true rfl) (Nat.le_of_ble_eq_true rfl) (Nat.le_of_ble_eq_true rfl) (Nat.le_of_ble_eq_true rfl) dF_leastRoomTimesRises_68 ?_
        refine lv_lstore_n (lv' := [(2, .long (if (((hh (nI i).toNatClampNeg) * rises.toInt64) - (fA_height kind rises total going width cf ct (nI k))) < bb then (((hh (nI i).toNatClampNeg) * rises.toInt64) - (fA_height kind rises total going width cf ct (nI k))) else bb)), (5, .int (nI k)), (4, .int (nI i)), (0, .ref f0), (1, .ref h0)]) hx hb dF_leastRoomTimesRises_71 rfl hl (by decide) rfl (fun ls hl => ?_)
        refine lv_iinc (v := nI (k + 1)) (lv' := [(5, .int (nI (k + 1))), (2, .long (if (((hh (nI i).toNatClampNeg) * rises.toInt64) - (fA_height kind rises total going width cf ct (nI k))) < bb then (((hh (nI i).toNatClampNeg) * rises.toInt64) - (fA_height kind rises total going width cf ct (nI k))) else bb)), (4, .int (nI i)), (0, .ref f0), (1, .ref h0)]) hx hb dF_leastRoomTimesRises_72 hl (k := 1) rfl (by rw [nI_succ]; rfl) (by decide) rfl (fun ls hl => ?_)
        refine lv_goto (tgt := 26) hx hb dF_leastRoomTimesRises_75 (by decide) ?_
        exact ih (k + 1) i (if (((hh (nI i).toNatClampNeg) * rises.toInt64) - (fA_height kind rises total going width cf ct (nI k))) < bb then (((hh (nI i).toNatClampNeg) * rises.toInt64) - (fA_height kind rises total going width cf ct (nI k))) else bb) r9 (by omega) hi (by rw [lrI, if_pos c_3] at hR; exact hR) kont ls (lv_sub hl [0, 2, 1, 3, 4] rfl)
  have outer : ∀ (n : Nat) (i : Nat) (bb : Int64) (hi : n + i = fc) (hR : lrO fc x0 y0 x1 y1 hh kind rises total going width cf ct tr n i bb = fF_least x0 y0 x1 y1 hh fc kind rises total going width cf ct tr) (ls : Array Slot), lv_has ls 6 [(4, .int (nI i)), (2, .long bb), (0, .ref f0), (1, .ref h0)] → W p l e (headSpec wF_leastRoomTimesRises ({ frames := 4, cells := 0, slots := 0, locals := 86 })).room s m ([.ref f0, .ref h0] : List Value).toArray below meth c s.heap [] 0 0 (MQ below (tq_R (some (.long (fF_least x0 y0 x1 y1 hh fc kind rises total going width cf ct tr)))) ([.ref f0, .ref h0] : List Value).toArray s 0 0 (fun _ => False)) (F0 m 7 ls []) := by
    intro n
    induction n with
    | zero =>
      intro i bb hi hR ls hl
      refine lv_iload hx hb dF_leastRoomTimesRises_7 (lv_at hl 0 rfl) ?_
      refine lv_aload_n hx hb dF_leastRoomTimesRises_9 rfl (lv_at hl 2 rfl) ?_
      refine va_get (D := (dC, dI)) (ci := 3) (v := .int (nI fc)) (C := RF) (T := TF) (N := 6) hx hb hts inF hown hK hP 0 rfl rfl 5 (by decide) (hts _ gw_62) (fun _ h9 => h9) rfl dF_leastRoomTimesRises_10 ?_
      refine lv_icmp_ge (tgt := 84) hx hb dF_leastRoomTimesRises_13 (by decide) (fun c_5 => ?_) (fun c_5 => absurd (by rw [show i = fc by omega]; exact Int32.le_refl _) c_5)
      refine lv_lload_n hx hb dF_leastRoomTimesRises_84 rfl (lv_at hl 1 rfl) ?_
      exact W.lret (v := bb) hx hb hr (fun t ht hW => ⟨by rw [← hR, lrO], ht⟩) (fun q h => by cases h) dF_leastRoomTimesRises_85
    | succ n ih =>
      intro i bb hi hR ls hl
      refine lv_iload hx hb dF_leastRoomTimesRises_7 (lv_at hl 0 rfl) ?_
      refine lv_aload_n hx hb dF_leastRoomTimesRises_9 rfl (lv_at hl 2 rfl) ?_
      refine va_get (D := (dC, dI)) (ci := 3) (v := .int (nI fc)) (C := RF) (T := TF) (N := 6) hx hb hts inF hown hK hP 0 rfl rfl 5 (by decide) (hts _ gw_62) (fun _ h9 => h9) rfl dF_leastRoomTimesRises_10 ?_
      refine lv_icmp_ge (tgt := 84) hx hb dF_leastRoomTimesRises_13 (by decide) (fun c_6 => absurd c_6 (nI_ge (by omega) (by omega))) (fun c_6 => ?_)
      refine lv_iload hx hb dF_leastRoomTimesRises_16 (lv_at hl 0 rfl) ?_
      refine lv_bipush (v := 8) hx hb dF_leastRoomTimesRises_18 (by decide) ?_
      refine lv_icmp_ge (tgt := 84) hx hb dF_leastRoomTimesRises_20 (by decide) (fun c_7 => absurd c_7 ((nI_ge (by omega) (by decide) : ¬ nI 8 ≤ nI i))) (fun c_7 => ?_)
      refine lv_iconst (v := 0) hx hb dF_leastRoomTimesRises_23 (by decide) ?_
      refine lv_istore (lv' := [(5, .int 0), (4, .int (nI i)), (2, .long bb), (0, .ref f0), (1, .ref h0)]) hx hb dF_leastRoomTimesRises_24 hl (by decide) rfl (fun ls hl => ?_)
      refine inner tr 0 i bb _ (by omega) (by omega) rfl (fun ls hl => ?_) ls (lv_sub hl [0, 1, 2, 3, 4] rfl)
      refine lv_iinc (v := nI (i + 1)) (lv' := [(4, .int (nI (i + 1))), (2, .long (lrI fc x0 y0 x1 y1 hh kind rises total going width cf ct i tr 0 bb)), (0, .ref f0), (1, .ref h0)]) hx hb dF_leastRoomTimesRises_78 hl (k := 0) rfl (by rw [nI_succ]; rfl) (by decide) rfl (fun ls hl => ?_)
      refine lv_goto (tgt := 7) hx hb dF_leastRoomTimesRises_81 (by decide) ?_
      exact ih (i + 1) (lrI fc x0 y0 x1 y1 hh kind rises total going width cf ct i tr 0 bb) (by omega) (by rw [lrO] at hR; exact hR) ls (lv_sub hl [0, 1, 2, 3] rfl)
  refine lv_ldc2 (v := 9223372036854775807) hx hb hown (hts _ gw_503) dF_leastRoomTimesRises_0 ?_
  refine lv_lstore_n (lv' := [(2, .long 9223372036854775807), (0, .ref f0), (1, .ref h0)]) hx hb dF_leastRoomTimesRises_3 rfl hl (by decide) rfl (fun ls hl => ?_)
  refine lv_iconst (v := 0) hx hb dF_leastRoomTimesRises_4 (by decide) ?_
  refine lv_istore (lv' := [(4, .int 0), (2, .long 9223372036854775807), (0, .ref f0), (1, .ref h0)]) hx hb dF_leastRoomTimesRises_5 hl (by decide) rfl (fun ls hl => ?_)
  exact outer fc 0 9223372036854775807 (by omega) rfl ls (lv_sub hl [0, 1, 2, 3] rfl)
