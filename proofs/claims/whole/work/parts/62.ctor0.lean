set_option maxHeartbeats 4000000 in
set_option maxRecDepth 100000 in
theorem c_Q_init (l : Launch) (dC : Nat → ClassId) (dI : Nat → Nat → Nat) (h0 : Nat) (num : Int64) (den : Int64) : Met l mQ_init wQ_init ({ frames := 1, cells := 0, slots := 0, locals := 12 }) (tp_W (dC, dI) vCl [.ref h0] [(h0, .inr (5, [.long num, .long den]))] []) (tq_W (dC, dI) vCl (none) [(h0, .inr (5, [.long num, .long den]))] [(h0, .inr (5, [.long 0, .long 1]))]) 0 0 (tA [(h0, .inr (5, [.long num, .long den]))]) := by
  refine Met.ofW (cc := bQ_init) (maxL := 1) (ret := none) (by decide) rfl ?_
  intro p e s m args below meth c s₁ B hml hv
  obtain ⟨rfl, hP, hK, hN, hD0⟩ := hv
  have hx := B.exec
  have hb := B.bytes
  have hr := B.returns
  have hts : ∀ w ∈ gT, w.before _ s = true := fun w h => atoms_spec (ws := wQ_init) B.pre w (List.mem_cons_of_mem _ h)
  have hown : s.vm.findClass RQ = some m.cls := findClass_of_methodNamed B.named
  have hlocks := B.notSynchronized
  have hD := tA_D hD0
  generalize hAe : tA [(h0, .inr (5, [.long num, .long den]))] = A at hD ⊢
  have hS : va_S A s.heap s.heap [] := va_S.rf
  have hP : va_P (dC, dI) vCl [(h0, .inr (5, [.long num, .long den]))] s.heap := hP
  have hl := lv_entry ([.ref h0]) (n := 1) (Nat.le_of_ble_eq_true rfl)
  rw [lg_entry_eq]
  generalize (lg_sl ([.ref h0]) ++ List.replicate (1 - (lg_sl ([.ref h0])).length) Slot.unset).toArray = ls at hl ⊢
  have hl : lv_has ls 1 [(0, .ref h0)] := hl
  refine lv_aload_n hx hb dQ_init_0 rfl (lv_at hl 0 rfl) ?_
  refine W.objInit hx hb hown (hts _ gw_93) (hts _ gw_24) (hts _ gw_25) rfl (by rw [hml]; exact hl.1) rfl dQ_init_1 (Nat.le_of_ble_eq_true rfl) (Nat.le_of_ble_eq_true rfl) ?_
  refine W.eq (g2 := F0 m 4 ls []) rfl ?_
  refine lv_aload_n hx hb dQ_init_4 rfl (lv_at hl 0 rfl) ?_
  refine lv_lconst (v := 0) hx hb dQ_init_5 (by decide) ?_
  refine va_put (D := (dC, dI)) (ci := 5) (v := .long 0) (ty := .long) (C := RQ) (T := TQ) (N := 2) hx hb hts inQ yQ yoQ noQ hown hK hP hD hS 0 rfl rfl 0 (by decide) (hts _ gw_94) (fun _ h9 => h9) rfl (by decide +kernel) rfl rfl (Nat.le_of_ble_eq_true rfl) dQ_init_6 (fun H locs hP hD hS => ?_)
  have hP : va_P (dC, dI) vCl [(h0, .inr (5, [.long 0, .long den]))] H := hP
  have hD : va_D A [(h0, .inr (5, [.long 0, .long den]))] := hD
  refine lv_aload_n hx hb dQ_init_9 rfl (lv_at hl 0 rfl) ?_
  refine lv_lconst (v := 1) hx hb dQ_init_10 (by decide) ?_
  refine va_put (D := (dC, dI)) (ci := 5) (v := .long 1) (ty := .long) (C := RQ) (T := TQ) (N := 2) hx hb hts inQ yQ yoQ noQ hown hK hP hD hS 0 rfl rfl 1 (by decide) (hts _ gw_95) (fun _ h9 => h9) rfl (by decide +kernel) rfl rfl (Nat.le_of_ble_eq_true rfl) dQ_init_11 (fun H locs hP hD hS => ?_)
  have hP : va_P (dC, dI) vCl [(h0, .inr (5, [.long 0, .long 1]))] H := hP
  have hD : va_D A [(h0, .inr (5, [.long 0, .long 1]))] := hD
  exact W.vret hx hb hr (fun t ht hW => ⟨rfl, by rw [ht]; exact hP, by rw [hAe]; exact hS.F ht⟩) hS.2.2 dQ_init_14

set_option maxHeartbeats 4000000 in
set_option maxRecDepth 100000 in
theorem c_A_init (l : Launch) (dC : Nat → ClassId) (dI : Nat → Nat → Nat) (h0 : Nat) (kind : Int32) (rises : Int32) (total : Int64) (going : Int64) (width : Int64) (cf : Int32) (ct : Int32) : Met l mA_init wA_init ({ frames := 1, cells := 0, slots := 0, locals := 12 }) (tp_W (dC, dI) vCl [.ref h0] [(h0, .inr (4, [.int kind, .int rises, .long total, .long going, .long width, .int cf, .int ct]))] []) (tq_W (dC, dI) vCl (none) [(h0, .inr (4, [.int kind, .int rises, .long total, .long going, .long width, .int cf, .int ct]))] [(h0, .inr (4, [.int 0, .int 1, .long 1, .long 1, .long 1, .int 0, .int 0]))]) 0 0 (tA [(h0, .inr (4, [.int kind, .int rises, .long total, .long going, .long width, .int cf, .int ct]))]) := by
  refine Met.ofW (cc := bA_init) (maxL := 1) (ret := none) (by decide) rfl ?_
  intro p e s m args below meth c s₁ B hml hv
  obtain ⟨rfl, hP, hK, hN, hD0⟩ := hv
  have hx := B.exec
  have hb := B.bytes
  have hr := B.returns
  have hts : ∀ w ∈ gT, w.before _ s = true := fun w h => atoms_spec (ws := wA_init) B.pre w (List.mem_cons_of_mem _ h)
  have hown : s.vm.findClass RA = some m.cls := findClass_of_methodNamed B.named
  have hlocks := B.notSynchronized
  have hD := tA_D hD0
  generalize hAe : tA [(h0, .inr (4, [.int kind, .int rises, .long total, .long going, .long width, .int cf, .int ct]))] = A at hD ⊢
  have hS : va_S A s.heap s.heap [] := va_S.rf
  have hP : va_P (dC, dI) vCl [(h0, .inr (4, [.int kind, .int rises, .long total, .long going, .long width, .int cf, .int ct]))] s.heap := hP
  have hl := lv_entry ([.ref h0]) (n := 1) (Nat.le_of_ble_eq_true rfl)
  rw [lg_entry_eq]
  generalize (lg_sl ([.ref h0]) ++ List.replicate (1 - (lg_sl ([.ref h0])).length) Slot.unset).toArray = ls at hl ⊢
  have hl : lv_has ls 1 [(0, .ref h0)] := hl
  refine lv_aload_n hx hb dA_init_0 rfl (lv_at hl 0 rfl) ?_
  refine W.objInit hx hb hown (hts _ gw_74) (hts _ gw_24) (hts _ gw_25) rfl (by rw [hml]; exact hl.1) rfl dA_init_1 (Nat.le_of_ble_eq_true rfl) (Nat.le_of_ble_eq_true rfl) ?_
  refine W.eq (g2 := F0 m 4 ls []) rfl ?_
  refine lv_aload_n hx hb dA_init_4 rfl (lv_at hl 0 rfl) ?_
  refine lv_iconst (v := 0) hx hb dA_init_5 (by decide) ?_
  refine va_put (D := (dC, dI)) (ci := 4) (v := .int 0) (ty := .int) (C := RA) (T := TA) (N := 7) hx hb hts inA yA yoA noA hown hK hP hD hS 0 rfl rfl 0 (by decide) (hts _ gw_75) (fun _ h9 => h9) rfl (by decide +kernel) rfl rfl (Nat.le_of_ble_eq_true rfl) dA_init_6 (fun H locs hP hD hS => ?_)
  have hP : va_P (dC, dI) vCl [(h0, .inr (4, [.int 0, .int rises, .long total, .long going, .long width, .int cf, .int ct]))] H := hP
  have hD : va_D A [(h0, .inr (4, [.int 0, .int rises, .long total, .long going, .long width, .int cf, .int ct]))] := hD
  refine lv_aload_n hx hb dA_init_9 rfl (lv_at hl 0 rfl) ?_
  refine lv_iconst (v := 1) hx hb dA_init_10 (by decide) ?_
  refine va_put (D := (dC, dI)) (ci := 4) (v := .int 1) (ty := .int) (C := RA) (T := TA) (N := 7) hx hb hts inA yA yoA noA hown hK hP hD hS 0 rfl rfl 1 (by decide) (hts _ gw_76) (fun _ h9 => h9) rfl (by decide +kernel) rfl rfl (Nat.le_of_ble_eq_true rfl) dA_init_11 (fun H locs hP hD hS => ?_)
  have hP : va_P (dC, dI) vCl [(h0, .inr (4, [.int 0, .int 1, .long total, .long going, .long width, .int cf, .int ct]))] H := hP
  have hD : va_D A [(h0, .inr (4, [.int 0, .int 1, .long total, .long going, .long width, .int cf, .int ct]))] := hD
  refine lv_aload_n hx hb dA_init_14 rfl (lv_at hl 0 rfl) ?_
  refine lv_lconst (v := 1) hx hb dA_init_15 (by decide) ?_
  refine va_put (D := (dC, dI)) (ci := 4) (v := .long 1) (ty := .long) (C := RA) (T := TA) (N := 7) hx hb hts inA yA yoA noA hown hK hP hD hS 0 rfl rfl 2 (by decide) (hts _ gw_77) (fun _ h9 => h9) rfl (by decide +kernel) rfl rfl (Nat.le_of_ble_eq_true rfl) dA_init_16 (fun H locs hP hD hS => ?_)
  have hP : va_P (dC, dI) vCl [(h0, .inr (4, [.int 0, .int 1, .long 1, .long going, .long width, .int cf, .int ct]))] H := hP
  have hD : va_D A [(h0, .inr (4, [.int 0, .int 1, .long 1, .long going, .long width, .int cf, .int ct]))] := hD
  refine lv_aload_n hx hb dA_init_19 rfl (lv_at hl 0 rfl) ?_
  refine lv_lconst (v := 1) hx hb dA_init_20 (by decide) ?_
  refine va_put (D := (dC, dI)) (ci := 4) (v := .long 1) (ty := .long) (C := RA) (T := TA) (N := 7) hx hb hts inA yA yoA noA hown hK hP hD hS 0 rfl rfl 3 (by decide) (hts _ gw_78) (fun _ h9 => h9) rfl (by decide +kernel) rfl rfl (Nat.le_of_ble_eq_true rfl) dA_init_21 (fun H locs hP hD hS => ?_)
  have hP : va_P (dC, dI) vCl [(h0, .inr (4, [.int 0, .int 1, .long 1, .long 1, .long width, .int cf, .int ct]))] H := hP
  have hD : va_D A [(h0, .inr (4, [.int 0, .int 1, .long 1, .long 1, .long width, .int cf, .int ct]))] := hD
  refine lv_aload_n hx hb dA_init_24 rfl (lv_at hl 0 rfl) ?_
  refine lv_lconst (v := 1) hx hb dA_init_25 (by decide) ?_
  refine va_put (D := (dC, dI)) (ci := 4) (v := .long 1) (ty := .long) (C := RA) (T := TA) (N := 7) hx hb hts inA yA yoA noA hown hK hP hD hS 0 rfl rfl 4 (by decide) (hts _ gw_79) (fun _ h9 => h9) rfl (by decide +kernel) rfl rfl (Nat.le_of_ble_eq_true rfl) dA_init_26 (fun H locs hP hD hS => ?_)
  have hP : va_P (dC, dI) vCl [(h0, .inr (4, [.int 0, .int 1, .long 1, .long 1, .long 1, .int cf, .int ct]))] H := hP
  have hD : va_D A [(h0, .inr (4, [.int 0, .int 1, .long 1, .long 1, .long 1, .int cf, .int ct]))] := hD
  refine lv_aload_n hx hb dA_init_29 rfl (lv_at hl 0 rfl) ?_
  refine lv_iconst (v := 0) hx hb dA_init_30 (by decide) ?_
  refine va_put (D := (dC, dI)) (ci := 4) (v := .int 0) (ty := .int) (C := RA) (T := TA) (N := 7) hx hb hts inA yA yoA noA hown hK hP hD hS 0 rfl rfl 5 (by decide) (hts _ gw_80) (fun _ h9 => h9) rfl (by decide +kernel) rfl rfl (Nat.le_of_ble_eq_true rfl) dA_init_31 (fun H locs hP hD hS => ?_)
  have hP : va_P (dC, dI) vCl [(h0, .inr (4, [.int 0, .int 1, .long 1, .long 1, .long 1, .int 0, .int ct]))] H := hP
  have hD : va_D A [(h0, .inr (4, [.int 0, .int 1, .long 1, .long 1, .long 1, .int 0, .int ct]))] := hD
  refine lv_aload_n hx hb dA_init_34 rfl (lv_at hl 0 rfl) ?_
  refine lv_iconst (v := 0) hx hb dA_init_35 (by decide) ?_
  refine va_put (D := (dC, dI)) (ci := 4) (v := .int 0) (ty := .int) (C := RA) (T := TA) (N := 7) hx hb hts inA yA yoA noA hown hK hP hD hS 0 rfl rfl 6 (by decide) (hts _ gw_81) (fun _ h9 => h9) rfl (by decide +kernel) rfl rfl (Nat.le_of_ble_eq_true rfl) dA_init_36 (fun H locs hP hD hS => ?_)
  have hP : va_P (dC, dI) vCl [(h0, .inr (4, [.int 0, .int 1, .long 1, .long 1, .long 1, .int 0, .int 0]))] H := hP
  have hD : va_D A [(h0, .inr (4, [.int 0, .int 1, .long 1, .long 1, .long 1, .int 0, .int 0]))] := hD
  exact W.vret hx hb hr (fun t ht hW => ⟨rfl, by rw [ht]; exact hP, by rw [hAe]; exact hS.F ht⟩) hS.2.2 dA_init_39
