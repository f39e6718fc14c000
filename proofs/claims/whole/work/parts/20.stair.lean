def fA_fewest (kind : Int32) (rises : Int32) (total : Int64) (going : Int64) (width : Int64) (cf : Int32) (ct : Int32) : Int32 := if kind = 2 then 4 else (if kind = 1 then 2 else 1)
set_option maxHeartbeats 4000000 in
set_option maxRecDepth 100000 in
theorem c_A_fewestRises (l : Launch) (dC : Nat → ClassId) (dI : Nat → Nat → Nat) (h0 : Nat) (kind : Int32) (rises : Int32) (total : Int64) (going : Int64) (width : Int64) (cf : Int32) (ct : Int32) : Met l mA_fewestRises wA_fewestRises ({ frames := 0, cells := 0, slots := 0, locals := 0 }) (tp_R (dC, dI) vCl [.ref h0] [(h0, .inr (4, [.int kind, .int rises, .long total, .long going, .long width, .int cf, .int ct]))] []) (tq_R (some (.int (fA_fewest kind rises total going width cf ct)))) 0 0 (fun _ => False) := by
  refine Met.ofW (cc := bA_fewestRises) (maxL := 1) (ret := (some .int)) (by decide) rfl ?_
  intro p e s m args below meth c s₁ B hml hv
  obtain ⟨rfl, hP, hK, hN⟩ := hv
  have hx := B.exec
  have hb := B.bytes
  have hr := B.returns
  have hts : ∀ w ∈ gT, w.before _ s = true := fun w h => atoms_spec (ws := wA_fewestRises) B.pre w (List.mem_cons_of_mem _ h)
  have hown : s.vm.findClass RA = some m.cls := findClass_of_methodNamed B.named
  have hlocks := B.notSynchronized
  have hP : va_P (dC, dI) vCl [(h0, .inr (4, [.int kind, .int rises, .long total, .long going, .long width, .int cf, .int ct]))] s.heap := hP
  have hl := lv_entry ([.ref h0]) (n := 1) (Nat.le_of_ble_eq_true rfl)
  rw [lg_entry_eq]
  generalize (lg_sl ([.ref h0]) ++ List.replicate (1 - (lg_sl ([.ref h0])).length) Slot.unset).toArray = ls at hl ⊢
  have hl : lv_has ls 1 [(0, .ref h0)] := hl
  refine lv_aload_n hx hb dA_fewestRises_0 rfl (lv_at hl 0 rfl) ?_
  refine va_get (D := (dC, dI)) (ci := 4) (v := .int kind) (C := RA) (T := TA) (N := 7) hx hb hts inA hown hK hP 0 rfl rfl 0 (by decide) (hts _ gw_75) (fun _ h9 => h9) rfl dA_fewestRises_1 ?_
  refine lv_iconst (v := 2) hx hb dA_fewestRises_4 (by decide) ?_
  refine lv_icmp_ne (tgt := 12) hx hb dA_fewestRises_5 (by decide) (fun c_1 => ?_) (fun c_1 => ?_)
  · skip
    refine lv_aload_n hx hb dA_fewestRises_12 rfl (lv_at hl 0 rfl) ?_
    refine va_get (D := (dC, dI)) (ci := 4) (v := .int kind) (C := RA) (T := TA) (N := 7) hx hb hts inA hown hK hP 0 rfl rfl 0 (by decide) (hts _ gw_75) (fun _ h9 => h9) rfl dA_fewestRises_13 ?_
    refine lv_iconst (v := 1) hx hb dA_fewestRises_16 (by decide) ?_
    refine lv_icmp_ne (tgt := 24) hx hb dA_fewestRises_17 (by decide) (fun c_2 => ?_) (fun c_2 => ?_)
    · skip
      refine lv_iconst (v := 1) hx hb dA_fewestRises_24 (by decide) ?_
      exact W.iret (v := 1) hx hb hr (fun t ht hW => ⟨by rw [show fA_fewest kind rises total going width cf ct = 1 from by unfold fA_fewest; rw [if_neg c_1, if_neg c_2]], ht⟩) (fun q h => by cases h) dA_fewestRises_25
    · skip
      refine lv_iconst (v := 2) hx hb dA_fewestRises_20 (by decide) ?_
      refine lv_goto (tgt := 25) hx hb dA_fewestRises_21 (by decide) ?_
      exact W.iret (v := 2) hx hb hr (fun t ht hW => ⟨by rw [show fA_fewest kind rises total going width cf ct = 2 from by unfold fA_fewest; rw [if_neg c_1, if_pos c_2]], ht⟩) (fun q h => by cases h) dA_fewestRises_25
  · skip
    refine lv_iconst (v := 4) hx hb dA_fewestRises_8 (by decide) ?_
    refine lv_goto (tgt := 25) hx hb dA_fewestRises_9 (by decide) ?_
    exact W.iret (v := 4) hx hb hr (fun t ht hW => ⟨by rw [show fA_fewest kind rises total going width cf ct = 4 from by unfold fA_fewest; rw [if_pos c_1]], ht⟩) (fun q h => by cases h) dA_fewestRises_25

def fA_treads (kind : Int32) (rises : Int32) (total : Int64) (going : Int64) (width : Int64) (cf : Int32) (ct : Int32) : Int32 := rises - 1
set_option maxHeartbeats 4000000 in
set_option maxRecDepth 100000 in
theorem c_A_treads (l : Launch) (dC : Nat → ClassId) (dI : Nat → Nat → Nat) (h0 : Nat) (kind : Int32) (rises : Int32) (total : Int64) (going : Int64) (width : Int64) (cf : Int32) (ct : Int32) : Met l mA_treads wA_treads ({ frames := 0, cells := 0, slots := 0, locals := 0 }) (tp_R (dC, dI) vCl [.ref h0] [(h0, .inr (4, [.int kind, .int rises, .long total, .long going, .long width, .int cf, .int ct]))] []) (tq_R (some (.int (fA_treads kind rises total going width cf ct)))) 0 0 (fun _ => False) := by
  refine Met.ofW (cc := bA_treads) (maxL := 1) (ret := (some .int)) (by decide) rfl ?_
  intro p e s m args below meth c s₁ B hml hv
  obtain ⟨rfl, hP, hK, hN⟩ := hv
  have hx := B.exec
  have hb := B.bytes
  have hr := B.returns
  have hts : ∀ w ∈ gT, w.before _ s = true := fun w h => atoms_spec (ws := wA_treads) B.pre w (List.mem_cons_of_mem _ h)
  have hown : s.vm.findClass RA = some m.cls := findClass_of_methodNamed B.named
  have hlocks := B.notSynchronized
  have hP : va_P (dC, dI) vCl [(h0, .inr (4, [.int kind, .int rises, .long total, .long going, .long width, .int cf, .int ct]))] s.heap := hP
  have hl := lv_entry ([.ref h0]) (n := 1) (Nat.le_of_ble_eq_true rfl)
  rw [lg_entry_eq]
  generalize (lg_sl ([.ref h0]) ++ List.replicate (1 - (lg_sl ([.ref h0])).length) Slot.unset).toArray = ls at hl ⊢
  have hl : lv_has ls 1 [(0, .ref h0)] := hl
  refine lv_aload_n hx hb dA_treads_0 rfl (lv_at hl 0 rfl) ?_
  refine va_get (D := (dC, dI)) (ci := 4) (v := .int rises) (C := RA) (T := TA) (N := 7) hx hb hts inA hown hK hP 0 rfl rfl 1 (by decide) (hts _ gw_76) (fun _ h9 => h9) rfl dA_treads_1 ?_
  refine lv_iconst (v := 1) hx hb dA_treads_4 (by decide) ?_
  refine lv_isub hx hb dA_treads_5 ?_
  exact W.iret (v := rises - 1) hx hb hr (fun t ht hW => ⟨by rw [show fA_treads kind rises total going width cf ct = rises - 1 from by unfold fA_treads; rfl], ht⟩) (fun q h => by cases h) dA_treads_6

def fA_landings (kind : Int32) (rises : Int32) (total : Int64) (going : Int64) (width : Int64) (cf : Int32) (ct : Int32) : Int32 := if kind = 1 then 1 else 0
set_option maxHeartbeats 4000000 in
set_option maxRecDepth 100000 in
theorem c_A_landings (l : Launch) (dC : Nat → ClassId) (dI : Nat → Nat → Nat) (h0 : Nat) (kind : Int32) (rises : Int32) (total : Int64) (going : Int64) (width : Int64) (cf : Int32) (ct : Int32) : Met l mA_landings wA_landings ({ frames := 0, cells := 0, slots := 0, locals := 0 }) (tp_R (dC, dI) vCl [.ref h0] [(h0, .inr (4, [.int kind, .int rises, .long total, .long going, .long width, .int cf, .int ct]))] []) (tq_R (some (.int (fA_landings kind rises total going width cf ct)))) 0 0 (fun _ => False) := by
  refine Met.ofW (cc := bA_landings) (maxL := 1) (ret := (some .int)) (by decide) rfl ?_
  intro p e s m args below meth c s₁ B hml hv
  obtain ⟨rfl, hP, hK, hN⟩ := hv
  have hx := B.exec
  have hb := B.bytes
  have hr := B.returns
  have hts : ∀ w ∈ gT, w.before _ s = true := fun w h => atoms_spec (ws := wA_landings) B.pre w (List.mem_cons_of_mem _ h)
  have hown : s.vm.findClass RA = some m.cls := findClass_of_methodNamed B.named
  have hlocks := B.notSynchronized
  have hP : va_P (dC, dI) vCl [(h0, .inr (4, [.int kind, .int rises, .long total, .long going, .long width, .int cf, .int ct]))] s.heap := hP
  have hl := lv_entry ([.ref h0]) (n := 1) (Nat.le_of_ble_eq_true rfl)
  rw [lg_entry_eq]
  generalize (lg_sl ([.ref h0]) ++ List.replicate (1 - (lg_sl ([.ref h0])).length) Slot.unset).toArray = ls at hl ⊢
  have hl : lv_has ls 1 [(0, .ref h0)] := hl
  refine lv_aload_n hx hb dA_landings_0 rfl (lv_at hl 0 rfl) ?_
  refine va_get (D := (dC, dI)) (ci := 4) (v := .int kind) (C := RA) (T := TA) (N := 7) hx hb hts inA hown hK hP 0 rfl rfl 0 (by decide) (hts _ gw_75) (fun _ h9 => h9) rfl dA_landings_1 ?_
  refine lv_iconst (v := 1) hx hb dA_landings_4 (by decide) ?_
  refine lv_icmp_ne (tgt := 12) hx hb dA_landings_5 (by decide) (fun c_1 => ?_) (fun c_1 => ?_)
  · skip
    refine lv_iconst (v := 0) hx hb dA_landings_12 (by decide) ?_
    exact W.iret (v := 0) hx hb hr (fun t ht hW => ⟨by rw [show fA_landings kind rises total going width cf ct = 0 from by unfold fA_landings; rw [if_neg c_1]], ht⟩) (fun q h => by cases h) dA_landings_13
  · skip
    refine lv_iconst (v := 1) hx hb dA_landings_8 (by decide) ?_
    refine lv_goto (tgt := 13) hx hb dA_landings_9 (by decide) ?_
    exact W.iret (v := 1) hx hb hr (fun t ht hW => ⟨by rw [show fA_landings kind rises total going width cf ct = 1 from by unfold fA_landings; rw [if_pos c_1]], ht⟩) (fun q h => by cases h) dA_landings_13

def fA_winders (kind : Int32) (rises : Int32) (total : Int64) (going : Int64) (width : Int64) (cf : Int32) (ct : Int32) : Int32 := if kind = 2 then 3 else 0
set_option maxHeartbeats 4000000 in
set_option maxRecDepth 100000 in
theorem c_A_winders (l : Launch) (dC : Nat → ClassId) (dI : Nat → Nat → Nat) (h0 : Nat) (kind : Int32) (rises : Int32) (total : Int64) (going : Int64) (width : Int64) (cf : Int32) (ct : Int32) : Met l mA_winders wA_winders ({ frames := 0, cells := 0, slots := 0, locals := 0 }) (tp_R (dC, dI) vCl [.ref h0] [(h0, .inr (4, [.int kind, .int rises, .long total, .long going, .long width, .int cf, .int ct]))] []) (tq_R (some (.int (fA_winders kind rises total going width cf ct)))) 0 0 (fun _ => False) := by
  refine Met.ofW (cc := bA_winders) (maxL := 1) (ret := (some .int)) (by decide) rfl ?_
  intro p e s m args below meth c s₁ B hml hv
  obtain ⟨rfl, hP, hK, hN⟩ := hv
  have hx := B.exec
  have hb := B.bytes
  have hr := B.returns
  have hts : ∀ w ∈ gT, w.before _ s = true := fun w h => atoms_spec (ws := wA_winders) B.pre w (List.mem_cons_of_mem _ h)
  have hown : s.vm.findClass RA = some m.cls := findClass_of_methodNamed B.named
  have hlocks := B.notSynchronized
  have hP : va_P (dC, dI) vCl [(h0, .inr (4, [.int kind, .int rises, .long total, .long going, .long width, .int cf, .int ct]))] s.heap := hP
  have hl := lv_entry ([.ref h0]) (n := 1) (Nat.le_of_ble_eq_true rfl)
  rw [lg_entry_eq]
  generalize (lg_sl ([.ref h0]) ++ List.replicate (1 - (lg_sl ([.ref h0])).length) Slot.unset).toArray = ls at hl ⊢
  have hl : lv_has ls 1 [(0, .ref h0)] := hl
  refine lv_aload_n hx hb dA_winders_0 rfl (lv_at hl 0 rfl) ?_
  refine va_get (D := (dC, dI)) (ci := 4) (v := .int kind) (C := RA) (T := TA) (N := 7) hx hb hts inA hown hK hP 0 rfl rfl 0 (by decide) (hts _ gw_75) (fun _ h9 => h9) rfl dA_winders_1 ?_
  refine lv_iconst (v := 2) hx hb dA_winders_4 (by decide) ?_
  refine lv_icmp_ne (tgt := 12) hx hb dA_winders_5 (by decide) (fun c_1 => ?_) (fun c_1 => ?_)
  · skip
    refine lv_iconst (v := 0) hx hb dA_winders_12 (by decide) ?_
    exact W.iret (v := 0) hx hb hr (fun t ht hW => ⟨by rw [show fA_winders kind rises total going width cf ct = 0 from by unfold fA_winders; rw [if_neg c_1]], ht⟩) (fun q h => by cases h) dA_winders_13
  · skip
    refine lv_iconst (v := 3) hx hb dA_winders_8 (by decide) ?_
    refine lv_goto (tgt := 13) hx hb dA_winders_9 (by decide) ?_
    exact W.iret (v := 3) hx hb hr (fun t ht hW => ⟨by rw [show fA_winders kind rises total going width cf ct = 3 from by unfold fA_winders; rw [if_pos c_1]], ht⟩) (fun q h => by cases h) dA_winders_13

def fA_cornerX (kind : Int32) (rises : Int32) (total : Int64) (going : Int64) (width : Int64) (cf : Int32) (ct : Int32) : Int64 := cf.toInt64 * going
set_option maxHeartbeats 4000000 in
set_option maxRecDepth 100000 in
theorem c_A_cornerX (l : Launch) (dC : Nat → ClassId) (dI : Nat → Nat → Nat) (h0 : Nat) (kind : Int32) (rises : Int32) (total : Int64) (going : Int64) (width : Int64) (cf : Int32) (ct : Int32) : Met l mA_cornerX wA_cornerX ({ frames := 0, cells := 0, slots := 0, locals := 0 }) (tp_R (dC, dI) vCl [.ref h0] [(h0, .inr (4, [.int kind, .int rises, .long total, .long going, .long width, .int cf, .int ct]))] []) (tq_R (some (.long (fA_cornerX kind rises total going width cf ct)))) 0 0 (fun _ => False) := by
  refine Met.ofW (cc := bA_cornerX) (maxL := 1) (ret := (some .long)) (by decide) rfl ?_
  intro p e s m args below meth c s₁ B hml hv
  obtain ⟨rfl, hP, hK, hN⟩ := hv
  have hx := B.exec
  have hb := B.bytes
  have hr := B.returns
  have hts : ∀ w ∈ gT, w.before _ s = true := fun w h => atoms_spec (ws := wA_cornerX) B.pre w (List.mem_cons_of_mem _ h)
  have hown : s.vm.findClass RA = some m.cls := findClass_of_methodNamed B.named
  have hlocks := B.notSynchronized
  have hP : va_P (dC, dI) vCl [(h0, .inr (4, [.int kind, .int rises, .long total, .long going, .long width, .int cf, .int ct]))] s.heap := hP
  have hl := lv_entry ([.ref h0]) (n := 1) (Nat.le_of_ble_eq_true rfl)
  rw [lg_entry_eq]
  generalize (lg_sl ([.ref h0]) ++ List.replicate (1 - (lg_sl ([.ref h0])).length) Slot.unset).toArray = ls at hl ⊢
  have hl : lv_has ls 1 [(0, .ref h0)] := hl
  refine lv_aload_n hx hb dA_cornerX_0 rfl (lv_at hl 0 rfl) ?_
  refine va_get (D := (dC, dI)) (ci := 4) (v := .int cf) (C := RA) (T := TA) (N := 7) hx hb hts inA hown hK hP 0 rfl rfl 5 (by decide) (hts _ gw_80) (fun _ h9 => h9) rfl dA_cornerX_1 ?_
  refine lv_i2l (v := cf.toInt64) hx hb dA_cornerX_4 rfl ?_
  refine lv_aload_n hx hb dA_cornerX_5 rfl (lv_at hl 0 rfl) ?_
  refine va_get (D := (dC, dI)) (ci := 4) (v := .long going) (C := RA) (T := TA) (N := 7) hx hb hts inA hown hK hP 0 rfl rfl 3 (by decide) (hts _ gw_78) (fun _ h9 => h9) rfl dA_cornerX_6 ?_
  refine lv_lmul hx hb dA_cornerX_9 ?_
  exact W.lret (v := cf.toInt64 * going) hx hb hr (fun t ht hW => ⟨by rw [show fA_cornerX kind rises total going width cf ct = cf.toInt64 * going from by unfold fA_cornerX; rfl], ht⟩) (fun q h => by cases h) dA_cornerX_10

def fA_shape (kind : Int32) (rises : Int32) (total : Int64) (going : Int64) (width : Int64) (cf : Int32) (ct : Int32) (k : Int32) : Int32 := if cf ≤ k then (if k < ct then (if kind = 1 then 2 else 3) else 1) else 0
set_option maxHeartbeats 4000000 in
set_option maxRecDepth 100000 in
theorem c_A_shape (l : Launch) (dC : Nat → ClassId) (dI : Nat → Nat → Nat) (h0 : Nat) (kind : Int32) (rises : Int32) (total : Int64) (going : Int64) (width : Int64) (cf : Int32) (ct : Int32) (k : Int32) : Met l mA_shape wA_shape ({ frames := 0, cells := 0, slots := 0, locals := 0 }) (tp_R (dC, dI) vCl [.ref h0, .int k] [(h0, .inr (4, [.int kind, .int rises, .long total, .long going, .long width, .int cf, .int ct]))] []) (tq_R (some (.int (fA_shape kind rises total going width cf ct k)))) 0 0 (fun _ => False) := by
  refine Met.ofW (cc := bA_shape) (maxL := 2) (ret := (some .int)) (by decide) rfl ?_
  intro p e s m args below meth c s₁ B hml hv
  obtain ⟨rfl, hP, hK, hN⟩ := hv
  have hx := B.exec
  have hb := B.bytes
  have hr := B.returns
  have hts : ∀ w ∈ gT, w.before _ s = true := fun w h => atoms_spec (ws := wA_shape) B.pre w (List.mem_cons_of_mem _ h)
  have hown : s.vm.findClass RA = some m.cls := findClass_of_methodNamed B.named
  have hlocks := B.notSynchronized
  have hP : va_P (dC, dI) vCl [(h0, .inr (4, [.int kind, .int rises, .long total, .long going, .long width, .int cf, .int ct]))] s.heap := hP
  have hl := lv_entry ([.ref h0, .int k]) (n := 2) (Nat.le_of_ble_eq_true rfl)
  rw [lg_entry_eq]
  generalize (lg_sl ([.ref h0, .int k]) ++ List.replicate (2 - (lg_sl ([.ref h0, .int k])).length) Slot.unset).toArray = ls at hl ⊢
  have hl : lv_has ls 2 [(0, .ref h0), (1, .int k)] := hl
  refine lv_iload_n hx hb dA_shape_0 rfl (lv_at hl 1 rfl) ?_
  refine lv_aload_n hx hb dA_shape_1 rfl (lv_at hl 0 rfl) ?_
  refine va_get (D := (dC, dI)) (ci := 4) (v := .int cf) (C := RA) (T := TA) (N := 7) hx hb hts inA hown hK hP 0 rfl rfl 5 (by decide) (hts _ gw_80) (fun _ h9 => h9) rfl dA_shape_2 ?_
  refine lv_icmp_ge (tgt := 10) hx hb dA_shape_5 (by decide) (fun c_1 => ?_) (fun c_1 => ?_)
  · skip
    refine lv_iload_n hx hb dA_shape_10 rfl (lv_at hl 1 rfl) ?_
    refine lv_aload_n hx hb dA_shape_11 rfl (lv_at hl 0 rfl) ?_
    refine va_get (D := (dC, dI)) (ci := 4) (v := .int ct) (C := RA) (T := TA) (N := 7) hx hb hts inA hown hK hP 0 rfl rfl 6 (by decide) (hts _ gw_81) (fun _ h9 => h9) rfl dA_shape_12 ?_
    refine lv_icmp_lt (tgt := 20) hx hb dA_shape_15 (by decide) (fun c_2 => ?_) (fun c_2 => ?_)
    · skip
      refine lv_aload_n hx hb dA_shape_20 rfl (lv_at hl 0 rfl) ?_
      refine va_get (D := (dC, dI)) (ci := 4) (v := .int kind) (C := RA) (T := TA) (N := 7) hx hb hts inA hown hK hP 0 rfl rfl 0 (by decide) (hts _ gw_75) (fun _ h9 => h9) rfl dA_shape_21 ?_
      refine lv_iconst (v := 1) hx hb dA_shape_24 (by decide) ?_
      refine lv_icmp_ne (tgt := 32) hx hb dA_shape_25 (by decide) (fun c_3 => ?_) (fun c_3 => ?_)
      · skip
        refine lv_iconst (v := 3) hx hb dA_shape_32 (by decide) ?_
        exact W.iret (v := 3) hx hb hr (fun t ht hW => ⟨by rw [show fA_shape kind rises total going width cf ct k = 3 from by unfold fA_shape; rw [if_pos c_1, if_pos c_2, if_neg c_3]], ht⟩) (fun q h => by cases h) dA_shape_33
      · skip
        refine lv_iconst (v := 2) hx hb dA_shape_28 (by decide) ?_
        refine lv_goto (tgt := 33) hx hb dA_shape_29 (by decide) ?_
        exact W.iret (v := 2) hx hb hr (fun t ht hW => ⟨by rw [show fA_shape kind rises total going width cf ct k = 2 from by unfold fA_shape; rw [if_pos c_1, if_pos c_2, if_pos c_3]], ht⟩) (fun q h => by cases h) dA_shape_33
    · skip
      refine lv_iconst (v := 1) hx hb dA_shape_18 (by decide) ?_
      exact W.iret (v := 1) hx hb hr (fun t ht hW => ⟨by rw [show fA_shape kind rises total going width cf ct k = 1 from by unfold fA_shape; rw [if_pos c_1, if_neg c_2]], ht⟩) (fun q h => by cases h) dA_shape_19
  · skip
    refine lv_iconst (v := 0) hx hb dA_shape_8 (by decide) ?_
    exact W.iret (v := 0) hx hb hr (fun t ht hW => ⟨by rw [show fA_shape kind rises total going width cf ct k = 0 from by unfold fA_shape; rw [if_neg c_1]], ht⟩) (fun q h => by cases h) dA_shape_9

def fA_leastX (kind : Int32) (rises : Int32) (total : Int64) (going : Int64) (width : Int64) (cf : Int32) (ct : Int32) (k : Int32) : Int64 := if (fA_shape kind rises total going width cf ct k) = 0 then (k.toInt64 * going) else (fA_cornerX kind rises total going width cf ct)
set_option maxHeartbeats 4000000 in
set_option maxRecDepth 100000 in
theorem c_A_leastX (l : Launch) (dC : Nat → ClassId) (dI : Nat → Nat → Nat) (h0 : Nat) (kind : Int32) (rises : Int32) (total : Int64) (going : Int64) (width : Int64) (cf : Int32) (ct : Int32) (k : Int32) : Met l mA_leastX wA_leastX ({ frames := 1, cells := 0, slots := 0, locals := 21 }) (tp_R (dC, dI) vCl [.ref h0, .int k] [(h0, .inr (4, [.int kind, .int rises, .long total, .long going, .long width, .int cf, .int ct]))] []) (tq_R (some (.long (fA_leastX kind rises total going width cf ct k)))) 0 0 (fun _ => False) := by
  refine Met.ofW (cc := bA_leastX) (maxL := 2) (ret := (some .long)) (by decide) rfl ?_
  intro p e s m args below meth c s₁ B hml hv
  obtain ⟨rfl, hP, hK, hN⟩ := hv
  have hx := B.exec
  have hb := B.bytes
  have hr := B.returns
  have hts : ∀ w ∈ gT, w.before _ s = true := fun w h => atoms_spec (ws := wA_leastX) B.pre w (List.mem_cons_of_mem _ h)
  have hown : s.vm.findClass RA = some m.cls := findClass_of_methodNamed B.named
  have hlocks := B.notSynchronized
  have hP : va_P (dC, dI) vCl [(h0, .inr (4, [.int kind, .int rises, .long total, .long going, .long width, .int cf, .int ct]))] s.heap := hP
  have hl := lv_entry ([.ref h0, .int k]) (n := 2) (Nat.le_of_ble_eq_true rfl)
  rw [lg_entry_eq]
  generalize (lg_sl ([.ref h0, .int k]) ++ List.replicate (2 - (lg_sl ([.ref h0, .int k])).length) Slot.unset).toArray = ls at hl ⊢
  have hl : lv_has ls 2 [(0, .ref h0), (1, .int k)] := hl
  refine lv_aload_n hx hb dA_leastX_0 rfl (lv_at hl 0 rfl) ?_
  refine lv_iload_n hx hb dA_leastX_1 rfl (lv_at hl 1 rfl) ?_
  refine tr_go (st1 := [.int (fA_shape kind rises total going width cf ct k)]) (va_runV (As := [.int k]) (rest := []) (C := RA) ⟨hx, hb, hml, hown, hts⟩ (c_A_shape l dC dI h0 kind rises total going width cf ct k) ⟨cB 1 hts gw_405 gw_5 gw_402 ndA_shape rfl rfl ⟨Nat.le_of_ble_eq_true rfl, Nat.le_of_ble_eq_true rfl⟩, hts _ gw_403, hts _ gw_404⟩ (tp_Rv hN hK hP [0] [] rfl rfl (q0 := 0) (ci := 4) rfl rfl) rfl rfl hl.1 rfl (lv_room (Nat.le_of_ble_eq_true rfl)) dA_leastX_2 ⟨Nat.le_of_ble_eq_true rfl, Nat.le_of_ble_eq_true rfl⟩) rfl ?_
  refine lv_if_ne (tgt := 18) hx hb dA_leastX_5 (by decide) (fun c_1 => ?_) (fun c_1 => ?_)
  · skip
    refine lv_aload_n hx hb dA_leastX_18 rfl (lv_at hl 0 rfl) ?_
    refine tr_go (st1 := [.long (fA_cornerX kind rises total going width cf ct)]) (va_runV (As := []) (rest := []) (C := RA) ⟨hx, hb, hml, hown, hts⟩ (c_A_cornerX l dC dI h0 kind rises total going width cf ct) ⟨cB 0 hts gw_408 gw_5 gw_406 ndA_cornerX rfl rfl ⟨Nat.le_of_ble_eq_true rfl, Nat.le_of_ble_eq_true rfl⟩, hts _ gw_407, hts _ gw_751⟩ (tp_Rv hN hK hP [0] [] rfl rfl (q0 := 0) (ci := 4) rfl rfl) rfl rfl hl.1 rfl (lv_room (Nat.le_of_ble_eq_true rfl)) dA_leastX_19 ⟨Nat.le_of_ble_eq_true rfl, Nat.le_of_ble_eq_true rfl⟩) rfl ?_
    exact W.lret (v := fA_cornerX kind rises total going width cf ct) hx hb hr (fun t ht hW => ⟨by rw [show fA_leastX kind rises total going width cf ct k = fA_cornerX kind rises total going width cf ct from by unfold fA_leastX; rw [if_neg c_1]], ht⟩) (fun q h => by cases h) dA_leastX_22
  · skip
    refine lv_iload_n hx hb dA_leastX_8 rfl (lv_at hl 1 rfl) ?_
    refine lv_i2l (v := k.toInt64) hx hb dA_leastX_9 rfl ?_
    refine lv_aload_n hx hb dA_leastX_10 rfl (lv_at hl 0 rfl) ?_
    refine va_get (D := (dC, dI)) (ci := 4) (v := .long going) (C := RA) (T := TA) (N := 7) hx hb hts inA hown hK hP 0 rfl rfl 3 (by decide) (hts _ gw_78) (fun _ h9 => h9) rfl dA_leastX_11 ?_
    refine lv_lmul hx hb dA_leastX_14 ?_
    refine lv_goto (tgt := 22) hx hb dA_leastX_15 (by decide) ?_
    exact W.lret (v := k.toInt64 * going) hx hb hr (fun t ht hW => ⟨by rw [show fA_leastX kind rises total going width cf ct k = k.toInt64 * going from by unfold fA_leastX; rw [if_pos c_1]], ht⟩) (fun q h => by cases h) dA_leastX_22

def fA_greatestX (kind : Int32) (rises : Int32) (total : Int64) (going : Int64) (width : Int64) (cf : Int32) (ct : Int32) (k : Int32) : Int64 := if (fA_shape kind rises total going width cf ct k) = 0 then (((k + 1).toInt64) * going) else ((fA_cornerX kind rises total going width cf ct) + width)
set_option maxHeartbeats 4000000 in
set_option maxRecDepth 100000 in
theorem c_A_greatestX (l : Launch) (dC : Nat → ClassId) (dI : Nat → Nat → Nat) (h0 : Nat) (kind : Int32) (rises : Int32) (total : Int64) (going : Int64) (width : Int64) (cf : Int32) (ct : Int32) (k : Int32) : Met l mA_greatestX wA_greatestX ({ frames := 1, cells := 0, slots := 0, locals := 21 }) (tp_R (dC, dI) vCl [.ref h0, .int k] [(h0, .inr (4, [.int kind, .int rises, .long total, .long going, .long width, .int cf, .int ct]))] []) (tq_R (some (.long (fA_greatestX kind rises total going width cf ct k)))) 0 0 (fun _ => False) := by
  refine Met.ofW (cc := bA_greatestX) (maxL := 2) (ret := (some .long)) (by decide) rfl ?_
  intro p e s m args below meth c s₁ B hml hv
  obtain ⟨rfl, hP, hK, hN⟩ := hv
  have hx := B.exec
  have hb := B.bytes
  have hr := B.returns
  have hts : ∀ w ∈ gT, w.before _ s = true := fun w h => atoms_spec (ws := wA_greatestX) B.pre w (List.mem_cons_of_mem _ h)
  have hown : s.vm.findClass RA = some m.cls := findClass_of_methodNamed B.named
  have hlocks := B.notSynchronized
  have hP : va_P (dC, dI) vCl [(h0, .inr (4, [.int kind, .int rises, .long total, .long going, .long width, .int cf, .int ct]))] s.heap := hP
  have hl := lv_entry ([.ref h0, .int k]) (n := 2) (Nat.le_of_ble_eq_true rfl)
  rw [lg_entry_eq]
  generalize (lg_sl ([.ref h0, .int k]) ++ List.replicate (2 - (lg_sl ([.ref h0, .int k])).length) Slot.unset).toArray = ls at hl ⊢
  have hl : lv_has ls 2 [(0, .ref h0), (1, .int k)] := hl
  refine lv_aload_n hx hb dA_greatestX_0 rfl (lv_at hl 0 rfl) ?_
  refine lv_iload_n hx hb dA_greatestX_1 rfl (lv_at hl 1 rfl) ?_
  refine tr_go (st1 := [.int (fA_shape kind rises total going width cf ct k)]) (va_runV (As := [.int k]) (rest := []) (C := RA) ⟨hx, hb, hml, hown, hts⟩ (c_A_shape l dC dI h0 kind rises total going width cf ct k) ⟨cB 1 hts gw_405 gw_5 gw_402 ndA_shape rfl rfl ⟨Nat.le_of_ble_eq_true rfl, Nat.le_of_ble_eq_true rfl⟩, hts _ gw_403, hts _ gw_404⟩ (tp_Rv hN hK hP [0] [] rfl rfl (q0 := 0) (ci := 4) rfl rfl) rfl rfl hl.1 rfl (lv_room (Nat.le_of_ble_eq_true rfl)) dA_greatestX_2 ⟨Nat.le_of_ble_eq_true rfl, Nat.le_of_ble_eq_true rfl⟩) rfl ?_
  refine lv_if_ne (tgt := 20) hx hb dA_greatestX_5 (by decide) (fun c_1 => ?_) (fun c_1 => ?_)
  · skip
    refine lv_aload_n hx hb dA_greatestX_20 rfl (lv_at hl 0 rfl) ?_
    refine tr_go (st1 := [.long (fA_cornerX kind rises total going width cf ct)]) (va_runV (As := []) (rest := []) (C := RA) ⟨hx, hb, hml, hown, hts⟩ (c_A_cornerX l dC dI h0 kind rises total going width cf ct) ⟨cB 0 hts gw_408 gw_5 gw_406 ndA_cornerX rfl rfl ⟨Nat.le_of_ble_eq_true rfl, Nat.le_of_ble_eq_true rfl⟩, hts _ gw_407, hts _ gw_751⟩ (tp_Rv hN hK hP [0] [] rfl rfl (q0 := 0) (ci := 4) rfl rfl) rfl rfl hl.1 rfl (lv_room (Nat.le_of_ble_eq_true rfl)) dA_greatestX_21 ⟨Nat.le_of_ble_eq_true rfl, Nat.le_of_ble_eq_true rfl⟩) rfl ?_
    refine lv_aload_n hx hb dA_greatestX_24 rfl (lv_at hl 0 rfl) ?_
    refine va_get (D := (dC, dI)) (ci := 4) (v := .long width) (C := RA) (T := TA) (N := 7) hx hb hts inA hown hK hP 0 rfl rfl 4 (by decide) (hts _ gw_79) (fun _ h9 => h9) rfl dA_greatestX_25 ?_
    refine lv_ladd hx hb dA_greatestX_28 ?_
    exact W.lret (v := (fA_cornerX kind rises total going width cf ct) + width) hx hb hr (fun t ht hW => ⟨by rw [show fA_greatestX kind rises total going width cf ct k = (fA_cornerX kind rises total going width cf ct) + width from by unfold fA_greatestX; rw [if_neg c_1]], ht⟩) (fun q h => by cases h) dA_greatestX_29
  · skip
    refine lv_iload_n hx hb dA_greatestX_8 rfl (lv_at hl 1 rfl) ?_
    refine lv_iconst (v := 1) hx hb dA_greatestX_9 (by decide) ?_
    refine lv_iadd hx hb dA_greatestX_10 ?_
    refine lv_i2l (v := (k + 1).toInt64) hx hb dA_greatestX_11 rfl ?_
    refine lv_aload_n hx hb dA_greatestX_12 rfl (lv_at hl 0 rfl) ?_
    refine va_get (D := (dC, dI)) (ci := 4) (v := .long going) (C := RA) (T := TA) (N := 7) hx hb hts inA hown hK hP 0 rfl rfl 3 (by decide) (hts _ gw_78) (fun _ h9 => h9) rfl dA_greatestX_13 ?_
    refine lv_lmul hx hb dA_greatestX_16 ?_
    refine lv_goto (tgt := 29) hx hb dA_greatestX_17 (by decide) ?_
    exact W.lret (v := ((k + 1).toInt64) * going) hx hb hr (fun t ht hW => ⟨by rw [show fA_greatestX kind rises total going width cf ct k = ((k + 1).toInt64) * going from by unfold fA_greatestX; rw [if_pos c_1]], ht⟩) (fun q h => by cases h) dA_greatestX_29

def fA_leastY (kind : Int32) (rises : Int32) (total : Int64) (going : Int64) (width : Int64) (cf : Int32) (ct : Int32) (k : Int32) : Int64 := if (fA_shape kind rises total going width cf ct k) = 1 then (width + (((k - ct).toInt64) * going)) else 0
set_option maxHeartbeats 4000000 in
set_option maxRecDepth 100000 in
theorem c_A_leastY (l : Launch) (dC : Nat → ClassId) (dI : Nat → Nat → Nat) (h0 : Nat) (kind : Int32) (rises : Int32) (total : Int64) (going : Int64) (width : Int64) (cf : Int32) (ct : Int32) (k : Int32) : Met l mA_leastY wA_leastY ({ frames := 1, cells := 0, slots := 0, locals := 21 }) (tp_R (dC, dI) vCl [.ref h0, .int k] [(h0, .inr (4, [.int kind, .int rises, .long total, .long going, .long width, .int cf, .int ct]))] []) (tq_R (some (.long (fA_leastY kind rises total going width cf ct k)))) 0 0 (fun _ => False) := by
  refine Met.ofW (cc := bA_leastY) (maxL := 2) (ret := (some .long)) (by decide) rfl ?_
  intro p e s m args below meth c s₁ B hml hv
  obtain ⟨rfl, hP, hK, hN⟩ := hv
  have hx := B.exec
  have hb := B.bytes
  have hr := B.returns
  have hts : ∀ w ∈ gT, w.before _ s = true := fun w h => atoms_spec (ws := wA_leastY) B.pre w (List.mem_cons_of_mem _ h)
  have hown : s.vm.findClass RA = some m.cls := findClass_of_methodNamed B.named
  have hlocks := B.notSynchronized
  have hP : va_P (dC, dI) vCl [(h0, .inr (4, [.int kind, .int rises, .long total, .long going, .long width, .int cf, .int ct]))] s.heap := hP
  have hl := lv_entry ([.ref h0, .int k]) (n := 2) (Nat.le_of_ble_eq_true rfl)
  rw [lg_entry_eq]
  generalize (lg_sl ([.ref h0, .int k]) ++ List.replicate (2 - (lg_sl ([.ref h0, .int k])).length) Slot.unset).toArray = ls at hl ⊢
  have hl : lv_has ls 2 [(0, .ref h0), (1, .int k)] := hl
  refine lv_aload_n hx hb dA_leastY_0 rfl (lv_at hl 0 rfl) ?_
  refine lv_iload_n hx hb dA_leastY_1 rfl (lv_at hl 1 rfl) ?_
  refine tr_go (st1 := [.int (fA_shape kind rises total going width cf ct k)]) (va_runV (As := [.int k]) (rest := []) (C := RA) ⟨hx, hb, hml, hown, hts⟩ (c_A_shape l dC dI h0 kind rises total going width cf ct k) ⟨cB 1 hts gw_405 gw_5 gw_402 ndA_shape rfl rfl ⟨Nat.le_of_ble_eq_true rfl, Nat.le_of_ble_eq_true rfl⟩, hts _ gw_403, hts _ gw_404⟩ (tp_Rv hN hK hP [0] [] rfl rfl (q0 := 0) (ci := 4) rfl rfl) rfl rfl hl.1 rfl (lv_room (Nat.le_of_ble_eq_true rfl)) dA_leastY_2 ⟨Nat.le_of_ble_eq_true rfl, Nat.le_of_ble_eq_true rfl⟩) rfl ?_
  refine lv_iconst (v := 1) hx hb dA_leastY_5 (by decide) ?_
  refine lv_icmp_ne (tgt := 29) hx hb dA_leastY_6 (by decide) (fun c_1 => ?_) (fun c_1 => ?_)
  · skip
    refine lv_lconst (v := 0) hx hb dA_leastY_29 (by decide) ?_
    exact W.lret (v := 0) hx hb hr (fun t ht hW => ⟨by rw [show fA_leastY kind rises total going width cf ct k = 0 from by unfold fA_leastY; rw [if_neg c_1]], ht⟩) (fun q h => by cases h) dA_leastY_30
  · skip
    refine lv_aload_n hx hb dA_leastY_9 rfl (lv_at hl 0 rfl) ?_
    refine va_get (D := (dC, dI)) (ci := 4) (v := .long width) (C := RA) (T := TA) (N := 7) hx hb hts inA hown hK hP 0 rfl rfl 4 (by decide) (hts _ gw_79) (fun _ h9 => h9) rfl dA_leastY_10 ?_
    refine lv_iload_n hx hb dA_leastY_13 rfl (lv_at hl 1 rfl) ?_
    refine lv_aload_n hx hb dA_leastY_14 rfl (lv_at hl 0 rfl) ?_
    refine va_get (D := (dC, dI)) (ci := 4) (v := .int ct) (C := RA) (T := TA) (N := 7) hx hb hts inA hown hK hP 0 rfl rfl 6 (by decide) (hts _ gw_81) (fun _ h9 => h9) rfl dA_leastY_15 ?_
    refine lv_isub hx hb dA_leastY_18 ?_
    refine lv_i2l (v := (k - ct).toInt64) hx hb dA_leastY_19 rfl ?_
    refine lv_aload_n hx hb dA_leastY_20 rfl (lv_at hl 0 rfl) ?_
    refine va_get (D := (dC, dI)) (ci := 4) (v := .long going) (C := RA) (T := TA) (N := 7) hx hb hts inA hown hK hP 0 rfl rfl 3 (by decide) (hts _ gw_78) (fun _ h9 => h9) rfl dA_leastY_21 ?_
    refine lv_lmul hx hb dA_leastY_24 ?_
    refine lv_ladd hx hb dA_leastY_25 ?_
    refine lv_goto (tgt := 30) hx hb dA_leastY_26 (by decide) ?_
    exact W.lret (v := width + (((k - ct).toInt64) * going)) hx hb hr (fun t ht hW => ⟨by rw [show fA_leastY kind rises total going width cf ct k = width + (((k - ct).toInt64) * going) from by unfold fA_leastY; rw [if_pos c_1]], ht⟩) (fun q h => by cases h) dA_leastY_30

def fA_greatestY (kind : Int32) (rises : Int32) (total : Int64) (going : Int64) (width : Int64) (cf : Int32) (ct : Int32) (k : Int32) : Int64 := if (fA_shape kind rises total going width cf ct k) = 1 then ((fA_leastY kind rises total going width cf ct k) + going) else width
set_option maxHeartbeats 4000000 in
set_option maxRecDepth 100000 in
theorem c_A_greatestY (l : Launch) (dC : Nat → ClassId) (dI : Nat → Nat → Nat) (h0 : Nat) (kind : Int32) (rises : Int32) (total : Int64) (going : Int64) (width : Int64) (cf : Int32) (ct : Int32) (k : Int32) : Met l mA_greatestY wA_greatestY ({ frames := 2, cells := 0, slots := 0, locals := 42 }) (tp_R (dC, dI) vCl [.ref h0, .int k] [(h0, .inr (4, [.int kind, .int rises, .long total, .long going, .long width, .int cf, .int ct]))] []) (tq_R (some (.long (fA_greatestY kind rises total going width cf ct k)))) 0 0 (fun _ => False) := by
  refine Met.ofW (cc := bA_greatestY) (maxL := 2) (ret := (some .long)) (by decide) rfl ?_
  intro p e s m args below meth c s₁ B hml hv
  obtain ⟨rfl, hP, hK, hN⟩ := hv
  have hx := B.exec
  have hb := B.bytes
  have hr := B.returns
  have hts : ∀ w ∈ gT, w.before _ s = true := fun w h => atoms_spec (ws := wA_greatestY) B.pre w (List.mem_cons_of_mem _ h)
  have hown : s.vm.findClass RA = some m.cls := findClass_of_methodNamed B.named
  have hlocks := B.notSynchronized
  have hP : va_P (dC, dI) vCl [(h0, .inr (4, [.int kind, .int rises, .long total, .long going, .long width, .int cf, .int ct]))] s.heap := hP
  have hl := lv_entry ([.ref h0, .int k]) (n := 2) (Nat.le_of_ble_eq_true rfl)
  rw [lg_entry_eq]
  generalize (lg_sl ([.ref h0, .int k]) ++ List.replicate (2 - (lg_sl ([.ref h0, .int k])).length) Slot.unset).toArray = ls at hl ⊢
  have hl : lv_has ls 2 [(0, .ref h0), (1, .int k)] := hl
  refine lv_aload_n hx hb dA_greatestY_0 rfl (lv_at hl 0 rfl) ?_
  refine lv_iload_n hx hb dA_greatestY_1 rfl (lv_at hl 1 rfl) ?_
  refine tr_go (st1 := [.int (fA_shape kind rises total going width cf ct k)]) (va_runV (As := [.int k]) (rest := []) (C := RA) ⟨hx, hb, hml, hown, hts⟩ (c_A_shape l dC dI h0 kind rises total going width cf ct k) ⟨cB 1 hts gw_405 gw_5 gw_402 ndA_shape rfl rfl ⟨Nat.le_of_ble_eq_true rfl, Nat.le_of_ble_eq_true rfl⟩, hts _ gw_403, hts _ gw_404⟩ (tp_Rv hN hK hP [0] [] rfl rfl (q0 := 0) (ci := 4) rfl rfl) rfl rfl hl.1 rfl (lv_room (Nat.le_of_ble_eq_true rfl)) dA_greatestY_2 ⟨Nat.le_of_ble_eq_true rfl, Nat.le_of_ble_eq_true rfl⟩) rfl ?_
  refine lv_iconst (v := 1) hx hb dA_greatestY_5 (by decide) ?_
  refine lv_icmp_ne (tgt := 22) hx hb dA_greatestY_6 (by decide) (fun c_1 => ?_) (fun c_1 => ?_)
  · skip
    refine lv_aload_n hx hb dA_greatestY_22 rfl (lv_at hl 0 rfl) ?_
    refine va_get (D := (dC, dI)) (ci := 4) (v := .long width) (C := RA) (T := TA) (N := 7) hx hb hts inA hown hK hP 0 rfl rfl 4 (by decide) (hts _ gw_79) (fun _ h9 => h9) rfl dA_greatestY_23 ?_
    exact W.lret (v := width) hx hb hr (fun t ht hW => ⟨by rw [show fA_greatestY kind rises total going width cf ct k = width from by unfold fA_greatestY; rw [if_neg c_1]], ht⟩) (fun q h => by cases h) dA_greatestY_26
  · skip
    refine lv_aload_n hx hb dA_greatestY_9 rfl (lv_at hl 0 rfl) ?_
    refine lv_iload_n hx hb dA_greatestY_10 rfl (lv_at hl 1 rfl) ?_
    refine tr_go (st1 := [.long (fA_leastY kind rises total going width cf ct k)]) (va_runV (As := [.int k]) (rest := []) (C := RA) ⟨hx, hb, hml, hown, hts⟩ (c_A_leastY l dC dI h0 kind rises total going width cf ct k) ⟨cB 1 hts gw_412 gw_5 gw_421 ndA_leastY rfl rfl ⟨Nat.le_of_ble_eq_true rfl, Nat.le_of_ble_eq_true rfl⟩, hts _ gw_410, hts _ gw_411⟩ (tp_Rv hN hK hP [0] [] rfl rfl (q0 := 0) (ci := 4) rfl rfl) rfl rfl hl.1 rfl (lv_room (Nat.le_of_ble_eq_true rfl)) dA_greatestY_11 ⟨Nat.le_of_ble_eq_true rfl, Nat.le_of_ble_eq_true rfl⟩) rfl ?_
    refine lv_aload_n hx hb dA_greatestY_14 rfl (lv_at hl 0 rfl) ?_
    refine va_get (D := (dC, dI)) (ci := 4) (v := .long going) (C := RA) (T := TA) (N := 7) hx hb hts inA hown hK hP 0 rfl rfl 3 (by decide) (hts _ gw_78) (fun _ h9 => h9) rfl dA_greatestY_15 ?_
    refine lv_ladd hx hb dA_greatestY_18 ?_
    refine lv_goto (tgt := 26) hx hb dA_greatestY_19 (by decide) ?_
    exact W.lret (v := (fA_leastY kind rises total going width cf ct k) + going) hx hb hr (fun t ht hW => ⟨by rw [show fA_greatestY kind rises total going width cf ct k = (fA_leastY kind rises total going width cf ct k) + going from by unfold fA_greatestY; rw [if_pos c_1]], ht⟩) (fun q h => by cases h) dA_greatestY_26

def fA_height (kind : Int32) (rises : Int32) (total : Int64) (going : Int64) (width : Int64) (cf : Int32) (ct : Int32) (k : Int32) : Int64 := ((k + 1).toInt64) * total
set_option maxHeartbeats 4000000 in
set_option maxRecDepth 100000 in
theorem c_A_heightTimesRises (l : Launch) (dC : Nat → ClassId) (dI : Nat → Nat → Nat) (h0 : Nat) (kind : Int32) (rises : Int32) (total : Int64) (going : Int64) (width : Int64) (cf : Int32) (ct : Int32) (k : Int32) : Met l mA_heightTimesRises wA_heightTimesRises ({ frames := 0, cells := 0, slots := 0, locals := 0 }) (tp_R (dC, dI) vCl [.ref h0, .int k] [(h0, .inr (4, [.int kind, .int rises, .long total, .long going, .long width, .int cf, .int ct]))] []) (tq_R (some (.long (fA_height kind rises total going width cf ct k)))) 0 0 (fun _ => False) := by
  refine Met.ofW (cc := bA_heightTimesRises) (maxL := 2) (ret := (some .long)) (by decide) rfl ?_
  intro p e s m args below meth c s₁ B hml hv
  obtain ⟨rfl, hP, hK, hN⟩ := hv
  have hx := B.exec
  have hb := B.bytes
  have hr := B.returns
  have hts : ∀ w ∈ gT, w.before _ s = true := fun w h => atoms_spec (ws := wA_heightTimesRises) B.pre w (List.mem_cons_of_mem _ h)
  have hown : s.vm.findClass RA = some m.cls := findClass_of_methodNamed B.named
  have hlocks := B.notSynchronized
  have hP : va_P (dC, dI) vCl [(h0, .inr (4, [.int kind, .int rises, .long total, .long going, .long width, .int cf, .int ct]))] s.heap := hP
  have hl := lv_entry ([.ref h0, .int k]) (n := 2) (Nat.le_of_ble_eq_true rfl)
  rw [lg_entry_eq]
  generalize (lg_sl ([.ref h0, .int k]) ++ List.replicate (2 - (lg_sl ([.ref h0, .int k])).length) Slot.unset).toArray = ls at hl ⊢
  have hl : lv_has ls 2 [(0, .ref h0), (1, .int k)] := hl
  refine lv_iload_n hx hb dA_heightTimesRises_0 rfl (lv_at hl 1 rfl) ?_
  refine lv_iconst (v := 1) hx hb dA_heightTimesRises_1 (by decide) ?_
  refine lv_iadd hx hb dA_heightTimesRises_2 ?_
  refine lv_i2l (v := (k + 1).toInt64) hx hb dA_heightTimesRises_3 rfl ?_
  refine lv_aload_n hx hb dA_heightTimesRises_4 rfl (lv_at hl 0 rfl) ?_
  refine va_get (D := (dC, dI)) (ci := 4) (v := .long total) (C := RA) (T := TA) (N := 7) hx hb hts inA hown hK hP 0 rfl rfl 2 (by decide) (hts _ gw_77) (fun _ h9 => h9) rfl dA_heightTimesRises_5 ?_
  refine lv_lmul hx hb dA_heightTimesRises_8 ?_
  exact W.lret (v := ((k + 1).toInt64) * total) hx hb hr (fun t ht hW => ⟨by rw [show fA_height kind rises total going width cf ct k = ((k + 1).toInt64) * total from by unfold fA_height; rfl], ht⟩) (fun q h => by cases h) dA_heightTimesRises_9

def fA_edgeX (kind : Int32) (rises : Int32) (total : Int64) (going : Int64) (width : Int64) (cf : Int32) (ct : Int32) (k : Int32) : Int64 := (3 * (fA_cornerX kind rises total going width cf ct)) + (if (3 * width) < (((2 * k).toInt64) * width) then (3 * width) else (((2 * k).toInt64) * width))
set_option maxHeartbeats 4000000 in
set_option maxRecDepth 100000 in
theorem c_A_edgeXTimesThree (l : Launch) (dC : Nat → ClassId) (dI : Nat → Nat → Nat) (h0 : Nat) (kind : Int32) (rises : Int32) (total : Int64) (going : Int64) (width : Int64) (cf : Int32) (ct : Int32) (k : Int32) : Met l mA_edgeXTimesThree wA_edgeXTimesThree ({ frames := 1, cells := 0, slots := 0, locals := 20 }) (tp_R (dC, dI) vCl [.ref h0, .int k] [(h0, .inr (4, [.int kind, .int rises, .long total, .long going, .long width, .int cf, .int ct]))] []) (tq_R (some (.long (fA_edgeX kind rises total going width cf ct k)))) 0 0 (fun _ => False) := by
  refine Met.ofW (cc := bA_edgeXTimesThree) (maxL := 2) (ret := (some .long)) (by decide) rfl ?_
  intro p e s m args below meth c s₁ B hml hv
  obtain ⟨rfl, hP, hK, hN⟩ := hv
  have hx := B.exec
  have hb := B.bytes
  have hr := B.returns
  have hts : ∀ w ∈ gT, w.before _ s = true := fun w h => atoms_spec (ws := wA_edgeXTimesThree) B.pre w (List.mem_cons_of_mem _ h)
  have hown : s.vm.findClass RA = some m.cls := findClass_of_methodNamed B.named
  have hlocks := B.notSynchronized
  have hP : va_P (dC, dI) vCl [(h0, .inr (4, [.int kind, .int rises, .long total, .long going, .long width, .int cf, .int ct]))] s.heap := hP
  have hl := lv_entry ([.ref h0, .int k]) (n := 2) (Nat.le_of_ble_eq_true rfl)
  rw [lg_entry_eq]
  generalize (lg_sl ([.ref h0, .int k]) ++ List.replicate (2 - (lg_sl ([.ref h0, .int k])).length) Slot.unset).toArray = ls at hl ⊢
  have hl : lv_has ls 2 [(0, .ref h0), (1, .int k)] := hl
  refine lv_ldc2 (v := 3) hx hb hown (hts _ gw_442) dA_edgeXTimesThree_0 ?_
  refine lv_aload_n hx hb dA_edgeXTimesThree_3 rfl (lv_at hl 0 rfl) ?_
  refine tr_go (st1 := [.long (fA_cornerX kind rises total going width cf ct), .long 3]) (va_runV (As := []) (rest := [.long 3]) (C := RA) ⟨hx, hb, hml, hown, hts⟩ (c_A_cornerX l dC dI h0 kind rises total going width cf ct) ⟨cB 0 hts gw_408 gw_5 gw_406 ndA_cornerX rfl rfl ⟨Nat.le_of_ble_eq_true rfl, Nat.le_of_ble_eq_true rfl⟩, hts _ gw_407, hts _ gw_751⟩ (tp_Rv hN hK hP [0] [] rfl rfl (q0 := 0) (ci := 4) rfl rfl) rfl rfl hl.1 rfl (lv_room (Nat.le_of_ble_eq_true rfl)) dA_edgeXTimesThree_4 ⟨Nat.le_of_ble_eq_true rfl, Nat.le_of_ble_eq_true rfl⟩) rfl ?_
  refine lv_lmul hx hb dA_edgeXTimesThree_7 ?_
  refine lv_iconst (v := 2) hx hb dA_edgeXTimesThree_8 (by decide) ?_
  refine lv_iload_n hx hb dA_edgeXTimesThree_9 rfl (lv_at hl 1 rfl) ?_
  refine lv_imul hx hb dA_edgeXTimesThree_10 ?_
  refine lv_i2l (v := (2 * k).toInt64) hx hb dA_edgeXTimesThree_11 rfl ?_
  refine lv_aload_n hx hb dA_edgeXTimesThree_12 rfl (lv_at hl 0 rfl) ?_
  refine va_get (D := (dC, dI)) (ci := 4) (v := .long width) (C := RA) (T := TA) (N := 7) hx hb hts inA hown hK hP 0 rfl rfl 4 (by decide) (hts _ gw_79) (fun _ h9 => h9) rfl dA_edgeXTimesThree_13 ?_
  refine lv_lmul hx hb dA_edgeXTimesThree_16 ?_
  refine lv_ldc2 (v := 3) hx hb hown (hts _ gw_442) dA_edgeXTimesThree_17 ?_
  refine lv_aload_n hx hb dA_edgeXTimesThree_20 rfl (lv_at hl 0 rfl) ?_
  refine va_get (D := (dC, dI)) (ci := 4) (v := .long width) (C := RA) (T := TA) (N := 7) hx hb hts inA hown hK hP 0 rfl rfl 4 (by decide) (hts _ gw_79) (fun _ h9 => h9) rfl dA_edgeXTimesThree_21 ?_
  refine lv_lmul hx hb dA_edgeXTimesThree_24 ?_
  refine va_mmin_long hx hb (hml.trans hl.1.symm) hown (hts _ gw_443) (hts _ gw_444) (hts _ gw_14) (hts _ gw_445) (Nat.le_of_ble_eq_true rfl) (Nat.le_of_ble_eq_true rfl) (Nat.le_of_ble_eq_true rfl) (Nat.le_of_ble_eq_true rfl) dA_edgeXTimesThree_25 ?_
  refine lv_ladd hx hb dA_edgeXTimesThree_28 ?_
  exact W.lret (v := (3 * (fA_cornerX kind rises total going width cf ct)) + (if (3 * width) < (((2 * k).toInt64) * width) then (3 * width) else (((2 * k).toInt64) * width))) hx hb hr (fun t ht hW => ⟨by rw [show fA_edgeX kind rises total going width cf ct k = (3 * (fA_cornerX kind rises total going width cf ct)) + (if (3 * width) < (((2 * k).toInt64) * width) then (3 * width) else (((2 * k).toInt64) * width)) from by unfold fA_edgeX; rfl], ht⟩) (fun q h => by cases h) dA_edgeXTimesThree_29

def fA_edgeY (kind : Int32) (rises : Int32) (total : Int64) (going : Int64) (width : Int64) (cf : Int32) (ct : Int32) (k : Int32) : Int64 := if 0 < ((((2 * k).toInt64) * width) - (3 * width)) then ((((2 * k).toInt64) * width) - (3 * width)) else 0
set_option maxHeartbeats 4000000 in
set_option maxRecDepth 100000 in
theorem c_A_edgeYTimesThree (l : Launch) (dC : Nat → ClassId) (dI : Nat → Nat → Nat) (h0 : Nat) (kind : Int32) (rises : Int32) (total : Int64) (going : Int64) (width : Int64) (cf : Int32) (ct : Int32) (k : Int32) : Met l mA_edgeYTimesThree wA_edgeYTimesThree ({ frames := 1, cells := 0, slots := 0, locals := 15 }) (tp_R (dC, dI) vCl [.ref h0, .int k] [(h0, .inr (4, [.int kind, .int rises, .long total, .long going, .long width, .int cf, .int ct]))] []) (tq_R (some (.long (fA_edgeY kind rises total going width cf ct k)))) 0 0 (fun _ => False) := by
  refine Met.ofW (cc := bA_edgeYTimesThree) (maxL := 2) (ret := (some .long)) (by decide) rfl ?_
  intro p e s m args below meth c s₁ B hml hv
  obtain ⟨rfl, hP, hK, hN⟩ := hv
  have hx := B.exec
  have hb := B.bytes
  have hr := B.returns
  have hts : ∀ w ∈ gT, w.before _ s = true := fun w h => atoms_spec (ws := wA_edgeYTimesThree) B.pre w (List.mem_cons_of_mem _ h)
  have hown : s.vm.findClass RA = some m.cls := findClass_of_methodNamed B.named
  have hlocks := B.notSynchronized
  have hP : va_P (dC, dI) vCl [(h0, .inr (4, [.int kind, .int rises, .long total, .long going, .long width, .int cf, .int ct]))] s.heap := hP
  have hl := lv_entry ([.ref h0, .int k]) (n := 2) (Nat.le_of_ble_eq_true rfl)
  rw [lg_entry_eq]
  generalize (lg_sl ([.ref h0, .int k]) ++ List.replicate (2 - (lg_sl ([.ref h0, .int k])).length) Slot.unset).toArray = ls at hl ⊢
  have hl : lv_has ls 2 [(0, .ref h0), (1, .int k)] := hl
  refine lv_iconst (v := 2) hx hb dA_edgeYTimesThree_0 (by decide) ?_
  refine lv_iload_n hx hb dA_edgeYTimesThree_1 rfl (lv_at hl 1 rfl) ?_
  refine lv_imul hx hb dA_edgeYTimesThree_2 ?_
  refine lv_i2l (v := (2 * k).toInt64) hx hb dA_edgeYTimesThree_3 rfl ?_
  refine lv_aload_n hx hb dA_edgeYTimesThree_4 rfl (lv_at hl 0 rfl) ?_
  refine va_get (D := (dC, dI)) (ci := 4) (v := .long width) (C := RA) (T := TA) (N := 7) hx hb hts inA hown hK hP 0 rfl rfl 4 (by decide) (hts _ gw_79) (fun _ h9 => h9) rfl dA_edgeYTimesThree_5 ?_
  refine lv_lmul hx hb dA_edgeYTimesThree_8 ?_
  refine lv_ldc2 (v := 3) hx hb hown (hts _ gw_442) dA_edgeYTimesThree_9 ?_
  refine lv_aload_n hx hb dA_edgeYTimesThree_12 rfl (lv_at hl 0 rfl) ?_
  refine va_get (D := (dC, dI)) (ci := 4) (v := .long width) (C := RA) (T := TA) (N := 7) hx hb hts inA hown hK hP 0 rfl rfl 4 (by decide) (hts _ gw_79) (fun _ h9 => h9) rfl dA_edgeYTimesThree_13 ?_
  refine lv_lmul hx hb dA_edgeYTimesThree_16 ?_
  refine lv_lsub hx hb dA_edgeYTimesThree_17 ?_
  refine lv_lconst (v := 0) hx hb dA_edgeYTimesThree_18 (by decide) ?_
  refine va_mmax_long hx hb (hml.trans hl.1.symm) hown (hts _ gw_450) (hts _ gw_451) (hts _ gw_14) (hts _ gw_452) (Nat.le_of_ble_eq_true rfl) (Nat.le_of_ble_eq_true rfl) (Nat.le_of_ble_eq_true rfl) (Nat.le_of_ble_eq_true rfl) dA_edgeYTimesThree_19 ?_
  exact W.lret (v := if 0 < ((((2 * k).toInt64) * width) - (3 * width)) then ((((2 * k).toInt64) * width) - (3 * width)) else 0) hx hb hr (fun t ht hW => ⟨by rw [show fA_edgeY kind rises total going width cf ct k = if 0 < ((((2 * k).toInt64) * width) - (3 * width)) then ((((2 * k).toInt64) * width) - (3 * width)) else 0 from by unfold fA_edgeY; rfl], ht⟩) (fun q h => by cases h) dA_edgeYTimesThree_22

def fA_area (kind : Int32) (rises : Int32) (total : Int64) (going : Int64) (width : Int64) (cf : Int32) (ct : Int32) : Int64 := (2 * width) * width
set_option maxHeartbeats 4000000 in
set_option maxRecDepth 100000 in
theorem c_A_sixTimesWinderArea (l : Launch) (dC : Nat → ClassId) (dI : Nat → Nat → Nat) (h0 : Nat) (kind : Int32) (rises : Int32) (total : Int64) (going : Int64) (width : Int64) (cf : Int32) (ct : Int32) : Met l mA_sixTimesWinderArea wA_sixTimesWinderArea ({ frames := 0, cells := 0, slots := 0, locals := 0 }) (tp_R (dC, dI) vCl [.ref h0] [(h0, .inr (4, [.int kind, .int rises, .long total, .long going, .long width, .int cf, .int ct]))] []) (tq_R (some (.long (fA_area kind rises total going width cf ct)))) 0 0 (fun _ => False) := by
  refine Met.ofW (cc := bA_sixTimesWinderArea) (maxL := 1) (ret := (some .long)) (by decide) rfl ?_
  intro p e s m args below meth c s₁ B hml hv
  obtain ⟨rfl, hP, hK, hN⟩ := hv
  have hx := B.exec
  have hb := B.bytes
  have hr := B.returns
  have hts : ∀ w ∈ gT, w.before _ s = true := fun w h => atoms_spec (ws := wA_sixTimesWinderArea) B.pre w (List.mem_cons_of_mem _ h)
  have hown : s.vm.findClass RA = some m.cls := findClass_of_methodNamed B.named
  have hlocks := B.notSynchronized
  have hP : va_P (dC, dI) vCl [(h0, .inr (4, [.int kind, .int rises, .long total, .long going, .long width, .int cf, .int ct]))] s.heap := hP
  have hl := lv_entry ([.ref h0]) (n := 1) (Nat.le_of_ble_eq_true rfl)
  rw [lg_entry_eq]
  generalize (lg_sl ([.ref h0]) ++ List.replicate (1 - (lg_sl ([.ref h0])).length) Slot.unset).toArray = ls at hl ⊢
  have hl : lv_has ls 1 [(0, .ref h0)] := hl
  refine lv_ldc2 (v := 2) hx hb hown (hts _ gw_464) dA_sixTimesWinderArea_0 ?_
  refine lv_aload_n hx hb dA_sixTimesWinderArea_3 rfl (lv_at hl 0 rfl) ?_
  refine va_get (D := (dC, dI)) (ci := 4) (v := .long width) (C := RA) (T := TA) (N := 7) hx hb hts inA hown hK hP 0 rfl rfl 4 (by decide) (hts _ gw_79) (fun _ h9 => h9) rfl dA_sixTimesWinderArea_4 ?_
  refine lv_lmul hx hb dA_sixTimesWinderArea_7 ?_
  refine lv_aload_n hx hb dA_sixTimesWinderArea_8 rfl (lv_at hl 0 rfl) ?_
  refine va_get (D := (dC, dI)) (ci := 4) (v := .long width) (C := RA) (T := TA) (N := 7) hx hb hts inA hown hK hP 0 rfl rfl 4 (by decide) (hts _ gw_79) (fun _ h9 => h9) rfl dA_sixTimesWinderArea_9 ?_
  refine lv_lmul hx hb dA_sixTimesWinderArea_12 ?_
  exact W.lret (v := (2 * width) * width) hx hb hr (fun t ht hW => ⟨by rw [show fA_area kind rises total going width cf ct = (2 * width) * width from by unfold fA_area; rfl], ht⟩) (fun q h => by cases h) dA_sixTimesWinderArea_13

def fA_along (kind : Int32) (rises : Int32) (total : Int64) (going : Int64) (width : Int64) (cf : Int32) (ct : Int32) : Int64 := ((fA_treads kind rises total going width cf ct).toInt64) * going
set_option maxHeartbeats 4000000 in
set_option maxRecDepth 100000 in
theorem c_A_along (l : Launch) (dC : Nat → ClassId) (dI : Nat → Nat → Nat) (h0 : Nat) (kind : Int32) (rises : Int32) (total : Int64) (going : Int64) (width : Int64) (cf : Int32) (ct : Int32) : Met l mA_along wA_along ({ frames := 1, cells := 0, slots := 0, locals := 20 }) (tp_R (dC, dI) vCl [.ref h0] [(h0, .inr (4, [.int kind, .int rises, .long total, .long going, .long width, .int cf, .int ct]))] []) (tq_R (some (.long (fA_along kind rises total going width cf ct)))) 0 0 (fun _ => False) := by
  refine Met.ofW (cc := bA_along) (maxL := 1) (ret := (some .long)) (by decide) rfl ?_
  intro p e s m args below meth c s₁ B hml hv
  obtain ⟨rfl, hP, hK, hN⟩ := hv
  have hx := B.exec
  have hb := B.bytes
  have hr := B.returns
  have hts : ∀ w ∈ gT, w.before _ s = true := fun w h => atoms_spec (ws := wA_along) B.pre w (List.mem_cons_of_mem _ h)
  have hown : s.vm.findClass RA = some m.cls := findClass_of_methodNamed B.named
  have hlocks := B.notSynchronized
  have hP : va_P (dC, dI) vCl [(h0, .inr (4, [.int kind, .int rises, .long total, .long going, .long width, .int cf, .int ct]))] s.heap := hP
  have hl := lv_entry ([.ref h0]) (n := 1) (Nat.le_of_ble_eq_true rfl)
  rw [lg_entry_eq]
  generalize (lg_sl ([.ref h0]) ++ List.replicate (1 - (lg_sl ([.ref h0])).length) Slot.unset).toArray = ls at hl ⊢
  have hl : lv_has ls 1 [(0, .ref h0)] := hl
  refine lv_aload_n hx hb dA_along_0 rfl (lv_at hl 0 rfl) ?_
  refine tr_go (st1 := [.int (fA_treads kind rises total going width cf ct)]) (va_runV (As := []) (rest := []) (C := RA) ⟨hx, hb, hml, hown, hts⟩ (c_A_treads l dC dI h0 kind rises total going width cf ct) ⟨cB 0 hts gw_334 gw_5 gw_331 ndA_treads rfl rfl ⟨Nat.le_of_ble_eq_true rfl, Nat.le_of_ble_eq_true rfl⟩, hts _ gw_332, hts _ gw_333⟩ (tp_Rv hN hK hP [0] [] rfl rfl (q0 := 0) (ci := 4) rfl rfl) rfl rfl hl.1 rfl (lv_room (Nat.le_of_ble_eq_true rfl)) dA_along_1 ⟨Nat.le_of_ble_eq_true rfl, Nat.le_of_ble_eq_true rfl⟩) rfl ?_
  refine lv_i2l (v := (fA_treads kind rises total going width cf ct).toInt64) hx hb dA_along_4 rfl ?_
  refine lv_aload_n hx hb dA_along_5 rfl (lv_at hl 0 rfl) ?_
  refine va_get (D := (dC, dI)) (ci := 4) (v := .long going) (C := RA) (T := TA) (N := 7) hx hb hts inA hown hK hP 0 rfl rfl 3 (by decide) (hts _ gw_78) (fun _ h9 => h9) rfl dA_along_6 ?_
  refine lv_lmul hx hb dA_along_9 ?_
  exact W.lret (v := ((fA_treads kind rises total going width cf ct).toInt64) * going) hx hb hr (fun t ht hW => ⟨by rw [show fA_along kind rises total going width cf ct = ((fA_treads kind rises total going width cf ct).toInt64) * going from by unfold fA_along; rfl], ht⟩) (fun q h => by cases h) dA_along_10

def fA_sss (kind : Int32) (rises : Int32) (total : Int64) (going : Int64) (width : Int64) (cf : Int32) (ct : Int32) : Int64 := (((fA_along kind rises total going width cf ct) * rises.toInt64) * ((fA_along kind rises total going width cf ct) * rises.toInt64)) + ((((fA_treads kind rises total going width cf ct).toInt64) * total) * (((fA_treads kind rises total going width cf ct).toInt64) * total))
set_option maxHeartbeats 4000000 in
set_option maxRecDepth 100000 in
theorem c_A_scaledStringSquare (l : Launch) (dC : Nat → ClassId) (dI : Nat → Nat → Nat) (h0 : Nat) (kind : Int32) (rises : Int32) (total : Int64) (going : Int64) (width : Int64) (cf : Int32) (ct : Int32) : Met l mA_scaledStringSquare wA_scaledStringSquare ({ frames := 2, cells := 0, slots := 0, locals := 40 }) (tp_R (dC, dI) vCl [.ref h0] [(h0, .inr (4, [.int kind, .int rises, .long total, .long going, .long width, .int cf, .int ct]))] []) (tq_R (some (.long (fA_sss kind rises total going width cf ct)))) 0 0 (fun _ => False) := by
  refine Met.ofW (cc := bA_scaledStringSquare) (maxL := 5) (ret := (some .long)) (by decide) rfl ?_
  intro p e s m args below meth c s₁ B hml hv
  obtain ⟨rfl, hP, hK, hN⟩ := hv
  have hx := B.exec
  have hb := B.bytes
  have hr := B.returns
  have hts : ∀ w ∈ gT, w.before _ s = true := fun w h => atoms_spec (ws := wA_scaledStringSquare) B.pre w (List.mem_cons_of_mem _ h)
  have hown : s.vm.findClass RA = some m.cls := findClass_of_methodNamed B.named
  have hlocks := B.notSynchronized
  have hP : va_P (dC, dI) vCl [(h0, .inr (4, [.int kind, .int rises, .long total, .long going, .long width, .int cf, .int ct]))] s.heap := hP
  have hl := lv_entry ([.ref h0]) (n := 5) (Nat.le_of_ble_eq_true rfl)
  rw [lg_entry_eq]
  generalize (lg_sl ([.ref h0]) ++ List.replicate (5 - (lg_sl ([.ref h0])).length) Slot.unset).toArray = ls at hl ⊢
  have hl : lv_has ls 5 [(0, .ref h0)] := hl
  refine lv_aload_n hx hb dA_scaledStringSquare_0 rfl (lv_at hl 0 rfl) ?_
  refine tr_go (st1 := [.long (fA_along kind rises total going width cf ct)]) (va_runV (As := []) (rest := []) (C := RA) ⟨hx, hb, hml, hown, hts⟩ (c_A_along l dC dI h0 kind rises total going width cf ct) ⟨cB 0 hts gw_531 gw_5 gw_528 ndA_along rfl rfl ⟨Nat.le_of_ble_eq_true rfl, Nat.le_of_ble_eq_true rfl⟩, hts _ gw_529, hts _ gw_530⟩ (tp_Rv hN hK hP [0] [] rfl rfl (q0 := 0) (ci := 4) rfl rfl) rfl rfl hl.1 rfl (lv_room (Nat.le_of_ble_eq_true rfl)) dA_scaledStringSquare_1 ⟨Nat.le_of_ble_eq_true rfl, Nat.le_of_ble_eq_true rfl⟩) rfl ?_
  refine lv_aload_n hx hb dA_scaledStringSquare_4 rfl (lv_at hl 0 rfl) ?_
  refine va_get (D := (dC, dI)) (ci := 4) (v := .int rises) (C := RA) (T := TA) (N := 7) hx hb hts inA hown hK hP 0 rfl rfl 1 (by decide) (hts _ gw_76) (fun _ h9 => h9) rfl dA_scaledStringSquare_5 ?_
  refine lv_i2l (v := rises.toInt64) hx hb dA_scaledStringSquare_8 rfl ?_
  refine lv_lmul hx hb dA_scaledStringSquare_9 ?_
  refine lv_lstore_n (lv' := [(1, .long ((fA_along kind rises total going width cf ct) * rises.toInt64)), (0, .ref h0)]) hx hb dA_scaledStringSquare_10 rfl hl (by decide) rfl (fun ls hl => ?_)
  refine lv_aload_n hx hb dA_scaledStringSquare_11 rfl (lv_at hl 1 rfl) ?_
  refine tr_go (st1 := [.int (fA_treads kind rises total going width cf ct)]) (va_runV (As := []) (rest := []) (C := RA) ⟨hx, hb, hml, hown, hts⟩ (c_A_treads l dC dI h0 kind rises total going width cf ct) ⟨cB 0 hts gw_334 gw_5 gw_331 ndA_treads rfl rfl ⟨Nat.le_of_ble_eq_true rfl, Nat.le_of_ble_eq_true rfl⟩, hts _ gw_332, hts _ gw_333⟩ (tp_Rv hN hK hP [0] [] rfl rfl (q0 := 0) (ci := 4) rfl rfl) rfl rfl hl.1 rfl (lv_room (Nat.le_of_ble_eq_true rfl)) dA_scaledStringSquare_12 ⟨Nat.le_of_ble_eq_true rfl, Nat.le_of_ble_eq_true rfl⟩) rfl ?_
  refine lv_i2l (v := (fA_treads kind rises total going width cf ct).toInt64) hx hb dA_scaledStringSquare_15 rfl ?_
  refine lv_aload_n hx hb dA_scaledStringSquare_16 rfl (lv_at hl 1 rfl) ?_
  refine va_get (D := (dC, dI)) (ci := 4) (v := .long total) (C := RA) (T := TA) (N := 7) hx hb hts inA hown hK hP 0 rfl rfl 2 (by decide) (hts _ gw_77) (fun _ h9 => h9) rfl dA_scaledStringSquare_17 ?_
  refine lv_lmul hx hb dA_scaledStringSquare_20 ?_
  refine lv_lstore_n (lv' := [(3, .long (((fA_treads kind rises total going width cf ct).toInt64) * total)), (1, .long ((fA_along kind rises total going width cf ct) * rises.toInt64)), (0, .ref h0)]) hx hb dA_scaledStringSquare_21 rfl hl (by decide) rfl (fun ls hl => ?_)
  refine lv_lload_n hx hb dA_scaledStringSquare_22 rfl (lv_at hl 1 rfl) ?_
  refine lv_lload_n hx hb dA_scaledStringSquare_23 rfl (lv_at hl 1 rfl) ?_
  refine lv_lmul hx hb dA_scaledStringSquare_24 ?_
  refine lv_lload_n hx hb dA_scaledStringSquare_25 rfl (lv_at hl 0 rfl) ?_
  refine lv_lload_n hx hb dA_scaledStringSquare_26 rfl (lv_at hl 0 rfl) ?_
  refine lv_lmul hx hb dA_scaledStringSquare_27 ?_
  refine lv_ladd hx hb dA_scaledStringSquare_28 ?_
  exact W.lret (v := (((fA_along kind rises total going width cf ct) * rises.toInt64) * ((fA_along kind rises total going width cf ct) * rises.toInt64)) + ((((fA_treads kind rises total going width cf ct).toInt64) * total) * (((fA_treads kind rises total going width cf ct).toInt64) * total))) hx hb hr (fun t ht hW => ⟨by rw [show fA_sss kind rises total going width cf ct = (((fA_along kind rises total going width cf ct) * rises.toInt64) * ((fA_along kind rises total going width cf ct) * rises.toInt64)) + ((((fA_treads kind rises total going width cf ct).toInt64) * total) * (((fA_treads kind rises total going width cf ct).toInt64) * total)) from by unfold fA_sss; rfl], ht⟩) (fun q h => by cases h) dA_scaledStringSquare_29

def fA_ss (kind : Int32) (rises : Int32) (total : Int64) (going : Int64) (width : Int64) (cf : Int32) (ct : Int32) (len : Int64) : Int64 := ((len * rises.toInt64) * len) * rises.toInt64
set_option maxHeartbeats 4000000 in
set_option maxRecDepth 100000 in
theorem c_A_scaledSquare (l : Launch) (dC : Nat → ClassId) (dI : Nat → Nat → Nat) (h0 : Nat) (kind : Int32) (rises : Int32) (total : Int64) (going : Int64) (width : Int64) (cf : Int32) (ct : Int32) (len : Int64) : Met l mA_scaledSquare wA_scaledSquare ({ frames := 0, cells := 0, slots := 0, locals := 0 }) (tp_R (dC, dI) vCl [.ref h0, .long len] [(h0, .inr (4, [.int kind, .int rises, .long total, .long going, .long width, .int cf, .int ct]))] []) (tq_R (some (.long (fA_ss kind rises total going width cf ct len)))) 0 0 (fun _ => False) := by
  refine Met.ofW (cc := bA_scaledSquare) (maxL := 3) (ret := (some .long)) (by decide) rfl ?_
  intro p e s m args below meth c s₁ B hml hv
  obtain ⟨rfl, hP, hK, hN⟩ := hv
  have hx := B.exec
  have hb := B.bytes
  have hr := B.returns
  have hts : ∀ w ∈ gT, w.before _ s = true := fun w h => atoms_spec (ws := wA_scaledSquare) B.pre w (List.mem_cons_of_mem _ h)
  have hown : s.vm.findClass RA = some m.cls := findClass_of_methodNamed B.named
  have hlocks := B.notSynchronized
  have hP : va_P (dC, dI) vCl [(h0, .inr (4, [.int kind, .int rises, .long total, .long going, .long width, .int cf, .int ct]))] s.heap := hP
  have hl := lv_entry ([.ref h0, .long len]) (n := 3) (Nat.le_of_ble_eq_true rfl)
  rw [lg_entry_eq]
  generalize (lg_sl ([.ref h0, .long len]) ++ List.replicate (3 - (lg_sl ([.ref h0, .long len])).length) Slot.unset).toArray = ls at hl ⊢
  have hl : lv_has ls 3 [(0, .ref h0), (1, .long len)] := hl
  refine lv_lload_n hx hb dA_scaledSquare_0 rfl (lv_at hl 1 rfl) ?_
  refine lv_aload_n hx hb dA_scaledSquare_1 rfl (lv_at hl 0 rfl) ?_
  refine va_get (D := (dC, dI)) (ci := 4) (v := .int rises) (C := RA) (T := TA) (N := 7) hx hb hts inA hown hK hP 0 rfl rfl 1 (by decide) (hts _ gw_76) (fun _ h9 => h9) rfl dA_scaledSquare_2 ?_
  refine lv_i2l (v := rises.toInt64) hx hb dA_scaledSquare_5 rfl ?_
  refine lv_lmul hx hb dA_scaledSquare_6 ?_
  refine lv_lload_n hx hb dA_scaledSquare_7 rfl (lv_at hl 1 rfl) ?_
  refine lv_lmul hx hb dA_scaledSquare_8 ?_
  refine lv_aload_n hx hb dA_scaledSquare_9 rfl (lv_at hl 0 rfl) ?_
  refine va_get (D := (dC, dI)) (ci := 4) (v := .int rises) (C := RA) (T := TA) (N := 7) hx hb hts inA hown hK hP 0 rfl rfl 1 (by decide) (hts _ gw_76) (fun _ h9 => h9) rfl dA_scaledSquare_10 ?_
  refine lv_i2l (v := rises.toInt64) hx hb dA_scaledSquare_13 rfl ?_
  refine lv_lmul hx hb dA_scaledSquare_14 ?_
  exact W.lret (v := ((len * rises.toInt64) * len) * rises.toInt64) hx hb hr (fun t ht hW => ⟨by rw [show fA_ss kind rises total going width cf ct len = ((len * rises.toInt64) * len) * rises.toInt64 from by unfold fA_ss; rfl], ht⟩) (fun q h => by cases h) dA_scaledSquare_15

def fA_whole (kind : Int32) (rises : Int32) (total : Int64) (going : Int64) (width : Int64) (cf : Int32) (ct : Int32) (len : Int64) : Bool := if (fA_ss kind rises total going width cf ct len) = (fA_sss kind rises total going width cf ct) then true else false
set_option maxHeartbeats 4000000 in
set_option maxRecDepth 100000 in
theorem c_A_isStringWhole (l : Launch) (dC : Nat → ClassId) (dI : Nat → Nat → Nat) (h0 : Nat) (kind : Int32) (rises : Int32) (total : Int64) (going : Int64) (width : Int64) (cf : Int32) (ct : Int32) (len : Int64) : Met l mA_isStringWhole wA_isStringWhole ({ frames := 3, cells := 0, slots := 0, locals := 64 }) (tp_R (dC, dI) vCl [.ref h0, .long len] [(h0, .inr (4, [.int kind, .int rises, .long total, .long going, .long width, .int cf, .int ct]))] []) (tq_R (some (.int (bI (fA_whole kind rises total going width cf ct len))))) 0 0 (fun _ => False) := by
  refine Met.ofW (cc := bA_isStringWhole) (maxL := 3) (ret := (some .boolean)) (by decide) rfl ?_
  intro p e s m args below meth c s₁ B hml hv
  obtain ⟨rfl, hP, hK, hN⟩ := hv
  have hx := B.exec
  have hb := B.bytes
  have hr := B.returns
  have hts : ∀ w ∈ gT, w.before _ s = true := fun w h => atoms_spec (ws := wA_isStringWhole) B.pre w (List.mem_cons_of_mem _ h)
  have hown : s.vm.findClass RA = some m.cls := findClass_of_methodNamed B.named
  have hlocks := B.notSynchronized
  have hP : va_P (dC, dI) vCl [(h0, .inr (4, [.int kind, .int rises, .long total, .long going, .long width, .int cf, .int ct]))] s.heap := hP
  have hl := lv_entry ([.ref h0, .long len]) (n := 3) (Nat.le_of_ble_eq_true rfl)
  rw [lg_entry_eq]
  generalize (lg_sl ([.ref h0, .long len]) ++ List.replicate (3 - (lg_sl ([.ref h0, .long len])).length) Slot.unset).toArray = ls at hl ⊢
  have hl : lv_has ls 3 [(0, .ref h0), (1, .long len)] := hl
  refine lv_aload_n hx hb dA_isStringWhole_0 rfl (lv_at hl 0 rfl) ?_
  refine lv_lload_n hx hb dA_isStringWhole_1 rfl (lv_at hl 1 rfl) ?_
  refine tr_go (st1 := [.long (fA_ss kind rises total going width cf ct len)]) (va_runV (As := [.long len]) (rest := []) (C := RA) ⟨hx, hb, hml, hown, hts⟩ (c_A_scaledSquare l dC dI h0 kind rises total going width cf ct len) ⟨cB 1 hts gw_534 gw_5 gw_532 ndA_scaledSquare rfl rfl ⟨Nat.le_of_ble_eq_true rfl, Nat.le_of_ble_eq_true rfl⟩, hts _ gw_533, hts _ gw_755⟩ (tp_Rv hN hK hP [0] [] rfl rfl (q0 := 0) (ci := 4) rfl rfl) rfl rfl hl.1 rfl (lv_room (Nat.le_of_ble_eq_true rfl)) dA_isStringWhole_2 ⟨Nat.le_of_ble_eq_true rfl, Nat.le_of_ble_eq_true rfl⟩) rfl ?_
  refine lv_aload_n hx hb dA_isStringWhole_5 rfl (lv_at hl 0 rfl) ?_
  refine tr_go (st1 := [.long (fA_sss kind rises total going width cf ct), .long (fA_ss kind rises total going width cf ct len)]) (va_runV (As := []) (rest := [.long (fA_ss kind rises total going width cf ct len)]) (C := RA) ⟨hx, hb, hml, hown, hts⟩ (c_A_scaledStringSquare l dC dI h0 kind rises total going width cf ct) ⟨cB 0 hts gw_527 gw_5 gw_525 ndA_scaledStringSquare rfl rfl ⟨Nat.le_of_ble_eq_true rfl, Nat.le_of_ble_eq_true rfl⟩, hts _ gw_526, hts _ gw_754⟩ (tp_Rv hN hK hP [0] [] rfl rfl (q0 := 0) (ci := 4) rfl rfl) rfl rfl hl.1 rfl (lv_room (Nat.le_of_ble_eq_true rfl)) dA_isStringWhole_6 ⟨Nat.le_of_ble_eq_true rfl, Nat.le_of_ble_eq_true rfl⟩) rfl ?_
  refine tl_ne (tgt := 17) hx hb dA_isStringWhole_9 dA_isStringWhole_10 (by decide) (fun c_1 => ?_) (fun c_1 => ?_)
  · skip
    refine lv_iconst (v := 0) hx hb dA_isStringWhole_17 (by decide) ?_
    exact W.zret (v := 0) hx hb hr (rfl) (fun t ht hW => ⟨by rw [show fA_whole kind rises total going width cf ct len = false from by unfold fA_whole; rw [if_neg c_1]]; rfl, ht⟩) (fun q h => by cases h) dA_isStringWhole_18
  · skip
    refine lv_iconst (v := 1) hx hb dA_isStringWhole_13 (by decide) ?_
    refine lv_goto (tgt := 18) hx hb dA_isStringWhole_14 (by decide) ?_
    exact W.zret (v := 1) hx hb hr (rfl) (fun t ht hW => ⟨by rw [show fA_whole kind rises total going width cf ct len = true from by unfold fA_whole; rw [if_pos c_1]]; rfl, ht⟩) (fun q h => by cases h) dA_isStringWhole_18
