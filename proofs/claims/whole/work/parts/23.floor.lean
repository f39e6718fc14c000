def fF_isPlace (v : Int64) : Bool := if v < (-1000000) then false else (if 1000000 < v then false else true)
set_option maxHeartbeats 4000000 in
set_option maxRecDepth 100000 in
theorem c_F_isPlace (l : Launch) (dC : Nat → ClassId) (dI : Nat → Nat → Nat) (v : Int64) : Met l mF_isPlace wF_isPlace ({ frames := 0, cells := 0, slots := 0, locals := 0 }) (tp_R (dC, dI) vCl [.long v] [] []) (tq_R (some (.int (bI (fF_isPlace v))))) 0 0 (fun _ => False) := by
  refine Met.ofW (cc := bF_isPlace) (maxL := 2) (ret := (some .boolean)) (by decide) rfl ?_
  intro p e s m args below meth c s₁ B hml hv
  obtain ⟨rfl, hP, hK, hN⟩ := hv
  have hx := B.exec
  have hb := B.bytes
  have hr := B.returns
  have hts : ∀ w ∈ gT, w.before _ s = true := fun w h => atoms_spec (ws := wF_isPlace) B.pre w (List.mem_cons_of_mem _ h)
  have hown : s.vm.findClass RF = some m.cls := findClass_of_methodNamed B.named
  have hlocks := B.notSynchronized
  have hP : va_P (dC, dI) vCl [] s.heap := hP
  have hl := lv_entry ([.long v]) (n := 2) (Nat.le_of_ble_eq_true rfl)
  rw [lg_entry_eq]
  generalize (lg_sl ([.long v]) ++ List.replicate (2 - (lg_sl ([.long v])).length) Slot.unset).toArray = ls at hl ⊢
  have hl : lv_has ls 2 [(0, .long v)] := hl
  refine lv_lload_n hx hb dF_isPlace_0 rfl (lv_at hl 0 rfl) ?_
  refine lv_ldc2 (v := (-1000000)) hx hb hown (hts _ gw_483) dF_isPlace_1 ?_
  refine tl_lt (tgt := 20) hx hb dF_isPlace_4 dF_isPlace_5 (by decide) (fun c_1 => ?_) (fun c_1 => ?_)
  · skip
    refine lv_iconst (v := 0) hx hb dF_isPlace_20 (by decide) ?_
    exact W.zret (v := 0) hx hb hr (rfl) (fun t ht hW => ⟨by rw [show fF_isPlace v = false from by unfold fF_isPlace; rw [if_pos c_1]]; rfl, ht⟩) (fun q h => by cases h) dF_isPlace_21
  · skip
    refine lv_lload_n hx hb dF_isPlace_8 rfl (lv_at hl 0 rfl) ?_
    refine lv_ldc2 (v := 1000000) hx hb hown (hts _ gw_484) dF_isPlace_9 ?_
    refine tl_gt (tgt := 20) hx hb dF_isPlace_12 dF_isPlace_13 (by decide) (fun c_2 => ?_) (fun c_2 => ?_)
    · skip
      refine lv_iconst (v := 0) hx hb dF_isPlace_20 (by decide) ?_
      exact W.zret (v := 0) hx hb hr (rfl) (fun t ht hW => ⟨by rw [show fF_isPlace v = false from by unfold fF_isPlace; rw [if_neg c_1, if_pos c_2]]; rfl, ht⟩) (fun q h => by cases h) dF_isPlace_21
    · skip
      refine lv_iconst (v := 1) hx hb dF_isPlace_16 (by decide) ?_
      refine lv_goto (tgt := 21) hx hb dF_isPlace_17 (by decide) ?_
      exact W.zret (v := 1) hx hb hr (rfl) (fun t ht hW => ⟨by rw [show fF_isPlace v = true from by unfold fF_isPlace; rw [if_neg c_1, if_neg c_2]]; rfl, ht⟩) (fun q h => by cases h) dF_isPlace_21

def fF_isHeight (v : Int64) : Bool := if v < 0 then false else (if 1000000 < v then false else true)
set_option maxHeartbeats 4000000 in
set_option maxRecDepth 100000 in
theorem c_F_isHeight (l : Launch) (dC : Nat → ClassId) (dI : Nat → Nat → Nat) (v : Int64) : Met l mF_isHeight wF_isHeight ({ frames := 0, cells := 0, slots := 0, locals := 0 }) (tp_R (dC, dI) vCl [.long v] [] []) (tq_R (some (.int (bI (fF_isHeight v))))) 0 0 (fun _ => False) := by
  refine Met.ofW (cc := bF_isHeight) (maxL := 2) (ret := (some .boolean)) (by decide) rfl ?_
  intro p e s m args below meth c s₁ B hml hv
  obtain ⟨rfl, hP, hK, hN⟩ := hv
  have hx := B.exec
  have hb := B.bytes
  have hr := B.returns
  have hts : ∀ w ∈ gT, w.before _ s = true := fun w h => atoms_spec (ws := wF_isHeight) B.pre w (List.mem_cons_of_mem _ h)
  have hown : s.vm.findClass RF = some m.cls := findClass_of_methodNamed B.named
  have hlocks := B.notSynchronized
  have hP : va_P (dC, dI) vCl [] s.heap := hP
  have hl := lv_entry ([.long v]) (n := 2) (Nat.le_of_ble_eq_true rfl)
  rw [lg_entry_eq]
  generalize (lg_sl ([.long v]) ++ List.replicate (2 - (lg_sl ([.long v])).length) Slot.unset).toArray = ls at hl ⊢
  have hl : lv_has ls 2 [(0, .long v)] := hl
  refine lv_lload_n hx hb dF_isHeight_0 rfl (lv_at hl 0 rfl) ?_
  refine lv_lconst (v := 0) hx hb dF_isHeight_1 (by decide) ?_
  refine tl_lt (tgt := 18) hx hb dF_isHeight_2 dF_isHeight_3 (by decide) (fun c_1 => ?_) (fun c_1 => ?_)
  · skip
    refine lv_iconst (v := 0) hx hb dF_isHeight_18 (by decide) ?_
    exact W.zret (v := 0) hx hb hr (rfl) (fun t ht hW => ⟨by rw [show fF_isHeight v = false from by unfold fF_isHeight; rw [if_pos c_1]]; rfl, ht⟩) (fun q h => by cases h) dF_isHeight_19
  · skip
    refine lv_lload_n hx hb dF_isHeight_6 rfl (lv_at hl 0 rfl) ?_
    refine lv_ldc2 (v := 1000000) hx hb hown (hts _ gw_484) dF_isHeight_7 ?_
    refine tl_gt (tgt := 18) hx hb dF_isHeight_10 dF_isHeight_11 (by decide) (fun c_2 => ?_) (fun c_2 => ?_)
    · skip
      refine lv_iconst (v := 0) hx hb dF_isHeight_18 (by decide) ?_
      exact W.zret (v := 0) hx hb hr (rfl) (fun t ht hW => ⟨by rw [show fF_isHeight v = false from by unfold fF_isHeight; rw [if_neg c_1, if_pos c_2]]; rfl, ht⟩) (fun q h => by cases h) dF_isHeight_19
    · skip
      refine lv_iconst (v := 1) hx hb dF_isHeight_14 (by decide) ?_
      refine lv_goto (tgt := 19) hx hb dF_isHeight_15 (by decide) ?_
      exact W.zret (v := 1) hx hb hr (rfl) (fun t ht hW => ⟨by rw [show fF_isHeight v = true from by unfold fF_isHeight; rw [if_neg c_1, if_neg c_2]]; rfl, ht⟩) (fun q h => by cases h) dF_isHeight_19

def fF_append_c0f5 (x0 : Nat → Int64) (y0 : Nat → Int64) (x1 : Nat → Int64) (y1 : Nat → Int64) (hh : Nat → Int64) (fc : Nat) (q1 : Int64) (q2 : Int64) (q3 : Int64) (q4 : Int64) (q5 : Int64) : Nat := if (nI fc) < 8 then (fc + 1) else fc
def fF_append_a1 (x0 : Nat → Int64) (y0 : Nat → Int64) (x1 : Nat → Int64) (y1 : Nat → Int64) (hh : Nat → Int64) (fc : Nat) (q1 : Int64) (q2 : Int64) (q3 : Int64) (q4 : Int64) (q5 : Int64) : Nat → Int64 := if (nI fc) < 8 then (vp_updL x0 (nI fc).toNatClampNeg q1) else x0
def fF_append_a2 (x0 : Nat → Int64) (y0 : Nat → Int64) (x1 : Nat → Int64) (y1 : Nat → Int64) (hh : Nat → Int64) (fc : Nat) (q1 : Int64) (q2 : Int64) (q3 : Int64) (q4 : Int64) (q5 : Int64) : Nat → Int64 := if (nI fc) < 8 then (vp_updL y0 (nI fc).toNatClampNeg q2) else y0
def fF_append_a3 (x0 : Nat → Int64) (y0 : Nat → Int64) (x1 : Nat → Int64) (y1 : Nat → Int64) (hh : Nat → Int64) (fc : Nat) (q1 : Int64) (q2 : Int64) (q3 : Int64) (q4 : Int64) (q5 : Int64) : Nat → Int64 := if (nI fc) < 8 then (vp_updL x1 (nI fc).toNatClampNeg q3) else x1
def fF_append_a4 (x0 : Nat → Int64) (y0 : Nat → Int64) (x1 : Nat → Int64) (y1 : Nat → Int64) (hh : Nat → Int64) (fc : Nat) (q1 : Int64) (q2 : Int64) (q3 : Int64) (q4 : Int64) (q5 : Int64) : Nat → Int64 := if (nI fc) < 8 then (vp_updL y1 (nI fc).toNatClampNeg q4) else y1
def fF_append_a5 (x0 : Nat → Int64) (y0 : Nat → Int64) (x1 : Nat → Int64) (y1 : Nat → Int64) (hh : Nat → Int64) (fc : Nat) (q1 : Int64) (q2 : Int64) (q3 : Int64) (q4 : Int64) (q5 : Int64) : Nat → Int64 := if (nI fc) < 8 then (vp_updL hh (nI fc).toNatClampNeg q5) else hh
def fF_append (x0 : Nat → Int64) (y0 : Nat → Int64) (x1 : Nat → Int64) (y1 : Nat → Int64) (hh : Nat → Int64) (fc : Nat) (q1 : Int64) (q2 : Int64) (q3 : Int64) (q4 : Int64) (q5 : Int64) : Bool := if (nI fc) < 8 then true else false
set_option maxHeartbeats 4000000 in
set_option maxRecDepth 100000 in
theorem c_F_append (l : Launch) (dC : Nat → ClassId) (dI : Nat → Nat → Nat) (f0 : Nat) (b1 : Nat) (b2 : Nat) (b3 : Nat) (b4 : Nat) (b5 : Nat) (d1 : ClassId) (d2 : ClassId) (d3 : ClassId) (d4 : ClassId) (d5 : ClassId) (x0 : Nat → Int64) (y0 : Nat → Int64) (x1 : Nat → Int64) (y1 : Nat → Int64) (hh : Nat → Int64) (fc : Nat) (q1 : Int64) (q2 : Int64) (q3 : Int64) (q4 : Int64) (q5 : Int64) (hf : fc ≤ 8) : Met l mF_append wF_append ({ frames := 0, cells := 0, slots := 0, locals := 0 }) (tp_W (dC, dI) vCl [.ref f0, .long q1, .long q2, .long q3, .long q4, .long q5] [(f0, .inr (3, [.ref b1, .ref b2, .ref b3, .ref b4, .ref b5, .int (nI fc)])), (b1, .inl (d1, 8, .inr (.inl x0))), (b2, .inl (d2, 8, .inr (.inl y0))), (b3, .inl (d3, 8, .inr (.inl x1))), (b4, .inl (d4, 8, .inr (.inl y1))), (b5, .inl (d5, 8, .inr (.inl hh)))] [(d1, .long), (d2, .long), (d3, .long), (d4, .long), (d5, .long)]) (tq_W (dC, dI) vCl (some (.int (bI (fF_append x0 y0 x1 y1 hh fc q1 q2 q3 q4 q5)))) [(f0, .inr (3, [.ref b1, .ref b2, .ref b3, .ref b4, .ref b5, .int (nI fc)])), (b1, .inl (d1, 8, .inr (.inl x0))), (b2, .inl (d2, 8, .inr (.inl y0))), (b3, .inl (d3, 8, .inr (.inl x1))), (b4, .inl (d4, 8, .inr (.inl y1))), (b5, .inl (d5, 8, .inr (.inl hh)))] [(f0, .inr (3, [.ref b1, .ref b2, .ref b3, .ref b4, .ref b5, .int (nI (fF_append_c0f5 x0 y0 x1 y1 hh fc q1 q2 q3 q4 q5))])), (b1, .inl (d1, 8, .inr (.inl (fF_append_a1 x0 y0 x1 y1 hh fc q1 q2 q3 q4 q5)))), (b2, .inl (d2, 8, .inr (.inl (fF_append_a2 x0 y0 x1 y1 hh fc q1 q2 q3 q4 q5)))), (b3, .inl (d3, 8, .inr (.inl (fF_append_a3 x0 y0 x1 y1 hh fc q1 q2 q3 q4 q5)))), (b4, .inl (d4, 8, .inr (.inl (fF_append_a4 x0 y0 x1 y1 hh fc q1 q2 q3 q4 q5)))), (b5, .inl (d5, 8, .inr (.inl (fF_append_a5 x0 y0 x1 y1 hh fc q1 q2 q3 q4 q5))))]) 0 0 (tA [(f0, .inr (3, [.ref b1, .ref b2, .ref b3, .ref b4, .ref b5, .int (nI fc)])), (b1, .inl (d1, 8, .inr (.inl x0))), (b2, .inl (d2, 8, .inr (.inl y0))), (b3, .inl (d3, 8, .inr (.inl x1))), (b4, .inl (d4, 8, .inr (.inl y1))), (b5, .inl (d5, 8, .inr (.inl hh)))]) := by
  refine Met.ofW (cc := bF_append) (maxL := 11) (ret := (some .boolean)) (by decide) rfl ?_
  intro p e s m args below meth c s₁ B hml hv
  obtain ⟨rfl, hP, hK, hN, hD0⟩ := hv
  have hx := B.exec
  have hb := B.bytes
  have hr := B.returns
  have hts : ∀ w ∈ gT, w.before _ s = true := fun w h => atoms_spec (ws := wF_append) B.pre w (List.mem_cons_of_mem _ h)
  have hown : s.vm.findClass RF = some m.cls := findClass_of_methodNamed B.named
  have hlocks := B.notSynchronized
  have hD := tA_D hD0
  generalize hAe : tA [(f0, .inr (3, [.ref b1, .ref b2, .ref b3, .ref b4, .ref b5, .int (nI fc)])), (b1, .inl (d1, 8, .inr (.inl x0))), (b2, .inl (d2, 8, .inr (.inl y0))), (b3, .inl (d3, 8, .inr (.inl x1))), (b4, .inl (d4, 8, .inr (.inl y1))), (b5, .inl (d5, 8, .inr (.inl hh)))] = A at hD ⊢
  have hS : va_S A s.heap s.heap [] := va_S.rf
  have hP : va_P (dC, dI) vCl [(f0, .inr (3, [.ref b1, .ref b2, .ref b3, .ref b4, .ref b5, .int (nI fc)])), (b1, .inl (d1, 8, .inr (.inl x0))), (b2, .inl (d2, 8, .inr (.inl y0))), (b3, .inl (d3, 8, .inr (.inl x1))), (b4, .inl (d4, 8, .inr (.inl y1))), (b5, .inl (d5, 8, .inr (.inl hh)))] s.heap := hP
  have hl := lv_entry ([.ref f0, .long q1, .long q2, .long q3, .long q4, .long q5]) (n := 11) (Nat.le_of_ble_eq_true rfl)
  rw [lg_entry_eq]
  generalize (lg_sl ([.ref f0, .long q1, .long q2, .long q3, .long q4, .long q5]) ++ List.replicate (11 - (lg_sl ([.ref f0, .long q1, .long q2, .long q3, .long q4, .long q5])).length) Slot.unset).toArray = ls at hl ⊢
  have hl : lv_has ls 11 [(0, .ref f0), (1, .long q1), (3, .long q2), (5, .long q3), (7, .long q4), (9, .long q5)] := hl
  refine lv_aload_n hx hb dF_append_0 rfl (lv_at hl 0 rfl) ?_
  refine va_get (D := (dC, dI)) (ci := 3) (v := .int (nI fc)) (C := RF) (T := TF) (N := 6) hx hb hts inF hown hK hP 0 rfl rfl 5 (by decide) (hts _ gw_62) (fun _ h9 => h9) rfl dF_append_1 ?_
  refine lv_bipush (v := 8) hx hb dF_append_4 (by decide) ?_
  refine lv_icmp_lt (tgt := 11) hx hb dF_append_6 (by decide) (fun c_1 => ?_) (fun c_1 => ?_)
  · skip
    refine lv_aload_n hx hb dF_append_11 rfl (lv_at hl 0 rfl) ?_
    refine va_get (D := (dC, dI)) (ci := 3) (v := .ref b1) (C := RF) (T := TF) (N := 6) hx hb hts inF hown hK hP 0 rfl rfl 0 (by decide) (hts _ gw_57) (fun _ h9 => h9) rfl dF_append_12 ?_
    refine lv_aload_n hx hb dF_append_15 rfl (lv_at hl 0 rfl) ?_
    refine va_get (D := (dC, dI)) (ci := 3) (v := .int (nI fc)) (C := RF) (T := TF) (N := 6) hx hb hts inF hown hK hP 0 rfl rfl 5 (by decide) (hts _ gw_62) (fun _ h9 => h9) rfl dF_append_16 ?_
    refine lv_lload_n hx hb dF_append_19 rfl (lv_at hl 1 rfl) ?_
    have b_2 : vp_in (nI fc) 8 := tin_c rfl (by decide) (by omega) (tin_u c_1)
    refine va_last hx hb hK hP hD hS 1 0 rfl rfl b_2 dF_append_20 (fun H locs hP hD hS => ?_)
    have hP : va_P (dC, dI) vCl [(f0, .inr (3, [.ref b1, .ref b2, .ref b3, .ref b4, .ref b5, .int (nI fc)])), (b1, .inl (d1, 8, .inr (.inl (vp_updL x0 (nI fc).toNatClampNeg q1)))), (b2, .inl (d2, 8, .inr (.inl y0))), (b3, .inl (d3, 8, .inr (.inl x1))), (b4, .inl (d4, 8, .inr (.inl y1))), (b5, .inl (d5, 8, .inr (.inl hh)))] H := hP
    have hD : va_D A [(f0, .inr (3, [.ref b1, .ref b2, .ref b3, .ref b4, .ref b5, .int (nI fc)])), (b1, .inl (d1, 8, .inr (.inl (vp_updL x0 (nI fc).toNatClampNeg q1)))), (b2, .inl (d2, 8, .inr (.inl y0))), (b3, .inl (d3, 8, .inr (.inl x1))), (b4, .inl (d4, 8, .inr (.inl y1))), (b5, .inl (d5, 8, .inr (.inl hh)))] := hD
    refine lv_aload_n hx hb dF_append_21 rfl (lv_at hl 0 rfl) ?_
    refine va_get (D := (dC, dI)) (ci := 3) (v := .ref b2) (C := RF) (T := TF) (N := 6) hx hb hts inF hown hK hP 0 rfl rfl 1 (by decide) (hts _ gw_58) (fun _ h9 => h9) rfl dF_append_22 ?_
    refine lv_aload_n hx hb dF_append_25 rfl (lv_at hl 0 rfl) ?_
    refine va_get (D := (dC, dI)) (ci := 3) (v := .int (nI fc)) (C := RF) (T := TF) (N := 6) hx hb hts inF hown hK hP 0 rfl rfl 5 (by decide) (hts _ gw_62) (fun _ h9 => h9) rfl dF_append_26 ?_
    refine lv_lload_n hx hb dF_append_29 rfl (lv_at hl 2 rfl) ?_
    have b_3 : vp_in (nI fc) 8 := tin_c rfl (by decide) (by omega) (tin_u c_1)
    refine va_last hx hb hK hP hD hS 2 1 rfl rfl b_3 dF_append_30 (fun H locs hP hD hS => ?_)
    have hP : va_P (dC, dI) vCl [(f0, .inr (3, [.ref b1, .ref b2, .ref b3, .ref b4, .ref b5, .int (nI fc)])), (b1, .inl (d1, 8, .inr (.inl (vp_updL x0 (nI fc).toNatClampNeg q1)))), (b2, .inl (d2, 8, .inr (.inl (vp_updL y0 (nI fc).toNatClampNeg q2)))), (b3, .inl (d3, 8, .inr (.inl x1))), (b4, .inl (d4, 8, .inr (.inl y1))), (b5, .inl (d5, 8, .inr (.inl hh)))] H := hP
    have hD : va_D A [(f0, .inr (3, [.ref b1, .ref b2, .ref b3, .ref b4, .ref b5, .int (nI fc)])), (b1, .inl (d1, 8, .inr (.inl (vp_updL x0 (nI fc).toNatClampNeg q1)))), (b2, .inl (d2, 8, .inr (.inl (vp_updL y0 (nI fc).toNatClampNeg q2)))), (b3, .inl (d3, 8, .inr (.inl x1))), (b4, .inl (d4, 8, .inr (.inl y1))), (b5, .inl (d5, 8, .inr (.inl hh)))] := hD
    refine lv_aload_n hx hb dF_append_31 rfl (lv_at hl 0 rfl) ?_
    refine va_get (D := (dC, dI)) (ci := 3) (v := .ref b3) (C := RF) (T := TF) (N := 6) hx hb hts inF hown hK hP 0 rfl rfl 2 (by decide) (hts _ gw_59) (fun _ h9 => h9) rfl dF_append_32 ?_
    refine lv_aload_n hx hb dF_append_35 rfl (lv_at hl 0 rfl) ?_
    refine va_get (D := (dC, dI)) (ci := 3) (v := .int (nI fc)) (C := RF) (T := TF) (N := 6) hx hb hts inF hown hK hP 0 rfl rfl 5 (by decide) (hts _ gw_62) (fun _ h9 => h9) rfl dF_append_36 ?_
    refine lv_lload hx hb dF_append_39 (lv_at hl 3 rfl) ?_
    have b_4 : vp_in (nI fc) 8 := tin_c rfl (by decide) (by omega) (tin_u c_1)
    refine va_last hx hb hK hP hD hS 3 2 rfl rfl b_4 dF_append_41 (fun H locs hP hD hS => ?_)
    have hP : va_P (dC, dI) vCl [(f0, .inr (3, [.ref b1, .ref b2, .ref b3, .ref b4, .ref b5, .int (nI fc)])), (b1, .inl (d1, 8, .inr (.inl (vp_updL x0 (nI fc).toNatClampNeg q1)))), (b2, .inl (d2, 8, .inr (.inl (vp_updL y0 (nI fc).toNatClampNeg q2)))), (b3, .inl (d3, 8, .inr (.inl (vp_updL x1 (nI fc).toNatClampNeg q3)))), (b4, .inl (d4, 8, .inr (.inl y1))), (b5, .inl (d5, 8, .inr (.inl hh)))] H := hP
    have hD : va_D A [(f0, .inr (3, [.ref b1, .ref b2, .ref b3, .ref b4, .ref b5, .int (nI fc)])), (b1, .inl (d1, 8, .inr (.inl (vp_updL x0 (nI fc).toNatClampNeg q1)))), (b2, .inl (d2, 8, .inr (.inl (vp_updL y0 (nI fc).toNatClampNeg q2)))), (b3, .inl (d3, 8, .inr (.inl (vp_updL x1 (nI fc).toNatClampNeg q3)))), (b4, .inl (d4, 8, .inr (.inl y1))), (b5, .inl (d5, 8, .inr (.inl hh)))] := hD
    refine lv_aload_n hx hb dF_append_42 rfl (lv_at hl 0 rfl) ?_
    refine va_get (D := (dC, dI)) (ci := 3) (v := .ref b4) (C := RF) (T := TF) (N := 6) hx hb hts inF hown hK hP 0 rfl rfl 3 (by decide) (hts _ gw_60) (fun _ h9 => h9) rfl dF_append_43 ?_
    refine lv_aload_n hx hb dF_append_46 rfl (lv_at hl 0 rfl) ?_
    refine va_get (D := (dC, dI)) (ci := 3) (v := .int (nI fc)) (C := RF) (T := TF) (N := 6) hx hb hts inF hown hK hP 0 rfl rfl 5 (by decide) (hts _ gw_62) (fun _ h9 => h9) rfl dF_append_47 ?_
    refine lv_lload hx hb dF_append_50 (lv_at hl 4 rfl) ?_
    have b_5 : vp_in (nI fc) 8 := tin_c rfl (by decide) (by omega) (tin_u c_1)
    refine va_last hx hb hK hP hD hS 4 3 rfl rfl b_5 dF_append_52 (fun H locs hP hD hS => ?_)
    have hP : va_P (dC, dI) vCl [(f0, .inr (3, [.ref b1, .ref b2, .ref b3, .ref b4, .ref b5, .int (nI fc)])), (b1, .inl (d1, 8, .inr (.inl (vp_updL x0 (nI fc).toNatClampNeg q1)))), (b2, .inl (d2, 8, .inr (.inl (vp_updL y0 (nI fc).toNatClampNeg q2)))), (b3, .inl (d3, 8, .inr (.inl (vp_updL x1 (nI fc).toNatClampNeg q3)))), (b4, .inl (d4, 8, .inr (.inl (vp_updL y1 (nI fc).toNatClampNeg q4)))), (b5, .inl (d5, 8, .inr (.inl hh)))] H := hP
    have hD : va_D A [(f0, .inr (3, [.ref b1, .ref b2, .ref b3, .ref b4, .ref b5, .int (nI fc)])), (b1, .inl (d1, 8, .inr (.inl (vp_updL x0 (nI fc).toNatClampNeg q1)))), (b2, .inl (d2, 8, .inr (.inl (vp_updL y0 (nI fc).toNatClampNeg q2)))), (b3, .inl (d3, 8, .inr (.inl (vp_updL x1 (nI fc).toNatClampNeg q3)))), (b4, .inl (d4, 8, .inr (.inl (vp_updL y1 (nI fc).toNatClampNeg q4)))), (b5, .inl (d5, 8, .inr (.inl hh)))] := hD
    refine lv_aload_n hx hb dF_append_53 rfl (lv_at hl 0 rfl) ?_
    refine va_get (D := (dC, dI)) (ci := 3) (v := .ref b5) (C := RF) (T := TF) (N := 6) hx hb hts inF hown hK hP 0 rfl rfl 4 (by decide) (hts _ gw_61) (fun _ h9 => h9) rfl dF_append_54 ?_
    refine lv_aload_n hx hb dF_append_57 rfl (lv_at hl 0 rfl) ?_
    refine va_get (D := (dC, dI)) (ci := 3) (v := .int (nI fc)) (C := RF) (T := TF) (N := 6) hx hb hts inF hown hK hP 0 rfl rfl 5 (by decide) (hts _ gw_62) (fun _ h9 => h9) rfl dF_append_58 ?_
    refine lv_lload hx hb dF_append_61 (lv_at hl 5 rfl) ?_
    have b_6 : vp_in (nI fc) 8 := tin_c rfl (by decide) (by omega) (tin_u c_1)
    refine va_last hx hb hK hP hD hS 5 4 rfl rfl b_6 dF_append_63 (fun H locs hP hD hS => ?_)
    have hP : va_P (dC, dI) vCl [(f0, .inr (3, [.ref b1, .ref b2, .ref b3, .ref b4, .ref b5, .int (nI fc)])), (b1, .inl (d1, 8, .inr (.inl (vp_updL x0 (nI fc).toNatClampNeg q1)))), (b2, .inl (d2, 8, .inr (.inl (vp_updL y0 (nI fc).toNatClampNeg q2)))), (b3, .inl (d3, 8, .inr (.inl (vp_updL x1 (nI fc).toNatClampNeg q3)))), (b4, .inl (d4, 8, .inr (.inl (vp_updL y1 (nI fc).toNatClampNeg q4)))), (b5, .inl (d5, 8, .inr (.inl (vp_updL hh (nI fc).toNatClampNeg q5))))] H := hP
    have hD : va_D A [(f0, .inr (3, [.ref b1, .ref b2, .ref b3, .ref b4, .ref b5, .int (nI fc)])), (b1, .inl (d1, 8, .inr (.inl (vp_updL x0 (nI fc).toNatClampNeg q1)))), (b2, .inl (d2, 8, .inr (.inl (vp_updL y0 (nI fc).toNatClampNeg q2)))), (b3, .inl (d3, 8, .inr (.inl (vp_updL x1 (nI fc).toNatClampNeg q3)))), (b4, .inl (d4, 8, .inr (.inl (vp_updL y1 (nI fc).toNatClampNeg q4)))), (b5, .inl (d5, 8, .inr (.inl (vp_updL hh (nI fc).toNatClampNeg q5))))] := hD
    refine lv_aload_n hx hb dF_append_64 rfl (lv_at hl 0 rfl) ?_
    refine lv_dup hx hb dF_append_65 rfl ?_
    refine va_get (D := (dC, dI)) (ci := 3) (v := .int (nI fc)) (C := RF) (T := TF) (N := 6) hx hb hts inF hown hK hP 0 rfl rfl 5 (by decide) (hts _ gw_62) (fun _ h9 => h9) rfl dF_append_66 ?_
    refine lv_iconst (v := 1) hx hb dF_append_69 (by decide) ?_
    refine lv_iadd hx hb dF_append_70 ?_
    rw [nI_1 (fc)]
    refine va_put (D := (dC, dI)) (ci := 3) (v := .int (nI (fc + 1))) (ty := .int) (C := RF) (T := TF) (N := 6) hx hb hts inF yF yoF noF hown hK hP hD hS 0 rfl rfl 5 (by decide) (hts _ gw_62) (fun _ h9 => h9) rfl (by decide +kernel) rfl rfl (Nat.le_of_ble_eq_true rfl) dF_append_71 (fun H locs hP hD hS => ?_)
    have hP : va_P (dC, dI) vCl [(f0, .inr (3, [.ref b1, .ref b2, .ref b3, .ref b4, .ref b5, .int (nI (fc + 1))])), (b1, .inl (d1, 8, .inr (.inl (vp_updL x0 (nI fc).toNatClampNeg q1)))), (b2, .inl (d2, 8, .inr (.inl (vp_updL y0 (nI fc).toNatClampNeg q2)))), (b3, .inl (d3, 8, .inr (.inl (vp_updL x1 (nI fc).toNatClampNeg q3)))), (b4, .inl (d4, 8, .inr (.inl (vp_updL y1 (nI fc).toNatClampNeg q4)))), (b5, .inl (d5, 8, .inr (.inl (vp_updL hh (nI fc).toNatClampNeg q5))))] H := hP
    have hD : va_D A [(f0, .inr (3, [.ref b1, .ref b2, .ref b3, .ref b4, .ref b5, .int (nI (fc + 1))])), (b1, .inl (d1, 8, .inr (.inl (vp_updL x0 (nI fc).toNatClampNeg q1)))), (b2, .inl (d2, 8, .inr (.inl (vp_updL y0 (nI fc).toNatClampNeg q2)))), (b3, .inl (d3, 8, .inr (.inl (vp_updL x1 (nI fc).toNatClampNeg q3)))), (b4, .inl (d4, 8, .inr (.inl (vp_updL y1 (nI fc).toNatClampNeg q4)))), (b5, .inl (d5, 8, .inr (.inl (vp_updL hh (nI fc).toNatClampNeg q5))))] := hD
    refine lv_iconst (v := 1) hx hb dF_append_74 (by decide) ?_
    exact W.zret (v := 1) hx hb hr (rfl) (fun t ht hW => ⟨by rw [show fF_append x0 y0 x1 y1 hh fc q1 q2 q3 q4 q5 = true from by unfold fF_append; rw [if_pos c_1]]; rfl, by rw [ht, show fF_append_c0f5 x0 y0 x1 y1 hh fc q1 q2 q3 q4 q5 = (fc + 1) from by unfold fF_append_c0f5; rw [if_pos c_1], show fF_append_a1 x0 y0 x1 y1 hh fc q1 q2 q3 q4 q5 = vp_updL x0 (nI fc).toNatClampNeg q1 from by unfold fF_append_a1; rw [if_pos c_1], show fF_append_a2 x0 y0 x1 y1 hh fc q1 q2 q3 q4 q5 = vp_updL y0 (nI fc).toNatClampNeg q2 from by unfold fF_append_a2; rw [if_pos c_1], show fF_append_a3 x0 y0 x1 y1 hh fc q1 q2 q3 q4 q5 = vp_updL x1 (nI fc).toNatClampNeg q3 from by unfold fF_append_a3; rw [if_pos c_1], show fF_append_a4 x0 y0 x1 y1 hh fc q1 q2 q3 q4 q5 = vp_updL y1 (nI fc).toNatClampNeg q4 from by unfold fF_append_a4; rw [if_pos c_1], show fF_append_a5 x0 y0 x1 y1 hh fc q1 q2 q3 q4 q5 = vp_updL hh (nI fc).toNatClampNeg q5 from by unfold fF_append_a5; rw [if_pos c_1]]; exact hP, by rw [hAe]; exact hS.F ht⟩) hS.2.2 dF_append_75
  · skip
    refine lv_iconst (v := 0) hx hb dF_append_9 (by decide) ?_
    exact W.zret (v := 0) hx hb hr (rfl) (fun t ht hW => ⟨by rw [show fF_append x0 y0 x1 y1 hh fc q1 q2 q3 q4 q5 = false from by unfold fF_append; rw [if_neg c_1]]; rfl, by rw [ht, show fF_append_c0f5 x0 y0 x1 y1 hh fc q1 q2 q3 q4 q5 = fc from by unfold fF_append_c0f5; rw [if_neg c_1], show fF_append_a1 x0 y0 x1 y1 hh fc q1 q2 q3 q4 q5 = x0 from by unfold fF_append_a1; rw [if_neg c_1], show fF_append_a2 x0 y0 x1 y1 hh fc q1 q2 q3 q4 q5 = y0 from by unfold fF_append_a2; rw [if_neg c_1], show fF_append_a3 x0 y0 x1 y1 hh fc q1 q2 q3 q4 q5 = x1 from by unfold fF_append_a3; rw [if_neg c_1], show fF_append_a4 x0 y0 x1 y1 hh fc q1 q2 q3 q4 q5 = y1 from by unfold fF_append_a4; rw [if_neg c_1], show fF_append_a5 x0 y0 x1 y1 hh fc q1 q2 q3 q4 q5 = hh from by unfold fF_append_a5; rw [if_neg c_1]]; exact hP, by rw [hAe]; exact hS.F ht⟩) hS.2.2 dF_append_10

def fF_over (x0 : Nat → Int64) (y0 : Nat → Int64) (x1 : Nat → Int64) (y1 : Nat → Int64) (hh : Nat → Int64) (fcnt : Int32) (kind : Int32) (rises : Int32) (total : Int64) (going : Int64) (width : Int64) (cf : Int32) (ct : Int32) (i : Int32) (k : Int32) : Bool := if i < 0 then false else (if 8 ≤ i then false else (if (fA_greatestX kind rises total going width cf ct k) ≤ (x0 i.toNatClampNeg) then false else (if (x1 i.toNatClampNeg) ≤ (fA_leastX kind rises total going width cf ct k) then false else (if (fA_greatestY kind rises total going width cf ct k) ≤ (y0 i.toNatClampNeg) then false else (if (y1 i.toNatClampNeg) ≤ (fA_leastY kind rises total going width cf ct k) then false else true)))))
set_option maxHeartbeats 4000000 in
set_option maxRecDepth 100000 in
theorem c_F_over (l : Launch) (dC : Nat → ClassId) (dI : Nat → Nat → Nat) (f0 : Nat) (b1 : Nat) (b2 : Nat) (b3 : Nat) (b4 : Nat) (b5 : Nat) (d1 : ClassId) (d2 : ClassId) (d3 : ClassId) (d4 : ClassId) (d5 : ClassId) (x0 : Nat → Int64) (y0 : Nat → Int64) (x1 : Nat → Int64) (y1 : Nat → Int64) (hh : Nat → Int64) (fcnt : Int32) (h0 : Nat) (kind : Int32) (rises : Int32) (total : Int64) (going : Int64) (width : Int64) (cf : Int32) (ct : Int32) (i : Int32) (k : Int32) : Met l mF_isOver wF_isOver ({ frames := 3, cells := 0, slots := 0, locals := 63 }) (tp_R (dC, dI) vCl [.ref f0, .int i, .ref h0, .int k] [(f0, .inr (3, [.ref b1, .ref b2, .ref b3, .ref b4, .ref b5, .int fcnt])), (b1, .inl (d1, 8, .inr (.inl x0))), (b2, .inl (d2, 8, .inr (.inl y0))), (b3, .inl (d3, 8, .inr (.inl x1))), (b4, .inl (d4, 8, .inr (.inl y1))), (b5, .inl (d5, 8, .inr (.inl hh))), (h0, .inr (4, [.int kind, .int rises, .long total, .long going, .long width, .int cf, .int ct]))] [(d1, .long), (d2, .long), (d3, .long), (d4, .long), (d5, .long)]) (tq_R (some (.int (bI (fF_over x0 y0 x1 y1 hh fcnt kind rises total going width cf ct i k))))) 0 0 (fun _ => False) := by
  refine Met.ofW (cc := bF_isOver) (maxL := 4) (ret := (some .boolean)) (by decide) rfl ?_
  intro p e s m args below meth c s₁ B hml hv
  obtain ⟨rfl, hP, hK, hN⟩ := hv
  have hx := B.exec
  have hb := B.bytes
  have hr := B.returns
  have hts : ∀ w ∈ gT, w.before _ s = true := fun w h => atoms_spec (ws := wF_isOver) B.pre w (List.mem_cons_of_mem _ h)
  have hown : s.vm.findClass RF = some m.cls := findClass_of_methodNamed B.named
  have hlocks := B.notSynchronized
  have hP : va_P (dC, dI) vCl [(f0, .inr (3, [.ref b1, .ref b2, .ref b3, .ref b4, .ref b5, .int fcnt])), (b1, .inl (d1, 8, .inr (.inl x0))), (b2, .inl (d2, 8, .inr (.inl y0))), (b3, .inl (d3, 8, .inr (.inl x1))), (b4, .inl (d4, 8, .inr (.inl y1))), (b5, .inl (d5, 8, .inr (.inl hh))), (h0, .inr (4, [.int kind, .int rises, .long total, .long going, .long width, .int cf, .int ct]))] s.heap := hP
  have hl := lv_entry ([.ref f0, .int i, .ref h0, .int k]) (n := 4) (Nat.le_of_ble_eq_true rfl)
  rw [lg_entry_eq]
  generalize (lg_sl ([.ref f0, .int i, .ref h0, .int k]) ++ List.replicate (4 - (lg_sl ([.ref f0, .int i, .ref h0, .int k])).length) Slot.unset).toArray = ls at hl ⊢
  have hl : lv_has ls 4 [(0, .ref f0), (1, .int i), (2, .ref h0), (3, .int k)] := hl
  refine lv_iload_n hx hb dF_isOver_0 rfl (lv_at hl 1 rfl) ?_
  refine lv_if_lt (tgt := 74) hx hb dF_isOver_1 (by decide) (fun c_1 => ?_) (fun c_1 => ?_)
  · skip
    refine lv_iconst (v := 0) hx hb dF_isOver_74 (by decide) ?_
    exact W.zret (v := 0) hx hb hr (rfl) (fun t ht hW => ⟨by rw [show fF_over x0 y0 x1 y1 hh fcnt kind rises total going width cf ct i k = false from by unfold fF_over; rw [if_pos c_1]]; rfl, ht⟩) (fun q h => by cases h) dF_isOver_75
  · skip
    refine lv_iload_n hx hb dF_isOver_4 rfl (lv_at hl 1 rfl) ?_
    refine lv_bipush (v := 8) hx hb dF_isOver_5 (by decide) ?_
    refine lv_icmp_ge (tgt := 74) hx hb dF_isOver_7 (by decide) (fun c_2 => ?_) (fun c_2 => ?_)
    · skip
      refine lv_iconst (v := 0) hx hb dF_isOver_74 (by decide) ?_
      exact W.zret (v := 0) hx hb hr (rfl) (fun t ht hW => ⟨by rw [show fF_over x0 y0 x1 y1 hh fcnt kind rises total going width cf ct i k = false from by unfold fF_over; rw [if_neg c_1, if_pos c_2]]; rfl, ht⟩) (fun q h => by cases h) dF_isOver_75
    · skip
      refine lv_aload_n hx hb dF_isOver_10 rfl (lv_at hl 0 rfl) ?_
      refine va_get (D := (dC, dI)) (ci := 3) (v := .ref b1) (C := RF) (T := TF) (N := 6) hx hb hts inF hown hK hP 0 rfl rfl 0 (by decide) (hts _ gw_57) (fun _ h9 => h9) rfl dF_isOver_11 ?_
      refine lv_iload_n hx hb dF_isOver_14 rfl (lv_at hl 1 rfl) ?_
      have b_3 : vp_in i 8 := tin (by decide) c_1 c_2
      refine va_lald hx hb hK hP 1 0 rfl rfl b_3 dF_isOver_15 ?_
      refine lv_aload_n hx hb dF_isOver_16 rfl (lv_at hl 2 rfl) ?_
      refine lv_iload_n hx hb dF_isOver_17 rfl (lv_at hl 3 rfl) ?_
      refine tr_go (st1 := [.long (fA_greatestX kind rises total going width cf ct k), .long (x0 i.toNatClampNeg)]) (va_runV (As := [.int k]) (rest := [.long (x0 i.toNatClampNeg)]) (C := RA) ⟨hx, hb, hml, hown, hts⟩ (c_A_greatestX l dC dI h0 kind rises total going width cf ct k) ⟨cB 1 hts gw_416 gw_5 gw_508 ndA_greatestX rfl rfl ⟨Nat.le_of_ble_eq_true rfl, Nat.le_of_ble_eq_true rfl⟩, hts _ gw_414, hts _ gw_415⟩ (tp_Rv hN hK hP [6] [] rfl rfl (q0 := 6) (ci := 4) rfl rfl) rfl rfl hl.1 rfl (lv_room (Nat.le_of_ble_eq_true rfl)) dF_isOver_18 ⟨Nat.le_of_ble_eq_true rfl, Nat.le_of_ble_eq_true rfl⟩) rfl ?_
      refine tl_ge (tgt := 74) hx hb dF_isOver_21 dF_isOver_22 (by decide) (fun c_4 => ?_) (fun c_4 => ?_)
      · skip
        refine lv_iconst (v := 0) hx hb dF_isOver_74 (by decide) ?_
        exact W.zret (v := 0) hx hb hr (rfl) (fun t ht hW => ⟨by rw [show fF_over x0 y0 x1 y1 hh fcnt kind rises total going width cf ct i k = false from by unfold fF_over; rw [if_neg c_1, if_neg c_2, if_pos c_4]]; rfl, ht⟩) (fun q h => by cases h) dF_isOver_75
      · skip
        refine lv_aload_n hx hb dF_isOver_25 rfl (lv_at hl 2 rfl) ?_
        refine lv_iload_n hx hb dF_isOver_26 rfl (lv_at hl 3 rfl) ?_
        refine tr_go (st1 := [.long (fA_leastX kind rises total going width cf ct k)]) (va_runV (As := [.int k]) (rest := []) (C := RA) ⟨hx, hb, hml, hown, hts⟩ (c_A_leastX l dC dI h0 kind rises total going width cf ct k) ⟨cB 1 hts gw_401 gw_5 gw_509 ndA_leastX rfl rfl ⟨Nat.le_of_ble_eq_true rfl, Nat.le_of_ble_eq_true rfl⟩, hts _ gw_399, hts _ gw_400⟩ (tp_Rv hN hK hP [6] [] rfl rfl (q0 := 6) (ci := 4) rfl rfl) rfl rfl hl.1 rfl (lv_room (Nat.le_of_ble_eq_true rfl)) dF_isOver_27 ⟨Nat.le_of_ble_eq_true rfl, Nat.le_of_ble_eq_true rfl⟩) rfl ?_
        refine lv_aload_n hx hb dF_isOver_30 rfl (lv_at hl 0 rfl) ?_
        refine va_get (D := (dC, dI)) (ci := 3) (v := .ref b3) (C := RF) (T := TF) (N := 6) hx hb hts inF hown hK hP 0 rfl rfl 2 (by decide) (hts _ gw_59) (fun _ h9 => h9) rfl dF_isOver_31 ?_
        refine lv_iload_n hx hb dF_isOver_34 rfl (lv_at hl 1 rfl) ?_
        have b_5 : vp_in i 8 := tin (by decide) c_1 c_2
        refine va_lald hx hb hK hP 3 2 rfl rfl b_5 dF_isOver_35 ?_
        refine tl_ge (tgt := 74) hx hb dF_isOver_36 dF_isOver_37 (by decide) (fun c_6 => ?_) (fun c_6 => ?_)
        · skip
          refine lv_iconst (v := 0) hx hb dF_isOver_74 (by decide) ?_
          exact W.zret (v := 0) hx hb hr (rfl) (fun t ht hW => ⟨by rw [show fF_over x0 y0 x1 y1 hh fcnt kind rises total going width cf ct i k = false from by unfold fF_over; rw [if_neg c_1, if_neg c_2, if_neg c_4, if_pos c_6]]; rfl, ht⟩) (fun q h => by cases h) dF_isOver_75
        · skip
          refine lv_aload_n hx hb dF_isOver_40 rfl (lv_at hl 0 rfl) ?_
          refine va_get (D := (dC, dI)) (ci := 3) (v := .ref b2) (C := RF) (T := TF) (N := 6) hx hb hts inF hown hK hP 0 rfl rfl 1 (by decide) (hts _ gw_58) (fun _ h9 => h9) rfl dF_isOver_41 ?_
          refine lv_iload_n hx hb dF_isOver_44 rfl (lv_at hl 1 rfl) ?_
          have b_7 : vp_in i 8 := tin (by decide) c_1 c_2
          refine va_lald hx hb hK hP 2 1 rfl rfl b_7 dF_isOver_45 ?_
          refine lv_aload_n hx hb dF_isOver_46 rfl (lv_at hl 2 rfl) ?_
          refine lv_iload_n hx hb dF_isOver_47 rfl (lv_at hl 3 rfl) ?_
          refine tr_go (st1 := [.long (fA_greatestY kind rises total going width cf ct k), .long (y0 i.toNatClampNeg)]) (va_runV (As := [.int k]) (rest := [.long (y0 i.toNatClampNeg)]) (C := RA) ⟨hx, hb, hml, hown, hts⟩ (c_A_greatestY l dC dI h0 kind rises total going width cf ct k) ⟨cB 1 hts gw_420 gw_5 gw_510 ndA_greatestY rfl rfl ⟨Nat.le_of_ble_eq_true rfl, Nat.le_of_ble_eq_true rfl⟩, hts _ gw_418, hts _ gw_419⟩ (tp_Rv hN hK hP [6] [] rfl rfl (q0 := 6) (ci := 4) rfl rfl) rfl rfl hl.1 rfl (lv_room (Nat.le_of_ble_eq_true rfl)) dF_isOver_48 ⟨Nat.le_of_ble_eq_true rfl, Nat.le_of_ble_eq_true rfl⟩) rfl ?_
          refine tl_ge (tgt := 74) hx hb dF_isOver_51 dF_isOver_52 (by decide) (fun c_8 => ?_) (fun c_8 => ?_)
          · skip
            refine lv_iconst (v := 0) hx hb dF_isOver_74 (by decide) ?_
            exact W.zret (v := 0) hx hb hr (rfl) (fun t ht hW => ⟨by rw [show fF_over x0 y0 x1 y1 hh fcnt kind rises total going width cf ct i k = false from by unfold fF_over; rw [if_neg c_1, if_neg c_2, if_neg c_4, if_neg c_6, if_pos c_8]]; rfl, ht⟩) (fun q h => by cases h) dF_isOver_75
          · skip
            refine lv_aload_n hx hb dF_isOver_55 rfl (lv_at hl 2 rfl) ?_
            refine lv_iload_n hx hb dF_isOver_56 rfl (lv_at hl 3 rfl) ?_
            refine tr_go (st1 := [.long (fA_leastY kind rises total going width cf ct k)]) (va_runV (As := [.int k]) (rest := []) (C := RA) ⟨hx, hb, hml, hown, hts⟩ (c_A_leastY l dC dI h0 kind rises total going width cf ct k) ⟨cB 1 hts gw_412 gw_5 gw_511 ndA_leastY rfl rfl ⟨Nat.le_of_ble_eq_true rfl, Nat.le_of_ble_eq_true rfl⟩, hts _ gw_410, hts _ gw_411⟩ (tp_Rv hN hK hP [6] [] rfl rfl (q0 := 6) (ci := 4) rfl rfl) rfl rfl hl.1 rfl (lv_room (Nat.le_of_ble_eq_true rfl)) dF_isOver_57 ⟨Nat.le_of_ble_eq_true rfl, Nat.le_of_ble_eq_true rfl⟩) rfl ?_
            refine lv_aload_n hx hb dF_isOver_60 rfl (lv_at hl 0 rfl) ?_
            refine va_get (D := (dC, dI)) (ci := 3) (v := .ref b4) (C := RF) (T := TF) (N := 6) hx hb hts inF hown hK hP 0 rfl rfl 3 (by decide) (hts _ gw_60) (fun _ h9 => h9) rfl dF_isOver_61 ?_
            refine lv_iload_n hx hb dF_isOver_64 rfl (lv_at hl 1 rfl) ?_
            have b_9 : vp_in i 8 := tin (by decide) c_1 c_2
            refine va_lald hx hb hK hP 4 3 rfl rfl b_9 dF_isOver_65 ?_
            refine tl_ge (tgt := 74) hx hb dF_isOver_66 dF_isOver_67 (by decide) (fun c_10 => ?_) (fun c_10 => ?_)
            · skip
              refine lv_iconst (v := 0) hx hb dF_isOver_74 (by decide) ?_
              exact W.zret (v := 0) hx hb hr (rfl) (fun t ht hW => ⟨by rw [show fF_over x0 y0 x1 y1 hh fcnt kind rises total going width cf ct i k = false from by unfold fF_over; rw [if_neg c_1, if_neg c_2, if_neg c_4, if_neg c_6, if_neg c_8, if_pos c_10]]; rfl, ht⟩) (fun q h => by cases h) dF_isOver_75
            · skip
              refine lv_iconst (v := 1) hx hb dF_isOver_70 (by decide) ?_
              refine lv_goto (tgt := 75) hx hb dF_isOver_71 (by decide) ?_
              exact W.zret (v := 1) hx hb hr (rfl) (fun t ht hW => ⟨by rw [show fF_over x0 y0 x1 y1 hh fcnt kind rises total going width cf ct i k = true from by unfold fF_over; rw [if_neg c_1, if_neg c_2, if_neg c_4, if_neg c_6, if_neg c_8, if_neg c_10]]; rfl, ht⟩) (fun q h => by cases h) dF_isOver_75
