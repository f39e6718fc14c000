def fM_thrown (mcode : Int32) (mtot : Int64) (msz : Int32) (mat : Int32) (mfl : Int32) (mru : Int32) (mpd : Bool) (mk : Int32) (mg : Int64) (mw : Int64) (mn : Int32) (mgp : Bool) (mga : Int64) (mgb : Int64) (mfc : Int32) : Int32 := mcode
set_option maxHeartbeats 4000000 in
set_option maxRecDepth 100000 in
theorem c_M_thrown (l : Launch) (dC : Nat → ClassId) (dI : Nat → Nat → Nat) (m0 : Nat) (aTy : Nat) (aTo : Nat) (aDr : Nat) (aBx : Nat) (mcode : Int32) (mtot : Int64) (msz : Int32) (mat : Int32) (mfl : Int32) (mru : Int32) (mpd : Bool) (mk : Int32) (mg : Int64) (mw : Int64) (mn : Int32) (mgp : Bool) (mga : Int64) (mgb : Int64) (mfc : Int32) : Met l mM_thrown wM_thrown ({ frames := 0, cells := 0, slots := 0, locals := 0 }) (tp_R (dC, dI) vCl [.ref m0] [(m0, .inr (6, [.int mcode, .long mtot, .ref aTy, .int msz, .int mat, .int mfl, .int mru, .ref aTo, .ref aDr, .int (bI mpd), .int mk, .long mg, .long mw, .int mn, .int (bI mgp), .long mga, .long mgb, .int mfc, .ref aBx]))] []) (tq_R (some (.int (fM_thrown mcode mtot msz mat mfl mru mpd mk mg mw mn mgp mga mgb mfc)))) 0 0 (fun _ => False) := by
  refine Met.ofW (cc := bM_thrown) (maxL := 1) (ret := (some .int)) (by decide) rfl ?_
  intro p e s m args below meth c s₁ B hml hv
  obtain ⟨rfl, hP, hK, hN⟩ := hv
  have hx := B.exec
  have hb := B.bytes
  have hr := B.returns
  have hts : ∀ w ∈ gT, w.before _ s = true := fun w h => atoms_spec (ws := wM_thrown) B.pre w (List.mem_cons_of_mem _ h)
  have hown : s.vm.findClass RM = some m.cls := findClass_of_methodNamed B.named
  have hlocks := B.notSynchronized
  have hP : va_P (dC, dI) vCl [(m0, .inr (6, [.int mcode, .long mtot, .ref aTy, .int msz, .int mat, .int mfl, .int mru, .ref aTo, .ref aDr, .int (bI mpd), .int mk, .long mg, .long mw, .int mn, .int (bI mgp), .long mga, .long mgb, .int mfc, .ref aBx]))] s.heap := hP
  have hl := lv_entry ([.ref m0]) (n := 1) (Nat.le_of_ble_eq_true rfl)
  rw [lg_entry_eq]
  generalize (lg_sl ([.ref m0]) ++ List.replicate (1 - (lg_sl ([.ref m0])).length) Slot.unset).toArray = ls at hl ⊢
  have hl : lv_has ls 1 [(0, .ref m0)] := hl
  refine lv_aload_n hx hb dM_thrown_0 rfl (lv_at hl 0 rfl) ?_
  refine va_get (D := (dC, dI)) (ci := 6) (v := .int mcode) (C := RM) (T := TM) (N := 19) hx hb hts inM hown hK hP 0 rfl rfl 0 (by decide) (hts _ gw_574) (fun _ h9 => h9) rfl dM_thrown_1 ?_
  exact W.iret (v := mcode) hx hb hr (fun t ht hW => ⟨by rw [show fM_thrown mcode mtot msz mat mfl mru mpd mk mg mw mn mgp mga mgb mfc = mcode from by unfold fM_thrown; rfl], ht⟩) (fun q h => by cases h) dM_thrown_4

def fM_isIn (v : Int64) (lo : Int64) (hi : Int64) : Bool := if v < lo then false else (if hi < v then false else true)
set_option maxHeartbeats 4000000 in
set_option maxRecDepth 100000 in
theorem c_M_isIn (l : Launch) (dC : Nat → ClassId) (dI : Nat → Nat → Nat) (v : Int64) (lo : Int64) (hi : Int64) : Met l mM_isIn wM_isIn ({ frames := 0, cells := 0, slots := 0, locals := 0 }) (tp_R (dC, dI) vCl [.long v, .long lo, .long hi] [] []) (tq_R (some (.int (bI (fM_isIn v lo hi))))) 0 0 (fun _ => False) := by
  refine Met.ofW (cc := bM_isIn) (maxL := 6) (ret := (some .boolean)) (by decide) rfl ?_
  intro p e s m args below meth c s₁ B hml hv
  obtain ⟨rfl, hP, hK, hN⟩ := hv
  have hx := B.exec
  have hb := B.bytes
  have hr := B.returns
  have hts : ∀ w ∈ gT, w.before _ s = true := fun w h => atoms_spec (ws := wM_isIn) B.pre w (List.mem_cons_of_mem _ h)
  have hown : s.vm.findClass RM = some m.cls := findClass_of_methodNamed B.named
  have hlocks := B.notSynchronized
  have hP : va_P (dC, dI) vCl [] s.heap := hP
  have hl := lv_entry ([.long v, .long lo, .long hi]) (n := 6) (Nat.le_of_ble_eq_true rfl)
  rw [lg_entry_eq]
  generalize (lg_sl ([.long v, .long lo, .long hi]) ++ List.replicate (6 - (lg_sl ([.long v, .long lo, .long hi])).length) Slot.unset).toArray = ls at hl ⊢
  have hl : lv_has ls 6 [(0, .long v), (2, .long lo), (4, .long hi)] := hl
  refine lv_lload_n hx hb dM_isIn_0 rfl (lv_at hl 0 rfl) ?_
  refine lv_lload_n hx hb dM_isIn_1 rfl (lv_at hl 1 rfl) ?_
  refine tl_lt (tgt := 17) hx hb dM_isIn_2 dM_isIn_3 (by decide) (fun c_1 => ?_) (fun c_1 => ?_)
  · skip
    refine lv_iconst (v := 0) hx hb dM_isIn_17 (by decide) ?_
    exact W.zret (v := 0) hx hb hr (rfl) (fun t ht hW => ⟨by rw [show fM_isIn v lo hi = false from by unfold fM_isIn; rw [if_pos c_1]]; rfl, ht⟩) (fun q h => by cases h) dM_isIn_18
  · skip
    refine lv_lload_n hx hb dM_isIn_6 rfl (lv_at hl 0 rfl) ?_
    refine lv_lload hx hb dM_isIn_7 (lv_at hl 2 rfl) ?_
    refine tl_gt (tgt := 17) hx hb dM_isIn_9 dM_isIn_10 (by decide) (fun c_2 => ?_) (fun c_2 => ?_)
    · skip
      refine lv_iconst (v := 0) hx hb dM_isIn_17 (by decide) ?_
      exact W.zret (v := 0) hx hb hr (rfl) (fun t ht hW => ⟨by rw [show fM_isIn v lo hi = false from by unfold fM_isIn; rw [if_neg c_1, if_pos c_2]]; rfl, ht⟩) (fun q h => by cases h) dM_isIn_18
    · skip
      refine lv_iconst (v := 1) hx hb dM_isIn_13 (by decide) ?_
      refine lv_goto (tgt := 18) hx hb dM_isIn_14 (by decide) ?_
      exact W.zret (v := 1) hx hb hr (rfl) (fun t ht hW => ⟨by rw [show fM_isIn v lo hi = true from by unfold fM_isIn; rw [if_neg c_1, if_neg c_2]]; rfl, ht⟩) (fun q h => by cases h) dM_isIn_18

def fM_heights_c0f0 (mcode : Int32) (mtot : Int64) (msz : Int32) (mat : Int32) (mfl : Int32) (mru : Int32) (mpd : Bool) (mk : Int32) (mg : Int64) (mw : Int64) (mn : Int32) (mgp : Bool) (mga : Int64) (mgb : Int64) (mfc : Int32) (v : Int64) : Int32 := if (fM_isIn v 1 100000) = true then (if v = mtot then 0 else 0) else 1
def fM_heights_c0f1 (mcode : Int32) (mtot : Int64) (msz : Int32) (mat : Int32) (mfl : Int32) (mru : Int32) (mpd : Bool) (mk : Int32) (mg : Int64) (mw : Int64) (mn : Int32) (mgp : Bool) (mga : Int64) (mgb : Int64) (mfc : Int32) (v : Int64) : Int64 := if (fM_isIn v 1 100000) = true then (if v = mtot then mtot else v) else mtot
def fM_heights_c0f9 (mcode : Int32) (mtot : Int64) (msz : Int32) (mat : Int32) (mfl : Int32) (mru : Int32) (mpd : Bool) (mk : Int32) (mg : Int64) (mw : Int64) (mn : Int32) (mgp : Bool) (mga : Int64) (mgb : Int64) (mfc : Int32) (v : Int64) : Bool := if (fM_isIn v 1 100000) = true then (if v = mtot then mpd else false) else mpd
def fM_heights (mcode : Int32) (mtot : Int64) (msz : Int32) (mat : Int32) (mfl : Int32) (mru : Int32) (mpd : Bool) (mk : Int32) (mg : Int64) (mw : Int64) (mn : Int32) (mgp : Bool) (mga : Int64) (mgb : Int64) (mfc : Int32) (v : Int64) : Bool := if (fM_isIn v 1 100000) = true then (if v = mtot then false else true) else false
set_option maxHeartbeats 4000000 in
set_option maxRecDepth 100000 in
theorem c_M_heights (l : Launch) (dC : Nat → ClassId) (dI : Nat → Nat → Nat) (m0 : Nat) (aTy : Nat) (aTo : Nat) (aDr : Nat) (aBx : Nat) (mcode : Int32) (mtot : Int64) (msz : Int32) (mat : Int32) (mfl : Int32) (mru : Int32) (mpd : Bool) (mk : Int32) (mg : Int64) (mw : Int64) (mn : Int32) (mgp : Bool) (mga : Int64) (mgb : Int64) (mfc : Int32) (v : Int64) : Met l mM_heights wM_heights ({ frames := 1, cells := 0, slots := 0, locals := 25 }) (tp_W (dC, dI) vCl [.ref m0, .long v] [(m0, .inr (6, [.int mcode, .long mtot, .ref aTy, .int msz, .int mat, .int mfl, .int mru, .ref aTo, .ref aDr, .int (bI mpd), .int mk, .long mg, .long mw, .int mn, .int (bI mgp), .long mga, .long mgb, .int mfc, .ref aBx]))] []) (tq_W (dC, dI) vCl (some (.int (bI (fM_heights mcode mtot msz mat mfl mru mpd mk mg mw mn mgp mga mgb mfc v)))) [(m0, .inr (6, [.int mcode, .long mtot, .ref aTy, .int msz, .int mat, .int mfl, .int mru, .ref aTo, .ref aDr, .int (bI mpd), .int mk, .long mg, .long mw, .int mn, .int (bI mgp), .long mga, .long mgb, .int mfc, .ref aBx]))] [(m0, .inr (6, [.int (fM_heights_c0f0 mcode mtot msz mat mfl mru mpd mk mg mw mn mgp mga mgb mfc v), .long (fM_heights_c0f1 mcode mtot msz mat mfl mru mpd mk mg mw mn mgp mga mgb mfc v), .ref aTy, .int msz, .int mat, .int mfl, .int mru, .ref aTo, .ref aDr, .int (bI (fM_heights_c0f9 mcode mtot msz mat mfl mru mpd mk mg mw mn mgp mga mgb mfc v)), .int mk, .long mg, .long mw, .int mn, .int (bI mgp), .long mga, .long mgb, .int mfc, .ref aBx]))]) 0 0 (tA [(m0, .inr (6, [.int mcode, .long mtot, .ref aTy, .int msz, .int mat, .int mfl, .int mru, .ref aTo, .ref aDr, .int (bI mpd), .int mk, .long mg, .long mw, .int mn, .int (bI mgp), .long mga, .long mgb, .int mfc, .ref aBx]))]) := by
  refine Met.ofW (cc := bM_heights) (maxL := 3) (ret := (some .boolean)) (by decide) rfl ?_
  intro p e s m args below meth c s₁ B hml hv
  obtain ⟨rfl, hP, hK, hN, hD0⟩ := hv
  have hx := B.exec
  have hb := B.bytes
  have hr := B.returns
  have hts : ∀ w ∈ gT, w.before _ s = true := fun w h => atoms_spec (ws := wM_heights) B.pre w (List.mem_cons_of_mem _ h)
  have hown : s.vm.findClass RM = some m.cls := findClass_of_methodNamed B.named
  have hlocks := B.notSynchronized
  have hD := tA_D hD0
  generalize hAe : tA [(m0, .inr (6, [.int mcode, .long mtot, .ref aTy, .int msz, .int mat, .int mfl, .int mru, .ref aTo, .ref aDr, .int (bI mpd), .int mk, .long mg, .long mw, .int mn, .int (bI mgp), .long mga, .long mgb, .int mfc, .ref aBx]))] = A at hD ⊢
  have hS : va_S A s.heap s.heap [] := va_S.rf
  have hP : va_P (dC, dI) vCl [(m0, .inr (6, [.int mcode, .long mtot, .ref aTy, .int msz, .int mat, .int mfl, .int mru, .ref aTo, .ref aDr, .int (bI mpd), .int mk, .long mg, .long mw, .int mn, .int (bI mgp), .long mga, .long mgb, .int mfc, .ref aBx]))] s.heap := hP
  have hl := lv_entry ([.ref m0, .long v]) (n := 3) (Nat.le_of_ble_eq_true rfl)
  rw [lg_entry_eq]
  generalize (lg_sl ([.ref m0, .long v]) ++ List.replicate (3 - (lg_sl ([.ref m0, .long v])).length) Slot.unset).toArray = ls at hl ⊢
  have hl : lv_has ls 3 [(0, .ref m0), (1, .long v)] := hl
  refine lv_aload_n hx hb dM_heights_0 rfl (lv_at hl 0 rfl) ?_
  refine lv_lload_n hx hb dM_heights_1 rfl (lv_at hl 1 rfl) ?_
  refine lv_lconst (v := 1) hx hb dM_heights_2 (by decide) ?_
  refine lv_ldc2 (v := 100000) hx hb hown (hts _ gw_620) dM_heights_3 ?_
  refine tr_go (st1 := [.int (bI (fM_isIn v 1 100000)), .ref m0]) (va_runS (As := [.long v, .long 1, .long 100000]) (rest := [.ref m0]) ⟨hx, hb, hml, hown, hts⟩ (c_M_isIn l dC dI v 1 100000) ⟨cB 3 hts gw_623 gw_7 gw_621 ndM_isIn rfl rfl ⟨Nat.le_of_ble_eq_true rfl, Nat.le_of_ble_eq_true rfl⟩, hts _ gw_622⟩ (tp_Rs hN hK hP [] [] rfl rfl) rfl rfl hl.1 rfl (lv_room (Nat.le_of_ble_eq_true rfl)) dM_heights_6 ⟨Nat.le_of_ble_eq_true rfl, Nat.le_of_ble_eq_true rfl⟩) rfl ?_
  refine tb_ifeq (tgt := 16) hx hb dM_heights_9 (by decide) (fun c_1 => ?_) (fun c_1 => ?_)
  · skip
    refine lv_iconst (v := 1) hx hb dM_heights_16 (by decide) ?_
    refine va_put (D := (dC, dI)) (ci := 6) (v := .int 1) (ty := .int) (C := RM) (T := TM) (N := 19) hx hb hts inM yM yoM noM hown hK hP hD hS 0 rfl rfl 0 (by decide) (hts _ gw_574) (fun _ h9 => h9) rfl (by decide +kernel) rfl rfl (Nat.le_of_ble_eq_true rfl) dM_heights_17 (fun H locs hP hD hS => ?_)
    have hP : va_P (dC, dI) vCl [(m0, .inr (6, [.int 1, .long mtot, .ref aTy, .int msz, .int mat, .int mfl, .int mru, .ref aTo, .ref aDr, .int (bI mpd), .int mk, .long mg, .long mw, .int mn, .int (bI mgp), .long mga, .long mgb, .int mfc, .ref aBx]))] H := hP
    have hD : va_D A [(m0, .inr (6, [.int 1, .long mtot, .ref aTy, .int msz, .int mat, .int mfl, .int mru, .ref aTo, .ref aDr, .int (bI mpd), .int mk, .long mg, .long mw, .int mn, .int (bI mgp), .long mga, .long mgb, .int mfc, .ref aBx]))] := hD
    refine lv_aload_n hx hb dM_heights_20 rfl (lv_at hl 0 rfl) ?_
    refine va_get (D := (dC, dI)) (ci := 6) (v := .int 1) (C := RM) (T := TM) (N := 19) hx hb hts inM hown hK hP 0 rfl rfl 0 (by decide) (hts _ gw_574) (fun _ h9 => h9) rfl dM_heights_21 ?_
    refine lv_if_gt (tgt := 36) hx hb dM_heights_24 (by decide) (fun c_2 => ?_) (fun c_2 => absurd (by decide) c_2)
    refine lv_iconst (v := 0) hx hb dM_heights_36 (by decide) ?_
    exact W.zret (v := 0) hx hb hr (rfl) (fun t ht hW => ⟨by rw [show fM_heights mcode mtot msz mat mfl mru mpd mk mg mw mn mgp mga mgb mfc v = false from by unfold fM_heights; rw [if_neg (Bool.eq_false_iff.mp c_1)]]; rfl, by rw [ht, show fM_heights_c0f0 mcode mtot msz mat mfl mru mpd mk mg mw mn mgp mga mgb mfc v = 1 from by unfold fM_heights_c0f0; rw [if_neg (Bool.eq_false_iff.mp c_1)], show fM_heights_c0f1 mcode mtot msz mat mfl mru mpd mk mg mw mn mgp mga mgb mfc v = mtot from by unfold fM_heights_c0f1; rw [if_neg (Bool.eq_false_iff.mp c_1)], show fM_heights_c0f9 mcode mtot msz mat mfl mru mpd mk mg mw mn mgp mga mgb mfc v = mpd from by unfold fM_heights_c0f9; rw [if_neg (Bool.eq_false_iff.mp c_1)]]; exact hP, by rw [hAe]; exact hS.F ht⟩) hS.2.2 dM_heights_37
  · skip
    refine lv_iconst (v := 0) hx hb dM_heights_12 (by decide) ?_
    refine lv_goto (tgt := 17) hx hb dM_heights_13 (by decide) ?_
    refine va_put (D := (dC, dI)) (ci := 6) (v := .int 0) (ty := .int) (C := RM) (T := TM) (N := 19) hx hb hts inM yM yoM noM hown hK hP hD hS 0 rfl rfl 0 (by decide) (hts _ gw_574) (fun _ h9 => h9) rfl (by decide +kernel) rfl rfl (Nat.le_of_ble_eq_true rfl) dM_heights_17 (fun H locs hP hD hS => ?_)
    have hP : va_P (dC, dI) vCl [(m0, .inr (6, [.int 0, .long mtot, .ref aTy, .int msz, .int mat, .int mfl, .int mru, .ref aTo, .ref aDr, .int (bI mpd), .int mk, .long mg, .long mw, .int mn, .int (bI mgp), .long mga, .long mgb, .int mfc, .ref aBx]))] H := hP
    have hD : va_D A [(m0, .inr (6, [.int 0, .long mtot, .ref aTy, .int msz, .int mat, .int mfl, .int mru, .ref aTo, .ref aDr, .int (bI mpd), .int mk, .long mg, .long mw, .int mn, .int (bI mgp), .long mga, .long mgb, .int mfc, .ref aBx]))] := hD
    refine lv_aload_n hx hb dM_heights_20 rfl (lv_at hl 0 rfl) ?_
    refine va_get (D := (dC, dI)) (ci := 6) (v := .int 0) (C := RM) (T := TM) (N := 19) hx hb hts inM hown hK hP 0 rfl rfl 0 (by decide) (hts _ gw_574) (fun _ h9 => h9) rfl dM_heights_21 ?_
    refine lv_if_gt (tgt := 36) hx hb dM_heights_24 (by decide) (fun c_3 => absurd c_3 (by decide)) (fun c_3 => ?_)
    refine lv_lload_n hx hb dM_heights_27 rfl (lv_at hl 1 rfl) ?_
    refine lv_aload_n hx hb dM_heights_28 rfl (lv_at hl 0 rfl) ?_
    refine va_get (D := (dC, dI)) (ci := 6) (v := .long mtot) (C := RM) (T := TM) (N := 19) hx hb hts inM hown hK hP 0 rfl rfl 1 (by decide) (hts _ gw_575) (fun _ h9 => h9) rfl dM_heights_29 ?_
    refine tl_ne (tgt := 38) hx hb dM_heights_32 dM_heights_33 (by decide) (fun c_4 => ?_) (fun c_4 => ?_)
    · skip
      refine lv_aload_n hx hb dM_heights_38 rfl (lv_at hl 0 rfl) ?_
      refine lv_lload_n hx hb dM_heights_39 rfl (lv_at hl 1 rfl) ?_
      refine va_put (D := (dC, dI)) (ci := 6) (v := .long v) (ty := .long) (C := RM) (T := TM) (N := 19) hx hb hts inM yM yoM noM hown hK hP hD hS 0 rfl rfl 1 (by decide) (hts _ gw_575) (fun _ h9 => h9) rfl (by decide +kernel) rfl rfl (Nat.le_of_ble_eq_true rfl) dM_heights_40 (fun H locs hP hD hS => ?_)
      have hP : va_P (dC, dI) vCl [(m0, .inr (6, [.int 0, .long v, .ref aTy, .int msz, .int mat, .int mfl, .int mru, .ref aTo, .ref aDr, .int (bI mpd), .int mk, .long mg, .long mw, .int mn, .int (bI mgp), .long mga, .long mgb, .int mfc, .ref aBx]))] H := hP
      have hD : va_D A [(m0, .inr (6, [.int 0, .long v, .ref aTy, .int msz, .int mat, .int mfl, .int mru, .ref aTo, .ref aDr, .int (bI mpd), .int mk, .long mg, .long mw, .int mn, .int (bI mgp), .long mga, .long mgb, .int mfc, .ref aBx]))] := hD
      refine lv_aload_n hx hb dM_heights_43 rfl (lv_at hl 0 rfl) ?_
      refine lv_iconst (v := 0) hx hb dM_heights_44 (by decide) ?_
      refine va_put (D := (dC, dI)) (ci := 6) (v := .int 0) (ty := .boolean) (C := RM) (T := TM) (N := 19) hx hb hts inM yM yoM noM hown hK hP hD hS 0 rfl rfl 9 (by decide) (hts _ gw_583) (fun _ h9 => h9) rfl (by decide +kernel) rfl rfl (Nat.le_of_ble_eq_true rfl) dM_heights_45 (fun H locs hP hD hS => ?_)
      have hP : va_P (dC, dI) vCl [(m0, .inr (6, [.int 0, .long v, .ref aTy, .int msz, .int mat, .int mfl, .int mru, .ref aTo, .ref aDr, .int 0, .int mk, .long mg, .long mw, .int mn, .int (bI mgp), .long mga, .long mgb, .int mfc, .ref aBx]))] H := hP
      have hD : va_D A [(m0, .inr (6, [.int 0, .long v, .ref aTy, .int msz, .int mat, .int mfl, .int mru, .ref aTo, .ref aDr, .int 0, .int mk, .long mg, .long mw, .int mn, .int (bI mgp), .long mga, .long mgb, .int mfc, .ref aBx]))] := hD
      refine lv_iconst (v := 1) hx hb dM_heights_48 (by decide) ?_
      exact W.zret (v := 1) hx hb hr (rfl) (fun t ht hW => ⟨by rw [show fM_heights mcode mtot msz mat mfl mru mpd mk mg mw mn mgp mga mgb mfc v = true from by unfold fM_heights; rw [if_pos c_1, if_neg c_4]]; rfl, by rw [ht, show fM_heights_c0f0 mcode mtot msz mat mfl mru mpd mk mg mw mn mgp mga mgb mfc v = 0 from by unfold fM_heights_c0f0; rw [if_pos c_1, if_neg c_4], show fM_heights_c0f1 mcode mtot msz mat mfl mru mpd mk mg mw mn mgp mga mgb mfc v = v from by unfold fM_heights_c0f1; rw [if_pos c_1, if_neg c_4], show fM_heights_c0f9 mcode mtot msz mat mfl mru mpd mk mg mw mn mgp mga mgb mfc v = false from by unfold fM_heights_c0f9; rw [if_pos c_1, if_neg c_4]]; exact hP, by rw [hAe]; exact hS.F ht⟩) hS.2.2 dM_heights_49
    · skip
      refine lv_iconst (v := 0) hx hb dM_heights_36 (by decide) ?_
      exact W.zret (v := 0) hx hb hr (rfl) (fun t ht hW => ⟨by rw [show fM_heights mcode mtot msz mat mfl mru mpd mk mg mw mn mgp mga mgb mfc v = false from by unfold fM_heights; rw [if_pos c_1, if_pos c_4]]; rfl, by rw [ht, show fM_heights_c0f0 mcode mtot msz mat mfl mru mpd mk mg mw mn mgp mga mgb mfc v = 0 from by unfold fM_heights_c0f0; rw [if_pos c_1, if_pos c_4], show fM_heights_c0f1 mcode mtot msz mat mfl mru mpd mk mg mw mn mgp mga mgb mfc v = mtot from by unfold fM_heights_c0f1; rw [if_pos c_1, if_pos c_4], show fM_heights_c0f9 mcode mtot msz mat mfl mru mpd mk mg mw mn mgp mga mgb mfc v = mpd from by unfold fM_heights_c0f9; rw [if_pos c_1, if_pos c_4]]; exact hP, by rw [hAe]; exact hS.F ht⟩) hS.2.2 dM_heights_37

def fM_letterOf (ch : Int32) : Int32 := if ch = 114 then 0 else (if ch = 103 then 1 else (if ch = 110 then 2 else (if ch = 119 then 3 else (if ch = 116 then 4 else (-1)))))
set_option maxHeartbeats 4000000 in
set_option maxRecDepth 100000 in
theorem c_M_letterOf (l : Launch) (dC : Nat → ClassId) (dI : Nat → Nat → Nat) (ch : Int32) : Met l mM_letterOf wM_letterOf ({ frames := 0, cells := 0, slots := 0, locals := 0 }) (tp_R (dC, dI) vCl [.int ch] [] []) (tq_R (some (.int (fM_letterOf ch)))) 0 0 (fun _ => False) := by
  refine Met.ofW (cc := bM_letterOf) (maxL := 1) (ret := (some .int)) (by decide) rfl ?_
  intro p e s m args below meth c s₁ B hml hv
  obtain ⟨rfl, hP, hK, hN⟩ := hv
  have hx := B.exec
  have hb := B.bytes
  have hr := B.returns
  have hts : ∀ w ∈ gT, w.before _ s = true := fun w h => atoms_spec (ws := wM_letterOf) B.pre w (List.mem_cons_of_mem _ h)
  have hown : s.vm.findClass RM = some m.cls := findClass_of_methodNamed B.named
  have hlocks := B.notSynchronized
  have hP : va_P (dC, dI) vCl [] s.heap := hP
  have hl := lv_entry ([.int ch]) (n := 1) (Nat.le_of_ble_eq_true rfl)
  rw [lg_entry_eq]
  generalize (lg_sl ([.int ch]) ++ List.replicate (1 - (lg_sl ([.int ch])).length) Slot.unset).toArray = ls at hl ⊢
  have hl : lv_has ls 1 [(0, .int ch)] := hl
  refine lv_iload_n hx hb dM_letterOf_0 rfl (lv_at hl 0 rfl) ?_
  refine lv_bipush (v := 114) hx hb dM_letterOf_1 (by decide) ?_
  refine lv_icmp_ne (tgt := 10) hx hb dM_letterOf_3 (by decide) (fun c_1 => ?_) (fun c_1 => ?_)
  · skip
    refine lv_iload_n hx hb dM_letterOf_10 rfl (lv_at hl 0 rfl) ?_
    refine lv_bipush (v := 103) hx hb dM_letterOf_11 (by decide) ?_
    refine lv_icmp_ne (tgt := 20) hx hb dM_letterOf_13 (by decide) (fun c_2 => ?_) (fun c_2 => ?_)
    · skip
      refine lv_iload_n hx hb dM_letterOf_20 rfl (lv_at hl 0 rfl) ?_
      refine lv_bipush (v := 110) hx hb dM_letterOf_21 (by decide) ?_
      refine lv_icmp_ne (tgt := 30) hx hb dM_letterOf_23 (by decide) (fun c_3 => ?_) (fun c_3 => ?_)
      · skip
        refine lv_iload_n hx hb dM_letterOf_30 rfl (lv_at hl 0 rfl) ?_
        refine lv_bipush (v := 119) hx hb dM_letterOf_31 (by decide) ?_
        refine lv_icmp_ne (tgt := 40) hx hb dM_letterOf_33 (by decide) (fun c_4 => ?_) (fun c_4 => ?_)
        · skip
          refine lv_iload_n hx hb dM_letterOf_40 rfl (lv_at hl 0 rfl) ?_
          refine lv_bipush (v := 116) hx hb dM_letterOf_41 (by decide) ?_
          refine lv_icmp_ne (tgt := 50) hx hb dM_letterOf_43 (by decide) (fun c_5 => ?_) (fun c_5 => ?_)
          · skip
            refine lv_iconst (v := (-1)) hx hb dM_letterOf_50 (by decide) ?_
            exact W.iret (v := (-1)) hx hb hr (fun t ht hW => ⟨by rw [show fM_letterOf ch = (-1) from by unfold fM_letterOf; rw [if_neg c_1, if_neg c_2, if_neg c_3, if_neg c_4, if_neg c_5]], ht⟩) (fun q h => by cases h) dM_letterOf_51
          · skip
            refine lv_iconst (v := 4) hx hb dM_letterOf_46 (by decide) ?_
            refine lv_goto (tgt := 51) hx hb dM_letterOf_47 (by decide) ?_
            exact W.iret (v := 4) hx hb hr (fun t ht hW => ⟨by rw [show fM_letterOf ch = 4 from by unfold fM_letterOf; rw [if_neg c_1, if_neg c_2, if_neg c_3, if_neg c_4, if_pos c_5]], ht⟩) (fun q h => by cases h) dM_letterOf_51
        · skip
          refine lv_iconst (v := 3) hx hb dM_letterOf_36 (by decide) ?_
          refine lv_goto (tgt := 51) hx hb dM_letterOf_37 (by decide) ?_
          exact W.iret (v := 3) hx hb hr (fun t ht hW => ⟨by rw [show fM_letterOf ch = 3 from by unfold fM_letterOf; rw [if_neg c_1, if_neg c_2, if_neg c_3, if_pos c_4]], ht⟩) (fun q h => by cases h) dM_letterOf_51
      · skip
        refine lv_iconst (v := 2) hx hb dM_letterOf_26 (by decide) ?_
        refine lv_goto (tgt := 51) hx hb dM_letterOf_27 (by decide) ?_
        exact W.iret (v := 2) hx hb hr (fun t ht hW => ⟨by rw [show fM_letterOf ch = 2 from by unfold fM_letterOf; rw [if_neg c_1, if_neg c_2, if_pos c_3]], ht⟩) (fun q h => by cases h) dM_letterOf_51
    · skip
      refine lv_iconst (v := 1) hx hb dM_letterOf_16 (by decide) ?_
      refine lv_goto (tgt := 51) hx hb dM_letterOf_17 (by decide) ?_
      exact W.iret (v := 1) hx hb hr (fun t ht hW => ⟨by rw [show fM_letterOf ch = 1 from by unfold fM_letterOf; rw [if_neg c_1, if_pos c_2]], ht⟩) (fun q h => by cases h) dM_letterOf_51
  · skip
    refine lv_iconst (v := 0) hx hb dM_letterOf_6 (by decide) ?_
    refine lv_goto (tgt := 51) hx hb dM_letterOf_7 (by decide) ?_
    exact W.iret (v := 0) hx hb hr (fun t ht hW => ⟨by rw [show fM_letterOf ch = 0 from by unfold fM_letterOf; rw [if_pos c_1]], ht⟩) (fun q h => by cases h) dM_letterOf_51

def fM_none_c0f0 (mcode : Int32) (mtot : Int64) (msz : Int32) (mat : Int32) (mfl : Int32) (mru : Int32) (mpd : Bool) (mk : Int32) (mg : Int64) (mw : Int64) (mn : Int32) (mgp : Bool) (mga : Int64) (mgb : Int64) (mfc : Int32) : Int32 := if mpd = true then 0 else 1
def fM_none (mcode : Int32) (mtot : Int64) (msz : Int32) (mat : Int32) (mfl : Int32) (mru : Int32) (mpd : Bool) (mk : Int32) (mg : Int64) (mw : Int64) (mn : Int32) (mgp : Bool) (mga : Int64) (mgb : Int64) (mfc : Int32) : Bool := if mpd = true then false else true
set_option maxHeartbeats 4000000 in
set_option maxRecDepth 100000 in
theorem c_M_none (l : Launch) (dC : Nat → ClassId) (dI : Nat → Nat → Nat) (m0 : Nat) (aTy : Nat) (aTo : Nat) (aDr : Nat) (aBx : Nat) (mcode : Int32) (mtot : Int64) (msz : Int32) (mat : Int32) (mfl : Int32) (mru : Int32) (mpd : Bool) (mk : Int32) (mg : Int64) (mw : Int64) (mn : Int32) (mgp : Bool) (mga : Int64) (mgb : Int64) (mfc : Int32) : Met l mM_none wM_none ({ frames := 0, cells := 0, slots := 0, locals := 0 }) (tp_W (dC, dI) vCl [.ref m0] [(m0, .inr (6, [.int mcode, .long mtot, .ref aTy, .int msz, .int mat, .int mfl, .int mru, .ref aTo, .ref aDr, .int (bI mpd), .int mk, .long mg, .long mw, .int mn, .int (bI mgp), .long mga, .long mgb, .int mfc, .ref aBx]))] []) (tq_W (dC, dI) vCl (some (.int (bI (fM_none mcode mtot msz mat mfl mru mpd mk mg mw mn mgp mga mgb mfc)))) [(m0, .inr (6, [.int mcode, .long mtot, .ref aTy, .int msz, .int mat, .int mfl, .int mru, .ref aTo, .ref aDr, .int (bI mpd), .int mk, .long mg, .long mw, .int mn, .int (bI mgp), .long mga, .long mgb, .int mfc, .ref aBx]))] [(m0, .inr (6, [.int (fM_none_c0f0 mcode mtot msz mat mfl mru mpd mk mg mw mn mgp mga mgb mfc), .long mtot, .ref aTy, .int msz, .int mat, .int mfl, .int mru, .ref aTo, .ref aDr, .int (bI mpd), .int mk, .long mg, .long mw, .int mn, .int (bI mgp), .long mga, .long mgb, .int mfc, .ref aBx]))]) 0 0 (tA [(m0, .inr (6, [.int mcode, .long mtot, .ref aTy, .int msz, .int mat, .int mfl, .int mru, .ref aTo, .ref aDr, .int (bI mpd), .int mk, .long mg, .long mw, .int mn, .int (bI mgp), .long mga, .long mgb, .int mfc, .ref aBx]))]) := by
  refine Met.ofW (cc := bM_none) (maxL := 1) (ret := (some .boolean)) (by decide) rfl ?_
  intro p e s m args below meth c s₁ B hml hv
  obtain ⟨rfl, hP, hK, hN, hD0⟩ := hv
  have hx := B.exec
  have hb := B.bytes
  have hr := B.returns
  have hts : ∀ w ∈ gT, w.before _ s = true := fun w h => atoms_spec (ws := wM_none) B.pre w (List.mem_cons_of_mem _ h)
  have hown : s.vm.findClass RM = some m.cls := findClass_of_methodNamed B.named
  have hlocks := B.notSynchronized
  have hD := tA_D hD0
  generalize hAe : tA [(m0, .inr (6, [.int mcode, .long mtot, .ref aTy, .int msz, .int mat, .int mfl, .int mru, .ref aTo, .ref aDr, .int (bI mpd), .int mk, .long mg, .long mw, .int mn, .int (bI mgp), .long mga, .long mgb, .int mfc, .ref aBx]))] = A at hD ⊢
  have hS : va_S A s.heap s.heap [] := va_S.rf
  have hP : va_P (dC, dI) vCl [(m0, .inr (6, [.int mcode, .long mtot, .ref aTy, .int msz, .int mat, .int mfl, .int mru, .ref aTo, .ref aDr, .int (bI mpd), .int mk, .long mg, .long mw, .int mn, .int (bI mgp), .long mga, .long mgb, .int mfc, .ref aBx]))] s.heap := hP
  have hl := lv_entry ([.ref m0]) (n := 1) (Nat.le_of_ble_eq_true rfl)
  rw [lg_entry_eq]
  generalize (lg_sl ([.ref m0]) ++ List.replicate (1 - (lg_sl ([.ref m0])).length) Slot.unset).toArray = ls at hl ⊢
  have hl : lv_has ls 1 [(0, .ref m0)] := hl
  refine lv_aload_n hx hb dM_none_0 rfl (lv_at hl 0 rfl) ?_
  refine lv_aload_n hx hb dM_none_1 rfl (lv_at hl 0 rfl) ?_
  refine va_get (D := (dC, dI)) (ci := 6) (v := .int (bI mpd)) (C := RM) (T := TM) (N := 19) hx hb hts inM hown hK hP 0 rfl rfl 9 (by decide) (hts _ gw_583) (fun _ h9 => h9) rfl dM_none_2 ?_
  refine tb_ifeq (tgt := 12) hx hb dM_none_5 (by decide) (fun c_1 => ?_) (fun c_1 => ?_)
  · skip
    refine lv_iconst (v := 1) hx hb dM_none_12 (by decide) ?_
    refine va_put (D := (dC, dI)) (ci := 6) (v := .int 1) (ty := .int) (C := RM) (T := TM) (N := 19) hx hb hts inM yM yoM noM hown hK hP hD hS 0 rfl rfl 0 (by decide) (hts _ gw_574) (fun _ h9 => h9) rfl (by decide +kernel) rfl rfl (Nat.le_of_ble_eq_true rfl) dM_none_13 (fun H locs hP hD hS => ?_)
    have hP : va_P (dC, dI) vCl [(m0, .inr (6, [.int 1, .long mtot, .ref aTy, .int msz, .int mat, .int mfl, .int mru, .ref aTo, .ref aDr, .int (bI mpd), .int mk, .long mg, .long mw, .int mn, .int (bI mgp), .long mga, .long mgb, .int mfc, .ref aBx]))] H := hP
    have hD : va_D A [(m0, .inr (6, [.int 1, .long mtot, .ref aTy, .int msz, .int mat, .int mfl, .int mru, .ref aTo, .ref aDr, .int (bI mpd), .int mk, .long mg, .long mw, .int mn, .int (bI mgp), .long mga, .long mgb, .int mfc, .ref aBx]))] := hD
    refine lv_aload_n hx hb dM_none_16 rfl (lv_at hl 0 rfl) ?_
    refine va_get (D := (dC, dI)) (ci := 6) (v := .int 1) (C := RM) (T := TM) (N := 19) hx hb hts inM hown hK hP 0 rfl rfl 0 (by decide) (hts _ gw_574) (fun _ h9 => h9) rfl dM_none_17 ?_
    refine lv_if_le (tgt := 27) hx hb dM_none_20 (by decide) (fun c_2 => absurd c_2 (by decide)) (fun c_2 => ?_)
    refine lv_iconst (v := 1) hx hb dM_none_23 (by decide) ?_
    refine lv_goto (tgt := 28) hx hb dM_none_24 (by decide) ?_
    exact W.zret (v := 1) hx hb hr (rfl) (fun t ht hW => ⟨by rw [show fM_none mcode mtot msz mat mfl mru mpd mk mg mw mn mgp mga mgb mfc = true from by unfold fM_none; rw [if_neg (Bool.eq_false_iff.mp c_1)]]; rfl, by rw [ht, show fM_none_c0f0 mcode mtot msz mat mfl mru mpd mk mg mw mn mgp mga mgb mfc = 1 from by unfold fM_none_c0f0; rw [if_neg (Bool.eq_false_iff.mp c_1)]]; exact hP, by rw [hAe]; exact hS.F ht⟩) hS.2.2 dM_none_28
  · skip
    refine lv_iconst (v := 0) hx hb dM_none_8 (by decide) ?_
    refine lv_goto (tgt := 13) hx hb dM_none_9 (by decide) ?_
    refine va_put (D := (dC, dI)) (ci := 6) (v := .int 0) (ty := .int) (C := RM) (T := TM) (N := 19) hx hb hts inM yM yoM noM hown hK hP hD hS 0 rfl rfl 0 (by decide) (hts _ gw_574) (fun _ h9 => h9) rfl (by decide +kernel) rfl rfl (Nat.le_of_ble_eq_true rfl) dM_none_13 (fun H locs hP hD hS => ?_)
    have hP : va_P (dC, dI) vCl [(m0, .inr (6, [.int 0, .long mtot, .ref aTy, .int msz, .int mat, .int mfl, .int mru, .ref aTo, .ref aDr, .int (bI mpd), .int mk, .long mg, .long mw, .int mn, .int (bI mgp), .long mga, .long mgb, .int mfc, .ref aBx]))] H := hP
    have hD : va_D A [(m0, .inr (6, [.int 0, .long mtot, .ref aTy, .int msz, .int mat, .int mfl, .int mru, .ref aTo, .ref aDr, .int (bI mpd), .int mk, .long mg, .long mw, .int mn, .int (bI mgp), .long mga, .long mgb, .int mfc, .ref aBx]))] := hD
    refine lv_aload_n hx hb dM_none_16 rfl (lv_at hl 0 rfl) ?_
    refine va_get (D := (dC, dI)) (ci := 6) (v := .int 0) (C := RM) (T := TM) (N := 19) hx hb hts inM hown hK hP 0 rfl rfl 0 (by decide) (hts _ gw_574) (fun _ h9 => h9) rfl dM_none_17 ?_
    refine lv_if_le (tgt := 27) hx hb dM_none_20 (by decide) (fun c_3 => ?_) (fun c_3 => absurd (by decide) c_3)
    refine lv_iconst (v := 0) hx hb dM_none_27 (by decide) ?_
    exact W.zret (v := 0) hx hb hr (rfl) (fun t ht hW => ⟨by rw [show fM_none mcode mtot msz mat mfl mru mpd mk mg mw mn mgp mga mgb mfc = false from by unfold fM_none; rw [if_pos c_1]]; rfl, by rw [ht, show fM_none_c0f0 mcode mtot msz mat mfl mru mpd mk mg mw mn mgp mga mgb mfc = 0 from by unfold fM_none_c0f0; rw [if_pos c_1]]; exact hP, by rw [hAe]; exact hS.F ht⟩) hS.2.2 dM_none_28

def fM_before (mcode : Int32) (mtot : Int64) (msz : Int32) (mat : Int32) (mfl : Int32) (mru : Int32) (mpd : Bool) (mk : Int32) (mg : Int64) (mw : Int64) (mn : Int32) (mgp : Bool) (mga : Int64) (mgb : Int64) (mfc : Int32) : Int32 := if mk = 0 then mn else (if mk = 1 then ((mn - 2) / 2) else ((mn - 4) / 2))
set_option maxHeartbeats 4000000 in
set_option maxRecDepth 100000 in
theorem c_M_before (l : Launch) (dC : Nat → ClassId) (dI : Nat → Nat → Nat) (m0 : Nat) (aTy : Nat) (aTo : Nat) (aDr : Nat) (aBx : Nat) (mcode : Int32) (mtot : Int64) (msz : Int32) (mat : Int32) (mfl : Int32) (mru : Int32) (mpd : Bool) (mk : Int32) (mg : Int64) (mw : Int64) (mn : Int32) (mgp : Bool) (mga : Int64) (mgb : Int64) (mfc : Int32) : Met l mM_before wM_before ({ frames := 0, cells := 0, slots := 0, locals := 0 }) (tp_R (dC, dI) vCl [.ref m0] [(m0, .inr (6, [.int mcode, .long mtot, .ref aTy, .int msz, .int mat, .int mfl, .int mru, .ref aTo, .ref aDr, .int (bI mpd), .int mk, .long mg, .long mw, .int mn, .int (bI mgp), .long mga, .long mgb, .int mfc, .ref aBx]))] []) (tq_R (some (.int (fM_before mcode mtot msz mat mfl mru mpd mk mg mw mn mgp mga mgb mfc)))) 0 0 (fun _ => False) := by
  refine Met.ofW (cc := bM_before) (maxL := 1) (ret := (some .int)) (by decide) rfl ?_
  intro p e s m args below meth c s₁ B hml hv
  obtain ⟨rfl, hP, hK, hN⟩ := hv
  have hx := B.exec
  have hb := B.bytes
  have hr := B.returns
  have hts : ∀ w ∈ gT, w.before _ s = true := fun w h => atoms_spec (ws := wM_before) B.pre w (List.mem_cons_of_mem _ h)
  have hown : s.vm.findClass RM = some m.cls := findClass_of_methodNamed B.named
  have hlocks := B.notSynchronized
  have hP : va_P (dC, dI) vCl [(m0, .inr (6, [.int mcode, .long mtot, .ref aTy, .int msz, .int mat, .int mfl, .int mru, .ref aTo, .ref aDr, .int (bI mpd), .int mk, .long mg, .long mw, .int mn, .int (bI mgp), .long mga, .long mgb, .int mfc, .ref aBx]))] s.heap := hP
  have hl := lv_entry ([.ref m0]) (n := 1) (Nat.le_of_ble_eq_true rfl)
  rw [lg_entry_eq]
  generalize (lg_sl ([.ref m0]) ++ List.replicate (1 - (lg_sl ([.ref m0])).length) Slot.unset).toArray = ls at hl ⊢
  have hl : lv_has ls 1 [(0, .ref m0)] := hl
  refine lv_aload_n hx hb dM_before_0 rfl (lv_at hl 0 rfl) ?_
  refine va_get (D := (dC, dI)) (ci := 6) (v := .int mk) (C := RM) (T := TM) (N := 19) hx hb hts inM hown hK hP 0 rfl rfl 10 (by decide) (hts _ gw_584) (fun _ h9 => h9) rfl dM_before_1 ?_
  refine lv_if_ne (tgt := 14) hx hb dM_before_4 (by decide) (fun c_1 => ?_) (fun c_1 => ?_)
  · skip
    refine lv_aload_n hx hb dM_before_14 rfl (lv_at hl 0 rfl) ?_
    refine va_get (D := (dC, dI)) (ci := 6) (v := .int mk) (C := RM) (T := TM) (N := 19) hx hb hts inM hown hK hP 0 rfl rfl 10 (by decide) (hts _ gw_584) (fun _ h9 => h9) rfl dM_before_15 ?_
    refine lv_iconst (v := 1) hx hb dM_before_18 (by decide) ?_
    refine lv_icmp_ne (tgt := 33) hx hb dM_before_19 (by decide) (fun c_2 => ?_) (fun c_2 => ?_)
    · skip
      refine lv_aload_n hx hb dM_before_33 rfl (lv_at hl 0 rfl) ?_
      refine va_get (D := (dC, dI)) (ci := 6) (v := .int mn) (C := RM) (T := TM) (N := 19) hx hb hts inM hown hK hP 0 rfl rfl 13 (by decide) (hts _ gw_587) (fun _ h9 => h9) rfl dM_before_34 ?_
      refine lv_iconst (v := 4) hx hb dM_before_37 (by decide) ?_
      refine lv_isub hx hb dM_before_38 ?_
      refine lv_iconst (v := 2) hx hb dM_before_39 (by decide) ?_
      refine lv_idiv hx hb dM_before_40 (by decide) ?_
      exact W.iret (v := (mn - 4) / 2) hx hb hr (fun t ht hW => ⟨by rw [show fM_before mcode mtot msz mat mfl mru mpd mk mg mw mn mgp mga mgb mfc = (mn - 4) / 2 from by unfold fM_before; rw [if_neg c_1, if_neg c_2]], ht⟩) (fun q h => by cases h) dM_before_41
    · skip
      refine lv_aload_n hx hb dM_before_22 rfl (lv_at hl 0 rfl) ?_
      refine va_get (D := (dC, dI)) (ci := 6) (v := .int mn) (C := RM) (T := TM) (N := 19) hx hb hts inM hown hK hP 0 rfl rfl 13 (by decide) (hts _ gw_587) (fun _ h9 => h9) rfl dM_before_23 ?_
      refine lv_iconst (v := 2) hx hb dM_before_26 (by decide) ?_
      refine lv_isub hx hb dM_before_27 ?_
      refine lv_iconst (v := 2) hx hb dM_before_28 (by decide) ?_
      refine lv_idiv hx hb dM_before_29 (by decide) ?_
      refine lv_goto (tgt := 41) hx hb dM_before_30 (by decide) ?_
      exact W.iret (v := (mn - 2) / 2) hx hb hr (fun t ht hW => ⟨by rw [show fM_before mcode mtot msz mat mfl mru mpd mk mg mw mn mgp mga mgb mfc = (mn - 2) / 2 from by unfold fM_before; rw [if_neg c_1, if_pos c_2]], ht⟩) (fun q h => by cases h) dM_before_41
  · skip
    refine lv_aload_n hx hb dM_before_7 rfl (lv_at hl 0 rfl) ?_
    refine va_get (D := (dC, dI)) (ci := 6) (v := .int mn) (C := RM) (T := TM) (N := 19) hx hb hts inM hown hK hP 0 rfl rfl 13 (by decide) (hts _ gw_587) (fun _ h9 => h9) rfl dM_before_8 ?_
    refine lv_goto (tgt := 41) hx hb dM_before_11 (by decide) ?_
    exact W.iret (v := mn) hx hb hr (fun t ht hW => ⟨by rw [show fM_before mcode mtot msz mat mfl mru mpd mk mg mw mn mgp mga mgb mfc = mn from by unfold fM_before; rw [if_pos c_1]], ht⟩) (fun q h => by cases h) dM_before_41

def fM_inSquare (mcode : Int32) (mtot : Int64) (msz : Int32) (mat : Int32) (mfl : Int32) (mru : Int32) (mpd : Bool) (mk : Int32) (mg : Int64) (mw : Int64) (mn : Int32) (mgp : Bool) (mga : Int64) (mgb : Int64) (mfc : Int32) : Int32 := if mk = 0 then 0 else (if mk = 1 then 1 else 3)
set_option maxHeartbeats 4000000 in
set_option maxRecDepth 100000 in
theorem c_M_inSquare (l : Launch) (dC : Nat → ClassId) (dI : Nat → Nat → Nat) (m0 : Nat) (aTy : Nat) (aTo : Nat) (aDr : Nat) (aBx : Nat) (mcode : Int32) (mtot : Int64) (msz : Int32) (mat : Int32) (mfl : Int32) (mru : Int32) (mpd : Bool) (mk : Int32) (mg : Int64) (mw : Int64) (mn : Int32) (mgp : Bool) (mga : Int64) (mgb : Int64) (mfc : Int32) : Met l mM_inSquare wM_inSquare ({ frames := 0, cells := 0, slots := 0, locals := 0 }) (tp_R (dC, dI) vCl [.ref m0] [(m0, .inr (6, [.int mcode, .long mtot, .ref aTy, .int msz, .int mat, .int mfl, .int mru, .ref aTo, .ref aDr, .int (bI mpd), .int mk, .long mg, .long mw, .int mn, .int (bI mgp), .long mga, .long mgb, .int mfc, .ref aBx]))] []) (tq_R (some (.int (fM_inSquare mcode mtot msz mat mfl mru mpd mk mg mw mn mgp mga mgb mfc)))) 0 0 (fun _ => False) := by
  refine Met.ofW (cc := bM_inSquare) (maxL := 1) (ret := (some .int)) (by decide) rfl ?_
  intro p e s m args below meth c s₁ B hml hv
  obtain ⟨rfl, hP, hK, hN⟩ := hv
  have hx := B.exec
  have hb := B.bytes
  have hr := B.returns
  have hts : ∀ w ∈ gT, w.before _ s = true := fun w h => atoms_spec (ws := wM_inSquare) B.pre w (List.mem_cons_of_mem _ h)
  have hown : s.vm.findClass RM = some m.cls := findClass_of_methodNamed B.named
  have hlocks := B.notSynchronized
  have hP : va_P (dC, dI) vCl [(m0, .inr (6, [.int mcode, .long mtot, .ref aTy, .int msz, .int mat, .int mfl, .int mru, .ref aTo, .ref aDr, .int (bI mpd), .int mk, .long mg, .long mw, .int mn, .int (bI mgp), .long mga, .long mgb, .int mfc, .ref aBx]))] s.heap := hP
  have hl := lv_entry ([.ref m0]) (n := 1) (Nat.le_of_ble_eq_true rfl)
  rw [lg_entry_eq]
  generalize (lg_sl ([.ref m0]) ++ List.replicate (1 - (lg_sl ([.ref m0])).length) Slot.unset).toArray = ls at hl ⊢
  have hl : lv_has ls 1 [(0, .ref m0)] := hl
  refine lv_aload_n hx hb dM_inSquare_0 rfl (lv_at hl 0 rfl) ?_
  refine va_get (D := (dC, dI)) (ci := 6) (v := .int mk) (C := RM) (T := TM) (N := 19) hx hb hts inM hown hK hP 0 rfl rfl 10 (by decide) (hts _ gw_584) (fun _ h9 => h9) rfl dM_inSquare_1 ?_
  refine lv_if_ne (tgt := 11) hx hb dM_inSquare_4 (by decide) (fun c_1 => ?_) (fun c_1 => ?_)
  · skip
    refine lv_aload_n hx hb dM_inSquare_11 rfl (lv_at hl 0 rfl) ?_
    refine va_get (D := (dC, dI)) (ci := 6) (v := .int mk) (C := RM) (T := TM) (N := 19) hx hb hts inM hown hK hP 0 rfl rfl 10 (by decide) (hts _ gw_584) (fun _ h9 => h9) rfl dM_inSquare_12 ?_
    refine lv_iconst (v := 1) hx hb dM_inSquare_15 (by decide) ?_
    refine lv_icmp_ne (tgt := 23) hx hb dM_inSquare_16 (by decide) (fun c_2 => ?_) (fun c_2 => ?_)
    · skip
      refine lv_iconst (v := 3) hx hb dM_inSquare_23 (by decide) ?_
      exact W.iret (v := 3) hx hb hr (fun t ht hW => ⟨by rw [show fM_inSquare mcode mtot msz mat mfl mru mpd mk mg mw mn mgp mga mgb mfc = 3 from by unfold fM_inSquare; rw [if_neg c_1, if_neg c_2]], ht⟩) (fun q h => by cases h) dM_inSquare_24
    · skip
      refine lv_iconst (v := 1) hx hb dM_inSquare_19 (by decide) ?_
      refine lv_goto (tgt := 24) hx hb dM_inSquare_20 (by decide) ?_
      exact W.iret (v := 1) hx hb hr (fun t ht hW => ⟨by rw [show fM_inSquare mcode mtot msz mat mfl mru mpd mk mg mw mn mgp mga mgb mfc = 1 from by unfold fM_inSquare; rw [if_neg c_1, if_pos c_2]], ht⟩) (fun q h => by cases h) dM_inSquare_24
  · skip
    refine lv_iconst (v := 0) hx hb dM_inSquare_7 (by decide) ?_
    refine lv_goto (tgt := 24) hx hb dM_inSquare_8 (by decide) ?_
    exact W.iret (v := 0) hx hb hr (fun t ht hW => ⟨by rw [show fM_inSquare mcode mtot msz mat mfl mru mpd mk mg mw mn mgp mga mgb mfc = 0 from by unfold fM_inSquare; rw [if_pos c_1]], ht⟩) (fun q h => by cases h) dM_inSquare_24

def fM_sort (mcode : Int32) (mtot : Int64) (msz : Int32) (mat : Int32) (mfl : Int32) (mru : Int32) (mpd : Bool) (mk : Int32) (mg : Int64) (mw : Int64) (mn : Int32) (mgp : Bool) (mga : Int64) (mgb : Int64) (mfc : Int32) (k : Int32) : Int32 := if (fM_before mcode mtot msz mat mfl mru mpd mk mg mw mn mgp mga mgb mfc) ≤ k then (if ((fM_before mcode mtot msz mat mfl mru mpd mk mg mw mn mgp mga mgb mfc) + (fM_inSquare mcode mtot msz mat mfl mru mpd mk mg mw mn mgp mga mgb mfc)) ≤ k then 1 else (mk + 1)) else 0
set_option maxHeartbeats 4000000 in
set_option maxRecDepth 100000 in
theorem c_M_sort (l : Launch) (dC : Nat → ClassId) (dI : Nat → Nat → Nat) (m0 : Nat) (aTy : Nat) (aTo : Nat) (aDr : Nat) (aBx : Nat) (mcode : Int32) (mtot : Int64) (msz : Int32) (mat : Int32) (mfl : Int32) (mru : Int32) (mpd : Bool) (mk : Int32) (mg : Int64) (mw : Int64) (mn : Int32) (mgp : Bool) (mga : Int64) (mgb : Int64) (mfc : Int32) (k : Int32) : Met l mM_sort wM_sort ({ frames := 1, cells := 0, slots := 0, locals := 20 }) (tp_R (dC, dI) vCl [.ref m0, .int k] [(m0, .inr (6, [.int mcode, .long mtot, .ref aTy, .int msz, .int mat, .int mfl, .int mru, .ref aTo, .ref aDr, .int (bI mpd), .int mk, .long mg, .long mw, .int mn, .int (bI mgp), .long mga, .long mgb, .int mfc, .ref aBx]))] []) (tq_R (some (.int (fM_sort mcode mtot msz mat mfl mru mpd mk mg mw mn mgp mga mgb mfc k)))) 0 0 (fun _ => False) := by
  refine Met.ofW (cc := bM_sort) (maxL := 3) (ret := (some .int)) (by decide) rfl ?_
  intro p e s m args below meth c s₁ B hml hv
  obtain ⟨rfl, hP, hK, hN⟩ := hv
  have hx := B.exec
  have hb := B.bytes
  have hr := B.returns
  have hts : ∀ w ∈ gT, w.before _ s = true := fun w h => atoms_spec (ws := wM_sort) B.pre w (List.mem_cons_of_mem _ h)
  have hown : s.vm.findClass RM = some m.cls := findClass_of_methodNamed B.named
  have hlocks := B.notSynchronized
  have hP : va_P (dC, dI) vCl [(m0, .inr (6, [.int mcode, .long mtot, .ref aTy, .int msz, .int mat, .int mfl, .int mru, .ref aTo, .ref aDr, .int (bI mpd), .int mk, .long mg, .long mw, .int mn, .int (bI mgp), .long mga, .long mgb, .int mfc, .ref aBx]))] s.heap := hP
  have hl := lv_entry ([.ref m0, .int k]) (n := 3) (Nat.le_of_ble_eq_true rfl)
  rw [lg_entry_eq]
  generalize (lg_sl ([.ref m0, .int k]) ++ List.replicate (3 - (lg_sl ([.ref m0, .int k])).length) Slot.unset).toArray = ls at hl ⊢
  have hl : lv_has ls 3 [(0, .ref m0), (1, .int k)] := hl
  refine lv_aload_n hx hb dM_sort_0 rfl (lv_at hl 0 rfl) ?_
  refine tr_go (st1 := [.int (fM_before mcode mtot msz mat mfl mru mpd mk mg mw mn mgp mga mgb mfc)]) (va_runV (As := []) (rest := []) (C := RM) ⟨hx, hb, hml, hown, hts⟩ (c_M_before l dC dI m0 aTy aTo aDr aBx mcode mtot msz mat mfl mru mpd mk mg mw mn mgp mga mgb mfc) ⟨cB 0 hts gw_685 gw_7 gw_683 ndM_before rfl rfl ⟨Nat.le_of_ble_eq_true rfl, Nat.le_of_ble_eq_true rfl⟩, hts _ gw_684, hts _ gw_766⟩ (tp_Rv hN hK hP [0] [] rfl rfl (q0 := 0) (ci := 6) rfl rfl) rfl rfl hl.1 rfl (lv_room (Nat.le_of_ble_eq_true rfl)) dM_sort_1 ⟨Nat.le_of_ble_eq_true rfl, Nat.le_of_ble_eq_true rfl⟩) rfl ?_
  refine lv_istore_n (lv' := [(2, .int (fM_before mcode mtot msz mat mfl mru mpd mk mg mw mn mgp mga mgb mfc)), (0, .ref m0), (1, .int k)]) hx hb dM_sort_4 rfl hl (by decide) rfl (fun ls hl => ?_)
  refine lv_iload_n hx hb dM_sort_5 rfl (lv_at hl 2 rfl) ?_
  refine lv_iload_n hx hb dM_sort_6 rfl (lv_at hl 0 rfl) ?_
  refine lv_icmp_ge (tgt := 14) hx hb dM_sort_7 (by decide) (fun c_1 => ?_) (fun c_1 => ?_)
  · skip
    refine lv_iload_n hx hb dM_sort_14 rfl (lv_at hl 2 rfl) ?_
    refine lv_iload_n hx hb dM_sort_15 rfl (lv_at hl 0 rfl) ?_
    refine lv_aload_n hx hb dM_sort_16 rfl (lv_at hl 1 rfl) ?_
    refine tr_go (st1 := [.int (fM_inSquare mcode mtot msz mat mfl mru mpd mk mg mw mn mgp mga mgb mfc), .int (fM_before mcode mtot msz mat mfl mru mpd mk mg mw mn mgp mga mgb mfc), .int k]) (va_runV (As := []) (rest := [.int (fM_before mcode mtot msz mat mfl mru mpd mk mg mw mn mgp mga mgb mfc), .int k]) (C := RM) ⟨hx, hb, hml, hown, hts⟩ (c_M_inSquare l dC dI m0 aTy aTo aDr aBx mcode mtot msz mat mfl mru mpd mk mg mw mn mgp mga mgb mfc) ⟨cB 0 hts gw_688 gw_7 gw_686 ndM_inSquare rfl rfl ⟨Nat.le_of_ble_eq_true rfl, Nat.le_of_ble_eq_true rfl⟩, hts _ gw_687, hts _ gw_767⟩ (tp_Rv hN hK hP [0] [] rfl rfl (q0 := 0) (ci := 6) rfl rfl) rfl rfl hl.1 rfl (lv_room (Nat.le_of_ble_eq_true rfl)) dM_sort_17 ⟨Nat.le_of_ble_eq_true rfl, Nat.le_of_ble_eq_true rfl⟩) rfl ?_
    refine lv_iadd hx hb dM_sort_20 ?_
    refine lv_icmp_ge (tgt := 33) hx hb dM_sort_21 (by decide) (fun c_2 => ?_) (fun c_2 => ?_)
    · skip
      refine lv_iconst (v := 1) hx hb dM_sort_33 (by decide) ?_
      exact W.iret (v := 1) hx hb hr (fun t ht hW => ⟨by rw [show fM_sort mcode mtot msz mat mfl mru mpd mk mg mw mn mgp mga mgb mfc k = 1 from by unfold fM_sort; rw [if_pos c_1, if_pos c_2]], ht⟩) (fun q h => by cases h) dM_sort_34
    · skip
      refine lv_aload_n hx hb dM_sort_24 rfl (lv_at hl 1 rfl) ?_
      refine va_get (D := (dC, dI)) (ci := 6) (v := .int mk) (C := RM) (T := TM) (N := 19) hx hb hts inM hown hK hP 0 rfl rfl 10 (by decide) (hts _ gw_584) (fun _ h9 => h9) rfl dM_sort_25 ?_
      refine lv_iconst (v := 1) hx hb dM_sort_28 (by decide) ?_
      refine lv_iadd hx hb dM_sort_29 ?_
      refine lv_goto (tgt := 34) hx hb dM_sort_30 (by decide) ?_
      exact W.iret (v := mk + 1) hx hb hr (fun t ht hW => ⟨by rw [show fM_sort mcode mtot msz mat mfl mru mpd mk mg mw mn mgp mga mgb mfc k = mk + 1 from by unfold fM_sort; rw [if_pos c_1, if_neg c_2]], ht⟩) (fun q h => by cases h) dM_sort_34
  · skip
    refine lv_iconst (v := 0) hx hb dM_sort_10 (by decide) ?_
    refine lv_goto (tgt := 34) hx hb dM_sort_11 (by decide) ?_
    exact W.iret (v := 0) hx hb hr (fun t ht hW => ⟨by rw [show fM_sort mcode mtot msz mat mfl mru mpd mk mg mw mn mgp mga mgb mfc k = 0 from by unfold fM_sort; rw [if_neg c_1]], ht⟩) (fun q h => by cases h) dM_sort_34

def fM_side (mcode : Int32) (mtot : Int64) (msz : Int32) (mat : Int32) (mfl : Int32) (mru : Int32) (mpd : Bool) (mk : Int32) (mg : Int64) (mw : Int64) (mn : Int32) (mgp : Bool) (mga : Int64) (mgb : Int64) (mfc : Int32) (k : Int32) (what : Int32) : Int64 := if (fM_sort mcode mtot msz mat mfl mru mpd mk mg mw mn mgp mga mgb mfc k) = 0 then (if what = 0 then (k.toInt64 * mg) else (if what = 1 then 0 else (if what = 2 then (((k + 1).toInt64) * mg) else mw))) else (if (fM_sort mcode mtot msz mat mfl mru mpd mk mg mw mn mgp mga mgb mfc k) ≤ 1 then (if what = 0 then (((fM_before mcode mtot msz mat mfl mru mpd mk mg mw mn mgp mga mgb mfc).toInt64) * mg) else (if what = 1 then (mw + ((((k - (fM_before mcode mtot msz mat mfl mru mpd mk mg mw mn mgp mga mgb mfc)) - (fM_inSquare mcode mtot msz mat mfl mru mpd mk mg mw mn mgp mga mgb mfc)).toInt64) * mg)) else (if what = 2 then ((((fM_before mcode mtot msz mat mfl mru mpd mk mg mw mn mgp mga mgb mfc).toInt64) * mg) + mw) else ((mw + ((((k - (fM_before mcode mtot msz mat mfl mru mpd mk mg mw mn mgp mga mgb mfc)) - (fM_inSquare mcode mtot msz mat mfl mru mpd mk mg mw mn mgp mga mgb mfc)).toInt64) * mg)) + mg)))) else (if what = 0 then (((fM_before mcode mtot msz mat mfl mru mpd mk mg mw mn mgp mga mgb mfc).toInt64) * mg) else (if what = 1 then 0 else (if what = 2 then ((((fM_before mcode mtot msz mat mfl mru mpd mk mg mw mn mgp mga mgb mfc).toInt64) * mg) + mw) else mw))))
set_option maxHeartbeats 4000000 in
set_option maxRecDepth 100000 in
theorem c_M_side (l : Launch) (dC : Nat → ClassId) (dI : Nat → Nat → Nat) (m0 : Nat) (aTy : Nat) (aTo : Nat) (aDr : Nat) (aBx : Nat) (mcode : Int32) (mtot : Int64) (msz : Int32) (mat : Int32) (mfl : Int32) (mru : Int32) (mpd : Bool) (mk : Int32) (mg : Int64) (mw : Int64) (mn : Int32) (mgp : Bool) (mga : Int64) (mgb : Int64) (mfc : Int32) (k : Int32) (what : Int32) : Met l mM_side wM_side ({ frames := 2, cells := 0, slots := 0, locals := 42 }) (tp_R (dC, dI) vCl [.ref m0, .int k, .int what] [(m0, .inr (6, [.int mcode, .long mtot, .ref aTy, .int msz, .int mat, .int mfl, .int mru, .ref aTo, .ref aDr, .int (bI mpd), .int mk, .long mg, .long mw, .int mn, .int (bI mgp), .long mga, .long mgb, .int mfc, .ref aBx]))] []) (tq_R (some (.long (fM_side mcode mtot msz mat mfl mru mpd mk mg mw mn mgp mga mgb mfc k what)))) 0 0 (fun _ => False) := by
  refine Met.ofW (cc := bM_side) (maxL := 8) (ret := (some .long)) (by decide) rfl ?_
  intro p e s m args below meth c s₁ B hml hv
  obtain ⟨rfl, hP, hK, hN⟩ := hv
  have hx := B.exec
  have hb := B.bytes
  have hr := B.returns
  have hts : ∀ w ∈ gT, w.before _ s = true := fun w h => atoms_spec (ws := wM_side) B.pre w (List.mem_cons_of_mem _ h)
  have hown : s.vm.findClass RM = some m.cls := findClass_of_methodNamed B.named
  have hlocks := B.notSynchronized
  have hP : va_P (dC, dI) vCl [(m0, .inr (6, [.int mcode, .long mtot, .ref aTy, .int msz, .int mat, .int mfl, .int mru, .ref aTo, .ref aDr, .int (bI mpd), .int mk, .long mg, .long mw, .int mn, .int (bI mgp), .long mga, .long mgb, .int mfc, .ref aBx]))] s.heap := hP
  have hl := lv_entry ([.ref m0, .int k, .int what]) (n := 8) (Nat.le_of_ble_eq_true rfl)
  rw [lg_entry_eq]
  generalize (lg_sl ([.ref m0, .int k, .int what]) ++ List.replicate (8 - (lg_sl ([.ref m0, .int k, .int what])).length) Slot.unset).toArray = ls at hl ⊢
  have hl : lv_has ls 8 [(0, .ref m0), (1, .int k), (2, .int what)] := hl
  refine lv_aload_n hx hb dM_side_0 rfl (lv_at hl 0 rfl) ?_
  refine tr_go (st1 := [.int (fM_before mcode mtot msz mat mfl mru mpd mk mg mw mn mgp mga mgb mfc)]) (va_runV (As := []) (rest := []) (C := RM) ⟨hx, hb, hml, hown, hts⟩ (c_M_before l dC dI m0 aTy aTo aDr aBx mcode mtot msz mat mfl mru mpd mk mg mw mn mgp mga mgb mfc) ⟨cB 0 hts gw_685 gw_7 gw_683 ndM_before rfl rfl ⟨Nat.le_of_ble_eq_true rfl, Nat.le_of_ble_eq_true rfl⟩, hts _ gw_684, hts _ gw_766⟩ (tp_Rv hN hK hP [0] [] rfl rfl (q0 := 0) (ci := 6) rfl rfl) rfl rfl hl.1 rfl (lv_room (Nat.le_of_ble_eq_true rfl)) dM_side_1 ⟨Nat.le_of_ble_eq_true rfl, Nat.le_of_ble_eq_true rfl⟩) rfl ?_
  refine lv_i2l (v := (fM_before mcode mtot msz mat mfl mru mpd mk mg mw mn mgp mga mgb mfc).toInt64) hx hb dM_side_4 rfl ?_
  refine lv_aload_n hx hb dM_side_5 rfl (lv_at hl 0 rfl) ?_
  refine va_get (D := (dC, dI)) (ci := 6) (v := .long mg) (C := RM) (T := TM) (N := 19) hx hb hts inM hown hK hP 0 rfl rfl 11 (by decide) (hts _ gw_585) (fun _ h9 => h9) rfl dM_side_6 ?_
  refine lv_lmul hx hb dM_side_9 ?_
  refine lv_lstore_n (lv' := [(3, .long (((fM_before mcode mtot msz mat mfl mru mpd mk mg mw mn mgp mga mgb mfc).toInt64) * mg)), (0, .ref m0), (1, .int k), (2, .int what)]) hx hb dM_side_10 rfl hl (by decide) rfl (fun ls hl => ?_)
  refine lv_aload_n hx hb dM_side_11 rfl (lv_at hl 1 rfl) ?_
  refine lv_iload_n hx hb dM_side_12 rfl (lv_at hl 2 rfl) ?_
  refine tr_go (st1 := [.int (fM_sort mcode mtot msz mat mfl mru mpd mk mg mw mn mgp mga mgb mfc k)]) (va_runV (As := [.int k]) (rest := []) (C := RM) ⟨hx, hb, hml, hown, hts⟩ (c_M_sort l dC dI m0 aTy aTo aDr aBx mcode mtot msz mat mfl mru mpd mk mg mw mn mgp mga mgb mfc k) ⟨cB 1 hts gw_682 gw_7 gw_680 ndM_sort rfl rfl ⟨Nat.le_of_ble_eq_true rfl, Nat.le_of_ble_eq_true rfl⟩, hts _ gw_681, hts _ gw_765⟩ (tp_Rv hN hK hP [0] [] rfl rfl (q0 := 0) (ci := 6) rfl rfl) rfl rfl hl.1 rfl (lv_room (Nat.le_of_ble_eq_true rfl)) dM_side_13 ⟨Nat.le_of_ble_eq_true rfl, Nat.le_of_ble_eq_true rfl⟩) rfl ?_
  refine lv_istore (lv' := [(5, .int (fM_sort mcode mtot msz mat mfl mru mpd mk mg mw mn mgp mga mgb mfc k)), (3, .long (((fM_before mcode mtot msz mat mfl mru mpd mk mg mw mn mgp mga mgb mfc).toInt64) * mg)), (0, .ref m0), (1, .int k), (2, .int what)]) hx hb dM_side_16 hl (by decide) rfl (fun ls hl => ?_)
  refine lv_iload hx hb dM_side_18 (lv_at hl 0 rfl) ?_
  refine lv_if_ne (tgt := 68) hx hb dM_side_20 (by decide) (fun c_1 => ?_) (fun c_1 => ?_)
  · skip
    refine lv_iload hx hb dM_side_68 (lv_at hl 0 rfl) ?_
    refine lv_iconst (v := 1) hx hb dM_side_70 (by decide) ?_
    refine lv_icmp_le (tgt := 110) hx hb dM_side_71 (by decide) (fun c_2 => ?_) (fun c_2 => ?_)
    · skip
      refine lv_aload_n hx hb dM_side_110 rfl (lv_at hl 2 rfl) ?_
      refine va_get (D := (dC, dI)) (ci := 6) (v := .long mw) (C := RM) (T := TM) (N := 19) hx hb hts inM hown hK hP 0 rfl rfl 12 (by decide) (hts _ gw_586) (fun _ h9 => h9) rfl dM_side_111 ?_
      refine lv_iload_n hx hb dM_side_114 rfl (lv_at hl 3 rfl) ?_
      refine lv_aload_n hx hb dM_side_115 rfl (lv_at hl 2 rfl) ?_
      refine tr_go (st1 := [.int (fM_before mcode mtot msz mat mfl mru mpd mk mg mw mn mgp mga mgb mfc), .int k, .long mw]) (va_runV (As := []) (rest := [.int k, .long mw]) (C := RM) ⟨hx, hb, hml, hown, hts⟩ (c_M_before l dC dI m0 aTy aTo aDr aBx mcode mtot msz mat mfl mru mpd mk mg mw mn mgp mga mgb mfc) ⟨cB 0 hts gw_685 gw_7 gw_683 ndM_before rfl rfl ⟨Nat.le_of_ble_eq_true rfl, Nat.le_of_ble_eq_true rfl⟩, hts _ gw_684, hts _ gw_766⟩ (tp_Rv hN hK hP [0] [] rfl rfl (q0 := 0) (ci := 6) rfl rfl) rfl rfl hl.1 rfl (lv_room (Nat.le_of_ble_eq_true rfl)) dM_side_116 ⟨Nat.le_of_ble_eq_true rfl, Nat.le_of_ble_eq_true rfl⟩) rfl ?_
      refine lv_isub hx hb dM_side_119 ?_
      refine lv_aload_n hx hb dM_side_120 rfl (lv_at hl 2 rfl) ?_
      refine tr_go (st1 := [.int (fM_inSquare mcode mtot msz mat mfl mru mpd mk mg mw mn mgp mga mgb mfc), .int (k - (fM_before mcode mtot msz mat mfl mru mpd mk mg mw mn mgp mga mgb mfc)), .long mw]) (va_runV (As := []) (rest := [.int (k - (fM_before mcode mtot msz mat mfl mru mpd mk mg mw mn mgp mga mgb mfc)), .long mw]) (C := RM) ⟨hx, hb, hml, hown, hts⟩ (c_M_inSquare l dC dI m0 aTy aTo aDr aBx mcode mtot msz mat mfl mru mpd mk mg mw mn mgp mga mgb mfc) ⟨cB 0 hts gw_688 gw_7 gw_686 ndM_inSquare rfl rfl ⟨Nat.le_of_ble_eq_true rfl, Nat.le_of_ble_eq_true rfl⟩, hts _ gw_687, hts _ gw_767⟩ (tp_Rv hN hK hP [0] [] rfl rfl (q0 := 0) (ci := 6) rfl rfl) rfl rfl hl.1 rfl (lv_room (Nat.le_of_ble_eq_true rfl)) dM_side_121 ⟨Nat.le_of_ble_eq_true rfl, Nat.le_of_ble_eq_true rfl⟩) rfl ?_
      refine lv_isub hx hb dM_side_124 ?_
      refine lv_i2l (v := ((k - (fM_before mcode mtot msz mat mfl mru mpd mk mg mw mn mgp mga mgb mfc)) - (fM_inSquare mcode mtot msz mat mfl mru mpd mk mg mw mn mgp mga mgb mfc)).toInt64) hx hb dM_side_125 rfl ?_
      refine lv_aload_n hx hb dM_side_126 rfl (lv_at hl 2 rfl) ?_
      refine va_get (D := (dC, dI)) (ci := 6) (v := .long mg) (C := RM) (T := TM) (N := 19) hx hb hts inM hown hK hP 0 rfl rfl 11 (by decide) (hts _ gw_585) (fun _ h9 => h9) rfl dM_side_127 ?_
      refine lv_lmul hx hb dM_side_130 ?_
      refine lv_ladd hx hb dM_side_131 ?_
      refine lv_lstore (lv' := [(6, .long (mw + ((((k - (fM_before mcode mtot msz mat mfl mru mpd mk mg mw mn mgp mga mgb mfc)) - (fM_inSquare mcode mtot msz mat mfl mru mpd mk mg mw mn mgp mga mgb mfc)).toInt64) * mg))), (5, .int (fM_sort mcode mtot msz mat mfl mru mpd mk mg mw mn mgp mga mgb mfc k)), (3, .long (((fM_before mcode mtot msz mat mfl mru mpd mk mg mw mn mgp mga mgb mfc).toInt64) * mg)), (0, .ref m0), (1, .int k), (2, .int what)]) hx hb dM_side_132 hl (by decide) rfl (fun ls hl => ?_)
      refine lv_iload_n hx hb dM_side_134 rfl (lv_at hl 5 rfl) ?_
      refine lv_if_ne (tgt := 142) hx hb dM_side_135 (by decide) (fun c_3 => ?_) (fun c_3 => ?_)
      · skip
        refine lv_iload_n hx hb dM_side_142 rfl (lv_at hl 5 rfl) ?_
        refine lv_iconst (v := 1) hx hb dM_side_143 (by decide) ?_
        refine lv_icmp_ne (tgt := 152) hx hb dM_side_144 (by decide) (fun c_4 => ?_) (fun c_4 => ?_)
        · skip
          refine lv_iload_n hx hb dM_side_152 rfl (lv_at hl 5 rfl) ?_
          refine lv_iconst (v := 2) hx hb dM_side_153 (by decide) ?_
          refine lv_icmp_ne (tgt := 166) hx hb dM_side_154 (by decide) (fun c_5 => ?_) (fun c_5 => ?_)
          · skip
            refine lv_lload hx hb dM_side_166 (lv_at hl 0 rfl) ?_
            refine lv_aload_n hx hb dM_side_168 rfl (lv_at hl 3 rfl) ?_
            refine va_get (D := (dC, dI)) (ci := 6) (v := .long mg) (C := RM) (T := TM) (N := 19) hx hb hts inM hown hK hP 0 rfl rfl 11 (by decide) (hts _ gw_585) (fun _ h9 => h9) rfl dM_side_169 ?_
            refine lv_ladd hx hb dM_side_172 ?_
            exact W.lret (v := (mw + ((((k - (fM_before mcode mtot msz mat mfl mru mpd mk mg mw mn mgp mga mgb mfc)) - (fM_inSquare mcode mtot msz mat mfl mru mpd mk mg mw mn mgp mga mgb mfc)).toInt64) * mg)) + mg) hx hb hr (fun t ht hW => ⟨by rw [show fM_side mcode mtot msz mat mfl mru mpd mk mg mw mn mgp mga mgb mfc k what = (mw + ((((k - (fM_before mcode mtot msz mat mfl mru mpd mk mg mw mn mgp mga mgb mfc)) - (fM_inSquare mcode mtot msz mat mfl mru mpd mk mg mw mn mgp mga mgb mfc)).toInt64) * mg)) + mg from by unfold fM_side; rw [if_neg c_1, if_pos c_2, if_neg c_3, if_neg c_4, if_neg c_5]], ht⟩) (fun q h => by cases h) dM_side_173
          · skip
            refine lv_lload_n hx hb dM_side_157 rfl (lv_at hl 2 rfl) ?_
            refine lv_aload_n hx hb dM_side_158 rfl (lv_at hl 3 rfl) ?_
            refine va_get (D := (dC, dI)) (ci := 6) (v := .long mw) (C := RM) (T := TM) (N := 19) hx hb hts inM hown hK hP 0 rfl rfl 12 (by decide) (hts _ gw_586) (fun _ h9 => h9) rfl dM_side_159 ?_
            refine lv_ladd hx hb dM_side_162 ?_
            refine lv_goto (tgt := 173) hx hb dM_side_163 (by decide) ?_
            exact W.lret (v := (((fM_before mcode mtot msz mat mfl mru mpd mk mg mw mn mgp mga mgb mfc).toInt64) * mg) + mw) hx hb hr (fun t ht hW => ⟨by rw [show fM_side mcode mtot msz mat mfl mru mpd mk mg mw mn mgp mga mgb mfc k what = (((fM_before mcode mtot msz mat mfl mru mpd mk mg mw mn mgp mga mgb mfc).toInt64) * mg) + mw from by unfold fM_side; rw [if_neg c_1, if_pos c_2, if_neg c_3, if_neg c_4, if_pos c_5]], ht⟩) (fun q h => by cases h) dM_side_173
        · skip
          refine lv_lload hx hb dM_side_147 (lv_at hl 0 rfl) ?_
          refine lv_goto (tgt := 173) hx hb dM_side_149 (by decide) ?_
          exact W.lret (v := mw + ((((k - (fM_before mcode mtot msz mat mfl mru mpd mk mg mw mn mgp mga mgb mfc)) - (fM_inSquare mcode mtot msz mat mfl mru mpd mk mg mw mn mgp mga mgb mfc)).toInt64) * mg)) hx hb hr (fun t ht hW => ⟨by rw [show fM_side mcode mtot msz mat mfl mru mpd mk mg mw mn mgp mga mgb mfc k what = mw + ((((k - (fM_before mcode mtot msz mat mfl mru mpd mk mg mw mn mgp mga mgb mfc)) - (fM_inSquare mcode mtot msz mat mfl mru mpd mk mg mw mn mgp mga mgb mfc)).toInt64) * mg) from by unfold fM_side; rw [if_neg c_1, if_pos c_2, if_neg c_3, if_pos c_4]], ht⟩) (fun q h => by cases h) dM_side_173
      · skip
        refine lv_lload_n hx hb dM_side_138 rfl (lv_at hl 2 rfl) ?_
        refine lv_goto (tgt := 173) hx hb dM_side_139 (by decide) ?_
        exact W.lret (v := ((fM_before mcode mtot msz mat mfl mru mpd mk mg mw mn mgp mga mgb mfc).toInt64) * mg) hx hb hr (fun t ht hW => ⟨by rw [show fM_side mcode mtot msz mat mfl mru mpd mk mg mw mn mgp mga mgb mfc k what = ((fM_before mcode mtot msz mat mfl mru mpd mk mg mw mn mgp mga mgb mfc).toInt64) * mg from by unfold fM_side; rw [if_neg c_1, if_pos c_2, if_pos c_3]], ht⟩) (fun q h => by cases h) dM_side_173
    · skip
      refine lv_iload_n hx hb dM_side_74 rfl (lv_at hl 4 rfl) ?_
      refine lv_if_ne (tgt := 82) hx hb dM_side_75 (by decide) (fun c_6 => ?_) (fun c_6 => ?_)
      · skip
        refine lv_iload_n hx hb dM_side_82 rfl (lv_at hl 4 rfl) ?_
        refine lv_iconst (v := 1) hx hb dM_side_83 (by decide) ?_
        refine lv_icmp_ne (tgt := 91) hx hb dM_side_84 (by decide) (fun c_7 => ?_) (fun c_7 => ?_)
        · skip
          refine lv_iload_n hx hb dM_side_91 rfl (lv_at hl 4 rfl) ?_
          refine lv_iconst (v := 2) hx hb dM_side_92 (by decide) ?_
          refine lv_icmp_ne (tgt := 105) hx hb dM_side_93 (by decide) (fun c_8 => ?_) (fun c_8 => ?_)
          · skip
            refine lv_aload_n hx hb dM_side_105 rfl (lv_at hl 2 rfl) ?_
            refine va_get (D := (dC, dI)) (ci := 6) (v := .long mw) (C := RM) (T := TM) (N := 19) hx hb hts inM hown hK hP 0 rfl rfl 12 (by decide) (hts _ gw_586) (fun _ h9 => h9) rfl dM_side_106 ?_
            exact W.lret (v := mw) hx hb hr (fun t ht hW => ⟨by rw [show fM_side mcode mtot msz mat mfl mru mpd mk mg mw mn mgp mga mgb mfc k what = mw from by unfold fM_side; rw [if_neg c_1, if_neg c_2, if_neg c_6, if_neg c_7, if_neg c_8]], ht⟩) (fun q h => by cases h) dM_side_109
          · skip
            refine lv_lload_n hx hb dM_side_96 rfl (lv_at hl 1 rfl) ?_
            refine lv_aload_n hx hb dM_side_97 rfl (lv_at hl 2 rfl) ?_
            refine va_get (D := (dC, dI)) (ci := 6) (v := .long mw) (C := RM) (T := TM) (N := 19) hx hb hts inM hown hK hP 0 rfl rfl 12 (by decide) (hts _ gw_586) (fun _ h9 => h9) rfl dM_side_98 ?_
            refine lv_ladd hx hb dM_side_101 ?_
            refine lv_goto (tgt := 109) hx hb dM_side_102 (by decide) ?_
            exact W.lret (v := (((fM_before mcode mtot msz mat mfl mru mpd mk mg mw mn mgp mga mgb mfc).toInt64) * mg) + mw) hx hb hr (fun t ht hW => ⟨by rw [show fM_side mcode mtot msz mat mfl mru mpd mk mg mw mn mgp mga mgb mfc k what = (((fM_before mcode mtot msz mat mfl mru mpd mk mg mw mn mgp mga mgb mfc).toInt64) * mg) + mw from by unfold fM_side; rw [if_neg c_1, if_neg c_2, if_neg c_6, if_neg c_7, if_pos c_8]], ht⟩) (fun q h => by cases h) dM_side_109
        · skip
          refine lv_lconst (v := 0) hx hb dM_side_87 (by decide) ?_
          refine lv_goto (tgt := 109) hx hb dM_side_88 (by decide) ?_
          exact W.lret (v := 0) hx hb hr (fun t ht hW => ⟨by rw [show fM_side mcode mtot msz mat mfl mru mpd mk mg mw mn mgp mga mgb mfc k what = 0 from by unfold fM_side; rw [if_neg c_1, if_neg c_2, if_neg c_6, if_pos c_7]], ht⟩) (fun q h => by cases h) dM_side_109
      · skip
        refine lv_lload_n hx hb dM_side_78 rfl (lv_at hl 1 rfl) ?_
        refine lv_goto (tgt := 109) hx hb dM_side_79 (by decide) ?_
        exact W.lret (v := ((fM_before mcode mtot msz mat mfl mru mpd mk mg mw mn mgp mga mgb mfc).toInt64) * mg) hx hb hr (fun t ht hW => ⟨by rw [show fM_side mcode mtot msz mat mfl mru mpd mk mg mw mn mgp mga mgb mfc k what = ((fM_before mcode mtot msz mat mfl mru mpd mk mg mw mn mgp mga mgb mfc).toInt64) * mg from by unfold fM_side; rw [if_neg c_1, if_neg c_2, if_pos c_6]], ht⟩) (fun q h => by cases h) dM_side_109
  · skip
    refine lv_iload_n hx hb dM_side_23 rfl (lv_at hl 4 rfl) ?_
    refine lv_if_ne (tgt := 37) hx hb dM_side_24 (by decide) (fun c_9 => ?_) (fun c_9 => ?_)
    · skip
      refine lv_iload_n hx hb dM_side_37 rfl (lv_at hl 4 rfl) ?_
      refine lv_iconst (v := 1) hx hb dM_side_38 (by decide) ?_
      refine lv_icmp_ne (tgt := 46) hx hb dM_side_39 (by decide) (fun c_10 => ?_) (fun c_10 => ?_)
      · skip
        refine lv_iload_n hx hb dM_side_46 rfl (lv_at hl 4 rfl) ?_
        refine lv_iconst (v := 2) hx hb dM_side_47 (by decide) ?_
        refine lv_icmp_ne (tgt := 63) hx hb dM_side_48 (by decide) (fun c_11 => ?_) (fun c_11 => ?_)
        · skip
          refine lv_aload_n hx hb dM_side_63 rfl (lv_at hl 2 rfl) ?_
          refine va_get (D := (dC, dI)) (ci := 6) (v := .long mw) (C := RM) (T := TM) (N := 19) hx hb hts inM hown hK hP 0 rfl rfl 12 (by decide) (hts _ gw_586) (fun _ h9 => h9) rfl dM_side_64 ?_
          exact W.lret (v := mw) hx hb hr (fun t ht hW => ⟨by rw [show fM_side mcode mtot msz mat mfl mru mpd mk mg mw mn mgp mga mgb mfc k what = mw from by unfold fM_side; rw [if_pos c_1, if_neg c_9, if_neg c_10, if_neg c_11]], ht⟩) (fun q h => by cases h) dM_side_67
        · skip
          refine lv_iload_n hx hb dM_side_51 rfl (lv_at hl 3 rfl) ?_
          refine lv_iconst (v := 1) hx hb dM_side_52 (by decide) ?_
          refine lv_iadd hx hb dM_side_53 ?_
          refine lv_i2l (v := (k + 1).toInt64) hx hb dM_side_54 rfl ?_
          refine lv_aload_n hx hb dM_side_55 rfl (lv_at hl 2 rfl) ?_
          refine va_get (D := (dC, dI)) (ci := 6) (v := .long mg) (C := RM) (T := TM) (N := 19) hx hb hts inM hown hK hP 0 rfl rfl 11 (by decide) (hts _ gw_585) (fun _ h9 => h9) rfl dM_side_56 ?_
          refine lv_lmul hx hb dM_side_59 ?_
          refine lv_goto (tgt := 67) hx hb dM_side_60 (by decide) ?_
          exact W.lret (v := ((k + 1).toInt64) * mg) hx hb hr (fun t ht hW => ⟨by rw [show fM_side mcode mtot msz mat mfl mru mpd mk mg mw mn mgp mga mgb mfc k what = ((k + 1).toInt64) * mg from by unfold fM_side; rw [if_pos c_1, if_neg c_9, if_neg c_10, if_pos c_11]], ht⟩) (fun q h => by cases h) dM_side_67
      · skip
        refine lv_lconst (v := 0) hx hb dM_side_42 (by decide) ?_
        refine lv_goto (tgt := 67) hx hb dM_side_43 (by decide) ?_
        exact W.lret (v := 0) hx hb hr (fun t ht hW => ⟨by rw [show fM_side mcode mtot msz mat mfl mru mpd mk mg mw mn mgp mga mgb mfc k what = 0 from by unfold fM_side; rw [if_pos c_1, if_neg c_9, if_pos c_10]], ht⟩) (fun q h => by cases h) dM_side_67
    · skip
      refine lv_iload_n hx hb dM_side_27 rfl (lv_at hl 3 rfl) ?_
      refine lv_i2l (v := k.toInt64) hx hb dM_side_28 rfl ?_
      refine lv_aload_n hx hb dM_side_29 rfl (lv_at hl 2 rfl) ?_
      refine va_get (D := (dC, dI)) (ci := 6) (v := .long mg) (C := RM) (T := TM) (N := 19) hx hb hts inM hown hK hP 0 rfl rfl 11 (by decide) (hts _ gw_585) (fun _ h9 => h9) rfl dM_side_30 ?_
      refine lv_lmul hx hb dM_side_33 ?_
      refine lv_goto (tgt := 67) hx hb dM_side_34 (by decide) ?_
      exact W.lret (v := k.toInt64 * mg) hx hb hr (fun t ht hW => ⟨by rw [show fM_side mcode mtot msz mat mfl mru mpd mk mg mw mn mgp mga mgb mfc k what = k.toInt64 * mg from by unfold fM_side; rw [if_pos c_1, if_pos c_9]], ht⟩) (fun q h => by cases h) dM_side_67

def fM_noWinders_c0f0 (mcode : Int32) (mtot : Int64) (msz : Int32) (mat : Int32) (mfl : Int32) (mru : Int32) (mpd : Bool) (mk : Int32) (mg : Int64) (mw : Int64) (mn : Int32) (mgp : Bool) (mga : Int64) (mgb : Int64) (mfc : Int32) : Int32 := if mpd = true then (if mk = 2 then 0 else 1) else 1
def fM_noWinders (mcode : Int32) (mtot : Int64) (msz : Int32) (mat : Int32) (mfl : Int32) (mru : Int32) (mpd : Bool) (mk : Int32) (mg : Int64) (mw : Int64) (mn : Int32) (mgp : Bool) (mga : Int64) (mgb : Int64) (mfc : Int32) : Bool := if mpd = true then (if mk = 2 then false else true) else true
set_option maxHeartbeats 4000000 in
set_option maxRecDepth 100000 in
theorem c_M_noWinders (l : Launch) (dC : Nat → ClassId) (dI : Nat → Nat → Nat) (m0 : Nat) (aTy : Nat) (aTo : Nat) (aDr : Nat) (aBx : Nat) (mcode : Int32) (mtot : Int64) (msz : Int32) (mat : Int32) (mfl : Int32) (mru : Int32) (mpd : Bool) (mk : Int32) (mg : Int64) (mw : Int64) (mn : Int32) (mgp : Bool) (mga : Int64) (mgb : Int64) (mfc : Int32) : Met l mM_noWinders wM_noWinders ({ frames := 0, cells := 0, slots := 0, locals := 0 }) (tp_W (dC, dI) vCl [.ref m0] [(m0, .inr (6, [.int mcode, .long mtot, .ref aTy, .int msz, .int mat, .int mfl, .int mru, .ref aTo, .ref aDr, .int (bI mpd), .int mk, .long mg, .long mw, .int mn, .int (bI mgp), .long mga, .long mgb, .int mfc, .ref aBx]))] []) (tq_W (dC, dI) vCl (some (.int (bI (fM_noWinders mcode mtot msz mat mfl mru mpd mk mg mw mn mgp mga mgb mfc)))) [(m0, .inr (6, [.int mcode, .long mtot, .ref aTy, .int msz, .int mat, .int mfl, .int mru, .ref aTo, .ref aDr, .int (bI mpd), .int mk, .long mg, .long mw, .int mn, .int (bI mgp), .long mga, .long mgb, .int mfc, .ref aBx]))] [(m0, .inr (6, [.int (fM_noWinders_c0f0 mcode mtot msz mat mfl mru mpd mk mg mw mn mgp mga mgb mfc), .long mtot, .ref aTy, .int msz, .int mat, .int mfl, .int mru, .ref aTo, .ref aDr, .int (bI mpd), .int mk, .long mg, .long mw, .int mn, .int (bI mgp), .long mga, .long mgb, .int mfc, .ref aBx]))]) 0 0 (tA [(m0, .inr (6, [.int mcode, .long mtot, .ref aTy, .int msz, .int mat, .int mfl, .int mru, .ref aTo, .ref aDr, .int (bI mpd), .int mk, .long mg, .long mw, .int mn, .int (bI mgp), .long mga, .long mgb, .int mfc, .ref aBx]))]) := by
  refine Met.ofW (cc := bM_noWinders) (maxL := 1) (ret := (some .boolean)) (by decide) rfl ?_
  intro p e s m args below meth c s₁ B hml hv
  obtain ⟨rfl, hP, hK, hN, hD0⟩ := hv
  have hx := B.exec
  have hb := B.bytes
  have hr := B.returns
  have hts : ∀ w ∈ gT, w.before _ s = true := fun w h => atoms_spec (ws := wM_noWinders) B.pre w (List.mem_cons_of_mem _ h)
  have hown : s.vm.findClass RM = some m.cls := findClass_of_methodNamed B.named
  have hlocks := B.notSynchronized
  have hD := tA_D hD0
  generalize hAe : tA [(m0, .inr (6, [.int mcode, .long mtot, .ref aTy, .int msz, .int mat, .int mfl, .int mru, .ref aTo, .ref aDr, .int (bI mpd), .int mk, .long mg, .long mw, .int mn, .int (bI mgp), .long mga, .long mgb, .int mfc, .ref aBx]))] = A at hD ⊢
  have hS : va_S A s.heap s.heap [] := va_S.rf
  have hP : va_P (dC, dI) vCl [(m0, .inr (6, [.int mcode, .long mtot, .ref aTy, .int msz, .int mat, .int mfl, .int mru, .ref aTo, .ref aDr, .int (bI mpd), .int mk, .long mg, .long mw, .int mn, .int (bI mgp), .long mga, .long mgb, .int mfc, .ref aBx]))] s.heap := hP
  have hl := lv_entry ([.ref m0]) (n := 1) (Nat.le_of_ble_eq_true rfl)
  rw [lg_entry_eq]
  generalize (lg_sl ([.ref m0]) ++ List.replicate (1 - (lg_sl ([.ref m0])).length) Slot.unset).toArray = ls at hl ⊢
  have hl : lv_has ls 1 [(0, .ref m0)] := hl
  refine lv_aload_n hx hb dM_noWinders_0 rfl (lv_at hl 0 rfl) ?_
  refine lv_aload_n hx hb dM_noWinders_1 rfl (lv_at hl 0 rfl) ?_
  refine va_get (D := (dC, dI)) (ci := 6) (v := .int (bI mpd)) (C := RM) (T := TM) (N := 19) hx hb hts inM hown hK hP 0 rfl rfl 9 (by decide) (hts _ gw_583) (fun _ h9 => h9) rfl dM_noWinders_2 ?_
  refine tb_ifeq (tgt := 20) hx hb dM_noWinders_5 (by decide) (fun c_1 => ?_) (fun c_1 => ?_)
  · skip
    refine lv_iconst (v := 1) hx hb dM_noWinders_20 (by decide) ?_
    refine va_put (D := (dC, dI)) (ci := 6) (v := .int 1) (ty := .int) (C := RM) (T := TM) (N := 19) hx hb hts inM yM yoM noM hown hK hP hD hS 0 rfl rfl 0 (by decide) (hts _ gw_574) (fun _ h9 => h9) rfl (by decide +kernel) rfl rfl (Nat.le_of_ble_eq_true rfl) dM_noWinders_21 (fun H locs hP hD hS => ?_)
    have hP : va_P (dC, dI) vCl [(m0, .inr (6, [.int 1, .long mtot, .ref aTy, .int msz, .int mat, .int mfl, .int mru, .ref aTo, .ref aDr, .int (bI mpd), .int mk, .long mg, .long mw, .int mn, .int (bI mgp), .long mga, .long mgb, .int mfc, .ref aBx]))] H := hP
    have hD : va_D A [(m0, .inr (6, [.int 1, .long mtot, .ref aTy, .int msz, .int mat, .int mfl, .int mru, .ref aTo, .ref aDr, .int (bI mpd), .int mk, .long mg, .long mw, .int mn, .int (bI mgp), .long mga, .long mgb, .int mfc, .ref aBx]))] := hD
    refine lv_aload_n hx hb dM_noWinders_24 rfl (lv_at hl 0 rfl) ?_
    refine va_get (D := (dC, dI)) (ci := 6) (v := .int 1) (C := RM) (T := TM) (N := 19) hx hb hts inM hown hK hP 0 rfl rfl 0 (by decide) (hts _ gw_574) (fun _ h9 => h9) rfl dM_noWinders_25 ?_
    refine lv_if_le (tgt := 35) hx hb dM_noWinders_28 (by decide) (fun c_2 => absurd c_2 (by decide)) (fun c_2 => ?_)
    refine lv_iconst (v := 1) hx hb dM_noWinders_31 (by decide) ?_
    refine lv_goto (tgt := 36) hx hb dM_noWinders_32 (by decide) ?_
    exact W.zret (v := 1) hx hb hr (rfl) (fun t ht hW => ⟨by rw [show fM_noWinders mcode mtot msz mat mfl mru mpd mk mg mw mn mgp mga mgb mfc = true from by unfold fM_noWinders; rw [if_neg (Bool.eq_false_iff.mp c_1)]]; rfl, by rw [ht, show fM_noWinders_c0f0 mcode mtot msz mat mfl mru mpd mk mg mw mn mgp mga mgb mfc = 1 from by unfold fM_noWinders_c0f0; rw [if_neg (Bool.eq_false_iff.mp c_1)]]; exact hP, by rw [hAe]; exact hS.F ht⟩) hS.2.2 dM_noWinders_36
  · skip
    refine lv_aload_n hx hb dM_noWinders_8 rfl (lv_at hl 0 rfl) ?_
    refine va_get (D := (dC, dI)) (ci := 6) (v := .int mk) (C := RM) (T := TM) (N := 19) hx hb hts inM hown hK hP 0 rfl rfl 10 (by decide) (hts _ gw_584) (fun _ h9 => h9) rfl dM_noWinders_9 ?_
    refine lv_iconst (v := 2) hx hb dM_noWinders_12 (by decide) ?_
    refine lv_icmp_ne (tgt := 20) hx hb dM_noWinders_13 (by decide) (fun c_3 => ?_) (fun c_3 => ?_)
    · skip
      refine lv_iconst (v := 1) hx hb dM_noWinders_20 (by decide) ?_
      refine va_put (D := (dC, dI)) (ci := 6) (v := .int 1) (ty := .int) (C := RM) (T := TM) (N := 19) hx hb hts inM yM yoM noM hown hK hP hD hS 0 rfl rfl 0 (by decide) (hts _ gw_574) (fun _ h9 => h9) rfl (by decide +kernel) rfl rfl (Nat.le_of_ble_eq_true rfl) dM_noWinders_21 (fun H locs hP hD hS => ?_)
      have hP : va_P (dC, dI) vCl [(m0, .inr (6, [.int 1, .long mtot, .ref aTy, .int msz, .int mat, .int mfl, .int mru, .ref aTo, .ref aDr, .int (bI mpd), .int mk, .long mg, .long mw, .int mn, .int (bI mgp), .long mga, .long mgb, .int mfc, .ref aBx]))] H := hP
      have hD : va_D A [(m0, .inr (6, [.int 1, .long mtot, .ref aTy, .int msz, .int mat, .int mfl, .int mru, .ref aTo, .ref aDr, .int (bI mpd), .int mk, .long mg, .long mw, .int mn, .int (bI mgp), .long mga, .long mgb, .int mfc, .ref aBx]))] := hD
      refine lv_aload_n hx hb dM_noWinders_24 rfl (lv_at hl 0 rfl) ?_
      refine va_get (D := (dC, dI)) (ci := 6) (v := .int 1) (C := RM) (T := TM) (N := 19) hx hb hts inM hown hK hP 0 rfl rfl 0 (by decide) (hts _ gw_574) (fun _ h9 => h9) rfl dM_noWinders_25 ?_
      refine lv_if_le (tgt := 35) hx hb dM_noWinders_28 (by decide) (fun c_4 => absurd c_4 (by decide)) (fun c_4 => ?_)
      refine lv_iconst (v := 1) hx hb dM_noWinders_31 (by decide) ?_
      refine lv_goto (tgt := 36) hx hb dM_noWinders_32 (by decide) ?_
      exact W.zret (v := 1) hx hb hr (rfl) (fun t ht hW => ⟨by rw [show fM_noWinders mcode mtot msz mat mfl mru mpd mk mg mw mn mgp mga mgb mfc = true from by unfold fM_noWinders; rw [if_pos c_1, if_neg c_3]]; rfl, by rw [ht, show fM_noWinders_c0f0 mcode mtot msz mat mfl mru mpd mk mg mw mn mgp mga mgb mfc = 1 from by unfold fM_noWinders_c0f0; rw [if_pos c_1, if_neg c_3]]; exact hP, by rw [hAe]; exact hS.F ht⟩) hS.2.2 dM_noWinders_36
    · skip
      refine lv_iconst (v := 0) hx hb dM_noWinders_16 (by decide) ?_
      refine lv_goto (tgt := 21) hx hb dM_noWinders_17 (by decide) ?_
      refine va_put (D := (dC, dI)) (ci := 6) (v := .int 0) (ty := .int) (C := RM) (T := TM) (N := 19) hx hb hts inM yM yoM noM hown hK hP hD hS 0 rfl rfl 0 (by decide) (hts _ gw_574) (fun _ h9 => h9) rfl (by decide +kernel) rfl rfl (Nat.le_of_ble_eq_true rfl) dM_noWinders_21 (fun H locs hP hD hS => ?_)
      have hP : va_P (dC, dI) vCl [(m0, .inr (6, [.int 0, .long mtot, .ref aTy, .int msz, .int mat, .int mfl, .int mru, .ref aTo, .ref aDr, .int (bI mpd), .int mk, .long mg, .long mw, .int mn, .int (bI mgp), .long mga, .long mgb, .int mfc, .ref aBx]))] H := hP
      have hD : va_D A [(m0, .inr (6, [.int 0, .long mtot, .ref aTy, .int msz, .int mat, .int mfl, .int mru, .ref aTo, .ref aDr, .int (bI mpd), .int mk, .long mg, .long mw, .int mn, .int (bI mgp), .long mga, .long mgb, .int mfc, .ref aBx]))] := hD
      refine lv_aload_n hx hb dM_noWinders_24 rfl (lv_at hl 0 rfl) ?_
      refine va_get (D := (dC, dI)) (ci := 6) (v := .int 0) (C := RM) (T := TM) (N := 19) hx hb hts inM hown hK hP 0 rfl rfl 0 (by decide) (hts _ gw_574) (fun _ h9 => h9) rfl dM_noWinders_25 ?_
      refine lv_if_le (tgt := 35) hx hb dM_noWinders_28 (by decide) (fun c_5 => ?_) (fun c_5 => absurd (by decide) c_5)
      refine lv_iconst (v := 0) hx hb dM_noWinders_35 (by decide) ?_
      exact W.zret (v := 0) hx hb hr (rfl) (fun t ht hW => ⟨by rw [show fM_noWinders mcode mtot msz mat mfl mru mpd mk mg mw mn mgp mga mgb mfc = false from by unfold fM_noWinders; rw [if_pos c_1, if_pos c_3]]; rfl, by rw [ht, show fM_noWinders_c0f0 mcode mtot msz mat mfl mru mpd mk mg mw mn mgp mga mgb mfc = 0 from by unfold fM_noWinders_c0f0; rw [if_pos c_1, if_pos c_3]]; exact hP, by rw [hAe]; exact hS.F ht⟩) hS.2.2 dM_noWinders_36

def fM_step_c0f0 (mcode : Int32) (mtot : Int64) (msz : Int32) (mat : Int32) (mfl : Int32) (mru : Int32) (mpd : Bool) (mk : Int32) (mg : Int64) (mw : Int64) (mn : Int32) (mgp : Bool) (mga : Int64) (mgb : Int64) (mfc : Int32) (k : Int32) (what : Int32) : Int32 := if (fM_none mcode mtot msz mat mfl mru mpd mk mg mw mn mgp mga mgb mfc) = true then (fM_none_c0f0 mcode mtot msz mat mfl mru mpd mk mg mw mn mgp mga mgb mfc) else (if k < 0 then 2 else (if k < (mn - 1) then (if (fM_isIn what.toInt64 0 5) = true then (if what = 4 then 0 else (if what = 5 then 0 else 0)) else 3) else 2))
def fM_step (mcode : Int32) (mtot : Int64) (msz : Int32) (mat : Int32) (mfl : Int32) (mru : Int32) (mpd : Bool) (mk : Int32) (mg : Int64) (mw : Int64) (mn : Int32) (mgp : Bool) (mga : Int64) (mgb : Int64) (mfc : Int32) (k : Int32) (what : Int32) : Int64 := if (fM_none mcode mtot msz mat mfl mru mpd mk mg mw mn mgp mga mgb mfc) = true then 0 else (if k < 0 then 0 else (if k < (mn - 1) then (if (fM_isIn what.toInt64 0 5) = true then (if what = 4 then ((fM_sort 0 mtot msz mat mfl mru mpd mk mg mw mn mgp mga mgb mfc k).toInt64) else (if what = 5 then (((k + 1).toInt64) * mtot) else (fM_side 0 mtot msz mat mfl mru mpd mk mg mw mn mgp mga mgb mfc k what))) else 0) else 0))
set_option maxHeartbeats 4000000 in
set_option maxRecDepth 100000 in
theorem c_M_step (l : Launch) (dC : Nat → ClassId) (dI : Nat → Nat → Nat) (m0 : Nat) (aTy : Nat) (aTo : Nat) (aDr : Nat) (aBx : Nat) (mcode : Int32) (mtot : Int64) (msz : Int32) (mat : Int32) (mfl : Int32) (mru : Int32) (mpd : Bool) (mk : Int32) (mg : Int64) (mw : Int64) (mn : Int32) (mgp : Bool) (mga : Int64) (mgb : Int64) (mfc : Int32) (k : Int32) (what : Int32) : Met l mM_step wM_step ({ frames := 3, cells := 0, slots := 0, locals := 69 }) (tp_W (dC, dI) vCl [.ref m0, .int k, .int what] [(m0, .inr (6, [.int mcode, .long mtot, .ref aTy, .int msz, .int mat, .int mfl, .int mru, .ref aTo, .ref aDr, .int (bI mpd), .int mk, .long mg, .long mw, .int mn, .int (bI mgp), .long mga, .long mgb, .int mfc, .ref aBx]))] []) (tq_W (dC, dI) vCl (some (.long (fM_step mcode mtot msz mat mfl mru mpd mk mg mw mn mgp mga mgb mfc k what))) [(m0, .inr (6, [.int mcode, .long mtot, .ref aTy, .int msz, .int mat, .int mfl, .int mru, .ref aTo, .ref aDr, .int (bI mpd), .int mk, .long mg, .long mw, .int mn, .int (bI mgp), .long mga, .long mgb, .int mfc, .ref aBx]))] [(m0, .inr (6, [.int (fM_step_c0f0 mcode mtot msz mat mfl mru mpd mk mg mw mn mgp mga mgb mfc k what), .long mtot, .ref aTy, .int msz, .int mat, .int mfl, .int mru, .ref aTo, .ref aDr, .int (bI mpd), .int mk, .long mg, .long mw, .int mn, .int (bI mgp), .long mga, .long mgb, .int mfc, .ref aBx]))]) 0 0 (tA [(m0, .inr (6, [.int mcode, .long mtot, .ref aTy, .int msz, .int mat, .int mfl, .int mru, .ref aTo, .ref aDr, .int (bI mpd), .int mk, .long mg, .long mw, .int mn, .int (bI mgp), .long mga, .long mgb, .int mfc, .ref aBx]))]) := by
  refine Met.ofW (cc := bM_step) (maxL := 3) (ret := (some .long)) (by decide) rfl ?_
  intro p e s m args below meth c s₁ B hml hv
  obtain ⟨rfl, hP, hK, hN, hD0⟩ := hv
  have hx := B.exec
  have hb := B.bytes
  have hr := B.returns
  have hts : ∀ w ∈ gT, w.before _ s = true := fun w h => atoms_spec (ws := wM_step) B.pre w (List.mem_cons_of_mem _ h)
  have hown : s.vm.findClass RM = some m.cls := findClass_of_methodNamed B.named
  have hlocks := B.notSynchronized
  have hD := tA_D hD0
  generalize hAe : tA [(m0, .inr (6, [.int mcode, .long mtot, .ref aTy, .int msz, .int mat, .int mfl, .int mru, .ref aTo, .ref aDr, .int (bI mpd), .int mk, .long mg, .long mw, .int mn, .int (bI mgp), .long mga, .long mgb, .int mfc, .ref aBx]))] = A at hD ⊢
  have hS : va_S A s.heap s.heap [] := va_S.rf
  have hP : va_P (dC, dI) vCl [(m0, .inr (6, [.int mcode, .long mtot, .ref aTy, .int msz, .int mat, .int mfl, .int mru, .ref aTo, .ref aDr, .int (bI mpd), .int mk, .long mg, .long mw, .int mn, .int (bI mgp), .long mga, .long mgb, .int mfc, .ref aBx]))] s.heap := hP
  have hl := lv_entry ([.ref m0, .int k, .int what]) (n := 3) (Nat.le_of_ble_eq_true rfl)
  rw [lg_entry_eq]
  generalize (lg_sl ([.ref m0, .int k, .int what]) ++ List.replicate (3 - (lg_sl ([.ref m0, .int k, .int what])).length) Slot.unset).toArray = ls at hl ⊢
  have hl : lv_has ls 3 [(0, .ref m0), (1, .int k), (2, .int what)] := hl
  refine lv_aload_n hx hb dM_step_0 rfl (lv_at hl 0 rfl) ?_
  refine tc_go (st1 := [.int (bI (fM_none mcode mtot msz mat mfl mru mpd mk mg mw mn mgp mga mgb mfc))]) (ws' := [(m0, .inr (6, [.int (fM_none_c0f0 mcode mtot msz mat mfl mru mpd mk mg mw mn mgp mga mgb mfc), .long mtot, .ref aTy, .int msz, .int mat, .int mfl, .int mru, .ref aTo, .ref aDr, .int (bI mpd), .int mk, .long mg, .long mw, .int mn, .int (bI mgp), .long mga, .long mgb, .int mfc, .ref aBx]))]) (va_runV (As := []) (rest := []) (C := RM) ⟨hx, hb, hml, hown, hts⟩ (c_M_none l dC dI m0 aTy aTo aDr aBx mcode mtot msz mat mfl mru mpd mk mg mw mn mgp mga mgb mfc) ⟨cB 0 hts gw_671 gw_7 gw_669 ndM_none rfl rfl ⟨Nat.le_of_ble_eq_true rfl, Nat.le_of_ble_eq_true rfl⟩, hts _ gw_670, hts _ gw_764⟩ (tp_Wv hN hK hP hD [0] [] rfl (by decide) rfl (q0 := 0) (ci := 6) rfl rfl) rfl rfl hl.1 rfl (lv_room (Nat.le_of_ble_eq_true rfl)) dM_step_1 ⟨Nat.le_of_ble_eq_true rfl, Nat.le_of_ble_eq_true rfl⟩) rfl hP hD hS [0] rfl rfl rfl (fun H locs hP hD hS => ?_)
  have hP : va_P (dC, dI) vCl [(m0, .inr (6, [.int (fM_none_c0f0 mcode mtot msz mat mfl mru mpd mk mg mw mn mgp mga mgb mfc), .long mtot, .ref aTy, .int msz, .int mat, .int mfl, .int mru, .ref aTo, .ref aDr, .int (bI mpd), .int mk, .long mg, .long mw, .int mn, .int (bI mgp), .long mga, .long mgb, .int mfc, .ref aBx]))] H := hP
  have hD : va_D A [(m0, .inr (6, [.int (fM_none_c0f0 mcode mtot msz mat mfl mru mpd mk mg mw mn mgp mga mgb mfc), .long mtot, .ref aTy, .int msz, .int mat, .int mfl, .int mru, .ref aTo, .ref aDr, .int (bI mpd), .int mk, .long mg, .long mw, .int mn, .int (bI mgp), .long mga, .long mgb, .int mfc, .ref aBx]))] := hD
  refine tb_ifeq (tgt := 9) hx hb dM_step_4 (by decide) (fun c_1 => ?_) (fun c_1 => ?_)
  · skip
    refine lv_aload_n hx hb dM_step_9 rfl (lv_at hl 0 rfl) ?_
    refine lv_iload_n hx hb dM_step_10 rfl (lv_at hl 1 rfl) ?_
    refine lv_if_lt (tgt := 24) hx hb dM_step_11 (by decide) (fun c_2 => ?_) (fun c_2 => ?_)
    · skip
      refine lv_iconst (v := 2) hx hb dM_step_24 (by decide) ?_
      refine lv_goto (tgt := 45) hx hb dM_step_25 (by decide) ?_
      refine va_put (D := (dC, dI)) (ci := 6) (v := .int 2) (ty := .int) (C := RM) (T := TM) (N := 19) hx hb hts inM yM yoM noM hown hK hP hD hS 0 rfl rfl 0 (by decide) (hts _ gw_574) (fun _ h9 => h9) rfl (by decide +kernel) rfl rfl (Nat.le_of_ble_eq_true rfl) dM_step_45 (fun H locs hP hD hS => ?_)
      have hP : va_P (dC, dI) vCl [(m0, .inr (6, [.int 2, .long mtot, .ref aTy, .int msz, .int mat, .int mfl, .int mru, .ref aTo, .ref aDr, .int (bI mpd), .int mk, .long mg, .long mw, .int mn, .int (bI mgp), .long mga, .long mgb, .int mfc, .ref aBx]))] H := hP
      have hD : va_D A [(m0, .inr (6, [.int 2, .long mtot, .ref aTy, .int msz, .int mat, .int mfl, .int mru, .ref aTo, .ref aDr, .int (bI mpd), .int mk, .long mg, .long mw, .int mn, .int (bI mgp), .long mga, .long mgb, .int mfc, .ref aBx]))] := hD
      refine lv_aload_n hx hb dM_step_48 rfl (lv_at hl 0 rfl) ?_
      refine va_get (D := (dC, dI)) (ci := 6) (v := .int 2) (C := RM) (T := TM) (N := 19) hx hb hts inM hown hK hP 0 rfl rfl 0 (by decide) (hts _ gw_574) (fun _ h9 => h9) rfl dM_step_49 ?_
      refine lv_if_le (tgt := 57) hx hb dM_step_52 (by decide) (fun c_3 => absurd c_3 (by decide)) (fun c_3 => ?_)
      refine lv_lconst (v := 0) hx hb dM_step_55 (by decide) ?_
      exact W.lret (v := 0) hx hb hr (fun t ht hW => ⟨by rw [show fM_step mcode mtot msz mat mfl mru mpd mk mg mw mn mgp mga mgb mfc k what = 0 from by unfold fM_step; rw [if_neg (Bool.eq_false_iff.mp c_1), if_pos c_2]], by rw [ht, show fM_step_c0f0 mcode mtot msz mat mfl mru mpd mk mg mw mn mgp mga mgb mfc k what = 2 from by unfold fM_step_c0f0; rw [if_neg (Bool.eq_false_iff.mp c_1), if_pos c_2]]; exact hP, by rw [hAe]; exact hS.F ht⟩) hS.2.2 dM_step_56
    · skip
      refine lv_iload_n hx hb dM_step_14 rfl (lv_at hl 1 rfl) ?_
      refine lv_aload_n hx hb dM_step_15 rfl (lv_at hl 0 rfl) ?_
      refine va_get (D := (dC, dI)) (ci := 6) (v := .int mn) (C := RM) (T := TM) (N := 19) hx hb hts inM hown hK hP 0 rfl rfl 13 (by decide) (hts _ gw_587) (fun _ h9 => h9) rfl dM_step_16 ?_
      refine lv_iconst (v := 1) hx hb dM_step_19 (by decide) ?_
      refine lv_isub hx hb dM_step_20 ?_
      refine lv_icmp_lt (tgt := 28) hx hb dM_step_21 (by decide) (fun c_4 => ?_) (fun c_4 => ?_)
      · skip
        refine lv_iload_n hx hb dM_step_28 rfl (lv_at hl 2 rfl) ?_
        refine lv_i2l (v := what.toInt64) hx hb dM_step_29 rfl ?_
        refine lv_lconst (v := 0) hx hb dM_step_30 (by decide) ?_
        refine lv_ldc2 (v := 5) hx hb hown (hts _ gw_679) dM_step_31 ?_
        refine tr_go (st1 := [.int (bI (fM_isIn what.toInt64 0 5)), .ref m0]) (va_runS (As := [.long what.toInt64, .long 0, .long 5]) (rest := [.ref m0]) ⟨hx, hb, hml, hown, hts⟩ (c_M_isIn l dC dI what.toInt64 0 5) ⟨cB 3 hts gw_623 gw_7 gw_621 ndM_isIn rfl rfl ⟨Nat.le_of_ble_eq_true rfl, Nat.le_of_ble_eq_true rfl⟩, hts _ gw_622⟩ (tp_Rs hN hK hP [] [] rfl rfl) rfl rfl hl.1 rfl (lv_room (Nat.le_of_ble_eq_true rfl)) dM_step_34 ⟨Nat.le_of_ble_eq_true rfl, Nat.le_of_ble_eq_true rfl⟩) rfl ?_
        refine tb_ifeq (tgt := 44) hx hb dM_step_37 (by decide) (fun c_5 => ?_) (fun c_5 => ?_)
        · skip
          refine lv_iconst (v := 3) hx hb dM_step_44 (by decide) ?_
          refine va_put (D := (dC, dI)) (ci := 6) (v := .int 3) (ty := .int) (C := RM) (T := TM) (N := 19) hx hb hts inM yM yoM noM hown hK hP hD hS 0 rfl rfl 0 (by decide) (hts _ gw_574) (fun _ h9 => h9) rfl (by decide +kernel) rfl rfl (Nat.le_of_ble_eq_true rfl) dM_step_45 (fun H locs hP hD hS => ?_)
          have hP : va_P (dC, dI) vCl [(m0, .inr (6, [.int 3, .long mtot, .ref aTy, .int msz, .int mat, .int mfl, .int mru, .ref aTo, .ref aDr, .int (bI mpd), .int mk, .long mg, .long mw, .int mn, .int (bI mgp), .long mga, .long mgb, .int mfc, .ref aBx]))] H := hP
          have hD : va_D A [(m0, .inr (6, [.int 3, .long mtot, .ref aTy, .int msz, .int mat, .int mfl, .int mru, .ref aTo, .ref aDr, .int (bI mpd), .int mk, .long mg, .long mw, .int mn, .int (bI mgp), .long mga, .long mgb, .int mfc, .ref aBx]))] := hD
          refine lv_aload_n hx hb dM_step_48 rfl (lv_at hl 0 rfl) ?_
          refine va_get (D := (dC, dI)) (ci := 6) (v := .int 3) (C := RM) (T := TM) (N := 19) hx hb hts inM hown hK hP 0 rfl rfl 0 (by decide) (hts _ gw_574) (fun _ h9 => h9) rfl dM_step_49 ?_
          refine lv_if_le (tgt := 57) hx hb dM_step_52 (by decide) (fun c_6 => absurd c_6 (by decide)) (fun c_6 => ?_)
          refine lv_lconst (v := 0) hx hb dM_step_55 (by decide) ?_
          exact W.lret (v := 0) hx hb hr (fun t ht hW => ⟨by rw [show fM_step mcode mtot msz mat mfl mru mpd mk mg mw mn mgp mga mgb mfc k what = 0 from by unfold fM_step; rw [if_neg (Bool.eq_false_iff.mp c_1), if_neg c_2, if_pos c_4, if_neg (Bool.eq_false_iff.mp c_5)]], by rw [ht, show fM_step_c0f0 mcode mtot msz mat mfl mru mpd mk mg mw mn mgp mga mgb mfc k what = 3 from by unfold fM_step_c0f0; rw [if_neg (Bool.eq_false_iff.mp c_1), if_neg c_2, if_pos c_4, if_neg (Bool.eq_false_iff.mp c_5)]]; exact hP, by rw [hAe]; exact hS.F ht⟩) hS.2.2 dM_step_56
        · skip
          refine lv_iconst (v := 0) hx hb dM_step_40 (by decide) ?_
          refine lv_goto (tgt := 45) hx hb dM_step_41 (by decide) ?_
          refine va_put (D := (dC, dI)) (ci := 6) (v := .int 0) (ty := .int) (C := RM) (T := TM) (N := 19) hx hb hts inM yM yoM noM hown hK hP hD hS 0 rfl rfl 0 (by decide) (hts _ gw_574) (fun _ h9 => h9) rfl (by decide +kernel) rfl rfl (Nat.le_of_ble_eq_true rfl) dM_step_45 (fun H locs hP hD hS => ?_)
          have hP : va_P (dC, dI) vCl [(m0, .inr (6, [.int 0, .long mtot, .ref aTy, .int msz, .int mat, .int mfl, .int mru, .ref aTo, .ref aDr, .int (bI mpd), .int mk, .long mg, .long mw, .int mn, .int (bI mgp), .long mga, .long mgb, .int mfc, .ref aBx]))] H := hP
          have hD : va_D A [(m0, .inr (6, [.int 0, .long mtot, .ref aTy, .int msz, .int mat, .int mfl, .int mru, .ref aTo, .ref aDr, .int (bI mpd), .int mk, .long mg, .long mw, .int mn, .int (bI mgp), .long mga, .long mgb, .int mfc, .ref aBx]))] := hD
          refine lv_aload_n hx hb dM_step_48 rfl (lv_at hl 0 rfl) ?_
          refine va_get (D := (dC, dI)) (ci := 6) (v := .int 0) (C := RM) (T := TM) (N := 19) hx hb hts inM hown hK hP 0 rfl rfl 0 (by decide) (hts _ gw_574) (fun _ h9 => h9) rfl dM_step_49 ?_
          refine lv_if_le (tgt := 57) hx hb dM_step_52 (by decide) (fun c_7 => ?_) (fun c_7 => absurd (by decide) c_7)
          refine lv_iload_n hx hb dM_step_57 rfl (lv_at hl 2 rfl) ?_
          refine lv_iconst (v := 4) hx hb dM_step_58 (by decide) ?_
          refine lv_icmp_ne (tgt := 71) hx hb dM_step_59 (by decide) (fun c_8 => ?_) (fun c_8 => ?_)
          · skip
            refine lv_iload_n hx hb dM_step_71 rfl (lv_at hl 2 rfl) ?_
            refine lv_iconst (v := 5) hx hb dM_step_72 (by decide) ?_
            refine lv_icmp_ne (tgt := 88) hx hb dM_step_73 (by decide) (fun c_9 => ?_) (fun c_9 => ?_)
            · skip
              refine lv_aload_n hx hb dM_step_88 rfl (lv_at hl 0 rfl) ?_
              refine lv_iload_n hx hb dM_step_89 rfl (lv_at hl 1 rfl) ?_
              refine lv_iload_n hx hb dM_step_90 rfl (lv_at hl 2 rfl) ?_
              refine tr_go (st1 := [.long (fM_side 0 mtot msz mat mfl mru mpd mk mg mw mn mgp mga mgb mfc k what)]) (va_runV (As := [.int k, .int what]) (rest := []) (C := RM) ⟨hx, hb, hml, hown, hts⟩ (c_M_side l dC dI m0 aTy aTo aDr aBx 0 mtot msz mat mfl mru mpd mk mg mw mn mgp mga mgb mfc k what) ⟨cB 2 hts gw_691 gw_7 gw_689 ndM_side rfl rfl ⟨Nat.le_of_ble_eq_true rfl, Nat.le_of_ble_eq_true rfl⟩, hts _ gw_690, hts _ gw_768⟩ (tp_Rv hN hK hP [0] [] rfl rfl (q0 := 0) (ci := 6) rfl rfl) rfl rfl hl.1 rfl (lv_room (Nat.le_of_ble_eq_true rfl)) dM_step_91 ⟨Nat.le_of_ble_eq_true rfl, Nat.le_of_ble_eq_true rfl⟩) rfl ?_
              exact W.lret (v := fM_side 0 mtot msz mat mfl mru mpd mk mg mw mn mgp mga mgb mfc k what) hx hb hr (fun t ht hW => ⟨by rw [show fM_step mcode mtot msz mat mfl mru mpd mk mg mw mn mgp mga mgb mfc k what = fM_side 0 mtot msz mat mfl mru mpd mk mg mw mn mgp mga mgb mfc k what from by unfold fM_step; rw [if_neg (Bool.eq_false_iff.mp c_1), if_neg c_2, if_pos c_4, if_pos c_5, if_neg c_8, if_neg c_9]], by rw [ht, show fM_step_c0f0 mcode mtot msz mat mfl mru mpd mk mg mw mn mgp mga mgb mfc k what = 0 from by unfold fM_step_c0f0; rw [if_neg (Bool.eq_false_iff.mp c_1), if_neg c_2, if_pos c_4, if_pos c_5, if_neg c_8, if_neg c_9]]; exact hP, by rw [hAe]; exact hS.F ht⟩) hS.2.2 dM_step_94
            · skip
              refine lv_iload_n hx hb dM_step_76 rfl (lv_at hl 1 rfl) ?_
              refine lv_iconst (v := 1) hx hb dM_step_77 (by decide) ?_
              refine lv_iadd hx hb dM_step_78 ?_
              refine lv_i2l (v := (k + 1).toInt64) hx hb dM_step_79 rfl ?_
              refine lv_aload_n hx hb dM_step_80 rfl (lv_at hl 0 rfl) ?_
              refine va_get (D := (dC, dI)) (ci := 6) (v := .long mtot) (C := RM) (T := TM) (N := 19) hx hb hts inM hown hK hP 0 rfl rfl 1 (by decide) (hts _ gw_575) (fun _ h9 => h9) rfl dM_step_81 ?_
              refine lv_lmul hx hb dM_step_84 ?_
              refine lv_goto (tgt := 94) hx hb dM_step_85 (by decide) ?_
              exact W.lret (v := ((k + 1).toInt64) * mtot) hx hb hr (fun t ht hW => ⟨by rw [show fM_step mcode mtot msz mat mfl mru mpd mk mg mw mn mgp mga mgb mfc k what = ((k + 1).toInt64) * mtot from by unfold fM_step; rw [if_neg (Bool.eq_false_iff.mp c_1), if_neg c_2, if_pos c_4, if_pos c_5, if_neg c_8, if_pos c_9]], by rw [ht, show fM_step_c0f0 mcode mtot msz mat mfl mru mpd mk mg mw mn mgp mga mgb mfc k what = 0 from by unfold fM_step_c0f0; rw [if_neg (Bool.eq_false_iff.mp c_1), if_neg c_2, if_pos c_4, if_pos c_5, if_neg c_8, if_pos c_9]]; exact hP, by rw [hAe]; exact hS.F ht⟩) hS.2.2 dM_step_94
          · skip
            refine lv_aload_n hx hb dM_step_62 rfl (lv_at hl 0 rfl) ?_
            refine lv_iload_n hx hb dM_step_63 rfl (lv_at hl 1 rfl) ?_
            refine tr_go (st1 := [.int (fM_sort 0 mtot msz mat mfl mru mpd mk mg mw mn mgp mga mgb mfc k)]) (va_runV (As := [.int k]) (rest := []) (C := RM) ⟨hx, hb, hml, hown, hts⟩ (c_M_sort l dC dI m0 aTy aTo aDr aBx 0 mtot msz mat mfl mru mpd mk mg mw mn mgp mga mgb mfc k) ⟨cB 1 hts gw_682 gw_7 gw_680 ndM_sort rfl rfl ⟨Nat.le_of_ble_eq_true rfl, Nat.le_of_ble_eq_true rfl⟩, hts _ gw_681, hts _ gw_765⟩ (tp_Rv hN hK hP [0] [] rfl rfl (q0 := 0) (ci := 6) rfl rfl) rfl rfl hl.1 rfl (lv_room (Nat.le_of_ble_eq_true rfl)) dM_step_64 ⟨Nat.le_of_ble_eq_true rfl, Nat.le_of_ble_eq_true rfl⟩) rfl ?_
            refine lv_i2l (v := (fM_sort 0 mtot msz mat mfl mru mpd mk mg mw mn mgp mga mgb mfc k).toInt64) hx hb dM_step_67 rfl ?_
            refine lv_goto (tgt := 94) hx hb dM_step_68 (by decide) ?_
            exact W.lret (v := (fM_sort 0 mtot msz mat mfl mru mpd mk mg mw mn mgp mga mgb mfc k).toInt64) hx hb hr (fun t ht hW => ⟨by rw [show fM_step mcode mtot msz mat mfl mru mpd mk mg mw mn mgp mga mgb mfc k what = (fM_sort 0 mtot msz mat mfl mru mpd mk mg mw mn mgp mga mgb mfc k).toInt64 from by unfold fM_step; rw [if_neg (Bool.eq_false_iff.mp c_1), if_neg c_2, if_pos c_4, if_pos c_5, if_pos c_8]], by rw [ht, show fM_step_c0f0 mcode mtot msz mat mfl mru mpd mk mg mw mn mgp mga mgb mfc k what = 0 from by unfold fM_step_c0f0; rw [if_neg (Bool.eq_false_iff.mp c_1), if_neg c_2, if_pos c_4, if_pos c_5, if_pos c_8]]; exact hP, by rw [hAe]; exact hS.F ht⟩) hS.2.2 dM_step_94
      · skip
        refine lv_iconst (v := 2) hx hb dM_step_24 (by decide) ?_
        refine lv_goto (tgt := 45) hx hb dM_step_25 (by decide) ?_
        refine va_put (D := (dC, dI)) (ci := 6) (v := .int 2) (ty := .int) (C := RM) (T := TM) (N := 19) hx hb hts inM yM yoM noM hown hK hP hD hS 0 rfl rfl 0 (by decide) (hts _ gw_574) (fun _ h9 => h9) rfl (by decide +kernel) rfl rfl (Nat.le_of_ble_eq_true rfl) dM_step_45 (fun H locs hP hD hS => ?_)
        have hP : va_P (dC, dI) vCl [(m0, .inr (6, [.int 2, .long mtot, .ref aTy, .int msz, .int mat, .int mfl, .int mru, .ref aTo, .ref aDr, .int (bI mpd), .int mk, .long mg, .long mw, .int mn, .int (bI mgp), .long mga, .long mgb, .int mfc, .ref aBx]))] H := hP
        have hD : va_D A [(m0, .inr (6, [.int 2, .long mtot, .ref aTy, .int msz, .int mat, .int mfl, .int mru, .ref aTo, .ref aDr, .int (bI mpd), .int mk, .long mg, .long mw, .int mn, .int (bI mgp), .long mga, .long mgb, .int mfc, .ref aBx]))] := hD
        refine lv_aload_n hx hb dM_step_48 rfl (lv_at hl 0 rfl) ?_
        refine va_get (D := (dC, dI)) (ci := 6) (v := .int 2) (C := RM) (T := TM) (N := 19) hx hb hts inM hown hK hP 0 rfl rfl 0 (by decide) (hts _ gw_574) (fun _ h9 => h9) rfl dM_step_49 ?_
        refine lv_if_le (tgt := 57) hx hb dM_step_52 (by decide) (fun c_10 => absurd c_10 (by decide)) (fun c_10 => ?_)
        refine lv_lconst (v := 0) hx hb dM_step_55 (by decide) ?_
        exact W.lret (v := 0) hx hb hr (fun t ht hW => ⟨by rw [show fM_step mcode mtot msz mat mfl mru mpd mk mg mw mn mgp mga mgb mfc k what = 0 from by unfold fM_step; rw [if_neg (Bool.eq_false_iff.mp c_1), if_neg c_2, if_neg c_4]], by rw [ht, show fM_step_c0f0 mcode mtot msz mat mfl mru mpd mk mg mw mn mgp mga mgb mfc k what = 2 from by unfold fM_step_c0f0; rw [if_neg (Bool.eq_false_iff.mp c_1), if_neg c_2, if_neg c_4]]; exact hP, by rw [hAe]; exact hS.F ht⟩) hS.2.2 dM_step_56
  · skip
    refine lv_lconst (v := 0) hx hb dM_step_7 (by decide) ?_
    exact W.lret (v := 0) hx hb hr (fun t ht hW => ⟨by rw [show fM_step mcode mtot msz mat mfl mru mpd mk mg mw mn mgp mga mgb mfc k what = 0 from by unfold fM_step; rw [if_pos c_1]], by rw [ht, show fM_step_c0f0 mcode mtot msz mat mfl mru mpd mk mg mw mn mgp mga mgb mfc k what = fM_none_c0f0 mcode mtot msz mat mfl mru mpd mk mg mw mn mgp mga mgb mfc from by unfold fM_step_c0f0; rw [if_pos c_1]]; exact hP, by rw [hAe]; exact hS.F ht⟩) hS.2.2 dM_step_8

def fM_winder_c0f0 (mcode : Int32) (mtot : Int64) (msz : Int32) (mat : Int32) (mfl : Int32) (mru : Int32) (mpd : Bool) (mk : Int32) (mg : Int64) (mw : Int64) (mn : Int32) (mgp : Bool) (mga : Int64) (mgb : Int64) (mfc : Int32) (edge : Int32) (axis : Int32) : Int32 := if (fM_noWinders mcode mtot msz mat mfl mru mpd mk mg mw mn mgp mga mgb mfc) = true then (fM_noWinders_c0f0 mcode mtot msz mat mfl mru mpd mk mg mw mn mgp mga mgb mfc) else (if (fM_isIn edge.toInt64 0 3) = true then (if (fM_isIn axis.toInt64 0 1) = true then (if axis = 1 then (if ((2 * edge.toInt64) * mw) ≤ (3 * mw) then 0 else 0) else (if ((2 * edge.toInt64) * mw) ≤ (3 * mw) then 0 else 0)) else 2) else 2)
def fM_winder (mcode : Int32) (mtot : Int64) (msz : Int32) (mat : Int32) (mfl : Int32) (mru : Int32) (mpd : Bool) (mk : Int32) (mg : Int64) (mw : Int64) (mn : Int32) (mgp : Bool) (mga : Int64) (mgb : Int64) (mfc : Int32) (edge : Int32) (axis : Int32) : Int64 := if (fM_noWinders mcode mtot msz mat mfl mru mpd mk mg mw mn mgp mga mgb mfc) = true then 0 else (if (fM_isIn edge.toInt64 0 3) = true then (if (fM_isIn axis.toInt64 0 1) = true then (if axis = 1 then (if ((2 * edge.toInt64) * mw) ≤ (3 * mw) then 0 else (((2 * edge.toInt64) * mw) - (3 * mw))) else (if ((2 * edge.toInt64) * mw) ≤ (3 * mw) then (((3 * ((fM_before 0 mtot msz mat mfl mru mpd mk mg mw mn mgp mga mgb mfc).toInt64)) * mg) + ((2 * edge.toInt64) * mw)) else (((3 * ((fM_before 0 mtot msz mat mfl mru mpd mk mg mw mn mgp mga mgb mfc).toInt64)) * mg) + (3 * mw)))) else 0) else 0)
set_option maxHeartbeats 4000000 in
set_option maxRecDepth 100000 in
theorem c_M_winder (l : Launch) (dC : Nat → ClassId) (dI : Nat → Nat → Nat) (m0 : Nat) (aTy : Nat) (aTo : Nat) (aDr : Nat) (aBx : Nat) (mcode : Int32) (mtot : Int64) (msz : Int32) (mat : Int32) (mfl : Int32) (mru : Int32) (mpd : Bool) (mk : Int32) (mg : Int64) (mw : Int64) (mn : Int32) (mgp : Bool) (mga : Int64) (mgb : Int64) (mfc : Int32) (edge : Int32) (axis : Int32) : Met l mM_winder wM_winder ({ frames := 1, cells := 0, slots := 0, locals := 25 }) (tp_W (dC, dI) vCl [.ref m0, .int edge, .int axis] [(m0, .inr (6, [.int mcode, .long mtot, .ref aTy, .int msz, .int mat, .int mfl, .int mru, .ref aTo, .ref aDr, .int (bI mpd), .int mk, .long mg, .long mw, .int mn, .int (bI mgp), .long mga, .long mgb, .int mfc, .ref aBx]))] []) (tq_W (dC, dI) vCl (some (.long (fM_winder mcode mtot msz mat mfl mru mpd mk mg mw mn mgp mga mgb mfc edge axis))) [(m0, .inr (6, [.int mcode, .long mtot, .ref aTy, .int msz, .int mat, .int mfl, .int mru, .ref aTo, .ref aDr, .int (bI mpd), .int mk, .long mg, .long mw, .int mn, .int (bI mgp), .long mga, .long mgb, .int mfc, .ref aBx]))] [(m0, .inr (6, [.int (fM_winder_c0f0 mcode mtot msz mat mfl mru mpd mk mg mw mn mgp mga mgb mfc edge axis), .long mtot, .ref aTy, .int msz, .int mat, .int mfl, .int mru, .ref aTo, .ref aDr, .int (bI mpd), .int mk, .long mg, .long mw, .int mn, .int (bI mgp), .long mga, .long mgb, .int mfc, .ref aBx]))]) 0 0 (tA [(m0, .inr (6, [.int mcode, .long mtot, .ref aTy, .int msz, .int mat, .int mfl, .int mru, .ref aTo, .ref aDr, .int (bI mpd), .int mk, .long mg, .long mw, .int mn, .int (bI mgp), .long mga, .long mgb, .int mfc, .ref aBx]))]) := by
  refine Met.ofW (cc := bM_winder) (maxL := 7) (ret := (some .long)) (by decide) rfl ?_
  intro p e s m args below meth c s₁ B hml hv
  obtain ⟨rfl, hP, hK, hN, hD0⟩ := hv
  have hx := B.exec
  have hb := B.bytes
  have hr := B.returns
  have hts : ∀ w ∈ gT, w.before _ s = true := fun w h => atoms_spec (ws := wM_winder) B.pre w (List.mem_cons_of_mem _ h)
  have hown : s.vm.findClass RM = some m.cls := findClass_of_methodNamed B.named
  have hlocks := B.notSynchronized
  have hD := tA_D hD0
  generalize hAe : tA [(m0, .inr (6, [.int mcode, .long mtot, .ref aTy, .int msz, .int mat, .int mfl, .int mru, .ref aTo, .ref aDr, .int (bI mpd), .int mk, .long mg, .long mw, .int mn, .int (bI mgp), .long mga, .long mgb, .int mfc, .ref aBx]))] = A at hD ⊢
  have hS : va_S A s.heap s.heap [] := va_S.rf
  have hP : va_P (dC, dI) vCl [(m0, .inr (6, [.int mcode, .long mtot, .ref aTy, .int msz, .int mat, .int mfl, .int mru, .ref aTo, .ref aDr, .int (bI mpd), .int mk, .long mg, .long mw, .int mn, .int (bI mgp), .long mga, .long mgb, .int mfc, .ref aBx]))] s.heap := hP
  have hl := lv_entry ([.ref m0, .int edge, .int axis]) (n := 7) (Nat.le_of_ble_eq_true rfl)
  rw [lg_entry_eq]
  generalize (lg_sl ([.ref m0, .int edge, .int axis]) ++ List.replicate (7 - (lg_sl ([.ref m0, .int edge, .int axis])).length) Slot.unset).toArray = ls at hl ⊢
  have hl : lv_has ls 7 [(0, .ref m0), (1, .int edge), (2, .int axis)] := hl
  refine lv_aload_n hx hb dM_winder_0 rfl (lv_at hl 0 rfl) ?_
  refine tc_go (st1 := [.int (bI (fM_noWinders mcode mtot msz mat mfl mru mpd mk mg mw mn mgp mga mgb mfc))]) (ws' := [(m0, .inr (6, [.int (fM_noWinders_c0f0 mcode mtot msz mat mfl mru mpd mk mg mw mn mgp mga mgb mfc), .long mtot, .ref aTy, .int msz, .int mat, .int mfl, .int mru, .ref aTo, .ref aDr, .int (bI mpd), .int mk, .long mg, .long mw, .int mn, .int (bI mgp), .long mga, .long mgb, .int mfc, .ref aBx]))]) (va_runV (As := []) (rest := []) (C := RM) ⟨hx, hb, hml, hown, hts⟩ (c_M_noWinders l dC dI m0 aTy aTo aDr aBx mcode mtot msz mat mfl mru mpd mk mg mw mn mgp mga mgb mfc) ⟨cB 0 hts gw_698 gw_7 gw_696 ndM_noWinders rfl rfl ⟨Nat.le_of_ble_eq_true rfl, Nat.le_of_ble_eq_true rfl⟩, hts _ gw_697, hts _ gw_769⟩ (tp_Wv hN hK hP hD [0] [] rfl (by decide) rfl (q0 := 0) (ci := 6) rfl rfl) rfl rfl hl.1 rfl (lv_room (Nat.le_of_ble_eq_true rfl)) dM_winder_1 ⟨Nat.le_of_ble_eq_true rfl, Nat.le_of_ble_eq_true rfl⟩) rfl hP hD hS [0] rfl rfl rfl (fun H locs hP hD hS => ?_)
  have hP : va_P (dC, dI) vCl [(m0, .inr (6, [.int (fM_noWinders_c0f0 mcode mtot msz mat mfl mru mpd mk mg mw mn mgp mga mgb mfc), .long mtot, .ref aTy, .int msz, .int mat, .int mfl, .int mru, .ref aTo, .ref aDr, .int (bI mpd), .int mk, .long mg, .long mw, .int mn, .int (bI mgp), .long mga, .long mgb, .int mfc, .ref aBx]))] H := hP
  have hD : va_D A [(m0, .inr (6, [.int (fM_noWinders_c0f0 mcode mtot msz mat mfl mru mpd mk mg mw mn mgp mga mgb mfc), .long mtot, .ref aTy, .int msz, .int mat, .int mfl, .int mru, .ref aTo, .ref aDr, .int (bI mpd), .int mk, .long mg, .long mw, .int mn, .int (bI mgp), .long mga, .long mgb, .int mfc, .ref aBx]))] := hD
  refine tb_ifeq (tgt := 9) hx hb dM_winder_4 (by decide) (fun c_1 => ?_) (fun c_1 => ?_)
  · skip
    refine lv_aload_n hx hb dM_winder_9 rfl (lv_at hl 0 rfl) ?_
    refine lv_iload_n hx hb dM_winder_10 rfl (lv_at hl 1 rfl) ?_
    refine lv_i2l (v := edge.toInt64) hx hb dM_winder_11 rfl ?_
    refine lv_lconst (v := 0) hx hb dM_winder_12 (by decide) ?_
    refine lv_ldc2 (v := 3) hx hb hown (hts _ gw_699) dM_winder_13 ?_
    refine tr_go (st1 := [.int (bI (fM_isIn edge.toInt64 0 3)), .ref m0]) (va_runS (As := [.long edge.toInt64, .long 0, .long 3]) (rest := [.ref m0]) ⟨hx, hb, hml, hown, hts⟩ (c_M_isIn l dC dI edge.toInt64 0 3) ⟨cB 3 hts gw_623 gw_7 gw_621 ndM_isIn rfl rfl ⟨Nat.le_of_ble_eq_true rfl, Nat.le_of_ble_eq_true rfl⟩, hts _ gw_622⟩ (tp_Rs hN hK hP [] [] rfl rfl) rfl rfl hl.1 rfl (lv_room (Nat.le_of_ble_eq_true rfl)) dM_winder_16 ⟨Nat.le_of_ble_eq_true rfl, Nat.le_of_ble_eq_true rfl⟩) rfl ?_
    refine tb_ifeq (tgt := 36) hx hb dM_winder_19 (by decide) (fun c_2 => ?_) (fun c_2 => ?_)
    · skip
      refine lv_iconst (v := 2) hx hb dM_winder_36 (by decide) ?_
      refine va_put (D := (dC, dI)) (ci := 6) (v := .int 2) (ty := .int) (C := RM) (T := TM) (N := 19) hx hb hts inM yM yoM noM hown hK hP hD hS 0 rfl rfl 0 (by decide) (hts _ gw_574) (fun _ h9 => h9) rfl (by decide +kernel) rfl rfl (Nat.le_of_ble_eq_true rfl) dM_winder_37 (fun H locs hP hD hS => ?_)
      have hP : va_P (dC, dI) vCl [(m0, .inr (6, [.int 2, .long mtot, .ref aTy, .int msz, .int mat, .int mfl, .int mru, .ref aTo, .ref aDr, .int (bI mpd), .int mk, .long mg, .long mw, .int mn, .int (bI mgp), .long mga, .long mgb, .int mfc, .ref aBx]))] H := hP
      have hD : va_D A [(m0, .inr (6, [.int 2, .long mtot, .ref aTy, .int msz, .int mat, .int mfl, .int mru, .ref aTo, .ref aDr, .int (bI mpd), .int mk, .long mg, .long mw, .int mn, .int (bI mgp), .long mga, .long mgb, .int mfc, .ref aBx]))] := hD
      refine lv_aload_n hx hb dM_winder_40 rfl (lv_at hl 0 rfl) ?_
      refine va_get (D := (dC, dI)) (ci := 6) (v := .int 2) (C := RM) (T := TM) (N := 19) hx hb hts inM hown hK hP 0 rfl rfl 0 (by decide) (hts _ gw_574) (fun _ h9 => h9) rfl dM_winder_41 ?_
      refine lv_if_le (tgt := 49) hx hb dM_winder_44 (by decide) (fun c_3 => absurd c_3 (by decide)) (fun c_3 => ?_)
      refine lv_lconst (v := 0) hx hb dM_winder_47 (by decide) ?_
      exact W.lret (v := 0) hx hb hr (fun t ht hW => ⟨by rw [show fM_winder mcode mtot msz mat mfl mru mpd mk mg mw mn mgp mga mgb mfc edge axis = 0 from by unfold fM_winder; rw [if_neg (Bool.eq_false_iff.mp c_1), if_neg (Bool.eq_false_iff.mp c_2)]], by rw [ht, show fM_winder_c0f0 mcode mtot msz mat mfl mru mpd mk mg mw mn mgp mga mgb mfc edge axis = 2 from by unfold fM_winder_c0f0; rw [if_neg (Bool.eq_false_iff.mp c_1), if_neg (Bool.eq_false_iff.mp c_2)]]; exact hP, by rw [hAe]; exact hS.F ht⟩) hS.2.2 dM_winder_48
    · skip
      refine lv_iload_n hx hb dM_winder_22 rfl (lv_at hl 2 rfl) ?_
      refine lv_i2l (v := axis.toInt64) hx hb dM_winder_23 rfl ?_
      refine lv_lconst (v := 0) hx hb dM_winder_24 (by decide) ?_
      refine lv_lconst (v := 1) hx hb dM_winder_25 (by decide) ?_
      refine tr_go (st1 := [.int (bI (fM_isIn axis.toInt64 0 1)), .ref m0]) (va_runS (As := [.long axis.toInt64, .long 0, .long 1]) (rest := [.ref m0]) ⟨hx, hb, hml, hown, hts⟩ (c_M_isIn l dC dI axis.toInt64 0 1) ⟨cB 3 hts gw_623 gw_7 gw_621 ndM_isIn rfl rfl ⟨Nat.le_of_ble_eq_true rfl, Nat.le_of_ble_eq_true rfl⟩, hts _ gw_622⟩ (tp_Rs hN hK hP [] [] rfl rfl) rfl rfl hl.1 rfl (lv_room (Nat.le_of_ble_eq_true rfl)) dM_winder_26 ⟨Nat.le_of_ble_eq_true rfl, Nat.le_of_ble_eq_true rfl⟩) rfl ?_
      refine tb_ifeq (tgt := 36) hx hb dM_winder_29 (by decide) (fun c_4 => ?_) (fun c_4 => ?_)
      · skip
        refine lv_iconst (v := 2) hx hb dM_winder_36 (by decide) ?_
        refine va_put (D := (dC, dI)) (ci := 6) (v := .int 2) (ty := .int) (C := RM) (T := TM) (N := 19) hx hb hts inM yM yoM noM hown hK hP hD hS 0 rfl rfl 0 (by decide) (hts _ gw_574) (fun _ h9 => h9) rfl (by decide +kernel) rfl rfl (Nat.le_of_ble_eq_true rfl) dM_winder_37 (fun H locs hP hD hS => ?_)
        have hP : va_P (dC, dI) vCl [(m0, .inr (6, [.int 2, .long mtot, .ref aTy, .int msz, .int mat, .int mfl, .int mru, .ref aTo, .ref aDr, .int (bI mpd), .int mk, .long mg, .long mw, .int mn, .int (bI mgp), .long mga, .long mgb, .int mfc, .ref aBx]))] H := hP
        have hD : va_D A [(m0, .inr (6, [.int 2, .long mtot, .ref aTy, .int msz, .int mat, .int mfl, .int mru, .ref aTo, .ref aDr, .int (bI mpd), .int mk, .long mg, .long mw, .int mn, .int (bI mgp), .long mga, .long mgb, .int mfc, .ref aBx]))] := hD
        refine lv_aload_n hx hb dM_winder_40 rfl (lv_at hl 0 rfl) ?_
        refine va_get (D := (dC, dI)) (ci := 6) (v := .int 2) (C := RM) (T := TM) (N := 19) hx hb hts inM hown hK hP 0 rfl rfl 0 (by decide) (hts _ gw_574) (fun _ h9 => h9) rfl dM_winder_41 ?_
        refine lv_if_le (tgt := 49) hx hb dM_winder_44 (by decide) (fun c_5 => absurd c_5 (by decide)) (fun c_5 => ?_)
        refine lv_lconst (v := 0) hx hb dM_winder_47 (by decide) ?_
        exact W.lret (v := 0) hx hb hr (fun t ht hW => ⟨by rw [show fM_winder mcode mtot msz mat mfl mru mpd mk mg mw mn mgp mga mgb mfc edge axis = 0 from by unfold fM_winder; rw [if_neg (Bool.eq_false_iff.mp c_1), if_pos c_2, if_neg (Bool.eq_false_iff.mp c_4)]], by rw [ht, show fM_winder_c0f0 mcode mtot msz mat mfl mru mpd mk mg mw mn mgp mga mgb mfc edge axis = 2 from by unfold fM_winder_c0f0; rw [if_neg (Bool.eq_false_iff.mp c_1), if_pos c_2, if_neg (Bool.eq_false_iff.mp c_4)]]; exact hP, by rw [hAe]; exact hS.F ht⟩) hS.2.2 dM_winder_48
      · skip
        refine lv_iconst (v := 0) hx hb dM_winder_32 (by decide) ?_
        refine lv_goto (tgt := 37) hx hb dM_winder_33 (by decide) ?_
        refine va_put (D := (dC, dI)) (ci := 6) (v := .int 0) (ty := .int) (C := RM) (T := TM) (N := 19) hx hb hts inM yM yoM noM hown hK hP hD hS 0 rfl rfl 0 (by decide) (hts _ gw_574) (fun _ h9 => h9) rfl (by decide +kernel) rfl rfl (Nat.le_of_ble_eq_true rfl) dM_winder_37 (fun H locs hP hD hS => ?_)
        have hP : va_P (dC, dI) vCl [(m0, .inr (6, [.int 0, .long mtot, .ref aTy, .int msz, .int mat, .int mfl, .int mru, .ref aTo, .ref aDr, .int (bI mpd), .int mk, .long mg, .long mw, .int mn, .int (bI mgp), .long mga, .long mgb, .int mfc, .ref aBx]))] H := hP
        have hD : va_D A [(m0, .inr (6, [.int 0, .long mtot, .ref aTy, .int msz, .int mat, .int mfl, .int mru, .ref aTo, .ref aDr, .int (bI mpd), .int mk, .long mg, .long mw, .int mn, .int (bI mgp), .long mga, .long mgb, .int mfc, .ref aBx]))] := hD
        refine lv_aload_n hx hb dM_winder_40 rfl (lv_at hl 0 rfl) ?_
        refine va_get (D := (dC, dI)) (ci := 6) (v := .int 0) (C := RM) (T := TM) (N := 19) hx hb hts inM hown hK hP 0 rfl rfl 0 (by decide) (hts _ gw_574) (fun _ h9 => h9) rfl dM_winder_41 ?_
        refine lv_if_le (tgt := 49) hx hb dM_winder_44 (by decide) (fun c_6 => ?_) (fun c_6 => absurd (by decide) c_6)
        refine lv_ldc2 (v := 2) hx hb hown (hts _ gw_657) dM_winder_49 ?_
        refine lv_iload_n hx hb dM_winder_52 rfl (lv_at hl 1 rfl) ?_
        refine lv_i2l (v := edge.toInt64) hx hb dM_winder_53 rfl ?_
        refine lv_lmul hx hb dM_winder_54 ?_
        refine lv_aload_n hx hb dM_winder_55 rfl (lv_at hl 0 rfl) ?_
        refine va_get (D := (dC, dI)) (ci := 6) (v := .long mw) (C := RM) (T := TM) (N := 19) hx hb hts inM hown hK hP 0 rfl rfl 12 (by decide) (hts _ gw_586) (fun _ h9 => h9) rfl dM_winder_56 ?_
        refine lv_lmul hx hb dM_winder_59 ?_
        refine lv_lstore_n (lv' := [(3, .long ((2 * edge.toInt64) * mw)), (0, .ref m0), (1, .int edge), (2, .int axis)]) hx hb dM_winder_60 rfl hl (by decide) rfl (fun ls hl => ?_)
        refine lv_ldc2 (v := 3) hx hb hown (hts _ gw_699) dM_winder_61 ?_
        refine lv_aload_n hx hb dM_winder_64 rfl (lv_at hl 1 rfl) ?_
        refine va_get (D := (dC, dI)) (ci := 6) (v := .long mw) (C := RM) (T := TM) (N := 19) hx hb hts inM hown hK hP 0 rfl rfl 12 (by decide) (hts _ gw_586) (fun _ h9 => h9) rfl dM_winder_65 ?_
        refine lv_lmul hx hb dM_winder_68 ?_
        refine lv_lstore (lv' := [(5, .long (3 * mw)), (3, .long ((2 * edge.toInt64) * mw)), (0, .ref m0), (1, .int edge), (2, .int axis)]) hx hb dM_winder_69 hl (by decide) rfl (fun ls hl => ?_)
        refine lv_iload_n hx hb dM_winder_71 rfl (lv_at hl 4 rfl) ?_
        refine lv_iconst (v := 1) hx hb dM_winder_72 (by decide) ?_
        refine lv_icmp_ne (tgt := 94) hx hb dM_winder_73 (by decide) (fun c_7 => ?_) (fun c_7 => ?_)
        · skip
          refine lv_ldc2 (v := 3) hx hb hown (hts _ gw_699) dM_winder_94 ?_
          refine lv_aload_n hx hb dM_winder_97 rfl (lv_at hl 2 rfl) ?_
          refine tr_go (st1 := [.int (fM_before 0 mtot msz mat mfl mru mpd mk mg mw mn mgp mga mgb mfc), .long 3]) (va_runV (As := []) (rest := [.long 3]) (C := RM) ⟨hx, hb, hml, hown, hts⟩ (c_M_before l dC dI m0 aTy aTo aDr aBx 0 mtot msz mat mfl mru mpd mk mg mw mn mgp mga mgb mfc) ⟨cB 0 hts gw_685 gw_7 gw_683 ndM_before rfl rfl ⟨Nat.le_of_ble_eq_true rfl, Nat.le_of_ble_eq_true rfl⟩, hts _ gw_684, hts _ gw_766⟩ (tp_Rv hN hK hP [0] [] rfl rfl (q0 := 0) (ci := 6) rfl rfl) rfl rfl hl.1 rfl (lv_room (Nat.le_of_ble_eq_true rfl)) dM_winder_98 ⟨Nat.le_of_ble_eq_true rfl, Nat.le_of_ble_eq_true rfl⟩) rfl ?_
          refine lv_i2l (v := (fM_before 0 mtot msz mat mfl mru mpd mk mg mw mn mgp mga mgb mfc).toInt64) hx hb dM_winder_101 rfl ?_
          refine lv_lmul hx hb dM_winder_102 ?_
          refine lv_aload_n hx hb dM_winder_103 rfl (lv_at hl 2 rfl) ?_
          refine va_get (D := (dC, dI)) (ci := 6) (v := .long mg) (C := RM) (T := TM) (N := 19) hx hb hts inM hown hK hP 0 rfl rfl 11 (by decide) (hts _ gw_585) (fun _ h9 => h9) rfl dM_winder_104 ?_
          refine lv_lmul hx hb dM_winder_107 ?_
          refine lv_lload_n hx hb dM_winder_108 rfl (lv_at hl 1 rfl) ?_
          refine lv_lload hx hb dM_winder_109 (lv_at hl 0 rfl) ?_
          refine tl_le (tgt := 120) hx hb dM_winder_111 dM_winder_112 (by decide) (fun c_8 => ?_) (fun c_8 => ?_)
          · skip
            refine lv_lload_n hx hb dM_winder_120 rfl (lv_at hl 1 rfl) ?_
            refine lv_ladd hx hb dM_winder_121 ?_
            exact W.lret (v := ((3 * ((fM_before 0 mtot msz mat mfl mru mpd mk mg mw mn mgp mga mgb mfc).toInt64)) * mg) + ((2 * edge.toInt64) * mw)) hx hb hr (fun t ht hW => ⟨by rw [show fM_winder mcode mtot msz mat mfl mru mpd mk mg mw mn mgp mga mgb mfc edge axis = ((3 * ((fM_before 0 mtot msz mat mfl mru mpd mk mg mw mn mgp mga mgb mfc).toInt64)) * mg) + ((2 * edge.toInt64) * mw) from by unfold fM_winder; rw [if_neg (Bool.eq_false_iff.mp c_1), if_pos c_2, if_pos c_4, if_neg c_7, if_pos c_8]], by rw [ht, show fM_winder_c0f0 mcode mtot msz mat mfl mru mpd mk mg mw mn mgp mga mgb mfc edge axis = 0 from by unfold fM_winder_c0f0; rw [if_neg (Bool.eq_false_iff.mp c_1), if_pos c_2, if_pos c_4, if_neg c_7, if_pos c_8]]; exact hP, by rw [hAe]; exact hS.F ht⟩) hS.2.2 dM_winder_122
          · skip
            refine lv_lload hx hb dM_winder_115 (lv_at hl 0 rfl) ?_
            refine lv_goto (tgt := 121) hx hb dM_winder_117 (by decide) ?_
            refine lv_ladd hx hb dM_winder_121 ?_
            exact W.lret (v := ((3 * ((fM_before 0 mtot msz mat mfl mru mpd mk mg mw mn mgp mga mgb mfc).toInt64)) * mg) + (3 * mw)) hx hb hr (fun t ht hW => ⟨by rw [show fM_winder mcode mtot msz mat mfl mru mpd mk mg mw mn mgp mga mgb mfc edge axis = ((3 * ((fM_before 0 mtot msz mat mfl mru mpd mk mg mw mn mgp mga mgb mfc).toInt64)) * mg) + (3 * mw) from by unfold fM_winder; rw [if_neg (Bool.eq_false_iff.mp c_1), if_pos c_2, if_pos c_4, if_neg c_7, if_neg c_8]], by rw [ht, show fM_winder_c0f0 mcode mtot msz mat mfl mru mpd mk mg mw mn mgp mga mgb mfc edge axis = 0 from by unfold fM_winder_c0f0; rw [if_neg (Bool.eq_false_iff.mp c_1), if_pos c_2, if_pos c_4, if_neg c_7, if_neg c_8]]; exact hP, by rw [hAe]; exact hS.F ht⟩) hS.2.2 dM_winder_122
        · skip
          refine lv_lload_n hx hb dM_winder_76 rfl (lv_at hl 1 rfl) ?_
          refine lv_lload hx hb dM_winder_77 (lv_at hl 0 rfl) ?_
          refine tl_le (tgt := 90) hx hb dM_winder_79 dM_winder_80 (by decide) (fun c_9 => ?_) (fun c_9 => ?_)
          · skip
            refine lv_lconst (v := 0) hx hb dM_winder_90 (by decide) ?_
            refine lv_goto (tgt := 122) hx hb dM_winder_91 (by decide) ?_
            exact W.lret (v := 0) hx hb hr (fun t ht hW => ⟨by rw [show fM_winder mcode mtot msz mat mfl mru mpd mk mg mw mn mgp mga mgb mfc edge axis = 0 from by unfold fM_winder; rw [if_neg (Bool.eq_false_iff.mp c_1), if_pos c_2, if_pos c_4, if_pos c_7, if_pos c_9]], by rw [ht, show fM_winder_c0f0 mcode mtot msz mat mfl mru mpd mk mg mw mn mgp mga mgb mfc edge axis = 0 from by unfold fM_winder_c0f0; rw [if_neg (Bool.eq_false_iff.mp c_1), if_pos c_2, if_pos c_4, if_pos c_7, if_pos c_9]]; exact hP, by rw [hAe]; exact hS.F ht⟩) hS.2.2 dM_winder_122
          · skip
            refine lv_lload_n hx hb dM_winder_83 rfl (lv_at hl 1 rfl) ?_
            refine lv_lload hx hb dM_winder_84 (lv_at hl 0 rfl) ?_
            refine lv_lsub hx hb dM_winder_86 ?_
            refine lv_goto (tgt := 122) hx hb dM_winder_87 (by decide) ?_
            exact W.lret (v := ((2 * edge.toInt64) * mw) - (3 * mw)) hx hb hr (fun t ht hW => ⟨by rw [show fM_winder mcode mtot msz mat mfl mru mpd mk mg mw mn mgp mga mgb mfc edge axis = ((2 * edge.toInt64) * mw) - (3 * mw) from by unfold fM_winder; rw [if_neg (Bool.eq_false_iff.mp c_1), if_pos c_2, if_pos c_4, if_pos c_7, if_neg c_9]], by rw [ht, show fM_winder_c0f0 mcode mtot msz mat mfl mru mpd mk mg mw mn mgp mga mgb mfc edge axis = 0 from by unfold fM_winder_c0f0; rw [if_neg (Bool.eq_false_iff.mp c_1), if_pos c_2, if_pos c_4, if_pos c_7, if_neg c_9]]; exact hP, by rw [hAe]; exact hS.F ht⟩) hS.2.2 dM_winder_122
  · skip
    refine lv_lconst (v := 0) hx hb dM_winder_7 (by decide) ?_
    exact W.lret (v := 0) hx hb hr (fun t ht hW => ⟨by rw [show fM_winder mcode mtot msz mat mfl mru mpd mk mg mw mn mgp mga mgb mfc edge axis = 0 from by unfold fM_winder; rw [if_pos c_1]], by rw [ht, show fM_winder_c0f0 mcode mtot msz mat mfl mru mpd mk mg mw mn mgp mga mgb mfc edge axis = fM_noWinders_c0f0 mcode mtot msz mat mfl mru mpd mk mg mw mn mgp mga mgb mfc from by unfold fM_winder_c0f0; rw [if_pos c_1]]; exact hP, by rw [hAe]; exact hS.F ht⟩) hS.2.2 dM_winder_8

def fM_area_c0f0 (mcode : Int32) (mtot : Int64) (msz : Int32) (mat : Int32) (mfl : Int32) (mru : Int32) (mpd : Bool) (mk : Int32) (mg : Int64) (mw : Int64) (mn : Int32) (mgp : Bool) (mga : Int64) (mgb : Int64) (mfc : Int32) (wi : Int32) : Int32 := if (fM_noWinders mcode mtot msz mat mfl mru mpd mk mg mw mn mgp mga mgb mfc) = true then (fM_noWinders_c0f0 mcode mtot msz mat mfl mru mpd mk mg mw mn mgp mga mgb mfc) else (if (fM_isIn wi.toInt64 0 2) = true then 0 else 2)
def fM_area (mcode : Int32) (mtot : Int64) (msz : Int32) (mat : Int32) (mfl : Int32) (mru : Int32) (mpd : Bool) (mk : Int32) (mg : Int64) (mw : Int64) (mn : Int32) (mgp : Bool) (mga : Int64) (mgb : Int64) (mfc : Int32) (wi : Int32) : Int64 := if (fM_noWinders mcode mtot msz mat mfl mru mpd mk mg mw mn mgp mga mgb mfc) = true then 0 else (if (fM_isIn wi.toInt64 0 2) = true then ((2 * mw) * mw) else 0)
set_option maxHeartbeats 4000000 in
set_option maxRecDepth 100000 in
theorem c_M_area (l : Launch) (dC : Nat → ClassId) (dI : Nat → Nat → Nat) (m0 : Nat) (aTy : Nat) (aTo : Nat) (aDr : Nat) (aBx : Nat) (mcode : Int32) (mtot : Int64) (msz : Int32) (mat : Int32) (mfl : Int32) (mru : Int32) (mpd : Bool) (mk : Int32) (mg : Int64) (mw : Int64) (mn : Int32) (mgp : Bool) (mga : Int64) (mgb : Int64) (mfc : Int32) (wi : Int32) : Met l mM_area wM_area ({ frames := 1, cells := 0, slots := 0, locals := 25 }) (tp_W (dC, dI) vCl [.ref m0, .int wi] [(m0, .inr (6, [.int mcode, .long mtot, .ref aTy, .int msz, .int mat, .int mfl, .int mru, .ref aTo, .ref aDr, .int (bI mpd), .int mk, .long mg, .long mw, .int mn, .int (bI mgp), .long mga, .long mgb, .int mfc, .ref aBx]))] []) (tq_W (dC, dI) vCl (some (.long (fM_area mcode mtot msz mat mfl mru mpd mk mg mw mn mgp mga mgb mfc wi))) [(m0, .inr (6, [.int mcode, .long mtot, .ref aTy, .int msz, .int mat, .int mfl, .int mru, .ref aTo, .ref aDr, .int (bI mpd), .int mk, .long mg, .long mw, .int mn, .int (bI mgp), .long mga, .long mgb, .int mfc, .ref aBx]))] [(m0, .inr (6, [.int (fM_area_c0f0 mcode mtot msz mat mfl mru mpd mk mg mw mn mgp mga mgb mfc wi), .long mtot, .ref aTy, .int msz, .int mat, .int mfl, .int mru, .ref aTo, .ref aDr, .int (bI mpd), .int mk, .long mg, .long mw, .int mn, .int (bI mgp), .long mga, .long mgb, .int mfc, .ref aBx]))]) 0 0 (tA [(m0, .inr (6, [.int mcode, .long mtot, .ref aTy, .int msz, .int mat, .int mfl, .int mru, .ref aTo, .ref aDr, .int (bI mpd), .int mk, .long mg, .long mw, .int mn, .int (bI mgp), .long mga, .long mgb, .int mfc, .ref aBx]))]) := by
  refine Met.ofW (cc := bM_area) (maxL := 2) (ret := (some .long)) (by decide) rfl ?_
  intro p e s m args below meth c s₁ B hml hv
  obtain ⟨rfl, hP, hK, hN, hD0⟩ := hv
  have hx := B.exec
  have hb := B.bytes
  have hr := B.returns
  have hts : ∀ w ∈ gT, w.before _ s = true := fun w h => atoms_spec (ws := wM_area) B.pre w (List.mem_cons_of_mem _ h)
  have hown : s.vm.findClass RM = some m.cls := findClass_of_methodNamed B.named
  have hlocks := B.notSynchronized
  have hD := tA_D hD0
  generalize hAe : tA [(m0, .inr (6, [.int mcode, .long mtot, .ref aTy, .int msz, .int mat, .int mfl, .int mru, .ref aTo, .ref aDr, .int (bI mpd), .int mk, .long mg, .long mw, .int mn, .int (bI mgp), .long mga, .long mgb, .int mfc, .ref aBx]))] = A at hD ⊢
  have hS : va_S A s.heap s.heap [] := va_S.rf
  have hP : va_P (dC, dI) vCl [(m0, .inr (6, [.int mcode, .long mtot, .ref aTy, .int msz, .int mat, .int mfl, .int mru, .ref aTo, .ref aDr, .int (bI mpd), .int mk, .long mg, .long mw, .int mn, .int (bI mgp), .long mga, .long mgb, .int mfc, .ref aBx]))] s.heap := hP
  have hl := lv_entry ([.ref m0, .int wi]) (n := 2) (Nat.le_of_ble_eq_true rfl)
  rw [lg_entry_eq]
  generalize (lg_sl ([.ref m0, .int wi]) ++ List.replicate (2 - (lg_sl ([.ref m0, .int wi])).length) Slot.unset).toArray = ls at hl ⊢
  have hl : lv_has ls 2 [(0, .ref m0), (1, .int wi)] := hl
  refine lv_aload_n hx hb dM_area_0 rfl (lv_at hl 0 rfl) ?_
  refine tc_go (st1 := [.int (bI (fM_noWinders mcode mtot msz mat mfl mru mpd mk mg mw mn mgp mga mgb mfc))]) (ws' := [(m0, .inr (6, [.int (fM_noWinders_c0f0 mcode mtot msz mat mfl mru mpd mk mg mw mn mgp mga mgb mfc), .long mtot, .ref aTy, .int msz, .int mat, .int mfl, .int mru, .ref aTo, .ref aDr, .int (bI mpd), .int mk, .long mg, .long mw, .int mn, .int (bI mgp), .long mga, .long mgb, .int mfc, .ref aBx]))]) (va_runV (As := []) (rest := []) (C := RM) ⟨hx, hb, hml, hown, hts⟩ (c_M_noWinders l dC dI m0 aTy aTo aDr aBx mcode mtot msz mat mfl mru mpd mk mg mw mn mgp mga mgb mfc) ⟨cB 0 hts gw_698 gw_7 gw_696 ndM_noWinders rfl rfl ⟨Nat.le_of_ble_eq_true rfl, Nat.le_of_ble_eq_true rfl⟩, hts _ gw_697, hts _ gw_769⟩ (tp_Wv hN hK hP hD [0] [] rfl (by decide) rfl (q0 := 0) (ci := 6) rfl rfl) rfl rfl hl.1 rfl (lv_room (Nat.le_of_ble_eq_true rfl)) dM_area_1 ⟨Nat.le_of_ble_eq_true rfl, Nat.le_of_ble_eq_true rfl⟩) rfl hP hD hS [0] rfl rfl rfl (fun H locs hP hD hS => ?_)
  have hP : va_P (dC, dI) vCl [(m0, .inr (6, [.int (fM_noWinders_c0f0 mcode mtot msz mat mfl mru mpd mk mg mw mn mgp mga mgb mfc), .long mtot, .ref aTy, .int msz, .int mat, .int mfl, .int mru, .ref aTo, .ref aDr, .int (bI mpd), .int mk, .long mg, .long mw, .int mn, .int (bI mgp), .long mga, .long mgb, .int mfc, .ref aBx]))] H := hP
  have hD : va_D A [(m0, .inr (6, [.int (fM_noWinders_c0f0 mcode mtot msz mat mfl mru mpd mk mg mw mn mgp mga mgb mfc), .long mtot, .ref aTy, .int msz, .int mat, .int mfl, .int mru, .ref aTo, .ref aDr, .int (bI mpd), .int mk, .long mg, .long mw, .int mn, .int (bI mgp), .long mga, .long mgb, .int mfc, .ref aBx]))] := hD
  refine tb_ifeq (tgt := 9) hx hb dM_area_4 (by decide) (fun c_1 => ?_) (fun c_1 => ?_)
  · skip
    refine lv_aload_n hx hb dM_area_9 rfl (lv_at hl 0 rfl) ?_
    refine lv_iload_n hx hb dM_area_10 rfl (lv_at hl 1 rfl) ?_
    refine lv_i2l (v := wi.toInt64) hx hb dM_area_11 rfl ?_
    refine lv_lconst (v := 0) hx hb dM_area_12 (by decide) ?_
    refine lv_ldc2 (v := 2) hx hb hown (hts _ gw_657) dM_area_13 ?_
    refine tr_go (st1 := [.int (bI (fM_isIn wi.toInt64 0 2)), .ref m0]) (va_runS (As := [.long wi.toInt64, .long 0, .long 2]) (rest := [.ref m0]) ⟨hx, hb, hml, hown, hts⟩ (c_M_isIn l dC dI wi.toInt64 0 2) ⟨cB 3 hts gw_623 gw_7 gw_621 ndM_isIn rfl rfl ⟨Nat.le_of_ble_eq_true rfl, Nat.le_of_ble_eq_true rfl⟩, hts _ gw_622⟩ (tp_Rs hN hK hP [] [] rfl rfl) rfl rfl hl.1 rfl (lv_room (Nat.le_of_ble_eq_true rfl)) dM_area_16 ⟨Nat.le_of_ble_eq_true rfl, Nat.le_of_ble_eq_true rfl⟩) rfl ?_
    refine tb_ifeq (tgt := 26) hx hb dM_area_19 (by decide) (fun c_2 => ?_) (fun c_2 => ?_)
    · skip
      refine lv_iconst (v := 2) hx hb dM_area_26 (by decide) ?_
      refine va_put (D := (dC, dI)) (ci := 6) (v := .int 2) (ty := .int) (C := RM) (T := TM) (N := 19) hx hb hts inM yM yoM noM hown hK hP hD hS 0 rfl rfl 0 (by decide) (hts _ gw_574) (fun _ h9 => h9) rfl (by decide +kernel) rfl rfl (Nat.le_of_ble_eq_true rfl) dM_area_27 (fun H locs hP hD hS => ?_)
      have hP : va_P (dC, dI) vCl [(m0, .inr (6, [.int 2, .long mtot, .ref aTy, .int msz, .int mat, .int mfl, .int mru, .ref aTo, .ref aDr, .int (bI mpd), .int mk, .long mg, .long mw, .int mn, .int (bI mgp), .long mga, .long mgb, .int mfc, .ref aBx]))] H := hP
      have hD : va_D A [(m0, .inr (6, [.int 2, .long mtot, .ref aTy, .int msz, .int mat, .int mfl, .int mru, .ref aTo, .ref aDr, .int (bI mpd), .int mk, .long mg, .long mw, .int mn, .int (bI mgp), .long mga, .long mgb, .int mfc, .ref aBx]))] := hD
      refine lv_aload_n hx hb dM_area_30 rfl (lv_at hl 0 rfl) ?_
      refine va_get (D := (dC, dI)) (ci := 6) (v := .int 2) (C := RM) (T := TM) (N := 19) hx hb hts inM hown hK hP 0 rfl rfl 0 (by decide) (hts _ gw_574) (fun _ h9 => h9) rfl dM_area_31 ?_
      refine lv_if_le (tgt := 41) hx hb dM_area_34 (by decide) (fun c_3 => absurd c_3 (by decide)) (fun c_3 => ?_)
      refine lv_lconst (v := 0) hx hb dM_area_37 (by decide) ?_
      refine lv_goto (tgt := 54) hx hb dM_area_38 (by decide) ?_
      exact W.lret (v := 0) hx hb hr (fun t ht hW => ⟨by rw [show fM_area mcode mtot msz mat mfl mru mpd mk mg mw mn mgp mga mgb mfc wi = 0 from by unfold fM_area; rw [if_neg (Bool.eq_false_iff.mp c_1), if_neg (Bool.eq_false_iff.mp c_2)]], by rw [ht, show fM_area_c0f0 mcode mtot msz mat mfl mru mpd mk mg mw mn mgp mga mgb mfc wi = 2 from by unfold fM_area_c0f0; rw [if_neg (Bool.eq_false_iff.mp c_1), if_neg (Bool.eq_false_iff.mp c_2)]]; exact hP, by rw [hAe]; exact hS.F ht⟩) hS.2.2 dM_area_54
    · skip
      refine lv_iconst (v := 0) hx hb dM_area_22 (by decide) ?_
      refine lv_goto (tgt := 27) hx hb dM_area_23 (by decide) ?_
      refine va_put (D := (dC, dI)) (ci := 6) (v := .int 0) (ty := .int) (C := RM) (T := TM) (N := 19) hx hb hts inM yM yoM noM hown hK hP hD hS 0 rfl rfl 0 (by decide) (hts _ gw_574) (fun _ h9 => h9) rfl (by decide +kernel) rfl rfl (Nat.le_of_ble_eq_true rfl) dM_area_27 (fun H locs hP hD hS => ?_)
      have hP : va_P (dC, dI) vCl [(m0, .inr (6, [.int 0, .long mtot, .ref aTy, .int msz, .int mat, .int mfl, .int mru, .ref aTo, .ref aDr, .int (bI mpd), .int mk, .long mg, .long mw, .int mn, .int (bI mgp), .long mga, .long mgb, .int mfc, .ref aBx]))] H := hP
      have hD : va_D A [(m0, .inr (6, [.int 0, .long mtot, .ref aTy, .int msz, .int mat, .int mfl, .int mru, .ref aTo, .ref aDr, .int (bI mpd), .int mk, .long mg, .long mw, .int mn, .int (bI mgp), .long mga, .long mgb, .int mfc, .ref aBx]))] := hD
      refine lv_aload_n hx hb dM_area_30 rfl (lv_at hl 0 rfl) ?_
      refine va_get (D := (dC, dI)) (ci := 6) (v := .int 0) (C := RM) (T := TM) (N := 19) hx hb hts inM hown hK hP 0 rfl rfl 0 (by decide) (hts _ gw_574) (fun _ h9 => h9) rfl dM_area_31 ?_
      refine lv_if_le (tgt := 41) hx hb dM_area_34 (by decide) (fun c_4 => ?_) (fun c_4 => absurd (by decide) c_4)
      refine lv_ldc2 (v := 2) hx hb hown (hts _ gw_657) dM_area_41 ?_
      refine lv_aload_n hx hb dM_area_44 rfl (lv_at hl 0 rfl) ?_
      refine va_get (D := (dC, dI)) (ci := 6) (v := .long mw) (C := RM) (T := TM) (N := 19) hx hb hts inM hown hK hP 0 rfl rfl 12 (by decide) (hts _ gw_586) (fun _ h9 => h9) rfl dM_area_45 ?_
      refine lv_lmul hx hb dM_area_48 ?_
      refine lv_aload_n hx hb dM_area_49 rfl (lv_at hl 0 rfl) ?_
      refine va_get (D := (dC, dI)) (ci := 6) (v := .long mw) (C := RM) (T := TM) (N := 19) hx hb hts inM hown hK hP 0 rfl rfl 12 (by decide) (hts _ gw_586) (fun _ h9 => h9) rfl dM_area_50 ?_
      refine lv_lmul hx hb dM_area_53 ?_
      exact W.lret (v := (2 * mw) * mw) hx hb hr (fun t ht hW => ⟨by rw [show fM_area mcode mtot msz mat mfl mru mpd mk mg mw mn mgp mga mgb mfc wi = (2 * mw) * mw from by unfold fM_area; rw [if_neg (Bool.eq_false_iff.mp c_1), if_pos c_2]], by rw [ht, show fM_area_c0f0 mcode mtot msz mat mfl mru mpd mk mg mw mn mgp mga mgb mfc wi = 0 from by unfold fM_area_c0f0; rw [if_neg (Bool.eq_false_iff.mp c_1), if_pos c_2]]; exact hP, by rw [hAe]; exact hS.F ht⟩) hS.2.2 dM_area_54
  · skip
    refine lv_lconst (v := 0) hx hb dM_area_7 (by decide) ?_
    exact W.lret (v := 0) hx hb hr (fun t ht hW => ⟨by rw [show fM_area mcode mtot msz mat mfl mru mpd mk mg mw mn mgp mga mgb mfc wi = 0 from by unfold fM_area; rw [if_pos c_1]], by rw [ht, show fM_area_c0f0 mcode mtot msz mat mfl mru mpd mk mg mw mn mgp mga mgb mfc wi = fM_noWinders_c0f0 mcode mtot msz mat mfl mru mpd mk mg mw mn mgp mga mgb mfc from by unfold fM_area_c0f0; rw [if_pos c_1]]; exact hP, by rw [hAe]; exact hS.F ht⟩) hS.2.2 dM_area_8

def fM_isPlace (v : Int64) : Bool := if v < (-1000000) then false else (if 1000000 < v then false else true)
set_option maxHeartbeats 4000000 in
set_option maxRecDepth 100000 in
theorem c_M_isPlace (l : Launch) (dC : Nat → ClassId) (dI : Nat → Nat → Nat) (v : Int64) : Met l mM_isPlace wM_isPlace ({ frames := 0, cells := 0, slots := 0, locals := 0 }) (tp_R (dC, dI) vCl [.long v] [] []) (tq_R (some (.int (bI (fM_isPlace v))))) 0 0 (fun _ => False) := by
  refine Met.ofW (cc := bM_isPlace) (maxL := 2) (ret := (some .boolean)) (by decide) rfl ?_
  intro p e s m args below meth c s₁ B hml hv
  obtain ⟨rfl, hP, hK, hN⟩ := hv
  have hx := B.exec
  have hb := B.bytes
  have hr := B.returns
  have hts : ∀ w ∈ gT, w.before _ s = true := fun w h => atoms_spec (ws := wM_isPlace) B.pre w (List.mem_cons_of_mem _ h)
  have hown : s.vm.findClass RM = some m.cls := findClass_of_methodNamed B.named
  have hlocks := B.notSynchronized
  have hP : va_P (dC, dI) vCl [] s.heap := hP
  have hl := lv_entry ([.long v]) (n := 2) (Nat.le_of_ble_eq_true rfl)
  rw [lg_entry_eq]
  generalize (lg_sl ([.long v]) ++ List.replicate (2 - (lg_sl ([.long v])).length) Slot.unset).toArray = ls at hl ⊢
  have hl : lv_has ls 2 [(0, .long v)] := hl
  refine lv_lload_n hx hb dM_isPlace_0 rfl (lv_at hl 0 rfl) ?_
  refine lv_ldc2 (v := (-1000000)) hx hb hown (hts _ gw_715) dM_isPlace_1 ?_
  refine tl_lt (tgt := 20) hx hb dM_isPlace_4 dM_isPlace_5 (by decide) (fun c_1 => ?_) (fun c_1 => ?_)
  · skip
    refine lv_iconst (v := 0) hx hb dM_isPlace_20 (by decide) ?_
    exact W.zret (v := 0) hx hb hr (rfl) (fun t ht hW => ⟨by rw [show fM_isPlace v = false from by unfold fM_isPlace; rw [if_pos c_1]]; rfl, ht⟩) (fun q h => by cases h) dM_isPlace_21
  · skip
    refine lv_lload_n hx hb dM_isPlace_8 rfl (lv_at hl 0 rfl) ?_
    refine lv_ldc2 (v := 1000000) hx hb hown (hts _ gw_716) dM_isPlace_9 ?_
    refine tl_gt (tgt := 20) hx hb dM_isPlace_12 dM_isPlace_13 (by decide) (fun c_2 => ?_) (fun c_2 => ?_)
    · skip
      refine lv_iconst (v := 0) hx hb dM_isPlace_20 (by decide) ?_
      exact W.zret (v := 0) hx hb hr (rfl) (fun t ht hW => ⟨by rw [show fM_isPlace v = false from by unfold fM_isPlace; rw [if_neg c_1, if_pos c_2]]; rfl, ht⟩) (fun q h => by cases h) dM_isPlace_21
    · skip
      refine lv_iconst (v := 1) hx hb dM_isPlace_16 (by decide) ?_
      refine lv_goto (tgt := 21) hx hb dM_isPlace_17 (by decide) ?_
      exact W.zret (v := 1) hx hb hr (rfl) (fun t ht hW => ⟨by rw [show fM_isPlace v = true from by unfold fM_isPlace; rw [if_neg c_1, if_neg c_2]]; rfl, ht⟩) (fun q h => by cases h) dM_isPlace_21

def fM_gap_c0f0 (mcode : Int32) (mtot : Int64) (msz : Int32) (mat : Int32) (mfl : Int32) (mru : Int32) (mpd : Bool) (mk : Int32) (mg : Int64) (mw : Int64) (mn : Int32) (mgp : Bool) (mga : Int64) (mgb : Int64) (mfc : Int32) (part : Int32) : Int32 := if mpd = true then (if mgp = true then (if (fM_isIn part.toInt64 0 1) = true then (if part = 0 then 0 else 0) else 2) else 1) else 1
def fM_gap (mcode : Int32) (mtot : Int64) (msz : Int32) (mat : Int32) (mfl : Int32) (mru : Int32) (mpd : Bool) (mk : Int32) (mg : Int64) (mw : Int64) (mn : Int32) (mgp : Bool) (mga : Int64) (mgb : Int64) (mfc : Int32) (part : Int32) : Int64 := if mpd = true then (if mgp = true then (if (fM_isIn part.toInt64 0 1) = true then (if part = 0 then mga else mgb) else 0) else 0) else 0
set_option maxHeartbeats 4000000 in
set_option maxRecDepth 100000 in
theorem c_M_gap (l : Launch) (dC : Nat → ClassId) (dI : Nat → Nat → Nat) (m0 : Nat) (aTy : Nat) (aTo : Nat) (aDr : Nat) (aBx : Nat) (mcode : Int32) (mtot : Int64) (msz : Int32) (mat : Int32) (mfl : Int32) (mru : Int32) (mpd : Bool) (mk : Int32) (mg : Int64) (mw : Int64) (mn : Int32) (mgp : Bool) (mga : Int64) (mgb : Int64) (mfc : Int32) (part : Int32) : Met l mM_gap wM_gap ({ frames := 1, cells := 0, slots := 0, locals := 25 }) (tp_W (dC, dI) vCl [.ref m0, .int part] [(m0, .inr (6, [.int mcode, .long mtot, .ref aTy, .int msz, .int mat, .int mfl, .int mru, .ref aTo, .ref aDr, .int (bI mpd), .int mk, .long mg, .long mw, .int mn, .int (bI mgp), .long mga, .long mgb, .int mfc, .ref aBx]))] []) (tq_W (dC, dI) vCl (some (.long (fM_gap mcode mtot msz mat mfl mru mpd mk mg mw mn mgp mga mgb mfc part))) [(m0, .inr (6, [.int mcode, .long mtot, .ref aTy, .int msz, .int mat, .int mfl, .int mru, .ref aTo, .ref aDr, .int (bI mpd), .int mk, .long mg, .long mw, .int mn, .int (bI mgp), .long mga, .long mgb, .int mfc, .ref aBx]))] [(m0, .inr (6, [.int (fM_gap_c0f0 mcode mtot msz mat mfl mru mpd mk mg mw mn mgp mga mgb mfc part), .long mtot, .ref aTy, .int msz, .int mat, .int mfl, .int mru, .ref aTo, .ref aDr, .int (bI mpd), .int mk, .long mg, .long mw, .int mn, .int (bI mgp), .long mga, .long mgb, .int mfc, .ref aBx]))]) 0 0 (tA [(m0, .inr (6, [.int mcode, .long mtot, .ref aTy, .int msz, .int mat, .int mfl, .int mru, .ref aTo, .ref aDr, .int (bI mpd), .int mk, .long mg, .long mw, .int mn, .int (bI mgp), .long mga, .long mgb, .int mfc, .ref aBx]))]) := by
  refine Met.ofW (cc := bM_gap) (maxL := 2) (ret := (some .long)) (by decide) rfl ?_
  intro p e s m args below meth c s₁ B hml hv
  obtain ⟨rfl, hP, hK, hN, hD0⟩ := hv
  have hx := B.exec
  have hb := B.bytes
  have hr := B.returns
  have hts : ∀ w ∈ gT, w.before _ s = true := fun w h => atoms_spec (ws := wM_gap) B.pre w (List.mem_cons_of_mem _ h)
  have hown : s.vm.findClass RM = some m.cls := findClass_of_methodNamed B.named
  have hlocks := B.notSynchronized
  have hD := tA_D hD0
  generalize hAe : tA [(m0, .inr (6, [.int mcode, .long mtot, .ref aTy, .int msz, .int mat, .int mfl, .int mru, .ref aTo, .ref aDr, .int (bI mpd), .int mk, .long mg, .long mw, .int mn, .int (bI mgp), .long mga, .long mgb, .int mfc, .ref aBx]))] = A at hD ⊢
  have hS : va_S A s.heap s.heap [] := va_S.rf
  have hP : va_P (dC, dI) vCl [(m0, .inr (6, [.int mcode, .long mtot, .ref aTy, .int msz, .int mat, .int mfl, .int mru, .ref aTo, .ref aDr, .int (bI mpd), .int mk, .long mg, .long mw, .int mn, .int (bI mgp), .long mga, .long mgb, .int mfc, .ref aBx]))] s.heap := hP
  have hl := lv_entry ([.ref m0, .int part]) (n := 2) (Nat.le_of_ble_eq_true rfl)
  rw [lg_entry_eq]
  generalize (lg_sl ([.ref m0, .int part]) ++ List.replicate (2 - (lg_sl ([.ref m0, .int part])).length) Slot.unset).toArray = ls at hl ⊢
  have hl : lv_has ls 2 [(0, .ref m0), (1, .int part)] := hl
  refine lv_aload_n hx hb dM_gap_0 rfl (lv_at hl 0 rfl) ?_
  refine lv_aload_n hx hb dM_gap_1 rfl (lv_at hl 0 rfl) ?_
  refine va_get (D := (dC, dI)) (ci := 6) (v := .int (bI mpd)) (C := RM) (T := TM) (N := 19) hx hb hts inM hown hK hP 0 rfl rfl 9 (by decide) (hts _ gw_583) (fun _ h9 => h9) rfl dM_gap_2 ?_
  refine tb_ifeq (tgt := 15) hx hb dM_gap_5 (by decide) (fun c_1 => ?_) (fun c_1 => ?_)
  · skip
    refine lv_iconst (v := 1) hx hb dM_gap_15 (by decide) ?_
    refine lv_goto (tgt := 34) hx hb dM_gap_16 (by decide) ?_
    refine va_put (D := (dC, dI)) (ci := 6) (v := .int 1) (ty := .int) (C := RM) (T := TM) (N := 19) hx hb hts inM yM yoM noM hown hK hP hD hS 0 rfl rfl 0 (by decide) (hts _ gw_574) (fun _ h9 => h9) rfl (by decide +kernel) rfl rfl (Nat.le_of_ble_eq_true rfl) dM_gap_34 (fun H locs hP hD hS => ?_)
    have hP : va_P (dC, dI) vCl [(m0, .inr (6, [.int 1, .long mtot, .ref aTy, .int msz, .int mat, .int mfl, .int mru, .ref aTo, .ref aDr, .int (bI mpd), .int mk, .long mg, .long mw, .int mn, .int (bI mgp), .long mga, .long mgb, .int mfc, .ref aBx]))] H := hP
    have hD : va_D A [(m0, .inr (6, [.int 1, .long mtot, .ref aTy, .int msz, .int mat, .int mfl, .int mru, .ref aTo, .ref aDr, .int (bI mpd), .int mk, .long mg, .long mw, .int mn, .int (bI mgp), .long mga, .long mgb, .int mfc, .ref aBx]))] := hD
    refine lv_aload_n hx hb dM_gap_37 rfl (lv_at hl 0 rfl) ?_
    refine va_get (D := (dC, dI)) (ci := 6) (v := .int 1) (C := RM) (T := TM) (N := 19) hx hb hts inM hown hK hP 0 rfl rfl 0 (by decide) (hts _ gw_574) (fun _ h9 => h9) rfl dM_gap_38 ?_
    refine lv_if_le (tgt := 48) hx hb dM_gap_41 (by decide) (fun c_2 => absurd c_2 (by decide)) (fun c_2 => ?_)
    refine lv_lconst (v := 0) hx hb dM_gap_44 (by decide) ?_
    refine lv_goto (tgt := 63) hx hb dM_gap_45 (by decide) ?_
    exact W.lret (v := 0) hx hb hr (fun t ht hW => ⟨by rw [show fM_gap mcode mtot msz mat mfl mru mpd mk mg mw mn mgp mga mgb mfc part = 0 from by unfold fM_gap; rw [if_neg (Bool.eq_false_iff.mp c_1)]], by rw [ht, show fM_gap_c0f0 mcode mtot msz mat mfl mru mpd mk mg mw mn mgp mga mgb mfc part = 1 from by unfold fM_gap_c0f0; rw [if_neg (Bool.eq_false_iff.mp c_1)]]; exact hP, by rw [hAe]; exact hS.F ht⟩) hS.2.2 dM_gap_63
  · skip
    refine lv_aload_n hx hb dM_gap_8 rfl (lv_at hl 0 rfl) ?_
    refine va_get (D := (dC, dI)) (ci := 6) (v := .int (bI mgp)) (C := RM) (T := TM) (N := 19) hx hb hts inM hown hK hP 0 rfl rfl 14 (by decide) (hts _ gw_588) (fun _ h9 => h9) rfl dM_gap_9 ?_
    refine tb_ifne (tgt := 19) hx hb dM_gap_12 (by decide) (fun c_3 => ?_) (fun c_3 => ?_)
    · skip
      refine lv_iload_n hx hb dM_gap_19 rfl (lv_at hl 1 rfl) ?_
      refine lv_i2l (v := part.toInt64) hx hb dM_gap_20 rfl ?_
      refine lv_lconst (v := 0) hx hb dM_gap_21 (by decide) ?_
      refine lv_lconst (v := 1) hx hb dM_gap_22 (by decide) ?_
      refine tr_go (st1 := [.int (bI (fM_isIn part.toInt64 0 1)), .ref m0]) (va_runS (As := [.long part.toInt64, .long 0, .long 1]) (rest := [.ref m0]) ⟨hx, hb, hml, hown, hts⟩ (c_M_isIn l dC dI part.toInt64 0 1) ⟨cB 3 hts gw_623 gw_7 gw_621 ndM_isIn rfl rfl ⟨Nat.le_of_ble_eq_true rfl, Nat.le_of_ble_eq_true rfl⟩, hts _ gw_622⟩ (tp_Rs hN hK hP [] [] rfl rfl) rfl rfl hl.1 rfl (lv_room (Nat.le_of_ble_eq_true rfl)) dM_gap_23 ⟨Nat.le_of_ble_eq_true rfl, Nat.le_of_ble_eq_true rfl⟩) rfl ?_
      refine tb_ifeq (tgt := 33) hx hb dM_gap_26 (by decide) (fun c_4 => ?_) (fun c_4 => ?_)
      · skip
        refine lv_iconst (v := 2) hx hb dM_gap_33 (by decide) ?_
        refine va_put (D := (dC, dI)) (ci := 6) (v := .int 2) (ty := .int) (C := RM) (T := TM) (N := 19) hx hb hts inM yM yoM noM hown hK hP hD hS 0 rfl rfl 0 (by decide) (hts _ gw_574) (fun _ h9 => h9) rfl (by decide +kernel) rfl rfl (Nat.le_of_ble_eq_true rfl) dM_gap_34 (fun H locs hP hD hS => ?_)
        have hP : va_P (dC, dI) vCl [(m0, .inr (6, [.int 2, .long mtot, .ref aTy, .int msz, .int mat, .int mfl, .int mru, .ref aTo, .ref aDr, .int (bI mpd), .int mk, .long mg, .long mw, .int mn, .int (bI mgp), .long mga, .long mgb, .int mfc, .ref aBx]))] H := hP
        have hD : va_D A [(m0, .inr (6, [.int 2, .long mtot, .ref aTy, .int msz, .int mat, .int mfl, .int mru, .ref aTo, .ref aDr, .int (bI mpd), .int mk, .long mg, .long mw, .int mn, .int (bI mgp), .long mga, .long mgb, .int mfc, .ref aBx]))] := hD
        refine lv_aload_n hx hb dM_gap_37 rfl (lv_at hl 0 rfl) ?_
        refine va_get (D := (dC, dI)) (ci := 6) (v := .int 2) (C := RM) (T := TM) (N := 19) hx hb hts inM hown hK hP 0 rfl rfl 0 (by decide) (hts _ gw_574) (fun _ h9 => h9) rfl dM_gap_38 ?_
        refine lv_if_le (tgt := 48) hx hb dM_gap_41 (by decide) (fun c_5 => absurd c_5 (by decide)) (fun c_5 => ?_)
        refine lv_lconst (v := 0) hx hb dM_gap_44 (by decide) ?_
        refine lv_goto (tgt := 63) hx hb dM_gap_45 (by decide) ?_
        exact W.lret (v := 0) hx hb hr (fun t ht hW => ⟨by rw [show fM_gap mcode mtot msz mat mfl mru mpd mk mg mw mn mgp mga mgb mfc part = 0 from by unfold fM_gap; rw [if_pos c_1, if_pos c_3, if_neg (Bool.eq_false_iff.mp c_4)]], by rw [ht, show fM_gap_c0f0 mcode mtot msz mat mfl mru mpd mk mg mw mn mgp mga mgb mfc part = 2 from by unfold fM_gap_c0f0; rw [if_pos c_1, if_pos c_3, if_neg (Bool.eq_false_iff.mp c_4)]]; exact hP, by rw [hAe]; exact hS.F ht⟩) hS.2.2 dM_gap_63
      · skip
        refine lv_iconst (v := 0) hx hb dM_gap_29 (by decide) ?_
        refine lv_goto (tgt := 34) hx hb dM_gap_30 (by decide) ?_
        refine va_put (D := (dC, dI)) (ci := 6) (v := .int 0) (ty := .int) (C := RM) (T := TM) (N := 19) hx hb hts inM yM yoM noM hown hK hP hD hS 0 rfl rfl 0 (by decide) (hts _ gw_574) (fun _ h9 => h9) rfl (by decide +kernel) rfl rfl (Nat.le_of_ble_eq_true rfl) dM_gap_34 (fun H locs hP hD hS => ?_)
        have hP : va_P (dC, dI) vCl [(m0, .inr (6, [.int 0, .long mtot, .ref aTy, .int msz, .int mat, .int mfl, .int mru, .ref aTo, .ref aDr, .int (bI mpd), .int mk, .long mg, .long mw, .int mn, .int (bI mgp), .long mga, .long mgb, .int mfc, .ref aBx]))] H := hP
        have hD : va_D A [(m0, .inr (6, [.int 0, .long mtot, .ref aTy, .int msz, .int mat, .int mfl, .int mru, .ref aTo, .ref aDr, .int (bI mpd), .int mk, .long mg, .long mw, .int mn, .int (bI mgp), .long mga, .long mgb, .int mfc, .ref aBx]))] := hD
        refine lv_aload_n hx hb dM_gap_37 rfl (lv_at hl 0 rfl) ?_
        refine va_get (D := (dC, dI)) (ci := 6) (v := .int 0) (C := RM) (T := TM) (N := 19) hx hb hts inM hown hK hP 0 rfl rfl 0 (by decide) (hts _ gw_574) (fun _ h9 => h9) rfl dM_gap_38 ?_
        refine lv_if_le (tgt := 48) hx hb dM_gap_41 (by decide) (fun c_6 => ?_) (fun c_6 => absurd (by decide) c_6)
        refine lv_iload_n hx hb dM_gap_48 rfl (lv_at hl 1 rfl) ?_
        refine lv_if_ne (tgt := 59) hx hb dM_gap_49 (by decide) (fun c_7 => ?_) (fun c_7 => ?_)
        · skip
          refine lv_aload_n hx hb dM_gap_59 rfl (lv_at hl 0 rfl) ?_
          refine va_get (D := (dC, dI)) (ci := 6) (v := .long mgb) (C := RM) (T := TM) (N := 19) hx hb hts inM hown hK hP 0 rfl rfl 16 (by decide) (hts _ gw_590) (fun _ h9 => h9) rfl dM_gap_60 ?_
          exact W.lret (v := mgb) hx hb hr (fun t ht hW => ⟨by rw [show fM_gap mcode mtot msz mat mfl mru mpd mk mg mw mn mgp mga mgb mfc part = mgb from by unfold fM_gap; rw [if_pos c_1, if_pos c_3, if_pos c_4, if_neg c_7]], by rw [ht, show fM_gap_c0f0 mcode mtot msz mat mfl mru mpd mk mg mw mn mgp mga mgb mfc part = 0 from by unfold fM_gap_c0f0; rw [if_pos c_1, if_pos c_3, if_pos c_4, if_neg c_7]]; exact hP, by rw [hAe]; exact hS.F ht⟩) hS.2.2 dM_gap_63
        · skip
          refine lv_aload_n hx hb dM_gap_52 rfl (lv_at hl 0 rfl) ?_
          refine va_get (D := (dC, dI)) (ci := 6) (v := .long mga) (C := RM) (T := TM) (N := 19) hx hb hts inM hown hK hP 0 rfl rfl 15 (by decide) (hts _ gw_589) (fun _ h9 => h9) rfl dM_gap_53 ?_
          refine lv_goto (tgt := 63) hx hb dM_gap_56 (by decide) ?_
          exact W.lret (v := mga) hx hb hr (fun t ht hW => ⟨by rw [show fM_gap mcode mtot msz mat mfl mru mpd mk mg mw mn mgp mga mgb mfc part = mga from by unfold fM_gap; rw [if_pos c_1, if_pos c_3, if_pos c_4, if_pos c_7]], by rw [ht, show fM_gap_c0f0 mcode mtot msz mat mfl mru mpd mk mg mw mn mgp mga mgb mfc part = 0 from by unfold fM_gap_c0f0; rw [if_pos c_1, if_pos c_3, if_pos c_4, if_pos c_7]]; exact hP, by rw [hAe]; exact hS.F ht⟩) hS.2.2 dM_gap_63
    · skip
      refine lv_iconst (v := 1) hx hb dM_gap_15 (by decide) ?_
      refine lv_goto (tgt := 34) hx hb dM_gap_16 (by decide) ?_
      refine va_put (D := (dC, dI)) (ci := 6) (v := .int 1) (ty := .int) (C := RM) (T := TM) (N := 19) hx hb hts inM yM yoM noM hown hK hP hD hS 0 rfl rfl 0 (by decide) (hts _ gw_574) (fun _ h9 => h9) rfl (by decide +kernel) rfl rfl (Nat.le_of_ble_eq_true rfl) dM_gap_34 (fun H locs hP hD hS => ?_)
      have hP : va_P (dC, dI) vCl [(m0, .inr (6, [.int 1, .long mtot, .ref aTy, .int msz, .int mat, .int mfl, .int mru, .ref aTo, .ref aDr, .int (bI mpd), .int mk, .long mg, .long mw, .int mn, .int (bI mgp), .long mga, .long mgb, .int mfc, .ref aBx]))] H := hP
      have hD : va_D A [(m0, .inr (6, [.int 1, .long mtot, .ref aTy, .int msz, .int mat, .int mfl, .int mru, .ref aTo, .ref aDr, .int (bI mpd), .int mk, .long mg, .long mw, .int mn, .int (bI mgp), .long mga, .long mgb, .int mfc, .ref aBx]))] := hD
      refine lv_aload_n hx hb dM_gap_37 rfl (lv_at hl 0 rfl) ?_
      refine va_get (D := (dC, dI)) (ci := 6) (v := .int 1) (C := RM) (T := TM) (N := 19) hx hb hts inM hown hK hP 0 rfl rfl 0 (by decide) (hts _ gw_574) (fun _ h9 => h9) rfl dM_gap_38 ?_
      refine lv_if_le (tgt := 48) hx hb dM_gap_41 (by decide) (fun c_8 => absurd c_8 (by decide)) (fun c_8 => ?_)
      refine lv_lconst (v := 0) hx hb dM_gap_44 (by decide) ?_
      refine lv_goto (tgt := 63) hx hb dM_gap_45 (by decide) ?_
      exact W.lret (v := 0) hx hb hr (fun t ht hW => ⟨by rw [show fM_gap mcode mtot msz mat mfl mru mpd mk mg mw mn mgp mga mgb mfc part = 0 from by unfold fM_gap; rw [if_pos c_1, if_neg (Bool.eq_false_iff.mp c_3)]], by rw [ht, show fM_gap_c0f0 mcode mtot msz mat mfl mru mpd mk mg mw mn mgp mga mgb mfc part = 1 from by unfold fM_gap_c0f0; rw [if_pos c_1, if_neg (Bool.eq_false_iff.mp c_3)]]; exact hP, by rw [hAe]; exact hS.F ht⟩) hS.2.2 dM_gap_63

def fM_list_c0f0 (mcode : Int32) (mtot : Int64) (msz : Int32) (mat : Int32) (mfl : Int32) (mru : Int32) (mpd : Bool) (mk : Int32) (mg : Int64) (mw : Int64) (mn : Int32) (mgp : Bool) (mga : Int64) (mgb : Int64) (mfc : Int32) (k : Int32) : Int32 := if (fM_none mcode mtot msz mat mfl mru mpd mk mg mw mn mgp mga mgb mfc) = true then (fM_none_c0f0 mcode mtot msz mat mfl mru mpd mk mg mw mn mgp mga mgb mfc) else (if (fM_isIn k.toInt64 0 3) = true then (if k = 0 then 0 else (if k = 1 then (if mk = 1 then 0 else 0) else (if k = 2 then (if mk = 2 then 0 else 0) else 0))) else 2)
def fM_list (mcode : Int32) (mtot : Int64) (msz : Int32) (mat : Int32) (mfl : Int32) (mru : Int32) (mpd : Bool) (mk : Int32) (mg : Int64) (mw : Int64) (mn : Int32) (mgp : Bool) (mga : Int64) (mgb : Int64) (mfc : Int32) (k : Int32) : Int32 := if (fM_none mcode mtot msz mat mfl mru mpd mk mg mw mn mgp mga mgb mfc) = true then 0 else (if (fM_isIn k.toInt64 0 3) = true then (if k = 0 then ((mn - 1) - (fM_inSquare 0 mtot msz mat mfl mru mpd mk mg mw mn mgp mga mgb mfc)) else (if k = 1 then (if mk = 1 then 1 else 0) else (if k = 2 then (if mk = 2 then 3 else 0) else mn))) else 0)
set_option maxHeartbeats 4000000 in
set_option maxRecDepth 100000 in
theorem c_M_list (l : Launch) (dC : Nat → ClassId) (dI : Nat → Nat → Nat) (m0 : Nat) (aTy : Nat) (aTo : Nat) (aDr : Nat) (aBx : Nat) (mcode : Int32) (mtot : Int64) (msz : Int32) (mat : Int32) (mfl : Int32) (mru : Int32) (mpd : Bool) (mk : Int32) (mg : Int64) (mw : Int64) (mn : Int32) (mgp : Bool) (mga : Int64) (mgb : Int64) (mfc : Int32) (k : Int32) : Met l mM_list wM_list ({ frames := 1, cells := 0, slots := 0, locals := 25 }) (tp_W (dC, dI) vCl [.ref m0, .int k] [(m0, .inr (6, [.int mcode, .long mtot, .ref aTy, .int msz, .int mat, .int mfl, .int mru, .ref aTo, .ref aDr, .int (bI mpd), .int mk, .long mg, .long mw, .int mn, .int (bI mgp), .long mga, .long mgb, .int mfc, .ref aBx]))] []) (tq_W (dC, dI) vCl (some (.int (fM_list mcode mtot msz mat mfl mru mpd mk mg mw mn mgp mga mgb mfc k))) [(m0, .inr (6, [.int mcode, .long mtot, .ref aTy, .int msz, .int mat, .int mfl, .int mru, .ref aTo, .ref aDr, .int (bI mpd), .int mk, .long mg, .long mw, .int mn, .int (bI mgp), .long mga, .long mgb, .int mfc, .ref aBx]))] [(m0, .inr (6, [.int (fM_list_c0f0 mcode mtot msz mat mfl mru mpd mk mg mw mn mgp mga mgb mfc k), .long mtot, .ref aTy, .int msz, .int mat, .int mfl, .int mru, .ref aTo, .ref aDr, .int (bI mpd), .int mk, .long mg, .long mw, .int mn, .int (bI mgp), .long mga, .long mgb, .int mfc, .ref aBx]))]) 0 0 (tA [(m0, .inr (6, [.int mcode, .long mtot, .ref aTy, .int msz, .int mat, .int mfl, .int mru, .ref aTo, .ref aDr, .int (bI mpd), .int mk, .long mg, .long mw, .int mn, .int (bI mgp), .long mga, .long mgb, .int mfc, .ref aBx]))]) := by
  refine Met.ofW (cc := bM_list) (maxL := 2) (ret := (some .int)) (by decide) rfl ?_
  intro p e s m args below meth c s₁ B hml hv
  obtain ⟨rfl, hP, hK, hN, hD0⟩ := hv
  have hx := B.exec
  have hb := B.bytes
  have hr := B.returns
  have hts : ∀ w ∈ gT, w.before _ s = true := fun w h => atoms_spec (ws := wM_list) B.pre w (List.mem_cons_of_mem _ h)
  have hown : s.vm.findClass RM = some m.cls := findClass_of_methodNamed B.named
  have hlocks := B.notSynchronized
  have hD := tA_D hD0
  generalize hAe : tA [(m0, .inr (6, [.int mcode, .long mtot, .ref aTy, .int msz, .int mat, .int mfl, .int mru, .ref aTo, .ref aDr, .int (bI mpd), .int mk, .long mg, .long mw, .int mn, .int (bI mgp), .long mga, .long mgb, .int mfc, .ref aBx]))] = A at hD ⊢
  have hS : va_S A s.heap s.heap [] := va_S.rf
  have hP : va_P (dC, dI) vCl [(m0, .inr (6, [.int mcode, .long mtot, .ref aTy, .int msz, .int mat, .int mfl, .int mru, .ref aTo, .ref aDr, .int (bI mpd), .int mk, .long mg, .long mw, .int mn, .int (bI mgp), .long mga, .long mgb, .int mfc, .ref aBx]))] s.heap := hP
  have hl := lv_entry ([.ref m0, .int k]) (n := 2) (Nat.le_of_ble_eq_true rfl)
  rw [lg_entry_eq]
  generalize (lg_sl ([.ref m0, .int k]) ++ List.replicate (2 - (lg_sl ([.ref m0, .int k])).length) Slot.unset).toArray = ls at hl ⊢
  have hl : lv_has ls 2 [(0, .ref m0), (1, .int k)] := hl
  refine lv_aload_n hx hb dM_list_0 rfl (lv_at hl 0 rfl) ?_
  refine tc_go (st1 := [.int (bI (fM_none mcode mtot msz mat mfl mru mpd mk mg mw mn mgp mga mgb mfc))]) (ws' := [(m0, .inr (6, [.int (fM_none_c0f0 mcode mtot msz mat mfl mru mpd mk mg mw mn mgp mga mgb mfc), .long mtot, .ref aTy, .int msz, .int mat, .int mfl, .int mru, .ref aTo, .ref aDr, .int (bI mpd), .int mk, .long mg, .long mw, .int mn, .int (bI mgp), .long mga, .long mgb, .int mfc, .ref aBx]))]) (va_runV (As := []) (rest := []) (C := RM) ⟨hx, hb, hml, hown, hts⟩ (c_M_none l dC dI m0 aTy aTo aDr aBx mcode mtot msz mat mfl mru mpd mk mg mw mn mgp mga mgb mfc) ⟨cB 0 hts gw_671 gw_7 gw_669 ndM_none rfl rfl ⟨Nat.le_of_ble_eq_true rfl, Nat.le_of_ble_eq_true rfl⟩, hts _ gw_670, hts _ gw_764⟩ (tp_Wv hN hK hP hD [0] [] rfl (by decide) rfl (q0 := 0) (ci := 6) rfl rfl) rfl rfl hl.1 rfl (lv_room (Nat.le_of_ble_eq_true rfl)) dM_list_1 ⟨Nat.le_of_ble_eq_true rfl, Nat.le_of_ble_eq_true rfl⟩) rfl hP hD hS [0] rfl rfl rfl (fun H locs hP hD hS => ?_)
  have hP : va_P (dC, dI) vCl [(m0, .inr (6, [.int (fM_none_c0f0 mcode mtot msz mat mfl mru mpd mk mg mw mn mgp mga mgb mfc), .long mtot, .ref aTy, .int msz, .int mat, .int mfl, .int mru, .ref aTo, .ref aDr, .int (bI mpd), .int mk, .long mg, .long mw, .int mn, .int (bI mgp), .long mga, .long mgb, .int mfc, .ref aBx]))] H := hP
  have hD : va_D A [(m0, .inr (6, [.int (fM_none_c0f0 mcode mtot msz mat mfl mru mpd mk mg mw mn mgp mga mgb mfc), .long mtot, .ref aTy, .int msz, .int mat, .int mfl, .int mru, .ref aTo, .ref aDr, .int (bI mpd), .int mk, .long mg, .long mw, .int mn, .int (bI mgp), .long mga, .long mgb, .int mfc, .ref aBx]))] := hD
  refine tb_ifeq (tgt := 9) hx hb dM_list_4 (by decide) (fun c_1 => ?_) (fun c_1 => ?_)
  · skip
    refine lv_aload_n hx hb dM_list_9 rfl (lv_at hl 0 rfl) ?_
    refine lv_iload_n hx hb dM_list_10 rfl (lv_at hl 1 rfl) ?_
    refine lv_i2l (v := k.toInt64) hx hb dM_list_11 rfl ?_
    refine lv_lconst (v := 0) hx hb dM_list_12 (by decide) ?_
    refine lv_ldc2 (v := 3) hx hb hown (hts _ gw_699) dM_list_13 ?_
    refine tr_go (st1 := [.int (bI (fM_isIn k.toInt64 0 3)), .ref m0]) (va_runS (As := [.long k.toInt64, .long 0, .long 3]) (rest := [.ref m0]) ⟨hx, hb, hml, hown, hts⟩ (c_M_isIn l dC dI k.toInt64 0 3) ⟨cB 3 hts gw_623 gw_7 gw_621 ndM_isIn rfl rfl ⟨Nat.le_of_ble_eq_true rfl, Nat.le_of_ble_eq_true rfl⟩, hts _ gw_622⟩ (tp_Rs hN hK hP [] [] rfl rfl) rfl rfl hl.1 rfl (lv_room (Nat.le_of_ble_eq_true rfl)) dM_list_16 ⟨Nat.le_of_ble_eq_true rfl, Nat.le_of_ble_eq_true rfl⟩) rfl ?_
    refine tb_ifeq (tgt := 26) hx hb dM_list_19 (by decide) (fun c_2 => ?_) (fun c_2 => ?_)
    · skip
      refine lv_iconst (v := 2) hx hb dM_list_26 (by decide) ?_
      refine va_put (D := (dC, dI)) (ci := 6) (v := .int 2) (ty := .int) (C := RM) (T := TM) (N := 19) hx hb hts inM yM yoM noM hown hK hP hD hS 0 rfl rfl 0 (by decide) (hts _ gw_574) (fun _ h9 => h9) rfl (by decide +kernel) rfl rfl (Nat.le_of_ble_eq_true rfl) dM_list_27 (fun H locs hP hD hS => ?_)
      have hP : va_P (dC, dI) vCl [(m0, .inr (6, [.int 2, .long mtot, .ref aTy, .int msz, .int mat, .int mfl, .int mru, .ref aTo, .ref aDr, .int (bI mpd), .int mk, .long mg, .long mw, .int mn, .int (bI mgp), .long mga, .long mgb, .int mfc, .ref aBx]))] H := hP
      have hD : va_D A [(m0, .inr (6, [.int 2, .long mtot, .ref aTy, .int msz, .int mat, .int mfl, .int mru, .ref aTo, .ref aDr, .int (bI mpd), .int mk, .long mg, .long mw, .int mn, .int (bI mgp), .long mga, .long mgb, .int mfc, .ref aBx]))] := hD
      refine lv_aload_n hx hb dM_list_30 rfl (lv_at hl 0 rfl) ?_
      refine va_get (D := (dC, dI)) (ci := 6) (v := .int 2) (C := RM) (T := TM) (N := 19) hx hb hts inM hown hK hP 0 rfl rfl 0 (by decide) (hts _ gw_574) (fun _ h9 => h9) rfl dM_list_31 ?_
      refine lv_if_le (tgt := 39) hx hb dM_list_34 (by decide) (fun c_3 => absurd c_3 (by decide)) (fun c_3 => ?_)
      refine lv_iconst (v := 0) hx hb dM_list_37 (by decide) ?_
      exact W.iret (v := 0) hx hb hr (fun t ht hW => ⟨by rw [show fM_list mcode mtot msz mat mfl mru mpd mk mg mw mn mgp mga mgb mfc k = 0 from by unfold fM_list; rw [if_neg (Bool.eq_false_iff.mp c_1), if_neg (Bool.eq_false_iff.mp c_2)]], by rw [ht, show fM_list_c0f0 mcode mtot msz mat mfl mru mpd mk mg mw mn mgp mga mgb mfc k = 2 from by unfold fM_list_c0f0; rw [if_neg (Bool.eq_false_iff.mp c_1), if_neg (Bool.eq_false_iff.mp c_2)]]; exact hP, by rw [hAe]; exact hS.F ht⟩) hS.2.2 dM_list_38
    · skip
      refine lv_iconst (v := 0) hx hb dM_list_22 (by decide) ?_
      refine lv_goto (tgt := 27) hx hb dM_list_23 (by decide) ?_
      refine va_put (D := (dC, dI)) (ci := 6) (v := .int 0) (ty := .int) (C := RM) (T := TM) (N := 19) hx hb hts inM yM yoM noM hown hK hP hD hS 0 rfl rfl 0 (by decide) (hts _ gw_574) (fun _ h9 => h9) rfl (by decide +kernel) rfl rfl (Nat.le_of_ble_eq_true rfl) dM_list_27 (fun H locs hP hD hS => ?_)
      have hP : va_P (dC, dI) vCl [(m0, .inr (6, [.int 0, .long mtot, .ref aTy, .int msz, .int mat, .int mfl, .int mru, .ref aTo, .ref aDr, .int (bI mpd), .int mk, .long mg, .long mw, .int mn, .int (bI mgp), .long mga, .long mgb, .int mfc, .ref aBx]))] H := hP
      have hD : va_D A [(m0, .inr (6, [.int 0, .long mtot, .ref aTy, .int msz, .int mat, .int mfl, .int mru, .ref aTo, .ref aDr, .int (bI mpd), .int mk, .long mg, .long mw, .int mn, .int (bI mgp), .long mga, .long mgb, .int mfc, .ref aBx]))] := hD
      refine lv_aload_n hx hb dM_list_30 rfl (lv_at hl 0 rfl) ?_
      refine va_get (D := (dC, dI)) (ci := 6) (v := .int 0) (C := RM) (T := TM) (N := 19) hx hb hts inM hown hK hP 0 rfl rfl 0 (by decide) (hts _ gw_574) (fun _ h9 => h9) rfl dM_list_31 ?_
      refine lv_if_le (tgt := 39) hx hb dM_list_34 (by decide) (fun c_4 => ?_) (fun c_4 => absurd (by decide) c_4)
      refine lv_iload_n hx hb dM_list_39 rfl (lv_at hl 1 rfl) ?_
      refine lv_if_ne (tgt := 57) hx hb dM_list_40 (by decide) (fun c_5 => ?_) (fun c_5 => ?_)
      · skip
        refine lv_iload_n hx hb dM_list_57 rfl (lv_at hl 1 rfl) ?_
        refine lv_iconst (v := 1) hx hb dM_list_58 (by decide) ?_
        refine lv_icmp_ne (tgt := 78) hx hb dM_list_59 (by decide) (fun c_6 => ?_) (fun c_6 => ?_)
        · skip
          refine lv_iload_n hx hb dM_list_78 rfl (lv_at hl 1 rfl) ?_
          refine lv_iconst (v := 2) hx hb dM_list_79 (by decide) ?_
          refine lv_icmp_ne (tgt := 99) hx hb dM_list_80 (by decide) (fun c_7 => ?_) (fun c_7 => ?_)
          · skip
            refine lv_aload_n hx hb dM_list_99 rfl (lv_at hl 0 rfl) ?_
            refine va_get (D := (dC, dI)) (ci := 6) (v := .int mn) (C := RM) (T := TM) (N := 19) hx hb hts inM hown hK hP 0 rfl rfl 13 (by decide) (hts _ gw_587) (fun _ h9 => h9) rfl dM_list_100 ?_
            exact W.iret (v := mn) hx hb hr (fun t ht hW => ⟨by rw [show fM_list mcode mtot msz mat mfl mru mpd mk mg mw mn mgp mga mgb mfc k = mn from by unfold fM_list; rw [if_neg (Bool.eq_false_iff.mp c_1), if_pos c_2, if_neg c_5, if_neg c_6, if_neg c_7]], by rw [ht, show fM_list_c0f0 mcode mtot msz mat mfl mru mpd mk mg mw mn mgp mga mgb mfc k = 0 from by unfold fM_list_c0f0; rw [if_neg (Bool.eq_false_iff.mp c_1), if_pos c_2, if_neg c_5, if_neg c_6, if_neg c_7]]; exact hP, by rw [hAe]; exact hS.F ht⟩) hS.2.2 dM_list_103
          · skip
            refine lv_aload_n hx hb dM_list_83 rfl (lv_at hl 0 rfl) ?_
            refine va_get (D := (dC, dI)) (ci := 6) (v := .int mk) (C := RM) (T := TM) (N := 19) hx hb hts inM hown hK hP 0 rfl rfl 10 (by decide) (hts _ gw_584) (fun _ h9 => h9) rfl dM_list_84 ?_
            refine lv_iconst (v := 2) hx hb dM_list_87 (by decide) ?_
            refine lv_icmp_ne (tgt := 95) hx hb dM_list_88 (by decide) (fun c_8 => ?_) (fun c_8 => ?_)
            · skip
              refine lv_iconst (v := 0) hx hb dM_list_95 (by decide) ?_
              refine lv_goto (tgt := 103) hx hb dM_list_96 (by decide) ?_
              exact W.iret (v := 0) hx hb hr (fun t ht hW => ⟨by rw [show fM_list mcode mtot msz mat mfl mru mpd mk mg mw mn mgp mga mgb mfc k = 0 from by unfold fM_list; rw [if_neg (Bool.eq_false_iff.mp c_1), if_pos c_2, if_neg c_5, if_neg c_6, if_pos c_7, if_neg c_8]], by rw [ht, show fM_list_c0f0 mcode mtot msz mat mfl mru mpd mk mg mw mn mgp mga mgb mfc k = 0 from by unfold fM_list_c0f0; rw [if_neg (Bool.eq_false_iff.mp c_1), if_pos c_2, if_neg c_5, if_neg c_6, if_pos c_7, if_neg c_8]]; exact hP, by rw [hAe]; exact hS.F ht⟩) hS.2.2 dM_list_103
            · skip
              refine lv_iconst (v := 3) hx hb dM_list_91 (by decide) ?_
              refine lv_goto (tgt := 103) hx hb dM_list_92 (by decide) ?_
              exact W.iret (v := 3) hx hb hr (fun t ht hW => ⟨by rw [show fM_list mcode mtot msz mat mfl mru mpd mk mg mw mn mgp mga mgb mfc k = 3 from by unfold fM_list; rw [if_neg (Bool.eq_false_iff.mp c_1), if_pos c_2, if_neg c_5, if_neg c_6, if_pos c_7, if_pos c_8]], by rw [ht, show fM_list_c0f0 mcode mtot msz mat mfl mru mpd mk mg mw mn mgp mga mgb mfc k = 0 from by unfold fM_list_c0f0; rw [if_neg (Bool.eq_false_iff.mp c_1), if_pos c_2, if_neg c_5, if_neg c_6, if_pos c_7, if_pos c_8]]; exact hP, by rw [hAe]; exact hS.F ht⟩) hS.2.2 dM_list_103
        · skip
          refine lv_aload_n hx hb dM_list_62 rfl (lv_at hl 0 rfl) ?_
          refine va_get (D := (dC, dI)) (ci := 6) (v := .int mk) (C := RM) (T := TM) (N := 19) hx hb hts inM hown hK hP 0 rfl rfl 10 (by decide) (hts _ gw_584) (fun _ h9 => h9) rfl dM_list_63 ?_
          refine lv_iconst (v := 1) hx hb dM_list_66 (by decide) ?_
          refine lv_icmp_ne (tgt := 74) hx hb dM_list_67 (by decide) (fun c_9 => ?_) (fun c_9 => ?_)
          · skip
            refine lv_iconst (v := 0) hx hb dM_list_74 (by decide) ?_
            refine lv_goto (tgt := 103) hx hb dM_list_75 (by decide) ?_
            exact W.iret (v := 0) hx hb hr (fun t ht hW => ⟨by rw [show fM_list mcode mtot msz mat mfl mru mpd mk mg mw mn mgp mga mgb mfc k = 0 from by unfold fM_list; rw [if_neg (Bool.eq_false_iff.mp c_1), if_pos c_2, if_neg c_5, if_pos c_6, if_neg c_9]], by rw [ht, show fM_list_c0f0 mcode mtot msz mat mfl mru mpd mk mg mw mn mgp mga mgb mfc k = 0 from by unfold fM_list_c0f0; rw [if_neg (Bool.eq_false_iff.mp c_1), if_pos c_2, if_neg c_5, if_pos c_6, if_neg c_9]]; exact hP, by rw [hAe]; exact hS.F ht⟩) hS.2.2 dM_list_103
          · skip
            refine lv_iconst (v := 1) hx hb dM_list_70 (by decide) ?_
            refine lv_goto (tgt := 103) hx hb dM_list_71 (by decide) ?_
            exact W.iret (v := 1) hx hb hr (fun t ht hW => ⟨by rw [show fM_list mcode mtot msz mat mfl mru mpd mk mg mw mn mgp mga mgb mfc k = 1 from by unfold fM_list; rw [if_neg (Bool.eq_false_iff.mp c_1), if_pos c_2, if_neg c_5, if_pos c_6, if_pos c_9]], by rw [ht, show fM_list_c0f0 mcode mtot msz mat mfl mru mpd mk mg mw mn mgp mga mgb mfc k = 0 from by unfold fM_list_c0f0; rw [if_neg (Bool.eq_false_iff.mp c_1), if_pos c_2, if_neg c_5, if_pos c_6, if_pos c_9]]; exact hP, by rw [hAe]; exact hS.F ht⟩) hS.2.2 dM_list_103
      · skip
        refine lv_aload_n hx hb dM_list_43 rfl (lv_at hl 0 rfl) ?_
        refine va_get (D := (dC, dI)) (ci := 6) (v := .int mn) (C := RM) (T := TM) (N := 19) hx hb hts inM hown hK hP 0 rfl rfl 13 (by decide) (hts _ gw_587) (fun _ h9 => h9) rfl dM_list_44 ?_
        refine lv_iconst (v := 1) hx hb dM_list_47 (by decide) ?_
        refine lv_isub hx hb dM_list_48 ?_
        refine lv_aload_n hx hb dM_list_49 rfl (lv_at hl 0 rfl) ?_
        refine tr_go (st1 := [.int (fM_inSquare 0 mtot msz mat mfl mru mpd mk mg mw mn mgp mga mgb mfc), .int (mn - 1)]) (va_runV (As := []) (rest := [.int (mn - 1)]) (C := RM) ⟨hx, hb, hml, hown, hts⟩ (c_M_inSquare l dC dI m0 aTy aTo aDr aBx 0 mtot msz mat mfl mru mpd mk mg mw mn mgp mga mgb mfc) ⟨cB 0 hts gw_688 gw_7 gw_686 ndM_inSquare rfl rfl ⟨Nat.le_of_ble_eq_true rfl, Nat.le_of_ble_eq_true rfl⟩, hts _ gw_687, hts _ gw_767⟩ (tp_Rv hN hK hP [0] [] rfl rfl (q0 := 0) (ci := 6) rfl rfl) rfl rfl hl.1 rfl (lv_room (Nat.le_of_ble_eq_true rfl)) dM_list_50 ⟨Nat.le_of_ble_eq_true rfl, Nat.le_of_ble_eq_true rfl⟩) rfl ?_
        refine lv_isub hx hb dM_list_53 ?_
        refine lv_goto (tgt := 103) hx hb dM_list_54 (by decide) ?_
        exact W.iret (v := (mn - 1) - (fM_inSquare 0 mtot msz mat mfl mru mpd mk mg mw mn mgp mga mgb mfc)) hx hb hr (fun t ht hW => ⟨by rw [show fM_list mcode mtot msz mat mfl mru mpd mk mg mw mn mgp mga mgb mfc k = (mn - 1) - (fM_inSquare 0 mtot msz mat mfl mru mpd mk mg mw mn mgp mga mgb mfc) from by unfold fM_list; rw [if_neg (Bool.eq_false_iff.mp c_1), if_pos c_2, if_pos c_5]], by rw [ht, show fM_list_c0f0 mcode mtot msz mat mfl mru mpd mk mg mw mn mgp mga mgb mfc k = 0 from by unfold fM_list_c0f0; rw [if_neg (Bool.eq_false_iff.mp c_1), if_pos c_2, if_pos c_5]]; exact hP, by rw [hAe]; exact hS.F ht⟩) hS.2.2 dM_list_103
  · skip
    refine lv_iconst (v := 0) hx hb dM_list_7 (by decide) ?_
    exact W.iret (v := 0) hx hb hr (fun t ht hW => ⟨by rw [show fM_list mcode mtot msz mat mfl mru mpd mk mg mw mn mgp mga mgb mfc k = 0 from by unfold fM_list; rw [if_pos c_1]], by rw [ht, show fM_list_c0f0 mcode mtot msz mat mfl mru mpd mk mg mw mn mgp mga mgb mfc k = fM_none_c0f0 mcode mtot msz mat mfl mru mpd mk mg mw mn mgp mga mgb mfc from by unfold fM_list_c0f0; rw [if_pos c_1]]; exact hP, by rw [hAe]; exact hS.F ht⟩) hS.2.2 dM_list_8

def fM_holds (to : Nat → Int32) (mcode : Int32) (mtot : Int64) (msz : Int32) (mat : Int32) (mfl : Int32) (mru : Int32) (mpd : Bool) (mk : Int32) (mg : Int64) (mw : Int64) (mn : Int32) (mgp : Bool) (mga : Int64) (mgb : Int64) (mfc : Int32) (kk : Int32) (g : Int64) (w : Int64) (many : Int32) : Bool := if (to ((7 * kk) + 5).toNatClampNeg) = 60 then (if (((to ((7 * kk) + 6).toNatClampNeg).toInt64) * many.toInt64) ≤ ((((to (7 * kk).toNatClampNeg).toInt64) * mtot) + (many.toInt64 * ((((((to ((7 * kk) + 1).toNatClampNeg).toInt64) * g) + (((to ((7 * kk) + 2).toNatClampNeg) * many).toInt64)) + (((to ((7 * kk) + 3).toNatClampNeg).toInt64) * w)) + (((to ((7 * kk) + 4).toNatClampNeg).toInt64) * mtot)))) then false else true) else (if (to ((7 * kk) + 5).toNatClampNeg) = 62 then (if ((((to (7 * kk).toNatClampNeg).toInt64) * mtot) + (many.toInt64 * ((((((to ((7 * kk) + 1).toNatClampNeg).toInt64) * g) + (((to ((7 * kk) + 2).toNatClampNeg) * many).toInt64)) + (((to ((7 * kk) + 3).toNatClampNeg).toInt64) * w)) + (((to ((7 * kk) + 4).toNatClampNeg).toInt64) * mtot)))) ≤ (((to ((7 * kk) + 6).toNatClampNeg).toInt64) * many.toInt64) then false else true) else (if ((((to (7 * kk).toNatClampNeg).toInt64) * mtot) + (many.toInt64 * ((((((to ((7 * kk) + 1).toNatClampNeg).toInt64) * g) + (((to ((7 * kk) + 2).toNatClampNeg) * many).toInt64)) + (((to ((7 * kk) + 3).toNatClampNeg).toInt64) * w)) + (((to ((7 * kk) + 4).toNatClampNeg).toInt64) * mtot)))) = (((to ((7 * kk) + 6).toNatClampNeg).toInt64) * many.toInt64) then true else false))
set_option maxHeartbeats 4000000 in
set_option maxRecDepth 100000 in
theorem c_M_holds (l : Launch) (dC : Nat → ClassId) (dI : Nat → Nat → Nat) (m0 : Nat) (aTy : Nat) (aTo : Nat) (aDr : Nat) (aBx : Nat) (cTo : ClassId) (to : Nat → Int32) (mcode : Int32) (mtot : Int64) (msz : Int32) (mat : Int32) (mfl : Int32) (mru : Int32) (mpd : Bool) (mk : Int32) (mg : Int64) (mw : Int64) (mn : Int32) (mgp : Bool) (mga : Int64) (mgb : Int64) (mfc : Int32) (kk : Int32) (g : Int64) (w : Int64) (many : Int32) (hv : vp_in kk 8) : Met l mM_holds wM_holds ({ frames := 0, cells := 0, slots := 0, locals := 0 }) (tp_R (dC, dI) vCl [.ref m0, .int kk, .long g, .long w, .int many] [(m0, .inr (6, [.int mcode, .long mtot, .ref aTy, .int msz, .int mat, .int mfl, .int mru, .ref aTo, .ref aDr, .int (bI mpd), .int mk, .long mg, .long mw, .int mn, .int (bI mgp), .long mga, .long mgb, .int mfc, .ref aBx])), (aTo, .inl (cTo, 56, .inl to))] [(cTo, .int)]) (tq_R (some (.int (bI (fM_holds to mcode mtot msz mat mfl mru mpd mk mg mw mn mgp mga mgb mfc kk g w many))))) 0 0 (fun _ => False) := by
  refine Met.ofW (cc := bM_holds) (maxL := 12) (ret := (some .boolean)) (by decide) rfl ?_
  intro p e s m args below meth c s₁ B hml hv
  obtain ⟨rfl, hP, hK, hN⟩ := hv
  have hx := B.exec
  have hb := B.bytes
  have hr := B.returns
  have hts : ∀ w ∈ gT, w.before _ s = true := fun w h => atoms_spec (ws := wM_holds) B.pre w (List.mem_cons_of_mem _ h)
  have hown : s.vm.findClass RM = some m.cls := findClass_of_methodNamed B.named
  have hlocks := B.notSynchronized
  have hP : va_P (dC, dI) vCl [(m0, .inr (6, [.int mcode, .long mtot, .ref aTy, .int msz, .int mat, .int mfl, .int mru, .ref aTo, .ref aDr, .int (bI mpd), .int mk, .long mg, .long mw, .int mn, .int (bI mgp), .long mga, .long mgb, .int mfc, .ref aBx])), (aTo, .inl (cTo, 56, .inl to))] s.heap := hP
  have hl := lv_entry ([.ref m0, .int kk, .long g, .long w, .int many]) (n := 12) (Nat.le_of_ble_eq_true rfl)
  rw [lg_entry_eq]
  generalize (lg_sl ([.ref m0, .int kk, .long g, .long w, .int many]) ++ List.replicate (12 - (lg_sl ([.ref m0, .int kk, .long g, .long w, .int many])).length) Slot.unset).toArray = ls at hl ⊢
  have hl : lv_has ls 12 [(0, .ref m0), (1, .int kk), (2, .long g), (4, .long w), (6, .int many)] := hl
  refine lv_aload_n hx hb dM_holds_0 rfl (lv_at hl 0 rfl) ?_
  refine va_get (D := (dC, dI)) (ci := 6) (v := .ref aTo) (C := RM) (T := TM) (N := 19) hx hb hts inM hown hK hP 0 rfl rfl 7 (by decide) (hts _ gw_581) (fun _ h9 => h9) rfl dM_holds_1 ?_
  refine lv_bipush (v := 7) hx hb dM_holds_4 (by decide) ?_
  refine lv_iload_n hx hb dM_holds_6 rfl (lv_at hl 1 rfl) ?_
  refine lv_imul hx hb dM_holds_7 ?_
  have b_1 : vp_in (7 * kk) 56 := tin_70 hv
  refine va_iald hx hb hK hP 1 0 rfl rfl b_1 dM_holds_8 ?_
  refine lv_i2l (v := (to (7 * kk).toNatClampNeg).toInt64) hx hb dM_holds_9 rfl ?_
  refine lv_aload_n hx hb dM_holds_10 rfl (lv_at hl 0 rfl) ?_
  refine va_get (D := (dC, dI)) (ci := 6) (v := .long mtot) (C := RM) (T := TM) (N := 19) hx hb hts inM hown hK hP 0 rfl rfl 1 (by decide) (hts _ gw_575) (fun _ h9 => h9) rfl dM_holds_11 ?_
  refine lv_lmul hx hb dM_holds_14 ?_
  refine lv_iload hx hb dM_holds_15 (lv_at hl 4 rfl) ?_
  refine lv_i2l (v := many.toInt64) hx hb dM_holds_17 rfl ?_
  refine lv_aload_n hx hb dM_holds_18 rfl (lv_at hl 0 rfl) ?_
  refine va_get (D := (dC, dI)) (ci := 6) (v := .ref aTo) (C := RM) (T := TM) (N := 19) hx hb hts inM hown hK hP 0 rfl rfl 7 (by decide) (hts _ gw_581) (fun _ h9 => h9) rfl dM_holds_19 ?_
  refine lv_bipush (v := 7) hx hb dM_holds_22 (by decide) ?_
  refine lv_iload_n hx hb dM_holds_24 rfl (lv_at hl 1 rfl) ?_
  refine lv_imul hx hb dM_holds_25 ?_
  refine lv_iconst (v := 1) hx hb dM_holds_26 (by decide) ?_
  refine lv_iadd hx hb dM_holds_27 ?_
  have b_2 : vp_in ((7 * kk) + 1) 56 := tin_7 1 (by decide) rfl hv
  refine va_iald hx hb hK hP 1 0 rfl rfl b_2 dM_holds_28 ?_
  refine lv_i2l (v := (to ((7 * kk) + 1).toNatClampNeg).toInt64) hx hb dM_holds_29 rfl ?_
  refine lv_lload_n hx hb dM_holds_30 rfl (lv_at hl 2 rfl) ?_
  refine lv_lmul hx hb dM_holds_31 ?_
  refine lv_aload_n hx hb dM_holds_32 rfl (lv_at hl 0 rfl) ?_
  refine va_get (D := (dC, dI)) (ci := 6) (v := .ref aTo) (C := RM) (T := TM) (N := 19) hx hb hts inM hown hK hP 0 rfl rfl 7 (by decide) (hts _ gw_581) (fun _ h9 => h9) rfl dM_holds_33 ?_
  refine lv_bipush (v := 7) hx hb dM_holds_36 (by decide) ?_
  refine lv_iload_n hx hb dM_holds_38 rfl (lv_at hl 1 rfl) ?_
  refine lv_imul hx hb dM_holds_39 ?_
  refine lv_iconst (v := 2) hx hb dM_holds_40 (by decide) ?_
  refine lv_iadd hx hb dM_holds_41 ?_
  have b_3 : vp_in ((7 * kk) + 2) 56 := tin_7 2 (by decide) rfl hv
  refine va_iald hx hb hK hP 1 0 rfl rfl b_3 dM_holds_42 ?_
  refine lv_iload hx hb dM_holds_43 (lv_at hl 4 rfl) ?_
  refine lv_imul hx hb dM_holds_45 ?_
  refine lv_i2l (v := ((to ((7 * kk) + 2).toNatClampNeg) * many).toInt64) hx hb dM_holds_46 rfl ?_
  refine lv_ladd hx hb dM_holds_47 ?_
  refine lv_aload_n hx hb dM_holds_48 rfl (lv_at hl 0 rfl) ?_
  refine va_get (D := (dC, dI)) (ci := 6) (v := .ref aTo) (C := RM) (T := TM) (N := 19) hx hb hts inM hown hK hP 0 rfl rfl 7 (by decide) (hts _ gw_581) (fun _ h9 => h9) rfl dM_holds_49 ?_
  refine lv_bipush (v := 7) hx hb dM_holds_52 (by decide) ?_
  refine lv_iload_n hx hb dM_holds_54 rfl (lv_at hl 1 rfl) ?_
  refine lv_imul hx hb dM_holds_55 ?_
  refine lv_iconst (v := 3) hx hb dM_holds_56 (by decide) ?_
  refine lv_iadd hx hb dM_holds_57 ?_
  have b_4 : vp_in ((7 * kk) + 3) 56 := tin_7 3 (by decide) rfl hv
  refine va_iald hx hb hK hP 1 0 rfl rfl b_4 dM_holds_58 ?_
  refine lv_i2l (v := (to ((7 * kk) + 3).toNatClampNeg).toInt64) hx hb dM_holds_59 rfl ?_
  refine lv_lload hx hb dM_holds_60 (lv_at hl 3 rfl) ?_
  refine lv_lmul hx hb dM_holds_62 ?_
  refine lv_ladd hx hb dM_holds_63 ?_
  refine lv_aload_n hx hb dM_holds_64 rfl (lv_at hl 0 rfl) ?_
  refine va_get (D := (dC, dI)) (ci := 6) (v := .ref aTo) (C := RM) (T := TM) (N := 19) hx hb hts inM hown hK hP 0 rfl rfl 7 (by decide) (hts _ gw_581) (fun _ h9 => h9) rfl dM_holds_65 ?_
  refine lv_bipush (v := 7) hx hb dM_holds_68 (by decide) ?_
  refine lv_iload_n hx hb dM_holds_70 rfl (lv_at hl 1 rfl) ?_
  refine lv_imul hx hb dM_holds_71 ?_
  refine lv_iconst (v := 4) hx hb dM_holds_72 (by decide) ?_
  refine lv_iadd hx hb dM_holds_73 ?_
  have b_5 : vp_in ((7 * kk) + 4) 56 := tin_7 4 (by decide) rfl hv
  refine va_iald hx hb hK hP 1 0 rfl rfl b_5 dM_holds_74 ?_
  refine lv_i2l (v := (to ((7 * kk) + 4).toNatClampNeg).toInt64) hx hb dM_holds_75 rfl ?_
  refine lv_aload_n hx hb dM_holds_76 rfl (lv_at hl 0 rfl) ?_
  refine va_get (D := (dC, dI)) (ci := 6) (v := .long mtot) (C := RM) (T := TM) (N := 19) hx hb hts inM hown hK hP 0 rfl rfl 1 (by decide) (hts _ gw_575) (fun _ h9 => h9) rfl dM_holds_77 ?_
  refine lv_lmul hx hb dM_holds_80 ?_
  refine lv_ladd hx hb dM_holds_81 ?_
  refine lv_lmul hx hb dM_holds_82 ?_
  refine lv_ladd hx hb dM_holds_83 ?_
  refine lv_lstore (lv' := [(7, .long ((((to (7 * kk).toNatClampNeg).toInt64) * mtot) + (many.toInt64 * ((((((to ((7 * kk) + 1).toNatClampNeg).toInt64) * g) + (((to ((7 * kk) + 2).toNatClampNeg) * many).toInt64)) + (((to ((7 * kk) + 3).toNatClampNeg).toInt64) * w)) + (((to ((7 * kk) + 4).toNatClampNeg).toInt64) * mtot))))), (0, .ref m0), (1, .int kk), (2, .long g), (4, .long w), (6, .int many)]) hx hb dM_holds_84 hl (by decide) rfl (fun ls hl => ?_)
  refine lv_aload_n hx hb dM_holds_86 rfl (lv_at hl 1 rfl) ?_
  refine va_get (D := (dC, dI)) (ci := 6) (v := .ref aTo) (C := RM) (T := TM) (N := 19) hx hb hts inM hown hK hP 0 rfl rfl 7 (by decide) (hts _ gw_581) (fun _ h9 => h9) rfl dM_holds_87 ?_
  refine lv_bipush (v := 7) hx hb dM_holds_90 (by decide) ?_
  refine lv_iload_n hx hb dM_holds_92 rfl (lv_at hl 2 rfl) ?_
  refine lv_imul hx hb dM_holds_93 ?_
  refine lv_bipush (v := 6) hx hb dM_holds_94 (by decide) ?_
  refine lv_iadd hx hb dM_holds_96 ?_
  have b_6 : vp_in ((7 * kk) + 6) 56 := tin_7 6 (by decide) rfl hv
  refine va_iald hx hb hK hP 1 0 rfl rfl b_6 dM_holds_97 ?_
  refine lv_i2l (v := (to ((7 * kk) + 6).toNatClampNeg).toInt64) hx hb dM_holds_98 rfl ?_
  refine lv_iload hx hb dM_holds_99 (lv_at hl 5 rfl) ?_
  refine lv_i2l (v := many.toInt64) hx hb dM_holds_101 rfl ?_
  refine lv_lmul hx hb dM_holds_102 ?_
  refine lv_lstore (lv' := [(9, .long (((to ((7 * kk) + 6).toNatClampNeg).toInt64) * many.toInt64)), (7, .long ((((to (7 * kk).toNatClampNeg).toInt64) * mtot) + (many.toInt64 * ((((((to ((7 * kk) + 1).toNatClampNeg).toInt64) * g) + (((to ((7 * kk) + 2).toNatClampNeg) * many).toInt64)) + (((to ((7 * kk) + 3).toNatClampNeg).toInt64) * w)) + (((to ((7 * kk) + 4).toNatClampNeg).toInt64) * mtot))))), (0, .ref m0), (1, .int kk), (2, .long g), (4, .long w), (6, .int many)]) hx hb dM_holds_103 hl (by decide) rfl (fun ls hl => ?_)
  refine lv_aload_n hx hb dM_holds_105 rfl (lv_at hl 2 rfl) ?_
  refine va_get (D := (dC, dI)) (ci := 6) (v := .ref aTo) (C := RM) (T := TM) (N := 19) hx hb hts inM hown hK hP 0 rfl rfl 7 (by decide) (hts _ gw_581) (fun _ h9 => h9) rfl dM_holds_106 ?_
  refine lv_bipush (v := 7) hx hb dM_holds_109 (by decide) ?_
  refine lv_iload_n hx hb dM_holds_111 rfl (lv_at hl 3 rfl) ?_
  refine lv_imul hx hb dM_holds_112 ?_
  refine lv_iconst (v := 5) hx hb dM_holds_113 (by decide) ?_
  refine lv_iadd hx hb dM_holds_114 ?_
  have b_7 : vp_in ((7 * kk) + 5) 56 := tin_7 5 (by decide) rfl hv
  refine va_iald hx hb hK hP 1 0 rfl rfl b_7 dM_holds_115 ?_
  refine lv_istore (lv' := [(11, .int (to ((7 * kk) + 5).toNatClampNeg)), (9, .long (((to ((7 * kk) + 6).toNatClampNeg).toInt64) * many.toInt64)), (7, .long ((((to (7 * kk).toNatClampNeg).toInt64) * mtot) + (many.toInt64 * ((((((to ((7 * kk) + 1).toNatClampNeg).toInt64) * g) + (((to ((7 * kk) + 2).toNatClampNeg) * many).toInt64)) + (((to ((7 * kk) + 3).toNatClampNeg).toInt64) * w)) + (((to ((7 * kk) + 4).toNatClampNeg).toInt64) * mtot))))), (0, .ref m0), (1, .int kk), (2, .long g), (4, .long w), (6, .int many)]) hx hb dM_holds_116 hl (by decide) rfl (fun ls hl => ?_)
  refine lv_iload hx hb dM_holds_118 (lv_at hl 0 rfl) ?_
  refine lv_bipush (v := 60) hx hb dM_holds_120 (by decide) ?_
  refine lv_icmp_ne (tgt := 141) hx hb dM_holds_122 (by decide) (fun c_8 => ?_) (fun c_8 => ?_)
  · skip
    refine lv_iload hx hb dM_holds_141 (lv_at hl 0 rfl) ?_
    refine lv_bipush (v := 62) hx hb dM_holds_143 (by decide) ?_
    refine lv_icmp_ne (tgt := 164) hx hb dM_holds_145 (by decide) (fun c_9 => ?_) (fun c_9 => ?_)
    · skip
      refine lv_lload hx hb dM_holds_164 (lv_at hl 2 rfl) ?_
      refine lv_lload hx hb dM_holds_166 (lv_at hl 1 rfl) ?_
      refine tl_ne (tgt := 176) hx hb dM_holds_168 dM_holds_169 (by decide) (fun c_10 => ?_) (fun c_10 => ?_)
      · skip
        refine lv_iconst (v := 0) hx hb dM_holds_176 (by decide) ?_
        exact W.zret (v := 0) hx hb hr (rfl) (fun t ht hW => ⟨by rw [show fM_holds to mcode mtot msz mat mfl mru mpd mk mg mw mn mgp mga mgb mfc kk g w many = false from by unfold fM_holds; rw [if_neg c_8, if_neg c_9, if_neg c_10]]; rfl, ht⟩) (fun q h => by cases h) dM_holds_177
      · skip
        refine lv_iconst (v := 1) hx hb dM_holds_172 (by decide) ?_
        refine lv_goto (tgt := 177) hx hb dM_holds_173 (by decide) ?_
        exact W.zret (v := 1) hx hb hr (rfl) (fun t ht hW => ⟨by rw [show fM_holds to mcode mtot msz mat mfl mru mpd mk mg mw mn mgp mga mgb mfc kk g w many = true from by unfold fM_holds; rw [if_neg c_8, if_neg c_9, if_pos c_10]]; rfl, ht⟩) (fun q h => by cases h) dM_holds_177
    · skip
      refine lv_lload hx hb dM_holds_148 (lv_at hl 2 rfl) ?_
      refine lv_lload hx hb dM_holds_150 (lv_at hl 1 rfl) ?_
      refine tl_le (tgt := 160) hx hb dM_holds_152 dM_holds_153 (by decide) (fun c_11 => ?_) (fun c_11 => ?_)
      · skip
        refine lv_iconst (v := 0) hx hb dM_holds_160 (by decide) ?_
        refine lv_goto (tgt := 177) hx hb dM_holds_161 (by decide) ?_
        exact W.zret (v := 0) hx hb hr (rfl) (fun t ht hW => ⟨by rw [show fM_holds to mcode mtot msz mat mfl mru mpd mk mg mw mn mgp mga mgb mfc kk g w many = false from by unfold fM_holds; rw [if_neg c_8, if_pos c_9, if_pos c_11]]; rfl, ht⟩) (fun q h => by cases h) dM_holds_177
      · skip
        refine lv_iconst (v := 1) hx hb dM_holds_156 (by decide) ?_
        refine lv_goto (tgt := 177) hx hb dM_holds_157 (by decide) ?_
        exact W.zret (v := 1) hx hb hr (rfl) (fun t ht hW => ⟨by rw [show fM_holds to mcode mtot msz mat mfl mru mpd mk mg mw mn mgp mga mgb mfc kk g w many = true from by unfold fM_holds; rw [if_neg c_8, if_pos c_9, if_neg c_11]]; rfl, ht⟩) (fun q h => by cases h) dM_holds_177
  · skip
    refine lv_lload hx hb dM_holds_125 (lv_at hl 2 rfl) ?_
    refine lv_lload hx hb dM_holds_127 (lv_at hl 1 rfl) ?_
    refine tl_ge (tgt := 137) hx hb dM_holds_129 dM_holds_130 (by decide) (fun c_12 => ?_) (fun c_12 => ?_)
    · skip
      refine lv_iconst (v := 0) hx hb dM_holds_137 (by decide) ?_
      refine lv_goto (tgt := 177) hx hb dM_holds_138 (by decide) ?_
      exact W.zret (v := 0) hx hb hr (rfl) (fun t ht hW => ⟨by rw [show fM_holds to mcode mtot msz mat mfl mru mpd mk mg mw mn mgp mga mgb mfc kk g w many = false from by unfold fM_holds; rw [if_pos c_8, if_pos c_12]]; rfl, ht⟩) (fun q h => by cases h) dM_holds_177
    · skip
      refine lv_iconst (v := 1) hx hb dM_holds_133 (by decide) ?_
      refine lv_goto (tgt := 177) hx hb dM_holds_134 (by decide) ?_
      exact W.zret (v := 1) hx hb hr (rfl) (fun t ht hW => ⟨by rw [show fM_holds to mcode mtot msz mat mfl mru mpd mk mg mw mn mgp mga mgb mfc kk g w many = true from by unfold fM_holds; rw [if_pos c_8, if_neg c_12]]; rfl, ht⟩) (fun q h => by cases h) dM_holds_177
