def fM_here (ty : Nat → Int32) (mcode : Int32) (mtot : Int64) (mfl : Int32) (mru : Int32) (mpd : Bool) (mk : Int32) (mg : Int64) (mw : Int64) (mn : Int32) (mgp : Bool) (mga : Int64) (mgb : Int64) (mfc : Int32) (sz : Nat) (pa : Nat) : Int32 := if (nI sz) ≤ (nI pa) then (-1) else (ty (nI pa).toNatClampNeg)
set_option maxHeartbeats 4000000 in
set_option maxRecDepth 100000 in
theorem c_M_here (l : Launch) (dC : Nat → ClassId) (dI : Nat → Nat → Nat) (m0 : Nat) (aTy : Nat) (aTo : Nat) (aDr : Nat) (aBx : Nat) (cTy : ClassId) (ty : Nat → Int32) (mcode : Int32) (mtot : Int64) (mfl : Int32) (mru : Int32) (mpd : Bool) (mk : Int32) (mg : Int64) (mw : Int64) (mn : Int32) (mgp : Bool) (mga : Int64) (mgb : Int64) (mfc : Int32) (sz : Nat) (pa : Nat) (hsz : sz ≤ 120) (hpa : pa < 2147483648) : Met l mM_here wM_here ({ frames := 0, cells := 0, slots := 0, locals := 0 }) (tp_R (dC, dI) vCl [.ref m0] [(m0, .inr (6, [.int mcode, .long mtot, .ref aTy, .int (nI sz), .int (nI pa), .int mfl, .int mru, .ref aTo, .ref aDr, .int (bI mpd), .int mk, .long mg, .long mw, .int mn, .int (bI mgp), .long mga, .long mgb, .int mfc, .ref aBx])), (aTy, .inl (cTy, 120, .inl ty))] [(cTy, .int)]) (tq_R (some (.int (fM_here ty mcode mtot mfl mru mpd mk mg mw mn mgp mga mgb mfc sz pa)))) 0 0 (fun _ => False) := by
  refine Met.ofW (cc := bM_here) (maxL := 1) (ret := (some .int)) (by decide) rfl ?_
  intro p e s m args below meth c s₁ B hml hv
  obtain ⟨rfl, hP, hK, hN⟩ := hv
  have hx := B.exec
  have hb := B.bytes
  have hr := B.returns
  have hts : ∀ w ∈ gT, w.before _ s = true := fun w h => atoms_spec (ws := wM_here) B.pre w (List.mem_cons_of_mem _ h)
  have hown : s.vm.findClass RM = some m.cls := findClass_of_methodNamed B.named
  have hlocks := B.notSynchronized
  have hP : va_P (dC, dI) vCl [(m0, .inr (6, [.int mcode, .long mtot, .ref aTy, .int (nI sz), .int (nI pa), .int mfl, .int mru, .ref aTo, .ref aDr, .int (bI mpd), .int mk, .long mg, .long mw, .int mn, .int (bI mgp), .long mga, .long mgb, .int mfc, .ref aBx])), (aTy, .inl (cTy, 120, .inl ty))] s.heap := hP
  have hl := lv_entry ([.ref m0]) (n := 1) (Nat.le_of_ble_eq_true rfl)
  rw [lg_entry_eq]
  generalize (lg_sl ([.ref m0]) ++ List.replicate (1 - (lg_sl ([.ref m0])).length) Slot.unset).toArray = ls at hl ⊢
  have hl : lv_has ls 1 [(0, .ref m0)] := hl
  refine lv_aload_n hx hb dM_here_0 rfl (lv_at hl 0 rfl) ?_
  refine va_get (D := (dC, dI)) (ci := 6) (v := .int (nI pa)) (C := RM) (T := TM) (N := 19) hx hb hts inM hown hK hP 0 rfl rfl 4 (by decide) (hts _ gw_578) (fun _ h9 => h9) rfl dM_here_1 ?_
  refine lv_aload_n hx hb dM_here_4 rfl (lv_at hl 0 rfl) ?_
  refine va_get (D := (dC, dI)) (ci := 6) (v := .int (nI sz)) (C := RM) (T := TM) (N := 19) hx hb hts inM hown hK hP 0 rfl rfl 3 (by decide) (hts _ gw_577) (fun _ h9 => h9) rfl dM_here_5 ?_
  refine lv_icmp_ge (tgt := 23) hx hb dM_here_8 (by decide) (fun c_1 => ?_) (fun c_1 => ?_)
  · skip
    refine lv_iconst (v := (-1)) hx hb dM_here_23 (by decide) ?_
    exact W.iret (v := (-1)) hx hb hr (fun t ht hW => ⟨by rw [show fM_here ty mcode mtot mfl mru mpd mk mg mw mn mgp mga mgb mfc sz pa = (-1) from by unfold fM_here; rw [if_pos c_1]], ht⟩) (fun q h => by cases h) dM_here_24
  · skip
    refine lv_aload_n hx hb dM_here_11 rfl (lv_at hl 0 rfl) ?_
    refine va_get (D := (dC, dI)) (ci := 6) (v := .ref aTy) (C := RM) (T := TM) (N := 19) hx hb hts inM hown hK hP 0 rfl rfl 2 (by decide) (hts _ gw_576) (fun _ h9 => h9) rfl dM_here_12 ?_
    refine lv_aload_n hx hb dM_here_15 rfl (lv_at hl 0 rfl) ?_
    refine va_get (D := (dC, dI)) (ci := 6) (v := .int (nI pa)) (C := RM) (T := TM) (N := 19) hx hb hts inM hown hK hP 0 rfl rfl 4 (by decide) (hts _ gw_578) (fun _ h9 => h9) rfl dM_here_16 ?_
    have b_2 : vp_in (nI pa) 120 := tin_lt hpa hsz (by decide) c_1
    refine va_iald hx hb hK hP 1 0 rfl rfl b_2 dM_here_19 ?_
    refine lv_goto (tgt := 24) hx hb dM_here_20 (by decide) ?_
    exact W.iret (v := ty (nI pa).toNatClampNeg) hx hb hr (fun t ht hW => ⟨by rw [show fM_here ty mcode mtot mfl mru mpd mk mg mw mn mgp mga mgb mfc sz pa = ty (nI pa).toNatClampNeg from by unfold fM_here; rw [if_neg c_1]], ht⟩) (fun q h => by cases h) dM_here_24

def fM_fail_c0f5 (mcode : Int32) (mtot : Int64) (msz : Int32) (mat : Int32) (mfl : Int32) (mru : Int32) (mpd : Bool) (mk : Int32) (mg : Int64) (mw : Int64) (mn : Int32) (mgp : Bool) (mga : Int64) (mgb : Int64) (mfc : Int32) : Int32 := if 0 ≤ mfl then mfl else mat
set_option maxHeartbeats 4000000 in
set_option maxRecDepth 100000 in
theorem c_M_fail (l : Launch) (dC : Nat → ClassId) (dI : Nat → Nat → Nat) (m0 : Nat) (aTy : Nat) (aTo : Nat) (aDr : Nat) (aBx : Nat) (mcode : Int32) (mtot : Int64) (msz : Int32) (mat : Int32) (mfl : Int32) (mru : Int32) (mpd : Bool) (mk : Int32) (mg : Int64) (mw : Int64) (mn : Int32) (mgp : Bool) (mga : Int64) (mgb : Int64) (mfc : Int32) : Met l mM_fail wM_fail ({ frames := 0, cells := 0, slots := 0, locals := 0 }) (tp_W (dC, dI) vCl [.ref m0] [(m0, .inr (6, [.int mcode, .long mtot, .ref aTy, .int msz, .int mat, .int mfl, .int mru, .ref aTo, .ref aDr, .int (bI mpd), .int mk, .long mg, .long mw, .int mn, .int (bI mgp), .long mga, .long mgb, .int mfc, .ref aBx]))] []) (tq_W (dC, dI) vCl (none) [(m0, .inr (6, [.int mcode, .long mtot, .ref aTy, .int msz, .int mat, .int mfl, .int mru, .ref aTo, .ref aDr, .int (bI mpd), .int mk, .long mg, .long mw, .int mn, .int (bI mgp), .long mga, .long mgb, .int mfc, .ref aBx]))] [(m0, .inr (6, [.int mcode, .long mtot, .ref aTy, .int msz, .int mat, .int (fM_fail_c0f5 mcode mtot msz mat mfl mru mpd mk mg mw mn mgp mga mgb mfc), .int mru, .ref aTo, .ref aDr, .int (bI mpd), .int mk, .long mg, .long mw, .int mn, .int (bI mgp), .long mga, .long mgb, .int mfc, .ref aBx]))]) 0 0 (tA [(m0, .inr (6, [.int mcode, .long mtot, .ref aTy, .int msz, .int mat, .int mfl, .int mru, .ref aTo, .ref aDr, .int (bI mpd), .int mk, .long mg, .long mw, .int mn, .int (bI mgp), .long mga, .long mgb, .int mfc, .ref aBx]))]) := by
  refine Met.ofW (cc := bM_fail) (maxL := 1) (ret := none) (by decide) rfl ?_
  intro p e s m args below meth c s₁ B hml hv
  obtain ⟨rfl, hP, hK, hN, hD0⟩ := hv
  have hx := B.exec
  have hb := B.bytes
  have hr := B.returns
  have hts : ∀ w ∈ gT, w.before _ s = true := fun w h => atoms_spec (ws := wM_fail) B.pre w (List.mem_cons_of_mem _ h)
  have hown : s.vm.findClass RM = some m.cls := findClass_of_methodNamed B.named
  have hlocks := B.notSynchronized
  have hD := tA_D hD0
  generalize hAe : tA [(m0, .inr (6, [.int mcode, .long mtot, .ref aTy, .int msz, .int mat, .int mfl, .int mru, .ref aTo, .ref aDr, .int (bI mpd), .int mk, .long mg, .long mw, .int mn, .int (bI mgp), .long mga, .long mgb, .int mfc, .ref aBx]))] = A at hD ⊢
  have hS : va_S A s.heap s.heap [] := va_S.rf
  have hP : va_P (dC, dI) vCl [(m0, .inr (6, [.int mcode, .long mtot, .ref aTy, .int msz, .int mat, .int mfl, .int mru, .ref aTo, .ref aDr, .int (bI mpd), .int mk, .long mg, .long mw, .int mn, .int (bI mgp), .long mga, .long mgb, .int mfc, .ref aBx]))] s.heap := hP
  have hl := lv_entry ([.ref m0]) (n := 1) (Nat.le_of_ble_eq_true rfl)
  rw [lg_entry_eq]
  generalize (lg_sl ([.ref m0]) ++ List.replicate (1 - (lg_sl ([.ref m0])).length) Slot.unset).toArray = ls at hl ⊢
  have hl : lv_has ls 1 [(0, .ref m0)] := hl
  refine lv_aload_n hx hb dM_fail_0 rfl (lv_at hl 0 rfl) ?_
  refine lv_aload_n hx hb dM_fail_1 rfl (lv_at hl 0 rfl) ?_
  refine va_get (D := (dC, dI)) (ci := 6) (v := .int mfl) (C := RM) (T := TM) (N := 19) hx hb hts inM hown hK hP 0 rfl rfl 5 (by decide) (hts _ gw_579) (fun _ h9 => h9) rfl dM_fail_2 ?_
  refine lv_if_ge (tgt := 15) hx hb dM_fail_5 (by decide) (fun c_1 => ?_) (fun c_1 => ?_)
  · skip
    refine lv_aload_n hx hb dM_fail_15 rfl (lv_at hl 0 rfl) ?_
    refine va_get (D := (dC, dI)) (ci := 6) (v := .int mfl) (C := RM) (T := TM) (N := 19) hx hb hts inM hown hK hP 0 rfl rfl 5 (by decide) (hts _ gw_579) (fun _ h9 => h9) rfl dM_fail_16 ?_
    refine va_put (D := (dC, dI)) (ci := 6) (v := .int mfl) (ty := .int) (C := RM) (T := TM) (N := 19) hx hb hts inM yM yoM noM hown hK hP hD hS 0 rfl rfl 5 (by decide) (hts _ gw_579) (fun _ h9 => h9) rfl (by decide +kernel) rfl rfl (Nat.le_of_ble_eq_true rfl) dM_fail_19 (fun H locs hP hD hS => ?_)
    have hP : va_P (dC, dI) vCl [(m0, .inr (6, [.int mcode, .long mtot, .ref aTy, .int msz, .int mat, .int mfl, .int mru, .ref aTo, .ref aDr, .int (bI mpd), .int mk, .long mg, .long mw, .int mn, .int (bI mgp), .long mga, .long mgb, .int mfc, .ref aBx]))] H := hP
    have hD : va_D A [(m0, .inr (6, [.int mcode, .long mtot, .ref aTy, .int msz, .int mat, .int mfl, .int mru, .ref aTo, .ref aDr, .int (bI mpd), .int mk, .long mg, .long mw, .int mn, .int (bI mgp), .long mga, .long mgb, .int mfc, .ref aBx]))] := hD
    exact W.vret hx hb hr (fun t ht hW => ⟨rfl, by rw [ht, show fM_fail_c0f5 mcode mtot msz mat mfl mru mpd mk mg mw mn mgp mga mgb mfc = mfl from by unfold fM_fail_c0f5; rw [if_pos c_1]]; exact hP, by rw [hAe]; exact hS.F ht⟩) hS.2.2 dM_fail_22
  · skip
    refine lv_aload_n hx hb dM_fail_8 rfl (lv_at hl 0 rfl) ?_
    refine va_get (D := (dC, dI)) (ci := 6) (v := .int mat) (C := RM) (T := TM) (N := 19) hx hb hts inM hown hK hP 0 rfl rfl 4 (by decide) (hts _ gw_578) (fun _ h9 => h9) rfl dM_fail_9 ?_
    refine lv_goto (tgt := 19) hx hb dM_fail_12 (by decide) ?_
    refine va_put (D := (dC, dI)) (ci := 6) (v := .int mat) (ty := .int) (C := RM) (T := TM) (N := 19) hx hb hts inM yM yoM noM hown hK hP hD hS 0 rfl rfl 5 (by decide) (hts _ gw_579) (fun _ h9 => h9) rfl (by decide +kernel) rfl rfl (Nat.le_of_ble_eq_true rfl) dM_fail_19 (fun H locs hP hD hS => ?_)
    have hP : va_P (dC, dI) vCl [(m0, .inr (6, [.int mcode, .long mtot, .ref aTy, .int msz, .int mat, .int mat, .int mru, .ref aTo, .ref aDr, .int (bI mpd), .int mk, .long mg, .long mw, .int mn, .int (bI mgp), .long mga, .long mgb, .int mfc, .ref aBx]))] H := hP
    have hD : va_D A [(m0, .inr (6, [.int mcode, .long mtot, .ref aTy, .int msz, .int mat, .int mat, .int mru, .ref aTo, .ref aDr, .int (bI mpd), .int mk, .long mg, .long mw, .int mn, .int (bI mgp), .long mga, .long mgb, .int mfc, .ref aBx]))] := hD
    exact W.vret hx hb hr (fun t ht hW => ⟨rfl, by rw [ht, show fM_fail_c0f5 mcode mtot msz mat mfl mru mpd mk mg mw mn mgp mga mgb mfc = mat from by unfold fM_fail_c0f5; rw [if_neg c_1]]; exact hP, by rw [hAe]; exact hS.F ht⟩) hS.2.2 dM_fail_22

def fM_isDigit (ty : Nat → Int32) (mcode : Int32) (mtot : Int64) (mfl : Int32) (mru : Int32) (mpd : Bool) (mk : Int32) (mg : Int64) (mw : Int64) (mn : Int32) (mgp : Bool) (mga : Int64) (mgb : Int64) (mfc : Int32) (sz : Nat) (pa : Nat) : Bool := if (fM_here ty mcode mtot mfl mru mpd mk mg mw mn mgp mga mgb mfc sz pa) < 48 then false else (if 57 < (fM_here ty mcode mtot mfl mru mpd mk mg mw mn mgp mga mgb mfc sz pa) then false else true)
set_option maxHeartbeats 4000000 in
set_option maxRecDepth 100000 in
theorem c_M_isDigit (l : Launch) (dC : Nat → ClassId) (dI : Nat → Nat → Nat) (m0 : Nat) (aTy : Nat) (aTo : Nat) (aDr : Nat) (aBx : Nat) (cTy : ClassId) (ty : Nat → Int32) (mcode : Int32) (mtot : Int64) (mfl : Int32) (mru : Int32) (mpd : Bool) (mk : Int32) (mg : Int64) (mw : Int64) (mn : Int32) (mgp : Bool) (mga : Int64) (mgb : Int64) (mfc : Int32) (sz : Nat) (pa : Nat) (hsz : sz ≤ 120) (hpa : pa < 2147483648) : Met l mM_isDigit wM_isDigit ({ frames := 1, cells := 0, slots := 0, locals := 20 }) (tp_R (dC, dI) vCl [.ref m0] [(m0, .inr (6, [.int mcode, .long mtot, .ref aTy, .int (nI sz), .int (nI pa), .int mfl, .int mru, .ref aTo, .ref aDr, .int (bI mpd), .int mk, .long mg, .long mw, .int mn, .int (bI mgp), .long mga, .long mgb, .int mfc, .ref aBx])), (aTy, .inl (cTy, 120, .inl ty))] [(cTy, .int)]) (tq_R (some (.int (bI (fM_isDigit ty mcode mtot mfl mru mpd mk mg mw mn mgp mga mgb mfc sz pa))))) 0 0 (fun _ => False) := by
  refine Met.ofW (cc := bM_isDigit) (maxL := 1) (ret := (some .boolean)) (by decide) rfl ?_
  intro p e s m args below meth c s₁ B hml hv
  obtain ⟨rfl, hP, hK, hN⟩ := hv
  have hx := B.exec
  have hb := B.bytes
  have hr := B.returns
  have hts : ∀ w ∈ gT, w.before _ s = true := fun w h => atoms_spec (ws := wM_isDigit) B.pre w (List.mem_cons_of_mem _ h)
  have hown : s.vm.findClass RM = some m.cls := findClass_of_methodNamed B.named
  have hlocks := B.notSynchronized
  have hP : va_P (dC, dI) vCl [(m0, .inr (6, [.int mcode, .long mtot, .ref aTy, .int (nI sz), .int (nI pa), .int mfl, .int mru, .ref aTo, .ref aDr, .int (bI mpd), .int mk, .long mg, .long mw, .int mn, .int (bI mgp), .long mga, .long mgb, .int mfc, .ref aBx])), (aTy, .inl (cTy, 120, .inl ty))] s.heap := hP
  have hl := lv_entry ([.ref m0]) (n := 1) (Nat.le_of_ble_eq_true rfl)
  rw [lg_entry_eq]
  generalize (lg_sl ([.ref m0]) ++ List.replicate (1 - (lg_sl ([.ref m0])).length) Slot.unset).toArray = ls at hl ⊢
  have hl : lv_has ls 1 [(0, .ref m0)] := hl
  refine lv_aload_n hx hb dM_isDigit_0 rfl (lv_at hl 0 rfl) ?_
  refine tr_go (st1 := [.int (fM_here ty mcode mtot mfl mru mpd mk mg mw mn mgp mga mgb mfc sz pa)]) (va_runV (As := []) (rest := []) (C := RM) ⟨hx, hb, hml, hown, hts⟩ (c_M_here l dC dI m0 aTy aTo aDr aBx cTy ty mcode mtot mfl mru mpd mk mg mw mn mgp mga mgb mfc sz pa (by assumption) (by omega)) ⟨cB 0 hts gw_646 gw_7 gw_644 ndM_here rfl rfl ⟨Nat.le_of_ble_eq_true rfl, Nat.le_of_ble_eq_true rfl⟩, hts _ gw_645, hts _ gw_760⟩ (tp_Rv hN hK hP [0, 1] [0] rfl rfl (q0 := 0) (ci := 6) rfl rfl) rfl rfl hl.1 rfl (lv_room (Nat.le_of_ble_eq_true rfl)) dM_isDigit_1 ⟨Nat.le_of_ble_eq_true rfl, Nat.le_of_ble_eq_true rfl⟩) rfl ?_
  refine lv_bipush (v := 48) hx hb dM_isDigit_4 (by decide) ?_
  refine lv_icmp_lt (tgt := 22) hx hb dM_isDigit_6 (by decide) (fun c_1 => ?_) (fun c_1 => ?_)
  · skip
    refine lv_iconst (v := 0) hx hb dM_isDigit_22 (by decide) ?_
    exact W.zret (v := 0) hx hb hr (rfl) (fun t ht hW => ⟨by rw [show fM_isDigit ty mcode mtot mfl mru mpd mk mg mw mn mgp mga mgb mfc sz pa = false from by unfold fM_isDigit; rw [if_pos c_1]]; rfl, ht⟩) (fun q h => by cases h) dM_isDigit_23
  · skip
    refine lv_aload_n hx hb dM_isDigit_9 rfl (lv_at hl 0 rfl) ?_
    refine tr_go (st1 := [.int (fM_here ty mcode mtot mfl mru mpd mk mg mw mn mgp mga mgb mfc sz pa)]) (va_runV (As := []) (rest := []) (C := RM) ⟨hx, hb, hml, hown, hts⟩ (c_M_here l dC dI m0 aTy aTo aDr aBx cTy ty mcode mtot mfl mru mpd mk mg mw mn mgp mga mgb mfc sz pa (by assumption) (by omega)) ⟨cB 0 hts gw_646 gw_7 gw_644 ndM_here rfl rfl ⟨Nat.le_of_ble_eq_true rfl, Nat.le_of_ble_eq_true rfl⟩, hts _ gw_645, hts _ gw_760⟩ (tp_Rv hN hK hP [0, 1] [0] rfl rfl (q0 := 0) (ci := 6) rfl rfl) rfl rfl hl.1 rfl (lv_room (Nat.le_of_ble_eq_true rfl)) dM_isDigit_10 ⟨Nat.le_of_ble_eq_true rfl, Nat.le_of_ble_eq_true rfl⟩) rfl ?_
    refine lv_bipush (v := 57) hx hb dM_isDigit_13 (by decide) ?_
    refine lv_icmp_gt (tgt := 22) hx hb dM_isDigit_15 (by decide) (fun c_2 => ?_) (fun c_2 => ?_)
    · skip
      refine lv_iconst (v := 0) hx hb dM_isDigit_22 (by decide) ?_
      exact W.zret (v := 0) hx hb hr (rfl) (fun t ht hW => ⟨by rw [show fM_isDigit ty mcode mtot mfl mru mpd mk mg mw mn mgp mga mgb mfc sz pa = false from by unfold fM_isDigit; rw [if_neg c_1, if_pos c_2]]; rfl, ht⟩) (fun q h => by cases h) dM_isDigit_23
    · skip
      refine lv_iconst (v := 1) hx hb dM_isDigit_18 (by decide) ?_
      refine lv_goto (tgt := 23) hx hb dM_isDigit_19 (by decide) ?_
      exact W.zret (v := 1) hx hb hr (rfl) (fun t ht hW => ⟨by rw [show fM_isDigit ty mcode mtot mfl mru mpd mk mg mw mn mgp mga mgb mfc sz pa = true from by unfold fM_isDigit; rw [if_neg c_1, if_neg c_2]]; rfl, ht⟩) (fun q h => by cases h) dM_isDigit_23

def rdL (ty : Nat → Int32) (mcode : Int32) (mtot : Int64) (mfl : Int32) (mru : Int32) (mpd : Bool) (mk : Int32) (mg : Int64) (mw : Int64) (mn : Int32) (mgp : Bool) (mga : Int64) (mgb : Int64) (mfc : Int32) (sz : Nat) : Nat → Nat → Int32 → Nat → Nat × Int32 × Nat
  | 0, k, v, pa => (k, v, pa)
  | n + 1, k, v, pa => if fM_isDigit ty mcode mtot mfl mru mpd mk mg mw mn mgp mga mgb mfc sz pa = true then rdL ty mcode mtot mfl mru mpd mk mg mw mn mgp mga mgb mfc sz n (k + 1) (((10 * v) + (fM_here ty mcode mtot mfl mru mpd mk mg mw mn mgp mga mgb mfc sz pa)) - 48) (pa + 1) else (k, v, pa)
def fM_rd (ty : Nat → Int32) (mcode : Int32) (mtot : Int64) (mfl : Int32) (mru : Int32) (mpd : Bool) (mk : Int32) (mg : Int64) (mw : Int64) (mn : Int32) (mgp : Bool) (mga : Int64) (mgb : Int64) (mfc : Int32) (sz : Nat) (mo pa : Nat) : Int32 := if nI (rdL ty mcode mtot mfl mru mpd mk mg mw mn mgp mga mgb mfc sz mo 0 0 pa).1 = 0 then (-1) else (rdL ty mcode mtot mfl mru mpd mk mg mw mn mgp mga mgb mfc sz mo 0 0 pa).2.1


set_option maxHeartbeats 4000000 in
set_option maxRecDepth 100000 in
theorem c_M_readDigits (l : Launch) (dC : Nat → ClassId) (dI : Nat → Nat → Nat) (m0 : Nat) (aTy : Nat) (aTo : Nat) (aDr : Nat) (aBx : Nat) (cTy : ClassId) (ty : Nat → Int32) (mcode : Int32) (mtot : Int64) (mfl : Int32) (mru : Int32) (mpd : Bool) (mk : Int32) (mg : Int64) (mw : Int64) (mn : Int32) (mgp : Bool) (mga : Int64) (mgb : Int64) (mfc : Int32) (sz : Nat) (mo : Nat) (pa : Nat) (hsz : sz ≤ 120) (hmo : mo ≤ 100) (hpa : pa + mo < 2147483648) : Met l mM_readDigits wM_readDigits ({ frames := 2, cells := 0, slots := 0, locals := 40 }) (tp_W (dC, dI) vCl [.ref m0, .int (nI mo)] [(m0, .inr (6, [.int mcode, .long mtot, .ref aTy, .int (nI sz), .int (nI pa), .int mfl, .int mru, .ref aTo, .ref aDr, .int (bI mpd), .int mk, .long mg, .long mw, .int mn, .int (bI mgp), .long mga, .long mgb, .int mfc, .ref aBx])), (aTy, .inl (cTy, 120, .inl ty))] [(cTy, .int)]) (tq_W (dC, dI) vCl (some (.int (fM_rd ty mcode mtot mfl mru mpd mk mg mw mn mgp mga mgb mfc sz mo pa))) [(m0, .inr (6, [.int mcode, .long mtot, .ref aTy, .int (nI sz), .int (nI pa), .int mfl, .int mru, .ref aTo, .ref aDr, .int (bI mpd), .int mk, .long mg, .long mw, .int mn, .int (bI mgp), .long mga, .long mgb, .int mfc, .ref aBx])), (aTy, .inl (cTy, 120, .inl ty))] [(m0, .inr (6, [.int mcode, .long mtot, .ref aTy, .int (nI sz), .int (nI (rdL ty mcode mtot mfl mru mpd mk mg mw mn mgp mga mgb mfc sz mo 0 0 pa).2.2), .int mfl, .int mru, .ref aTo, .ref aDr, .int (bI mpd), .int mk, .long mg, .long mw, .int mn, .int (bI mgp), .long mga, .long mgb, .int mfc, .ref aBx])), (aTy, .inl (cTy, 120, .inl ty))]) 0 0 (tA [(m0, .inr (6, [.int mcode, .long mtot, .ref aTy, .int (nI sz), .int (nI pa), .int mfl, .int mru, .ref aTo, .ref aDr, .int (bI mpd), .int mk, .long mg, .long mw, .int mn, .int (bI mgp), .long mga, .long mgb, .int mfc, .ref aBx])), (aTy, .inl (cTy, 120, .inl ty))]) := by
  refine Met.ofW (cc := bM_readDigits) (maxL := 4) (ret := (some .int)) (by decide) rfl ?_
  intro p e s m args below meth c s₁ B hml hv
  obtain ⟨rfl, hP, hK, hN, hD0⟩ := hv
  have hx := B.exec
  have hb := B.bytes
  have hr := B.returns
  have hts : ∀ w ∈ gT, w.before _ s = true := fun w h => atoms_spec (ws := wM_readDigits) B.pre w (List.mem_cons_of_mem _ h)
  have hown : s.vm.findClass RM = some m.cls := findClass_of_methodNamed B.named
  have hlocks := B.notSynchronized
  have hD := tA_D hD0
  generalize hAe : tA [(m0, .inr (6, [.int mcode, .long mtot, .ref aTy, .int (nI sz), .int (nI pa), .int mfl, .int mru, .ref aTo, .ref aDr, .int (bI mpd), .int mk, .long mg, .long mw, .int mn, .int (bI mgp), .long mga, .long mgb, .int mfc, .ref aBx])), (aTy, .inl (cTy, 120, .inl ty))] = A at hD ⊢
  have hS : va_S A s.heap s.heap [] := va_S.rf
  have hP : va_P (dC, dI) vCl [(m0, .inr (6, [.int mcode, .long mtot, .ref aTy, .int (nI sz), .int (nI pa), .int mfl, .int mru, .ref aTo, .ref aDr, .int (bI mpd), .int mk, .long mg, .long mw, .int mn, .int (bI mgp), .long mga, .long mgb, .int mfc, .ref aBx])), (aTy, .inl (cTy, 120, .inl ty))] s.heap := hP
  have hl := lv_entry ([.ref m0, .int (nI mo)]) (n := 4) (Nat.le_of_ble_eq_true rfl)
  rw [lg_entry_eq]
  generalize (lg_sl ([.ref m0, .int (nI mo)]) ++ List.replicate (4 - (lg_sl ([.ref m0, .int (nI mo)])).length) Slot.unset).toArray = ls at hl ⊢
  have hl : lv_has ls 4 [(0, .ref m0), (1, .int (nI mo))] := hl
  have loop : ∀ (n : Nat) (k : Nat) (vv : Int32) (pb : Nat) (hk : n + k = mo) (hpb : pb + n < 2147483648) (hR : rdL ty mcode mtot mfl mru mpd mk mg mw mn mgp mga mgb mfc sz n k vv pb = rdL ty mcode mtot mfl mru mpd mk mg mw mn mgp mga mgb mfc sz mo 0 0 pa) (H : Heap) (locs : List Loc) (hP : va_P (dC, dI) vCl [(m0, .inr (6, [.int mcode, .long mtot, .ref aTy, .int (nI sz), .int (nI pb), .int mfl, .int mru, .ref aTo, .ref aDr, .int (bI mpd), .int mk, .long mg, .long mw, .int mn, .int (bI mgp), .long mga, .long mgb, .int mfc, .ref aBx])), (aTy, .inl (cTy, 120, .inl ty))] H) (hD : va_D A [(m0, .inr (6, [.int mcode, .long mtot, .ref aTy, .int (nI sz), .int (nI pb), .int mfl, .int mru, .ref aTo, .ref aDr, .int (bI mpd), .int mk, .long mg, .long mw, .int mn, .int (bI mgp), .long mga, .long mgb, .int mfc, .ref aBx])), (aTy, .inl (cTy, 120, .inl ty))]) (hS : va_S A s.heap H locs) (ls : Array Slot), lv_has ls 4 [(3, .int (nI k)), (2, .int vv), (1, .int (nI mo)), (0, .ref m0)] → W p l e (headSpec wM_readDigits ({ frames := 2, cells := 0, slots := 0, locals := 40 })).room s m ([.ref m0, .int (nI mo)] : List Value).toArray below meth c H locs 0 0 (MQ below (tq_W (dC, dI) vCl (some (.int (fM_rd ty mcode mtot mfl mru mpd mk mg mw mn mgp mga mgb mfc sz mo pa))) [(m0, .inr (6, [.int mcode, .long mtot, .ref aTy, .int (nI sz), .int (nI pa), .int mfl, .int mru, .ref aTo, .ref aDr, .int (bI mpd), .int mk, .long mg, .long mw, .int mn, .int (bI mgp), .long mga, .long mgb, .int mfc, .ref aBx])), (aTy, .inl (cTy, 120, .inl ty))] [(m0, .inr (6, [.int mcode, .long mtot, .ref aTy, .int (nI sz), .int (nI (rdL ty mcode mtot mfl mru mpd mk mg mw mn mgp mga mgb mfc sz mo 0 0 pa).2.2), .int mfl, .int mru, .ref aTo, .ref aDr, .int (bI mpd), .int mk, .long mg, .long mw, .int mn, .int (bI mgp), .long mga, .long mgb, .int mfc, .ref aBx])), (aTy, .inl (cTy, 120, .inl ty))]) ([.ref m0, .int (nI mo)] : List Value).toArray s 0 0 A) (F0 m 4 ls []) := by
    intro n
    induction n with
    | zero =>
      intro k vv pb hk hpb hR H locs hP hD hS ls hl
      refine lv_iload_n hx hb dM_readDigits_4 rfl (lv_at hl 0 rfl) ?_
      refine lv_iload_n hx hb dM_readDigits_5 rfl (lv_at hl 2 rfl) ?_
      refine lv_icmp_ge (tgt := 45) hx hb dM_readDigits_6 (by decide) (fun c_1 => ?_) (fun c_1 => absurd (by rw [show k = mo by omega]; exact Int32.le_refl _) c_1)
      refine lv_iload_n hx hb dM_readDigits_45 rfl (lv_at hl 0 rfl) ?_
      refine lv_if_ne (tgt := 53) hx hb dM_readDigits_46 (by decide) (fun c_2 => ?_) (fun c_2 => ?_)
      · skip
        refine lv_iload_n hx hb dM_readDigits_53 rfl (lv_at hl 1 rfl) ?_
        have er : rdL ty mcode mtot mfl mru mpd mk mg mw mn mgp mga mgb mfc sz mo 0 0 pa = (k, vv, pb) := by rw [← hR, rdL]
        exact W.iret (v := vv) hx hb hr (fun t ht hW => ⟨by rw [show fM_rd ty mcode mtot mfl mru mpd mk mg mw mn mgp mga mgb mfc sz mo pa = vv from by unfold fM_rd; rw [er]; exact if_neg c_2], by rw [ht, er]; exact hP, by rw [hAe]; exact hS.F ht⟩) hS.2.2 dM_readDigits_54
      · skip
        refine lv_iconst (v := (-1)) hx hb dM_readDigits_49 (by decide) ?_
        refine lv_goto (tgt := 54) hx hb dM_readDigits_50 (by decide) ?_
        have er : rdL ty mcode mtot mfl mru mpd mk mg mw mn mgp mga mgb mfc sz mo 0 0 pa = (k, vv, pb) := by rw [← hR, rdL]
        exact W.iret (v := (-1)) hx hb hr (fun t ht hW => ⟨by rw [show fM_rd ty mcode mtot mfl mru mpd mk mg mw mn mgp mga mgb mfc sz mo pa = (-1) from by unfold fM_rd; rw [er]; exact if_pos c_2], by rw [ht, er]; exact hP, by rw [hAe]; exact hS.F ht⟩) hS.2.2 dM_readDigits_54
    | succ n ih =>
      intro k vv pb hk hpb hR H locs hP hD hS ls hl
      refine lv_iload_n hx hb dM_readDigits_4 rfl (lv_at hl 0 rfl) ?_
      refine lv_iload_n hx hb dM_readDigits_5 rfl (lv_at hl 2 rfl) ?_
      refine lv_icmp_ge (tgt := 45) hx hb dM_readDigits_6 (by decide) (fun c_3 => absurd c_3 (nI_ge (by omega) (by omega))) (fun c_3 => ?_)
      refine lv_aload_n hx hb dM_readDigits_9 rfl (lv_at hl 3 rfl) ?_
      refine tr_go (st1 := [.int (bI (fM_isDigit ty mcode mtot mfl mru mpd mk mg mw mn mgp mga mgb mfc sz pb))]) (va_runV (As := []) (rest := []) (C := RM) ⟨hx, hb, hml, hown, hts⟩ (c_M_isDigit l dC dI m0 aTy aTo aDr aBx cTy ty mcode mtot mfl mru mpd mk mg mw mn mgp mga mgb mfc sz pb (by assumption) (by omega)) ⟨cB 0 hts gw_643 gw_7 gw_641 ndM_isDigit rfl rfl ⟨Nat.le_of_ble_eq_true rfl, Nat.le_of_ble_eq_true rfl⟩, hts _ gw_642, hts _ gw_759⟩ (tp_Rv hN hK hP [0, 1] [0] rfl rfl (q0 := 0) (ci := 6) rfl rfl) rfl rfl hl.1 rfl (lv_room (Nat.le_of_ble_eq_true rfl)) dM_readDigits_10 ⟨Nat.le_of_ble_eq_true rfl, Nat.le_of_ble_eq_true rfl⟩) rfl ?_
      refine tb_ifeq (tgt := 45) hx hb dM_readDigits_13 (by decide) (fun c_4 => ?_) (fun c_4 => ?_)
      · skip
        refine lv_iload_n hx hb dM_readDigits_45 rfl (lv_at hl 0 rfl) ?_
        refine lv_if_ne (tgt := 53) hx hb dM_readDigits_46 (by decide) (fun c_5 => ?_) (fun c_5 => ?_)
        · skip
          refine lv_iload_n hx hb dM_readDigits_53 rfl (lv_at hl 1 rfl) ?_
          have er : rdL ty mcode mtot mfl mru mpd mk mg mw mn mgp mga mgb mfc sz mo 0 0 pa = (k, vv, pb) := by rw [← hR, rdL, if_neg (Bool.eq_false_iff.mp c_4)]
          exact W.iret (v := vv) hx hb hr (fun t ht hW => ⟨by rw [show fM_rd ty mcode mtot mfl mru mpd mk mg mw mn mgp mga mgb mfc sz mo pa = vv from by unfold fM_rd; rw [er]; exact if_neg c_5], by rw [ht, er]; exact hP, by rw [hAe]; exact hS.F ht⟩) hS.2.2 dM_readDigits_54
        · skip
          refine lv_iconst (v := (-1)) hx hb dM_readDigits_49 (by decide) ?_
          refine lv_goto (tgt := 54) hx hb dM_readDigits_50 (by decide) ?_
          have er : rdL ty mcode mtot mfl mru mpd mk mg mw mn mgp mga mgb mfc sz mo 0 0 pa = (k, vv, pb) := by rw [← hR, rdL, if_neg (Bool.eq_false_iff.mp c_4)]
          exact W.iret (v := (-1)) hx hb hr (fun t ht hW => ⟨by rw [show fM_rd ty mcode mtot mfl mru mpd mk mg mw mn mgp mga mgb mfc sz mo pa = (-1) from by unfold fM_rd; rw [er]; exact if_pos c_5], by rw [ht, er]; exact hP, by rw [hAe]; exact hS.F ht⟩) hS.2.2 dM_readDigits_54
      · skip
        refine lv_bipush (v := 10) hx hb dM_readDigits_16 (by decide) ?_
        refine lv_iload_n hx hb dM_readDigits_18 rfl (lv_at hl 1 rfl) ?_
        refine lv_imul hx hb dM_readDigits_19 ?_
        refine lv_aload_n hx hb dM_readDigits_20 rfl (lv_at hl 3 rfl) ?_
        refine tr_go (st1 := [.int (fM_here ty mcode mtot mfl mru mpd mk mg mw mn mgp mga mgb mfc sz pb), .int (10 * vv)]) (va_runV (As := []) (rest := [.int (10 * vv)]) (C := RM) ⟨hx, hb, hml, hown, hts⟩ (c_M_here l dC dI m0 aTy aTo aDr aBx cTy ty mcode mtot mfl mru mpd mk mg mw mn mgp mga mgb mfc sz pb (by assumption) (by omega)) ⟨cB 0 hts gw_646 gw_7 gw_644 ndM_here rfl rfl ⟨Nat.le_of_ble_eq_true rfl, Nat.le_of_ble_eq_true rfl⟩, hts _ gw_645, hts _ gw_760⟩ (tp_Rv hN hK hP [0, 1] [0] rfl rfl (q0 := 0) (ci := 6) rfl rfl) rfl rfl hl.1 rfl (lv_room (Nat.le_of_ble_eq_true rfl)) dM_readDigits_21 ⟨Nat.le_of_ble_eq_true rfl, Nat.le_of_ble_eq_true rfl⟩) rfl ?_
        refine lv_iadd hx hb dM_readDigits_24 ?_
        refine lv_bipush (v := 48) hx hb dM_readDigits_25 (by decide) ?_
        refine lv_isub hx hb dM_readDigits_27 ?_
        refine lv_istore_n (lv' := [(2, .int (((10 * vv) + (fM_here ty mcode mtot mfl mru mpd mk mg mw mn mgp mga mgb mfc sz pb)) - 48)), (3, .int (nI k)), (1, .int (nI mo)), (0, .ref m0)]) hx hb dM_readDigits_28 rfl hl (by decide) rfl (fun ls hl => ?_)
        refine lv_iinc (v := nI (k + 1)) (lv' := [(3, .int (nI (k + 1))), (2, .int (((10 * vv) + (fM_here ty mcode mtot mfl mru mpd mk mg mw mn mgp mga mgb mfc sz pb)) - 48)), (1, .int (nI mo)), (0, .ref m0)]) hx hb dM_readDigits_29 hl (k := 1) rfl (by rw [nI_succ]; rfl) (by decide) rfl (fun ls hl => ?_)
        refine lv_aload_n hx hb dM_readDigits_32 rfl (lv_at hl 3 rfl) ?_
        refine lv_dup hx hb dM_readDigits_33 rfl ?_
        refine va_get (D := (dC, dI)) (ci := 6) (v := .int (nI pb)) (C := RM) (T := TM) (N := 19) hx hb hts inM hown hK hP 0 rfl rfl 4 (by decide) (hts _ gw_578) (fun _ h9 => h9) rfl dM_readDigits_34 ?_
        refine lv_iconst (v := 1) hx hb dM_readDigits_37 (by decide) ?_
        refine lv_iadd hx hb dM_readDigits_38 ?_
        rw [nI_1 (pb)]
        refine va_put (D := (dC, dI)) (ci := 6) (v := .int (nI (pb + 1))) (ty := .int) (C := RM) (T := TM) (N := 19) hx hb hts inM yM yoM noM hown hK hP hD hS 0 rfl rfl 4 (by decide) (hts _ gw_578) (fun _ h9 => h9) rfl (by decide +kernel) rfl rfl (Nat.le_of_ble_eq_true rfl) dM_readDigits_39 (fun H locs hP hD hS => ?_)
        have hP : va_P (dC, dI) vCl [(m0, .inr (6, [.int mcode, .long mtot, .ref aTy, .int (nI sz), .int (nI (pb + 1)), .int mfl, .int mru, .ref aTo, .ref aDr, .int (bI mpd), .int mk, .long mg, .long mw, .int mn, .int (bI mgp), .long mga, .long mgb, .int mfc, .ref aBx])), (aTy, .inl (cTy, 120, .inl ty))] H := hP
        have hD : va_D A [(m0, .inr (6, [.int mcode, .long mtot, .ref aTy, .int (nI sz), .int (nI (pb + 1)), .int mfl, .int mru, .ref aTo, .ref aDr, .int (bI mpd), .int mk, .long mg, .long mw, .int mn, .int (bI mgp), .long mga, .long mgb, .int mfc, .ref aBx])), (aTy, .inl (cTy, 120, .inl ty))] := hD
        refine lv_goto (tgt := 4) hx hb dM_readDigits_42 (by decide) ?_
        exact ih (k + 1) (((10 * vv) + (fM_here ty mcode mtot mfl mru mpd mk mg mw mn mgp mga mgb mfc sz pb)) - 48) (pb + 1) (by omega) (by omega) (by rw [rdL, if_pos c_4] at hR; exact hR) _ _ hP hD hS ls (lv_sub hl [0, 1, 2, 3] rfl)
  refine lv_iconst (v := 0) hx hb dM_readDigits_0 (by decide) ?_
  refine lv_istore_n (lv' := [(2, .int 0), (0, .ref m0), (1, .int (nI mo))]) hx hb dM_readDigits_1 rfl hl (by decide) rfl (fun ls hl => ?_)
  refine lv_iconst (v := 0) hx hb dM_readDigits_2 (by decide) ?_
  refine lv_istore_n (lv' := [(3, .int 0), (2, .int 0), (0, .ref m0), (1, .int (nI mo))]) hx hb dM_readDigits_3 rfl hl (by decide) rfl (fun ls hl => ?_)
  exact loop mo 0 0 pa rfl hpa rfl _ _ hP hD hS ls (lv_sub hl [0, 1, 3, 2] rfl)
