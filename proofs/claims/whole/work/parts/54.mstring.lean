theorem mnn1 (mcode : Int32) (mtot : Int64) (msz : Int32) (mat : Int32) (mfl : Int32) (mru : Int32) (mpd : Bool) (mk : Int32) (mg : Int64) (mw : Int64) (mn : Int32) (mgp : Bool) (mga : Int64) (mgb : Int64) (mfc : Int32) (h : fM_none mcode mtot msz mat mfl mru mpd mk mg mw mn mgp mga mgb mfc = true) : fM_none_c0f0 mcode mtot msz mat mfl mru mpd mk mg mw mn mgp mga mgb mfc = 1 := by
  unfold fM_none at h
  unfold fM_none_c0f0
  split
  · rename_i h1
    rw [if_pos h1] at h
    cases h
  · rfl
def strC (mcode : Int32) (mtot : Int64) (msz : Int32) (mat : Int32) (mfl : Int32) (mru : Int32) (mpd : Bool) (mk : Int32) (mg : Int64) (mw : Int64) (mn : Int32) (mgp : Bool) (mga : Int64) (mgb : Int64) (mfc : Int32) (end_ : Int32) : Int32 := if fM_none mcode mtot msz mat mfl mru mpd mk mg mw mn mgp mga mgb mfc = true then fM_none_c0f0 mcode mtot msz mat mfl mru mpd mk mg mw mn mgp mga mgb mfc else (if fM_isIn end_.toInt64 0 1 = true then 0 else 2)
def mrootL (mn : Int32) (sq : Int64) : Nat → Int64 → Int64
  | 0, r => r
  | n + 1, r => if sq < (((r ||| (1 <<< ((nI n).toInt64 &&& 63))) * (r ||| (1 <<< ((nI n).toInt64 &&& 63)))) * mn.toInt64) * mn.toInt64 then mrootL mn sq n r else mrootL mn sq n (r ||| (1 <<< ((nI n).toInt64 &&& 63)))
def mSq (mtot mg : Int64) (mn : Int32) : Int64 := ((((mn.toInt64 - 1) * mg) * mn.toInt64) * (((mn.toInt64 - 1) * mg) * mn.toInt64)) + (((mn.toInt64 - 1) * mtot) * ((mn.toInt64 - 1) * mtot))
def mRt (mtot mg : Int64) (mn : Int32) : Int64 := mrootL mn (mSq mtot mg mn) 26 0
def mStr (mtot mg : Int64) (mn end_ : Int32) : Int64 := if end_ = 0 then mRt mtot mg mn else (if ((mRt mtot mg mn * mRt mtot mg mn) * mn.toInt64) * mn.toInt64 = mSq mtot mg mn then mRt mtot mg mn else mRt mtot mg mn + 1)


set_option maxHeartbeats 4000000 in
set_option maxRecDepth 100000 in
theorem c_M_string_err (l : Launch) (dC : Nat → ClassId) (dI : Nat → Nat → Nat) (m0 : Nat) (aTy : Nat) (aTo : Nat) (aDr : Nat) (aBx : Nat) (mcode : Int32) (mtot : Int64) (msz : Int32) (mat : Int32) (mfl : Int32) (mru : Int32) (mpd : Bool) (mk : Int32) (mg : Int64) (mw : Int64) (mn : Int32) (mgp : Bool) (mga : Int64) (mgb : Int64) (mfc : Int32) (end_ : Int32) (he : ¬ strC mcode mtot msz mat mfl mru mpd mk mg mw mn mgp mga mgb mfc end_ = 0) : Met l mM_string wM_string ({ frames := 1, cells := 0, slots := 0, locals := 25 }) (tp_W (dC, dI) vCl [.ref m0, .int end_] [(m0, .inr (6, [.int mcode, .long mtot, .ref aTy, .int msz, .int mat, .int mfl, .int mru, .ref aTo, .ref aDr, .int (bI mpd), .int mk, .long mg, .long mw, .int mn, .int (bI mgp), .long mga, .long mgb, .int mfc, .ref aBx]))] []) (tq_W (dC, dI) vCl (some (.long 0)) [(m0, .inr (6, [.int mcode, .long mtot, .ref aTy, .int msz, .int mat, .int mfl, .int mru, .ref aTo, .ref aDr, .int (bI mpd), .int mk, .long mg, .long mw, .int mn, .int (bI mgp), .long mga, .long mgb, .int mfc, .ref aBx]))] [(m0, .inr (6, [.int (strC mcode mtot msz mat mfl mru mpd mk mg mw mn mgp mga mgb mfc end_), .long mtot, .ref aTy, .int msz, .int mat, .int mfl, .int mru, .ref aTo, .ref aDr, .int (bI mpd), .int mk, .long mg, .long mw, .int mn, .int (bI mgp), .long mga, .long mgb, .int mfc, .ref aBx]))]) 0 0 (tA [(m0, .inr (6, [.int mcode, .long mtot, .ref aTy, .int msz, .int mat, .int mfl, .int mru, .ref aTo, .ref aDr, .int (bI mpd), .int mk, .long mg, .long mw, .int mn, .int (bI mgp), .long mga, .long mgb, .int mfc, .ref aBx]))]) := by
  refine Met.ofW (cc := bM_string) (maxL := 13) (ret := (some .long)) (by decide) rfl ?_
  intro p e s m args below meth c s₁ B hml hv
  obtain ⟨rfl, hP, hK, hN, hD0⟩ := hv
  have hx := B.exec
  have hb := B.bytes
  have hr := B.returns
  have hts : ∀ w ∈ gT, w.before _ s = true := fun w h => atoms_spec (ws := wM_string) B.pre w (List.mem_cons_of_mem _ h)
  have hown : s.vm.findClass RM = some m.cls := findClass_of_methodNamed B.named
  have hlocks := B.notSynchronized
  have hD := tA_D hD0
  generalize hAe : tA [(m0, .inr (6, [.int mcode, .long mtot, .ref aTy, .int msz, .int mat, .int mfl, .int mru, .ref aTo, .ref aDr, .int (bI mpd), .int mk, .long mg, .long mw, .int mn, .int (bI mgp), .long mga, .long mgb, .int mfc, .ref aBx]))] = A at hD ⊢
  have hS : va_S A s.heap s.heap [] := va_S.rf
  have hP : va_P (dC, dI) vCl [(m0, .inr (6, [.int mcode, .long mtot, .ref aTy, .int msz, .int mat, .int mfl, .int mru, .ref aTo, .ref aDr, .int (bI mpd), .int mk, .long mg, .long mw, .int mn, .int (bI mgp), .long mga, .long mgb, .int mfc, .ref aBx]))] s.heap := hP
  have hl := lv_entry ([.ref m0, .int end_]) (n := 13) (Nat.le_of_ble_eq_true rfl)
  rw [lg_entry_eq]
  generalize (lg_sl ([.ref m0, .int end_]) ++ List.replicate (13 - (lg_sl ([.ref m0, .int end_])).length) Slot.unset).toArray = ls at hl ⊢
  have hl : lv_has ls 13 [(0, .ref m0), (1, .int end_)] := hl
  refine lv_aload_n hx hb dM_string_0 rfl (lv_at hl 0 rfl) ?_
  refine tc_go (st1 := [.int (bI (fM_none mcode mtot msz mat mfl mru mpd mk mg mw mn mgp mga mgb mfc))]) (ws' := [(m0, .inr (6, [.int (fM_none_c0f0 mcode mtot msz mat mfl mru mpd mk mg mw mn mgp mga mgb mfc), .long mtot, .ref aTy, .int msz, .int mat, .int mfl, .int mru, .ref aTo, .ref aDr, .int (bI mpd), .int mk, .long mg, .long mw, .int mn, .int (bI mgp), .long mga, .long mgb, .int mfc, .ref aBx]))]) (va_runV (As := []) (rest := []) (C := RM) ⟨hx, hb, hml, hown, hts⟩ (c_M_none l dC dI m0 aTy aTo aDr aBx mcode mtot msz mat mfl mru mpd mk mg mw mn mgp mga mgb mfc) ⟨cB 0 hts gw_671 gw_7 gw_669 ndM_none rfl rfl ⟨Nat.le_of_ble_eq_true rfl, Nat.le_of_ble_eq_true rfl⟩, hts _ gw_670, hts _ gw_764⟩ (tp_Wv hN hK hP hD [0] [] rfl (by decide) rfl (q0 := 0) (ci := 6) rfl rfl) rfl rfl hl.1 rfl (lv_room (Nat.le_of_ble_eq_true rfl)) dM_string_1 ⟨Nat.le_of_ble_eq_true rfl, Nat.le_of_ble_eq_true rfl⟩) rfl hP hD hS [0] rfl rfl rfl (fun H locs hP hD hS => ?_)
  have hP : va_P (dC, dI) vCl [(m0, .inr (6, [.int (fM_none_c0f0 mcode mtot msz mat mfl mru mpd mk mg mw mn mgp mga mgb mfc), .long mtot, .ref aTy, .int msz, .int mat, .int mfl, .int mru, .ref aTo, .ref aDr, .int (bI mpd), .int mk, .long mg, .long mw, .int mn, .int (bI mgp), .long mga, .long mgb, .int mfc, .ref aBx]))] H := hP
  have hD : va_D A [(m0, .inr (6, [.int (fM_none_c0f0 mcode mtot msz mat mfl mru mpd mk mg mw mn mgp mga mgb mfc), .long mtot, .ref aTy, .int msz, .int mat, .int mfl, .int mru, .ref aTo, .ref aDr, .int (bI mpd), .int mk, .long mg, .long mw, .int mn, .int (bI mgp), .long mga, .long mgb, .int mfc, .ref aBx]))] := hD
  refine tb_ifeq (tgt := 9) hx hb dM_string_4 (by decide) (fun c_1 => ?_) (fun c_1 => ?_)
  · skip
    refine lv_aload_n hx hb dM_string_9 rfl (lv_at hl 0 rfl) ?_
    refine lv_iload_n hx hb dM_string_10 rfl (lv_at hl 1 rfl) ?_
    refine lv_i2l (v := end_.toInt64) hx hb dM_string_11 rfl ?_
    refine lv_lconst (v := 0) hx hb dM_string_12 (by decide) ?_
    refine lv_lconst (v := 1) hx hb dM_string_13 (by decide) ?_
    refine tr_go (st1 := [.int (bI (fM_isIn end_.toInt64 0 1)), .ref m0]) (va_runS (As := [.long end_.toInt64, .long 0, .long 1]) (rest := [.ref m0]) ⟨hx, hb, hml, hown, hts⟩ (c_M_isIn l dC dI end_.toInt64 0 1) ⟨cB 3 hts gw_623 gw_7 gw_621 ndM_isIn rfl rfl ⟨Nat.le_of_ble_eq_true rfl, Nat.le_of_ble_eq_true rfl⟩, hts _ gw_622⟩ (tp_Rs hN hK hP [] [] rfl rfl) rfl rfl hl.1 rfl (lv_room (Nat.le_of_ble_eq_true rfl)) dM_string_14 ⟨Nat.le_of_ble_eq_true rfl, Nat.le_of_ble_eq_true rfl⟩) rfl ?_
    refine tb_ifeq (tgt := 24) hx hb dM_string_17 (by decide) (fun c_2 => ?_) (fun c_2 => ?_)
    · skip
      refine lv_iconst (v := 2) hx hb dM_string_24 (by decide) ?_
      refine va_put (D := (dC, dI)) (ci := 6) (v := .int 2) (ty := .int) (C := RM) (T := TM) (N := 19) hx hb hts inM yM yoM noM hown hK hP hD hS 0 rfl rfl 0 (by decide) (hts _ gw_574) (fun _ h9 => h9) rfl (by decide +kernel) rfl rfl (Nat.le_of_ble_eq_true rfl) dM_string_25 (fun H locs hP hD hS => ?_)
      have hP : va_P (dC, dI) vCl [(m0, .inr (6, [.int 2, .long mtot, .ref aTy, .int msz, .int mat, .int mfl, .int mru, .ref aTo, .ref aDr, .int (bI mpd), .int mk, .long mg, .long mw, .int mn, .int (bI mgp), .long mga, .long mgb, .int mfc, .ref aBx]))] H := hP
      have hD : va_D A [(m0, .inr (6, [.int 2, .long mtot, .ref aTy, .int msz, .int mat, .int mfl, .int mru, .ref aTo, .ref aDr, .int (bI mpd), .int mk, .long mg, .long mw, .int mn, .int (bI mgp), .long mga, .long mgb, .int mfc, .ref aBx]))] := hD
      refine lv_aload_n hx hb dM_string_28 rfl (lv_at hl 0 rfl) ?_
      refine va_get (D := (dC, dI)) (ci := 6) (v := .int 2) (C := RM) (T := TM) (N := 19) hx hb hts inM hown hK hP 0 rfl rfl 0 (by decide) (hts _ gw_574) (fun _ h9 => h9) rfl dM_string_29 ?_
      refine lv_if_le (tgt := 37) hx hb dM_string_32 (by decide) (fun c_3 => absurd c_3 (by decide)) (fun c_3 => ?_)
      refine lv_lconst (v := 0) hx hb dM_string_35 (by decide) ?_
      exact W.lret (v := 0) hx hb hr (fun t ht hW => ⟨rfl, by rw [ht, show strC mcode mtot msz mat mfl mru mpd mk mg mw mn mgp mga mgb mfc end_ = 2 from by unfold strC; rw [if_neg (Bool.eq_false_iff.mp c_1), if_neg (Bool.eq_false_iff.mp c_2)]]; exact hP, by rw [hAe]; exact hS.F ht⟩) hS.2.2 dM_string_36
    · skip
      refine lv_iconst (v := 0) hx hb dM_string_20 (by decide) ?_
      refine lv_goto (tgt := 25) hx hb dM_string_21 (by decide) ?_
      refine va_put (D := (dC, dI)) (ci := 6) (v := .int 0) (ty := .int) (C := RM) (T := TM) (N := 19) hx hb hts inM yM yoM noM hown hK hP hD hS 0 rfl rfl 0 (by decide) (hts _ gw_574) (fun _ h9 => h9) rfl (by decide +kernel) rfl rfl (Nat.le_of_ble_eq_true rfl) dM_string_25 (fun H locs hP hD hS => ?_)
      have hP : va_P (dC, dI) vCl [(m0, .inr (6, [.int 0, .long mtot, .ref aTy, .int msz, .int mat, .int mfl, .int mru, .ref aTo, .ref aDr, .int (bI mpd), .int mk, .long mg, .long mw, .int mn, .int (bI mgp), .long mga, .long mgb, .int mfc, .ref aBx]))] H := hP
      have hD : va_D A [(m0, .inr (6, [.int 0, .long mtot, .ref aTy, .int msz, .int mat, .int mfl, .int mru, .ref aTo, .ref aDr, .int (bI mpd), .int mk, .long mg, .long mw, .int mn, .int (bI mgp), .long mga, .long mgb, .int mfc, .ref aBx]))] := hD
      refine lv_aload_n hx hb dM_string_28 rfl (lv_at hl 0 rfl) ?_
      refine va_get (D := (dC, dI)) (ci := 6) (v := .int 0) (C := RM) (T := TM) (N := 19) hx hb hts inM hown hK hP 0 rfl rfl 0 (by decide) (hts _ gw_574) (fun _ h9 => h9) rfl dM_string_29 ?_
      refine lv_if_le (tgt := 37) hx hb dM_string_32 (by decide) (fun c_4 => ?_) (fun c_4 => absurd (by decide) c_4)
      exact absurd (show strC mcode mtot msz mat mfl mru mpd mk mg mw mn mgp mga mgb mfc end_ = 0 from by unfold strC; rw [if_neg (Bool.eq_false_iff.mp c_1), if_pos c_2]) he
  · skip
    refine lv_lconst (v := 0) hx hb dM_string_7 (by decide) ?_
    exact W.lret (v := 0) hx hb hr (fun t ht hW => ⟨rfl, by rw [ht, show strC mcode mtot msz mat mfl mru mpd mk mg mw mn mgp mga mgb mfc end_ = fM_none_c0f0 mcode mtot msz mat mfl mru mpd mk mg mw mn mgp mga mgb mfc from by unfold strC; rw [if_pos c_1]]; exact hP, by rw [hAe]; exact hS.F ht⟩) hS.2.2 dM_string_8


set_option maxHeartbeats 4000000 in
set_option maxRecDepth 100000 in
theorem c_M_string (l : Launch) (dC : Nat → ClassId) (dI : Nat → Nat → Nat) (m0 : Nat) (aTy : Nat) (aTo : Nat) (aDr : Nat) (aBx : Nat) (mcode : Int32) (mtot : Int64) (msz : Int32) (mat : Int32) (mfl : Int32) (mru : Int32) (mpd : Bool) (mk : Int32) (mg : Int64) (mw : Int64) (mn : Int32) (mgp : Bool) (mga : Int64) (mgb : Int64) (mfc : Int32) (end_ : Int32) (he : strC mcode mtot msz mat mfl mru mpd mk mg mw mn mgp mga mgb mfc end_ = 0) : Met l mM_string wM_string ({ frames := 1, cells := 0, slots := 0, locals := 25 }) (tp_W (dC, dI) vCl [.ref m0, .int end_] [(m0, .inr (6, [.int mcode, .long mtot, .ref aTy, .int msz, .int mat, .int mfl, .int mru, .ref aTo, .ref aDr, .int (bI mpd), .int mk, .long mg, .long mw, .int mn, .int (bI mgp), .long mga, .long mgb, .int mfc, .ref aBx]))] []) (tq_W (dC, dI) vCl (some (.long (mStr mtot mg mn end_))) [(m0, .inr (6, [.int mcode, .long mtot, .ref aTy, .int msz, .int mat, .int mfl, .int mru, .ref aTo, .ref aDr, .int (bI mpd), .int mk, .long mg, .long mw, .int mn, .int (bI mgp), .long mga, .long mgb, .int mfc, .ref aBx]))] [(m0, .inr (6, [.int 0, .long mtot, .ref aTy, .int msz, .int mat, .int mfl, .int mru, .ref aTo, .ref aDr, .int (bI mpd), .int mk, .long mg, .long mw, .int mn, .int (bI mgp), .long mga, .long mgb, .int mfc, .ref aBx]))]) 0 0 (tA [(m0, .inr (6, [.int mcode, .long mtot, .ref aTy, .int msz, .int mat, .int mfl, .int mru, .ref aTo, .ref aDr, .int (bI mpd), .int mk, .long mg, .long mw, .int mn, .int (bI mgp), .long mga, .long mgb, .int mfc, .ref aBx]))]) := by
  refine Met.ofW (cc := bM_string) (maxL := 13) (ret := (some .long)) (by decide) rfl ?_
  intro p e s m args below meth c s₁ B hml hv
  obtain ⟨rfl, hP, hK, hN, hD0⟩ := hv
  have hx := B.exec
  have hb := B.bytes
  have hr := B.returns
  have hts : ∀ w ∈ gT, w.before _ s = true := fun w h => atoms_spec (ws := wM_string) B.pre w (List.mem_cons_of_mem _ h)
  have hown : s.vm.findClass RM = some m.cls := findClass_of_methodNamed B.named
  have hlocks := B.notSynchronized
  have hD := tA_D hD0
  generalize hAe : tA [(m0, .inr (6, [.int mcode, .long mtot, .ref aTy, .int msz, .int mat, .int mfl, .int mru, .ref aTo, .ref aDr, .int (bI mpd), .int mk, .long mg, .long mw, .int mn, .int (bI mgp), .long mga, .long mgb, .int mfc, .ref aBx]))] = A at hD ⊢
  have hS : va_S A s.heap s.heap [] := va_S.rf
  have hP : va_P (dC, dI) vCl [(m0, .inr (6, [.int mcode, .long mtot, .ref aTy, .int msz, .int mat, .int mfl, .int mru, .ref aTo, .ref aDr, .int (bI mpd), .int mk, .long mg, .long mw, .int mn, .int (bI mgp), .long mga, .long mgb, .int mfc, .ref aBx]))] s.heap := hP
  have hl := lv_entry ([.ref m0, .int end_]) (n := 13) (Nat.le_of_ble_eq_true rfl)
  rw [lg_entry_eq]
  generalize (lg_sl ([.ref m0, .int end_]) ++ List.replicate (13 - (lg_sl ([.ref m0, .int end_])).length) Slot.unset).toArray = ls at hl ⊢
  have hl : lv_has ls 13 [(0, .ref m0), (1, .int end_)] := hl
  have loop : ∀ (n : Nat) (r : Int64) (up : Int64) (rn9 : Int64) (hn : n ≤ 26) (hR : mrootL mn (mSq mtot mg mn) n r = mRt mtot mg mn) (H : Heap) (locs : List Loc) (hP : va_P (dC, dI) vCl [(m0, .inr (6, [.int 0, .long mtot, .ref aTy, .int msz, .int mat, .int mfl, .int mru, .ref aTo, .ref aDr, .int (bI mpd), .int mk, .long mg, .long mw, .int mn, .int (bI mgp), .long mga, .long mgb, .int mfc, .ref aBx]))] H) (hD : va_D A [(m0, .inr (6, [.int 0, .long mtot, .ref aTy, .int msz, .int mat, .int mfl, .int mru, .ref aTo, .ref aDr, .int (bI mpd), .int mk, .long mg, .long mw, .int mn, .int (bI mgp), .long mga, .long mgb, .int mfc, .ref aBx]))]) (hS : va_S A s.heap H locs) (ls : Array Slot), lv_has ls 13 [(10, .int (nI n - 1)), (8, .long r), (6, .long (mSq mtot mg mn)), (4, .long up), (2, .long rn9), (1, .int end_), (0, .ref m0)] → W p l e (headSpec wM_string ({ frames := 1, cells := 0, slots := 0, locals := 25 })).room s m ([.ref m0, .int end_] : List Value).toArray below meth c H locs 0 0 (MQ below (tq_W (dC, dI) vCl (some (.long (mStr mtot mg mn end_))) [(m0, .inr (6, [.int mcode, .long mtot, .ref aTy, .int msz, .int mat, .int mfl, .int mru, .ref aTo, .ref aDr, .int (bI mpd), .int mk, .long mg, .long mw, .int mn, .int (bI mgp), .long mga, .long mgb, .int mfc, .ref aBx]))] [(m0, .inr (6, [.int 0, .long mtot, .ref aTy, .int msz, .int mat, .int mfl, .int mru, .ref aTo, .ref aDr, .int (bI mpd), .int mk, .long mg, .long mw, .int mn, .int (bI mgp), .long mga, .long mgb, .int mfc, .ref aBx]))]) ([.ref m0, .int end_] : List Value).toArray s 0 0 A) (F0 m 88 ls []) := by
    intro n
    induction n with
    | zero =>
      intro r up rn9 hn hR H locs hP hD hS ls hl
      refine lv_iload hx hb dM_string_88 (lv_at hl 0 rfl) ?_
      refine lv_if_lt (tgt := 140) hx hb dM_string_90 (by decide) (fun c_1 => ?_) (fun c_1 => absurd (by decide) c_1)
      refine lv_iload_n hx hb dM_string_140 rfl (lv_at hl 5 rfl) ?_
      refine lv_if_eq (tgt := 167) hx hb dM_string_141 (by decide) (fun c_2 => ?_) (fun c_2 => ?_)
      · skip
        refine lv_lload hx hb dM_string_167 (lv_at hl 1 rfl) ?_
        refine lv_goto (tgt := 176) hx hb dM_string_169 (by decide) ?_
        have er : mRt mtot mg mn = r := hR.symm
        exact W.lret (v := r) hx hb hr (fun t ht hW => ⟨by rw [show mStr mtot mg mn end_ = r from by unfold mStr; rw [er, if_pos c_2]], by rw [ht]; exact hP, by rw [hAe]; exact hS.F ht⟩) hS.2.2 dM_string_176
      · skip
        refine lv_lload hx hb dM_string_144 (lv_at hl 1 rfl) ?_
        refine lv_lload hx hb dM_string_146 (lv_at hl 1 rfl) ?_
        refine lv_lmul hx hb dM_string_148 ?_
        refine lv_aload_n hx hb dM_string_149 rfl (lv_at hl 6 rfl) ?_
        refine va_get (D := (dC, dI)) (ci := 6) (v := .int mn) (C := RM) (T := TM) (N := 19) hx hb hts inM hown hK hP 0 rfl rfl 13 (by decide) (hts _ gw_587) (fun _ h9 => h9) rfl dM_string_150 ?_
        refine lv_i2l (v := mn.toInt64) hx hb dM_string_153 rfl ?_
        refine lv_lmul hx hb dM_string_154 ?_
        refine lv_aload_n hx hb dM_string_155 rfl (lv_at hl 6 rfl) ?_
        refine va_get (D := (dC, dI)) (ci := 6) (v := .int mn) (C := RM) (T := TM) (N := 19) hx hb hts inM hown hK hP 0 rfl rfl 13 (by decide) (hts _ gw_587) (fun _ h9 => h9) rfl dM_string_156 ?_
        refine lv_i2l (v := mn.toInt64) hx hb dM_string_159 rfl ?_
        refine lv_lmul hx hb dM_string_160 ?_
        refine lv_lload hx hb dM_string_161 (lv_at hl 2 rfl) ?_
        refine tl_ne (tgt := 172) hx hb dM_string_163 dM_string_164 (by decide) (fun c_3 => ?_) (fun c_3 => ?_)
        · skip
          refine lv_lload hx hb dM_string_172 (lv_at hl 1 rfl) ?_
          refine lv_lconst (v := 1) hx hb dM_string_174 (by decide) ?_
          refine lv_ladd hx hb dM_string_175 ?_
          have er : mRt mtot mg mn = r := hR.symm
          exact W.lret (v := r + 1) hx hb hr (fun t ht hW => ⟨by rw [show mStr mtot mg mn end_ = r + 1 from by unfold mStr; rw [er, if_neg c_2, if_neg c_3]], by rw [ht]; exact hP, by rw [hAe]; exact hS.F ht⟩) hS.2.2 dM_string_176
        · skip
          refine lv_lload hx hb dM_string_167 (lv_at hl 1 rfl) ?_
          refine lv_goto (tgt := 176) hx hb dM_string_169 (by decide) ?_
          have er : mRt mtot mg mn = r := hR.symm
          exact W.lret (v := r) hx hb hr (fun t ht hW => ⟨by rw [show mStr mtot mg mn end_ = r from by unfold mStr; rw [er, if_neg c_2, if_pos c_3]], by rw [ht]; exact hP, by rw [hAe]; exact hS.F ht⟩) hS.2.2 dM_string_176
    | succ n ih =>
      intro r up rn9 hn hR H locs hP hD hS ls hl
      rw [nI_pred] at hl
      have hnb : n < 26 := hn
      have hnn : ¬ nI n < 0 := nI_pos (by omega)
      refine lv_iload hx hb dM_string_88 (lv_at hl 0 rfl) ?_
      refine lv_if_lt (tgt := 140) hx hb dM_string_90 (by decide) (fun c_4 => absurd c_4 (hnn)) (fun c_4 => ?_)
      refine lv_lload hx hb dM_string_93 (lv_at hl 1 rfl) ?_
      refine lv_lconst (v := 1) hx hb dM_string_95 (by decide) ?_
      refine lv_iload hx hb dM_string_96 (lv_at hl 0 rfl) ?_
      refine lv_lshl (v := 1 <<< ((nI n).toInt64 &&& 63)) hx hb dM_string_98 rfl ?_
      refine lv_lor hx hb dM_string_99 ?_
      refine lv_lstore (lv' := [(11, .long (r ||| (1 <<< ((nI n).toInt64 &&& 63)))), (10, .int (nI n)), (8, .long r), (6, .long (mSq mtot mg mn)), (4, .long up), (2, .long rn9), (1, .int end_), (0, .ref m0)]) hx hb dM_string_100 hl (by decide) rfl (fun ls hl => ?_)
      refine lv_lload hx hb dM_string_102 (lv_at hl 0 rfl) ?_
      refine lv_lload hx hb dM_string_104 (lv_at hl 0 rfl) ?_
      refine lv_lmul hx hb dM_string_106 ?_
      refine lv_aload_n hx hb dM_string_107 rfl (lv_at hl 7 rfl) ?_
      refine va_get (D := (dC, dI)) (ci := 6) (v := .int mn) (C := RM) (T := TM) (N := 19) hx hb hts inM hown hK hP 0 rfl rfl 13 (by decide) (hts _ gw_587) (fun _ h9 => h9) rfl dM_string_108 ?_
      refine lv_i2l (v := mn.toInt64) hx hb dM_string_111 rfl ?_
      refine lv_lmul hx hb dM_string_112 ?_
      refine lv_aload_n hx hb dM_string_113 rfl (lv_at hl 7 rfl) ?_
      refine va_get (D := (dC, dI)) (ci := 6) (v := .int mn) (C := RM) (T := TM) (N := 19) hx hb hts inM hown hK hP 0 rfl rfl 13 (by decide) (hts _ gw_587) (fun _ h9 => h9) rfl dM_string_114 ?_
      refine lv_i2l (v := mn.toInt64) hx hb dM_string_117 rfl ?_
      refine lv_lmul hx hb dM_string_118 ?_
      refine lv_lload hx hb dM_string_119 (lv_at hl 3 rfl) ?_
      refine tl_gt (tgt := 130) hx hb dM_string_121 dM_string_122 (by decide) (fun c_5 => ?_) (fun c_5 => ?_)
      · skip
        refine lv_lload hx hb dM_string_130 (lv_at hl 2 rfl) ?_
        refine lv_lstore (lv' := [(8, .long r), (11, .long (r ||| (1 <<< ((nI n).toInt64 &&& 63)))), (10, .int (nI n)), (6, .long (mSq mtot mg mn)), (4, .long up), (2, .long rn9), (1, .int end_), (0, .ref m0)]) hx hb dM_string_132 hl (by decide) rfl (fun ls hl => ?_)
        refine lv_iinc (v := nI n - 1) (lv' := [(10, .int (nI n - 1)), (8, .long r), (11, .long (r ||| (1 <<< ((nI n).toInt64 &&& 63)))), (6, .long (mSq mtot mg mn)), (4, .long up), (2, .long rn9), (1, .int end_), (0, .ref m0)]) hx hb dM_string_134 hl (k := 2) rfl (by rw [Int32.sub_eq_add_neg]; rfl) (by decide) rfl (fun ls hl => ?_)
        refine lv_goto (tgt := 88) hx hb dM_string_137 (by decide) ?_
        exact ih r up rn9 (by omega) (by rw [mrootL, if_pos c_5] at hR; exact hR) _ _ hP hD hS ls (lv_sub hl [0, 1, 3, 4, 5, 6, 7] rfl)
      · skip
        refine lv_lload hx hb dM_string_125 (lv_at hl 0 rfl) ?_
        refine lv_goto (tgt := 132) hx hb dM_string_127 (by decide) ?_
        refine lv_lstore (lv' := [(8, .long (r ||| (1 <<< ((nI n).toInt64 &&& 63)))), (11, .long (r ||| (1 <<< ((nI n).toInt64 &&& 63)))), (10, .int (nI n)), (6, .long (mSq mtot mg mn)), (4, .long up), (2, .long rn9), (1, .int end_), (0, .ref m0)]) hx hb dM_string_132 hl (by decide) rfl (fun ls hl => ?_)
        refine lv_iinc (v := nI n - 1) (lv' := [(10, .int (nI n - 1)), (8, .long (r ||| (1 <<< ((nI n).toInt64 &&& 63)))), (11, .long (r ||| (1 <<< ((nI n).toInt64 &&& 63)))), (6, .long (mSq mtot mg mn)), (4, .long up), (2, .long rn9), (1, .int end_), (0, .ref m0)]) hx hb dM_string_134 hl (k := 2) rfl (by rw [Int32.sub_eq_add_neg]; rfl) (by decide) rfl (fun ls hl => ?_)
        refine lv_goto (tgt := 88) hx hb dM_string_137 (by decide) ?_
        exact ih (r ||| (1 <<< ((nI n).toInt64 &&& 63))) up rn9 (by omega) (by rw [mrootL, if_neg c_5] at hR; exact hR) _ _ hP hD hS ls (lv_sub hl [0, 1, 3, 4, 5, 6, 7] rfl)
  refine lv_aload_n hx hb dM_string_0 rfl (lv_at hl 0 rfl) ?_
  refine tc_go (st1 := [.int (bI (fM_none mcode mtot msz mat mfl mru mpd mk mg mw mn mgp mga mgb mfc))]) (ws' := [(m0, .inr (6, [.int (fM_none_c0f0 mcode mtot msz mat mfl mru mpd mk mg mw mn mgp mga mgb mfc), .long mtot, .ref aTy, .int msz, .int mat, .int mfl, .int mru, .ref aTo, .ref aDr, .int (bI mpd), .int mk, .long mg, .long mw, .int mn, .int (bI mgp), .long mga, .long mgb, .int mfc, .ref aBx]))]) (va_runV (As := []) (rest := []) (C := RM) ⟨hx, hb, hml, hown, hts⟩ (c_M_none l dC dI m0 aTy aTo aDr aBx mcode mtot msz mat mfl mru mpd mk mg mw mn mgp mga mgb mfc) ⟨cB 0 hts gw_671 gw_7 gw_669 ndM_none rfl rfl ⟨Nat.le_of_ble_eq_true rfl, Nat.le_of_ble_eq_true rfl⟩, hts _ gw_670, hts _ gw_764⟩ (tp_Wv hN hK hP hD [0] [] rfl (by decide) rfl (q0 := 0) (ci := 6) rfl rfl) rfl rfl hl.1 rfl (lv_room (Nat.le_of_ble_eq_true rfl)) dM_string_1 ⟨Nat.le_of_ble_eq_true rfl, Nat.le_of_ble_eq_true rfl⟩) rfl hP hD hS [0] rfl rfl rfl (fun H locs hP hD hS => ?_)
  have hP : va_P (dC, dI) vCl [(m0, .inr (6, [.int (fM_none_c0f0 mcode mtot msz mat mfl mru mpd mk mg mw mn mgp mga mgb mfc), .long mtot, .ref aTy, .int msz, .int mat, .int mfl, .int mru, .ref aTo, .ref aDr, .int (bI mpd), .int mk, .long mg, .long mw, .int mn, .int (bI mgp), .long mga, .long mgb, .int mfc, .ref aBx]))] H := hP
  have hD : va_D A [(m0, .inr (6, [.int (fM_none_c0f0 mcode mtot msz mat mfl mru mpd mk mg mw mn mgp mga mgb mfc), .long mtot, .ref aTy, .int msz, .int mat, .int mfl, .int mru, .ref aTo, .ref aDr, .int (bI mpd), .int mk, .long mg, .long mw, .int mn, .int (bI mgp), .long mga, .long mgb, .int mfc, .ref aBx]))] := hD
  refine tb_ifeq (tgt := 9) hx hb dM_string_4 (by decide) (fun c_6 => ?_) (fun c_6 => ?_)
  · skip
    refine lv_aload_n hx hb dM_string_9 rfl (lv_at hl 0 rfl) ?_
    refine lv_iload_n hx hb dM_string_10 rfl (lv_at hl 1 rfl) ?_
    refine lv_i2l (v := end_.toInt64) hx hb dM_string_11 rfl ?_
    refine lv_lconst (v := 0) hx hb dM_string_12 (by decide) ?_
    refine lv_lconst (v := 1) hx hb dM_string_13 (by decide) ?_
    refine tr_go (st1 := [.int (bI (fM_isIn end_.toInt64 0 1)), .ref m0]) (va_runS (As := [.long end_.toInt64, .long 0, .long 1]) (rest := [.ref m0]) ⟨hx, hb, hml, hown, hts⟩ (c_M_isIn l dC dI end_.toInt64 0 1) ⟨cB 3 hts gw_623 gw_7 gw_621 ndM_isIn rfl rfl ⟨Nat.le_of_ble_eq_true rfl, Nat.le_of_ble_eq_true rfl⟩, hts _ gw_622⟩ (tp_Rs hN hK hP [] [] rfl rfl) rfl rfl hl.1 rfl (lv_room (Nat.le_of_ble_eq_true rfl)) dM_string_14 ⟨Nat.le_of_ble_eq_true rfl, Nat.le_of_ble_eq_true rfl⟩) rfl ?_
    refine tb_ifeq (tgt := 24) hx hb dM_string_17 (by decide) (fun c_7 => ?_) (fun c_7 => ?_)
    · skip
      refine lv_iconst (v := 2) hx hb dM_string_24 (by decide) ?_
      refine va_put (D := (dC, dI)) (ci := 6) (v := .int 2) (ty := .int) (C := RM) (T := TM) (N := 19) hx hb hts inM yM yoM noM hown hK hP hD hS 0 rfl rfl 0 (by decide) (hts _ gw_574) (fun _ h9 => h9) rfl (by decide +kernel) rfl rfl (Nat.le_of_ble_eq_true rfl) dM_string_25 (fun H locs hP hD hS => ?_)
      have hP : va_P (dC, dI) vCl [(m0, .inr (6, [.int 2, .long mtot, .ref aTy, .int msz, .int mat, .int mfl, .int mru, .ref aTo, .ref aDr, .int (bI mpd), .int mk, .long mg, .long mw, .int mn, .int (bI mgp), .long mga, .long mgb, .int mfc, .ref aBx]))] H := hP
      have hD : va_D A [(m0, .inr (6, [.int 2, .long mtot, .ref aTy, .int msz, .int mat, .int mfl, .int mru, .ref aTo, .ref aDr, .int (bI mpd), .int mk, .long mg, .long mw, .int mn, .int (bI mgp), .long mga, .long mgb, .int mfc, .ref aBx]))] := hD
      refine lv_aload_n hx hb dM_string_28 rfl (lv_at hl 0 rfl) ?_
      refine va_get (D := (dC, dI)) (ci := 6) (v := .int 2) (C := RM) (T := TM) (N := 19) hx hb hts inM hown hK hP 0 rfl rfl 0 (by decide) (hts _ gw_574) (fun _ h9 => h9) rfl dM_string_29 ?_
      refine lv_if_le (tgt := 37) hx hb dM_string_32 (by decide) (fun c_8 => absurd c_8 (by decide)) (fun c_8 => ?_)
      refine lv_lconst (v := 0) hx hb dM_string_35 (by decide) ?_
      exact absurd (he.symm.trans (show strC mcode mtot msz mat mfl mru mpd mk mg mw mn mgp mga mgb mfc end_ = 2 from by unfold strC; rw [if_neg (Bool.eq_false_iff.mp c_6), if_neg (Bool.eq_false_iff.mp c_7)])) (by decide)
    · skip
      refine lv_iconst (v := 0) hx hb dM_string_20 (by decide) ?_
      refine lv_goto (tgt := 25) hx hb dM_string_21 (by decide) ?_
      refine va_put (D := (dC, dI)) (ci := 6) (v := .int 0) (ty := .int) (C := RM) (T := TM) (N := 19) hx hb hts inM yM yoM noM hown hK hP hD hS 0 rfl rfl 0 (by decide) (hts _ gw_574) (fun _ h9 => h9) rfl (by decide +kernel) rfl rfl (Nat.le_of_ble_eq_true rfl) dM_string_25 (fun H locs hP hD hS => ?_)
      have hP : va_P (dC, dI) vCl [(m0, .inr (6, [.int 0, .long mtot, .ref aTy, .int msz, .int mat, .int mfl, .int mru, .ref aTo, .ref aDr, .int (bI mpd), .int mk, .long mg, .long mw, .int mn, .int (bI mgp), .long mga, .long mgb, .int mfc, .ref aBx]))] H := hP
      have hD : va_D A [(m0, .inr (6, [.int 0, .long mtot, .ref aTy, .int msz, .int mat, .int mfl, .int mru, .ref aTo, .ref aDr, .int (bI mpd), .int mk, .long mg, .long mw, .int mn, .int (bI mgp), .long mga, .long mgb, .int mfc, .ref aBx]))] := hD
      refine lv_aload_n hx hb dM_string_28 rfl (lv_at hl 0 rfl) ?_
      refine va_get (D := (dC, dI)) (ci := 6) (v := .int 0) (C := RM) (T := TM) (N := 19) hx hb hts inM hown hK hP 0 rfl rfl 0 (by decide) (hts _ gw_574) (fun _ h9 => h9) rfl dM_string_29 ?_
      refine lv_if_le (tgt := 37) hx hb dM_string_32 (by decide) (fun c_9 => ?_) (fun c_9 => absurd (by decide) c_9)
      refine lv_aload_n hx hb dM_string_37 rfl (lv_at hl 0 rfl) ?_
      refine va_get (D := (dC, dI)) (ci := 6) (v := .int mn) (C := RM) (T := TM) (N := 19) hx hb hts inM hown hK hP 0 rfl rfl 13 (by decide) (hts _ gw_587) (fun _ h9 => h9) rfl dM_string_38 ?_
      refine lv_i2l (v := mn.toInt64) hx hb dM_string_41 rfl ?_
      refine lv_lconst (v := 1) hx hb dM_string_42 (by decide) ?_
      refine lv_lsub hx hb dM_string_43 ?_
      refine lv_aload_n hx hb dM_string_44 rfl (lv_at hl 0 rfl) ?_
      refine va_get (D := (dC, dI)) (ci := 6) (v := .long mg) (C := RM) (T := TM) (N := 19) hx hb hts inM hown hK hP 0 rfl rfl 11 (by decide) (hts _ gw_585) (fun _ h9 => h9) rfl dM_string_45 ?_
      refine lv_lmul hx hb dM_string_48 ?_
      refine lv_aload_n hx hb dM_string_49 rfl (lv_at hl 0 rfl) ?_
      refine va_get (D := (dC, dI)) (ci := 6) (v := .int mn) (C := RM) (T := TM) (N := 19) hx hb hts inM hown hK hP 0 rfl rfl 13 (by decide) (hts _ gw_587) (fun _ h9 => h9) rfl dM_string_50 ?_
      refine lv_i2l (v := mn.toInt64) hx hb dM_string_53 rfl ?_
      refine lv_lmul hx hb dM_string_54 ?_
      refine lv_lstore_n (lv' := [(2, .long (((mn.toInt64 - 1) * mg) * mn.toInt64)), (0, .ref m0), (1, .int end_)]) hx hb dM_string_55 rfl hl (by decide) rfl (fun ls hl => ?_)
      refine lv_aload_n hx hb dM_string_56 rfl (lv_at hl 1 rfl) ?_
      refine va_get (D := (dC, dI)) (ci := 6) (v := .int mn) (C := RM) (T := TM) (N := 19) hx hb hts inM hown hK hP 0 rfl rfl 13 (by decide) (hts _ gw_587) (fun _ h9 => h9) rfl dM_string_57 ?_
      refine lv_i2l (v := mn.toInt64) hx hb dM_string_60 rfl ?_
      refine lv_lconst (v := 1) hx hb dM_string_61 (by decide) ?_
      refine lv_lsub hx hb dM_string_62 ?_
      refine lv_aload_n hx hb dM_string_63 rfl (lv_at hl 1 rfl) ?_
      refine va_get (D := (dC, dI)) (ci := 6) (v := .long mtot) (C := RM) (T := TM) (N := 19) hx hb hts inM hown hK hP 0 rfl rfl 1 (by decide) (hts _ gw_575) (fun _ h9 => h9) rfl dM_string_64 ?_
      refine lv_lmul hx hb dM_string_67 ?_
      refine lv_lstore (lv' := [(4, .long ((mn.toInt64 - 1) * mtot)), (2, .long (((mn.toInt64 - 1) * mg) * mn.toInt64)), (0, .ref m0), (1, .int end_)]) hx hb dM_string_68 hl (by decide) rfl (fun ls hl => ?_)
      refine lv_lload_n hx hb dM_string_70 rfl (lv_at hl 1 rfl) ?_
      refine lv_lload_n hx hb dM_string_71 rfl (lv_at hl 1 rfl) ?_
      refine lv_lmul hx hb dM_string_72 ?_
      refine lv_lload hx hb dM_string_73 (lv_at hl 0 rfl) ?_
      refine lv_lload hx hb dM_string_75 (lv_at hl 0 rfl) ?_
      refine lv_lmul hx hb dM_string_77 ?_
      refine lv_ladd hx hb dM_string_78 ?_
      refine lv_lstore (lv' := [(6, .long (((((mn.toInt64 - 1) * mg) * mn.toInt64) * (((mn.toInt64 - 1) * mg) * mn.toInt64)) + (((mn.toInt64 - 1) * mtot) * ((mn.toInt64 - 1) * mtot)))), (4, .long ((mn.toInt64 - 1) * mtot)), (2, .long (((mn.toInt64 - 1) * mg) * mn.toInt64)), (0, .ref m0), (1, .int end_)]) hx hb dM_string_79 hl (by decide) rfl (fun ls hl => ?_)
      refine lv_lconst (v := 0) hx hb dM_string_81 (by decide) ?_
      refine lv_lstore (lv' := [(8, .long 0), (6, .long (((((mn.toInt64 - 1) * mg) * mn.toInt64) * (((mn.toInt64 - 1) * mg) * mn.toInt64)) + (((mn.toInt64 - 1) * mtot) * ((mn.toInt64 - 1) * mtot)))), (4, .long ((mn.toInt64 - 1) * mtot)), (2, .long (((mn.toInt64 - 1) * mg) * mn.toInt64)), (0, .ref m0), (1, .int end_)]) hx hb dM_string_82 hl (by decide) rfl (fun ls hl => ?_)
      refine lv_bipush (v := 25) hx hb dM_string_84 (by decide) ?_
      refine lv_istore (lv' := [(10, .int 25), (8, .long 0), (6, .long (((((mn.toInt64 - 1) * mg) * mn.toInt64) * (((mn.toInt64 - 1) * mg) * mn.toInt64)) + (((mn.toInt64 - 1) * mtot) * ((mn.toInt64 - 1) * mtot)))), (4, .long ((mn.toInt64 - 1) * mtot)), (2, .long (((mn.toInt64 - 1) * mg) * mn.toInt64)), (0, .ref m0), (1, .int end_)]) hx hb dM_string_86 hl (by decide) rfl (fun ls hl => ?_)
      exact loop 26 0 ((mn.toInt64 - 1) * mtot) (((mn.toInt64 - 1) * mg) * mn.toInt64) (by omega) rfl _ _ hP hD hS ls (lv_sub hl [0, 1, 2, 3, 4, 6, 5] rfl)
  · skip
    refine lv_lconst (v := 0) hx hb dM_string_7 (by decide) ?_
    exact absurd (he.symm.trans (show strC mcode mtot msz mat mfl mru mpd mk mg mw mn mgp mga mgb mfc end_ = 1 from by unfold strC; rw [if_pos c_6]; exact mnn1 _ _ _ _ _ _ _ _ _ _ _ _ _ _ _ c_6)) (by decide)
