def mhI (cd : Int32) (bx : Nat → Int64) (mtot : Int64) (msz : Int32) (mat : Int32) (mfl : Int32) (mru : Int32) (mpd : Bool) (mk : Int32) (mg : Int64) (mw : Int64) (mn : Int32) (mgp : Bool) (mga : Int64) (mgb : Int64) (fcm : Nat) (i : Nat) : Nat → Nat → Int64 → Int64
  | 0, _, bb => bb
  | n + 1, k, bb => if (bx ((nI (5 * i)) + 2).toNatClampNeg) ≤ (fM_side cd mtot msz mat mfl mru mpd mk mg mw mn mgp mga mgb (nI fcm) (nI k) 0) then (mhI cd bx mtot msz mat mfl mru mpd mk mg mw mn mgp mga mgb fcm i n (k + 1) bb) else (if (fM_side cd mtot msz mat mfl mru mpd mk mg mw mn mgp mga mgb (nI fcm) (nI k) 2) ≤ (bx (nI (5 * i)).toNatClampNeg) then (mhI cd bx mtot msz mat mfl mru mpd mk mg mw mn mgp mga mgb fcm i n (k + 1) bb) else (if (bx ((nI (5 * i)) + 3).toNatClampNeg) ≤ (fM_side cd mtot msz mat mfl mru mpd mk mg mw mn mgp mga mgb (nI fcm) (nI k) 1) then (mhI cd bx mtot msz mat mfl mru mpd mk mg mw mn mgp mga mgb fcm i n (k + 1) bb) else (if (fM_side cd mtot msz mat mfl mru mpd mk mg mw mn mgp mga mgb (nI fcm) (nI k) 3) ≤ (bx (nI (5 * i + 1)).toNatClampNeg) then (mhI cd bx mtot msz mat mfl mru mpd mk mg mw mn mgp mga mgb fcm i n (k + 1) bb) else (if bb ≤ (((bx ((nI (5 * i)) + 4).toNatClampNeg) * mn.toInt64) - (((nI (k + 1)).toInt64) * mtot)) then (mhI cd bx mtot msz mat mfl mru mpd mk mg mw mn mgp mga mgb fcm i n (k + 1) bb) else (mhI cd bx mtot msz mat mfl mru mpd mk mg mw mn mgp mga mgb fcm i n (k + 1) (((bx ((nI (5 * i)) + 4).toNatClampNeg) * mn.toInt64) - (((nI (k + 1)).toInt64) * mtot)))))))
def mhO (cd : Int32) (bx : Nat → Int64) (mtot : Int64) (msz : Int32) (mat : Int32) (mfl : Int32) (mru : Int32) (mpd : Bool) (mk : Int32) (mg : Int64) (mw : Int64) (mn : Int32) (mgp : Bool) (mga : Int64) (mgb : Int64) (fcm : Nat) (tr : Nat) : Nat → Nat → Int64 → Int64
  | 0, _, bb => bb
  | n + 1, i, bb => mhO cd bx mtot msz mat mfl mru mpd mk mg mw mn mgp mga mgb fcm tr n (i + 1) (mhI cd bx mtot msz mat mfl mru mpd mk mg mw mn mgp mga mgb fcm i tr 0 bb)


set_option maxHeartbeats 4000000 in
set_option maxRecDepth 100000 in
theorem c_M_headRoom_err (l : Launch) (dC : Nat → ClassId) (dI : Nat → Nat → Nat) (m0 : Nat) (aTy : Nat) (aTo : Nat) (aDr : Nat) (aBx : Nat) (cBx : ClassId) (bx : Nat → Int64) (mcode : Int32) (mtot : Int64) (msz : Int32) (mat : Int32) (mfl : Int32) (mru : Int32) (mpd : Bool) (mk : Int32) (mg : Int64) (mw : Int64) (mn : Int32) (mgp : Bool) (mga : Int64) (mgb : Int64) (fcm : Nat) (hn0 : fM_none mcode mtot msz mat mfl mru mpd mk mg mw mn mgp mga mgb (nI fcm) = true) : Met l mM_headRoom wM_headRoom ({ frames := 1, cells := 0, slots := 0, locals := 20 }) (tp_W (dC, dI) vCl [.ref m0] [(m0, .inr (6, [.int mcode, .long mtot, .ref aTy, .int msz, .int mat, .int mfl, .int mru, .ref aTo, .ref aDr, .int (bI mpd), .int mk, .long mg, .long mw, .int mn, .int (bI mgp), .long mga, .long mgb, .int (nI fcm), .ref aBx])), (aBx, .inl (cBx, 40, .inr (.inl bx)))] [(cBx, .long)]) (tq_W (dC, dI) vCl (some (.long 0)) [(m0, .inr (6, [.int mcode, .long mtot, .ref aTy, .int msz, .int mat, .int mfl, .int mru, .ref aTo, .ref aDr, .int (bI mpd), .int mk, .long mg, .long mw, .int mn, .int (bI mgp), .long mga, .long mgb, .int (nI fcm), .ref aBx])), (aBx, .inl (cBx, 40, .inr (.inl bx)))] [(m0, .inr (6, [.int (fM_none_c0f0 mcode mtot msz mat mfl mru mpd mk mg mw mn mgp mga mgb (nI fcm)), .long mtot, .ref aTy, .int msz, .int mat, .int mfl, .int mru, .ref aTo, .ref aDr, .int (bI mpd), .int mk, .long mg, .long mw, .int mn, .int (bI mgp), .long mga, .long mgb, .int (nI fcm), .ref aBx])), (aBx, .inl (cBx, 40, .inr (.inl bx)))]) 0 0 (tA [(m0, .inr (6, [.int mcode, .long mtot, .ref aTy, .int msz, .int mat, .int mfl, .int mru, .ref aTo, .ref aDr, .int (bI mpd), .int mk, .long mg, .long mw, .int mn, .int (bI mgp), .long mga, .long mgb, .int (nI fcm), .ref aBx])), (aBx, .inl (cBx, 40, .inr (.inl bx)))]) := by
  refine Met.ofW (cc := bM_headRoom) (maxL := 8) (ret := (some .long)) (by decide) rfl ?_
  intro p e s m args below meth c s₁ B hml hv
  obtain ⟨rfl, hP, hK, hN, hD0⟩ := hv
  have hx := B.exec
  have hb := B.bytes
  have hr := B.returns
  have hts : ∀ w ∈ gT, w.before _ s = true := fun w h => atoms_spec (ws := wM_headRoom) B.pre w (List.mem_cons_of_mem _ h)
  have hown : s.vm.findClass RM = some m.cls := findClass_of_methodNamed B.named
  have hlocks := B.notSynchronized
  have hD := tA_D hD0
  generalize hAe : tA [(m0, .inr (6, [.int mcode, .long mtot, .ref aTy, .int msz, .int mat, .int mfl, .int mru, .ref aTo, .ref aDr, .int (bI mpd), .int mk, .long mg, .long mw, .int mn, .int (bI mgp), .long mga, .long mgb, .int (nI fcm), .ref aBx])), (aBx, .inl (cBx, 40, .inr (.inl bx)))] = A at hD ⊢
  have hS : va_S A s.heap s.heap [] := va_S.rf
  have hP : va_P (dC, dI) vCl [(m0, .inr (6, [.int mcode, .long mtot, .ref aTy, .int msz, .int mat, .int mfl, .int mru, .ref aTo, .ref aDr, .int (bI mpd), .int mk, .long mg, .long mw, .int mn, .int (bI mgp), .long mga, .long mgb, .int (nI fcm), .ref aBx])), (aBx, .inl (cBx, 40, .inr (.inl bx)))] s.heap := hP
  have hl := lv_entry ([.ref m0]) (n := 8) (Nat.le_of_ble_eq_true rfl)
  rw [lg_entry_eq]
  generalize (lg_sl ([.ref m0]) ++ List.replicate (8 - (lg_sl ([.ref m0])).length) Slot.unset).toArray = ls at hl ⊢
  have hl : lv_has ls 8 [(0, .ref m0)] := hl
  refine lv_aload_n hx hb dM_headRoom_0 rfl (lv_at hl 0 rfl) ?_
  refine tc_go (st1 := [.int (bI (fM_none mcode mtot msz mat mfl mru mpd mk mg mw mn mgp mga mgb (nI fcm)))]) (ws' := [(m0, .inr (6, [.int (fM_none_c0f0 mcode mtot msz mat mfl mru mpd mk mg mw mn mgp mga mgb (nI fcm)), .long mtot, .ref aTy, .int msz, .int mat, .int mfl, .int mru, .ref aTo, .ref aDr, .int (bI mpd), .int mk, .long mg, .long mw, .int mn, .int (bI mgp), .long mga, .long mgb, .int (nI fcm), .ref aBx])), (aBx, .inl (cBx, 40, .inr (.inl bx)))]) (va_runV (As := []) (rest := []) (C := RM) ⟨hx, hb, hml, hown, hts⟩ (c_M_none l dC dI m0 aTy aTo aDr aBx mcode mtot msz mat mfl mru mpd mk mg mw mn mgp mga mgb (nI fcm)) ⟨cB 0 hts gw_671 gw_7 gw_669 ndM_none rfl rfl ⟨Nat.le_of_ble_eq_true rfl, Nat.le_of_ble_eq_true rfl⟩, hts _ gw_670, hts _ gw_764⟩ (tp_Wv hN hK hP hD [0] [] rfl (by decide) rfl (q0 := 0) (ci := 6) rfl rfl) rfl rfl hl.1 rfl (lv_room (Nat.le_of_ble_eq_true rfl)) dM_headRoom_1 ⟨Nat.le_of_ble_eq_true rfl, Nat.le_of_ble_eq_true rfl⟩) rfl hP hD hS [0] rfl rfl rfl (fun H locs hP hD hS => ?_)
  have hP : va_P (dC, dI) vCl [(m0, .inr (6, [.int (fM_none_c0f0 mcode mtot msz mat mfl mru mpd mk mg mw mn mgp mga mgb (nI fcm)), .long mtot, .ref aTy, .int msz, .int mat, .int mfl, .int mru, .ref aTo, .ref aDr, .int (bI mpd), .int mk, .long mg, .long mw, .int mn, .int (bI mgp), .long mga, .long mgb, .int (nI fcm), .ref aBx])), (aBx, .inl (cBx, 40, .inr (.inl bx)))] H := hP
  have hD : va_D A [(m0, .inr (6, [.int (fM_none_c0f0 mcode mtot msz mat mfl mru mpd mk mg mw mn mgp mga mgb (nI fcm)), .long mtot, .ref aTy, .int msz, .int mat, .int mfl, .int mru, .ref aTo, .ref aDr, .int (bI mpd), .int mk, .long mg, .long mw, .int mn, .int (bI mgp), .long mga, .long mgb, .int (nI fcm), .ref aBx])), (aBx, .inl (cBx, 40, .inr (.inl bx)))] := hD
  refine tb_ifeq (tgt := 9) hx hb dM_headRoom_4 (by decide) (fun c_1 => ?_) (fun c_1 => ?_)
  · skip
    exact absurd (hn0.symm.trans c_1) (by decide)
  · skip
    refine lv_lconst (v := 0) hx hb dM_headRoom_7 (by decide) ?_
    exact W.lret (v := 0) hx hb hr (fun t ht hW => ⟨rfl, by rw [ht]; exact hP, by rw [hAe]; exact hS.F ht⟩) hS.2.2 dM_headRoom_8


set_option maxHeartbeats 4000000 in
set_option maxRecDepth 100000 in
theorem c_M_headRoom (l : Launch) (dC : Nat → ClassId) (dI : Nat → Nat → Nat) (m0 : Nat) (aTy : Nat) (aTo : Nat) (aDr : Nat) (aBx : Nat) (cBx : ClassId) (bx : Nat → Int64) (mcode : Int32) (mtot : Int64) (msz : Int32) (mat : Int32) (mfl : Int32) (mru : Int32) (mpd : Bool) (mk : Int32) (mg : Int64) (mw : Int64) (mn : Int32) (mgp : Bool) (mga : Int64) (mgb : Int64) (fcm : Nat) (tr : Nat) (hn0 : fM_none mcode mtot msz mat mfl mru mpd mk mg mw mn mgp mga mgb (nI fcm) = false) (hfc : fcm ≤ 8) (ht : tr ≤ 60) (hr0 : mn - 1 = nI tr) : Met l mM_headRoom wM_headRoom ({ frames := 3, cells := 0, slots := 0, locals := 69 }) (tp_W (dC, dI) vCl [.ref m0] [(m0, .inr (6, [.int mcode, .long mtot, .ref aTy, .int msz, .int mat, .int mfl, .int mru, .ref aTo, .ref aDr, .int (bI mpd), .int mk, .long mg, .long mw, .int mn, .int (bI mgp), .long mga, .long mgb, .int (nI fcm), .ref aBx])), (aBx, .inl (cBx, 40, .inr (.inl bx)))] [(cBx, .long)]) (tq_W (dC, dI) vCl (some (.long (mhO (fM_none_c0f0 mcode mtot msz mat mfl mru mpd mk mg mw mn mgp mga mgb (nI fcm)) bx mtot msz mat mfl mru mpd mk mg mw mn mgp mga mgb fcm tr fcm 0 9223372036854775807))) [(m0, .inr (6, [.int mcode, .long mtot, .ref aTy, .int msz, .int mat, .int mfl, .int mru, .ref aTo, .ref aDr, .int (bI mpd), .int mk, .long mg, .long mw, .int mn, .int (bI mgp), .long mga, .long mgb, .int (nI fcm), .ref aBx])), (aBx, .inl (cBx, 40, .inr (.inl bx)))] [(m0, .inr (6, [.int (fM_none_c0f0 mcode mtot msz mat mfl mru mpd mk mg mw mn mgp mga mgb (nI fcm)), .long mtot, .ref aTy, .int msz, .int mat, .int mfl, .int mru, .ref aTo, .ref aDr, .int (bI mpd), .int mk, .long mg, .long mw, .int mn, .int (bI mgp), .long mga, .long mgb, .int (nI fcm), .ref aBx])), (aBx, .inl (cBx, 40, .inr (.inl bx)))]) 0 0 (tA [(m0, .inr (6, [.int mcode, .long mtot, .ref aTy, .int msz, .int mat, .int mfl, .int mru, .ref aTo, .ref aDr, .int (bI mpd), .int mk, .long mg, .long mw, .int mn, .int (bI mgp), .long mga, .long mgb, .int (nI fcm), .ref aBx])), (aBx, .inl (cBx, 40, .inr (.inl bx)))]) := by
  refine Met.ofW (cc := bM_headRoom) (maxL := 8) (ret := (some .long)) (by decide) rfl ?_
  intro p e s m args below meth c s₁ B hml hv
  obtain ⟨rfl, hP, hK, hN, hD0⟩ := hv
  have hx := B.exec
  have hb := B.bytes
  have hr := B.returns
  have hts : ∀ w ∈ gT, w.before _ s = true := fun w h => atoms_spec (ws := wM_headRoom) B.pre w (List.mem_cons_of_mem _ h)
  have hown : s.vm.findClass RM = some m.cls := findClass_of_methodNamed B.named
  have hlocks := B.notSynchronized
  have hD := tA_D hD0
  generalize hAe : tA [(m0, .inr (6, [.int mcode, .long mtot, .ref aTy, .int msz, .int mat, .int mfl, .int mru, .ref aTo, .ref aDr, .int (bI mpd), .int mk, .long mg, .long mw, .int mn, .int (bI mgp), .long mga, .long mgb, .int (nI fcm), .ref aBx])), (aBx, .inl (cBx, 40, .inr (.inl bx)))] = A at hD ⊢
  have hS : va_S A s.heap s.heap [] := va_S.rf
  have hP : va_P (dC, dI) vCl [(m0, .inr (6, [.int mcode, .long mtot, .ref aTy, .int msz, .int mat, .int mfl, .int mru, .ref aTo, .ref aDr, .int (bI mpd), .int mk, .long mg, .long mw, .int mn, .int (bI mgp), .long mga, .long mgb, .int (nI fcm), .ref aBx])), (aBx, .inl (cBx, 40, .inr (.inl bx)))] s.heap := hP
  have hl := lv_entry ([.ref m0]) (n := 8) (Nat.le_of_ble_eq_true rfl)
  rw [lg_entry_eq]
  generalize (lg_sl ([.ref m0]) ++ List.replicate (8 - (lg_sl ([.ref m0])).length) Slot.unset).toArray = ls at hl ⊢
  have hl : lv_has ls 8 [(0, .ref m0)] := hl
  have inner : ∀ (n : Nat) (k : Nat) (i : Nat) (bb : Int64) (r9 : Int64) (hk : n + k = tr) (hi : i < 8) (hR : mhI (fM_none_c0f0 mcode mtot msz mat mfl mru mpd mk mg mw mn mgp mga mgb (nI fcm)) bx mtot msz mat mfl mru mpd mk mg mw mn mgp mga mgb fcm i n k bb = r9) (H : Heap) (locs : List Loc) (hP : va_P (dC, dI) vCl [(m0, .inr (6, [.int (fM_none_c0f0 mcode mtot msz mat mfl mru mpd mk mg mw mn mgp mga mgb (nI fcm)), .long mtot, .ref aTy, .int msz, .int mat, .int mfl, .int mru, .ref aTo, .ref aDr, .int (bI mpd), .int mk, .long mg, .long mw, .int mn, .int (bI mgp), .long mga, .long mgb, .int (nI fcm), .ref aBx])), (aBx, .inl (cBx, 40, .inr (.inl bx)))] H) (hD : va_D A [(m0, .inr (6, [.int (fM_none_c0f0 mcode mtot msz mat mfl mru mpd mk mg mw mn mgp mga mgb (nI fcm)), .long mtot, .ref aTy, .int msz, .int mat, .int mfl, .int mru, .ref aTo, .ref aDr, .int (bI mpd), .int mk, .long mg, .long mw, .int mn, .int (bI mgp), .long mga, .long mgb, .int (nI fcm), .ref aBx])), (aBx, .inl (cBx, 40, .inr (.inl bx)))]) (hS : va_S A s.heap H locs) (kont : ∀ (ls : Array Slot), lv_has ls 8 [(3, .int (nI (5 * i))), (1, .long r9), (0, .ref m0)] → W p l e (headSpec wM_headRoom ({ frames := 3, cells := 0, slots := 0, locals := 69 })).room s m ([.ref m0] : List Value).toArray below meth c H locs 0 0 (MQ below (tq_W (dC, dI) vCl (some (.long (mhO (fM_none_c0f0 mcode mtot msz mat mfl mru mpd mk mg mw mn mgp mga mgb (nI fcm)) bx mtot msz mat mfl mru mpd mk mg mw mn mgp mga mgb fcm tr fcm 0 9223372036854775807))) [(m0, .inr (6, [.int mcode, .long mtot, .ref aTy, .int msz, .int mat, .int mfl, .int mru, .ref aTo, .ref aDr, .int (bI mpd), .int mk, .long mg, .long mw, .int mn, .int (bI mgp), .long mga, .long mgb, .int (nI fcm), .ref aBx])), (aBx, .inl (cBx, 40, .inr (.inl bx)))] [(m0, .inr (6, [.int (fM_none_c0f0 mcode mtot msz mat mfl mru mpd mk mg mw mn mgp mga mgb (nI fcm)), .long mtot, .ref aTy, .int msz, .int mat, .int mfl, .int mru, .ref aTo, .ref aDr, .int (bI mpd), .int mk, .long mg, .long mw, .int mn, .int (bI mgp), .long mga, .long mgb, .int (nI fcm), .ref aBx])), (aBx, .inl (cBx, 40, .inr (.inl bx)))]) ([.ref m0] : List Value).toArray s 0 0 A) (F0 m 172 ls [])) (ls : Array Slot), lv_has ls 8 [(4, .int (nI k)), (3, .int (nI (5 * i))), (1, .long bb), (0, .ref m0)] → W p l e (headSpec wM_headRoom ({ frames := 3, cells := 0, slots := 0, locals := 69 })).room s m ([.ref m0] : List Value).toArray below meth c H locs 0 0 (MQ below (tq_W (dC, dI) vCl (some (.long (mhO (fM_none_c0f0 mcode mtot msz mat mfl mru mpd mk mg mw mn mgp mga mgb (nI fcm)) bx mtot msz mat mfl mru mpd mk mg mw mn mgp mga mgb fcm tr fcm 0 9223372036854775807))) [(m0, .inr (6, [.int mcode, .long mtot, .ref aTy, .int msz, .int mat, .int mfl, .int mru, .ref aTo, .ref aDr, .int (bI mpd), .int mk, .long mg, .long mw, .int mn, .int (bI mgp), .long mga, .long mgb, .int (nI fcm), .ref aBx])), (aBx, .inl (cBx, 40, .inr (.inl bx)))] [(m0, .inr (6, [.int (fM_none_c0f0 mcode mtot msz mat mfl mru mpd mk mg mw mn mgp mga mgb (nI fcm)), .long mtot, .ref aTy, .int msz, .int mat, .int mfl, .int mru, .ref aTo, .ref aDr, .int (bI mpd), .int mk, .long mg, .long mw, .int mn, .int (bI mgp), .long mga, .long mgb, .int (nI fcm), .ref aBx])), (aBx, .inl (cBx, 40, .inr (.inl bx)))]) ([.ref m0] : List Value).toArray s 0 0 A) (F0 m 28 ls []) := by
    intro n
    induction n with
    | zero =>
      intro k i bb r9 hk hi hR H locs hP hD hS kont ls hl
      rw [mhI] at hR
      subst hR
      refine lv_iload hx hb dM_headRoom_28 (lv_at hl 0 rfl) ?_
      refine lv_aload_n hx hb dM_headRoom_30 rfl (lv_at hl 3 rfl) ?_
      refine va_get (D := (dC, dI)) (ci := 6) (v := .int mn) (C := RM) (T := TM) (N := 19) hx hb hts inM hown hK hP 0 rfl rfl 13 (by decide) (hts _ gw_587) (fun _ h9 => h9) rfl dM_headRoom_31 ?_
      refine lv_iconst (v := 1) hx hb dM_headRoom_34 (by decide) ?_
      refine lv_isub hx hb dM_headRoom_35 ?_
      refine lv_icmp_ge (tgt := 172) hx hb dM_headRoom_36 (by decide) (fun c_1 => ?_) (fun c_1 => absurd (by rw [hr0, show k = tr by omega]; exact Int32.le_refl _) c_1)
      exact kont ls (lv_sub hl [1, 2, 3] rfl)
    | succ n ih =>
      intro k i bb r9 hk hi hR H locs hP hD hS kont ls hl
      refine lv_iload hx hb dM_headRoom_28 (lv_at hl 0 rfl) ?_
      refine lv_aload_n hx hb dM_headRoom_30 rfl (lv_at hl 3 rfl) ?_
      refine va_get (D := (dC, dI)) (ci := 6) (v := .int mn) (C := RM) (T := TM) (N := 19) hx hb hts inM hown hK hP 0 rfl rfl 13 (by decide) (hts _ gw_587) (fun _ h9 => h9) rfl dM_headRoom_31 ?_
      refine lv_iconst (v := 1) hx hb dM_headRoom_34 (by decide) ?_
      refine lv_isub hx hb dM_headRoom_35 ?_
      refine lv_icmp_ge (tgt := 172) hx hb dM_headRoom_36 (by decide) (fun c_2 => absurd c_2 (by rw [hr0]; exact nI_ge (by omega) (by omega))) (fun c_2 => ?_)
      refine lv_aload_n hx hb dM_headRoom_39 rfl (lv_at hl 3 rfl) ?_
      refine lv_iload hx hb dM_headRoom_40 (lv_at hl 0 rfl) ?_
      refine lv_iconst (v := 0) hx hb dM_headRoom_42 (by decide) ?_
      refine tr_go (st1 := [.long (fM_side (fM_none_c0f0 mcode mtot msz mat mfl mru mpd mk mg mw mn mgp mga mgb (nI fcm)) mtot msz mat mfl mru mpd mk mg mw mn mgp mga mgb (nI fcm) (nI k) 0)]) (va_runV (As := [.int (nI k), .int 0]) (rest := []) (C := RM) ⟨hx, hb, hml, hown, hts⟩ (c_M_side l dC dI m0 aTy aTo aDr aBx (fM_none_c0f0 mcode mtot msz mat mfl mru mpd mk mg mw mn mgp mga mgb (nI fcm)) mtot msz mat mfl mru mpd mk mg mw mn mgp mga mgb (nI fcm) (nI k) 0) ⟨cB 2 hts gw_691 gw_7 gw_689 ndM_side rfl rfl ⟨Nat.le_of_ble_eq_true rfl, Nat.le_of_ble_eq_true rfl⟩, hts _ gw_690, hts _ gw_768⟩ (tp_Rv hN hK hP [0] [] rfl rfl (q0 := 0) (ci := 6) rfl rfl) rfl rfl hl.1 rfl (lv_room (Nat.le_of_ble_eq_true rfl)) dM_headRoom_43 ⟨Nat.le_of_ble_eq_true rfl, Nat.le_of_ble_eq_true rfl⟩) rfl ?_
      refine lv_aload_n hx hb dM_headRoom_46 rfl (lv_at hl 3 rfl) ?_
      refine va_get (D := (dC, dI)) (ci := 6) (v := .ref aBx) (C := RM) (T := TM) (N := 19) hx hb hts inM hown hK hP 0 rfl rfl 18 (by decide) (hts _ gw_592) (fun _ h9 => h9) rfl dM_headRoom_47 ?_
      refine lv_iload_n hx hb dM_headRoom_50 rfl (lv_at hl 1 rfl) ?_
      refine lv_iconst (v := 2) hx hb dM_headRoom_51 (by decide) ?_
      refine lv_iadd hx hb dM_headRoom_52 ?_
      have b_3 : vp_in ((nI (5 * i)) + 2) 40 := by rw [show (2 : Int32) = nI 2 from rfl, nI_add]; exact vp_in_nI (by omega) (by decide)
      refine va_lald hx hb hK hP 1 0 rfl rfl b_3 dM_headRoom_53 ?_
      refine tl_ge (tgt := 117) hx hb dM_headRoom_54 dM_headRoom_55 (by decide) (fun c_4 => ?_) (fun c_4 => ?_)
      · skip
        refine lv_iconst (v := 0) hx hb dM_headRoom_117 (by decide) ?_
        refine lv_istore (lv' := [(5, .int 0), (4, .int (nI k)), (3, .int (nI (5 * i))), (1, .long bb), (0, .ref m0)]) hx hb dM_headRoom_118 hl (by decide) rfl (fun ls hl => ?_)
        refine lv_aload_n hx hb dM_headRoom_120 rfl (lv_at hl 4 rfl) ?_
        refine va_get (D := (dC, dI)) (ci := 6) (v := .ref aBx) (C := RM) (T := TM) (N := 19) hx hb hts inM hown hK hP 0 rfl rfl 18 (by decide) (hts _ gw_592) (fun _ h9 => h9) rfl dM_headRoom_121 ?_
        refine lv_iload_n hx hb dM_headRoom_124 rfl (lv_at hl 2 rfl) ?_
        refine lv_iconst (v := 4) hx hb dM_headRoom_125 (by decide) ?_
        refine lv_iadd hx hb dM_headRoom_126 ?_
        have b_5 : vp_in ((nI (5 * i)) + 4) 40 := by rw [show (4 : Int32) = nI 4 from rfl, nI_add]; exact vp_in_nI (by omega) (by decide)
        refine va_lald hx hb hK hP 1 0 rfl rfl b_5 dM_headRoom_127 ?_
        refine lv_aload_n hx hb dM_headRoom_128 rfl (lv_at hl 4 rfl) ?_
        refine va_get (D := (dC, dI)) (ci := 6) (v := .int mn) (C := RM) (T := TM) (N := 19) hx hb hts inM hown hK hP 0 rfl rfl 13 (by decide) (hts _ gw_587) (fun _ h9 => h9) rfl dM_headRoom_129 ?_
        refine lv_i2l (v := mn.toInt64) hx hb dM_headRoom_132 rfl ?_
        refine lv_lmul hx hb dM_headRoom_133 ?_
        refine lv_iload hx hb dM_headRoom_134 (lv_at hl 1 rfl) ?_
        refine lv_iconst (v := 1) hx hb dM_headRoom_136 (by decide) ?_
        refine lv_iadd hx hb dM_headRoom_137 ?_
        rw [nI_1 (k)]
        refine lv_i2l (v := (nI (k + 1)).toInt64) hx hb dM_headRoom_138 rfl ?_
        refine lv_aload_n hx hb dM_headRoom_139 rfl (lv_at hl 4 rfl) ?_
        refine va_get (D := (dC, dI)) (ci := 6) (v := .long mtot) (C := RM) (T := TM) (N := 19) hx hb hts inM hown hK hP 0 rfl rfl 1 (by decide) (hts _ gw_575) (fun _ h9 => h9) rfl dM_headRoom_140 ?_
        refine lv_lmul hx hb dM_headRoom_143 ?_
        refine lv_lsub hx hb dM_headRoom_144 ?_
        refine lv_lstore (lv' := [(6, .long (((bx ((nI (5 * i)) + 4).toNatClampNeg) * mn.toInt64) - (((nI (k + 1)).toInt64) * mtot))), (5, .int 0), (4, .int (nI k)), (3, .int (nI (5 * i))), (1, .long bb), (0, .ref m0)]) hx hb dM_headRoom_145 hl (by decide) rfl (fun ls hl => ?_)
        refine lv_iload hx hb dM_headRoom_147 (lv_at hl 1 rfl) ?_
        refine lv_if_eq (tgt := 164) hx hb dM_headRoom_149 (by decide) (fun c_6 => ?_) (fun c_6 => absurd (by decide) c_6)
        refine lv_lload_n hx hb dM_headRoom_164 rfl (lv_at hl 4 rfl) ?_
        refine lv_lstore_n (lv' := [(1, .long bb), (6, .long (((bx ((nI (5 * i)) + 4).toNatClampNeg) * mn.toInt64) - (((nI (k + 1)).toInt64) * mtot))), (5, .int 0), (4, .int (nI k)), (3, .int (nI (5 * i))), (0, .ref m0)]) hx hb dM_headRoom_165 rfl hl (by decide) rfl (fun ls hl => ?_)
        refine lv_iinc (v := nI (k + 1)) (lv' := [(4, .int (nI (k + 1))), (1, .long bb), (6, .long (((bx ((nI (5 * i)) + 4).toNatClampNeg) * mn.toInt64) - (((nI (k + 1)).toInt64) * mtot))), (5, .int 0), (3, .int (nI (5 * i))), (0, .ref m0)]) hx hb dM_headRoom_166 hl (k := 3) rfl (by rw [nI_succ]; rfl) (by decide) rfl (fun ls hl => ?_)
        refine lv_goto (tgt := 28) hx hb dM_headRoom_169 (by decide) ?_
        exact ih (k + 1) i bb r9 (by omega) hi (by rw [mhI, if_pos c_4] at hR; exact hR) _ _ hP hD hS kont ls (lv_sub hl [0, 4, 1, 5] rfl)
      · skip
        refine lv_aload_n hx hb dM_headRoom_58 rfl (lv_at hl 3 rfl) ?_
        refine lv_iload hx hb dM_headRoom_59 (lv_at hl 0 rfl) ?_
        refine lv_iconst (v := 2) hx hb dM_headRoom_61 (by decide) ?_
        refine tr_go (st1 := [.long (fM_side (fM_none_c0f0 mcode mtot msz mat mfl mru mpd mk mg mw mn mgp mga mgb (nI fcm)) mtot msz mat mfl mru mpd mk mg mw mn mgp mga mgb (nI fcm) (nI k) 2)]) (va_runV (As := [.int (nI k), .int 2]) (rest := []) (C := RM) ⟨hx, hb, hml, hown, hts⟩ (c_M_side l dC dI m0 aTy aTo aDr aBx (fM_none_c0f0 mcode mtot msz mat mfl mru mpd mk mg mw mn mgp mga mgb (nI fcm)) mtot msz mat mfl mru mpd mk mg mw mn mgp mga mgb (nI fcm) (nI k) 2) ⟨cB 2 hts gw_691 gw_7 gw_689 ndM_side rfl rfl ⟨Nat.le_of_ble_eq_true rfl, Nat.le_of_ble_eq_true rfl⟩, hts _ gw_690, hts _ gw_768⟩ (tp_Rv hN hK hP [0] [] rfl rfl (q0 := 0) (ci := 6) rfl rfl) rfl rfl hl.1 rfl (lv_room (Nat.le_of_ble_eq_true rfl)) dM_headRoom_62 ⟨Nat.le_of_ble_eq_true rfl, Nat.le_of_ble_eq_true rfl⟩) rfl ?_
        refine lv_aload_n hx hb dM_headRoom_65 rfl (lv_at hl 3 rfl) ?_
        refine va_get (D := (dC, dI)) (ci := 6) (v := .ref aBx) (C := RM) (T := TM) (N := 19) hx hb hts inM hown hK hP 0 rfl rfl 18 (by decide) (hts _ gw_592) (fun _ h9 => h9) rfl dM_headRoom_66 ?_
        refine lv_iload_n hx hb dM_headRoom_69 rfl (lv_at hl 1 rfl) ?_
        have b_7 : vp_in (nI (5 * i)) 40 := vp_in_nI (by omega) (by decide)
        refine va_lald hx hb hK hP 1 0 rfl rfl b_7 dM_headRoom_70 ?_
        refine tl_le (tgt := 117) hx hb dM_headRoom_71 dM_headRoom_72 (by decide) (fun c_8 => ?_) (fun c_8 => ?_)
        · skip
          refine lv_iconst (v := 0) hx hb dM_headRoom_117 (by decide) ?_
          refine lv_istore (lv' := [(5, .int 0), (4, .int (nI k)), (3, .int (nI (5 * i))), (1, .long bb), (0, .ref m0)]) hx hb dM_headRoom_118 hl (by decide) rfl (fun ls hl => ?_)
          refine lv_aload_n hx hb dM_headRoom_120 rfl (lv_at hl 4 rfl) ?_
          refine va_get (D := (dC, dI)) (ci := 6) (v := .ref aBx) (C := RM) (T := TM) (N := 19) hx hb hts inM hown hK hP 0 rfl rfl 18 (by decide) (hts _ gw_592) (fun _ h9 => h9) rfl dM_headRoom_121 ?_
          refine lv_iload_n hx hb dM_headRoom_124 rfl (lv_at hl 2 rfl) ?_
          refine lv_iconst (v := 4) hx hb dM_headRoom_125 (by decide) ?_
          refine lv_iadd hx hb dM_headRoom_126 ?_
          have b_9 : vp_in ((nI (5 * i)) + 4) 40 := by rw [show (4 : Int32) = nI 4 from rfl, nI_add]; exact vp_in_nI (by omega) (by decide)
          refine va_lald hx hb hK hP 1 0 rfl rfl b_9 dM_headRoom_127 ?_
          refine lv_aload_n hx hb dM_headRoom_128 rfl (lv_at hl 4 rfl) ?_
          refine va_get (D := (dC, dI)) (ci := 6) (v := .int mn) (C := RM) (T := TM) (N := 19) hx hb hts inM hown hK hP 0 rfl rfl 13 (by decide) (hts _ gw_587) (fun _ h9 => h9) rfl dM_headRoom_129 ?_
          refine lv_i2l (v := mn.toInt64) hx hb dM_headRoom_132 rfl ?_
          refine lv_lmul hx hb dM_headRoom_133 ?_
          refine lv_iload hx hb dM_headRoom_134 (lv_at hl 1 rfl) ?_
          refine lv_iconst (v := 1) hx hb dM_headRoom_136 (by decide) ?_
          refine lv_iadd hx hb dM_headRoom_137 ?_
          rw [nI_1 (k)]
          refine lv_i2l (v := (nI (k + 1)).toInt64) hx hb dM_headRoom_138 rfl ?_
          refine lv_aload_n hx hb dM_headRoom_139 rfl (lv_at hl 4 rfl) ?_
          refine va_get (D := (dC, dI)) (ci := 6) (v := .long mtot) (C := RM) (T := TM) (N := 19) hx hb hts inM hown hK hP 0 rfl rfl 1 (by decide) (hts _ gw_575) (fun _ h9 => h9) rfl dM_headRoom_140 ?_
          refine lv_lmul hx hb dM_headRoom_143 ?_
          refine lv_lsub hx hb dM_headRoom_144 ?_
          refine lv_lstore (lv' := [(6, .long (((bx ((nI (5 * i)) + 4).toNatClampNeg) * mn.toInt64) - (((nI (k + 1)).toInt64) * mtot))), (5, .int 0), (4, .int (nI k)), (3, .int (nI (5 * i))), (1, .long bb), (0, .ref m0)]) hx hb dM_headRoom_145 hl (by decide) rfl (fun ls hl => ?_)
          refine lv_iload hx hb dM_headRoom_147 (lv_at hl 1 rfl) ?_
          refine lv_if_eq (tgt := 164) hx hb dM_headRoom_149 (by decide) (fun c_10 => ?_) (fun c_10 => absurd (by decide) c_10)
          refine lv_lload_n hx hb dM_headRoom_164 rfl (lv_at hl 4 rfl) ?_
          refine lv_lstore_n (lv' := [(1, .long bb), (6, .long (((bx ((nI (5 * i)) + 4).toNatClampNeg) * mn.toInt64) - (((nI (k + 1)).toInt64) * mtot))), (5, .int 0), (4, .int (nI k)), (3, .int (nI (5 * i))), (0, .ref m0)]) hx hb dM_headRoom_165 rfl hl (by decide) rfl (fun ls hl => ?_)
          refine lv_iinc (v := nI (k + 1)) (lv' := [(4, .int (nI (k + 1))), (1, .long bb), (6, .long (((bx ((nI (5 * i)) + 4).toNatClampNeg) * mn.toInt64) - (((nI (k + 1)).toInt64) * mtot))), (5, .int 0), (3, .int (nI (5 * i))), (0, .ref m0)]) hx hb dM_headRoom_166 hl (k := 3) rfl (by rw [nI_succ]; rfl) (by decide) rfl (fun ls hl => ?_)
          refine lv_goto (tgt := 28) hx hb dM_headRoom_169 (by decide) ?_
          exact ih (k + 1) i bb r9 (by omega) hi (by rw [mhI, if_neg c_4, if_pos c_8] at hR; exact hR) _ _ hP hD hS kont ls (lv_sub hl [0, 4, 1, 5] rfl)
        · skip
          refine lv_aload_n hx hb dM_headRoom_75 rfl (lv_at hl 3 rfl) ?_
          refine lv_iload hx hb dM_headRoom_76 (lv_at hl 0 rfl) ?_
          refine lv_iconst (v := 1) hx hb dM_headRoom_78 (by decide) ?_
          refine tr_go (st1 := [.long (fM_side (fM_none_c0f0 mcode mtot msz mat mfl mru mpd mk mg mw mn mgp mga mgb (nI fcm)) mtot msz mat mfl mru mpd mk mg mw mn mgp mga mgb (nI fcm) (nI k) 1)]) (va_runV (As := [.int (nI k), .int 1]) (rest := []) (C := RM) ⟨hx, hb, hml, hown, hts⟩ (c_M_side l dC dI m0 aTy aTo aDr aBx (fM_none_c0f0 mcode mtot msz mat mfl mru mpd mk mg mw mn mgp mga mgb (nI fcm)) mtot msz mat mfl mru mpd mk mg mw mn mgp mga mgb (nI fcm) (nI k) 1) ⟨cB 2 hts gw_691 gw_7 gw_689 ndM_side rfl rfl ⟨Nat.le_of_ble_eq_true rfl, Nat.le_of_ble_eq_true rfl⟩, hts _ gw_690, hts _ gw_768⟩ (tp_Rv hN hK hP [0] [] rfl rfl (q0 := 0) (ci := 6) rfl rfl) rfl rfl hl.1 rfl (lv_room (Nat.le_of_ble_eq_true rfl)) dM_headRoom_79 ⟨Nat.le_of_ble_eq_true rfl, Nat.le_of_ble_eq_true rfl⟩) rfl ?_
          refine lv_aload_n hx hb dM_headRoom_82 rfl (lv_at hl 3 rfl) ?_
          refine va_get (D := (dC, dI)) (ci := 6) (v := .ref aBx) (C := RM) (T := TM) (N := 19) hx hb hts inM hown hK hP 0 rfl rfl 18 (by decide) (hts _ gw_592) (fun _ h9 => h9) rfl dM_headRoom_83 ?_
          refine lv_iload_n hx hb dM_headRoom_86 rfl (lv_at hl 1 rfl) ?_
          refine lv_iconst (v := 3) hx hb dM_headRoom_87 (by decide) ?_
          refine lv_iadd hx hb dM_headRoom_88 ?_
          have b_11 : vp_in ((nI (5 * i)) + 3) 40 := by rw [show (3 : Int32) = nI 3 from rfl, nI_add]; exact vp_in_nI (by omega) (by decide)
          refine va_lald hx hb hK hP 1 0 rfl rfl b_11 dM_headRoom_89 ?_
          refine tl_ge (tgt := 117) hx hb dM_headRoom_90 dM_headRoom_91 (by decide) (fun c_12 => ?_) (fun c_12 => ?_)
          · skip
            refine lv_iconst (v := 0) hx hb dM_headRoom_117 (by decide) ?_
            refine lv_istore (lv' := [(5, .int 0), (4, .int (nI k)), (3, .int (nI (5 * i))), (1, .long bb), (0, .ref m0)]) hx hb dM_headRoom_118 hl (by decide) rfl (fun ls hl => ?_)
            refine lv_aload_n hx hb dM_headRoom_120 rfl (lv_at hl 4 rfl) ?_
            refine va_get (D := (dC, dI)) (ci := 6) (v := .ref aBx) (C := RM) (T := TM) (N := 19) hx hb hts inM hown hK hP 0 rfl rfl 18 (by decide) (hts _ gw_592) (fun _ h9 => h9) rfl dM_headRoom_121 ?_
            refine lv_iload_n hx hb dM_headRoom_124 rfl (lv_at hl 2 rfl) ?_
            refine lv_iconst (v := 4) hx hb dM_headRoom_125 (by decide) ?_
            refine lv_iadd hx hb dM_headRoom_126 ?_
            have b_13 : vp_in ((nI (5 * i)) + 4) 40 := by rw [show (4 : Int32) = nI 4 from rfl, nI_add]; exact vp_in_nI (by omega) (by decide)
            refine va_lald hx hb hK hP 1 0 rfl rfl b_13 dM_headRoom_127 ?_
            refine lv_aload_n hx hb dM_headRoom_128 rfl (lv_at hl 4 rfl) ?_
            refine va_get (D := (dC, dI)) (ci := 6) (v := .int mn) (C := RM) (T := TM) (N := 19) hx hb hts inM hown hK hP 0 rfl rfl 13 (by decide) (hts _ gw_587) (fun _ h9 => h9) rfl dM_headRoom_129 ?_
            refine lv_i2l (v := mn.toInt64) hx hb dM_headRoom_132 rfl ?_
            refine lv_lmul hx hb dM_headRoom_133 ?_
            refine lv_iload hx hb dM_headRoom_134 (lv_at hl 1 rfl) ?_
            refine lv_iconst (v := 1) hx hb dM_headRoom_136 (by decide) ?_
            refine lv_iadd hx hb dM_headRoom_137 ?_
            rw [nI_1 (k)]
            refine lv_i2l (v := (nI (k + 1)).toInt64) hx hb dM_headRoom_138 rfl ?_
            refine lv_aload_n hx hb dM_headRoom_139 rfl (lv_at hl 4 rfl) ?_
            refine va_get (D := (dC, dI)) (ci := 6) (v := .long mtot) (C := RM) (T := TM) (N := 19) hx hb hts inM hown hK hP 0 rfl rfl 1 (by decide) (hts _ gw_575) (fun _ h9 => h9) rfl dM_headRoom_140 ?_
            refine lv_lmul hx hb dM_headRoom_143 ?_
            refine lv_lsub hx hb dM_headRoom_144 ?_
            refine lv_lstore (lv' := [(6, .long (((bx ((nI (5 * i)) + 4).toNatClampNeg) * mn.toInt64) - (((nI (k + 1)).toInt64) * mtot))), (5, .int 0), (4, .int (nI k)), (3, .int (nI (5 * i))), (1, .long bb), (0, .ref m0)]) hx hb dM_headRoom_145 hl (by decide) rfl (fun ls hl => ?_)
            refine lv_iload hx hb dM_headRoom_147 (lv_at hl 1 rfl) ?_
            refine lv_if_eq (tgt := 164) hx hb dM_headRoom_149 (by decide) (fun c_14 => ?_) (fun c_14 => absurd (by decide) c_14)
            refine lv_lload_n hx hb dM_headRoom_164 rfl (lv_at hl 4 rfl) ?_
            refine lv_lstore_n (lv' := [(1, .long bb), (6, .long (((bx ((nI (5 * i)) + 4).toNatClampNeg) * mn.toInt64) - (((nI (k + 1)).toInt64) * mtot))), (5, .int 0), (4, .int (nI k)), (3, .int (nI (5 * i))), (0, .ref m0)]) hx hb dM_headRoom_165 rfl hl (by decide) rfl (fun ls hl => ?_)
            refine lv_iinc (v := nI (k + 1)) (lv' := [(4, .int (nI (k + 1))), (1, .long bb), (6, .long (((bx ((nI (5 * i)) + 4).toNatClampNeg) * mn.toInt64) - (((nI (k + 1)).toInt64) * mtot))), (5, .int 0), (3, .int (nI (5 * i))), (0, .ref m0)]) hx hb dM_headRoom_166 hl (k := 3) rfl (by rw [nI_succ]; rfl) (by decide) rfl (fun ls hl => ?_)
            refine lv_goto (tgt := 28) hx hb dM_headRoom_169 (by decide) ?_
            exact ih (k + 1) i bb r9 (by omega) hi (by rw [mhI, if_neg c_4, if_neg c_8, if_pos c_12] at hR; exact hR) _ _ hP hD hS kont ls (lv_sub hl [0, 4, 1, 5] rfl)
          · skip
            refine lv_aload_n hx hb dM_headRoom_94 rfl (lv_at hl 3 rfl) ?_
            refine lv_iload hx hb dM_headRoom_95 (lv_at hl 0 rfl) ?_
            refine lv_iconst (v := 3) hx hb dM_headRoom_97 (by decide) ?_
            refine tr_go (st1 := [.long (fM_side (fM_none_c0f0 mcode mtot msz mat mfl mru mpd mk mg mw mn mgp mga mgb (nI fcm)) mtot msz mat mfl mru mpd mk mg mw mn mgp mga mgb (nI fcm) (nI k) 3)]) (va_runV (As := [.int (nI k), .int 3]) (rest := []) (C := RM) ⟨hx, hb, hml, hown, hts⟩ (c_M_side l dC dI m0 aTy aTo aDr aBx (fM_none_c0f0 mcode mtot msz mat mfl mru mpd mk mg mw mn mgp mga mgb (nI fcm)) mtot msz mat mfl mru mpd mk mg mw mn mgp mga mgb (nI fcm) (nI k) 3) ⟨cB 2 hts gw_691 gw_7 gw_689 ndM_side rfl rfl ⟨Nat.le_of_ble_eq_true rfl, Nat.le_of_ble_eq_true rfl⟩, hts _ gw_690, hts _ gw_768⟩ (tp_Rv hN hK hP [0] [] rfl rfl (q0 := 0) (ci := 6) rfl rfl) rfl rfl hl.1 rfl (lv_room (Nat.le_of_ble_eq_true rfl)) dM_headRoom_98 ⟨Nat.le_of_ble_eq_true rfl, Nat.le_of_ble_eq_true rfl⟩) rfl ?_
            refine lv_aload_n hx hb dM_headRoom_101 rfl (lv_at hl 3 rfl) ?_
            refine va_get (D := (dC, dI)) (ci := 6) (v := .ref aBx) (C := RM) (T := TM) (N := 19) hx hb hts inM hown hK hP 0 rfl rfl 18 (by decide) (hts _ gw_592) (fun _ h9 => h9) rfl dM_headRoom_102 ?_
            refine lv_iload_n hx hb dM_headRoom_105 rfl (lv_at hl 1 rfl) ?_
            refine lv_iconst (v := 1) hx hb dM_headRoom_106 (by decide) ?_
            refine lv_iadd hx hb dM_headRoom_107 ?_
            rw [nI_1 (5 * i)]
            have b_15 : vp_in (nI (5 * i + 1)) 40 := vp_in_nI (by omega) (by decide)
            refine va_lald hx hb hK hP 1 0 rfl rfl b_15 dM_headRoom_108 ?_
            refine tl_le (tgt := 117) hx hb dM_headRoom_109 dM_headRoom_110 (by decide) (fun c_16 => ?_) (fun c_16 => ?_)
            · skip
              refine lv_iconst (v := 0) hx hb dM_headRoom_117 (by decide) ?_
              refine lv_istore (lv' := [(5, .int 0), (4, .int (nI k)), (3, .int (nI (5 * i))), (1, .long bb), (0, .ref m0)]) hx hb dM_headRoom_118 hl (by decide) rfl (fun ls hl => ?_)
              refine lv_aload_n hx hb dM_headRoom_120 rfl (lv_at hl 4 rfl) ?_
              refine va_get (D := (dC, dI)) (ci := 6) (v := .ref aBx) (C := RM) (T := TM) (N := 19) hx hb hts inM hown hK hP 0 rfl rfl 18 (by decide) (hts _ gw_592) (fun _ h9 => h9) rfl dM_headRoom_121 ?_
              refine lv_iload_n hx hb dM_headRoom_124 rfl (lv_at hl 2 rfl) ?_
              refine lv_iconst (v := 4) hx hb dM_headRoom_125 (by decide) ?_
              refine lv_iadd hx hb dM_headRoom_126 ?_
              have b_17 : vp_in ((nI (5 * i)) + 4) 40 := by rw [show (4 : Int32) = nI 4 from rfl, nI_add]; exact vp_in_nI (by omega) (by decide)
              refine va_lald hx hb hK hP 1 0 rfl rfl b_17 dM_headRoom_127 ?_
              refine lv_aload_n hx hb dM_headRoom_128 rfl (lv_at hl 4 rfl) ?_
              refine va_get (D := (dC, dI)) (ci := 6) (v := .int mn) (C := RM) (T := TM) (N := 19) hx hb hts inM hown hK hP 0 rfl rfl 13 (by decide) (hts _ gw_587) (fun _ h9 => h9) rfl dM_headRoom_129 ?_
              refine lv_i2l (v := mn.toInt64) hx hb dM_headRoom_132 rfl ?_
              refine lv_lmul hx hb dM_headRoom_133 ?_
              refine lv_iload hx hb dM_headRoom_134 (lv_at hl 1 rfl) ?_
              refine lv_iconst (v := 1) hx hb dM_headRoom_136 (by decide) ?_
              refine lv_iadd hx hb dM_headRoom_137 ?_
              rw [nI_1 (k)]
              refine lv_i2l (v := (nI (k + 1)).toInt64) hx hb dM_headRoom_138 rfl ?_
              refine lv_aload_n hx hb dM_headRoom_139 rfl (lv_at hl 4 rfl) ?_
              refine va_get (D := (dC, dI)) (ci := 6) (v := .long mtot) (C := RM) (T := TM) (N := 19) hx hb hts inM hown hK hP 0 rfl rfl 1 (by decide) (hts _ gw_575) (fun _ h9 => h9) rfl dM_headRoom_140 ?_
              refine lv_lmul hx hb dM_headRoom_143 ?_
              refine lv_lsub hx hb dM_headRoom_144 ?_
              refine lv_lstore (lv' := [(6, .long (((bx ((nI (5 * i)) + 4).toNatClampNeg) * mn.toInt64) - (((nI (k + 1)).toInt64) * mtot))), (5, .int 0), (4, .int (nI k)), (3, .int (nI (5 * i))), (1, .long bb), (0, .ref m0)]) hx hb dM_headRoom_145 hl (by decide) rfl (fun ls hl => ?_)
              refine lv_iload hx hb dM_headRoom_147 (lv_at hl 1 rfl) ?_
              refine lv_if_eq (tgt := 164) hx hb dM_headRoom_149 (by decide) (fun c_18 => ?_) (fun c_18 => absurd (by decide) c_18)
              refine lv_lload_n hx hb dM_headRoom_164 rfl (lv_at hl 4 rfl) ?_
              refine lv_lstore_n (lv' := [(1, .long bb), (6, .long (((bx ((nI (5 * i)) + 4).toNatClampNeg) * mn.toInt64) - (((nI (k + 1)).toInt64) * mtot))), (5, .int 0), (4, .int (nI k)), (3, .int (nI (5 * i))), (0, .ref m0)]) hx hb dM_headRoom_165 rfl hl (by decide) rfl (fun ls hl => ?_)
              refine lv_iinc (v := nI (k + 1)) (lv' := [(4, .int (nI (k + 1))), (1, .long bb), (6, .long (((bx ((nI (5 * i)) + 4).toNatClampNeg) * mn.toInt64) - (((nI (k + 1)).toInt64) * mtot))), (5, .int 0), (3, .int (nI (5 * i))), (0, .ref m0)]) hx hb dM_headRoom_166 hl (k := 3) rfl (by rw [nI_succ]; rfl) (by decide) rfl (fun ls hl => ?_)
              refine lv_goto (tgt := 28) hx hb dM_headRoom_169 (by decide) ?_
              exact ih (k + 1) i bb r9 (by omega) hi (by rw [mhI, if_neg c_4, if_neg c_8, if_neg c_12, if_pos c_16] at hR; exact hR) _ _ hP hD hS kont ls (lv_sub hl [0, 4, 1, 5] rfl)
            · skip
              refine lv_iconst (v := 1) hx hb dM_headRoom_113 (by decide) ?_
              refine lv_goto (tgt := 118) hx hb dM_headRoom_114 (by decide) ?_
              refine lv_istore (lv' := [(5, .int 1), (4, .int (nI k)), (3, .int (nI (5 * i))), (1, .long bb), (0, .ref m0)]) hx hb dM_headRoom_118 hl (by decide) rfl (fun ls hl => ?_)
              refine lv_aload_n hx hb dM_headRoom_120 rfl (lv_at hl 4 rfl) ?_
              refine va_get (D := (dC, dI)) (ci := 6) (v := .ref aBx) (C := RM) (T := TM) (N := 19) hx hb hts inM hown hK hP 0 rfl rfl 18 (by decide) (hts _ gw_592) (fun _ h9 => h9) rfl dM_headRoom_121 ?_
              refine lv_iload_n hx hb dM_headRoom_124 rfl (lv_at hl 2 rfl) ?_
              refine lv_iconst (v := 4) hx hb dM_headRoom_125 (by decide) ?_
              refine lv_iadd hx hb dM_headRoom_126 ?_
              have b_19 : vp_in ((nI (5 * i)) + 4) 40 := by rw [show (4 : Int32) = nI 4 from rfl, nI_add]; exact vp_in_nI (by omega) (by decide)
              refine va_lald hx hb hK hP 1 0 rfl rfl b_19 dM_headRoom_127 ?_
              refine lv_aload_n hx hb dM_headRoom_128 rfl (lv_at hl 4 rfl) ?_
              refine va_get (D := (dC, dI)) (ci := 6) (v := .int mn) (C := RM) (T := TM) (N := 19) hx hb hts inM hown hK hP 0 rfl rfl 13 (by decide) (hts _ gw_587) (fun _ h9 => h9) rfl dM_headRoom_129 ?_
              refine lv_i2l (v := mn.toInt64) hx hb dM_headRoom_132 rfl ?_
              refine lv_lmul hx hb dM_headRoom_133 ?_
              refine lv_iload hx hb dM_headRoom_134 (lv_at hl 1 rfl) ?_
              refine lv_iconst (v := 1) hx hb dM_headRoom_136 (by decide) ?_
              refine lv_iadd hx hb dM_headRoom_137 ?_
              rw [nI_1 (k)]
              refine lv_i2l (v := (nI (k + 1)).toInt64) hx hb dM_headRoom_138 rfl ?_
              refine lv_aload_n hx hb dM_headRoom_139 rfl (lv_at hl 4 rfl) ?_
              refine va_get (D := (dC, dI)) (ci := 6) (v := .long mtot) (C := RM) (T := TM) (N := 19) hx hb hts inM hown hK hP 0 rfl rfl 1 (by decide) (hts _ gw_575) (fun _ h9 => h9) rfl dM_headRoom_140 ?_
              refine lv_lmul hx hb dM_headRoom_143 ?_
              refine lv_lsub hx hb dM_headRoom_144 ?_
              refine lv_lstore (lv' := [(6, .long (((bx ((nI (5 * i)) + 4).toNatClampNeg) * mn.toInt64) - (((nI (k + 1)).toInt64) * mtot))), (5, .int 1), (4, .int (nI k)), (3, .int (nI (5 * i))), (1, .long bb), (0, .ref m0)]) hx hb dM_headRoom_145 hl (by decide) rfl (fun ls hl => ?_)
              refine lv_iload hx hb dM_headRoom_147 (lv_at hl 1 rfl) ?_
              refine lv_if_eq (tgt := 164) hx hb dM_headRoom_149 (by decide) (fun c_20 => absurd c_20 (by decide)) (fun c_20 => ?_)
              refine lv_lload hx hb dM_headRoom_152 (lv_at hl 0 rfl) ?_
              refine lv_lload_n hx hb dM_headRoom_154 rfl (lv_at hl 4 rfl) ?_
              refine tl_ge (tgt := 164) hx hb dM_headRoom_155 dM_headRoom_156 (by decide) (fun c_21 => ?_) (fun c_21 => ?_)
              · skip
                refine lv_lload_n hx hb dM_headRoom_164 rfl (lv_at hl 4 rfl) ?_
                refine lv_lstore_n (lv' := [(1, .long bb), (6, .long (((bx ((nI (5 * i)) + 4).toNatClampNeg) * mn.toInt64) - (((nI (k + 1)).toInt64) * mtot))), (5, .int 1), (4, .int (nI k)), (3, .int (nI (5 * i))), (0, .ref m0)]) hx hb dM_headRoom_165 rfl hl (by decide) rfl (fun ls hl => ?_)
                refine lv_iinc (v := nI (k + 1)) (lv' := [(4, .int (nI (k + 1))), (1, .long bb), (6, .long (((bx ((nI (5 * i)) + 4).toNatClampNeg) * mn.toInt64) - (((nI (k + 1)).toInt64) * mtot))), (5, .int 1), (3, .int (nI (5 * i))), (0, .ref m0)]) hx hb dM_headRoom_166 hl (k := 3) rfl (by rw [nI_succ]; rfl) (by decide) rfl (fun ls hl => ?_)
                refine lv_goto (tgt := 28) hx hb dM_headRoom_169 (by decide) ?_
                exact ih (k + 1) i bb r9 (by omega) hi (by rw [mhI, if_neg c_4, if_neg c_8, if_neg c_12, if_neg c_16, if_pos c_21] at hR; exact hR) _ _ hP hD hS kont ls (lv_sub hl [0, 4, 1, 5] rfl)
              · skip
                refine lv_lload hx hb dM_headRoom_159 (lv_at hl 0 rfl) ?_
                refine lv_goto (tgt := 165) hx hb dM_headRoom_161 (by decide) ?_
                refine lv_lstore_n (lv' := [(1, .long (((bx ((nI (5 * i)) + 4).toNatClampNeg) * mn.toInt64) - (((nI (k + 1)).toInt64) * mtot))), (6, .long (((bx ((nI (5 * i)) + 4).toNatClampNeg) * mn.toInt64) - (((nI (k + 1)).toInt64) * mtot))), (5, .int 1), (4, .int (nI k)), (3, .int (nI (5 * i))), (0, .ref m0)]) hx hb dM_headRoom_165 rfl hl (by decide) rfl (fun ls hl => ?_)
                refine lv_iinc (v := nI (k + 1)) (lv' := [(4, .int (nI (k + 1))), (1, .long (((bx ((nI (5 * i)) + 4).toNatClampNeg) * mn.toInt64) - (((nI (k + 1)).toInt64) * mtot))), (6, .long (((bx ((nI (5 * i)) + 4).toNatClampNeg) * mn.toInt64) - (((nI (k + 1)).toInt64) * mtot))), (5, .int 1), (3, .int (nI (5 * i))), (0, .ref m0)]) hx hb dM_headRoom_166 hl (k := 3) rfl (by rw [nI_succ]; rfl) (by decide) rfl (fun ls hl => ?_)
                refine lv_goto (tgt := 28) hx hb dM_headRoom_169 (by decide) ?_
                exact ih (k + 1) i (((bx ((nI (5 * i)) + 4).toNatClampNeg) * mn.toInt64) - (((nI (k + 1)).toInt64) * mtot)) r9 (by omega) hi (by rw [mhI, if_neg c_4, if_neg c_8, if_neg c_12, if_neg c_16, if_neg c_21] at hR; exact hR) _ _ hP hD hS kont ls (lv_sub hl [0, 4, 1, 5] rfl)
  have outer : ∀ (n : Nat) (i : Nat) (bb : Int64) (hi : n + i = fcm) (hR : mhO (fM_none_c0f0 mcode mtot msz mat mfl mru mpd mk mg mw mn mgp mga mgb (nI fcm)) bx mtot msz mat mfl mru mpd mk mg mw mn mgp mga mgb fcm tr n i bb = mhO (fM_none_c0f0 mcode mtot msz mat mfl mru mpd mk mg mw mn mgp mga mgb (nI fcm)) bx mtot msz mat mfl mru mpd mk mg mw mn mgp mga mgb fcm tr fcm 0 9223372036854775807) (H : Heap) (locs : List Loc) (hP : va_P (dC, dI) vCl [(m0, .inr (6, [.int (fM_none_c0f0 mcode mtot msz mat mfl mru mpd mk mg mw mn mgp mga mgb (nI fcm)), .long mtot, .ref aTy, .int msz, .int mat, .int mfl, .int mru, .ref aTo, .ref aDr, .int (bI mpd), .int mk, .long mg, .long mw, .int mn, .int (bI mgp), .long mga, .long mgb, .int (nI fcm), .ref aBx])), (aBx, .inl (cBx, 40, .inr (.inl bx)))] H) (hD : va_D A [(m0, .inr (6, [.int (fM_none_c0f0 mcode mtot msz mat mfl mru mpd mk mg mw mn mgp mga mgb (nI fcm)), .long mtot, .ref aTy, .int msz, .int mat, .int mfl, .int mru, .ref aTo, .ref aDr, .int (bI mpd), .int mk, .long mg, .long mw, .int mn, .int (bI mgp), .long mga, .long mgb, .int (nI fcm), .ref aBx])), (aBx, .inl (cBx, 40, .inr (.inl bx)))]) (hS : va_S A s.heap H locs) (ls : Array Slot), lv_has ls 8 [(3, .int (nI (5 * i))), (1, .long bb), (0, .ref m0)] → W p l e (headSpec wM_headRoom ({ frames := 3, cells := 0, slots := 0, locals := 69 })).room s m ([.ref m0] : List Value).toArray below meth c H locs 0 0 (MQ below (tq_W (dC, dI) vCl (some (.long (mhO (fM_none_c0f0 mcode mtot msz mat mfl mru mpd mk mg mw mn mgp mga mgb (nI fcm)) bx mtot msz mat mfl mru mpd mk mg mw mn mgp mga mgb fcm tr fcm 0 9223372036854775807))) [(m0, .inr (6, [.int mcode, .long mtot, .ref aTy, .int msz, .int mat, .int mfl, .int mru, .ref aTo, .ref aDr, .int (bI mpd), .int mk, .long mg, .long mw, .int mn, .int (bI mgp), .long mga, .long mgb, .int (nI fcm), .ref aBx])), (aBx, .inl (cBx, 40, .inr (.inl bx)))] [(m0, .inr (6, [.int (fM_none_c0f0 mcode mtot msz mat mfl mru mpd mk mg mw mn mgp mga mgb (nI fcm)), .long mtot, .ref aTy, .int msz, .int mat, .int mfl, .int mru, .ref aTo, .ref aDr, .int (bI mpd), .int mk, .long mg, .long mw, .int mn, .int (bI mgp), .long mga, .long mgb, .int (nI fcm), .ref aBx])), (aBx, .inl (cBx, 40, .inr (.inl bx)))]) ([.ref m0] : List Value).toArray s 0 0 A) (F0 m 15 ls []) := by
    intro n
    induction n with
    | zero =>
      intro i bb hi hR H locs hP hD hS ls hl
      refine lv_iload_n hx hb dM_headRoom_15 rfl (lv_at hl 0 rfl) ?_
      refine lv_iconst (v := 5) hx hb dM_headRoom_16 (by decide) ?_
      refine lv_aload_n hx hb dM_headRoom_17 rfl (lv_at hl 2 rfl) ?_
      refine va_get (D := (dC, dI)) (ci := 6) (v := .int (nI fcm)) (C := RM) (T := TM) (N := 19) hx hb hts inM hown hK hP 0 rfl rfl 17 (by decide) (hts _ gw_591) (fun _ h9 => h9) rfl dM_headRoom_18 ?_
      refine lv_imul hx hb dM_headRoom_21 ?_
      refine lv_icmp_ge (tgt := 178) hx hb dM_headRoom_22 (by decide) (fun c_22 => ?_) (fun c_22 => absurd (by rw [show (5 : Int32) = nI 5 from rfl, pk_mul]; exact nI_le (by omega) (by omega)) c_22)
      refine lv_lload_n hx hb dM_headRoom_178 rfl (lv_at hl 1 rfl) ?_
      exact W.lret (v := bb) hx hb hr (fun t ht hW => ⟨by rw [← hR, mhO], by rw [ht]; exact hP, by rw [hAe]; exact hS.F ht⟩) hS.2.2 dM_headRoom_179
    | succ n ih =>
      intro i bb hi hR H locs hP hD hS ls hl
      refine lv_iload_n hx hb dM_headRoom_15 rfl (lv_at hl 0 rfl) ?_
      refine lv_iconst (v := 5) hx hb dM_headRoom_16 (by decide) ?_
      refine lv_aload_n hx hb dM_headRoom_17 rfl (lv_at hl 2 rfl) ?_
      refine va_get (D := (dC, dI)) (ci := 6) (v := .int (nI fcm)) (C := RM) (T := TM) (N := 19) hx hb hts inM hown hK hP 0 rfl rfl 17 (by decide) (hts _ gw_591) (fun _ h9 => h9) rfl dM_headRoom_18 ?_
      refine lv_imul hx hb dM_headRoom_21 ?_
      refine lv_icmp_ge (tgt := 178) hx hb dM_headRoom_22 (by decide) (fun c_23 => absurd c_23 (by rw [show (5 : Int32) = nI 5 from rfl, pk_mul]; exact nI_ge (by omega) (by omega))) (fun c_23 => ?_)
      refine lv_iconst (v := 0) hx hb dM_headRoom_25 (by decide) ?_
      refine lv_istore (lv' := [(4, .int 0), (3, .int (nI (5 * i))), (1, .long bb), (0, .ref m0)]) hx hb dM_headRoom_26 hl (by decide) rfl (fun ls hl => ?_)
      refine inner tr 0 i bb _ (by omega) (by omega) rfl H locs hP hD hS (fun ls hl => ?_) ls (lv_sub hl [0, 1, 2, 3] rfl)
      refine lv_iinc (v := nI (5 * (i + 1))) (lv' := [(3, .int (nI (5 * (i + 1)))), (1, .long (mhI (fM_none_c0f0 mcode mtot msz mat mfl mru mpd mk mg mw mn mgp mga mgb (nI fcm)) bx mtot msz mat mfl mru mpd mk mg mw mn mgp mga mgb fcm i tr 0 bb)), (0, .ref m0)]) hx hb dM_headRoom_172 hl (k := 0) rfl (by rw [show 5 * (i + 1) = 5 * i + 5 by omega, ← nI_add]; rfl) (by decide) rfl (fun ls hl => ?_)
      refine lv_goto (tgt := 15) hx hb dM_headRoom_175 (by decide) ?_
      exact ih (i + 1) (mhI (fM_none_c0f0 mcode mtot msz mat mfl mru mpd mk mg mw mn mgp mga mgb (nI fcm)) bx mtot msz mat mfl mru mpd mk mg mw mn mgp mga mgb fcm i tr 0 bb) (by omega) (by rw [mhO] at hR; exact hR) _ _ hP hD hS ls (lv_sub hl [0, 1, 2] rfl)
  refine lv_aload_n hx hb dM_headRoom_0 rfl (lv_at hl 0 rfl) ?_
  refine tc_go (st1 := [.int (bI (fM_none mcode mtot msz mat mfl mru mpd mk mg mw mn mgp mga mgb (nI fcm)))]) (ws' := [(m0, .inr (6, [.int (fM_none_c0f0 mcode mtot msz mat mfl mru mpd mk mg mw mn mgp mga mgb (nI fcm)), .long mtot, .ref aTy, .int msz, .int mat, .int mfl, .int mru, .ref aTo, .ref aDr, .int (bI mpd), .int mk, .long mg, .long mw, .int mn, .int (bI mgp), .long mga, .long mgb, .int (nI fcm), .ref aBx])), (aBx, .inl (cBx, 40, .inr (.inl bx)))]) (va_runV (As := []) (rest := []) (C := RM) ⟨hx, hb, hml, hown, hts⟩ (c_M_none l dC dI m0 aTy aTo aDr aBx mcode mtot msz mat mfl mru mpd mk mg mw mn mgp mga mgb (nI fcm)) ⟨cB 0 hts gw_671 gw_7 gw_669 ndM_none rfl rfl ⟨Nat.le_of_ble_eq_true rfl, Nat.le_of_ble_eq_true rfl⟩, hts _ gw_670, hts _ gw_764⟩ (tp_Wv hN hK hP hD [0] [] rfl (by decide) rfl (q0 := 0) (ci := 6) rfl rfl) rfl rfl hl.1 rfl (lv_room (Nat.le_of_ble_eq_true rfl)) dM_headRoom_1 ⟨Nat.le_of_ble_eq_true rfl, Nat.le_of_ble_eq_true rfl⟩) rfl hP hD hS [0] rfl rfl rfl (fun H locs hP hD hS => ?_)
  have hP : va_P (dC, dI) vCl [(m0, .inr (6, [.int (fM_none_c0f0 mcode mtot msz mat mfl mru mpd mk mg mw mn mgp mga mgb (nI fcm)), .long mtot, .ref aTy, .int msz, .int mat, .int mfl, .int mru, .ref aTo, .ref aDr, .int (bI mpd), .int mk, .long mg, .long mw, .int mn, .int (bI mgp), .long mga, .long mgb, .int (nI fcm), .ref aBx])), (aBx, .inl (cBx, 40, .inr (.inl bx)))] H := hP
  have hD : va_D A [(m0, .inr (6, [.int (fM_none_c0f0 mcode mtot msz mat mfl mru mpd mk mg mw mn mgp mga mgb (nI fcm)), .long mtot, .ref aTy, .int msz, .int mat, .int mfl, .int mru, .ref aTo, .ref aDr, .int (bI mpd), .int mk, .long mg, .long mw, .int mn, .int (bI mgp), .long mga, .long mgb, .int (nI fcm), .ref aBx])), (aBx, .inl (cBx, 40, .inr (.inl bx)))] := hD
  refine tb_ifeq (tgt := 9) hx hb dM_headRoom_4 (by decide) (fun c_24 => ?_) (fun c_24 => ?_)
  · skip
    refine lv_ldc2 (v := 9223372036854775807) hx hb hown (hts _ gw_721) dM_headRoom_9 ?_
    refine lv_lstore_n (lv' := [(1, .long 9223372036854775807), (0, .ref m0)]) hx hb dM_headRoom_12 rfl hl (by decide) rfl (fun ls hl => ?_)
    refine lv_iconst (v := 0) hx hb dM_headRoom_13 (by decide) ?_
    refine lv_istore_n (lv' := [(3, .int 0), (1, .long 9223372036854775807), (0, .ref m0)]) hx hb dM_headRoom_14 rfl hl (by decide) rfl (fun ls hl => ?_)
    exact outer fcm 0 9223372036854775807 (by omega) rfl _ _ hP hD hS ls (lv_sub hl [0, 1, 2] rfl)
  · skip
    refine lv_lconst (v := 0) hx hb dM_headRoom_7 (by decide) ?_
    exact absurd (hn0.symm.trans c_24) (by decide)
