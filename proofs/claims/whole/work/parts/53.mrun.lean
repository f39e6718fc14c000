theorem fewN_c2 {k : Int32} (h : k = 2) : fewN k = 4 := by unfold fewN; rw [if_pos h]
theorem fewN_c1 {k : Int32} (h2 : ¬ k = 2) (h : k = 1) : fewN k = 2 := by unfold fewN; rw [if_neg h2, if_pos h]
theorem fewN_c0 {k : Int32} (h2 : ¬ k = 2) (h : ¬ k = 1) : fewN k = 1 := by unfold fewN; rw [if_neg h2, if_neg h]
def mrunC (ru : Nat) (k1 : Int32) (g w : Int64) : Int32 := if nI ru = 0 then 1 else (if fM_isIn k1.toInt64 0 2 = true then (if fM_isIn g 1 10000 = true then (if fM_isIn w 1 10000 = true then 0 else 2) else 2) else 2)
def mrH (to : Nat → Int32) (mtot : Int64) (msz : Int32) (mat : Int32) (mfl : Int32) (mpd : Bool) (mk : Int32) (mg : Int64) (mw : Int64) (mn : Int32) (mgp : Bool) (mga : Int64) (mgb : Int64) (mfc : Int32) (ru : Nat) (g : Int64) (w : Int64) (j : Nat) : Int32 := fM_holding to 0 mtot msz mat mfl mpd mk mg mw mn mgp mga mgb mfc ru g w (nI j)
def mrF (to : Nat → Int32) (mtot : Int64) (msz : Int32) (mat : Int32) (mfl : Int32) (mpd : Bool) (mk : Int32) (mg : Int64) (mw : Int64) (mn : Int32) (mgp : Bool) (mga : Int64) (mgb : Int64) (mfc : Int32) (ru : Nat) (g : Int64) (w : Int64) (fm : Nat) : Nat → Int32 → Int32
  | 0, b => b
  | n + 1, b => if mrH to mtot msz mat mfl mpd mk mg mw mn mgp mga mgb mfc ru g w (fm + (n + 1)) = nI ru then mrF to mtot msz mat mfl mpd mk mg mw mn mgp mga mgb mfc ru g w fm n (nI (fm + (n + 1))) else mrF to mtot msz mat mfl mpd mk mg mw mn mgp mga mgb mfc ru g w fm n b
def mrB (to : Nat → Int32) (mtot : Int64) (msz : Int32) (mat : Int32) (mfl : Int32) (mpd : Bool) (mk : Int32) (mg : Int64) (mw : Int64) (mn : Int32) (mgp : Bool) (mga : Int64) (mgb : Int64) (mfc : Int32) (ru : Nat) (g : Int64) (w : Int64) (fm : Nat) : Nat → Int32 → Int32
  | 0, b => b
  | n + 1, b => if mrH to mtot msz mat mfl mpd mk mg mw mn mgp mga mgb mfc ru g w (fm + (n + 1)) ≤ b then mrB to mtot msz mat mfl mpd mk mg mw mn mgp mga mgb mfc ru g w fm n b else mrB to mtot msz mat mfl mpd mk mg mw mn mgp mga mgb mfc ru g w fm n (mrH to mtot msz mat mfl mpd mk mg mw mn mgp mga mgb mfc ru g w (fm + (n + 1)))


set_option maxHeartbeats 4000000 in
set_option maxRecDepth 100000 in
theorem c_M_run_err (l : Launch) (dC : Nat → ClassId) (dI : Nat → Nat → Nat) (m0 : Nat) (aTy : Nat) (aTo : Nat) (aDr : Nat) (aBx : Nat) (cTo : ClassId) (to : Nat → Int32) (mcode : Int32) (mtot : Int64) (msz : Int32) (mat : Int32) (mfl : Int32) (mpd : Bool) (mk : Int32) (mg : Int64) (mw : Int64) (mn : Int32) (mgp : Bool) (mga : Int64) (mgb : Int64) (mfc : Int32) (ru : Nat) (k1 : Int32) (g : Int64) (w : Int64) (hru : ru ≤ 8) (he : ¬ mrunC ru k1 g w = 0) : Met l mM_run wM_run ({ frames := 1, cells := 0, slots := 0, locals := 25 }) (tp_W (dC, dI) vCl [.ref m0, .int k1, .long g, .long w] [(m0, .inr (6, [.int mcode, .long mtot, .ref aTy, .int msz, .int mat, .int mfl, .int (nI ru), .ref aTo, .ref aDr, .int (bI mpd), .int mk, .long mg, .long mw, .int mn, .int (bI mgp), .long mga, .long mgb, .int mfc, .ref aBx])), (aTo, .inl (cTo, 56, .inl to))] [(cTo, .int)]) (tq_W (dC, dI) vCl (some (.int 0)) [(m0, .inr (6, [.int mcode, .long mtot, .ref aTy, .int msz, .int mat, .int mfl, .int (nI ru), .ref aTo, .ref aDr, .int (bI mpd), .int mk, .long mg, .long mw, .int mn, .int (bI mgp), .long mga, .long mgb, .int mfc, .ref aBx])), (aTo, .inl (cTo, 56, .inl to))] [(m0, .inr (6, [.int (mrunC ru k1 g w), .long mtot, .ref aTy, .int msz, .int mat, .int mfl, .int (nI ru), .ref aTo, .ref aDr, .int (bI mpd), .int mk, .long mg, .long mw, .int mn, .int (bI mgp), .long mga, .long mgb, .int mfc, .ref aBx])), (aTo, .inl (cTo, 56, .inl to))]) 0 0 (tA [(m0, .inr (6, [.int mcode, .long mtot, .ref aTy, .int msz, .int mat, .int mfl, .int (nI ru), .ref aTo, .ref aDr, .int (bI mpd), .int mk, .long mg, .long mw, .int mn, .int (bI mgp), .long mga, .long mgb, .int mfc, .ref aBx])), (aTo, .inl (cTo, 56, .inl to))]) := by
  refine Met.ofW (cc := bM_run) (maxL := 10) (ret := (some .int)) (by decide) rfl ?_
  intro p e s m args below meth c s₁ B hml hv
  obtain ⟨rfl, hP, hK, hN, hD0⟩ := hv
  have hx := B.exec
  have hb := B.bytes
  have hr := B.returns
  have hts : ∀ w ∈ gT, w.before _ s = true := fun w h => atoms_spec (ws := wM_run) B.pre w (List.mem_cons_of_mem _ h)
  have hown : s.vm.findClass RM = some m.cls := findClass_of_methodNamed B.named
  have hlocks := B.notSynchronized
  have hD := tA_D hD0
  generalize hAe : tA [(m0, .inr (6, [.int mcode, .long mtot, .ref aTy, .int msz, .int mat, .int mfl, .int (nI ru), .ref aTo, .ref aDr, .int (bI mpd), .int mk, .long mg, .long mw, .int mn, .int (bI mgp), .long mga, .long mgb, .int mfc, .ref aBx])), (aTo, .inl (cTo, 56, .inl to))] = A at hD ⊢
  have hS : va_S A s.heap s.heap [] := va_S.rf
  have hP : va_P (dC, dI) vCl [(m0, .inr (6, [.int mcode, .long mtot, .ref aTy, .int msz, .int mat, .int mfl, .int (nI ru), .ref aTo, .ref aDr, .int (bI mpd), .int mk, .long mg, .long mw, .int mn, .int (bI mgp), .long mga, .long mgb, .int mfc, .ref aBx])), (aTo, .inl (cTo, 56, .inl to))] s.heap := hP
  have hl := lv_entry ([.ref m0, .int k1, .long g, .long w]) (n := 10) (Nat.le_of_ble_eq_true rfl)
  rw [lg_entry_eq]
  generalize (lg_sl ([.ref m0, .int k1, .long g, .long w]) ++ List.replicate (10 - (lg_sl ([.ref m0, .int k1, .long g, .long w])).length) Slot.unset).toArray = ls at hl ⊢
  have hl : lv_has ls 10 [(0, .ref m0), (1, .int k1), (2, .long g), (4, .long w)] := hl
  refine lv_aload_n hx hb dM_run_0 rfl (lv_at hl 0 rfl) ?_
  refine lv_aload_n hx hb dM_run_1 rfl (lv_at hl 0 rfl) ?_
  refine va_get (D := (dC, dI)) (ci := 6) (v := .int (nI ru)) (C := RM) (T := TM) (N := 19) hx hb hts inM hown hK hP 0 rfl rfl 6 (by decide) (hts _ gw_580) (fun _ h9 => h9) rfl dM_run_2 ?_
  refine lv_if_ne (tgt := 12) hx hb dM_run_5 (by decide) (fun c_1 => ?_) (fun c_1 => ?_)
  · skip
    refine lv_iload_n hx hb dM_run_12 rfl (lv_at hl 1 rfl) ?_
    refine lv_i2l (v := k1.toInt64) hx hb dM_run_13 rfl ?_
    refine lv_lconst (v := 0) hx hb dM_run_14 (by decide) ?_
    refine lv_ldc2 (v := 2) hx hb hown (hts _ gw_657) dM_run_15 ?_
    refine tr_go (st1 := [.int (bI (fM_isIn k1.toInt64 0 2)), .ref m0]) (va_runS (As := [.long k1.toInt64, .long 0, .long 2]) (rest := [.ref m0]) ⟨hx, hb, hml, hown, hts⟩ (c_M_isIn l dC dI k1.toInt64 0 2) ⟨cB 3 hts gw_623 gw_7 gw_621 ndM_isIn rfl rfl ⟨Nat.le_of_ble_eq_true rfl, Nat.le_of_ble_eq_true rfl⟩, hts _ gw_622⟩ (tp_Rs hN hK hP [] [] rfl rfl) rfl rfl hl.1 rfl (lv_room (Nat.le_of_ble_eq_true rfl)) dM_run_18 ⟨Nat.le_of_ble_eq_true rfl, Nat.le_of_ble_eq_true rfl⟩) rfl ?_
    refine tb_ifeq (tgt := 51) hx hb dM_run_21 (by decide) (fun c_2 => ?_) (fun c_2 => ?_)
    · skip
      refine lv_iconst (v := 2) hx hb dM_run_51 (by decide) ?_
      refine va_put (D := (dC, dI)) (ci := 6) (v := .int 2) (ty := .int) (C := RM) (T := TM) (N := 19) hx hb hts inM yM yoM noM hown hK hP hD hS 0 rfl rfl 0 (by decide) (hts _ gw_574) (fun _ h9 => h9) rfl (by decide +kernel) rfl rfl (Nat.le_of_ble_eq_true rfl) dM_run_52 (fun H locs hP hD hS => ?_)
      have hP : va_P (dC, dI) vCl [(m0, .inr (6, [.int 2, .long mtot, .ref aTy, .int msz, .int mat, .int mfl, .int (nI ru), .ref aTo, .ref aDr, .int (bI mpd), .int mk, .long mg, .long mw, .int mn, .int (bI mgp), .long mga, .long mgb, .int mfc, .ref aBx])), (aTo, .inl (cTo, 56, .inl to))] H := hP
      have hD : va_D A [(m0, .inr (6, [.int 2, .long mtot, .ref aTy, .int msz, .int mat, .int mfl, .int (nI ru), .ref aTo, .ref aDr, .int (bI mpd), .int mk, .long mg, .long mw, .int mn, .int (bI mgp), .long mga, .long mgb, .int mfc, .ref aBx])), (aTo, .inl (cTo, 56, .inl to))] := hD
      refine lv_aload_n hx hb dM_run_55 rfl (lv_at hl 0 rfl) ?_
      refine va_get (D := (dC, dI)) (ci := 6) (v := .int 2) (C := RM) (T := TM) (N := 19) hx hb hts inM hown hK hP 0 rfl rfl 0 (by decide) (hts _ gw_574) (fun _ h9 => h9) rfl dM_run_56 ?_
      refine lv_if_le (tgt := 64) hx hb dM_run_59 (by decide) (fun c_3 => absurd c_3 (by decide)) (fun c_3 => ?_)
      refine lv_iconst (v := 0) hx hb dM_run_62 (by decide) ?_
      exact W.iret (v := 0) hx hb hr (fun t ht hW => ⟨rfl, by rw [ht, show mrunC ru k1 g w = 2 from by unfold mrunC; rw [if_neg c_1, if_neg (Bool.eq_false_iff.mp c_2)]]; exact hP, by rw [hAe]; exact hS.F ht⟩) hS.2.2 dM_run_63
    · skip
      refine lv_lload_n hx hb dM_run_24 rfl (lv_at hl 2 rfl) ?_
      refine lv_lconst (v := 1) hx hb dM_run_25 (by decide) ?_
      refine lv_ldc2 (v := 10000) hx hb hown (hts _ gw_658) dM_run_26 ?_
      refine tr_go (st1 := [.int (bI (fM_isIn g 1 10000)), .ref m0]) (va_runS (As := [.long g, .long 1, .long 10000]) (rest := [.ref m0]) ⟨hx, hb, hml, hown, hts⟩ (c_M_isIn l dC dI g 1 10000) ⟨cB 3 hts gw_623 gw_7 gw_621 ndM_isIn rfl rfl ⟨Nat.le_of_ble_eq_true rfl, Nat.le_of_ble_eq_true rfl⟩, hts _ gw_622⟩ (tp_Rs hN hK hP [] [] rfl rfl) rfl rfl hl.1 rfl (lv_room (Nat.le_of_ble_eq_true rfl)) dM_run_29 ⟨Nat.le_of_ble_eq_true rfl, Nat.le_of_ble_eq_true rfl⟩) rfl ?_
      refine tb_ifeq (tgt := 51) hx hb dM_run_32 (by decide) (fun c_4 => ?_) (fun c_4 => ?_)
      · skip
        refine lv_iconst (v := 2) hx hb dM_run_51 (by decide) ?_
        refine va_put (D := (dC, dI)) (ci := 6) (v := .int 2) (ty := .int) (C := RM) (T := TM) (N := 19) hx hb hts inM yM yoM noM hown hK hP hD hS 0 rfl rfl 0 (by decide) (hts _ gw_574) (fun _ h9 => h9) rfl (by decide +kernel) rfl rfl (Nat.le_of_ble_eq_true rfl) dM_run_52 (fun H locs hP hD hS => ?_)
        have hP : va_P (dC, dI) vCl [(m0, .inr (6, [.int 2, .long mtot, .ref aTy, .int msz, .int mat, .int mfl, .int (nI ru), .ref aTo, .ref aDr, .int (bI mpd), .int mk, .long mg, .long mw, .int mn, .int (bI mgp), .long mga, .long mgb, .int mfc, .ref aBx])), (aTo, .inl (cTo, 56, .inl to))] H := hP
        have hD : va_D A [(m0, .inr (6, [.int 2, .long mtot, .ref aTy, .int msz, .int mat, .int mfl, .int (nI ru), .ref aTo, .ref aDr, .int (bI mpd), .int mk, .long mg, .long mw, .int mn, .int (bI mgp), .long mga, .long mgb, .int mfc, .ref aBx])), (aTo, .inl (cTo, 56, .inl to))] := hD
        refine lv_aload_n hx hb dM_run_55 rfl (lv_at hl 0 rfl) ?_
        refine va_get (D := (dC, dI)) (ci := 6) (v := .int 2) (C := RM) (T := TM) (N := 19) hx hb hts inM hown hK hP 0 rfl rfl 0 (by decide) (hts _ gw_574) (fun _ h9 => h9) rfl dM_run_56 ?_
        refine lv_if_le (tgt := 64) hx hb dM_run_59 (by decide) (fun c_5 => absurd c_5 (by decide)) (fun c_5 => ?_)
        refine lv_iconst (v := 0) hx hb dM_run_62 (by decide) ?_
        exact W.iret (v := 0) hx hb hr (fun t ht hW => ⟨rfl, by rw [ht, show mrunC ru k1 g w = 2 from by unfold mrunC; rw [if_neg c_1, if_pos c_2, if_neg (Bool.eq_false_iff.mp c_4)]]; exact hP, by rw [hAe]; exact hS.F ht⟩) hS.2.2 dM_run_63
      · skip
        refine lv_lload hx hb dM_run_35 (lv_at hl 3 rfl) ?_
        refine lv_lconst (v := 1) hx hb dM_run_37 (by decide) ?_
        refine lv_ldc2 (v := 10000) hx hb hown (hts _ gw_658) dM_run_38 ?_
        refine tr_go (st1 := [.int (bI (fM_isIn w 1 10000)), .ref m0]) (va_runS (As := [.long w, .long 1, .long 10000]) (rest := [.ref m0]) ⟨hx, hb, hml, hown, hts⟩ (c_M_isIn l dC dI w 1 10000) ⟨cB 3 hts gw_623 gw_7 gw_621 ndM_isIn rfl rfl ⟨Nat.le_of_ble_eq_true rfl, Nat.le_of_ble_eq_true rfl⟩, hts _ gw_622⟩ (tp_Rs hN hK hP [] [] rfl rfl) rfl rfl hl.1 rfl (lv_room (Nat.le_of_ble_eq_true rfl)) dM_run_41 ⟨Nat.le_of_ble_eq_true rfl, Nat.le_of_ble_eq_true rfl⟩) rfl ?_
        refine tb_ifeq (tgt := 51) hx hb dM_run_44 (by decide) (fun c_6 => ?_) (fun c_6 => ?_)
        · skip
          refine lv_iconst (v := 2) hx hb dM_run_51 (by decide) ?_
          refine va_put (D := (dC, dI)) (ci := 6) (v := .int 2) (ty := .int) (C := RM) (T := TM) (N := 19) hx hb hts inM yM yoM noM hown hK hP hD hS 0 rfl rfl 0 (by decide) (hts _ gw_574) (fun _ h9 => h9) rfl (by decide +kernel) rfl rfl (Nat.le_of_ble_eq_true rfl) dM_run_52 (fun H locs hP hD hS => ?_)
          have hP : va_P (dC, dI) vCl [(m0, .inr (6, [.int 2, .long mtot, .ref aTy, .int msz, .int mat, .int mfl, .int (nI ru), .ref aTo, .ref aDr, .int (bI mpd), .int mk, .long mg, .long mw, .int mn, .int (bI mgp), .long mga, .long mgb, .int mfc, .ref aBx])), (aTo, .inl (cTo, 56, .inl to))] H := hP
          have hD : va_D A [(m0, .inr (6, [.int 2, .long mtot, .ref aTy, .int msz, .int mat, .int mfl, .int (nI ru), .ref aTo, .ref aDr, .int (bI mpd), .int mk, .long mg, .long mw, .int mn, .int (bI mgp), .long mga, .long mgb, .int mfc, .ref aBx])), (aTo, .inl (cTo, 56, .inl to))] := hD
          refine lv_aload_n hx hb dM_run_55 rfl (lv_at hl 0 rfl) ?_
          refine va_get (D := (dC, dI)) (ci := 6) (v := .int 2) (C := RM) (T := TM) (N := 19) hx hb hts inM hown hK hP 0 rfl rfl 0 (by decide) (hts _ gw_574) (fun _ h9 => h9) rfl dM_run_56 ?_
          refine lv_if_le (tgt := 64) hx hb dM_run_59 (by decide) (fun c_7 => absurd c_7 (by decide)) (fun c_7 => ?_)
          refine lv_iconst (v := 0) hx hb dM_run_62 (by decide) ?_
          exact W.iret (v := 0) hx hb hr (fun t ht hW => ⟨rfl, by rw [ht, show mrunC ru k1 g w = 2 from by unfold mrunC; rw [if_neg c_1, if_pos c_2, if_pos c_4, if_neg (Bool.eq_false_iff.mp c_6)]]; exact hP, by rw [hAe]; exact hS.F ht⟩) hS.2.2 dM_run_63
        · skip
          refine lv_iconst (v := 0) hx hb dM_run_47 (by decide) ?_
          refine lv_goto (tgt := 52) hx hb dM_run_48 (by decide) ?_
          refine va_put (D := (dC, dI)) (ci := 6) (v := .int 0) (ty := .int) (C := RM) (T := TM) (N := 19) hx hb hts inM yM yoM noM hown hK hP hD hS 0 rfl rfl 0 (by decide) (hts _ gw_574) (fun _ h9 => h9) rfl (by decide +kernel) rfl rfl (Nat.le_of_ble_eq_true rfl) dM_run_52 (fun H locs hP hD hS => ?_)
          have hP : va_P (dC, dI) vCl [(m0, .inr (6, [.int 0, .long mtot, .ref aTy, .int msz, .int mat, .int mfl, .int (nI ru), .ref aTo, .ref aDr, .int (bI mpd), .int mk, .long mg, .long mw, .int mn, .int (bI mgp), .long mga, .long mgb, .int mfc, .ref aBx])), (aTo, .inl (cTo, 56, .inl to))] H := hP
          have hD : va_D A [(m0, .inr (6, [.int 0, .long mtot, .ref aTy, .int msz, .int mat, .int mfl, .int (nI ru), .ref aTo, .ref aDr, .int (bI mpd), .int mk, .long mg, .long mw, .int mn, .int (bI mgp), .long mga, .long mgb, .int mfc, .ref aBx])), (aTo, .inl (cTo, 56, .inl to))] := hD
          refine lv_aload_n hx hb dM_run_55 rfl (lv_at hl 0 rfl) ?_
          refine va_get (D := (dC, dI)) (ci := 6) (v := .int 0) (C := RM) (T := TM) (N := 19) hx hb hts inM hown hK hP 0 rfl rfl 0 (by decide) (hts _ gw_574) (fun _ h9 => h9) rfl dM_run_56 ?_
          refine lv_if_le (tgt := 64) hx hb dM_run_59 (by decide) (fun c_8 => ?_) (fun c_8 => absurd (by decide) c_8)
          exact absurd (show mrunC ru k1 g w = 0 from by unfold mrunC; rw [if_neg c_1, if_pos c_2, if_pos c_4, if_pos c_6]) he
  · skip
    refine lv_iconst (v := 1) hx hb dM_run_8 (by decide) ?_
    refine lv_goto (tgt := 52) hx hb dM_run_9 (by decide) ?_
    refine va_put (D := (dC, dI)) (ci := 6) (v := .int 1) (ty := .int) (C := RM) (T := TM) (N := 19) hx hb hts inM yM yoM noM hown hK hP hD hS 0 rfl rfl 0 (by decide) (hts _ gw_574) (fun _ h9 => h9) rfl (by decide +kernel) rfl rfl (Nat.le_of_ble_eq_true rfl) dM_run_52 (fun H locs hP hD hS => ?_)
    have hP : va_P (dC, dI) vCl [(m0, .inr (6, [.int 1, .long mtot, .ref aTy, .int msz, .int mat, .int mfl, .int (nI ru), .ref aTo, .ref aDr, .int (bI mpd), .int mk, .long mg, .long mw, .int mn, .int (bI mgp), .long mga, .long mgb, .int mfc, .ref aBx])), (aTo, .inl (cTo, 56, .inl to))] H := hP
    have hD : va_D A [(m0, .inr (6, [.int 1, .long mtot, .ref aTy, .int msz, .int mat, .int mfl, .int (nI ru), .ref aTo, .ref aDr, .int (bI mpd), .int mk, .long mg, .long mw, .int mn, .int (bI mgp), .long mga, .long mgb, .int mfc, .ref aBx])), (aTo, .inl (cTo, 56, .inl to))] := hD
    refine lv_aload_n hx hb dM_run_55 rfl (lv_at hl 0 rfl) ?_
    refine va_get (D := (dC, dI)) (ci := 6) (v := .int 1) (C := RM) (T := TM) (N := 19) hx hb hts inM hown hK hP 0 rfl rfl 0 (by decide) (hts _ gw_574) (fun _ h9 => h9) rfl dM_run_56 ?_
    refine lv_if_le (tgt := 64) hx hb dM_run_59 (by decide) (fun c_9 => absurd c_9 (by decide)) (fun c_9 => ?_)
    refine lv_iconst (v := 0) hx hb dM_run_62 (by decide) ?_
    exact W.iret (v := 0) hx hb hr (fun t ht hW => ⟨rfl, by rw [ht, show mrunC ru k1 g w = 1 from by unfold mrunC; rw [if_pos c_1]]; exact hP, by rw [hAe]; exact hS.F ht⟩) hS.2.2 dM_run_63

theorem fewN_p (k : Int32) : 1 ≤ fewN k := by unfold fewN; split; decide; split <;> decide


set_option maxHeartbeats 4000000 in
set_option maxRecDepth 100000 in
theorem c_M_run (l : Launch) (dC : Nat → ClassId) (dI : Nat → Nat → Nat) (m0 : Nat) (aTy : Nat) (aTo : Nat) (aDr : Nat) (aBx : Nat) (cTo : ClassId) (to : Nat → Int32) (mcode : Int32) (mtot : Int64) (msz : Int32) (mat : Int32) (mfl : Int32) (mpd : Bool) (mk : Int32) (mg : Int64) (mw : Int64) (mn : Int32) (mgp : Bool) (mga : Int64) (mgb : Int64) (mfc : Int32) (ru : Nat) (k1 : Int32) (g : Int64) (w : Int64) (hru : ru ≤ 8) (he : mrunC ru k1 g w = 0) (hfd : ¬ mrF to mtot msz mat mfl mpd mk mg mw mn mgp mga mgb mfc ru g w (fewN k1 - 1) (61 - fewN k1) (-1) ≤ 0) : Met l mM_run wM_run ({ frames := 2, cells := 0, slots := 0, locals := 57 }) (tp_W (dC, dI) vCl [.ref m0, .int k1, .long g, .long w] [(m0, .inr (6, [.int mcode, .long mtot, .ref aTy, .int msz, .int mat, .int mfl, .int (nI ru), .ref aTo, .ref aDr, .int (bI mpd), .int mk, .long mg, .long mw, .int mn, .int (bI mgp), .long mga, .long mgb, .int mfc, .ref aBx])), (aTo, .inl (cTo, 56, .inl to))] [(cTo, .int)]) (tq_W (dC, dI) vCl (some (.int (mrF to mtot msz mat mfl mpd mk mg mw mn mgp mga mgb mfc ru g w (fewN k1 - 1) (61 - fewN k1) (-1)))) [(m0, .inr (6, [.int mcode, .long mtot, .ref aTy, .int msz, .int mat, .int mfl, .int (nI ru), .ref aTo, .ref aDr, .int (bI mpd), .int mk, .long mg, .long mw, .int mn, .int (bI mgp), .long mga, .long mgb, .int mfc, .ref aBx])), (aTo, .inl (cTo, 56, .inl to))] [(m0, .inr (6, [.int 0, .long mtot, .ref aTy, .int msz, .int mat, .int mfl, .int (nI ru), .ref aTo, .ref aDr, .int (bI true), .int k1, .long g, .long w, .int (mrF to mtot msz mat mfl mpd mk mg mw mn mgp mga mgb mfc ru g w (fewN k1 - 1) (61 - fewN k1) (-1)), .int (bI false), .long mga, .long mgb, .int mfc, .ref aBx])), (aTo, .inl (cTo, 56, .inl to))]) 0 0 (tA [(m0, .inr (6, [.int mcode, .long mtot, .ref aTy, .int msz, .int mat, .int mfl, .int (nI ru), .ref aTo, .ref aDr, .int (bI mpd), .int mk, .long mg, .long mw, .int mn, .int (bI mgp), .long mga, .long mgb, .int mfc, .ref aBx])), (aTo, .inl (cTo, 56, .inl to))]) := by
  refine Met.ofW (cc := bM_run) (maxL := 10) (ret := (some .int)) (by decide) rfl ?_
  intro p e s m args below meth c s₁ B hml hv
  obtain ⟨rfl, hP, hK, hN, hD0⟩ := hv
  have hx := B.exec
  have hb := B.bytes
  have hr := B.returns
  have hts : ∀ w ∈ gT, w.before _ s = true := fun w h => atoms_spec (ws := wM_run) B.pre w (List.mem_cons_of_mem _ h)
  have hown : s.vm.findClass RM = some m.cls := findClass_of_methodNamed B.named
  have hlocks := B.notSynchronized
  have hD := tA_D hD0
  generalize hAe : tA [(m0, .inr (6, [.int mcode, .long mtot, .ref aTy, .int msz, .int mat, .int mfl, .int (nI ru), .ref aTo, .ref aDr, .int (bI mpd), .int mk, .long mg, .long mw, .int mn, .int (bI mgp), .long mga, .long mgb, .int mfc, .ref aBx])), (aTo, .inl (cTo, 56, .inl to))] = A at hD ⊢
  have hS : va_S A s.heap s.heap [] := va_S.rf
  have hP : va_P (dC, dI) vCl [(m0, .inr (6, [.int mcode, .long mtot, .ref aTy, .int msz, .int mat, .int mfl, .int (nI ru), .ref aTo, .ref aDr, .int (bI mpd), .int mk, .long mg, .long mw, .int mn, .int (bI mgp), .long mga, .long mgb, .int mfc, .ref aBx])), (aTo, .inl (cTo, 56, .inl to))] s.heap := hP
  have hl := lv_entry ([.ref m0, .int k1, .long g, .long w]) (n := 10) (Nat.le_of_ble_eq_true rfl)
  rw [lg_entry_eq]
  generalize (lg_sl ([.ref m0, .int k1, .long g, .long w]) ++ List.replicate (10 - (lg_sl ([.ref m0, .int k1, .long g, .long w])).length) Slot.unset).toArray = ls at hl ⊢
  have hl : lv_has ls 10 [(0, .ref m0), (1, .int k1), (2, .long g), (4, .long w)] := hl
  have loop : ∀ (n : Nat) (fm : Nat) (mh : Int32) (fd : Int32) (hfm : fm + 1 = fewN k1) (hb9 : fm + n ≤ 60) (hF : mrF to mtot msz mat mfl mpd mk mg mw mn mgp mga mgb mfc ru g w fm n fd = mrF to mtot msz mat mfl mpd mk mg mw mn mgp mga mgb mfc ru g w (fewN k1 - 1) (61 - fewN k1) (-1)) (hB : mrB to mtot msz mat mfl mpd mk mg mw mn mgp mga mgb mfc ru g w fm n mh = mrB to mtot msz mat mfl mpd mk mg mw mn mgp mga mgb mfc ru g w (fewN k1 - 1) (61 - fewN k1) 0) (H : Heap) (locs : List Loc) (hP : va_P (dC, dI) vCl [(m0, .inr (6, [.int 0, .long mtot, .ref aTy, .int msz, .int mat, .int mfl, .int (nI ru), .ref aTo, .ref aDr, .int (bI mpd), .int mk, .long mg, .long mw, .int mn, .int (bI mgp), .long mga, .long mgb, .int mfc, .ref aBx])), (aTo, .inl (cTo, 56, .inl to))] H) (hD : va_D A [(m0, .inr (6, [.int 0, .long mtot, .ref aTy, .int msz, .int mat, .int mfl, .int (nI ru), .ref aTo, .ref aDr, .int (bI mpd), .int mk, .long mg, .long mw, .int mn, .int (bI mgp), .long mga, .long mgb, .int mfc, .ref aBx])), (aTo, .inl (cTo, 56, .inl to))]) (hS : va_S A s.heap H locs) (ls : Array Slot), lv_has ls 10 [(8, .int (nI (fm + n))), (7, .int fd), (6, .int mh), (4, .long w), (2, .long g), (1, .int k1), (0, .ref m0)] → W p l e (headSpec wM_run ({ frames := 2, cells := 0, slots := 0, locals := 57 })).room s m ([.ref m0, .int k1, .long g, .long w] : List Value).toArray below meth c H locs 0 0 (MQ below (tq_W (dC, dI) vCl (some (.int (mrF to mtot msz mat mfl mpd mk mg mw mn mgp mga mgb mfc ru g w (fewN k1 - 1) (61 - fewN k1) (-1)))) [(m0, .inr (6, [.int mcode, .long mtot, .ref aTy, .int msz, .int mat, .int mfl, .int (nI ru), .ref aTo, .ref aDr, .int (bI mpd), .int mk, .long mg, .long mw, .int mn, .int (bI mgp), .long mga, .long mgb, .int mfc, .ref aBx])), (aTo, .inl (cTo, 56, .inl to))] [(m0, .inr (6, [.int 0, .long mtot, .ref aTy, .int msz, .int mat, .int mfl, .int (nI ru), .ref aTo, .ref aDr, .int (bI true), .int k1, .long g, .long w, .int (mrF to mtot msz mat mfl mpd mk mg mw mn mgp mga mgb mfc ru g w (fewN k1 - 1) (61 - fewN k1) (-1)), .int (bI false), .long mga, .long mgb, .int mfc, .ref aBx])), (aTo, .inl (cTo, 56, .inl to))]) ([.ref m0, .int k1, .long g, .long w] : List Value).toArray s 0 0 A) (F0 m 74 ls []) := by
    intro n
    induction n with
    | zero =>
      intro fm mh fd hfm hb9 hF hB H locs hP hD hS ls hl
      refine lv_iload hx hb dM_run_74 (lv_at hl 0 rfl) ?_
      refine lv_iload_n hx hb dM_run_76 rfl (lv_at hl 5 rfl) ?_
      refine lv_iconst (v := 2) hx hb dM_run_77 (by decide) ?_
      refine lv_icmp_ne (tgt := 85) hx hb dM_run_78 (by decide) (fun c_1 => ?_) (fun c_1 => ?_)
      · skip
        refine lv_iload_n hx hb dM_run_85 rfl (lv_at hl 5 rfl) ?_
        refine lv_iconst (v := 1) hx hb dM_run_86 (by decide) ?_
        refine lv_icmp_ne (tgt := 94) hx hb dM_run_87 (by decide) (fun c_2 => ?_) (fun c_2 => ?_)
        · skip
          refine lv_iconst (v := 1) hx hb dM_run_94 (by decide) ?_
          refine lv_icmp_lt (tgt := 149) hx hb dM_run_95 (by decide) (fun c_3 => ?_) (fun c_3 => absurd (by have e9 := fewN_c0 c_1 c_2; exact (nI_lt (by omega) (by decide) : nI (fm + 0) < nI 1)) c_3)
          refine lv_aload_n hx hb dM_run_149 rfl (lv_at hl 6 rfl) ?_
          refine lv_iload hx hb dM_run_150 (lv_at hl 1 rfl) ?_
          refine lv_if_le (tgt := 159) hx hb dM_run_152 (by decide) (fun c_4 => ?_) (fun c_4 => ?_)
          · skip
            refine lv_iconst (v := 0) hx hb dM_run_159 (by decide) ?_
            refine va_put (D := (dC, dI)) (ci := 6) (v := .int 0) (ty := .boolean) (C := RM) (T := TM) (N := 19) hx hb hts inM yM yoM noM hown hK hP hD hS 0 rfl rfl 9 (by decide) (hts _ gw_583) (fun _ h9 => h9) rfl (by decide +kernel) rfl rfl (Nat.le_of_ble_eq_true rfl) dM_run_160 (fun H locs hP hD hS => ?_)
            have hP : va_P (dC, dI) vCl [(m0, .inr (6, [.int 0, .long mtot, .ref aTy, .int msz, .int mat, .int mfl, .int (nI ru), .ref aTo, .ref aDr, .int 0, .int mk, .long mg, .long mw, .int mn, .int (bI mgp), .long mga, .long mgb, .int mfc, .ref aBx])), (aTo, .inl (cTo, 56, .inl to))] H := hP
            have hD : va_D A [(m0, .inr (6, [.int 0, .long mtot, .ref aTy, .int msz, .int mat, .int mfl, .int (nI ru), .ref aTo, .ref aDr, .int 0, .int mk, .long mg, .long mw, .int mn, .int (bI mgp), .long mga, .long mgb, .int mfc, .ref aBx])), (aTo, .inl (cTo, 56, .inl to))] := hD
            refine lv_aload_n hx hb dM_run_163 rfl (lv_at hl 6 rfl) ?_
            refine va_get (D := (dC, dI)) (ci := 6) (v := .int 0) (C := RM) (T := TM) (N := 19) hx hb hts inM hown hK hP 0 rfl rfl 9 (by decide) (hts _ gw_583) (fun _ h9 => h9) rfl dM_run_164 ?_
            refine lv_if_ne (tgt := 175) hx hb dM_run_167 (by decide) (fun c_5 => absurd (by decide) c_5) (fun c_5 => ?_)
            refine lv_iconst (v := (-1)) hx hb dM_run_170 (by decide) ?_
            refine lv_iload hx hb dM_run_171 (lv_at hl 2 rfl) ?_
            refine lv_isub hx hb dM_run_173 ?_
            have ef : fd = mrF to mtot msz mat mfl mpd mk mg mw mn mgp mga mgb mfc ru g w (fewN k1 - 1) (61 - fewN k1) (-1) := hF
            have eb : mh = mrB to mtot msz mat mfl mpd mk mg mw mn mgp mga mgb mfc ru g w (fewN k1 - 1) (61 - fewN k1) 0 := hB
            exact absurd (ef ▸ c_4) hfd
          · skip
            refine lv_iconst (v := 1) hx hb dM_run_155 (by decide) ?_
            refine lv_goto (tgt := 160) hx hb dM_run_156 (by decide) ?_
            refine va_put (D := (dC, dI)) (ci := 6) (v := .int 1) (ty := .boolean) (C := RM) (T := TM) (N := 19) hx hb hts inM yM yoM noM hown hK hP hD hS 0 rfl rfl 9 (by decide) (hts _ gw_583) (fun _ h9 => h9) rfl (by decide +kernel) rfl rfl (Nat.le_of_ble_eq_true rfl) dM_run_160 (fun H locs hP hD hS => ?_)
            have hP : va_P (dC, dI) vCl [(m0, .inr (6, [.int 0, .long mtot, .ref aTy, .int msz, .int mat, .int mfl, .int (nI ru), .ref aTo, .ref aDr, .int 1, .int mk, .long mg, .long mw, .int mn, .int (bI mgp), .long mga, .long mgb, .int mfc, .ref aBx])), (aTo, .inl (cTo, 56, .inl to))] H := hP
            have hD : va_D A [(m0, .inr (6, [.int 0, .long mtot, .ref aTy, .int msz, .int mat, .int mfl, .int (nI ru), .ref aTo, .ref aDr, .int 1, .int mk, .long mg, .long mw, .int mn, .int (bI mgp), .long mga, .long mgb, .int mfc, .ref aBx])), (aTo, .inl (cTo, 56, .inl to))] := hD
            refine lv_aload_n hx hb dM_run_163 rfl (lv_at hl 6 rfl) ?_
            refine va_get (D := (dC, dI)) (ci := 6) (v := .int 1) (C := RM) (T := TM) (N := 19) hx hb hts inM hown hK hP 0 rfl rfl 9 (by decide) (hts _ gw_583) (fun _ h9 => h9) rfl dM_run_164 ?_
            refine lv_if_ne (tgt := 175) hx hb dM_run_167 (by decide) (fun c_6 => ?_) (fun c_6 => absurd c_6 (by decide))
            refine lv_aload_n hx hb dM_run_175 rfl (lv_at hl 6 rfl) ?_
            refine lv_iload_n hx hb dM_run_176 rfl (lv_at hl 5 rfl) ?_
            refine va_put (D := (dC, dI)) (ci := 6) (v := .int k1) (ty := .int) (C := RM) (T := TM) (N := 19) hx hb hts inM yM yoM noM hown hK hP hD hS 0 rfl rfl 10 (by decide) (hts _ gw_584) (fun _ h9 => h9) rfl (by decide +kernel) rfl rfl (Nat.le_of_ble_eq_true rfl) dM_run_177 (fun H locs hP hD hS => ?_)
            have hP : va_P (dC, dI) vCl [(m0, .inr (6, [.int 0, .long mtot, .ref aTy, .int msz, .int mat, .int mfl, .int (nI ru), .ref aTo, .ref aDr, .int 1, .int k1, .long mg, .long mw, .int mn, .int (bI mgp), .long mga, .long mgb, .int mfc, .ref aBx])), (aTo, .inl (cTo, 56, .inl to))] H := hP
            have hD : va_D A [(m0, .inr (6, [.int 0, .long mtot, .ref aTy, .int msz, .int mat, .int mfl, .int (nI ru), .ref aTo, .ref aDr, .int 1, .int k1, .long mg, .long mw, .int mn, .int (bI mgp), .long mga, .long mgb, .int mfc, .ref aBx])), (aTo, .inl (cTo, 56, .inl to))] := hD
            refine lv_aload_n hx hb dM_run_180 rfl (lv_at hl 6 rfl) ?_
            refine lv_lload_n hx hb dM_run_181 rfl (lv_at hl 4 rfl) ?_
            refine va_put (D := (dC, dI)) (ci := 6) (v := .long g) (ty := .long) (C := RM) (T := TM) (N := 19) hx hb hts inM yM yoM noM hown hK hP hD hS 0 rfl rfl 11 (by decide) (hts _ gw_585) (fun _ h9 => h9) rfl (by decide +kernel) rfl rfl (Nat.le_of_ble_eq_true rfl) dM_run_182 (fun H locs hP hD hS => ?_)
            have hP : va_P (dC, dI) vCl [(m0, .inr (6, [.int 0, .long mtot, .ref aTy, .int msz, .int mat, .int mfl, .int (nI ru), .ref aTo, .ref aDr, .int 1, .int k1, .long g, .long mw, .int mn, .int (bI mgp), .long mga, .long mgb, .int mfc, .ref aBx])), (aTo, .inl (cTo, 56, .inl to))] H := hP
            have hD : va_D A [(m0, .inr (6, [.int 0, .long mtot, .ref aTy, .int msz, .int mat, .int mfl, .int (nI ru), .ref aTo, .ref aDr, .int 1, .int k1, .long g, .long mw, .int mn, .int (bI mgp), .long mga, .long mgb, .int mfc, .ref aBx])), (aTo, .inl (cTo, 56, .inl to))] := hD
            refine lv_aload_n hx hb dM_run_185 rfl (lv_at hl 6 rfl) ?_
            refine lv_lload hx hb dM_run_186 (lv_at hl 3 rfl) ?_
            refine va_put (D := (dC, dI)) (ci := 6) (v := .long w) (ty := .long) (C := RM) (T := TM) (N := 19) hx hb hts inM yM yoM noM hown hK hP hD hS 0 rfl rfl 12 (by decide) (hts _ gw_586) (fun _ h9 => h9) rfl (by decide +kernel) rfl rfl (Nat.le_of_ble_eq_true rfl) dM_run_188 (fun H locs hP hD hS => ?_)
            have hP : va_P (dC, dI) vCl [(m0, .inr (6, [.int 0, .long mtot, .ref aTy, .int msz, .int mat, .int mfl, .int (nI ru), .ref aTo, .ref aDr, .int 1, .int k1, .long g, .long w, .int mn, .int (bI mgp), .long mga, .long mgb, .int mfc, .ref aBx])), (aTo, .inl (cTo, 56, .inl to))] H := hP
            have hD : va_D A [(m0, .inr (6, [.int 0, .long mtot, .ref aTy, .int msz, .int mat, .int mfl, .int (nI ru), .ref aTo, .ref aDr, .int 1, .int k1, .long g, .long w, .int mn, .int (bI mgp), .long mga, .long mgb, .int mfc, .ref aBx])), (aTo, .inl (cTo, 56, .inl to))] := hD
            refine lv_aload_n hx hb dM_run_191 rfl (lv_at hl 6 rfl) ?_
            refine lv_iload hx hb dM_run_192 (lv_at hl 1 rfl) ?_
            refine va_put (D := (dC, dI)) (ci := 6) (v := .int fd) (ty := .int) (C := RM) (T := TM) (N := 19) hx hb hts inM yM yoM noM hown hK hP hD hS 0 rfl rfl 13 (by decide) (hts _ gw_587) (fun _ h9 => h9) rfl (by decide +kernel) rfl rfl (Nat.le_of_ble_eq_true rfl) dM_run_194 (fun H locs hP hD hS => ?_)
            have hP : va_P (dC, dI) vCl [(m0, .inr (6, [.int 0, .long mtot, .ref aTy, .int msz, .int mat, .int mfl, .int (nI ru), .ref aTo, .ref aDr, .int 1, .int k1, .long g, .long w, .int fd, .int (bI mgp), .long mga, .long mgb, .int mfc, .ref aBx])), (aTo, .inl (cTo, 56, .inl to))] H := hP
            have hD : va_D A [(m0, .inr (6, [.int 0, .long mtot, .ref aTy, .int msz, .int mat, .int mfl, .int (nI ru), .ref aTo, .ref aDr, .int 1, .int k1, .long g, .long w, .int fd, .int (bI mgp), .long mga, .long mgb, .int mfc, .ref aBx])), (aTo, .inl (cTo, 56, .inl to))] := hD
            refine lv_aload_n hx hb dM_run_197 rfl (lv_at hl 6 rfl) ?_
            refine lv_iconst (v := 0) hx hb dM_run_198 (by decide) ?_
            refine va_put (D := (dC, dI)) (ci := 6) (v := .int 0) (ty := .boolean) (C := RM) (T := TM) (N := 19) hx hb hts inM yM yoM noM hown hK hP hD hS 0 rfl rfl 14 (by decide) (hts _ gw_588) (fun _ h9 => h9) rfl (by decide +kernel) rfl rfl (Nat.le_of_ble_eq_true rfl) dM_run_199 (fun H locs hP hD hS => ?_)
            have hP : va_P (dC, dI) vCl [(m0, .inr (6, [.int 0, .long mtot, .ref aTy, .int msz, .int mat, .int mfl, .int (nI ru), .ref aTo, .ref aDr, .int 1, .int k1, .long g, .long w, .int fd, .int 0, .long mga, .long mgb, .int mfc, .ref aBx])), (aTo, .inl (cTo, 56, .inl to))] H := hP
            have hD : va_D A [(m0, .inr (6, [.int 0, .long mtot, .ref aTy, .int msz, .int mat, .int mfl, .int (nI ru), .ref aTo, .ref aDr, .int 1, .int k1, .long g, .long w, .int fd, .int 0, .long mga, .long mgb, .int mfc, .ref aBx])), (aTo, .inl (cTo, 56, .inl to))] := hD
            refine lv_aload_n hx hb dM_run_202 rfl (lv_at hl 6 rfl) ?_
            refine va_get (D := (dC, dI)) (ci := 6) (v := .int fd) (C := RM) (T := TM) (N := 19) hx hb hts inM hown hK hP 0 rfl rfl 13 (by decide) (hts _ gw_587) (fun _ h9 => h9) rfl dM_run_203 ?_
            have ef : fd = mrF to mtot msz mat mfl mpd mk mg mw mn mgp mga mgb mfc ru g w (fewN k1 - 1) (61 - fewN k1) (-1) := hF
            have eb : mh = mrB to mtot msz mat mfl mpd mk mg mw mn mgp mga mgb mfc ru g w (fewN k1 - 1) (61 - fewN k1) 0 := hB
            exact W.iret (v := fd) hx hb hr (fun t ht hW => ⟨by rw [ef], by rw [ht, ← ef]; exact hP, by rw [hAe]; exact hS.F ht⟩) hS.2.2 dM_run_206
        · skip
          refine lv_iconst (v := 2) hx hb dM_run_90 (by decide) ?_
          refine lv_goto (tgt := 95) hx hb dM_run_91 (by decide) ?_
          refine lv_icmp_lt (tgt := 149) hx hb dM_run_95 (by decide) (fun c_7 => ?_) (fun c_7 => absurd (by have e9 := fewN_c1 c_1 c_2; exact (nI_lt (by omega) (by decide) : nI (fm + 0) < nI 2)) c_7)
          refine lv_aload_n hx hb dM_run_149 rfl (lv_at hl 6 rfl) ?_
          refine lv_iload hx hb dM_run_150 (lv_at hl 1 rfl) ?_
          refine lv_if_le (tgt := 159) hx hb dM_run_152 (by decide) (fun c_8 => ?_) (fun c_8 => ?_)
          · skip
            refine lv_iconst (v := 0) hx hb dM_run_159 (by decide) ?_
            refine va_put (D := (dC, dI)) (ci := 6) (v := .int 0) (ty := .boolean) (C := RM) (T := TM) (N := 19) hx hb hts inM yM yoM noM hown hK hP hD hS 0 rfl rfl 9 (by decide) (hts _ gw_583) (fun _ h9 => h9) rfl (by decide +kernel) rfl rfl (Nat.le_of_ble_eq_true rfl) dM_run_160 (fun H locs hP hD hS => ?_)
            have hP : va_P (dC, dI) vCl [(m0, .inr (6, [.int 0, .long mtot, .ref aTy, .int msz, .int mat, .int mfl, .int (nI ru), .ref aTo, .ref aDr, .int 0, .int mk, .long mg, .long mw, .int mn, .int (bI mgp), .long mga, .long mgb, .int mfc, .ref aBx])), (aTo, .inl (cTo, 56, .inl to))] H := hP
            have hD : va_D A [(m0, .inr (6, [.int 0, .long mtot, .ref aTy, .int msz, .int mat, .int mfl, .int (nI ru), .ref aTo, .ref aDr, .int 0, .int mk, .long mg, .long mw, .int mn, .int (bI mgp), .long mga, .long mgb, .int mfc, .ref aBx])), (aTo, .inl (cTo, 56, .inl to))] := hD
            refine lv_aload_n hx hb dM_run_163 rfl (lv_at hl 6 rfl) ?_
            refine va_get (D := (dC, dI)) (ci := 6) (v := .int 0) (C := RM) (T := TM) (N := 19) hx hb hts inM hown hK hP 0 rfl rfl 9 (by decide) (hts _ gw_583) (fun _ h9 => h9) rfl dM_run_164 ?_
            refine lv_if_ne (tgt := 175) hx hb dM_run_167 (by decide) (fun c_9 => absurd (by decide) c_9) (fun c_9 => ?_)
            refine lv_iconst (v := (-1)) hx hb dM_run_170 (by decide) ?_
            refine lv_iload hx hb dM_run_171 (lv_at hl 2 rfl) ?_
            refine lv_isub hx hb dM_run_173 ?_
            have ef : fd = mrF to mtot msz mat mfl mpd mk mg mw mn mgp mga mgb mfc ru g w (fewN k1 - 1) (61 - fewN k1) (-1) := hF
            have eb : mh = mrB to mtot msz mat mfl mpd mk mg mw mn mgp mga mgb mfc ru g w (fewN k1 - 1) (61 - fewN k1) 0 := hB
            exact absurd (ef ▸ c_8) hfd
          · skip
            refine lv_iconst (v := 1) hx hb dM_run_155 (by decide) ?_
            refine lv_goto (tgt := 160) hx hb dM_run_156 (by decide) ?_
            refine va_put (D := (dC, dI)) (ci := 6) (v := .int 1) (ty := .boolean) (C := RM) (T := TM) (N := 19) hx hb hts inM yM yoM noM hown hK hP hD hS 0 rfl rfl 9 (by decide) (hts _ gw_583) (fun _ h9 => h9) rfl (by decide +kernel) rfl rfl (Nat.le_of_ble_eq_true rfl) dM_run_160 (fun H locs hP hD hS => ?_)
            have hP : va_P (dC, dI) vCl [(m0, .inr (6, [.int 0, .long mtot, .ref aTy, .int msz, .int mat, .int mfl, .int (nI ru), .ref aTo, .ref aDr, .int 1, .int mk, .long mg, .long mw, .int mn, .int (bI mgp), .long mga, .long mgb, .int mfc, .ref aBx])), (aTo, .inl (cTo, 56, .inl to))] H := hP
            have hD : va_D A [(m0, .inr (6, [.int 0, .long mtot, .ref aTy, .int msz, .int mat, .int mfl, .int (nI ru), .ref aTo, .ref aDr, .int 1, .int mk, .long mg, .long mw, .int mn, .int (bI mgp), .long mga, .long mgb, .int mfc, .ref aBx])), (aTo, .inl (cTo, 56, .inl to))] := hD
            refine lv_aload_n hx hb dM_run_163 rfl (lv_at hl 6 rfl) ?_
            refine va_get (D := (dC, dI)) (ci := 6) (v := .int 1) (C := RM) (T := TM) (N := 19) hx hb hts inM hown hK hP 0 rfl rfl 9 (by decide) (hts _ gw_583) (fun _ h9 => h9) rfl dM_run_164 ?_
            refine lv_if_ne (tgt := 175) hx hb dM_run_167 (by decide) (fun c_10 => ?_) (fun c_10 => absurd c_10 (by decide))
            refine lv_aload_n hx hb dM_run_175 rfl (lv_at hl 6 rfl) ?_
            refine lv_iload_n hx hb dM_run_176 rfl (lv_at hl 5 rfl) ?_
            refine va_put (D := (dC, dI)) (ci := 6) (v := .int k1) (ty := .int) (C := RM) (T := TM) (N := 19) hx hb hts inM yM yoM noM hown hK hP hD hS 0 rfl rfl 10 (by decide) (hts _ gw_584) (fun _ h9 => h9) rfl (by decide +kernel) rfl rfl (Nat.le_of_ble_eq_true rfl) dM_run_177 (fun H locs hP hD hS => ?_)
            have hP : va_P (dC, dI) vCl [(m0, .inr (6, [.int 0, .long mtot, .ref aTy, .int msz, .int mat, .int mfl, .int (nI ru), .ref aTo, .ref aDr, .int 1, .int k1, .long mg, .long mw, .int mn, .int (bI mgp), .long mga, .long mgb, .int mfc, .ref aBx])), (aTo, .inl (cTo, 56, .inl to))] H := hP
            have hD : va_D A [(m0, .inr (6, [.int 0, .long mtot, .ref aTy, .int msz, .int mat, .int mfl, .int (nI ru), .ref aTo, .ref aDr, .int 1, .int k1, .long mg, .long mw, .int mn, .int (bI mgp), .long mga, .long mgb, .int mfc, .ref aBx])), (aTo, .inl (cTo, 56, .inl to))] := hD
            refine lv_aload_n hx hb dM_run_180 rfl (lv_at hl 6 rfl) ?_
            refine lv_lload_n hx hb dM_run_181 rfl (lv_at hl 4 rfl) ?_
            refine va_put (D := (dC, dI)) (ci := 6) (v := .long g) (ty := .long) (C := RM) (T := TM) (N := 19) hx hb hts inM yM yoM noM hown hK hP hD hS 0 rfl rfl 11 (by decide) (hts _ gw_585) (fun _ h9 => h9) rfl (by decide +kernel) rfl rfl (Nat.le_of_ble_eq_true rfl) dM_run_182 (fun H locs hP hD hS => ?_)
            have hP : va_P (dC, dI) vCl [(m0, .inr (6, [.int 0, .long mtot, .ref aTy, .int msz, .int mat, .int mfl, .int (nI ru), .ref aTo, .ref aDr, .int 1, .int k1, .long g, .long mw, .int mn, .int (bI mgp), .long mga, .long mgb, .int mfc, .ref aBx])), (aTo, .inl (cTo, 56, .inl to))] H := hP
            have hD : va_D A [(m0, .inr (6, [.int 0, .long mtot, .ref aTy, .int msz, .int mat, .int mfl, .int (nI ru), .ref aTo, .ref aDr, .int 1, .int k1, .long g, .long mw, .int mn, .int (bI mgp), .long mga, .long mgb, .int mfc, .ref aBx])), (aTo, .inl (cTo, 56, .inl to))] := hD
            refine lv_aload_n hx hb dM_run_185 rfl (lv_at hl 6 rfl) ?_
            refine lv_lload hx hb dM_run_186 (lv_at hl 3 rfl) ?_
            refine va_put (D := (dC, dI)) (ci := 6) (v := .long w) (ty := .long) (C := RM) (T := TM) (N := 19) hx hb hts inM yM yoM noM hown hK hP hD hS 0 rfl rfl 12 (by decide) (hts _ gw_586) (fun _ h9 => h9) rfl (by decide +kernel) rfl rfl (Nat.le_of_ble_eq_true rfl) dM_run_188 (fun H locs hP hD hS => ?_)
            have hP : va_P (dC, dI) vCl [(m0, .inr (6, [.int 0, .long mtot, .ref aTy, .int msz, .int mat, .int mfl, .int (nI ru), .ref aTo, .ref aDr, .int 1, .int k1, .long g, .long w, .int mn, .int (bI mgp), .long mga, .long mgb, .int mfc, .ref aBx])), (aTo, .inl (cTo, 56, .inl to))] H := hP
            have hD : va_D A [(m0, .inr (6, [.int 0, .long mtot, .ref aTy, .int msz, .int mat, .int mfl, .int (nI ru), .ref aTo, .ref aDr, .int 1, .int k1, .long g, .long w, .int mn, .int (bI mgp), .long mga, .long mgb, .int mfc, .ref aBx])), (aTo, .inl (cTo, 56, .inl to))] := hD
            refine lv_aload_n hx hb dM_run_191 rfl (lv_at hl 6 rfl) ?_
            refine lv_iload hx hb dM_run_192 (lv_at hl 1 rfl) ?_
            refine va_put (D := (dC, dI)) (ci := 6) (v := .int fd) (ty := .int) (C := RM) (T := TM) (N := 19) hx hb hts inM yM yoM noM hown hK hP hD hS 0 rfl rfl 13 (by decide) (hts _ gw_587) (fun _ h9 => h9) rfl (by decide +kernel) rfl rfl (Nat.le_of_ble_eq_true rfl) dM_run_194 (fun H locs hP hD hS => ?_)
            have hP : va_P (dC, dI) vCl [(m0, .inr (6, [.int 0, .long mtot, .ref aTy, .int msz, .int mat, .int mfl, .int (nI ru), .ref aTo, .ref aDr, .int 1, .int k1, .long g, .long w, .int fd, .int (bI mgp), .long mga, .long mgb, .int mfc, .ref aBx])), (aTo, .inl (cTo, 56, .inl to))] H := hP
            have hD : va_D A [(m0, .inr (6, [.int 0, .long mtot, .ref aTy, .int msz, .int mat, .int mfl, .int (nI ru), .ref aTo, .ref aDr, .int 1, .int k1, .long g, .long w, .int fd, .int (bI mgp), .long mga, .long mgb, .int mfc, .ref aBx])), (aTo, .inl (cTo, 56, .inl to))] := hD
            refine lv_aload_n hx hb dM_run_197 rfl (lv_at hl 6 rfl) ?_
            refine lv_iconst (v := 0) hx hb dM_run_198 (by decide) ?_
            refine va_put (D := (dC, dI)) (ci := 6) (v := .int 0) (ty := .boolean) (C := RM) (T := TM) (N := 19) hx hb hts inM yM yoM noM hown hK hP hD hS 0 rfl rfl 14 (by decide) (hts _ gw_588) (fun _ h9 => h9) rfl (by decide +kernel) rfl rfl (Nat.le_of_ble_eq_true rfl) dM_run_199 (fun H locs hP hD hS => ?_)
            have hP : va_P (dC, dI) vCl [(m0, .inr (6, [.int 0, .long mtot, .ref aTy, .int msz, .int mat, .int mfl, .int (nI ru), .ref aTo, .ref aDr, .int 1, .int k1, .long g, .long w, .int fd, .int 0, .long mga, .long mgb, .int mfc, .ref aBx])), (aTo, .inl (cTo, 56, .inl to))] H := hP
            have hD : va_D A [(m0, .inr (6, [.int 0, .long mtot, .ref aTy, .int msz, .int mat, .int mfl, .int (nI ru), .ref aTo, .ref aDr, .int 1, .int k1, .long g, .long w, .int fd, .int 0, .long mga, .long mgb, .int mfc, .ref aBx])), (aTo, .inl (cTo, 56, .inl to))] := hD
            refine lv_aload_n hx hb dM_run_202 rfl (lv_at hl 6 rfl) ?_
            refine va_get (D := (dC, dI)) (ci := 6) (v := .int fd) (C := RM) (T := TM) (N := 19) hx hb hts inM hown hK hP 0 rfl rfl 13 (by decide) (hts _ gw_587) (fun _ h9 => h9) rfl dM_run_203 ?_
            have ef : fd = mrF to mtot msz mat mfl mpd mk mg mw mn mgp mga mgb mfc ru g w (fewN k1 - 1) (61 - fewN k1) (-1) := hF
            have eb : mh = mrB to mtot msz mat mfl mpd mk mg mw mn mgp mga mgb mfc ru g w (fewN k1 - 1) (61 - fewN k1) 0 := hB
            exact W.iret (v := fd) hx hb hr (fun t ht hW => ⟨by rw [ef], by rw [ht, ← ef]; exact hP, by rw [hAe]; exact hS.F ht⟩) hS.2.2 dM_run_206
      · skip
        refine lv_iconst (v := 4) hx hb dM_run_81 (by decide) ?_
        refine lv_goto (tgt := 95) hx hb dM_run_82 (by decide) ?_
        refine lv_icmp_lt (tgt := 149) hx hb dM_run_95 (by decide) (fun c_11 => ?_) (fun c_11 => absurd (by have e9 := fewN_c2 c_1; exact (nI_lt (by omega) (by decide) : nI (fm + 0) < nI 4)) c_11)
        refine lv_aload_n hx hb dM_run_149 rfl (lv_at hl 6 rfl) ?_
        refine lv_iload hx hb dM_run_150 (lv_at hl 1 rfl) ?_
        refine lv_if_le (tgt := 159) hx hb dM_run_152 (by decide) (fun c_12 => ?_) (fun c_12 => ?_)
        · skip
          refine lv_iconst (v := 0) hx hb dM_run_159 (by decide) ?_
          refine va_put (D := (dC, dI)) (ci := 6) (v := .int 0) (ty := .boolean) (C := RM) (T := TM) (N := 19) hx hb hts inM yM yoM noM hown hK hP hD hS 0 rfl rfl 9 (by decide) (hts _ gw_583) (fun _ h9 => h9) rfl (by decide +kernel) rfl rfl (Nat.le_of_ble_eq_true rfl) dM_run_160 (fun H locs hP hD hS => ?_)
          have hP : va_P (dC, dI) vCl [(m0, .inr (6, [.int 0, .long mtot, .ref aTy, .int msz, .int mat, .int mfl, .int (nI ru), .ref aTo, .ref aDr, .int 0, .int mk, .long mg, .long mw, .int mn, .int (bI mgp), .long mga, .long mgb, .int mfc, .ref aBx])), (aTo, .inl (cTo, 56, .inl to))] H := hP
          have hD : va_D A [(m0, .inr (6, [.int 0, .long mtot, .ref aTy, .int msz, .int mat, .int mfl, .int (nI ru), .ref aTo, .ref aDr, .int 0, .int mk, .long mg, .long mw, .int mn, .int (bI mgp), .long mga, .long mgb, .int mfc, .ref aBx])), (aTo, .inl (cTo, 56, .inl to))] := hD
          refine lv_aload_n hx hb dM_run_163 rfl (lv_at hl 6 rfl) ?_
          refine va_get (D := (dC, dI)) (ci := 6) (v := .int 0) (C := RM) (T := TM) (N := 19) hx hb hts inM hown hK hP 0 rfl rfl 9 (by decide) (hts _ gw_583) (fun _ h9 => h9) rfl dM_run_164 ?_
          refine lv_if_ne (tgt := 175) hx hb dM_run_167 (by decide) (fun c_13 => absurd (by decide) c_13) (fun c_13 => ?_)
          refine lv_iconst (v := (-1)) hx hb dM_run_170 (by decide) ?_
          refine lv_iload hx hb dM_run_171 (lv_at hl 2 rfl) ?_
          refine lv_isub hx hb dM_run_173 ?_
          have ef : fd = mrF to mtot msz mat mfl mpd mk mg mw mn mgp mga mgb mfc ru g w (fewN k1 - 1) (61 - fewN k1) (-1) := hF
          have eb : mh = mrB to mtot msz mat mfl mpd mk mg mw mn mgp mga mgb mfc ru g w (fewN k1 - 1) (61 - fewN k1) 0 := hB
          exact absurd (ef ▸ c_12) hfd
        · skip
          refine lv_iconst (v := 1) hx hb dM_run_155 (by decide) ?_
          refine lv_goto (tgt := 160) hx hb dM_run_156 (by decide) ?_
          refine va_put (D := (dC, dI)) (ci := 6) (v := .int 1) (ty := .boolean) (C := RM) (T := TM) (N := 19) hx hb hts inM yM yoM noM hown hK hP hD hS 0 rfl rfl 9 (by decide) (hts _ gw_583) (fun _ h9 => h9) rfl (by decide +kernel) rfl rfl (Nat.le_of_ble_eq_true rfl) dM_run_160 (fun H locs hP hD hS => ?_)
          have hP : va_P (dC, dI) vCl [(m0, .inr (6, [.int 0, .long mtot, .ref aTy, .int msz, .int mat, .int mfl, .int (nI ru), .ref aTo, .ref aDr, .int 1, .int mk, .long mg, .long mw, .int mn, .int (bI mgp), .long mga, .long mgb, .int mfc, .ref aBx])), (aTo, .inl (cTo, 56, .inl to))] H := hP
          have hD : va_D A [(m0, .inr (6, [.int 0, .long mtot, .ref aTy, .int msz, .int mat, .int mfl, .int (nI ru), .ref aTo, .ref aDr, .int 1, .int mk, .long mg, .long mw, .int mn, .int (bI mgp), .long mga, .long mgb, .int mfc, .ref aBx])), (aTo, .inl (cTo, 56, .inl to))] := hD
          refine lv_aload_n hx hb dM_run_163 rfl (lv_at hl 6 rfl) ?_
          refine va_get (D := (dC, dI)) (ci := 6) (v := .int 1) (C := RM) (T := TM) (N := 19) hx hb hts inM hown hK hP 0 rfl rfl 9 (by decide) (hts _ gw_583) (fun _ h9 => h9) rfl dM_run_164 ?_
          refine lv_if_ne (tgt := 175) hx hb dM_run_167 (by decide) (fun c_14 => ?_) (fun c_14 => absurd c_14 (by decide))
          refine lv_aload_n hx hb dM_run_175 rfl (lv_at hl 6 rfl) ?_
          refine lv_iload_n hx hb dM_run_176 rfl (lv_at hl 5 rfl) ?_
          refine va_put (D := (dC, dI)) (ci := 6) (v := .int k1) (ty := .int) (C := RM) (T := TM) (N := 19) hx hb hts inM yM yoM noM hown hK hP hD hS 0 rfl rfl 10 (by decide) (hts _ gw_584) (fun _ h9 => h9) rfl (by decide +kernel) rfl rfl (Nat.le_of_ble_eq_true rfl) dM_run_177 (fun H locs hP hD hS => ?_)
          have hP : va_P (dC, dI) vCl [(m0, .inr (6, [.int 0, .long mtot, .ref aTy, .int msz, .int mat, .int mfl, .int (nI ru), .ref aTo, .ref aDr, .int 1, .int k1, .long mg, .long mw, .int mn, .int (bI mgp), .long mga, .long mgb, .int mfc, .ref aBx])), (aTo, .inl (cTo, 56, .inl to))] H := hP
          have hD : va_D A [(m0, .inr (6, [.int 0, .long mtot, .ref aTy, .int msz, .int mat, .int mfl, .int (nI ru), .ref aTo, .ref aDr, .int 1, .int k1, .long mg, .long mw, .int mn, .int (bI mgp), .long mga, .long mgb, .int mfc, .ref aBx])), (aTo, .inl (cTo, 56, .inl to))] := hD
          refine lv_aload_n hx hb dM_run_180 rfl (lv_at hl 6 rfl) ?_
          refine lv_lload_n hx hb dM_run_181 rfl (lv_at hl 4 rfl) ?_
          refine va_put (D := (dC, dI)) (ci := 6) (v := .long g) (ty := .long) (C := RM) (T := TM) (N := 19) hx hb hts inM yM yoM noM hown hK hP hD hS 0 rfl rfl 11 (by decide) (hts _ gw_585) (fun _ h9 => h9) rfl (by decide +kernel) rfl rfl (Nat.le_of_ble_eq_true rfl) dM_run_182 (fun H locs hP hD hS => ?_)
          have hP : va_P (dC, dI) vCl [(m0, .inr (6, [.int 0, .long mtot, .ref aTy, .int msz, .int mat, .int mfl, .int (nI ru), .ref aTo, .ref aDr, .int 1, .int k1, .long g, .long mw, .int mn, .int (bI mgp), .long mga, .long mgb, .int mfc, .ref aBx])), (aTo, .inl (cTo, 56, .inl to))] H := hP
          have hD : va_D A [(m0, .inr (6, [.int 0, .long mtot, .ref aTy, .int msz, .int mat, .int mfl, .int (nI ru), .ref aTo, .ref aDr, .int 1, .int k1, .long g, .long mw, .int mn, .int (bI mgp), .long mga, .long mgb, .int mfc, .ref aBx])), (aTo, .inl (cTo, 56, .inl to))] := hD
          refine lv_aload_n hx hb dM_run_185 rfl (lv_at hl 6 rfl) ?_
          refine lv_lload hx hb dM_run_186 (lv_at hl 3 rfl) ?_
          refine va_put (D := (dC, dI)) (ci := 6) (v := .long w) (ty := .long) (C := RM) (T := TM) (N := 19) hx hb hts inM yM yoM noM hown hK hP hD hS 0 rfl rfl 12 (by decide) (hts _ gw_586) (fun _ h9 => h9) rfl (by decide +kernel) rfl rfl (Nat.le_of_ble_eq_true rfl) dM_run_188 (fun H locs hP hD hS => ?_)
          have hP : va_P (dC, dI) vCl [(m0, .inr (6, [.int 0, .long mtot, .ref aTy, .int msz, .int mat, .int mfl, .int (nI ru), .ref aTo, .ref aDr, .int 1, .int k1, .long g, .long w, .int mn, .int (bI mgp), .long mga, .long mgb, .int mfc, .ref aBx])), (aTo, .inl (cTo, 56, .inl to))] H := hP
          have hD : va_D A [(m0, .inr (6, [.int 0, .long mtot, .ref aTy, .int msz, .int mat, .int mfl, .int (nI ru), .ref aTo, .ref aDr, .int 1, .int k1, .long g, .long w, .int mn, .int (bI mgp), .long mga, .long mgb, .int mfc, .ref aBx])), (aTo, .inl (cTo, 56, .inl to))] := hD
          refine lv_aload_n hx hb dM_run_191 rfl (lv_at hl 6 rfl) ?_
          refine lv_iload hx hb dM_run_192 (lv_at hl 1 rfl) ?_
          refine va_put (D := (dC, dI)) (ci := 6) (v := .int fd) (ty := .int) (C := RM) (T := TM) (N := 19) hx hb hts inM yM yoM noM hown hK hP hD hS 0 rfl rfl 13 (by decide) (hts _ gw_587) (fun _ h9 => h9) rfl (by decide +kernel) rfl rfl (Nat.le_of_ble_eq_true rfl) dM_run_194 (fun H locs hP hD hS => ?_)
          have hP : va_P (dC, dI) vCl [(m0, .inr (6, [.int 0, .long mtot, .ref aTy, .int msz, .int mat, .int mfl, .int (nI ru), .ref aTo, .ref aDr, .int 1, .int k1, .long g, .long w, .int fd, .int (bI mgp), .long mga, .long mgb, .int mfc, .ref aBx])), (aTo, .inl (cTo, 56, .inl to))] H := hP
          have hD : va_D A [(m0, .inr (6, [.int 0, .long mtot, .ref aTy, .int msz, .int mat, .int mfl, .int (nI ru), .ref aTo, .ref aDr, .int 1, .int k1, .long g, .long w, .int fd, .int (bI mgp), .long mga, .long mgb, .int mfc, .ref aBx])), (aTo, .inl (cTo, 56, .inl to))] := hD
          refine lv_aload_n hx hb dM_run_197 rfl (lv_at hl 6 rfl) ?_
          refine lv_iconst (v := 0) hx hb dM_run_198 (by decide) ?_
          refine va_put (D := (dC, dI)) (ci := 6) (v := .int 0) (ty := .boolean) (C := RM) (T := TM) (N := 19) hx hb hts inM yM yoM noM hown hK hP hD hS 0 rfl rfl 14 (by decide) (hts _ gw_588) (fun _ h9 => h9) rfl (by decide +kernel) rfl rfl (Nat.le_of_ble_eq_true rfl) dM_run_199 (fun H locs hP hD hS => ?_)
          have hP : va_P (dC, dI) vCl [(m0, .inr (6, [.int 0, .long mtot, .ref aTy, .int msz, .int mat, .int mfl, .int (nI ru), .ref aTo, .ref aDr, .int 1, .int k1, .long g, .long w, .int fd, .int 0, .long mga, .long mgb, .int mfc, .ref aBx])), (aTo, .inl (cTo, 56, .inl to))] H := hP
          have hD : va_D A [(m0, .inr (6, [.int 0, .long mtot, .ref aTy, .int msz, .int mat, .int mfl, .int (nI ru), .ref aTo, .ref aDr, .int 1, .int k1, .long g, .long w, .int fd, .int 0, .long mga, .long mgb, .int mfc, .ref aBx])), (aTo, .inl (cTo, 56, .inl to))] := hD
          refine lv_aload_n hx hb dM_run_202 rfl (lv_at hl 6 rfl) ?_
          refine va_get (D := (dC, dI)) (ci := 6) (v := .int fd) (C := RM) (T := TM) (N := 19) hx hb hts inM hown hK hP 0 rfl rfl 13 (by decide) (hts _ gw_587) (fun _ h9 => h9) rfl dM_run_203 ?_
          have ef : fd = mrF to mtot msz mat mfl mpd mk mg mw mn mgp mga mgb mfc ru g w (fewN k1 - 1) (61 - fewN k1) (-1) := hF
          have eb : mh = mrB to mtot msz mat mfl mpd mk mg mw mn mgp mga mgb mfc ru g w (fewN k1 - 1) (61 - fewN k1) 0 := hB
          exact W.iret (v := fd) hx hb hr (fun t ht hW => ⟨by rw [ef], by rw [ht, ← ef]; exact hP, by rw [hAe]; exact hS.F ht⟩) hS.2.2 dM_run_206
    | succ n ih =>
      intro fm mh fd hfm hb9 hF hB H locs hP hD hS ls hl
      refine lv_iload hx hb dM_run_74 (lv_at hl 0 rfl) ?_
      refine lv_iload_n hx hb dM_run_76 rfl (lv_at hl 5 rfl) ?_
      refine lv_iconst (v := 2) hx hb dM_run_77 (by decide) ?_
      refine lv_icmp_ne (tgt := 85) hx hb dM_run_78 (by decide) (fun c_15 => ?_) (fun c_15 => ?_)
      · skip
        refine lv_iload_n hx hb dM_run_85 rfl (lv_at hl 5 rfl) ?_
        refine lv_iconst (v := 1) hx hb dM_run_86 (by decide) ?_
        refine lv_icmp_ne (tgt := 94) hx hb dM_run_87 (by decide) (fun c_16 => ?_) (fun c_16 => ?_)
        · skip
          refine lv_iconst (v := 1) hx hb dM_run_94 (by decide) ?_
          refine lv_icmp_lt (tgt := 149) hx hb dM_run_95 (by decide) (fun c_17 => absurd c_17 (by have e9 := fewN_c0 c_15 c_16; exact (nI_nlt (by omega) (by omega) : ¬ nI (fm + (n + 1)) < nI 1))) (fun c_17 => ?_)
          refine lv_aload_n hx hb dM_run_98 rfl (lv_at hl 6 rfl) ?_
          refine lv_lload_n hx hb dM_run_99 rfl (lv_at hl 4 rfl) ?_
          refine lv_lload hx hb dM_run_100 (lv_at hl 3 rfl) ?_
          refine lv_iload hx hb dM_run_102 (lv_at hl 0 rfl) ?_
          refine tr_go (st1 := [.int (fM_holding to 0 mtot msz mat mfl mpd mk mg mw mn mgp mga mgb mfc ru g w (nI (fm + (n + 1))))]) (va_runV (As := [.long g, .long w, .int (nI (fm + (n + 1)))]) (rest := []) (C := RM) ⟨hx, hb, hml, hown, hts⟩ (c_M_holding l dC dI m0 aTy aTo aDr aBx cTo to 0 mtot msz mat mfl mpd mk mg mw mn mgp mga mgb mfc ru g w (nI (fm + (n + 1))) (by assumption)) ⟨cB 3 hts gw_661 gw_7 gw_659 ndM_holding rfl rfl ⟨Nat.le_of_ble_eq_true rfl, Nat.le_of_ble_eq_true rfl⟩, hts _ gw_660, hts _ gw_762⟩ (tp_Rv hN hK hP [0, 1] [0] rfl rfl (q0 := 0) (ci := 6) rfl rfl) rfl rfl hl.1 rfl (lv_room (Nat.le_of_ble_eq_true rfl)) dM_run_104 ⟨Nat.le_of_ble_eq_true rfl, Nat.le_of_ble_eq_true rfl⟩) rfl ?_
          refine lv_istore (lv' := [(9, .int (fM_holding to 0 mtot msz mat mfl mpd mk mg mw mn mgp mga mgb mfc ru g w (nI (fm + (n + 1))))), (8, .int (nI (fm + (n + 1)))), (7, .int fd), (6, .int mh), (4, .long w), (2, .long g), (1, .int k1), (0, .ref m0)]) hx hb dM_run_107 hl (by decide) rfl (fun ls hl => ?_)
          refine lv_iload hx hb dM_run_109 (lv_at hl 0 rfl) ?_
          refine lv_aload_n hx hb dM_run_111 rfl (lv_at hl 7 rfl) ?_
          refine va_get (D := (dC, dI)) (ci := 6) (v := .int (nI ru)) (C := RM) (T := TM) (N := 19) hx hb hts inM hown hK hP 0 rfl rfl 6 (by decide) (hts _ gw_580) (fun _ h9 => h9) rfl dM_run_112 ?_
          refine lv_icmp_ne (tgt := 123) hx hb dM_run_115 (by decide) (fun c_18 => ?_) (fun c_18 => ?_)
          · skip
            refine lv_iload hx hb dM_run_123 (lv_at hl 2 rfl) ?_
            refine lv_istore (lv' := [(7, .int fd), (9, .int (fM_holding to 0 mtot msz mat mfl mpd mk mg mw mn mgp mga mgb mfc ru g w (nI (fm + (n + 1))))), (8, .int (nI (fm + (n + 1)))), (6, .int mh), (4, .long w), (2, .long g), (1, .int k1), (0, .ref m0)]) hx hb dM_run_125 hl (by decide) rfl (fun ls hl => ?_)
            refine lv_iload hx hb dM_run_127 (lv_at hl 1 rfl) ?_
            refine lv_iload hx hb dM_run_129 (lv_at hl 3 rfl) ?_
            refine lv_icmp_le (tgt := 139) hx hb dM_run_131 (by decide) (fun c_19 => ?_) (fun c_19 => ?_)
            · skip
              refine lv_iload hx hb dM_run_139 (lv_at hl 3 rfl) ?_
              refine lv_istore (lv' := [(6, .int mh), (7, .int fd), (9, .int (fM_holding to 0 mtot msz mat mfl mpd mk mg mw mn mgp mga mgb mfc ru g w (nI (fm + (n + 1))))), (8, .int (nI (fm + (n + 1)))), (4, .long w), (2, .long g), (1, .int k1), (0, .ref m0)]) hx hb dM_run_141 hl (by decide) rfl (fun ls hl => ?_)
              refine lv_iinc (v := nI (fm + n)) (lv' := [(8, .int (nI (fm + n))), (6, .int mh), (7, .int fd), (9, .int (fM_holding to 0 mtot msz mat mfl mpd mk mg mw mn mgp mga mgb mfc ru g w (nI (fm + (n + 1))))), (4, .long w), (2, .long g), (1, .int k1), (0, .ref m0)]) hx hb dM_run_143 hl (k := 3) rfl (by rw [← pk_m1 (fm + n)]; rfl) (by decide) rfl (fun ls hl => ?_)
              refine lv_goto (tgt := 74) hx hb dM_run_146 (by decide) ?_
              exact ih fm mh fd hfm (by omega) (by rw [mrF, mrH, if_neg c_18] at hF; exact hF) (by rw [mrB, mrH, if_pos c_19] at hB; exact hB) _ _ hP hD hS ls (lv_sub hl [0, 2, 1, 4, 5, 6, 7] rfl)
            · skip
              refine lv_iload hx hb dM_run_134 (lv_at hl 1 rfl) ?_
              refine lv_goto (tgt := 141) hx hb dM_run_136 (by decide) ?_
              refine lv_istore (lv' := [(6, .int (fM_holding to 0 mtot msz mat mfl mpd mk mg mw mn mgp mga mgb mfc ru g w (nI (fm + (n + 1))))), (7, .int fd), (9, .int (fM_holding to 0 mtot msz mat mfl mpd mk mg mw mn mgp mga mgb mfc ru g w (nI (fm + (n + 1))))), (8, .int (nI (fm + (n + 1)))), (4, .long w), (2, .long g), (1, .int k1), (0, .ref m0)]) hx hb dM_run_141 hl (by decide) rfl (fun ls hl => ?_)
              refine lv_iinc (v := nI (fm + n)) (lv' := [(8, .int (nI (fm + n))), (6, .int (fM_holding to 0 mtot msz mat mfl mpd mk mg mw mn mgp mga mgb mfc ru g w (nI (fm + (n + 1))))), (7, .int fd), (9, .int (fM_holding to 0 mtot msz mat mfl mpd mk mg mw mn mgp mga mgb mfc ru g w (nI (fm + (n + 1))))), (4, .long w), (2, .long g), (1, .int k1), (0, .ref m0)]) hx hb dM_run_143 hl (k := 3) rfl (by rw [← pk_m1 (fm + n)]; rfl) (by decide) rfl (fun ls hl => ?_)
              refine lv_goto (tgt := 74) hx hb dM_run_146 (by decide) ?_
              exact ih fm (fM_holding to 0 mtot msz mat mfl mpd mk mg mw mn mgp mga mgb mfc ru g w (nI (fm + (n + 1)))) fd hfm (by omega) (by rw [mrF, mrH, if_neg c_18] at hF; exact hF) (by rw [mrB, mrH, if_neg c_19] at hB; exact hB) _ _ hP hD hS ls (lv_sub hl [0, 2, 1, 4, 5, 6, 7] rfl)
          · skip
            refine lv_iload hx hb dM_run_118 (lv_at hl 1 rfl) ?_
            refine lv_goto (tgt := 125) hx hb dM_run_120 (by decide) ?_
            refine lv_istore (lv' := [(7, .int (nI (fm + (n + 1)))), (9, .int (fM_holding to 0 mtot msz mat mfl mpd mk mg mw mn mgp mga mgb mfc ru g w (nI (fm + (n + 1))))), (8, .int (nI (fm + (n + 1)))), (6, .int mh), (4, .long w), (2, .long g), (1, .int k1), (0, .ref m0)]) hx hb dM_run_125 hl (by decide) rfl (fun ls hl => ?_)
            refine lv_iload hx hb dM_run_127 (lv_at hl 1 rfl) ?_
            refine lv_iload hx hb dM_run_129 (lv_at hl 3 rfl) ?_
            refine lv_icmp_le (tgt := 139) hx hb dM_run_131 (by decide) (fun c_20 => ?_) (fun c_20 => ?_)
            · skip
              refine lv_iload hx hb dM_run_139 (lv_at hl 3 rfl) ?_
              refine lv_istore (lv' := [(6, .int mh), (7, .int (nI (fm + (n + 1)))), (9, .int (fM_holding to 0 mtot msz mat mfl mpd mk mg mw mn mgp mga mgb mfc ru g w (nI (fm + (n + 1))))), (8, .int (nI (fm + (n + 1)))), (4, .long w), (2, .long g), (1, .int k1), (0, .ref m0)]) hx hb dM_run_141 hl (by decide) rfl (fun ls hl => ?_)
              refine lv_iinc (v := nI (fm + n)) (lv' := [(8, .int (nI (fm + n))), (6, .int mh), (7, .int (nI (fm + (n + 1)))), (9, .int (fM_holding to 0 mtot msz mat mfl mpd mk mg mw mn mgp mga mgb mfc ru g w (nI (fm + (n + 1))))), (4, .long w), (2, .long g), (1, .int k1), (0, .ref m0)]) hx hb dM_run_143 hl (k := 3) rfl (by rw [← pk_m1 (fm + n)]; rfl) (by decide) rfl (fun ls hl => ?_)
              refine lv_goto (tgt := 74) hx hb dM_run_146 (by decide) ?_
              exact ih fm mh (nI (fm + (n + 1))) hfm (by omega) (by rw [mrF, mrH, if_pos c_18] at hF; exact hF) (by rw [mrB, mrH, if_pos c_20] at hB; exact hB) _ _ hP hD hS ls (lv_sub hl [0, 2, 1, 4, 5, 6, 7] rfl)
            · skip
              refine lv_iload hx hb dM_run_134 (lv_at hl 1 rfl) ?_
              refine lv_goto (tgt := 141) hx hb dM_run_136 (by decide) ?_
              refine lv_istore (lv' := [(6, .int (fM_holding to 0 mtot msz mat mfl mpd mk mg mw mn mgp mga mgb mfc ru g w (nI (fm + (n + 1))))), (7, .int (nI (fm + (n + 1)))), (9, .int (fM_holding to 0 mtot msz mat mfl mpd mk mg mw mn mgp mga mgb mfc ru g w (nI (fm + (n + 1))))), (8, .int (nI (fm + (n + 1)))), (4, .long w), (2, .long g), (1, .int k1), (0, .ref m0)]) hx hb dM_run_141 hl (by decide) rfl (fun ls hl => ?_)
              refine lv_iinc (v := nI (fm + n)) (lv' := [(8, .int (nI (fm + n))), (6, .int (fM_holding to 0 mtot msz mat mfl mpd mk mg mw mn mgp mga mgb mfc ru g w (nI (fm + (n + 1))))), (7, .int (nI (fm + (n + 1)))), (9, .int (fM_holding to 0 mtot msz mat mfl mpd mk mg mw mn mgp mga mgb mfc ru g w (nI (fm + (n + 1))))), (4, .long w), (2, .long g), (1, .int k1), (0, .ref m0)]) hx hb dM_run_143 hl (k := 3) rfl (by rw [← pk_m1 (fm + n)]; rfl) (by decide) rfl (fun ls hl => ?_)
              refine lv_goto (tgt := 74) hx hb dM_run_146 (by decide) ?_
              exact ih fm (fM_holding to 0 mtot msz mat mfl mpd mk mg mw mn mgp mga mgb mfc ru g w (nI (fm + (n + 1)))) (nI (fm + (n + 1))) hfm (by omega) (by rw [mrF, mrH, if_pos c_18] at hF; exact hF) (by rw [mrB, mrH, if_neg c_20] at hB; exact hB) _ _ hP hD hS ls (lv_sub hl [0, 2, 1, 4, 5, 6, 7] rfl)
        · skip
          refine lv_iconst (v := 2) hx hb dM_run_90 (by decide) ?_
          refine lv_goto (tgt := 95) hx hb dM_run_91 (by decide) ?_
          refine lv_icmp_lt (tgt := 149) hx hb dM_run_95 (by decide) (fun c_21 => absurd c_21 (by have e9 := fewN_c1 c_15 c_16; exact (nI_nlt (by omega) (by omega) : ¬ nI (fm + (n + 1)) < nI 2))) (fun c_21 => ?_)
          refine lv_aload_n hx hb dM_run_98 rfl (lv_at hl 6 rfl) ?_
          refine lv_lload_n hx hb dM_run_99 rfl (lv_at hl 4 rfl) ?_
          refine lv_lload hx hb dM_run_100 (lv_at hl 3 rfl) ?_
          refine lv_iload hx hb dM_run_102 (lv_at hl 0 rfl) ?_
          refine tr_go (st1 := [.int (fM_holding to 0 mtot msz mat mfl mpd mk mg mw mn mgp mga mgb mfc ru g w (nI (fm + (n + 1))))]) (va_runV (As := [.long g, .long w, .int (nI (fm + (n + 1)))]) (rest := []) (C := RM) ⟨hx, hb, hml, hown, hts⟩ (c_M_holding l dC dI m0 aTy aTo aDr aBx cTo to 0 mtot msz mat mfl mpd mk mg mw mn mgp mga mgb mfc ru g w (nI (fm + (n + 1))) (by assumption)) ⟨cB 3 hts gw_661 gw_7 gw_659 ndM_holding rfl rfl ⟨Nat.le_of_ble_eq_true rfl, Nat.le_of_ble_eq_true rfl⟩, hts _ gw_660, hts _ gw_762⟩ (tp_Rv hN hK hP [0, 1] [0] rfl rfl (q0 := 0) (ci := 6) rfl rfl) rfl rfl hl.1 rfl (lv_room (Nat.le_of_ble_eq_true rfl)) dM_run_104 ⟨Nat.le_of_ble_eq_true rfl, Nat.le_of_ble_eq_true rfl⟩) rfl ?_
          refine lv_istore (lv' := [(9, .int (fM_holding to 0 mtot msz mat mfl mpd mk mg mw mn mgp mga mgb mfc ru g w (nI (fm + (n + 1))))), (8, .int (nI (fm + (n + 1)))), (7, .int fd), (6, .int mh), (4, .long w), (2, .long g), (1, .int k1), (0, .ref m0)]) hx hb dM_run_107 hl (by decide) rfl (fun ls hl => ?_)
          refine lv_iload hx hb dM_run_109 (lv_at hl 0 rfl) ?_
          refine lv_aload_n hx hb dM_run_111 rfl (lv_at hl 7 rfl) ?_
          refine va_get (D := (dC, dI)) (ci := 6) (v := .int (nI ru)) (C := RM) (T := TM) (N := 19) hx hb hts inM hown hK hP 0 rfl rfl 6 (by decide) (hts _ gw_580) (fun _ h9 => h9) rfl dM_run_112 ?_
          refine lv_icmp_ne (tgt := 123) hx hb dM_run_115 (by decide) (fun c_22 => ?_) (fun c_22 => ?_)
          · skip
            refine lv_iload hx hb dM_run_123 (lv_at hl 2 rfl) ?_
            refine lv_istore (lv' := [(7, .int fd), (9, .int (fM_holding to 0 mtot msz mat mfl mpd mk mg mw mn mgp mga mgb mfc ru g w (nI (fm + (n + 1))))), (8, .int (nI (fm + (n + 1)))), (6, .int mh), (4, .long w), (2, .long g), (1, .int k1), (0, .ref m0)]) hx hb dM_run_125 hl (by decide) rfl (fun ls hl => ?_)
            refine lv_iload hx hb dM_run_127 (lv_at hl 1 rfl) ?_
            refine lv_iload hx hb dM_run_129 (lv_at hl 3 rfl) ?_
            refine lv_icmp_le (tgt := 139) hx hb dM_run_131 (by decide) (fun c_23 => ?_) (fun c_23 => ?_)
            · skip
              refine lv_iload hx hb dM_run_139 (lv_at hl 3 rfl) ?_
              refine lv_istore (lv' := [(6, .int mh), (7, .int fd), (9, .int (fM_holding to 0 mtot msz mat mfl mpd mk mg mw mn mgp mga mgb mfc ru g w (nI (fm + (n + 1))))), (8, .int (nI (fm + (n + 1)))), (4, .long w), (2, .long g), (1, .int k1), (0, .ref m0)]) hx hb dM_run_141 hl (by decide) rfl (fun ls hl => ?_)
              refine lv_iinc (v := nI (fm + n)) (lv' := [(8, .int (nI (fm + n))), (6, .int mh), (7, .int fd), (9, .int (fM_holding to 0 mtot msz mat mfl mpd mk mg mw mn mgp mga mgb mfc ru g w (nI (fm + (n + 1))))), (4, .long w), (2, .long g), (1, .int k1), (0, .ref m0)]) hx hb dM_run_143 hl (k := 3) rfl (by rw [← pk_m1 (fm + n)]; rfl) (by decide) rfl (fun ls hl => ?_)
              refine lv_goto (tgt := 74) hx hb dM_run_146 (by decide) ?_
              exact ih fm mh fd hfm (by omega) (by rw [mrF, mrH, if_neg c_22] at hF; exact hF) (by rw [mrB, mrH, if_pos c_23] at hB; exact hB) _ _ hP hD hS ls (lv_sub hl [0, 2, 1, 4, 5, 6, 7] rfl)
            · skip
              refine lv_iload hx hb dM_run_134 (lv_at hl 1 rfl) ?_
              refine lv_goto (tgt := 141) hx hb dM_run_136 (by decide) ?_
              refine lv_istore (lv' := [(6, .int (fM_holding to 0 mtot msz mat mfl mpd mk mg mw mn mgp mga mgb mfc ru g w (nI (fm + (n + 1))))), (7, .int fd), (9, .int (fM_holding to 0 mtot msz mat mfl mpd mk mg mw mn mgp mga mgb mfc ru g w (nI (fm + (n + 1))))), (8, .int (nI (fm + (n + 1)))), (4, .long w), (2, .long g), (1, .int k1), (0, .ref m0)]) hx hb dM_run_141 hl (by decide) rfl (fun ls hl => ?_)
              refine lv_iinc (v := nI (fm + n)) (lv' := [(8, .int (nI (fm + n))), (6, .int (fM_holding to 0 mtot msz mat mfl mpd mk mg mw mn mgp mga mgb mfc ru g w (nI (fm + (n + 1))))), (7, .int fd), (9, .int (fM_holding to 0 mtot msz mat mfl mpd mk mg mw mn mgp mga mgb mfc ru g w (nI (fm + (n + 1))))), (4, .long w), (2, .long g), (1, .int k1), (0, .ref m0)]) hx hb dM_run_143 hl (k := 3) rfl (by rw [← pk_m1 (fm + n)]; rfl) (by decide) rfl (fun ls hl => ?_)
              refine lv_goto (tgt := 74) hx hb dM_run_146 (by decide) ?_
              exact ih fm (fM_holding to 0 mtot msz mat mfl mpd mk mg mw mn mgp mga mgb mfc ru g w (nI (fm + (n + 1)))) fd hfm (by omega) (by rw [mrF, mrH, if_neg c_22] at hF; exact hF) (by rw [mrB, mrH, if_neg c_23] at hB; exact hB) _ _ hP hD hS ls (lv_sub hl [0, 2, 1, 4, 5, 6, 7] rfl)
          · skip
            refine lv_iload hx hb dM_run_118 (lv_at hl 1 rfl) ?_
            refine lv_goto (tgt := 125) hx hb dM_run_120 (by decide) ?_
            refine lv_istore (lv' := [(7, .int (nI (fm + (n + 1)))), (9, .int (fM_holding to 0 mtot msz mat mfl mpd mk mg mw mn mgp mga mgb mfc ru g w (nI (fm + (n + 1))))), (8, .int (nI (fm + (n + 1)))), (6, .int mh), (4, .long w), (2, .long g), (1, .int k1), (0, .ref m0)]) hx hb dM_run_125 hl (by decide) rfl (fun ls hl => ?_)
            refine lv_iload hx hb dM_run_127 (lv_at hl 1 rfl) ?_
            refine lv_iload hx hb dM_run_129 (lv_at hl 3 rfl) ?_
            refine lv_icmp_le (tgt := 139) hx hb dM_run_131 (by decide) (fun c_24 => ?_) (fun c_24 => ?_)
            · skip
              refine lv_iload hx hb dM_run_139 (lv_at hl 3 rfl) ?_
              refine lv_istore (lv' := [(6, .int mh), (7, .int (nI (fm + (n + 1)))), (9, .int (fM_holding to 0 mtot msz mat mfl mpd mk mg mw mn mgp mga mgb mfc ru g w (nI (fm + (n + 1))))), (8, .int (nI (fm + (n + 1)))), (4, .long w), (2, .long g), (1, .int k1), (0, .ref m0)]) hx hb dM_run_141 hl (by decide) rfl (fun ls hl => ?_)
              refine lv_iinc (v := nI (fm + n)) (lv' := [(8, .int (nI (fm + n))), (6, .int mh), (7, .int (nI (fm + (n + 1)))), (9, .int (fM_holding to 0 mtot msz mat mfl mpd mk mg mw mn mgp mga mgb mfc ru g w (nI (fm + (n + 1))))), (4, .long w), (2, .long g), (1, .int k1), (0, .ref m0)]) hx hb dM_run_143 hl (k := 3) rfl (by rw [← pk_m1 (fm + n)]; rfl) (by decide) rfl (fun ls hl => ?_)
              refine lv_goto (tgt := 74) hx hb dM_run_146 (by decide) ?_
              exact ih fm mh (nI (fm + (n + 1))) hfm (by omega) (by rw [mrF, mrH, if_pos c_22] at hF; exact hF) (by rw [mrB, mrH, if_pos c_24] at hB; exact hB) _ _ hP hD hS ls (lv_sub hl [0, 2, 1, 4, 5, 6, 7] rfl)
            · skip
              refine lv_iload hx hb dM_run_134 (lv_at hl 1 rfl) ?_
              refine lv_goto (tgt := 141) hx hb dM_run_136 (by decide) ?_
              refine lv_istore (lv' := [(6, .int (fM_holding to 0 mtot msz mat mfl mpd mk mg mw mn mgp mga mgb mfc ru g w (nI (fm + (n + 1))))), (7, .int (nI (fm + (n + 1)))), (9, .int (fM_holding to 0 mtot msz mat mfl mpd mk mg mw mn mgp mga mgb mfc ru g w (nI (fm + (n + 1))))), (8, .int (nI (fm + (n + 1)))), (4, .long w), (2, .long g), (1, .int k1), (0, .ref m0)]) hx hb dM_run_141 hl (by decide) rfl (fun ls hl => ?_)
              refine lv_iinc (v := nI (fm + n)) (lv' := [(8, .int (nI (fm + n))), (6, .int (fM_holding to 0 mtot msz mat mfl mpd mk mg mw mn mgp mga mgb mfc ru g w (nI (fm + (n + 1))))), (7, .int (nI (fm + (n + 1)))), (9, .int (fM_holding to 0 mtot msz mat mfl mpd mk mg mw mn mgp mga mgb mfc ru g w (nI (fm + (n + 1))))), (4, .long w), (2, .long g), (1, .int k1), (0, .ref m0)]) hx hb dM_run_143 hl (k := 3) rfl (by rw [← pk_m1 (fm + n)]; rfl) (by decide) rfl (fun ls hl => ?_)
              refine lv_goto (tgt := 74) hx hb dM_run_146 (by decide) ?_
              exact ih fm (fM_holding to 0 mtot msz mat mfl mpd mk mg mw mn mgp mga mgb mfc ru g w (nI (fm + (n + 1)))) (nI (fm + (n + 1))) hfm (by omega) (by rw [mrF, mrH, if_pos c_22] at hF; exact hF) (by rw [mrB, mrH, if_neg c_24] at hB; exact hB) _ _ hP hD hS ls (lv_sub hl [0, 2, 1, 4, 5, 6, 7] rfl)
      · skip
        refine lv_iconst (v := 4) hx hb dM_run_81 (by decide) ?_
        refine lv_goto (tgt := 95) hx hb dM_run_82 (by decide) ?_
        refine lv_icmp_lt (tgt := 149) hx hb dM_run_95 (by decide) (fun c_25 => absurd c_25 (by have e9 := fewN_c2 c_15; exact (nI_nlt (by omega) (by omega) : ¬ nI (fm + (n + 1)) < nI 4))) (fun c_25 => ?_)
        refine lv_aload_n hx hb dM_run_98 rfl (lv_at hl 6 rfl) ?_
        refine lv_lload_n hx hb dM_run_99 rfl (lv_at hl 4 rfl) ?_
        refine lv_lload hx hb dM_run_100 (lv_at hl 3 rfl) ?_
        refine lv_iload hx hb dM_run_102 (lv_at hl 0 rfl) ?_
        refine tr_go (st1 := [.int (fM_holding to 0 mtot msz mat mfl mpd mk mg mw mn mgp mga mgb mfc ru g w (nI (fm + (n + 1))))]) (va_runV (As := [.long g, .long w, .int (nI (fm + (n + 1)))]) (rest := []) (C := RM) ⟨hx, hb, hml, hown, hts⟩ (c_M_holding l dC dI m0 aTy aTo aDr aBx cTo to 0 mtot msz mat mfl mpd mk mg mw mn mgp mga mgb mfc ru g w (nI (fm + (n + 1))) (by assumption)) ⟨cB 3 hts gw_661 gw_7 gw_659 ndM_holding rfl rfl ⟨Nat.le_of_ble_eq_true rfl, Nat.le_of_ble_eq_true rfl⟩, hts _ gw_660, hts _ gw_762⟩ (tp_Rv hN hK hP [0, 1] [0] rfl rfl (q0 := 0) (ci := 6) rfl rfl) rfl rfl hl.1 rfl (lv_room (Nat.le_of_ble_eq_true rfl)) dM_run_104 ⟨Nat.le_of_ble_eq_true rfl, Nat.le_of_ble_eq_true rfl⟩) rfl ?_
        refine lv_istore (lv' := [(9, .int (fM_holding to 0 mtot msz mat mfl mpd mk mg mw mn mgp mga mgb mfc ru g w (nI (fm + (n + 1))))), (8, .int (nI (fm + (n + 1)))), (7, .int fd), (6, .int mh), (4, .long w), (2, .long g), (1, .int k1), (0, .ref m0)]) hx hb dM_run_107 hl (by decide) rfl (fun ls hl => ?_)
        refine lv_iload hx hb dM_run_109 (lv_at hl 0 rfl) ?_
        refine lv_aload_n hx hb dM_run_111 rfl (lv_at hl 7 rfl) ?_
        refine va_get (D := (dC, dI)) (ci := 6) (v := .int (nI ru)) (C := RM) (T := TM) (N := 19) hx hb hts inM hown hK hP 0 rfl rfl 6 (by decide) (hts _ gw_580) (fun _ h9 => h9) rfl dM_run_112 ?_
        refine lv_icmp_ne (tgt := 123) hx hb dM_run_115 (by decide) (fun c_26 => ?_) (fun c_26 => ?_)
        · skip
          refine lv_iload hx hb dM_run_123 (lv_at hl 2 rfl) ?_
          refine lv_istore (lv' := [(7, .int fd), (9, .int (fM_holding to 0 mtot msz mat mfl mpd mk mg mw mn mgp mga mgb mfc ru g w (nI (fm + (n + 1))))), (8, .int (nI (fm + (n + 1)))), (6, .int mh), (4, .long w), (2, .long g), (1, .int k1), (0, .ref m0)]) hx hb dM_run_125 hl (by decide) rfl (fun ls hl => ?_)
          refine lv_iload hx hb dM_run_127 (lv_at hl 1 rfl) ?_
          refine lv_iload hx hb dM_run_129 (lv_at hl 3 rfl) ?_
          refine lv_icmp_le (tgt := 139) hx hb dM_run_131 (by decide) (fun c_27 => ?_) (fun c_27 => ?_)
          · skip
            refine lv_iload hx hb dM_run_139 (lv_at hl 3 rfl) ?_
            refine lv_istore (lv' := [(6, .int mh), (7, .int fd), (9, .int (fM_holding to 0 mtot msz mat mfl mpd mk mg mw mn mgp mga mgb mfc ru g w (nI (fm + (n + 1))))), (8, .int (nI (fm + (n + 1)))), (4, .long w), (2, .long g), (1, .int k1), (0, .ref m0)]) hx hb dM_run_141 hl (by decide) rfl (fun ls hl => ?_)
            refine lv_iinc (v := nI (fm + n)) (lv' := [(8, .int (nI (fm + n))), (6, .int mh), (7, .int fd), (9, .int (fM_holding to 0 mtot msz mat mfl mpd mk mg mw mn mgp mga mgb mfc ru g w (nI (fm + (n + 1))))), (4, .long w), (2, .long g), (1, .int k1), (0, .ref m0)]) hx hb dM_run_143 hl (k := 3) rfl (by rw [← pk_m1 (fm + n)]; rfl) (by decide) rfl (fun ls hl => ?_)
            refine lv_goto (tgt := 74) hx hb dM_run_146 (by decide) ?_
            exact ih fm mh fd hfm (by omega) (by rw [mrF, mrH, if_neg c_26] at hF; exact hF) (by rw [mrB, mrH, if_pos c_27] at hB; exact hB) _ _ hP hD hS ls (lv_sub hl [0, 2, 1, 4, 5, 6, 7] rfl)
          · skip
            refine lv_iload hx hb dM_run_134 (lv_at hl 1 rfl) ?_
            refine lv_goto (tgt := 141) hx hb dM_run_136 (by decide) ?_
            refine lv_istore (lv' := [(6, .int (fM_holding to 0 mtot msz mat mfl mpd mk mg mw mn mgp mga mgb mfc ru g w (nI (fm + (n + 1))))), (7, .int fd), (9, .int (fM_holding to 0 mtot msz mat mfl mpd mk mg mw mn mgp mga mgb mfc ru g w (nI (fm + (n + 1))))), (8, .int (nI (fm + (n + 1)))), (4, .long w), (2, .long g), (1, .int k1), (0, .ref m0)]) hx hb dM_run_141 hl (by decide) rfl (fun ls hl => ?_)
            refine lv_iinc (v := nI (fm + n)) (lv' := [(8, .int (nI (fm + n))), (6, .int (fM_holding to 0 mtot msz mat mfl mpd mk mg mw mn mgp mga mgb mfc ru g w (nI (fm + (n + 1))))), (7, .int fd), (9, .int (fM_holding to 0 mtot msz mat mfl mpd mk mg mw mn mgp mga mgb mfc ru g w (nI (fm + (n + 1))))), (4, .long w), (2, .long g), (1, .int k1), (0, .ref m0)]) hx hb dM_run_143 hl (k := 3) rfl (by rw [← pk_m1 (fm + n)]; rfl) (by decide) rfl (fun ls hl => ?_)
            refine lv_goto (tgt := 74) hx hb dM_run_146 (by decide) ?_
            exact ih fm (fM_holding to 0 mtot msz mat mfl mpd mk mg mw mn mgp mga mgb mfc ru g w (nI (fm + (n + 1)))) fd hfm (by omega) (by rw [mrF, mrH, if_neg c_26] at hF; exact hF) (by rw [mrB, mrH, if_neg c_27] at hB; exact hB) _ _ hP hD hS ls (lv_sub hl [0, 2, 1, 4, 5, 6, 7] rfl)
        · skip
          refine lv_iload hx hb dM_run_118 (lv_at hl 1 rfl) ?_
          refine lv_goto (tgt := 125) hx hb dM_run_120 (by decide) ?_
          refine lv_istore (lv' := [(7, .int (nI (fm + (n + 1)))), (9, .int (fM_holding to 0 mtot msz mat mfl mpd mk mg mw mn mgp mga mgb mfc ru g w (nI (fm + (n + 1))))), (8, .int (nI (fm + (n + 1)))), (6, .int mh), (4, .long w), (2, .long g), (1, .int k1), (0, .ref m0)]) hx hb dM_run_125 hl (by decide) rfl (fun ls hl => ?_)
          refine lv_iload hx hb dM_run_127 (lv_at hl 1 rfl) ?_
          refine lv_iload hx hb dM_run_129 (lv_at hl 3 rfl) ?_
          refine lv_icmp_le (tgt := 139) hx hb dM_run_131 (by decide) (fun c_28 => ?_) (fun c_28 => ?_)
          · skip
            refine lv_iload hx hb dM_run_139 (lv_at hl 3 rfl) ?_
            refine lv_istore (lv' := [(6, .int mh), (7, .int (nI (fm + (n + 1)))), (9, .int (fM_holding to 0 mtot msz mat mfl mpd mk mg mw mn mgp mga mgb mfc ru g w (nI (fm + (n + 1))))), (8, .int (nI (fm + (n + 1)))), (4, .long w), (2, .long g), (1, .int k1), (0, .ref m0)]) hx hb dM_run_141 hl (by decide) rfl (fun ls hl => ?_)
            refine lv_iinc (v := nI (fm + n)) (lv' := [(8, .int (nI (fm + n))), (6, .int mh), (7, .int (nI (fm + (n + 1)))), (9, .int (fM_holding to 0 mtot msz mat mfl mpd mk mg mw mn mgp mga mgb mfc ru g w (nI (fm + (n + 1))))), (4, .long w), (2, .long g), (1, .int k1), (0, .ref m0)]) hx hb dM_run_143 hl (k := 3) rfl (by rw [← pk_m1 (fm + n)]; rfl) (by decide) rfl (fun ls hl => ?_)
            refine lv_goto (tgt := 74) hx hb dM_run_146 (by decide) ?_
            exact ih fm mh (nI (fm + (n + 1))) hfm (by omega) (by rw [mrF, mrH, if_pos c_26] at hF; exact hF) (by rw [mrB, mrH, if_pos c_28] at hB; exact hB) _ _ hP hD hS ls (lv_sub hl [0, 2, 1, 4, 5, 6, 7] rfl)
          · skip
            refine lv_iload hx hb dM_run_134 (lv_at hl 1 rfl) ?_
            refine lv_goto (tgt := 141) hx hb dM_run_136 (by decide) ?_
            refine lv_istore (lv' := [(6, .int (fM_holding to 0 mtot msz mat mfl mpd mk mg mw mn mgp mga mgb mfc ru g w (nI (fm + (n + 1))))), (7, .int (nI (fm + (n + 1)))), (9, .int (fM_holding to 0 mtot msz mat mfl mpd mk mg mw mn mgp mga mgb mfc ru g w (nI (fm + (n + 1))))), (8, .int (nI (fm + (n + 1)))), (4, .long w), (2, .long g), (1, .int k1), (0, .ref m0)]) hx hb dM_run_141 hl (by decide) rfl (fun ls hl => ?_)
            refine lv_iinc (v := nI (fm + n)) (lv' := [(8, .int (nI (fm + n))), (6, .int (fM_holding to 0 mtot msz mat mfl mpd mk mg mw mn mgp mga mgb mfc ru g w (nI (fm + (n + 1))))), (7, .int (nI (fm + (n + 1)))), (9, .int (fM_holding to 0 mtot msz mat mfl mpd mk mg mw mn mgp mga mgb mfc ru g w (nI (fm + (n + 1))))), (4, .long w), (2, .long g), (1, .int k1), (0, .ref m0)]) hx hb dM_run_143 hl (k := 3) rfl (by rw [← pk_m1 (fm + n)]; rfl) (by decide) rfl (fun ls hl => ?_)
            refine lv_goto (tgt := 74) hx hb dM_run_146 (by decide) ?_
            exact ih fm (fM_holding to 0 mtot msz mat mfl mpd mk mg mw mn mgp mga mgb mfc ru g w (nI (fm + (n + 1)))) (nI (fm + (n + 1))) hfm (by omega) (by rw [mrF, mrH, if_pos c_26] at hF; exact hF) (by rw [mrB, mrH, if_neg c_28] at hB; exact hB) _ _ hP hD hS ls (lv_sub hl [0, 2, 1, 4, 5, 6, 7] rfl)
  refine lv_aload_n hx hb dM_run_0 rfl (lv_at hl 0 rfl) ?_
  refine lv_aload_n hx hb dM_run_1 rfl (lv_at hl 0 rfl) ?_
  refine va_get (D := (dC, dI)) (ci := 6) (v := .int (nI ru)) (C := RM) (T := TM) (N := 19) hx hb hts inM hown hK hP 0 rfl rfl 6 (by decide) (hts _ gw_580) (fun _ h9 => h9) rfl dM_run_2 ?_
  refine lv_if_ne (tgt := 12) hx hb dM_run_5 (by decide) (fun c_29 => ?_) (fun c_29 => ?_)
  · skip
    refine lv_iload_n hx hb dM_run_12 rfl (lv_at hl 1 rfl) ?_
    refine lv_i2l (v := k1.toInt64) hx hb dM_run_13 rfl ?_
    refine lv_lconst (v := 0) hx hb dM_run_14 (by decide) ?_
    refine lv_ldc2 (v := 2) hx hb hown (hts _ gw_657) dM_run_15 ?_
    refine tr_go (st1 := [.int (bI (fM_isIn k1.toInt64 0 2)), .ref m0]) (va_runS (As := [.long k1.toInt64, .long 0, .long 2]) (rest := [.ref m0]) ⟨hx, hb, hml, hown, hts⟩ (c_M_isIn l dC dI k1.toInt64 0 2) ⟨cB 3 hts gw_623 gw_7 gw_621 ndM_isIn rfl rfl ⟨Nat.le_of_ble_eq_true rfl, Nat.le_of_ble_eq_true rfl⟩, hts _ gw_622⟩ (tp_Rs hN hK hP [] [] rfl rfl) rfl rfl hl.1 rfl (lv_room (Nat.le_of_ble_eq_true rfl)) dM_run_18 ⟨Nat.le_of_ble_eq_true rfl, Nat.le_of_ble_eq_true rfl⟩) rfl ?_
    refine tb_ifeq (tgt := 51) hx hb dM_run_21 (by decide) (fun c_30 => ?_) (fun c_30 => ?_)
    · skip
      refine lv_iconst (v := 2) hx hb dM_run_51 (by decide) ?_
      refine va_put (D := (dC, dI)) (ci := 6) (v := .int 2) (ty := .int) (C := RM) (T := TM) (N := 19) hx hb hts inM yM yoM noM hown hK hP hD hS 0 rfl rfl 0 (by decide) (hts _ gw_574) (fun _ h9 => h9) rfl (by decide +kernel) rfl rfl (Nat.le_of_ble_eq_true rfl) dM_run_52 (fun H locs hP hD hS => ?_)
      have hP : va_P (dC, dI) vCl [(m0, .inr (6, [.int 2, .long mtot, .ref aTy, .int msz, .int mat, .int mfl, .int (nI ru), .ref aTo, .ref aDr, .int (bI mpd), .int mk, .long mg, .long mw, .int mn, .int (bI mgp), .long mga, .long mgb, .int mfc, .ref aBx])), (aTo, .inl (cTo, 56, .inl to))] H := hP
      have hD : va_D A [(m0, .inr (6, [.int 2, .long mtot, .ref aTy, .int msz, .int mat, .int mfl, .int (nI ru), .ref aTo, .ref aDr, .int (bI mpd), .int mk, .long mg, .long mw, .int mn, .int (bI mgp), .long mga, .long mgb, .int mfc, .ref aBx])), (aTo, .inl (cTo, 56, .inl to))] := hD
      refine lv_aload_n hx hb dM_run_55 rfl (lv_at hl 0 rfl) ?_
      refine va_get (D := (dC, dI)) (ci := 6) (v := .int 2) (C := RM) (T := TM) (N := 19) hx hb hts inM hown hK hP 0 rfl rfl 0 (by decide) (hts _ gw_574) (fun _ h9 => h9) rfl dM_run_56 ?_
      refine lv_if_le (tgt := 64) hx hb dM_run_59 (by decide) (fun c_31 => absurd c_31 (by decide)) (fun c_31 => ?_)
      refine lv_iconst (v := 0) hx hb dM_run_62 (by decide) ?_
      exact absurd (he.symm.trans (show mrunC ru k1 g w = 2 from by unfold mrunC; rw [if_neg c_29, if_neg (Bool.eq_false_iff.mp c_30)])) (by decide)
    · skip
      refine lv_lload_n hx hb dM_run_24 rfl (lv_at hl 2 rfl) ?_
      refine lv_lconst (v := 1) hx hb dM_run_25 (by decide) ?_
      refine lv_ldc2 (v := 10000) hx hb hown (hts _ gw_658) dM_run_26 ?_
      refine tr_go (st1 := [.int (bI (fM_isIn g 1 10000)), .ref m0]) (va_runS (As := [.long g, .long 1, .long 10000]) (rest := [.ref m0]) ⟨hx, hb, hml, hown, hts⟩ (c_M_isIn l dC dI g 1 10000) ⟨cB 3 hts gw_623 gw_7 gw_621 ndM_isIn rfl rfl ⟨Nat.le_of_ble_eq_true rfl, Nat.le_of_ble_eq_true rfl⟩, hts _ gw_622⟩ (tp_Rs hN hK hP [] [] rfl rfl) rfl rfl hl.1 rfl (lv_room (Nat.le_of_ble_eq_true rfl)) dM_run_29 ⟨Nat.le_of_ble_eq_true rfl, Nat.le_of_ble_eq_true rfl⟩) rfl ?_
      refine tb_ifeq (tgt := 51) hx hb dM_run_32 (by decide) (fun c_32 => ?_) (fun c_32 => ?_)
      · skip
        refine lv_iconst (v := 2) hx hb dM_run_51 (by decide) ?_
        refine va_put (D := (dC, dI)) (ci := 6) (v := .int 2) (ty := .int) (C := RM) (T := TM) (N := 19) hx hb hts inM yM yoM noM hown hK hP hD hS 0 rfl rfl 0 (by decide) (hts _ gw_574) (fun _ h9 => h9) rfl (by decide +kernel) rfl rfl (Nat.le_of_ble_eq_true rfl) dM_run_52 (fun H locs hP hD hS => ?_)
        have hP : va_P (dC, dI) vCl [(m0, .inr (6, [.int 2, .long mtot, .ref aTy, .int msz, .int mat, .int mfl, .int (nI ru), .ref aTo, .ref aDr, .int (bI mpd), .int mk, .long mg, .long mw, .int mn, .int (bI mgp), .long mga, .long mgb, .int mfc, .ref aBx])), (aTo, .inl (cTo, 56, .inl to))] H := hP
        have hD : va_D A [(m0, .inr (6, [.int 2, .long mtot, .ref aTy, .int msz, .int mat, .int mfl, .int (nI ru), .ref aTo, .ref aDr, .int (bI mpd), .int mk, .long mg, .long mw, .int mn, .int (bI mgp), .long mga, .long mgb, .int mfc, .ref aBx])), (aTo, .inl (cTo, 56, .inl to))] := hD
        refine lv_aload_n hx hb dM_run_55 rfl (lv_at hl 0 rfl) ?_
        refine va_get (D := (dC, dI)) (ci := 6) (v := .int 2) (C := RM) (T := TM) (N := 19) hx hb hts inM hown hK hP 0 rfl rfl 0 (by decide) (hts _ gw_574) (fun _ h9 => h9) rfl dM_run_56 ?_
        refine lv_if_le (tgt := 64) hx hb dM_run_59 (by decide) (fun c_33 => absurd c_33 (by decide)) (fun c_33 => ?_)
        refine lv_iconst (v := 0) hx hb dM_run_62 (by decide) ?_
        exact absurd (he.symm.trans (show mrunC ru k1 g w = 2 from by unfold mrunC; rw [if_neg c_29, if_pos c_30, if_neg (Bool.eq_false_iff.mp c_32)])) (by decide)
      · skip
        refine lv_lload hx hb dM_run_35 (lv_at hl 3 rfl) ?_
        refine lv_lconst (v := 1) hx hb dM_run_37 (by decide) ?_
        refine lv_ldc2 (v := 10000) hx hb hown (hts _ gw_658) dM_run_38 ?_
        refine tr_go (st1 := [.int (bI (fM_isIn w 1 10000)), .ref m0]) (va_runS (As := [.long w, .long 1, .long 10000]) (rest := [.ref m0]) ⟨hx, hb, hml, hown, hts⟩ (c_M_isIn l dC dI w 1 10000) ⟨cB 3 hts gw_623 gw_7 gw_621 ndM_isIn rfl rfl ⟨Nat.le_of_ble_eq_true rfl, Nat.le_of_ble_eq_true rfl⟩, hts _ gw_622⟩ (tp_Rs hN hK hP [] [] rfl rfl) rfl rfl hl.1 rfl (lv_room (Nat.le_of_ble_eq_true rfl)) dM_run_41 ⟨Nat.le_of_ble_eq_true rfl, Nat.le_of_ble_eq_true rfl⟩) rfl ?_
        refine tb_ifeq (tgt := 51) hx hb dM_run_44 (by decide) (fun c_34 => ?_) (fun c_34 => ?_)
        · skip
          refine lv_iconst (v := 2) hx hb dM_run_51 (by decide) ?_
          refine va_put (D := (dC, dI)) (ci := 6) (v := .int 2) (ty := .int) (C := RM) (T := TM) (N := 19) hx hb hts inM yM yoM noM hown hK hP hD hS 0 rfl rfl 0 (by decide) (hts _ gw_574) (fun _ h9 => h9) rfl (by decide +kernel) rfl rfl (Nat.le_of_ble_eq_true rfl) dM_run_52 (fun H locs hP hD hS => ?_)
          have hP : va_P (dC, dI) vCl [(m0, .inr (6, [.int 2, .long mtot, .ref aTy, .int msz, .int mat, .int mfl, .int (nI ru), .ref aTo, .ref aDr, .int (bI mpd), .int mk, .long mg, .long mw, .int mn, .int (bI mgp), .long mga, .long mgb, .int mfc, .ref aBx])), (aTo, .inl (cTo, 56, .inl to))] H := hP
          have hD : va_D A [(m0, .inr (6, [.int 2, .long mtot, .ref aTy, .int msz, .int mat, .int mfl, .int (nI ru), .ref aTo, .ref aDr, .int (bI mpd), .int mk, .long mg, .long mw, .int mn, .int (bI mgp), .long mga, .long mgb, .int mfc, .ref aBx])), (aTo, .inl (cTo, 56, .inl to))] := hD
          refine lv_aload_n hx hb dM_run_55 rfl (lv_at hl 0 rfl) ?_
          refine va_get (D := (dC, dI)) (ci := 6) (v := .int 2) (C := RM) (T := TM) (N := 19) hx hb hts inM hown hK hP 0 rfl rfl 0 (by decide) (hts _ gw_574) (fun _ h9 => h9) rfl dM_run_56 ?_
          refine lv_if_le (tgt := 64) hx hb dM_run_59 (by decide) (fun c_35 => absurd c_35 (by decide)) (fun c_35 => ?_)
          refine lv_iconst (v := 0) hx hb dM_run_62 (by decide) ?_
          exact absurd (he.symm.trans (show mrunC ru k1 g w = 2 from by unfold mrunC; rw [if_neg c_29, if_pos c_30, if_pos c_32, if_neg (Bool.eq_false_iff.mp c_34)])) (by decide)
        · skip
          refine lv_iconst (v := 0) hx hb dM_run_47 (by decide) ?_
          refine lv_goto (tgt := 52) hx hb dM_run_48 (by decide) ?_
          refine va_put (D := (dC, dI)) (ci := 6) (v := .int 0) (ty := .int) (C := RM) (T := TM) (N := 19) hx hb hts inM yM yoM noM hown hK hP hD hS 0 rfl rfl 0 (by decide) (hts _ gw_574) (fun _ h9 => h9) rfl (by decide +kernel) rfl rfl (Nat.le_of_ble_eq_true rfl) dM_run_52 (fun H locs hP hD hS => ?_)
          have hP : va_P (dC, dI) vCl [(m0, .inr (6, [.int 0, .long mtot, .ref aTy, .int msz, .int mat, .int mfl, .int (nI ru), .ref aTo, .ref aDr, .int (bI mpd), .int mk, .long mg, .long mw, .int mn, .int (bI mgp), .long mga, .long mgb, .int mfc, .ref aBx])), (aTo, .inl (cTo, 56, .inl to))] H := hP
          have hD : va_D A [(m0, .inr (6, [.int 0, .long mtot, .ref aTy, .int msz, .int mat, .int mfl, .int (nI ru), .ref aTo, .ref aDr, .int (bI mpd), .int mk, .long mg, .long mw, .int mn, .int (bI mgp), .long mga, .long mgb, .int mfc, .ref aBx])), (aTo, .inl (cTo, 56, .inl to))] := hD
          refine lv_aload_n hx hb dM_run_55 rfl (lv_at hl 0 rfl) ?_
          refine va_get (D := (dC, dI)) (ci := 6) (v := .int 0) (C := RM) (T := TM) (N := 19) hx hb hts inM hown hK hP 0 rfl rfl 0 (by decide) (hts _ gw_574) (fun _ h9 => h9) rfl dM_run_56 ?_
          refine lv_if_le (tgt := 64) hx hb dM_run_59 (by decide) (fun c_36 => ?_) (fun c_36 => absurd (by decide) c_36)
          refine lv_iconst (v := 0) hx hb dM_run_64 (by decide) ?_
          refine lv_istore (lv' := [(6, .int 0), (0, .ref m0), (1, .int k1), (2, .long g), (4, .long w)]) hx hb dM_run_65 hl (by decide) rfl (fun ls hl => ?_)
          refine lv_iconst (v := (-1)) hx hb dM_run_67 (by decide) ?_
          refine lv_istore (lv' := [(7, .int (-1)), (6, .int 0), (0, .ref m0), (1, .int k1), (2, .long g), (4, .long w)]) hx hb dM_run_68 hl (by decide) rfl (fun ls hl => ?_)
          refine lv_bipush (v := 60) hx hb dM_run_70 (by decide) ?_
          refine lv_istore (lv' := [(8, .int 60), (7, .int (-1)), (6, .int 0), (0, .ref m0), (1, .int k1), (2, .long g), (4, .long w)]) hx hb dM_run_72 hl (by decide) rfl (fun ls hl => ?_)
          have hl : lv_has ls 10 [(8, .int (nI (fewN k1 - 1 + (61 - fewN k1)))), (7, .int (-1)), (6, .int 0), (0, .ref m0), (1, .int k1), (2, .long g), (4, .long w)] := by rw [show (nI (fewN k1 - 1 + (61 - fewN k1)) : Int32) = 60 from by rw [show fewN k1 - 1 + (61 - fewN k1) = 60 from by have := fewN_p k1; have := fewN_4 k1; omega]; rfl]; exact hl
          exact loop (61 - fewN k1) (fewN k1 - 1) 0 (-1) (by have := fewN_p k1; omega) (by have := fewN_p k1; have := fewN_4 k1; omega) rfl rfl _ _ hP hD hS ls (lv_sub hl [0, 1, 2, 6, 5, 4, 3] rfl)
  · skip
    refine lv_iconst (v := 1) hx hb dM_run_8 (by decide) ?_
    refine lv_goto (tgt := 52) hx hb dM_run_9 (by decide) ?_
    refine va_put (D := (dC, dI)) (ci := 6) (v := .int 1) (ty := .int) (C := RM) (T := TM) (N := 19) hx hb hts inM yM yoM noM hown hK hP hD hS 0 rfl rfl 0 (by decide) (hts _ gw_574) (fun _ h9 => h9) rfl (by decide +kernel) rfl rfl (Nat.le_of_ble_eq_true rfl) dM_run_52 (fun H locs hP hD hS => ?_)
    have hP : va_P (dC, dI) vCl [(m0, .inr (6, [.int 1, .long mtot, .ref aTy, .int msz, .int mat, .int mfl, .int (nI ru), .ref aTo, .ref aDr, .int (bI mpd), .int mk, .long mg, .long mw, .int mn, .int (bI mgp), .long mga, .long mgb, .int mfc, .ref aBx])), (aTo, .inl (cTo, 56, .inl to))] H := hP
    have hD : va_D A [(m0, .inr (6, [.int 1, .long mtot, .ref aTy, .int msz, .int mat, .int mfl, .int (nI ru), .ref aTo, .ref aDr, .int (bI mpd), .int mk, .long mg, .long mw, .int mn, .int (bI mgp), .long mga, .long mgb, .int mfc, .ref aBx])), (aTo, .inl (cTo, 56, .inl to))] := hD
    refine lv_aload_n hx hb dM_run_55 rfl (lv_at hl 0 rfl) ?_
    refine va_get (D := (dC, dI)) (ci := 6) (v := .int 1) (C := RM) (T := TM) (N := 19) hx hb hts inM hown hK hP 0 rfl rfl 0 (by decide) (hts _ gw_574) (fun _ h9 => h9) rfl dM_run_56 ?_
    refine lv_if_le (tgt := 64) hx hb dM_run_59 (by decide) (fun c_37 => absurd c_37 (by decide)) (fun c_37 => ?_)
    refine lv_iconst (v := 0) hx hb dM_run_62 (by decide) ?_
    exact absurd (he.symm.trans (show mrunC ru k1 g w = 1 from by unfold mrunC; rw [if_pos c_29])) (by decide)


set_option maxHeartbeats 4000000 in
set_option maxRecDepth 100000 in
theorem c_M_run_none (l : Launch) (dC : Nat → ClassId) (dI : Nat → Nat → Nat) (m0 : Nat) (aTy : Nat) (aTo : Nat) (aDr : Nat) (aBx : Nat) (cTo : ClassId) (to : Nat → Int32) (mcode : Int32) (mtot : Int64) (msz : Int32) (mat : Int32) (mfl : Int32) (mpd : Bool) (mk : Int32) (mg : Int64) (mw : Int64) (mn : Int32) (mgp : Bool) (mga : Int64) (mgb : Int64) (mfc : Int32) (ru : Nat) (k1 : Int32) (g : Int64) (w : Int64) (hru : ru ≤ 8) (he : mrunC ru k1 g w = 0) (hfd : mrF to mtot msz mat mfl mpd mk mg mw mn mgp mga mgb mfc ru g w (fewN k1 - 1) (61 - fewN k1) (-1) ≤ 0) : Met l mM_run wM_run ({ frames := 2, cells := 0, slots := 0, locals := 57 }) (tp_W (dC, dI) vCl [.ref m0, .int k1, .long g, .long w] [(m0, .inr (6, [.int mcode, .long mtot, .ref aTy, .int msz, .int mat, .int mfl, .int (nI ru), .ref aTo, .ref aDr, .int (bI mpd), .int mk, .long mg, .long mw, .int mn, .int (bI mgp), .long mga, .long mgb, .int mfc, .ref aBx])), (aTo, .inl (cTo, 56, .inl to))] [(cTo, .int)]) (tq_W (dC, dI) vCl (some (.int ((-1) - (mrB to mtot msz mat mfl mpd mk mg mw mn mgp mga mgb mfc ru g w (fewN k1 - 1) (61 - fewN k1) 0)))) [(m0, .inr (6, [.int mcode, .long mtot, .ref aTy, .int msz, .int mat, .int mfl, .int (nI ru), .ref aTo, .ref aDr, .int (bI mpd), .int mk, .long mg, .long mw, .int mn, .int (bI mgp), .long mga, .long mgb, .int mfc, .ref aBx])), (aTo, .inl (cTo, 56, .inl to))] [(m0, .inr (6, [.int 0, .long mtot, .ref aTy, .int msz, .int mat, .int mfl, .int (nI ru), .ref aTo, .ref aDr, .int (bI false), .int mk, .long mg, .long mw, .int mn, .int (bI mgp), .long mga, .long mgb, .int mfc, .ref aBx])), (aTo, .inl (cTo, 56, .inl to))]) 0 0 (tA [(m0, .inr (6, [.int mcode, .long mtot, .ref aTy, .int msz, .int mat, .int mfl, .int (nI ru), .ref aTo, .ref aDr, .int (bI mpd), .int mk, .long mg, .long mw, .int mn, .int (bI mgp), .long mga, .long mgb, .int mfc, .ref aBx])), (aTo, .inl (cTo, 56, .inl to))]) := by
  refine Met.ofW (cc := bM_run) (maxL := 10) (ret := (some .int)) (by decide) rfl ?_
  intro p e s m args below meth c s₁ B hml hv
  obtain ⟨rfl, hP, hK, hN, hD0⟩ := hv
  have hx := B.exec
  have hb := B.bytes
  have hr := B.returns
  have hts : ∀ w ∈ gT, w.before _ s = true := fun w h => atoms_spec (ws := wM_run) B.pre w (List.mem_cons_of_mem _ h)
  have hown : s.vm.findClass RM = some m.cls := findClass_of_methodNamed B.named
  have hlocks := B.notSynchronized
  have hD := tA_D hD0
  generalize hAe : tA [(m0, .inr (6, [.int mcode, .long mtot, .ref aTy, .int msz, .int mat, .int mfl, .int (nI ru), .ref aTo, .ref aDr, .int (bI mpd), .int mk, .long mg, .long mw, .int mn, .int (bI mgp), .long mga, .long mgb, .int mfc, .ref aBx])), (aTo, .inl (cTo, 56, .inl to))] = A at hD ⊢
  have hS : va_S A s.heap s.heap [] := va_S.rf
  have hP : va_P (dC, dI) vCl [(m0, .inr (6, [.int mcode, .long mtot, .ref aTy, .int msz, .int mat, .int mfl, .int (nI ru), .ref aTo, .ref aDr, .int (bI mpd), .int mk, .long mg, .long mw, .int mn, .int (bI mgp), .long mga, .long mgb, .int mfc, .ref aBx])), (aTo, .inl (cTo, 56, .inl to))] s.heap := hP
  have hl := lv_entry ([.ref m0, .int k1, .long g, .long w]) (n := 10) (Nat.le_of_ble_eq_true rfl)
  rw [lg_entry_eq]
  generalize (lg_sl ([.ref m0, .int k1, .long g, .long w]) ++ List.replicate (10 - (lg_sl ([.ref m0, .int k1, .long g, .long w])).length) Slot.unset).toArray = ls at hl ⊢
  have hl : lv_has ls 10 [(0, .ref m0), (1, .int k1), (2, .long g), (4, .long w)] := hl
  have loop : ∀ (n : Nat) (fm : Nat) (mh : Int32) (fd : Int32) (hfm : fm + 1 = fewN k1) (hb9 : fm + n ≤ 60) (hF : mrF to mtot msz mat mfl mpd mk mg mw mn mgp mga mgb mfc ru g w fm n fd = mrF to mtot msz mat mfl mpd mk mg mw mn mgp mga mgb mfc ru g w (fewN k1 - 1) (61 - fewN k1) (-1)) (hB : mrB to mtot msz mat mfl mpd mk mg mw mn mgp mga mgb mfc ru g w fm n mh = mrB to mtot msz mat mfl mpd mk mg mw mn mgp mga mgb mfc ru g w (fewN k1 - 1) (61 - fewN k1) 0) (H : Heap) (locs : List Loc) (hP : va_P (dC, dI) vCl [(m0, .inr (6, [.int 0, .long mtot, .ref aTy, .int msz, .int mat, .int mfl, .int (nI ru), .ref aTo, .ref aDr, .int (bI mpd), .int mk, .long mg, .long mw, .int mn, .int (bI mgp), .long mga, .long mgb, .int mfc, .ref aBx])), (aTo, .inl (cTo, 56, .inl to))] H) (hD : va_D A [(m0, .inr (6, [.int 0, .long mtot, .ref aTy, .int msz, .int mat, .int mfl, .int (nI ru), .ref aTo, .ref aDr, .int (bI mpd), .int mk, .long mg, .long mw, .int mn, .int (bI mgp), .long mga, .long mgb, .int mfc, .ref aBx])), (aTo, .inl (cTo, 56, .inl to))]) (hS : va_S A s.heap H locs) (ls : Array Slot), lv_has ls 10 [(8, .int (nI (fm + n))), (7, .int fd), (6, .int mh), (4, .long w), (2, .long g), (1, .int k1), (0, .ref m0)] → W p l e (headSpec wM_run ({ frames := 2, cells := 0, slots := 0, locals := 57 })).room s m ([.ref m0, .int k1, .long g, .long w] : List Value).toArray below meth c H locs 0 0 (MQ below (tq_W (dC, dI) vCl (some (.int ((-1) - (mrB to mtot msz mat mfl mpd mk mg mw mn mgp mga mgb mfc ru g w (fewN k1 - 1) (61 - fewN k1) 0)))) [(m0, .inr (6, [.int mcode, .long mtot, .ref aTy, .int msz, .int mat, .int mfl, .int (nI ru), .ref aTo, .ref aDr, .int (bI mpd), .int mk, .long mg, .long mw, .int mn, .int (bI mgp), .long mga, .long mgb, .int mfc, .ref aBx])), (aTo, .inl (cTo, 56, .inl to))] [(m0, .inr (6, [.int 0, .long mtot, .ref aTy, .int msz, .int mat, .int mfl, .int (nI ru), .ref aTo, .ref aDr, .int (bI false), .int mk, .long mg, .long mw, .int mn, .int (bI mgp), .long mga, .long mgb, .int mfc, .ref aBx])), (aTo, .inl (cTo, 56, .inl to))]) ([.ref m0, .int k1, .long g, .long w] : List Value).toArray s 0 0 A) (F0 m 74 ls []) := by
    intro n
    induction n with
    | zero =>
      intro fm mh fd hfm hb9 hF hB H locs hP hD hS ls hl
      refine lv_iload hx hb dM_run_74 (lv_at hl 0 rfl) ?_
      refine lv_iload_n hx hb dM_run_76 rfl (lv_at hl 5 rfl) ?_
      refine lv_iconst (v := 2) hx hb dM_run_77 (by decide) ?_
      refine lv_icmp_ne (tgt := 85) hx hb dM_run_78 (by decide) (fun c_1 => ?_) (fun c_1 => ?_)
      · skip
        refine lv_iload_n hx hb dM_run_85 rfl (lv_at hl 5 rfl) ?_
        refine lv_iconst (v := 1) hx hb dM_run_86 (by decide) ?_
        refine lv_icmp_ne (tgt := 94) hx hb dM_run_87 (by decide) (fun c_2 => ?_) (fun c_2 => ?_)
        · skip
          refine lv_iconst (v := 1) hx hb dM_run_94 (by decide) ?_
          refine lv_icmp_lt (tgt := 149) hx hb dM_run_95 (by decide) (fun c_3 => ?_) (fun c_3 => absurd (by have e9 := fewN_c0 c_1 c_2; exact (nI_lt (by omega) (by decide) : nI (fm + 0) < nI 1)) c_3)
          refine lv_aload_n hx hb dM_run_149 rfl (lv_at hl 6 rfl) ?_
          refine lv_iload hx hb dM_run_150 (lv_at hl 1 rfl) ?_
          refine lv_if_le (tgt := 159) hx hb dM_run_152 (by decide) (fun c_4 => ?_) (fun c_4 => ?_)
          · skip
            refine lv_iconst (v := 0) hx hb dM_run_159 (by decide) ?_
            refine va_put (D := (dC, dI)) (ci := 6) (v := .int 0) (ty := .boolean) (C := RM) (T := TM) (N := 19) hx hb hts inM yM yoM noM hown hK hP hD hS 0 rfl rfl 9 (by decide) (hts _ gw_583) (fun _ h9 => h9) rfl (by decide +kernel) rfl rfl (Nat.le_of_ble_eq_true rfl) dM_run_160 (fun H locs hP hD hS => ?_)
            have hP : va_P (dC, dI) vCl [(m0, .inr (6, [.int 0, .long mtot, .ref aTy, .int msz, .int mat, .int mfl, .int (nI ru), .ref aTo, .ref aDr, .int 0, .int mk, .long mg, .long mw, .int mn, .int (bI mgp), .long mga, .long mgb, .int mfc, .ref aBx])), (aTo, .inl (cTo, 56, .inl to))] H := hP
            have hD : va_D A [(m0, .inr (6, [.int 0, .long mtot, .ref aTy, .int msz, .int mat, .int mfl, .int (nI ru), .ref aTo, .ref aDr, .int 0, .int mk, .long mg, .long mw, .int mn, .int (bI mgp), .long mga, .long mgb, .int mfc, .ref aBx])), (aTo, .inl (cTo, 56, .inl to))] := hD
            refine lv_aload_n hx hb dM_run_163 rfl (lv_at hl 6 rfl) ?_
            refine va_get (D := (dC, dI)) (ci := 6) (v := .int 0) (C := RM) (T := TM) (N := 19) hx hb hts inM hown hK hP 0 rfl rfl 9 (by decide) (hts _ gw_583) (fun _ h9 => h9) rfl dM_run_164 ?_
            refine lv_if_ne (tgt := 175) hx hb dM_run_167 (by decide) (fun c_5 => absurd (by decide) c_5) (fun c_5 => ?_)
            refine lv_iconst (v := (-1)) hx hb dM_run_170 (by decide) ?_
            refine lv_iload hx hb dM_run_171 (lv_at hl 2 rfl) ?_
            refine lv_isub hx hb dM_run_173 ?_
            have ef : fd = mrF to mtot msz mat mfl mpd mk mg mw mn mgp mga mgb mfc ru g w (fewN k1 - 1) (61 - fewN k1) (-1) := hF
            have eb : mh = mrB to mtot msz mat mfl mpd mk mg mw mn mgp mga mgb mfc ru g w (fewN k1 - 1) (61 - fewN k1) 0 := hB
            exact W.iret (v := (-1) - mh) hx hb hr (fun t ht hW => ⟨by rw [eb], by rw [ht]; exact hP, by rw [hAe]; exact hS.F ht⟩) hS.2.2 dM_run_174
          · skip
            refine lv_iconst (v := 1) hx hb dM_run_155 (by decide) ?_
            refine lv_goto (tgt := 160) hx hb dM_run_156 (by decide) ?_
            refine va_put (D := (dC, dI)) (ci := 6) (v := .int 1) (ty := .boolean) (C := RM) (T := TM) (N := 19) hx hb hts inM yM yoM noM hown hK hP hD hS 0 rfl rfl 9 (by decide) (hts _ gw_583) (fun _ h9 => h9) rfl (by decide +kernel) rfl rfl (Nat.le_of_ble_eq_true rfl) dM_run_160 (fun H locs hP hD hS => ?_)
            have hP : va_P (dC, dI) vCl [(m0, .inr (6, [.int 0, .long mtot, .ref aTy, .int msz, .int mat, .int mfl, .int (nI ru), .ref aTo, .ref aDr, .int 1, .int mk, .long mg, .long mw, .int mn, .int (bI mgp), .long mga, .long mgb, .int mfc, .ref aBx])), (aTo, .inl (cTo, 56, .inl to))] H := hP
            have hD : va_D A [(m0, .inr (6, [.int 0, .long mtot, .ref aTy, .int msz, .int mat, .int mfl, .int (nI ru), .ref aTo, .ref aDr, .int 1, .int mk, .long mg, .long mw, .int mn, .int (bI mgp), .long mga, .long mgb, .int mfc, .ref aBx])), (aTo, .inl (cTo, 56, .inl to))] := hD
            refine lv_aload_n hx hb dM_run_163 rfl (lv_at hl 6 rfl) ?_
            refine va_get (D := (dC, dI)) (ci := 6) (v := .int 1) (C := RM) (T := TM) (N := 19) hx hb hts inM hown hK hP 0 rfl rfl 9 (by decide) (hts _ gw_583) (fun _ h9 => h9) rfl dM_run_164 ?_
            refine lv_if_ne (tgt := 175) hx hb dM_run_167 (by decide) (fun c_6 => ?_) (fun c_6 => absurd c_6 (by decide))
            refine lv_aload_n hx hb dM_run_175 rfl (lv_at hl 6 rfl) ?_
            refine lv_iload_n hx hb dM_run_176 rfl (lv_at hl 5 rfl) ?_
            refine va_put (D := (dC, dI)) (ci := 6) (v := .int k1) (ty := .int) (C := RM) (T := TM) (N := 19) hx hb hts inM yM yoM noM hown hK hP hD hS 0 rfl rfl 10 (by decide) (hts _ gw_584) (fun _ h9 => h9) rfl (by decide +kernel) rfl rfl (Nat.le_of_ble_eq_true rfl) dM_run_177 (fun H locs hP hD hS => ?_)
            have hP : va_P (dC, dI) vCl [(m0, .inr (6, [.int 0, .long mtot, .ref aTy, .int msz, .int mat, .int mfl, .int (nI ru), .ref aTo, .ref aDr, .int 1, .int k1, .long mg, .long mw, .int mn, .int (bI mgp), .long mga, .long mgb, .int mfc, .ref aBx])), (aTo, .inl (cTo, 56, .inl to))] H := hP
            have hD : va_D A [(m0, .inr (6, [.int 0, .long mtot, .ref aTy, .int msz, .int mat, .int mfl, .int (nI ru), .ref aTo, .ref aDr, .int 1, .int k1, .long mg, .long mw, .int mn, .int (bI mgp), .long mga, .long mgb, .int mfc, .ref aBx])), (aTo, .inl (cTo, 56, .inl to))] := hD
            refine lv_aload_n hx hb dM_run_180 rfl (lv_at hl 6 rfl) ?_
            refine lv_lload_n hx hb dM_run_181 rfl (lv_at hl 4 rfl) ?_
            refine va_put (D := (dC, dI)) (ci := 6) (v := .long g) (ty := .long) (C := RM) (T := TM) (N := 19) hx hb hts inM yM yoM noM hown hK hP hD hS 0 rfl rfl 11 (by decide) (hts _ gw_585) (fun _ h9 => h9) rfl (by decide +kernel) rfl rfl (Nat.le_of_ble_eq_true rfl) dM_run_182 (fun H locs hP hD hS => ?_)
            have hP : va_P (dC, dI) vCl [(m0, .inr (6, [.int 0, .long mtot, .ref aTy, .int msz, .int mat, .int mfl, .int (nI ru), .ref aTo, .ref aDr, .int 1, .int k1, .long g, .long mw, .int mn, .int (bI mgp), .long mga, .long mgb, .int mfc, .ref aBx])), (aTo, .inl (cTo, 56, .inl to))] H := hP
            have hD : va_D A [(m0, .inr (6, [.int 0, .long mtot, .ref aTy, .int msz, .int mat, .int mfl, .int (nI ru), .ref aTo, .ref aDr, .int 1, .int k1, .long g, .long mw, .int mn, .int (bI mgp), .long mga, .long mgb, .int mfc, .ref aBx])), (aTo, .inl (cTo, 56, .inl to))] := hD
            refine lv_aload_n hx hb dM_run_185 rfl (lv_at hl 6 rfl) ?_
            refine lv_lload hx hb dM_run_186 (lv_at hl 3 rfl) ?_
            refine va_put (D := (dC, dI)) (ci := 6) (v := .long w) (ty := .long) (C := RM) (T := TM) (N := 19) hx hb hts inM yM yoM noM hown hK hP hD hS 0 rfl rfl 12 (by decide) (hts _ gw_586) (fun _ h9 => h9) rfl (by decide +kernel) rfl rfl (Nat.le_of_ble_eq_true rfl) dM_run_188 (fun H locs hP hD hS => ?_)
            have hP : va_P (dC, dI) vCl [(m0, .inr (6, [.int 0, .long mtot, .ref aTy, .int msz, .int mat, .int mfl, .int (nI ru), .ref aTo, .ref aDr, .int 1, .int k1, .long g, .long w, .int mn, .int (bI mgp), .long mga, .long mgb, .int mfc, .ref aBx])), (aTo, .inl (cTo, 56, .inl to))] H := hP
            have hD : va_D A [(m0, .inr (6, [.int 0, .long mtot, .ref aTy, .int msz, .int mat, .int mfl, .int (nI ru), .ref aTo, .ref aDr, .int 1, .int k1, .long g, .long w, .int mn, .int (bI mgp), .long mga, .long mgb, .int mfc, .ref aBx])), (aTo, .inl (cTo, 56, .inl to))] := hD
            refine lv_aload_n hx hb dM_run_191 rfl (lv_at hl 6 rfl) ?_
            refine lv_iload hx hb dM_run_192 (lv_at hl 1 rfl) ?_
            refine va_put (D := (dC, dI)) (ci := 6) (v := .int fd) (ty := .int) (C := RM) (T := TM) (N := 19) hx hb hts inM yM yoM noM hown hK hP hD hS 0 rfl rfl 13 (by decide) (hts _ gw_587) (fun _ h9 => h9) rfl (by decide +kernel) rfl rfl (Nat.le_of_ble_eq_true rfl) dM_run_194 (fun H locs hP hD hS => ?_)
            have hP : va_P (dC, dI) vCl [(m0, .inr (6, [.int 0, .long mtot, .ref aTy, .int msz, .int mat, .int mfl, .int (nI ru), .ref aTo, .ref aDr, .int 1, .int k1, .long g, .long w, .int fd, .int (bI mgp), .long mga, .long mgb, .int mfc, .ref aBx])), (aTo, .inl (cTo, 56, .inl to))] H := hP
            have hD : va_D A [(m0, .inr (6, [.int 0, .long mtot, .ref aTy, .int msz, .int mat, .int mfl, .int (nI ru), .ref aTo, .ref aDr, .int 1, .int k1, .long g, .long w, .int fd, .int (bI mgp), .long mga, .long mgb, .int mfc, .ref aBx])), (aTo, .inl (cTo, 56, .inl to))] := hD
            refine lv_aload_n hx hb dM_run_197 rfl (lv_at hl 6 rfl) ?_
            refine lv_iconst (v := 0) hx hb dM_run_198 (by decide) ?_
            refine va_put (D := (dC, dI)) (ci := 6) (v := .int 0) (ty := .boolean) (C := RM) (T := TM) (N := 19) hx hb hts inM yM yoM noM hown hK hP hD hS 0 rfl rfl 14 (by decide) (hts _ gw_588) (fun _ h9 => h9) rfl (by decide +kernel) rfl rfl (Nat.le_of_ble_eq_true rfl) dM_run_199 (fun H locs hP hD hS => ?_)
            have hP : va_P (dC, dI) vCl [(m0, .inr (6, [.int 0, .long mtot, .ref aTy, .int msz, .int mat, .int mfl, .int (nI ru), .ref aTo, .ref aDr, .int 1, .int k1, .long g, .long w, .int fd, .int 0, .long mga, .long mgb, .int mfc, .ref aBx])), (aTo, .inl (cTo, 56, .inl to))] H := hP
            have hD : va_D A [(m0, .inr (6, [.int 0, .long mtot, .ref aTy, .int msz, .int mat, .int mfl, .int (nI ru), .ref aTo, .ref aDr, .int 1, .int k1, .long g, .long w, .int fd, .int 0, .long mga, .long mgb, .int mfc, .ref aBx])), (aTo, .inl (cTo, 56, .inl to))] := hD
            refine lv_aload_n hx hb dM_run_202 rfl (lv_at hl 6 rfl) ?_
            refine va_get (D := (dC, dI)) (ci := 6) (v := .int fd) (C := RM) (T := TM) (N := 19) hx hb hts inM hown hK hP 0 rfl rfl 13 (by decide) (hts _ gw_587) (fun _ h9 => h9) rfl dM_run_203 ?_
            have ef : fd = mrF to mtot msz mat mfl mpd mk mg mw mn mgp mga mgb mfc ru g w (fewN k1 - 1) (61 - fewN k1) (-1) := hF
            have eb : mh = mrB to mtot msz mat mfl mpd mk mg mw mn mgp mga mgb mfc ru g w (fewN k1 - 1) (61 - fewN k1) 0 := hB
            exact absurd (show fd ≤ 0 from ef ▸ hfd) c_4
        · skip
          refine lv_iconst (v := 2) hx hb dM_run_90 (by decide) ?_
          refine lv_goto (tgt := 95) hx hb dM_run_91 (by decide) ?_
          refine lv_icmp_lt (tgt := 149) hx hb dM_run_95 (by decide) (fun c_7 => ?_) (fun c_7 => absurd (by have e9 := fewN_c1 c_1 c_2; exact (nI_lt (by omega) (by decide) : nI (fm + 0) < nI 2)) c_7)
          refine lv_aload_n hx hb dM_run_149 rfl (lv_at hl 6 rfl) ?_
          refine lv_iload hx hb dM_run_150 (lv_at hl 1 rfl) ?_
          refine lv_if_le (tgt := 159) hx hb dM_run_152 (by decide) (fun c_8 => ?_) (fun c_8 => ?_)
          · skip
            refine lv_iconst (v := 0) hx hb dM_run_159 (by decide) ?_
            refine va_put (D := (dC, dI)) (ci := 6) (v := .int 0) (ty := .boolean) (C := RM) (T := TM) (N := 19) hx hb hts inM yM yoM noM hown hK hP hD hS 0 rfl rfl 9 (by decide) (hts _ gw_583) (fun _ h9 => h9) rfl (by decide +kernel) rfl rfl (Nat.le_of_ble_eq_true rfl) dM_run_160 (fun H locs hP hD hS => ?_)
            have hP : va_P (dC, dI) vCl [(m0, .inr (6, [.int 0, .long mtot, .ref aTy, .int msz, .int mat, .int mfl, .int (nI ru), .ref aTo, .ref aDr, .int 0, .int mk, .long mg, .long mw, .int mn, .int (bI mgp), .long mga, .long mgb, .int mfc, .ref aBx])), (aTo, .inl (cTo, 56, .inl to))] H := hP
            have hD : va_D A [(m0, .inr (6, [.int 0, .long mtot, .ref aTy, .int msz, .int mat, .int mfl, .int (nI ru), .ref aTo, .ref aDr, .int 0, .int mk, .long mg, .long mw, .int mn, .int (bI mgp), .long mga, .long mgb, .int mfc, .ref aBx])), (aTo, .inl (cTo, 56, .inl to))] := hD
            refine lv_aload_n hx hb dM_run_163 rfl (lv_at hl 6 rfl) ?_
            refine va_get (D := (dC, dI)) (ci := 6) (v := .int 0) (C := RM) (T := TM) (N := 19) hx hb hts inM hown hK hP 0 rfl rfl 9 (by decide) (hts _ gw_583) (fun _ h9 => h9) rfl dM_run_164 ?_
            refine lv_if_ne (tgt := 175) hx hb dM_run_167 (by decide) (fun c_9 => absurd (by decide) c_9) (fun c_9 => ?_)
            refine lv_iconst (v := (-1)) hx hb dM_run_170 (by decide) ?_
            refine lv_iload hx hb dM_run_171 (lv_at hl 2 rfl) ?_
            refine lv_isub hx hb dM_run_173 ?_
            have ef : fd = mrF to mtot msz mat mfl mpd mk mg mw mn mgp mga mgb mfc ru g w (fewN k1 - 1) (61 - fewN k1) (-1) := hF
            have eb : mh = mrB to mtot msz mat mfl mpd mk mg mw mn mgp mga mgb mfc ru g w (fewN k1 - 1) (61 - fewN k1) 0 := hB
            exact W.iret (v := (-1) - mh) hx hb hr (fun t ht hW => ⟨by rw [eb], by rw [ht]; exact hP, by rw [hAe]; exact hS.F ht⟩) hS.2.2 dM_run_174
          · skip
            refine lv_iconst (v := 1) hx hb dM_run_155 (by decide) ?_
            refine lv_goto (tgt := 160) hx hb dM_run_156 (by decide) ?_
            refine va_put (D := (dC, dI)) (ci := 6) (v := .int 1) (ty := .boolean) (C := RM) (T := TM) (N := 19) hx hb hts inM yM yoM noM hown hK hP hD hS 0 rfl rfl 9 (by decide) (hts _ gw_583) (fun _ h9 => h9) rfl (by decide +kernel) rfl rfl (Nat.le_of_ble_eq_true rfl) dM_run_160 (fun H locs hP hD hS => ?_)
            have hP : va_P (dC, dI) vCl [(m0, .inr (6, [.int 0, .long mtot, .ref aTy, .int msz, .int mat, .int mfl, .int (nI ru), .ref aTo, .ref aDr, .int 1, .int mk, .long mg, .long mw, .int mn, .int (bI mgp), .long mga, .long mgb, .int mfc, .ref aBx])), (aTo, .inl (cTo, 56, .inl to))] H := hP
            have hD : va_D A [(m0, .inr (6, [.int 0, .long mtot, .ref aTy, .int msz, .int mat, .int mfl, .int (nI ru), .ref aTo, .ref aDr, .int 1, .int mk, .long mg, .long mw, .int mn, .int (bI mgp), .long mga, .long mgb, .int mfc, .ref aBx])), (aTo, .inl (cTo, 56, .inl to))] := hD
            refine lv_aload_n hx hb dM_run_163 rfl (lv_at hl 6 rfl) ?_
            refine va_get (D := (dC, dI)) (ci := 6) (v := .int 1) (C := RM) (T := TM) (N := 19) hx hb hts inM hown hK hP 0 rfl rfl 9 (by decide) (hts _ gw_583) (fun _ h9 => h9) rfl dM_run_164 ?_
            refine lv_if_ne (tgt := 175) hx hb dM_run_167 (by decide) (fun c_10 => ?_) (fun c_10 => absurd c_10 (by decide))
            refine lv_aload_n hx hb dM_run_175 rfl (lv_at hl 6 rfl) ?_
            refine lv_iload_n hx hb dM_run_176 rfl (lv_at hl 5 rfl) ?_
            refine va_put (D := (dC, dI)) (ci := 6) (v := .int k1) (ty := .int) (C := RM) (T := TM) (N := 19) hx hb hts inM yM yoM noM hown hK hP hD hS 0 rfl rfl 10 (by decide) (hts _ gw_584) (fun _ h9 => h9) rfl (by decide +kernel) rfl rfl (Nat.le_of_ble_eq_true rfl) dM_run_177 (fun H locs hP hD hS => ?_)
            have hP : va_P (dC, dI) vCl [(m0, .inr (6, [.int 0, .long mtot, .ref aTy, .int msz, .int mat, .int mfl, .int (nI ru), .ref aTo, .ref aDr, .int 1, .int k1, .long mg, .long mw, .int mn, .int (bI mgp), .long mga, .long mgb, .int mfc, .ref aBx])), (aTo, .inl (cTo, 56, .inl to))] H := hP
            have hD : va_D A [(m0, .inr (6, [.int 0, .long mtot, .ref aTy, .int msz, .int mat, .int mfl, .int (nI ru), .ref aTo, .ref aDr, .int 1, .int k1, .long mg, .long mw, .int mn, .int (bI mgp), .long mga, .long mgb, .int mfc, .ref aBx])), (aTo, .inl (cTo, 56, .inl to))] := hD
            refine lv_aload_n hx hb dM_run_180 rfl (lv_at hl 6 rfl) ?_
            refine lv_lload_n hx hb dM_run_181 rfl (lv_at hl 4 rfl) ?_
            refine va_put (D := (dC, dI)) (ci := 6) (v := .long g) (ty := .long) (C := RM) (T := TM) (N := 19) hx hb hts inM yM yoM noM hown hK hP hD hS 0 rfl rfl 11 (by decide) (hts _ gw_585) (fun _ h9 => h9) rfl (by decide +kernel) rfl rfl (Nat.le_of_ble_eq_true rfl) dM_run_182 (fun H locs hP hD hS => ?_)
            have hP : va_P (dC, dI) vCl [(m0, .inr (6, [.int 0, .long mtot, .ref aTy, .int msz, .int mat, .int mfl, .int (nI ru), .ref aTo, .ref aDr, .int 1, .int k1, .long g, .long mw, .int mn, .int (bI mgp), .long mga, .long mgb, .int mfc, .ref aBx])), (aTo, .inl (cTo, 56, .inl to))] H := hP
            have hD : va_D A [(m0, .inr (6, [.int 0, .long mtot, .ref aTy, .int msz, .int mat, .int mfl, .int (nI ru), .ref aTo, .ref aDr, .int 1, .int k1, .long g, .long mw, .int mn, .int (bI mgp), .long mga, .long mgb, .int mfc, .ref aBx])), (aTo, .inl (cTo, 56, .inl to))] := hD
            refine lv_aload_n hx hb dM_run_185 rfl (lv_at hl 6 rfl) ?_
            refine lv_lload hx hb dM_run_186 (lv_at hl 3 rfl) ?_
            refine va_put (D := (dC, dI)) (ci := 6) (v := .long w) (ty := .long) (C := RM) (T := TM) (N := 19) hx hb hts inM yM yoM noM hown hK hP hD hS 0 rfl rfl 12 (by decide) (hts _ gw_586) (fun _ h9 => h9) rfl (by decide +kernel) rfl rfl (Nat.le_of_ble_eq_true rfl) dM_run_188 (fun H locs hP hD hS => ?_)
            have hP : va_P (dC, dI) vCl [(m0, .inr (6, [.int 0, .long mtot, .ref aTy, .int msz, .int mat, .int mfl, .int (nI ru), .ref aTo, .ref aDr, .int 1, .int k1, .long g, .long w, .int mn, .int (bI mgp), .long mga, .long mgb, .int mfc, .ref aBx])), (aTo, .inl (cTo, 56, .inl to))] H := hP
            have hD : va_D A [(m0, .inr (6, [.int 0, .long mtot, .ref aTy, .int msz, .int mat, .int mfl, .int (nI ru), .ref aTo, .ref aDr, .int 1, .int k1, .long g, .long w, .int mn, .int (bI mgp), .long mga, .long mgb, .int mfc, .ref aBx])), (aTo, .inl (cTo, 56, .inl to))] := hD
            refine lv_aload_n hx hb dM_run_191 rfl (lv_at hl 6 rfl) ?_
            refine lv_iload hx hb dM_run_192 (lv_at hl 1 rfl) ?_
            refine va_put (D := (dC, dI)) (ci := 6) (v := .int fd) (ty := .int) (C := RM) (T := TM) (N := 19) hx hb hts inM yM yoM noM hown hK hP hD hS 0 rfl rfl 13 (by decide) (hts _ gw_587) (fun _ h9 => h9) rfl (by decide +kernel) rfl rfl (Nat.le_of_ble_eq_true rfl) dM_run_194 (fun H locs hP hD hS => ?_)
            have hP : va_P (dC, dI) vCl [(m0, .inr (6, [.int 0, .long mtot, .ref aTy, .int msz, .int mat, .int mfl, .int (nI ru), .ref aTo, .ref aDr, .int 1, .int k1, .long g, .long w, .int fd, .int (bI mgp), .long mga, .long mgb, .int mfc, .ref aBx])), (aTo, .inl (cTo, 56, .inl to))] H := hP
            have hD : va_D A [(m0, .inr (6, [.int 0, .long mtot, .ref aTy, .int msz, .int mat, .int mfl, .int (nI ru), .ref aTo, .ref aDr, .int 1, .int k1, .long g, .long w, .int fd, .int (bI mgp), .long mga, .long mgb, .int mfc, .ref aBx])), (aTo, .inl (cTo, 56, .inl to))] := hD
            refine lv_aload_n hx hb dM_run_197 rfl (lv_at hl 6 rfl) ?_
            refine lv_iconst (v := 0) hx hb dM_run_198 (by decide) ?_
            refine va_put (D := (dC, dI)) (ci := 6) (v := .int 0) (ty := .boolean) (C := RM) (T := TM) (N := 19) hx hb hts inM yM yoM noM hown hK hP hD hS 0 rfl rfl 14 (by decide) (hts _ gw_588) (fun _ h9 => h9) rfl (by decide +kernel) rfl rfl (Nat.le_of_ble_eq_true rfl) dM_run_199 (fun H locs hP hD hS => ?_)
            have hP : va_P (dC, dI) vCl [(m0, .inr (6, [.int 0, .long mtot, .ref aTy, .int msz, .int mat, .int mfl, .int (nI ru), .ref aTo, .ref aDr, .int 1, .int k1, .long g, .long w, .int fd, .int 0, .long mga, .long mgb, .int mfc, .ref aBx])), (aTo, .inl (cTo, 56, .inl to))] H := hP
            have hD : va_D A [(m0, .inr (6, [.int 0, .long mtot, .ref aTy, .int msz, .int mat, .int mfl, .int (nI ru), .ref aTo, .ref aDr, .int 1, .int k1, .long g, .long w, .int fd, .int 0, .long mga, .long mgb, .int mfc, .ref aBx])), (aTo, .inl (cTo, 56, .inl to))] := hD
            refine lv_aload_n hx hb dM_run_202 rfl (lv_at hl 6 rfl) ?_
            refine va_get (D := (dC, dI)) (ci := 6) (v := .int fd) (C := RM) (T := TM) (N := 19) hx hb hts inM hown hK hP 0 rfl rfl 13 (by decide) (hts _ gw_587) (fun _ h9 => h9) rfl dM_run_203 ?_
            have ef : fd = mrF to mtot msz mat mfl mpd mk mg mw mn mgp mga mgb mfc ru g w (fewN k1 - 1) (61 - fewN k1) (-1) := hF
            have eb : mh = mrB to mtot msz mat mfl mpd mk mg mw mn mgp mga mgb mfc ru g w (fewN k1 - 1) (61 - fewN k1) 0 := hB
            exact absurd (show fd ≤ 0 from ef ▸ hfd) c_8
      · skip
        refine lv_iconst (v := 4) hx hb dM_run_81 (by decide) ?_
        refine lv_goto (tgt := 95) hx hb dM_run_82 (by decide) ?_
        refine lv_icmp_lt (tgt := 149) hx hb dM_run_95 (by decide) (fun c_11 => ?_) (fun c_11 => absurd (by have e9 := fewN_c2 c_1; exact (nI_lt (by omega) (by decide) : nI (fm + 0) < nI 4)) c_11)
        refine lv_aload_n hx hb dM_run_149 rfl (lv_at hl 6 rfl) ?_
        refine lv_iload hx hb dM_run_150 (lv_at hl 1 rfl) ?_
        refine lv_if_le (tgt := 159) hx hb dM_run_152 (by decide) (fun c_12 => ?_) (fun c_12 => ?_)
        · skip
          refine lv_iconst (v := 0) hx hb dM_run_159 (by decide) ?_
          refine va_put (D := (dC, dI)) (ci := 6) (v := .int 0) (ty := .boolean) (C := RM) (T := TM) (N := 19) hx hb hts inM yM yoM noM hown hK hP hD hS 0 rfl rfl 9 (by decide) (hts _ gw_583) (fun _ h9 => h9) rfl (by decide +kernel) rfl rfl (Nat.le_of_ble_eq_true rfl) dM_run_160 (fun H locs hP hD hS => ?_)
          have hP : va_P (dC, dI) vCl [(m0, .inr (6, [.int 0, .long mtot, .ref aTy, .int msz, .int mat, .int mfl, .int (nI ru), .ref aTo, .ref aDr, .int 0, .int mk, .long mg, .long mw, .int mn, .int (bI mgp), .long mga, .long mgb, .int mfc, .ref aBx])), (aTo, .inl (cTo, 56, .inl to))] H := hP
          have hD : va_D A [(m0, .inr (6, [.int 0, .long mtot, .ref aTy, .int msz, .int mat, .int mfl, .int (nI ru), .ref aTo, .ref aDr, .int 0, .int mk, .long mg, .long mw, .int mn, .int (bI mgp), .long mga, .long mgb, .int mfc, .ref aBx])), (aTo, .inl (cTo, 56, .inl to))] := hD
          refine lv_aload_n hx hb dM_run_163 rfl (lv_at hl 6 rfl) ?_
          refine va_get (D := (dC, dI)) (ci := 6) (v := .int 0) (C := RM) (T := TM) (N := 19) hx hb hts inM hown hK hP 0 rfl rfl 9 (by decide) (hts _ gw_583) (fun _ h9 => h9) rfl dM_run_164 ?_
          refine lv_if_ne (tgt := 175) hx hb dM_run_167 (by decide) (fun c_13 => absurd (by decide) c_13) (fun c_13 => ?_)
          refine lv_iconst (v := (-1)) hx hb dM_run_170 (by decide) ?_
          refine lv_iload hx hb dM_run_171 (lv_at hl 2 rfl) ?_
          refine lv_isub hx hb dM_run_173 ?_
          have ef : fd = mrF to mtot msz mat mfl mpd mk mg mw mn mgp mga mgb mfc ru g w (fewN k1 - 1) (61 - fewN k1) (-1) := hF
          have eb : mh = mrB to mtot msz mat mfl mpd mk mg mw mn mgp mga mgb mfc ru g w (fewN k1 - 1) (61 - fewN k1) 0 := hB
          exact W.iret (v := (-1) - mh) hx hb hr (fun t ht hW => ⟨by rw [eb], by rw [ht]; exact hP, by rw [hAe]; exact hS.F ht⟩) hS.2.2 dM_run_174
        · skip
          refine lv_iconst (v := 1) hx hb dM_run_155 (by decide) ?_
          refine lv_goto (tgt := 160) hx hb dM_run_156 (by decide) ?_
          refine va_put (D := (dC, dI)) (ci := 6) (v := .int 1) (ty := .boolean) (C := RM) (T := TM) (N := 19) hx hb hts inM yM yoM noM hown hK hP hD hS 0 rfl rfl 9 (by decide) (hts _ gw_583) (fun _ h9 => h9) rfl (by decide +kernel) rfl rfl (Nat.le_of_ble_eq_true rfl) dM_run_160 (fun H locs hP hD hS => ?_)
          have hP : va_P (dC, dI) vCl [(m0, .inr (6, [.int 0, .long mtot, .ref aTy, .int msz, .int mat, .int mfl, .int (nI ru), .ref aTo, .ref aDr, .int 1, .int mk, .long mg, .long mw, .int mn, .int (bI mgp), .long mga, .long mgb, .int mfc, .ref aBx])), (aTo, .inl (cTo, 56, .inl to))] H := hP
          have hD : va_D A [(m0, .inr (6, [.int 0, .long mtot, .ref aTy, .int msz, .int mat, .int mfl, .int (nI ru), .ref aTo, .ref aDr, .int 1, .int mk, .long mg, .long mw, .int mn, .int (bI mgp), .long mga, .long mgb, .int mfc, .ref aBx])), (aTo, .inl (cTo, 56, .inl to))] := hD
          refine lv_aload_n hx hb dM_run_163 rfl (lv_at hl 6 rfl) ?_
          refine va_get (D := (dC, dI)) (ci := 6) (v := .int 1) (C := RM) (T := TM) (N := 19) hx hb hts inM hown hK hP 0 rfl rfl 9 (by decide) (hts _ gw_583) (fun _ h9 => h9) rfl dM_run_164 ?_
          refine lv_if_ne (tgt := 175) hx hb dM_run_167 (by decide) (fun c_14 => ?_) (fun c_14 => absurd c_14 (by decide))
          refine lv_aload_n hx hb dM_run_175 rfl (lv_at hl 6 rfl) ?_
          refine lv_iload_n hx hb dM_run_176 rfl (lv_at hl 5 rfl) ?_
          refine va_put (D := (dC, dI)) (ci := 6) (v := .int k1) (ty := .int) (C := RM) (T := TM) (N := 19) hx hb hts inM yM yoM noM hown hK hP hD hS 0 rfl rfl 10 (by decide) (hts _ gw_584) (fun _ h9 => h9) rfl (by decide +kernel) rfl rfl (Nat.le_of_ble_eq_true rfl) dM_run_177 (fun H locs hP hD hS => ?_)
          have hP : va_P (dC, dI) vCl [(m0, .inr (6, [.int 0, .long mtot, .ref aTy, .int msz, .int mat, .int mfl, .int (nI ru), .ref aTo, .ref aDr, .int 1, .int k1, .long mg, .long mw, .int mn, .int (bI mgp), .long mga, .long mgb, .int mfc, .ref aBx])), (aTo, .inl (cTo, 56, .inl to))] H := hP
          have hD : va_D A [(m0, .inr (6, [.int 0, .long mtot, .ref aTy, .int msz, .int mat, .int mfl, .int (nI ru), .ref aTo, .ref aDr, .int 1, .int k1, .long mg, .long mw, .int mn, .int (bI mgp), .long mga, .long mgb, .int mfc, .ref aBx])), (aTo, .inl (cTo, 56, .inl to))] := hD
          refine lv_aload_n hx hb dM_run_180 rfl (lv_at hl 6 rfl) ?_
          refine lv_lload_n hx hb dM_run_181 rfl (lv_at hl 4 rfl) ?_
          refine va_put (D := (dC, dI)) (ci := 6) (v := .long g) (ty := .long) (C := RM) (T := TM) (N := 19) hx hb hts inM yM yoM noM hown hK hP hD hS 0 rfl rfl 11 (by decide) (hts _ gw_585) (fun _ h9 => h9) rfl (by decide +kernel) rfl rfl (Nat.le_of_ble_eq_true rfl) dM_run_182 (fun H locs hP hD hS => ?_)
          have hP : va_P (dC, dI) vCl [(m0, .inr (6, [.int 0, .long mtot, .ref aTy, .int msz, .int mat, .int mfl, .int (nI ru), .ref aTo, .ref aDr, .int 1, .int k1, .long g, .long mw, .int mn, .int (bI mgp), .long mga, .long mgb, .int mfc, .ref aBx])), (aTo, .inl (cTo, 56, .inl to))] H := hP
          have hD : va_D A [(m0, .inr (6, [.int 0, .long mtot, .ref aTy, .int msz, .int mat, .int mfl, .int (nI ru), .ref aTo, .ref aDr, .int 1, .int k1, .long g, .long mw, .int mn, .int (bI mgp), .long mga, .long mgb, .int mfc, .ref aBx])), (aTo, .inl (cTo, 56, .inl to))] := hD
          refine lv_aload_n hx hb dM_run_185 rfl (lv_at hl 6 rfl) ?_
          refine lv_lload hx hb dM_run_186 (lv_at hl 3 rfl) ?_
          refine va_put (D := (dC, dI)) (ci := 6) (v := .long w) (ty := .long) (C := RM) (T := TM) (N := 19) hx hb hts inM yM yoM noM hown hK hP hD hS 0 rfl rfl 12 (by decide) (hts _ gw_586) (fun _ h9 => h9) rfl (by decide +kernel) rfl rfl (Nat.le_of_ble_eq_true rfl) dM_run_188 (fun H locs hP hD hS => ?_)
          have hP : va_P (dC, dI) vCl [(m0, .inr (6, [.int 0, .long mtot, .ref aTy, .int msz, .int mat, .int mfl, .int (nI ru), .ref aTo, .ref aDr, .int 1, .int k1, .long g, .long w, .int mn, .int (bI mgp), .long mga, .long mgb, .int mfc, .ref aBx])), (aTo, .inl (cTo, 56, .inl to))] H := hP
          have hD : va_D A [(m0, .inr (6, [.int 0, .long mtot, .ref aTy, .int msz, .int mat, .int mfl, .int (nI ru), .ref aTo, .ref aDr, .int 1, .int k1, .long g, .long w, .int mn, .int (bI mgp), .long mga, .long mgb, .int mfc, .ref aBx])), (aTo, .inl (cTo, 56, .inl to))] := hD
          refine lv_aload_n hx hb dM_run_191 rfl (lv_at hl 6 rfl) ?_
          refine lv_iload hx hb dM_run_192 (lv_at hl 1 rfl) ?_
          refine va_put (D := (dC, dI)) (ci := 6) (v := .int fd) (ty := .int) (C := RM) (T := TM) (N := 19) hx hb hts inM yM yoM noM hown hK hP hD hS 0 rfl rfl 13 (by decide) (hts _ gw_587) (fun _ h9 => h9) rfl (by decide +kernel) rfl rfl (Nat.le_of_ble_eq_true rfl) dM_run_194 (fun H locs hP hD hS => ?_)
          have hP : va_P (dC, dI) vCl [(m0, .inr (6, [.int 0, .long mtot, .ref aTy, .int msz, .int mat, .int mfl, .int (nI ru), .ref aTo, .ref aDr, .int 1, .int k1, .long g, .long w, .int fd, .int (bI mgp), .long mga, .long mgb, .int mfc, .ref aBx])), (aTo, .inl (cTo, 56, .inl to))] H := hP
          have hD : va_D A [(m0, .inr (6, [.int 0, .long mtot, .ref aTy, .int msz, .int mat, .int mfl, .int (nI ru), .ref aTo, .ref aDr, .int 1, .int k1, .long g, .long w, .int fd, .int (bI mgp), .long mga, .long mgb, .int mfc, .ref aBx])), (aTo, .inl (cTo, 56, .inl to))] := hD
          refine lv_aload_n hx hb dM_run_197 rfl (lv_at hl 6 rfl) ?_
          refine lv_iconst (v := 0) hx hb dM_run_198 (by decide) ?_
          refine va_put (D := (dC, dI)) (ci := 6) (v := .int 0) (ty := .boolean) (C := RM) (T := TM) (N := 19) hx hb hts inM yM yoM noM hown hK hP hD hS 0 rfl rfl 14 (by decide) (hts _ gw_588) (fun _ h9 => h9) rfl (by decide +kernel) rfl rfl (Nat.le_of_ble_eq_true rfl) dM_run_199 (fun H locs hP hD hS => ?_)
          have hP : va_P (dC, dI) vCl [(m0, .inr (6, [.int 0, .long mtot, .ref aTy, .int msz, .int mat, .int mfl, .int (nI ru), .ref aTo, .ref aDr, .int 1, .int k1, .long g, .long w, .int fd, .int 0, .long mga, .long mgb, .int mfc, .ref aBx])), (aTo, .inl (cTo, 56, .inl to))] H := hP
          have hD : va_D A [(m0, .inr (6, [.int 0, .long mtot, .ref aTy, .int msz, .int mat, .int mfl, .int (nI ru), .ref aTo, .ref aDr, .int 1, .int k1, .long g, .long w, .int fd, .int 0, .long mga, .long mgb, .int mfc, .ref aBx])), (aTo, .inl (cTo, 56, .inl to))] := hD
          refine lv_aload_n hx hb dM_run_202 rfl (lv_at hl 6 rfl) ?_
          refine va_get (D := (dC, dI)) (ci := 6) (v := .int fd) (C := RM) (T := TM) (N := 19) hx hb hts inM hown hK hP 0 rfl rfl 13 (by decide) (hts _ gw_587) (fun _ h9 => h9) rfl dM_run_203 ?_
          have ef : fd = mrF to mtot msz mat mfl mpd mk mg mw mn mgp mga mgb mfc ru g w (fewN k1 - 1) (61 - fewN k1) (-1) := hF
          have eb : mh = mrB to mtot msz mat mfl mpd mk mg mw mn mgp mga mgb mfc ru g w (fewN k1 - 1) (61 - fewN k1) 0 := hB
          exact absurd (show fd ≤ 0 from ef ▸ hfd) c_12
    | succ n ih =>
      intro fm mh fd hfm hb9 hF hB H locs hP hD hS ls hl
      refine lv_iload hx hb dM_run_74 (lv_at hl 0 rfl) ?_
      refine lv_iload_n hx hb dM_run_76 rfl (lv_at hl 5 rfl) ?_
      refine lv_iconst (v := 2) hx hb dM_run_77 (by decide) ?_
      refine lv_icmp_ne (tgt := 85) hx hb dM_run_78 (by decide) (fun c_15 => ?_) (fun c_15 => ?_)
      · skip
        refine lv_iload_n hx hb dM_run_85 rfl (lv_at hl 5 rfl) ?_
        refine lv_iconst (v := 1) hx hb dM_run_86 (by decide) ?_
        refine lv_icmp_ne (tgt := 94) hx hb dM_run_87 (by decide) (fun c_16 => ?_) (fun c_16 => ?_)
        · skip
          refine lv_iconst (v := 1) hx hb dM_run_94 (by decide) ?_
          refine lv_icmp_lt (tgt := 149) hx hb dM_run_95 (by decide) (fun c_17 => absurd c_17 (by have e9 := fewN_c0 c_15 c_16; exact (nI_nlt (by omega) (by omega) : ¬ nI (fm + (n + 1)) < nI 1))) (fun c_17 => ?_)
          refine lv_aload_n hx hb dM_run_98 rfl (lv_at hl 6 rfl) ?_
          refine lv_lload_n hx hb dM_run_99 rfl (lv_at hl 4 rfl) ?_
          refine lv_lload hx hb dM_run_100 (lv_at hl 3 rfl) ?_
          refine lv_iload hx hb dM_run_102 (lv_at hl 0 rfl) ?_
          refine tr_go (st1 := [.int (fM_holding to 0 mtot msz mat mfl mpd mk mg mw mn mgp mga mgb mfc ru g w (nI (fm + (n + 1))))]) (va_runV (As := [.long g, .long w, .int (nI (fm + (n + 1)))]) (rest := []) (C := RM) ⟨hx, hb, hml, hown, hts⟩ (c_M_holding l dC dI m0 aTy aTo aDr aBx cTo to 0 mtot msz mat mfl mpd mk mg mw mn mgp mga mgb mfc ru g w (nI (fm + (n + 1))) (by assumption)) ⟨cB 3 hts gw_661 gw_7 gw_659 ndM_holding rfl rfl ⟨Nat.le_of_ble_eq_true rfl, Nat.le_of_ble_eq_true rfl⟩, hts _ gw_660, hts _ gw_762⟩ (tp_Rv hN hK hP [0, 1] [0] rfl rfl (q0 := 0) (ci := 6) rfl rfl) rfl rfl hl.1 rfl (lv_room (Nat.le_of_ble_eq_true rfl)) dM_run_104 ⟨Nat.le_of_ble_eq_true rfl, Nat.le_of_ble_eq_true rfl⟩) rfl ?_
          refine lv_istore (lv' := [(9, .int (fM_holding to 0 mtot msz mat mfl mpd mk mg mw mn mgp mga mgb mfc ru g w (nI (fm + (n + 1))))), (8, .int (nI (fm + (n + 1)))), (7, .int fd), (6, .int mh), (4, .long w), (2, .long g), (1, .int k1), (0, .ref m0)]) hx hb dM_run_107 hl (by decide) rfl (fun ls hl => ?_)
          refine lv_iload hx hb dM_run_109 (lv_at hl 0 rfl) ?_
          refine lv_aload_n hx hb dM_run_111 rfl (lv_at hl 7 rfl) ?_
          refine va_get (D := (dC, dI)) (ci := 6) (v := .int (nI ru)) (C := RM) (T := TM) (N := 19) hx hb hts inM hown hK hP 0 rfl rfl 6 (by decide) (hts _ gw_580) (fun _ h9 => h9) rfl dM_run_112 ?_
          refine lv_icmp_ne (tgt := 123) hx hb dM_run_115 (by decide) (fun c_18 => ?_) (fun c_18 => ?_)
          · skip
            refine lv_iload hx hb dM_run_123 (lv_at hl 2 rfl) ?_
            refine lv_istore (lv' := [(7, .int fd), (9, .int (fM_holding to 0 mtot msz mat mfl mpd mk mg mw mn mgp mga mgb mfc ru g w (nI (fm + (n + 1))))), (8, .int (nI (fm + (n + 1)))), (6, .int mh), (4, .long w), (2, .long g), (1, .int k1), (0, .ref m0)]) hx hb dM_run_125 hl (by decide) rfl (fun ls hl => ?_)
            refine lv_iload hx hb dM_run_127 (lv_at hl 1 rfl) ?_
            refine lv_iload hx hb dM_run_129 (lv_at hl 3 rfl) ?_
            refine lv_icmp_le (tgt := 139) hx hb dM_run_131 (by decide) (fun c_19 => ?_) (fun c_19 => ?_)
            · skip
              refine lv_iload hx hb dM_run_139 (lv_at hl 3 rfl) ?_
              refine lv_istore (lv' := [(6, .int mh), (7, .int fd), (9, .int (fM_holding to 0 mtot msz mat mfl mpd mk mg mw mn mgp mga mgb mfc ru g w (nI (fm + (n + 1))))), (8, .int (nI (fm + (n + 1)))), (4, .long w), (2, .long g), (1, .int k1), (0, .ref m0)]) hx hb dM_run_141 hl (by decide) rfl (fun ls hl => ?_)
              refine lv_iinc (v := nI (fm + n)) (lv' := [(8, .int (nI (fm + n))), (6, .int mh), (7, .int fd), (9, .int (fM_holding to 0 mtot msz mat mfl mpd mk mg mw mn mgp mga mgb mfc ru g w (nI (fm + (n + 1))))), (4, .long w), (2, .long g), (1, .int k1), (0, .ref m0)]) hx hb dM_run_143 hl (k := 3) rfl (by rw [← pk_m1 (fm + n)]; rfl) (by decide) rfl (fun ls hl => ?_)
              refine lv_goto (tgt := 74) hx hb dM_run_146 (by decide) ?_
              exact ih fm mh fd hfm (by omega) (by rw [mrF, mrH, if_neg c_18] at hF; exact hF) (by rw [mrB, mrH, if_pos c_19] at hB; exact hB) _ _ hP hD hS ls (lv_sub hl [0, 2, 1, 4, 5, 6, 7] rfl)
            · skip
              refine lv_iload hx hb dM_run_134 (lv_at hl 1 rfl) ?_
              refine lv_goto (tgt := 141) hx hb dM_run_136 (by decide) ?_
              refine lv_istore (lv' := [(6, .int (fM_holding to 0 mtot msz mat mfl mpd mk mg mw mn mgp mga mgb mfc ru g w (nI (fm + (n + 1))))), (7, .int fd), (9, .int (fM_holding to 0 mtot msz mat mfl mpd mk mg mw mn mgp mga mgb mfc ru g w (nI (fm + (n + 1))))), (8, .int (nI (fm + (n + 1)))), (4, .long w), (2, .long g), (1, .int k1), (0, .ref m0)]) hx hb dM_run_141 hl (by decide) rfl (fun ls hl => ?_)
              refine lv_iinc (v := nI (fm + n)) (lv' := [(8, .int (nI (fm + n))), (6, .int (fM_holding to 0 mtot msz mat mfl mpd mk mg mw mn mgp mga mgb mfc ru g w (nI (fm + (n + 1))))), (7, .int fd), (9, .int (fM_holding to 0 mtot msz mat mfl mpd mk mg mw mn mgp mga mgb mfc ru g w (nI (fm + (n + 1))))), (4, .long w), (2, .long g), (1, .int k1), (0, .ref m0)]) hx hb dM_run_143 hl (k := 3) rfl (by rw [← pk_m1 (fm + n)]; rfl) (by decide) rfl (fun ls hl => ?_)
              refine lv_goto (tgt := 74) hx hb dM_run_146 (by decide) ?_
              exact ih fm (fM_holding to 0 mtot msz mat mfl mpd mk mg mw mn mgp mga mgb mfc ru g w (nI (fm + (n + 1)))) fd hfm (by omega) (by rw [mrF, mrH, if_neg c_18] at hF; exact hF) (by rw [mrB, mrH, if_neg c_19] at hB; exact hB) _ _ hP hD hS ls (lv_sub hl [0, 2, 1, 4, 5, 6, 7] rfl)
          · skip
            refine lv_iload hx hb dM_run_118 (lv_at hl 1 rfl) ?_
            refine lv_goto (tgt := 125) hx hb dM_run_120 (by decide) ?_
            refine lv_istore (lv' := [(7, .int (nI (fm + (n + 1)))), (9, .int (fM_holding to 0 mtot msz mat mfl mpd mk mg mw mn mgp mga mgb mfc ru g w (nI (fm + (n + 1))))), (8, .int (nI (fm + (n + 1)))), (6, .int mh), (4, .long w), (2, .long g), (1, .int k1), (0, .ref m0)]) hx hb dM_run_125 hl (by decide) rfl (fun ls hl => ?_)
            refine lv_iload hx hb dM_run_127 (lv_at hl 1 rfl) ?_
            refine lv_iload hx hb dM_run_129 (lv_at hl 3 rfl) ?_
            refine lv_icmp_le (tgt := 139) hx hb dM_run_131 (by decide) (fun c_20 => ?_) (fun c_20 => ?_)
            · skip
              refine lv_iload hx hb dM_run_139 (lv_at hl 3 rfl) ?_
              refine lv_istore (lv' := [(6, .int mh), (7, .int (nI (fm + (n + 1)))), (9, .int (fM_holding to 0 mtot msz mat mfl mpd mk mg mw mn mgp mga mgb mfc ru g w (nI (fm + (n + 1))))), (8, .int (nI (fm + (n + 1)))), (4, .long w), (2, .long g), (1, .int k1), (0, .ref m0)]) hx hb dM_run_141 hl (by decide) rfl (fun ls hl => ?_)
              refine lv_iinc (v := nI (fm + n)) (lv' := [(8, .int (nI (fm + n))), (6, .int mh), (7, .int (nI (fm + (n + 1)))), (9, .int (fM_holding to 0 mtot msz mat mfl mpd mk mg mw mn mgp mga mgb mfc ru g w (nI (fm + (n + 1))))), (4, .long w), (2, .long g), (1, .int k1), (0, .ref m0)]) hx hb dM_run_143 hl (k := 3) rfl (by rw [← pk_m1 (fm + n)]; rfl) (by decide) rfl (fun ls hl => ?_)
              refine lv_goto (tgt := 74) hx hb dM_run_146 (by decide) ?_
              exact ih fm mh (nI (fm + (n + 1))) hfm (by omega) (by rw [mrF, mrH, if_pos c_18] at hF; exact hF) (by rw [mrB, mrH, if_pos c_20] at hB; exact hB) _ _ hP hD hS ls (lv_sub hl [0, 2, 1, 4, 5, 6, 7] rfl)
            · skip
              refine lv_iload hx hb dM_run_134 (lv_at hl 1 rfl) ?_
              refine lv_goto (tgt := 141) hx hb dM_run_136 (by decide) ?_
              refine lv_istore (lv' := [(6, .int (fM_holding to 0 mtot msz mat mfl mpd mk mg mw mn mgp mga mgb mfc ru g w (nI (fm + (n + 1))))), (7, .int (nI (fm + (n + 1)))), (9, .int (fM_holding to 0 mtot msz mat mfl mpd mk mg mw mn mgp mga mgb mfc ru g w (nI (fm + (n + 1))))), (8, .int (nI (fm + (n + 1)))), (4, .long w), (2, .long g), (1, .int k1), (0, .ref m0)]) hx hb dM_run_141 hl (by decide) rfl (fun ls hl => ?_)
              refine lv_iinc (v := nI (fm + n)) (lv' := [(8, .int (nI (fm + n))), (6, .int (fM_holding to 0 mtot msz mat mfl mpd mk mg mw mn mgp mga mgb mfc ru g w (nI (fm + (n + 1))))), (7, .int (nI (fm + (n + 1)))), (9, .int (fM_holding to 0 mtot msz mat mfl mpd mk mg mw mn mgp mga mgb mfc ru g w (nI (fm + (n + 1))))), (4, .long w), (2, .long g), (1, .int k1), (0, .ref m0)]) hx hb dM_run_143 hl (k := 3) rfl (by rw [← pk_m1 (fm + n)]; rfl) (by decide) rfl (fun ls hl => ?_)
              refine lv_goto (tgt := 74) hx hb dM_run_146 (by decide) ?_
              exact ih fm (fM_holding to 0 mtot msz mat mfl mpd mk mg mw mn mgp mga mgb mfc ru g w (nI (fm + (n + 1)))) (nI (fm + (n + 1))) hfm (by omega) (by rw [mrF, mrH, if_pos c_18] at hF; exact hF) (by rw [mrB, mrH, if_neg c_20] at hB; exact hB) _ _ hP hD hS ls (lv_sub hl [0, 2, 1, 4, 5, 6, 7] rfl)
        · skip
          refine lv_iconst (v := 2) hx hb dM_run_90 (by decide) ?_
          refine lv_goto (tgt := 95) hx hb dM_run_91 (by decide) ?_
          refine lv_icmp_lt (tgt := 149) hx hb dM_run_95 (by decide) (fun c_21 => absurd c_21 (by have e9 := fewN_c1 c_15 c_16; exact (nI_nlt (by omega) (by omega) : ¬ nI (fm + (n + 1)) < nI 2))) (fun c_21 => ?_)
          refine lv_aload_n hx hb dM_run_98 rfl (lv_at hl 6 rfl) ?_
          refine lv_lload_n hx hb dM_run_99 rfl (lv_at hl 4 rfl) ?_
          refine lv_lload hx hb dM_run_100 (lv_at hl 3 rfl) ?_
          refine lv_iload hx hb dM_run_102 (lv_at hl 0 rfl) ?_
          refine tr_go (st1 := [.int (fM_holding to 0 mtot msz mat mfl mpd mk mg mw mn mgp mga mgb mfc ru g w (nI (fm + (n + 1))))]) (va_runV (As := [.long g, .long w, .int (nI (fm + (n + 1)))]) (rest := []) (C := RM) ⟨hx, hb, hml, hown, hts⟩ (c_M_holding l dC dI m0 aTy aTo aDr aBx cTo to 0 mtot msz mat mfl mpd mk mg mw mn mgp mga mgb mfc ru g w (nI (fm + (n + 1))) (by assumption)) ⟨cB 3 hts gw_661 gw_7 gw_659 ndM_holding rfl rfl ⟨Nat.le_of_ble_eq_true rfl, Nat.le_of_ble_eq_true rfl⟩, hts _ gw_660, hts _ gw_762⟩ (tp_Rv hN hK hP [0, 1] [0] rfl rfl (q0 := 0) (ci := 6) rfl rfl) rfl rfl hl.1 rfl (lv_room (Nat.le_of_ble_eq_true rfl)) dM_run_104 ⟨Nat.le_of_ble_eq_true rfl, Nat.le_of_ble_eq_true rfl⟩) rfl ?_
          refine lv_istore (lv' := [(9, .int (fM_holding to 0 mtot msz mat mfl mpd mk mg mw mn mgp mga mgb mfc ru g w (nI (fm + (n + 1))))), (8, .int (nI (fm + (n + 1)))), (7, .int fd), (6, .int mh), (4, .long w), (2, .long g), (1, .int k1), (0, .ref m0)]) hx hb dM_run_107 hl (by decide) rfl (fun ls hl => ?_)
          refine lv_iload hx hb dM_run_109 (lv_at hl 0 rfl) ?_
          refine lv_aload_n hx hb dM_run_111 rfl (lv_at hl 7 rfl) ?_
          refine va_get (D := (dC, dI)) (ci := 6) (v := .int (nI ru)) (C := RM) (T := TM) (N := 19) hx hb hts inM hown hK hP 0 rfl rfl 6 (by decide) (hts _ gw_580) (fun _ h9 => h9) rfl dM_run_112 ?_
          refine lv_icmp_ne (tgt := 123) hx hb dM_run_115 (by decide) (fun c_22 => ?_) (fun c_22 => ?_)
          · skip
            refine lv_iload hx hb dM_run_123 (lv_at hl 2 rfl) ?_
            refine lv_istore (lv' := [(7, .int fd), (9, .int (fM_holding to 0 mtot msz mat mfl mpd mk mg mw mn mgp mga mgb mfc ru g w (nI (fm + (n + 1))))), (8, .int (nI (fm + (n + 1)))), (6, .int mh), (4, .long w), (2, .long g), (1, .int k1), (0, .ref m0)]) hx hb dM_run_125 hl (by decide) rfl (fun ls hl => ?_)
            refine lv_iload hx hb dM_run_127 (lv_at hl 1 rfl) ?_
            refine lv_iload hx hb dM_run_129 (lv_at hl 3 rfl) ?_
            refine lv_icmp_le (tgt := 139) hx hb dM_run_131 (by decide) (fun c_23 => ?_) (fun c_23 => ?_)
            · skip
              refine lv_iload hx hb dM_run_139 (lv_at hl 3 rfl) ?_
              refine lv_istore (lv' := [(6, .int mh), (7, .int fd), (9, .int (fM_holding to 0 mtot msz mat mfl mpd mk mg mw mn mgp mga mgb mfc ru g w (nI (fm + (n + 1))))), (8, .int (nI (fm + (n + 1)))), (4, .long w), (2, .long g), (1, .int k1), (0, .ref m0)]) hx hb dM_run_141 hl (by decide) rfl (fun ls hl => ?_)
              refine lv_iinc (v := nI (fm + n)) (lv' := [(8, .int (nI (fm + n))), (6, .int mh), (7, .int fd), (9, .int (fM_holding to 0 mtot msz mat mfl mpd mk mg mw mn mgp mga mgb mfc ru g w (nI (fm + (n + 1))))), (4, .long w), (2, .long g), (1, .int k1), (0, .ref m0)]) hx hb dM_run_143 hl (k := 3) rfl (by rw [← pk_m1 (fm + n)]; rfl) (by decide) rfl (fun ls hl => ?_)
              refine lv_goto (tgt := 74) hx hb dM_run_146 (by decide) ?_
              exact ih fm mh fd hfm (by omega) (by rw [mrF, mrH, if_neg c_22] at hF; exact hF) (by rw [mrB, mrH, if_pos c_23] at hB; exact hB) _ _ hP hD hS ls (lv_sub hl [0, 2, 1, 4, 5, 6, 7] rfl)
            · skip
              refine lv_iload hx hb dM_run_134 (lv_at hl 1 rfl) ?_
              refine lv_goto (tgt := 141) hx hb dM_run_136 (by decide) ?_
              refine lv_istore (lv' := [(6, .int (fM_holding to 0 mtot msz mat mfl mpd mk mg mw mn mgp mga mgb mfc ru g w (nI (fm + (n + 1))))), (7, .int fd), (9, .int (fM_holding to 0 mtot msz mat mfl mpd mk mg mw mn mgp mga mgb mfc ru g w (nI (fm + (n + 1))))), (8, .int (nI (fm + (n + 1)))), (4, .long w), (2, .long g), (1, .int k1), (0, .ref m0)]) hx hb dM_run_141 hl (by decide) rfl (fun ls hl => ?_)
              refine lv_iinc (v := nI (fm + n)) (lv' := [(8, .int (nI (fm + n))), (6, .int (fM_holding to 0 mtot msz mat mfl mpd mk mg mw mn mgp mga mgb mfc ru g w (nI (fm + (n + 1))))), (7, .int fd), (9, .int (fM_holding to 0 mtot msz mat mfl mpd mk mg mw mn mgp mga mgb mfc ru g w (nI (fm + (n + 1))))), (4, .long w), (2, .long g), (1, .int k1), (0, .ref m0)]) hx hb dM_run_143 hl (k := 3) rfl (by rw [← pk_m1 (fm + n)]; rfl) (by decide) rfl (fun ls hl => ?_)
              refine lv_goto (tgt := 74) hx hb dM_run_146 (by decide) ?_
              exact ih fm (fM_holding to 0 mtot msz mat mfl mpd mk mg mw mn mgp mga mgb mfc ru g w (nI (fm + (n + 1)))) fd hfm (by omega) (by rw [mrF, mrH, if_neg c_22] at hF; exact hF) (by rw [mrB, mrH, if_neg c_23] at hB; exact hB) _ _ hP hD hS ls (lv_sub hl [0, 2, 1, 4, 5, 6, 7] rfl)
          · skip
            refine lv_iload hx hb dM_run_118 (lv_at hl 1 rfl) ?_
            refine lv_goto (tgt := 125) hx hb dM_run_120 (by decide) ?_
            refine lv_istore (lv' := [(7, .int (nI (fm + (n + 1)))), (9, .int (fM_holding to 0 mtot msz mat mfl mpd mk mg mw mn mgp mga mgb mfc ru g w (nI (fm + (n + 1))))), (8, .int (nI (fm + (n + 1)))), (6, .int mh), (4, .long w), (2, .long g), (1, .int k1), (0, .ref m0)]) hx hb dM_run_125 hl (by decide) rfl (fun ls hl => ?_)
            refine lv_iload hx hb dM_run_127 (lv_at hl 1 rfl) ?_
            refine lv_iload hx hb dM_run_129 (lv_at hl 3 rfl) ?_
            refine lv_icmp_le (tgt := 139) hx hb dM_run_131 (by decide) (fun c_24 => ?_) (fun c_24 => ?_)
            · skip
              refine lv_iload hx hb dM_run_139 (lv_at hl 3 rfl) ?_
              refine lv_istore (lv' := [(6, .int mh), (7, .int (nI (fm + (n + 1)))), (9, .int (fM_holding to 0 mtot msz mat mfl mpd mk mg mw mn mgp mga mgb mfc ru g w (nI (fm + (n + 1))))), (8, .int (nI (fm + (n + 1)))), (4, .long w), (2, .long g), (1, .int k1), (0, .ref m0)]) hx hb dM_run_141 hl (by decide) rfl (fun ls hl => ?_)
              refine lv_iinc (v := nI (fm + n)) (lv' := [(8, .int (nI (fm + n))), (6, .int mh), (7, .int (nI (fm + (n + 1)))), (9, .int (fM_holding to 0 mtot msz mat mfl mpd mk mg mw mn mgp mga mgb mfc ru g w (nI (fm + (n + 1))))), (4, .long w), (2, .long g), (1, .int k1), (0, .ref m0)]) hx hb dM_run_143 hl (k := 3) rfl (by rw [← pk_m1 (fm + n)]; rfl) (by decide) rfl (fun ls hl => ?_)
              refine lv_goto (tgt := 74) hx hb dM_run_146 (by decide) ?_
              exact ih fm mh (nI (fm + (n + 1))) hfm (by omega) (by rw [mrF, mrH, if_pos c_22] at hF; exact hF) (by rw [mrB, mrH, if_pos c_24] at hB; exact hB) _ _ hP hD hS ls (lv_sub hl [0, 2, 1, 4, 5, 6, 7] rfl)
            · skip
              refine lv_iload hx hb dM_run_134 (lv_at hl 1 rfl) ?_
              refine lv_goto (tgt := 141) hx hb dM_run_136 (by decide) ?_
              refine lv_istore (lv' := [(6, .int (fM_holding to 0 mtot msz mat mfl mpd mk mg mw mn mgp mga mgb mfc ru g w (nI (fm + (n + 1))))), (7, .int (nI (fm + (n + 1)))), (9, .int (fM_holding to 0 mtot msz mat mfl mpd mk mg mw mn mgp mga mgb mfc ru g w (nI (fm + (n + 1))))), (8, .int (nI (fm + (n + 1)))), (4, .long w), (2, .long g), (1, .int k1), (0, .ref m0)]) hx hb dM_run_141 hl (by decide) rfl (fun ls hl => ?_)
              refine lv_iinc (v := nI (fm + n)) (lv' := [(8, .int (nI (fm + n))), (6, .int (fM_holding to 0 mtot msz mat mfl mpd mk mg mw mn mgp mga mgb mfc ru g w (nI (fm + (n + 1))))), (7, .int (nI (fm + (n + 1)))), (9, .int (fM_holding to 0 mtot msz mat mfl mpd mk mg mw mn mgp mga mgb mfc ru g w (nI (fm + (n + 1))))), (4, .long w), (2, .long g), (1, .int k1), (0, .ref m0)]) hx hb dM_run_143 hl (k := 3) rfl (by rw [← pk_m1 (fm + n)]; rfl) (by decide) rfl (fun ls hl => ?_)
              refine lv_goto (tgt := 74) hx hb dM_run_146 (by decide) ?_
              exact ih fm (fM_holding to 0 mtot msz mat mfl mpd mk mg mw mn mgp mga mgb mfc ru g w (nI (fm + (n + 1)))) (nI (fm + (n + 1))) hfm (by omega) (by rw [mrF, mrH, if_pos c_22] at hF; exact hF) (by rw [mrB, mrH, if_neg c_24] at hB; exact hB) _ _ hP hD hS ls (lv_sub hl [0, 2, 1, 4, 5, 6, 7] rfl)
      · skip
        refine lv_iconst (v := 4) hx hb dM_run_81 (by decide) ?_
        refine lv_goto (tgt := 95) hx hb dM_run_82 (by decide) ?_
        refine lv_icmp_lt (tgt := 149) hx hb dM_run_95 (by decide) (fun c_25 => absurd c_25 (by have e9 := fewN_c2 c_15; exact (nI_nlt (by omega) (by omega) : ¬ nI (fm + (n + 1)) < nI 4))) (fun c_25 => ?_)
        refine lv_aload_n hx hb dM_run_98 rfl (lv_at hl 6 rfl) ?_
        refine lv_lload_n hx hb dM_run_99 rfl (lv_at hl 4 rfl) ?_
        refine lv_lload hx hb dM_run_100 (lv_at hl 3 rfl) ?_
        refine lv_iload hx hb dM_run_102 (lv_at hl 0 rfl) ?_
        refine tr_go (st1 := [.int (fM_holding to 0 mtot msz mat mfl mpd mk mg mw mn mgp mga mgb mfc ru g w (nI (fm + (n + 1))))]) (va_runV (As := [.long g, .long w, .int (nI (fm + (n + 1)))]) (rest := []) (C := RM) ⟨hx, hb, hml, hown, hts⟩ (c_M_holding l dC dI m0 aTy aTo aDr aBx cTo to 0 mtot msz mat mfl mpd mk mg mw mn mgp mga mgb mfc ru g w (nI (fm + (n + 1))) (by assumption)) ⟨cB 3 hts gw_661 gw_7 gw_659 ndM_holding rfl rfl ⟨Nat.le_of_ble_eq_true rfl, Nat.le_of_ble_eq_true rfl⟩, hts _ gw_660, hts _ gw_762⟩ (tp_Rv hN hK hP [0, 1] [0] rfl rfl (q0 := 0) (ci := 6) rfl rfl) rfl rfl hl.1 rfl (lv_room (Nat.le_of_ble_eq_true rfl)) dM_run_104 ⟨Nat.le_of_ble_eq_true rfl, Nat.le_of_ble_eq_true rfl⟩) rfl ?_
        refine lv_istore (lv' := [(9, .int (fM_holding to 0 mtot msz mat mfl mpd mk mg mw mn mgp mga mgb mfc ru g w (nI (fm + (n + 1))))), (8, .int (nI (fm + (n + 1)))), (7, .int fd), (6, .int mh), (4, .long w), (2, .long g), (1, .int k1), (0, .ref m0)]) hx hb dM_run_107 hl (by decide) rfl (fun ls hl => ?_)
        refine lv_iload hx hb dM_run_109 (lv_at hl 0 rfl) ?_
        refine lv_aload_n hx hb dM_run_111 rfl (lv_at hl 7 rfl) ?_
        refine va_get (D := (dC, dI)) (ci := 6) (v := .int (nI ru)) (C := RM) (T := TM) (N := 19) hx hb hts inM hown hK hP 0 rfl rfl 6 (by decide) (hts _ gw_580) (fun _ h9 => h9) rfl dM_run_112 ?_
        refine lv_icmp_ne (tgt := 123) hx hb dM_run_115 (by decide) (fun c_26 => ?_) (fun c_26 => ?_)
        · skip
          refine lv_iload hx hb dM_run_123 (lv_at hl 2 rfl) ?_
          refine lv_istore (lv' := [(7, .int fd), (9, .int (fM_holding to 0 mtot msz mat mfl mpd mk mg mw mn mgp mga mgb mfc ru g w (nI (fm + (n + 1))))), (8, .int (nI (fm + (n + 1)))), (6, .int mh), (4, .long w), (2, .long g), (1, .int k1), (0, .ref m0)]) hx hb dM_run_125 hl (by decide) rfl (fun ls hl => ?_)
          refine lv_iload hx hb dM_run_127 (lv_at hl 1 rfl) ?_
          refine lv_iload hx hb dM_run_129 (lv_at hl 3 rfl) ?_
          refine lv_icmp_le (tgt := 139) hx hb dM_run_131 (by decide) (fun c_27 => ?_) (fun c_27 => ?_)
          · skip
            refine lv_iload hx hb dM_run_139 (lv_at hl 3 rfl) ?_
            refine lv_istore (lv' := [(6, .int mh), (7, .int fd), (9, .int (fM_holding to 0 mtot msz mat mfl mpd mk mg mw mn mgp mga mgb mfc ru g w (nI (fm + (n + 1))))), (8, .int (nI (fm + (n + 1)))), (4, .long w), (2, .long g), (1, .int k1), (0, .ref m0)]) hx hb dM_run_141 hl (by decide) rfl (fun ls hl => ?_)
            refine lv_iinc (v := nI (fm + n)) (lv' := [(8, .int (nI (fm + n))), (6, .int mh), (7, .int fd), (9, .int (fM_holding to 0 mtot msz mat mfl mpd mk mg mw mn mgp mga mgb mfc ru g w (nI (fm + (n + 1))))), (4, .long w), (2, .long g), (1, .int k1), (0, .ref m0)]) hx hb dM_run_143 hl (k := 3) rfl (by rw [← pk_m1 (fm + n)]; rfl) (by decide) rfl (fun ls hl => ?_)
            refine lv_goto (tgt := 74) hx hb dM_run_146 (by decide) ?_
            exact ih fm mh fd hfm (by omega) (by rw [mrF, mrH, if_neg c_26] at hF; exact hF) (by rw [mrB, mrH, if_pos c_27] at hB; exact hB) _ _ hP hD hS ls (lv_sub hl [0, 2, 1, 4, 5, 6, 7] rfl)
          · skip
            refine lv_iload hx hb dM_run_134 (lv_at hl 1 rfl) ?_
            refine lv_goto (tgt := 141) hx hb dM_run_136 (by decide) ?_
            refine lv_istore (lv' := [(6, .int (fM_holding to 0 mtot msz mat mfl mpd mk mg mw mn mgp mga mgb mfc ru g w (nI (fm + (n + 1))))), (7, .int fd), (9, .int (fM_holding to 0 mtot msz mat mfl mpd mk mg mw mn mgp mga mgb mfc ru g w (nI (fm + (n + 1))))), (8, .int (nI (fm + (n + 1)))), (4, .long w), (2, .long g), (1, .int k1), (0, .ref m0)]) hx hb dM_run_141 hl (by decide) rfl (fun ls hl => ?_)
            refine lv_iinc (v := nI (fm + n)) (lv' := [(8, .int (nI (fm + n))), (6, .int (fM_holding to 0 mtot msz mat mfl mpd mk mg mw mn mgp mga mgb mfc ru g w (nI (fm + (n + 1))))), (7, .int fd), (9, .int (fM_holding to 0 mtot msz mat mfl mpd mk mg mw mn mgp mga mgb mfc ru g w (nI (fm + (n + 1))))), (4, .long w), (2, .long g), (1, .int k1), (0, .ref m0)]) hx hb dM_run_143 hl (k := 3) rfl (by rw [← pk_m1 (fm + n)]; rfl) (by decide) rfl (fun ls hl => ?_)
            refine lv_goto (tgt := 74) hx hb dM_run_146 (by decide) ?_
            exact ih fm (fM_holding to 0 mtot msz mat mfl mpd mk mg mw mn mgp mga mgb mfc ru g w (nI (fm + (n + 1)))) fd hfm (by omega) (by rw [mrF, mrH, if_neg c_26] at hF; exact hF) (by rw [mrB, mrH, if_neg c_27] at hB; exact hB) _ _ hP hD hS ls (lv_sub hl [0, 2, 1, 4, 5, 6, 7] rfl)
        · skip
          refine lv_iload hx hb dM_run_118 (lv_at hl 1 rfl) ?_
          refine lv_goto (tgt := 125) hx hb dM_run_120 (by decide) ?_
          refine lv_istore (lv' := [(7, .int (nI (fm + (n + 1)))), (9, .int (fM_holding to 0 mtot msz mat mfl mpd mk mg mw mn mgp mga mgb mfc ru g w (nI (fm + (n + 1))))), (8, .int (nI (fm + (n + 1)))), (6, .int mh), (4, .long w), (2, .long g), (1, .int k1), (0, .ref m0)]) hx hb dM_run_125 hl (by decide) rfl (fun ls hl => ?_)
          refine lv_iload hx hb dM_run_127 (lv_at hl 1 rfl) ?_
          refine lv_iload hx hb dM_run_129 (lv_at hl 3 rfl) ?_
          refine lv_icmp_le (tgt := 139) hx hb dM_run_131 (by decide) (fun c_28 => ?_) (fun c_28 => ?_)
          · skip
            refine lv_iload hx hb dM_run_139 (lv_at hl 3 rfl) ?_
            refine lv_istore (lv' := [(6, .int mh), (7, .int (nI (fm + (n + 1)))), (9, .int (fM_holding to 0 mtot msz mat mfl mpd mk mg mw mn mgp mga mgb mfc ru g w (nI (fm + (n + 1))))), (8, .int (nI (fm + (n + 1)))), (4, .long w), (2, .long g), (1, .int k1), (0, .ref m0)]) hx hb dM_run_141 hl (by decide) rfl (fun ls hl => ?_)
            refine lv_iinc (v := nI (fm + n)) (lv' := [(8, .int (nI (fm + n))), (6, .int mh), (7, .int (nI (fm + (n + 1)))), (9, .int (fM_holding to 0 mtot msz mat mfl mpd mk mg mw mn mgp mga mgb mfc ru g w (nI (fm + (n + 1))))), (4, .long w), (2, .long g), (1, .int k1), (0, .ref m0)]) hx hb dM_run_143 hl (k := 3) rfl (by rw [← pk_m1 (fm + n)]; rfl) (by decide) rfl (fun ls hl => ?_)
            refine lv_goto (tgt := 74) hx hb dM_run_146 (by decide) ?_
            exact ih fm mh (nI (fm + (n + 1))) hfm (by omega) (by rw [mrF, mrH, if_pos c_26] at hF; exact hF) (by rw [mrB, mrH, if_pos c_28] at hB; exact hB) _ _ hP hD hS ls (lv_sub hl [0, 2, 1, 4, 5, 6, 7] rfl)
          · skip
            refine lv_iload hx hb dM_run_134 (lv_at hl 1 rfl) ?_
            refine lv_goto (tgt := 141) hx hb dM_run_136 (by decide) ?_
            refine lv_istore (lv' := [(6, .int (fM_holding to 0 mtot msz mat mfl mpd mk mg mw mn mgp mga mgb mfc ru g w (nI (fm + (n + 1))))), (7, .int (nI (fm + (n + 1)))), (9, .int (fM_holding to 0 mtot msz mat mfl mpd mk mg mw mn mgp mga mgb mfc ru g w (nI (fm + (n + 1))))), (8, .int (nI (fm + (n + 1)))), (4, .long w), (2, .long g), (1, .int k1), (0, .ref m0)]) hx hb dM_run_141 hl (by decide) rfl (fun ls hl => ?_)
            refine lv_iinc (v := nI (fm + n)) (lv' := [(8, .int (nI (fm + n))), (6, .int (fM_holding to 0 mtot msz mat mfl mpd mk mg mw mn mgp mga mgb mfc ru g w (nI (fm + (n + 1))))), (7, .int (nI (fm + (n + 1)))), (9, .int (fM_holding to 0 mtot msz mat mfl mpd mk mg mw mn mgp mga mgb mfc ru g w (nI (fm + (n + 1))))), (4, .long w), (2, .long g), (1, .int k1), (0, .ref m0)]) hx hb dM_run_143 hl (k := 3) rfl (by rw [← pk_m1 (fm + n)]; rfl) (by decide) rfl (fun ls hl => ?_)
            refine lv_goto (tgt := 74) hx hb dM_run_146 (by decide) ?_
            exact ih fm (fM_holding to 0 mtot msz mat mfl mpd mk mg mw mn mgp mga mgb mfc ru g w (nI (fm + (n + 1)))) (nI (fm + (n + 1))) hfm (by omega) (by rw [mrF, mrH, if_pos c_26] at hF; exact hF) (by rw [mrB, mrH, if_neg c_28] at hB; exact hB) _ _ hP hD hS ls (lv_sub hl [0, 2, 1, 4, 5, 6, 7] rfl)
  refine lv_aload_n hx hb dM_run_0 rfl (lv_at hl 0 rfl) ?_
  refine lv_aload_n hx hb dM_run_1 rfl (lv_at hl 0 rfl) ?_
  refine va_get (D := (dC, dI)) (ci := 6) (v := .int (nI ru)) (C := RM) (T := TM) (N := 19) hx hb hts inM hown hK hP 0 rfl rfl 6 (by decide) (hts _ gw_580) (fun _ h9 => h9) rfl dM_run_2 ?_
  refine lv_if_ne (tgt := 12) hx hb dM_run_5 (by decide) (fun c_29 => ?_) (fun c_29 => ?_)
  · skip
    refine lv_iload_n hx hb dM_run_12 rfl (lv_at hl 1 rfl) ?_
    refine lv_i2l (v := k1.toInt64) hx hb dM_run_13 rfl ?_
    refine lv_lconst (v := 0) hx hb dM_run_14 (by decide) ?_
    refine lv_ldc2 (v := 2) hx hb hown (hts _ gw_657) dM_run_15 ?_
    refine tr_go (st1 := [.int (bI (fM_isIn k1.toInt64 0 2)), .ref m0]) (va_runS (As := [.long k1.toInt64, .long 0, .long 2]) (rest := [.ref m0]) ⟨hx, hb, hml, hown, hts⟩ (c_M_isIn l dC dI k1.toInt64 0 2) ⟨cB 3 hts gw_623 gw_7 gw_621 ndM_isIn rfl rfl ⟨Nat.le_of_ble_eq_true rfl, Nat.le_of_ble_eq_true rfl⟩, hts _ gw_622⟩ (tp_Rs hN hK hP [] [] rfl rfl) rfl rfl hl.1 rfl (lv_room (Nat.le_of_ble_eq_true rfl)) dM_run_18 ⟨Nat.le_of_ble_eq_true rfl, Nat.le_of_ble_eq_true rfl⟩) rfl ?_
    refine tb_ifeq (tgt := 51) hx hb dM_run_21 (by decide) (fun c_30 => ?_) (fun c_30 => ?_)
    · skip
      refine lv_iconst (v := 2) hx hb dM_run_51 (by decide) ?_
      refine va_put (D := (dC, dI)) (ci := 6) (v := .int 2) (ty := .int) (C := RM) (T := TM) (N := 19) hx hb hts inM yM yoM noM hown hK hP hD hS 0 rfl rfl 0 (by decide) (hts _ gw_574) (fun _ h9 => h9) rfl (by decide +kernel) rfl rfl (Nat.le_of_ble_eq_true rfl) dM_run_52 (fun H locs hP hD hS => ?_)
      have hP : va_P (dC, dI) vCl [(m0, .inr (6, [.int 2, .long mtot, .ref aTy, .int msz, .int mat, .int mfl, .int (nI ru), .ref aTo, .ref aDr, .int (bI mpd), .int mk, .long mg, .long mw, .int mn, .int (bI mgp), .long mga, .long mgb, .int mfc, .ref aBx])), (aTo, .inl (cTo, 56, .inl to))] H := hP
      have hD : va_D A [(m0, .inr (6, [.int 2, .long mtot, .ref aTy, .int msz, .int mat, .int mfl, .int (nI ru), .ref aTo, .ref aDr, .int (bI mpd), .int mk, .long mg, .long mw, .int mn, .int (bI mgp), .long mga, .long mgb, .int mfc, .ref aBx])), (aTo, .inl (cTo, 56, .inl to))] := hD
      refine lv_aload_n hx hb dM_run_55 rfl (lv_at hl 0 rfl) ?_
      refine va_get (D := (dC, dI)) (ci := 6) (v := .int 2) (C := RM) (T := TM) (N := 19) hx hb hts inM hown hK hP 0 rfl rfl 0 (by decide) (hts _ gw_574) (fun _ h9 => h9) rfl dM_run_56 ?_
      refine lv_if_le (tgt := 64) hx hb dM_run_59 (by decide) (fun c_31 => absurd c_31 (by decide)) (fun c_31 => ?_)
      refine lv_iconst (v := 0) hx hb dM_run_62 (by decide) ?_
      exact absurd (he.symm.trans (show mrunC ru k1 g w = 2 from by unfold mrunC; rw [if_neg c_29, if_neg (Bool.eq_false_iff.mp c_30)])) (by decide)
    · skip
      refine lv_lload_n hx hb dM_run_24 rfl (lv_at hl 2 rfl) ?_
      refine lv_lconst (v := 1) hx hb dM_run_25 (by decide) ?_
      refine lv_ldc2 (v := 10000) hx hb hown (hts _ gw_658) dM_run_26 ?_
      refine tr_go (st1 := [.int (bI (fM_isIn g 1 10000)), .ref m0]) (va_runS (As := [.long g, .long 1, .long 10000]) (rest := [.ref m0]) ⟨hx, hb, hml, hown, hts⟩ (c_M_isIn l dC dI g 1 10000) ⟨cB 3 hts gw_623 gw_7 gw_621 ndM_isIn rfl rfl ⟨Nat.le_of_ble_eq_true rfl, Nat.le_of_ble_eq_true rfl⟩, hts _ gw_622⟩ (tp_Rs hN hK hP [] [] rfl rfl) rfl rfl hl.1 rfl (lv_room (Nat.le_of_ble_eq_true rfl)) dM_run_29 ⟨Nat.le_of_ble_eq_true rfl, Nat.le_of_ble_eq_true rfl⟩) rfl ?_
      refine tb_ifeq (tgt := 51) hx hb dM_run_32 (by decide) (fun c_32 => ?_) (fun c_32 => ?_)
      · skip
        refine lv_iconst (v := 2) hx hb dM_run_51 (by decide) ?_
        refine va_put (D := (dC, dI)) (ci := 6) (v := .int 2) (ty := .int) (C := RM) (T := TM) (N := 19) hx hb hts inM yM yoM noM hown hK hP hD hS 0 rfl rfl 0 (by decide) (hts _ gw_574) (fun _ h9 => h9) rfl (by decide +kernel) rfl rfl (Nat.le_of_ble_eq_true rfl) dM_run_52 (fun H locs hP hD hS => ?_)
        have hP : va_P (dC, dI) vCl [(m0, .inr (6, [.int 2, .long mtot, .ref aTy, .int msz, .int mat, .int mfl, .int (nI ru), .ref aTo, .ref aDr, .int (bI mpd), .int mk, .long mg, .long mw, .int mn, .int (bI mgp), .long mga, .long mgb, .int mfc, .ref aBx])), (aTo, .inl (cTo, 56, .inl to))] H := hP
        have hD : va_D A [(m0, .inr (6, [.int 2, .long mtot, .ref aTy, .int msz, .int mat, .int mfl, .int (nI ru), .ref aTo, .ref aDr, .int (bI mpd), .int mk, .long mg, .long mw, .int mn, .int (bI mgp), .long mga, .long mgb, .int mfc, .ref aBx])), (aTo, .inl (cTo, 56, .inl to))] := hD
        refine lv_aload_n hx hb dM_run_55 rfl (lv_at hl 0 rfl) ?_
        refine va_get (D := (dC, dI)) (ci := 6) (v := .int 2) (C := RM) (T := TM) (N := 19) hx hb hts inM hown hK hP 0 rfl rfl 0 (by decide) (hts _ gw_574) (fun _ h9 => h9) rfl dM_run_56 ?_
        refine lv_if_le (tgt := 64) hx hb dM_run_59 (by decide) (fun c_33 => absurd c_33 (by decide)) (fun c_33 => ?_)
        refine lv_iconst (v := 0) hx hb dM_run_62 (by decide) ?_
        exact absurd (he.symm.trans (show mrunC ru k1 g w = 2 from by unfold mrunC; rw [if_neg c_29, if_pos c_30, if_neg (Bool.eq_false_iff.mp c_32)])) (by decide)
      · skip
        refine lv_lload hx hb dM_run_35 (lv_at hl 3 rfl) ?_
        refine lv_lconst (v := 1) hx hb dM_run_37 (by decide) ?_
        refine lv_ldc2 (v := 10000) hx hb hown (hts _ gw_658) dM_run_38 ?_
        refine tr_go (st1 := [.int (bI (fM_isIn w 1 10000)), .ref m0]) (va_runS (As := [.long w, .long 1, .long 10000]) (rest := [.ref m0]) ⟨hx, hb, hml, hown, hts⟩ (c_M_isIn l dC dI w 1 10000) ⟨cB 3 hts gw_623 gw_7 gw_621 ndM_isIn rfl rfl ⟨Nat.le_of_ble_eq_true rfl, Nat.le_of_ble_eq_true rfl⟩, hts _ gw_622⟩ (tp_Rs hN hK hP [] [] rfl rfl) rfl rfl hl.1 rfl (lv_room (Nat.le_of_ble_eq_true rfl)) dM_run_41 ⟨Nat.le_of_ble_eq_true rfl, Nat.le_of_ble_eq_true rfl⟩) rfl ?_
        refine tb_ifeq (tgt := 51) hx hb dM_run_44 (by decide) (fun c_34 => ?_) (fun c_34 => ?_)
        · skip
          refine lv_iconst (v := 2) hx hb dM_run_51 (by decide) ?_
          refine va_put (D := (dC, dI)) (ci := 6) (v := .int 2) (ty := .int) (C := RM) (T := TM) (N := 19) hx hb hts inM yM yoM noM hown hK hP hD hS 0 rfl rfl 0 (by decide) (hts _ gw_574) (fun _ h9 => h9) rfl (by decide +kernel) rfl rfl (Nat.le_of_ble_eq_true rfl) dM_run_52 (fun H locs hP hD hS => ?_)
          have hP : va_P (dC, dI) vCl [(m0, .inr (6, [.int 2, .long mtot, .ref aTy, .int msz, .int mat, .int mfl, .int (nI ru), .ref aTo, .ref aDr, .int (bI mpd), .int mk, .long mg, .long mw, .int mn, .int (bI mgp), .long mga, .long mgb, .int mfc, .ref aBx])), (aTo, .inl (cTo, 56, .inl to))] H := hP
          have hD : va_D A [(m0, .inr (6, [.int 2, .long mtot, .ref aTy, .int msz, .int mat, .int mfl, .int (nI ru), .ref aTo, .ref aDr, .int (bI mpd), .int mk, .long mg, .long mw, .int mn, .int (bI mgp), .long mga, .long mgb, .int mfc, .ref aBx])), (aTo, .inl (cTo, 56, .inl to))] := hD
          refine lv_aload_n hx hb dM_run_55 rfl (lv_at hl 0 rfl) ?_
          refine va_get (D := (dC, dI)) (ci := 6) (v := .int 2) (C := RM) (T := TM) (N := 19) hx hb hts inM hown hK hP 0 rfl rfl 0 (by decide) (hts _ gw_574) (fun _ h9 => h9) rfl dM_run_56 ?_
          refine lv_if_le (tgt := 64) hx hb dM_run_59 (by decide) (fun c_35 => absurd c_35 (by decide)) (fun c_35 => ?_)
          refine lv_iconst (v := 0) hx hb dM_run_62 (by decide) ?_
          exact absurd (he.symm.trans (show mrunC ru k1 g w = 2 from by unfold mrunC; rw [if_neg c_29, if_pos c_30, if_pos c_32, if_neg (Bool.eq_false_iff.mp c_34)])) (by decide)
        · skip
          refine lv_iconst (v := 0) hx hb dM_run_47 (by decide) ?_
          refine lv_goto (tgt := 52) hx hb dM_run_48 (by decide) ?_
          refine va_put (D := (dC, dI)) (ci := 6) (v := .int 0) (ty := .int) (C := RM) (T := TM) (N := 19) hx hb hts inM yM yoM noM hown hK hP hD hS 0 rfl rfl 0 (by decide) (hts _ gw_574) (fun _ h9 => h9) rfl (by decide +kernel) rfl rfl (Nat.le_of_ble_eq_true rfl) dM_run_52 (fun H locs hP hD hS => ?_)
          have hP : va_P (dC, dI) vCl [(m0, .inr (6, [.int 0, .long mtot, .ref aTy, .int msz, .int mat, .int mfl, .int (nI ru), .ref aTo, .ref aDr, .int (bI mpd), .int mk, .long mg, .long mw, .int mn, .int (bI mgp), .long mga, .long mgb, .int mfc, .ref aBx])), (aTo, .inl (cTo, 56, .inl to))] H := hP
          have hD : va_D A [(m0, .inr (6, [.int 0, .long mtot, .ref aTy, .int msz, .int mat, .int mfl, .int (nI ru), .ref aTo, .ref aDr, .int (bI mpd), .int mk, .long mg, .long mw, .int mn, .int (bI mgp), .long mga, .long mgb, .int mfc, .ref aBx])), (aTo, .inl (cTo, 56, .inl to))] := hD
          refine lv_aload_n hx hb dM_run_55 rfl (lv_at hl 0 rfl) ?_
          refine va_get (D := (dC, dI)) (ci := 6) (v := .int 0) (C := RM) (T := TM) (N := 19) hx hb hts inM hown hK hP 0 rfl rfl 0 (by decide) (hts _ gw_574) (fun _ h9 => h9) rfl dM_run_56 ?_
          refine lv_if_le (tgt := 64) hx hb dM_run_59 (by decide) (fun c_36 => ?_) (fun c_36 => absurd (by decide) c_36)
          refine lv_iconst (v := 0) hx hb dM_run_64 (by decide) ?_
          refine lv_istore (lv' := [(6, .int 0), (0, .ref m0), (1, .int k1), (2, .long g), (4, .long w)]) hx hb dM_run_65 hl (by decide) rfl (fun ls hl => ?_)
          refine lv_iconst (v := (-1)) hx hb dM_run_67 (by decide) ?_
          refine lv_istore (lv' := [(7, .int (-1)), (6, .int 0), (0, .ref m0), (1, .int k1), (2, .long g), (4, .long w)]) hx hb dM_run_68 hl (by decide) rfl (fun ls hl => ?_)
          refine lv_bipush (v := 60) hx hb dM_run_70 (by decide) ?_
          refine lv_istore (lv' := [(8, .int 60), (7, .int (-1)), (6, .int 0), (0, .ref m0), (1, .int k1), (2, .long g), (4, .long w)]) hx hb dM_run_72 hl (by decide) rfl (fun ls hl => ?_)
          have hl : lv_has ls 10 [(8, .int (nI (fewN k1 - 1 + (61 - fewN k1)))), (7, .int (-1)), (6, .int 0), (0, .ref m0), (1, .int k1), (2, .long g), (4, .long w)] := by rw [show (nI (fewN k1 - 1 + (61 - fewN k1)) : Int32) = 60 from by rw [show fewN k1 - 1 + (61 - fewN k1) = 60 from by have := fewN_p k1; have := fewN_4 k1; omega]; rfl]; exact hl
          exact loop (61 - fewN k1) (fewN k1 - 1) 0 (-1) (by have := fewN_p k1; omega) (by have := fewN_p k1; have := fewN_4 k1; omega) rfl rfl _ _ hP hD hS ls (lv_sub hl [0, 1, 2, 6, 5, 4, 3] rfl)
  · skip
    refine lv_iconst (v := 1) hx hb dM_run_8 (by decide) ?_
    refine lv_goto (tgt := 52) hx hb dM_run_9 (by decide) ?_
    refine va_put (D := (dC, dI)) (ci := 6) (v := .int 1) (ty := .int) (C := RM) (T := TM) (N := 19) hx hb hts inM yM yoM noM hown hK hP hD hS 0 rfl rfl 0 (by decide) (hts _ gw_574) (fun _ h9 => h9) rfl (by decide +kernel) rfl rfl (Nat.le_of_ble_eq_true rfl) dM_run_52 (fun H locs hP hD hS => ?_)
    have hP : va_P (dC, dI) vCl [(m0, .inr (6, [.int 1, .long mtot, .ref aTy, .int msz, .int mat, .int mfl, .int (nI ru), .ref aTo, .ref aDr, .int (bI mpd), .int mk, .long mg, .long mw, .int mn, .int (bI mgp), .long mga, .long mgb, .int mfc, .ref aBx])), (aTo, .inl (cTo, 56, .inl to))] H := hP
    have hD : va_D A [(m0, .inr (6, [.int 1, .long mtot, .ref aTy, .int msz, .int mat, .int mfl, .int (nI ru), .ref aTo, .ref aDr, .int (bI mpd), .int mk, .long mg, .long mw, .int mn, .int (bI mgp), .long mga, .long mgb, .int mfc, .ref aBx])), (aTo, .inl (cTo, 56, .inl to))] := hD
    refine lv_aload_n hx hb dM_run_55 rfl (lv_at hl 0 rfl) ?_
    refine va_get (D := (dC, dI)) (ci := 6) (v := .int 1) (C := RM) (T := TM) (N := 19) hx hb hts inM hown hK hP 0 rfl rfl 0 (by decide) (hts _ gw_574) (fun _ h9 => h9) rfl dM_run_56 ?_
    refine lv_if_le (tgt := 64) hx hb dM_run_59 (by decide) (fun c_37 => absurd c_37 (by decide)) (fun c_37 => ?_)
    refine lv_iconst (v := 0) hx hb dM_run_62 (by decide) ?_
    exact absurd (he.symm.trans (show mrunC ru k1 g w = 1 from by unfold mrunC; rw [if_pos c_29])) (by decide)
