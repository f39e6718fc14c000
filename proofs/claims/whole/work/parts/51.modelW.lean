def gcdD : Nat → Int64 → Int64 → Prop
  | 0, _, b => b = 0
  | n + 1, a, b => b = 0 ∨ gcdD n b (a - a / b * b)
def fM_common (gN : Nat) (a0 b0 : Int64) : Int64 := gcdL gN a0 b0
theorem mfne {k : Nat} (h : ¬ nI k = 8) (hk : k ≤ 8) : k < 8 := by
  rcases Nat.lt_or_ge k 8 with q | q
  · exact q
  · exact absurd (by rw [show k = 8 by omega]; rfl) h

set_option maxHeartbeats 4000000 in
set_option maxRecDepth 100000 in
theorem c_M_common (l : Launch) (dC : Nat → ClassId) (dI : Nat → Nat → Nat) (gN : Nat) (a0 : Int64) (b0 : Int64) (hgd : gcdD gN a0 b0) : Met l mM_common wM_common ({ frames := 0, cells := 0, slots := 0, locals := 0 }) (tp_R (dC, dI) vCl [.long a0, .long b0] [] []) (tq_R (some (.long (fM_common gN a0 b0)))) 0 0 (fun _ => False) := by
  refine Met.ofW (cc := bM_common) (maxL := 10) (ret := (some .long)) (by decide) rfl ?_
  intro p e s m args below meth c s₁ B hml hv
  obtain ⟨rfl, hP, hK, hN⟩ := hv
  have hx := B.exec
  have hb := B.bytes
  have hr := B.returns
  have hts : ∀ w ∈ gT, w.before _ s = true := fun w h => atoms_spec (ws := wM_common) B.pre w (List.mem_cons_of_mem _ h)
  have hown : s.vm.findClass RM = some m.cls := findClass_of_methodNamed B.named
  have hlocks := B.notSynchronized
  have hP : va_P (dC, dI) vCl [] s.heap := hP
  have hl := lv_entry ([.long a0, .long b0]) (n := 10) (Nat.le_of_ble_eq_true rfl)
  rw [lg_entry_eq]
  generalize (lg_sl ([.long a0, .long b0]) ++ List.replicate (10 - (lg_sl ([.long a0, .long b0])).length) Slot.unset).toArray = ls at hl ⊢
  have hl : lv_has ls 10 [(0, .long a0), (2, .long b0)] := hl
  have loop : ∀ (n : Nat) (a : Int64) (b : Int64) (hd : gcdD n a b) (hR : gcdL n a b = fM_common gN a0 b0) (ls : Array Slot), lv_has ls 10 [(6, .long b), (4, .long a), (2, .long b0), (0, .long a0)] → W p l e (headSpec wM_common ({ frames := 0, cells := 0, slots := 0, locals := 0 })).room s m ([.long a0, .long b0] : List Value).toArray below meth c s.heap [] 0 0 (MQ below (tq_R (some (.long (fM_common gN a0 b0)))) ([.long a0, .long b0] : List Value).toArray s 0 0 (fun _ => False)) (F0 m 6 ls []) := by
    intro n
    induction n with
    | zero =>
      intro a b hd hR ls hl
      refine lv_lload hx hb dM_common_6 (lv_at hl 0 rfl) ?_
      refine lv_lconst (v := 0) hx hb dM_common_8 (by decide) ?_
      refine tl_eq (tgt := 31) hx hb dM_common_9 dM_common_10 (by decide) (fun c_1 => ?_) (fun c_1 => absurd (hd) c_1)
      refine lv_lload hx hb dM_common_31 (lv_at hl 1 rfl) ?_
      exact W.lret (v := a) hx hb hr (fun t ht hW => ⟨by rw [← hR, gcdL], ht⟩) (fun q h => by cases h) dM_common_33
    | succ n ih =>
      intro a b hd hR ls hl
      refine lv_lload hx hb dM_common_6 (lv_at hl 0 rfl) ?_
      refine lv_lconst (v := 0) hx hb dM_common_8 (by decide) ?_
      refine tl_eq (tgt := 31) hx hb dM_common_9 dM_common_10 (by decide) (fun c_2 => ?_) (fun c_2 => ?_)
      · skip
        refine lv_lload hx hb dM_common_31 (lv_at hl 1 rfl) ?_
        exact W.lret (v := a) hx hb hr (fun t ht hW => ⟨by rw [← hR, gcdL, if_pos c_2], ht⟩) (fun q h => by cases h) dM_common_33
      · skip
        refine lv_lload hx hb dM_common_13 (lv_at hl 1 rfl) ?_
        refine lv_lload hx hb dM_common_15 (lv_at hl 0 rfl) ?_
        refine lv_lrem hx hb dM_common_17 c_2 ?_
        refine lv_lstore (lv' := [(8, .long (a - a / b * b)), (6, .long b), (4, .long a), (2, .long b0), (0, .long a0)]) hx hb dM_common_18 hl (by decide) rfl (fun ls hl => ?_)
        refine lv_lload hx hb dM_common_20 (lv_at hl 1 rfl) ?_
        refine lv_lstore (lv' := [(4, .long b), (8, .long (a - a / b * b)), (6, .long b), (2, .long b0), (0, .long a0)]) hx hb dM_common_22 hl (by decide) rfl (fun ls hl => ?_)
        refine lv_lload hx hb dM_common_24 (lv_at hl 1 rfl) ?_
        refine lv_lstore (lv' := [(6, .long (a - a / b * b)), (4, .long b), (8, .long (a - a / b * b)), (2, .long b0), (0, .long a0)]) hx hb dM_common_26 hl (by decide) rfl (fun ls hl => ?_)
        refine lv_goto (tgt := 6) hx hb dM_common_28 (by decide) ?_
        exact ih b (a - a / b * b) (by rcases hd with h9 | h9; exact absurd h9 c_2; exact h9) (by rw [gcdL, if_neg c_2] at hR; exact hR) ls (lv_sub hl [0, 1, 3, 4] rfl)
  refine lv_lload_n hx hb dM_common_0 rfl (lv_at hl 0 rfl) ?_
  refine lv_lstore (lv' := [(4, .long a0), (0, .long a0), (2, .long b0)]) hx hb dM_common_1 hl (by decide) rfl (fun ls hl => ?_)
  refine lv_lload_n hx hb dM_common_3 rfl (lv_at hl 2 rfl) ?_
  refine lv_lstore (lv' := [(6, .long b0), (4, .long a0), (0, .long a0), (2, .long b0)]) hx hb dM_common_4 hl (by decide) rfl (fun ls hl => ?_)
  exact loop gN a0 b0 hgd rfl ls (lv_sub hl [0, 1, 3, 2] rfl)

def fM_unit_c0f3 (ty : Nat → Int32) (mcode : Int32) (mtot : Int64) (mat : Int32) (mfl : Int32) (mru : Int32) (mpd : Bool) (mk : Int32) (mg : Int64) (mw : Int64) (mn : Int32) (mgp : Bool) (mga : Int64) (mgb : Int64) (mfc : Int32) (sz : Nat) (u : Int32) : Nat := if 120 ≤ (nI sz) then sz else (if u < 33 then sz else (if 126 < u then sz else (sz + 1)))
def fM_unit_a1 (ty : Nat → Int32) (mcode : Int32) (mtot : Int64) (mat : Int32) (mfl : Int32) (mru : Int32) (mpd : Bool) (mk : Int32) (mg : Int64) (mw : Int64) (mn : Int32) (mgp : Bool) (mga : Int64) (mgb : Int64) (mfc : Int32) (sz : Nat) (u : Int32) : Nat → Int32 := if 120 ≤ (nI sz) then ty else (if u < 33 then ty else (if 126 < u then ty else (upd ty (nI sz).toNatClampNeg u)))
def fM_unit (ty : Nat → Int32) (mcode : Int32) (mtot : Int64) (mat : Int32) (mfl : Int32) (mru : Int32) (mpd : Bool) (mk : Int32) (mg : Int64) (mw : Int64) (mn : Int32) (mgp : Bool) (mga : Int64) (mgb : Int64) (mfc : Int32) (sz : Nat) (u : Int32) : Bool := if 120 ≤ (nI sz) then false else (if u < 33 then false else (if 126 < u then false else true))
set_option maxHeartbeats 4000000 in
set_option maxRecDepth 100000 in
theorem c_M_unit (l : Launch) (dC : Nat → ClassId) (dI : Nat → Nat → Nat) (m0 : Nat) (aTy : Nat) (aTo : Nat) (aDr : Nat) (aBx : Nat) (cTy : ClassId) (ty : Nat → Int32) (mcode : Int32) (mtot : Int64) (mat : Int32) (mfl : Int32) (mru : Int32) (mpd : Bool) (mk : Int32) (mg : Int64) (mw : Int64) (mn : Int32) (mgp : Bool) (mga : Int64) (mgb : Int64) (mfc : Int32) (sz : Nat) (u : Int32) (hsz : sz ≤ 120) : Met l mM_unit wM_unit ({ frames := 0, cells := 0, slots := 0, locals := 0 }) (tp_W (dC, dI) vCl [.ref m0, .int u] [(m0, .inr (6, [.int mcode, .long mtot, .ref aTy, .int (nI sz), .int mat, .int mfl, .int mru, .ref aTo, .ref aDr, .int (bI mpd), .int mk, .long mg, .long mw, .int mn, .int (bI mgp), .long mga, .long mgb, .int mfc, .ref aBx])), (aTy, .inl (cTy, 120, .inl ty))] [(cTy, .int)]) (tq_W (dC, dI) vCl (some (.int (bI (fM_unit ty mcode mtot mat mfl mru mpd mk mg mw mn mgp mga mgb mfc sz u)))) [(m0, .inr (6, [.int mcode, .long mtot, .ref aTy, .int (nI sz), .int mat, .int mfl, .int mru, .ref aTo, .ref aDr, .int (bI mpd), .int mk, .long mg, .long mw, .int mn, .int (bI mgp), .long mga, .long mgb, .int mfc, .ref aBx])), (aTy, .inl (cTy, 120, .inl ty))] [(m0, .inr (6, [.int 0, .long mtot, .ref aTy, .int (nI (fM_unit_c0f3 ty mcode mtot mat mfl mru mpd mk mg mw mn mgp mga mgb mfc sz u)), .int mat, .int mfl, .int mru, .ref aTo, .ref aDr, .int (bI mpd), .int mk, .long mg, .long mw, .int mn, .int (bI mgp), .long mga, .long mgb, .int mfc, .ref aBx])), (aTy, .inl (cTy, 120, .inl (fM_unit_a1 ty mcode mtot mat mfl mru mpd mk mg mw mn mgp mga mgb mfc sz u)))]) 0 0 (tA [(m0, .inr (6, [.int mcode, .long mtot, .ref aTy, .int (nI sz), .int mat, .int mfl, .int mru, .ref aTo, .ref aDr, .int (bI mpd), .int mk, .long mg, .long mw, .int mn, .int (bI mgp), .long mga, .long mgb, .int mfc, .ref aBx])), (aTy, .inl (cTy, 120, .inl ty))]) := by
  refine Met.ofW (cc := bM_unit) (maxL := 3) (ret := (some .boolean)) (by decide) rfl ?_
  intro p e s m args below meth c s₁ B hml hv
  obtain ⟨rfl, hP, hK, hN, hD0⟩ := hv
  have hx := B.exec
  have hb := B.bytes
  have hr := B.returns
  have hts : ∀ w ∈ gT, w.before _ s = true := fun w h => atoms_spec (ws := wM_unit) B.pre w (List.mem_cons_of_mem _ h)
  have hown : s.vm.findClass RM = some m.cls := findClass_of_methodNamed B.named
  have hlocks := B.notSynchronized
  have hD := tA_D hD0
  generalize hAe : tA [(m0, .inr (6, [.int mcode, .long mtot, .ref aTy, .int (nI sz), .int mat, .int mfl, .int mru, .ref aTo, .ref aDr, .int (bI mpd), .int mk, .long mg, .long mw, .int mn, .int (bI mgp), .long mga, .long mgb, .int mfc, .ref aBx])), (aTy, .inl (cTy, 120, .inl ty))] = A at hD ⊢
  have hS : va_S A s.heap s.heap [] := va_S.rf
  have hP : va_P (dC, dI) vCl [(m0, .inr (6, [.int mcode, .long mtot, .ref aTy, .int (nI sz), .int mat, .int mfl, .int mru, .ref aTo, .ref aDr, .int (bI mpd), .int mk, .long mg, .long mw, .int mn, .int (bI mgp), .long mga, .long mgb, .int mfc, .ref aBx])), (aTy, .inl (cTy, 120, .inl ty))] s.heap := hP
  have hl := lv_entry ([.ref m0, .int u]) (n := 3) (Nat.le_of_ble_eq_true rfl)
  rw [lg_entry_eq]
  generalize (lg_sl ([.ref m0, .int u]) ++ List.replicate (3 - (lg_sl ([.ref m0, .int u])).length) Slot.unset).toArray = ls at hl ⊢
  have hl : lv_has ls 3 [(0, .ref m0), (1, .int u)] := hl
  refine lv_aload_n hx hb dM_unit_0 rfl (lv_at hl 0 rfl) ?_
  refine lv_iconst (v := 0) hx hb dM_unit_1 (by decide) ?_
  refine va_put (D := (dC, dI)) (ci := 6) (v := .int 0) (ty := .int) (C := RM) (T := TM) (N := 19) hx hb hts inM yM yoM noM hown hK hP hD hS 0 rfl rfl 0 (by decide) (hts _ gw_574) (fun _ h9 => h9) rfl (by decide +kernel) rfl rfl (Nat.le_of_ble_eq_true rfl) dM_unit_2 (fun H locs hP hD hS => ?_)
  have hP : va_P (dC, dI) vCl [(m0, .inr (6, [.int 0, .long mtot, .ref aTy, .int (nI sz), .int mat, .int mfl, .int mru, .ref aTo, .ref aDr, .int (bI mpd), .int mk, .long mg, .long mw, .int mn, .int (bI mgp), .long mga, .long mgb, .int mfc, .ref aBx])), (aTy, .inl (cTy, 120, .inl ty))] H := hP
  have hD : va_D A [(m0, .inr (6, [.int 0, .long mtot, .ref aTy, .int (nI sz), .int mat, .int mfl, .int mru, .ref aTo, .ref aDr, .int (bI mpd), .int mk, .long mg, .long mw, .int mn, .int (bI mgp), .long mga, .long mgb, .int mfc, .ref aBx])), (aTy, .inl (cTy, 120, .inl ty))] := hD
  refine lv_aload_n hx hb dM_unit_5 rfl (lv_at hl 0 rfl) ?_
  refine va_get (D := (dC, dI)) (ci := 6) (v := .int (nI sz)) (C := RM) (T := TM) (N := 19) hx hb hts inM hown hK hP 0 rfl rfl 3 (by decide) (hts _ gw_577) (fun _ h9 => h9) rfl dM_unit_6 ?_
  refine lv_bipush (v := 120) hx hb dM_unit_9 (by decide) ?_
  refine lv_icmp_ge (tgt := 30) hx hb dM_unit_11 (by decide) (fun c_1 => ?_) (fun c_1 => ?_)
  · skip
    refine lv_iconst (v := 0) hx hb dM_unit_30 (by decide) ?_
    refine lv_istore_n (lv' := [(2, .int 0), (0, .ref m0), (1, .int u)]) hx hb dM_unit_31 rfl hl (by decide) rfl (fun ls hl => ?_)
    refine lv_iload_n hx hb dM_unit_32 rfl (lv_at hl 0 rfl) ?_
    refine lv_if_eq (tgt := 56) hx hb dM_unit_33 (by decide) (fun c_2 => ?_) (fun c_2 => absurd (by decide) c_2)
    refine lv_iload_n hx hb dM_unit_56 rfl (lv_at hl 0 rfl) ?_
    exact W.zret (v := 0) hx hb hr (rfl) (fun t ht hW => ⟨by rw [show fM_unit ty mcode mtot mat mfl mru mpd mk mg mw mn mgp mga mgb mfc sz u = false from by unfold fM_unit; rw [if_pos c_1]]; rfl, by rw [ht, show fM_unit_c0f3 ty mcode mtot mat mfl mru mpd mk mg mw mn mgp mga mgb mfc sz u = sz from by unfold fM_unit_c0f3; rw [if_pos c_1], show fM_unit_a1 ty mcode mtot mat mfl mru mpd mk mg mw mn mgp mga mgb mfc sz u = ty from by unfold fM_unit_a1; rw [if_pos c_1]]; exact hP, by rw [hAe]; exact hS.F ht⟩) hS.2.2 dM_unit_57
  · skip
    refine lv_iload_n hx hb dM_unit_14 rfl (lv_at hl 1 rfl) ?_
    refine lv_bipush (v := 33) hx hb dM_unit_15 (by decide) ?_
    refine lv_icmp_lt (tgt := 30) hx hb dM_unit_17 (by decide) (fun c_3 => ?_) (fun c_3 => ?_)
    · skip
      refine lv_iconst (v := 0) hx hb dM_unit_30 (by decide) ?_
      refine lv_istore_n (lv' := [(2, .int 0), (0, .ref m0), (1, .int u)]) hx hb dM_unit_31 rfl hl (by decide) rfl (fun ls hl => ?_)
      refine lv_iload_n hx hb dM_unit_32 rfl (lv_at hl 0 rfl) ?_
      refine lv_if_eq (tgt := 56) hx hb dM_unit_33 (by decide) (fun c_4 => ?_) (fun c_4 => absurd (by decide) c_4)
      refine lv_iload_n hx hb dM_unit_56 rfl (lv_at hl 0 rfl) ?_
      exact W.zret (v := 0) hx hb hr (rfl) (fun t ht hW => ⟨by rw [show fM_unit ty mcode mtot mat mfl mru mpd mk mg mw mn mgp mga mgb mfc sz u = false from by unfold fM_unit; rw [if_neg c_1, if_pos c_3]]; rfl, by rw [ht, show fM_unit_c0f3 ty mcode mtot mat mfl mru mpd mk mg mw mn mgp mga mgb mfc sz u = sz from by unfold fM_unit_c0f3; rw [if_neg c_1, if_pos c_3], show fM_unit_a1 ty mcode mtot mat mfl mru mpd mk mg mw mn mgp mga mgb mfc sz u = ty from by unfold fM_unit_a1; rw [if_neg c_1, if_pos c_3]]; exact hP, by rw [hAe]; exact hS.F ht⟩) hS.2.2 dM_unit_57
    · skip
      refine lv_iload_n hx hb dM_unit_20 rfl (lv_at hl 1 rfl) ?_
      refine lv_bipush (v := 126) hx hb dM_unit_21 (by decide) ?_
      refine lv_icmp_gt (tgt := 30) hx hb dM_unit_23 (by decide) (fun c_5 => ?_) (fun c_5 => ?_)
      · skip
        refine lv_iconst (v := 0) hx hb dM_unit_30 (by decide) ?_
        refine lv_istore_n (lv' := [(2, .int 0), (0, .ref m0), (1, .int u)]) hx hb dM_unit_31 rfl hl (by decide) rfl (fun ls hl => ?_)
        refine lv_iload_n hx hb dM_unit_32 rfl (lv_at hl 0 rfl) ?_
        refine lv_if_eq (tgt := 56) hx hb dM_unit_33 (by decide) (fun c_6 => ?_) (fun c_6 => absurd (by decide) c_6)
        refine lv_iload_n hx hb dM_unit_56 rfl (lv_at hl 0 rfl) ?_
        exact W.zret (v := 0) hx hb hr (rfl) (fun t ht hW => ⟨by rw [show fM_unit ty mcode mtot mat mfl mru mpd mk mg mw mn mgp mga mgb mfc sz u = false from by unfold fM_unit; rw [if_neg c_1, if_neg c_3, if_pos c_5]]; rfl, by rw [ht, show fM_unit_c0f3 ty mcode mtot mat mfl mru mpd mk mg mw mn mgp mga mgb mfc sz u = sz from by unfold fM_unit_c0f3; rw [if_neg c_1, if_neg c_3, if_pos c_5], show fM_unit_a1 ty mcode mtot mat mfl mru mpd mk mg mw mn mgp mga mgb mfc sz u = ty from by unfold fM_unit_a1; rw [if_neg c_1, if_neg c_3, if_pos c_5]]; exact hP, by rw [hAe]; exact hS.F ht⟩) hS.2.2 dM_unit_57
      · skip
        refine lv_iconst (v := 1) hx hb dM_unit_26 (by decide) ?_
        refine lv_goto (tgt := 31) hx hb dM_unit_27 (by decide) ?_
        refine lv_istore_n (lv' := [(2, .int 1), (0, .ref m0), (1, .int u)]) hx hb dM_unit_31 rfl hl (by decide) rfl (fun ls hl => ?_)
        refine lv_iload_n hx hb dM_unit_32 rfl (lv_at hl 0 rfl) ?_
        refine lv_if_eq (tgt := 56) hx hb dM_unit_33 (by decide) (fun c_7 => absurd c_7 (by decide)) (fun c_7 => ?_)
        refine lv_aload_n hx hb dM_unit_36 rfl (lv_at hl 1 rfl) ?_
        refine va_get (D := (dC, dI)) (ci := 6) (v := .ref aTy) (C := RM) (T := TM) (N := 19) hx hb hts inM hown hK hP 0 rfl rfl 2 (by decide) (hts _ gw_576) (fun _ h9 => h9) rfl dM_unit_37 ?_
        refine lv_aload_n hx hb dM_unit_40 rfl (lv_at hl 1 rfl) ?_
        refine va_get (D := (dC, dI)) (ci := 6) (v := .int (nI sz)) (C := RM) (T := TM) (N := 19) hx hb hts inM hown hK hP 0 rfl rfl 3 (by decide) (hts _ gw_577) (fun _ h9 => h9) rfl dM_unit_41 ?_
        refine lv_iload_n hx hb dM_unit_44 rfl (lv_at hl 2 rfl) ?_
        have b_8 : vp_in (nI sz) 120 := tin_c rfl (by decide) (by omega) c_1
        refine va_iast hx hb hK hP hD hS 1 0 rfl rfl b_8 dM_unit_45 (fun H locs hP hD hS => ?_)
        have hP : va_P (dC, dI) vCl [(m0, .inr (6, [.int 0, .long mtot, .ref aTy, .int (nI sz), .int mat, .int mfl, .int mru, .ref aTo, .ref aDr, .int (bI mpd), .int mk, .long mg, .long mw, .int mn, .int (bI mgp), .long mga, .long mgb, .int mfc, .ref aBx])), (aTy, .inl (cTy, 120, .inl (upd ty (nI sz).toNatClampNeg u)))] H := hP
        have hD : va_D A [(m0, .inr (6, [.int 0, .long mtot, .ref aTy, .int (nI sz), .int mat, .int mfl, .int mru, .ref aTo, .ref aDr, .int (bI mpd), .int mk, .long mg, .long mw, .int mn, .int (bI mgp), .long mga, .long mgb, .int mfc, .ref aBx])), (aTy, .inl (cTy, 120, .inl (upd ty (nI sz).toNatClampNeg u)))] := hD
        refine lv_aload_n hx hb dM_unit_46 rfl (lv_at hl 1 rfl) ?_
        refine lv_dup hx hb dM_unit_47 rfl ?_
        refine va_get (D := (dC, dI)) (ci := 6) (v := .int (nI sz)) (C := RM) (T := TM) (N := 19) hx hb hts inM hown hK hP 0 rfl rfl 3 (by decide) (hts _ gw_577) (fun _ h9 => h9) rfl dM_unit_48 ?_
        refine lv_iconst (v := 1) hx hb dM_unit_51 (by decide) ?_
        refine lv_iadd hx hb dM_unit_52 ?_
        rw [nI_1 (sz)]
        refine va_put (D := (dC, dI)) (ci := 6) (v := .int (nI (sz + 1))) (ty := .int) (C := RM) (T := TM) (N := 19) hx hb hts inM yM yoM noM hown hK hP hD hS 0 rfl rfl 3 (by decide) (hts _ gw_577) (fun _ h9 => h9) rfl (by decide +kernel) rfl rfl (Nat.le_of_ble_eq_true rfl) dM_unit_53 (fun H locs hP hD hS => ?_)
        have hP : va_P (dC, dI) vCl [(m0, .inr (6, [.int 0, .long mtot, .ref aTy, .int (nI (sz + 1)), .int mat, .int mfl, .int mru, .ref aTo, .ref aDr, .int (bI mpd), .int mk, .long mg, .long mw, .int mn, .int (bI mgp), .long mga, .long mgb, .int mfc, .ref aBx])), (aTy, .inl (cTy, 120, .inl (upd ty (nI sz).toNatClampNeg u)))] H := hP
        have hD : va_D A [(m0, .inr (6, [.int 0, .long mtot, .ref aTy, .int (nI (sz + 1)), .int mat, .int mfl, .int mru, .ref aTo, .ref aDr, .int (bI mpd), .int mk, .long mg, .long mw, .int mn, .int (bI mgp), .long mga, .long mgb, .int mfc, .ref aBx])), (aTy, .inl (cTy, 120, .inl (upd ty (nI sz).toNatClampNeg u)))] := hD
        refine lv_iload_n hx hb dM_unit_56 rfl (lv_at hl 0 rfl) ?_
        exact W.zret (v := 1) hx hb hr (rfl) (fun t ht hW => ⟨by rw [show fM_unit ty mcode mtot mat mfl mru mpd mk mg mw mn mgp mga mgb mfc sz u = true from by unfold fM_unit; rw [if_neg c_1, if_neg c_3, if_neg c_5]]; rfl, by rw [ht, show fM_unit_c0f3 ty mcode mtot mat mfl mru mpd mk mg mw mn mgp mga mgb mfc sz u = (sz + 1) from by unfold fM_unit_c0f3; rw [if_neg c_1, if_neg c_3, if_neg c_5], show fM_unit_a1 ty mcode mtot mat mfl mru mpd mk mg mw mn mgp mga mgb mfc sz u = upd ty (nI sz).toNatClampNeg u from by unfold fM_unit_a1; rw [if_neg c_1, if_neg c_3, if_neg c_5]]; exact hP, by rw [hAe]; exact hS.F ht⟩) hS.2.2 dM_unit_57

def fM_floor_c0f0 (bx : Nat → Int64) (mcode : Int32) (mtot : Int64) (msz : Int32) (mat : Int32) (mfl : Int32) (mru : Int32) (mpd : Bool) (mk : Int32) (mg : Int64) (mw : Int64) (mn : Int32) (mgp : Bool) (mga : Int64) (mgb : Int64) (fcm : Nat) (q1 : Int64) (q2 : Int64) (q3 : Int64) (q4 : Int64) (q5 : Int64) : Int32 := if (fM_isPlace q1) = true then (if (fM_isPlace q2) = true then (if (fM_isPlace q3) = true then (if (fM_isPlace q4) = true then (if q3 ≤ q1 then 1 else (if q4 ≤ q2 then 1 else (if (fM_isIn q5 0 1000000) = true then (if (nI fcm) = 8 then 0 else 0) else 1))) else 1) else 1) else 1) else 1
def fM_floor_c0f17 (bx : Nat → Int64) (mcode : Int32) (mtot : Int64) (msz : Int32) (mat : Int32) (mfl : Int32) (mru : Int32) (mpd : Bool) (mk : Int32) (mg : Int64) (mw : Int64) (mn : Int32) (mgp : Bool) (mga : Int64) (mgb : Int64) (fcm : Nat) (q1 : Int64) (q2 : Int64) (q3 : Int64) (q4 : Int64) (q5 : Int64) : Nat := if (fM_isPlace q1) = true then (if (fM_isPlace q2) = true then (if (fM_isPlace q3) = true then (if (fM_isPlace q4) = true then (if q3 ≤ q1 then fcm else (if q4 ≤ q2 then fcm else (if (fM_isIn q5 0 1000000) = true then (if (nI fcm) = 8 then fcm else (fcm + 1)) else fcm))) else fcm) else fcm) else fcm) else fcm
def fM_floor_a1 (bx : Nat → Int64) (mcode : Int32) (mtot : Int64) (msz : Int32) (mat : Int32) (mfl : Int32) (mru : Int32) (mpd : Bool) (mk : Int32) (mg : Int64) (mw : Int64) (mn : Int32) (mgp : Bool) (mga : Int64) (mgb : Int64) (fcm : Nat) (q1 : Int64) (q2 : Int64) (q3 : Int64) (q4 : Int64) (q5 : Int64) : Nat → Int64 := if (fM_isPlace q1) = true then (if (fM_isPlace q2) = true then (if (fM_isPlace q3) = true then (if (fM_isPlace q4) = true then (if q3 ≤ q1 then bx else (if q4 ≤ q2 then bx else (if (fM_isIn q5 0 1000000) = true then (if (nI fcm) = 8 then bx else (vp_updL (vp_updL (vp_updL (vp_updL (vp_updL bx (5 * (nI fcm)).toNatClampNeg q1) ((5 * (nI fcm)) + 1).toNatClampNeg q2) ((5 * (nI fcm)) + 2).toNatClampNeg q3) ((5 * (nI fcm)) + 3).toNatClampNeg q4) ((5 * (nI fcm)) + 4).toNatClampNeg q5)) else bx))) else bx) else bx) else bx) else bx
def fM_floor (bx : Nat → Int64) (mcode : Int32) (mtot : Int64) (msz : Int32) (mat : Int32) (mfl : Int32) (mru : Int32) (mpd : Bool) (mk : Int32) (mg : Int64) (mw : Int64) (mn : Int32) (mgp : Bool) (mga : Int64) (mgb : Int64) (fcm : Nat) (q1 : Int64) (q2 : Int64) (q3 : Int64) (q4 : Int64) (q5 : Int64) : Bool := if (fM_isPlace q1) = true then (if (fM_isPlace q2) = true then (if (fM_isPlace q3) = true then (if (fM_isPlace q4) = true then (if q3 ≤ q1 then false else (if q4 ≤ q2 then false else (if (fM_isIn q5 0 1000000) = true then (if (nI fcm) = 8 then false else true) else false))) else false) else false) else false) else false
set_option maxHeartbeats 4000000 in
set_option maxRecDepth 100000 in
theorem c_M_floor (l : Launch) (dC : Nat → ClassId) (dI : Nat → Nat → Nat) (m0 : Nat) (aTy : Nat) (aTo : Nat) (aDr : Nat) (aBx : Nat) (cBx : ClassId) (bx : Nat → Int64) (mcode : Int32) (mtot : Int64) (msz : Int32) (mat : Int32) (mfl : Int32) (mru : Int32) (mpd : Bool) (mk : Int32) (mg : Int64) (mw : Int64) (mn : Int32) (mgp : Bool) (mga : Int64) (mgb : Int64) (fcm : Nat) (q1 : Int64) (q2 : Int64) (q3 : Int64) (q4 : Int64) (q5 : Int64) (hfc : fcm ≤ 8) : Met l mM_floor wM_floor ({ frames := 1, cells := 0, slots := 0, locals := 25 }) (tp_W (dC, dI) vCl [.ref m0, .long q1, .long q2, .long q3, .long q4, .long q5] [(m0, .inr (6, [.int mcode, .long mtot, .ref aTy, .int msz, .int mat, .int mfl, .int mru, .ref aTo, .ref aDr, .int (bI mpd), .int mk, .long mg, .long mw, .int mn, .int (bI mgp), .long mga, .long mgb, .int (nI fcm), .ref aBx])), (aBx, .inl (cBx, 40, .inr (.inl bx)))] [(cBx, .long)]) (tq_W (dC, dI) vCl (some (.int (bI (fM_floor bx mcode mtot msz mat mfl mru mpd mk mg mw mn mgp mga mgb fcm q1 q2 q3 q4 q5)))) [(m0, .inr (6, [.int mcode, .long mtot, .ref aTy, .int msz, .int mat, .int mfl, .int mru, .ref aTo, .ref aDr, .int (bI mpd), .int mk, .long mg, .long mw, .int mn, .int (bI mgp), .long mga, .long mgb, .int (nI fcm), .ref aBx])), (aBx, .inl (cBx, 40, .inr (.inl bx)))] [(m0, .inr (6, [.int (fM_floor_c0f0 bx mcode mtot msz mat mfl mru mpd mk mg mw mn mgp mga mgb fcm q1 q2 q3 q4 q5), .long mtot, .ref aTy, .int msz, .int mat, .int mfl, .int mru, .ref aTo, .ref aDr, .int (bI mpd), .int mk, .long mg, .long mw, .int mn, .int (bI mgp), .long mga, .long mgb, .int (nI (fM_floor_c0f17 bx mcode mtot msz mat mfl mru mpd mk mg mw mn mgp mga mgb fcm q1 q2 q3 q4 q5)), .ref aBx])), (aBx, .inl (cBx, 40, .inr (.inl (fM_floor_a1 bx mcode mtot msz mat mfl mru mpd mk mg mw mn mgp mga mgb fcm q1 q2 q3 q4 q5))))]) 0 0 (tA [(m0, .inr (6, [.int mcode, .long mtot, .ref aTy, .int msz, .int mat, .int mfl, .int mru, .ref aTo, .ref aDr, .int (bI mpd), .int mk, .long mg, .long mw, .int mn, .int (bI mgp), .long mga, .long mgb, .int (nI fcm), .ref aBx])), (aBx, .inl (cBx, 40, .inr (.inl bx)))]) := by
  refine Met.ofW (cc := bM_floor) (maxL := 12) (ret := (some .boolean)) (by decide) rfl ?_
  intro p e s m args below meth c s₁ B hml hv
  obtain ⟨rfl, hP, hK, hN, hD0⟩ := hv
  have hx := B.exec
  have hb := B.bytes
  have hr := B.returns
  have hts : ∀ w ∈ gT, w.before _ s = true := fun w h => atoms_spec (ws := wM_floor) B.pre w (List.mem_cons_of_mem _ h)
  have hown : s.vm.findClass RM = some m.cls := findClass_of_methodNamed B.named
  have hlocks := B.notSynchronized
  have hD := tA_D hD0
  generalize hAe : tA [(m0, .inr (6, [.int mcode, .long mtot, .ref aTy, .int msz, .int mat, .int mfl, .int mru, .ref aTo, .ref aDr, .int (bI mpd), .int mk, .long mg, .long mw, .int mn, .int (bI mgp), .long mga, .long mgb, .int (nI fcm), .ref aBx])), (aBx, .inl (cBx, 40, .inr (.inl bx)))] = A at hD ⊢
  have hS : va_S A s.heap s.heap [] := va_S.rf
  have hP : va_P (dC, dI) vCl [(m0, .inr (6, [.int mcode, .long mtot, .ref aTy, .int msz, .int mat, .int mfl, .int mru, .ref aTo, .ref aDr, .int (bI mpd), .int mk, .long mg, .long mw, .int mn, .int (bI mgp), .long mga, .long mgb, .int (nI fcm), .ref aBx])), (aBx, .inl (cBx, 40, .inr (.inl bx)))] s.heap := hP
  have hl := lv_entry ([.ref m0, .long q1, .long q2, .long q3, .long q4, .long q5]) (n := 12) (Nat.le_of_ble_eq_true rfl)
  rw [lg_entry_eq]
  generalize (lg_sl ([.ref m0, .long q1, .long q2, .long q3, .long q4, .long q5]) ++ List.replicate (12 - (lg_sl ([.ref m0, .long q1, .long q2, .long q3, .long q4, .long q5])).length) Slot.unset).toArray = ls at hl ⊢
  have hl : lv_has ls 12 [(0, .ref m0), (1, .long q1), (3, .long q2), (5, .long q3), (7, .long q4), (9, .long q5)] := hl
  refine lv_lload_n hx hb dM_floor_0 rfl (lv_at hl 1 rfl) ?_
  refine tr_go (st1 := [.int (bI (fM_isPlace q1))]) (va_runS (As := [.long q1]) (rest := []) ⟨hx, hb, hml, hown, hts⟩ (c_M_isPlace l dC dI q1) ⟨cB 1 hts gw_714 gw_7 gw_712 ndM_isPlace rfl rfl ⟨Nat.le_of_ble_eq_true rfl, Nat.le_of_ble_eq_true rfl⟩, hts _ gw_713⟩ (tp_Rs hN hK hP [] [] rfl rfl) rfl rfl hl.1 rfl (lv_room (Nat.le_of_ble_eq_true rfl)) dM_floor_1 ⟨Nat.le_of_ble_eq_true rfl, Nat.le_of_ble_eq_true rfl⟩) rfl ?_
  refine tb_ifeq (tgt := 60) hx hb dM_floor_4 (by decide) (fun c_1 => ?_) (fun c_1 => ?_)
  · skip
    refine lv_iconst (v := 0) hx hb dM_floor_60 (by decide) ?_
    refine lv_istore (lv' := [(11, .int 0), (0, .ref m0), (1, .long q1), (3, .long q2), (5, .long q3), (7, .long q4), (9, .long q5)]) hx hb dM_floor_61 hl (by decide) rfl (fun ls hl => ?_)
    refine lv_aload_n hx hb dM_floor_63 rfl (lv_at hl 1 rfl) ?_
    refine lv_iload hx hb dM_floor_64 (lv_at hl 0 rfl) ?_
    refine lv_if_eq (tgt := 73) hx hb dM_floor_66 (by decide) (fun c_2 => ?_) (fun c_2 => absurd (by decide) c_2)
    refine lv_iconst (v := 1) hx hb dM_floor_73 (by decide) ?_
    refine va_put (D := (dC, dI)) (ci := 6) (v := .int 1) (ty := .int) (C := RM) (T := TM) (N := 19) hx hb hts inM yM yoM noM hown hK hP hD hS 0 rfl rfl 0 (by decide) (hts _ gw_574) (fun _ h9 => h9) rfl (by decide +kernel) rfl rfl (Nat.le_of_ble_eq_true rfl) dM_floor_74 (fun H locs hP hD hS => ?_)
    have hP : va_P (dC, dI) vCl [(m0, .inr (6, [.int 1, .long mtot, .ref aTy, .int msz, .int mat, .int mfl, .int mru, .ref aTo, .ref aDr, .int (bI mpd), .int mk, .long mg, .long mw, .int mn, .int (bI mgp), .long mga, .long mgb, .int (nI fcm), .ref aBx])), (aBx, .inl (cBx, 40, .inr (.inl bx)))] H := hP
    have hD : va_D A [(m0, .inr (6, [.int 1, .long mtot, .ref aTy, .int msz, .int mat, .int mfl, .int mru, .ref aTo, .ref aDr, .int (bI mpd), .int mk, .long mg, .long mw, .int mn, .int (bI mgp), .long mga, .long mgb, .int (nI fcm), .ref aBx])), (aBx, .inl (cBx, 40, .inr (.inl bx)))] := hD
    refine lv_aload_n hx hb dM_floor_77 rfl (lv_at hl 1 rfl) ?_
    refine va_get (D := (dC, dI)) (ci := 6) (v := .int 1) (C := RM) (T := TM) (N := 19) hx hb hts inM hown hK hP 0 rfl rfl 0 (by decide) (hts _ gw_574) (fun _ h9 => h9) rfl dM_floor_78 ?_
    refine lv_if_gt (tgt := 93) hx hb dM_floor_81 (by decide) (fun c_3 => ?_) (fun c_3 => absurd (by decide) c_3)
    refine lv_iconst (v := 0) hx hb dM_floor_93 (by decide) ?_
    exact W.zret (v := 0) hx hb hr (rfl) (fun t ht hW => ⟨by rw [show fM_floor bx mcode mtot msz mat mfl mru mpd mk mg mw mn mgp mga mgb fcm q1 q2 q3 q4 q5 = false from by unfold fM_floor; rw [if_neg (Bool.eq_false_iff.mp c_1)]]; rfl, by rw [ht, show fM_floor_c0f0 bx mcode mtot msz mat mfl mru mpd mk mg mw mn mgp mga mgb fcm q1 q2 q3 q4 q5 = 1 from by unfold fM_floor_c0f0; rw [if_neg (Bool.eq_false_iff.mp c_1)], show fM_floor_c0f17 bx mcode mtot msz mat mfl mru mpd mk mg mw mn mgp mga mgb fcm q1 q2 q3 q4 q5 = fcm from by unfold fM_floor_c0f17; rw [if_neg (Bool.eq_false_iff.mp c_1)], show fM_floor_a1 bx mcode mtot msz mat mfl mru mpd mk mg mw mn mgp mga mgb fcm q1 q2 q3 q4 q5 = bx from by unfold fM_floor_a1; rw [if_neg (Bool.eq_false_iff.mp c_1)]]; exact hP, by rw [hAe]; exact hS.F ht⟩) hS.2.2 dM_floor_94
  · skip
    refine lv_lload_n hx hb dM_floor_7 rfl (lv_at hl 2 rfl) ?_
    refine tr_go (st1 := [.int (bI (fM_isPlace q2))]) (va_runS (As := [.long q2]) (rest := []) ⟨hx, hb, hml, hown, hts⟩ (c_M_isPlace l dC dI q2) ⟨cB 1 hts gw_714 gw_7 gw_712 ndM_isPlace rfl rfl ⟨Nat.le_of_ble_eq_true rfl, Nat.le_of_ble_eq_true rfl⟩, hts _ gw_713⟩ (tp_Rs hN hK hP [] [] rfl rfl) rfl rfl hl.1 rfl (lv_room (Nat.le_of_ble_eq_true rfl)) dM_floor_8 ⟨Nat.le_of_ble_eq_true rfl, Nat.le_of_ble_eq_true rfl⟩) rfl ?_
    refine tb_ifeq (tgt := 60) hx hb dM_floor_11 (by decide) (fun c_4 => ?_) (fun c_4 => ?_)
    · skip
      refine lv_iconst (v := 0) hx hb dM_floor_60 (by decide) ?_
      refine lv_istore (lv' := [(11, .int 0), (0, .ref m0), (1, .long q1), (3, .long q2), (5, .long q3), (7, .long q4), (9, .long q5)]) hx hb dM_floor_61 hl (by decide) rfl (fun ls hl => ?_)
      refine lv_aload_n hx hb dM_floor_63 rfl (lv_at hl 1 rfl) ?_
      refine lv_iload hx hb dM_floor_64 (lv_at hl 0 rfl) ?_
      refine lv_if_eq (tgt := 73) hx hb dM_floor_66 (by decide) (fun c_5 => ?_) (fun c_5 => absurd (by decide) c_5)
      refine lv_iconst (v := 1) hx hb dM_floor_73 (by decide) ?_
      refine va_put (D := (dC, dI)) (ci := 6) (v := .int 1) (ty := .int) (C := RM) (T := TM) (N := 19) hx hb hts inM yM yoM noM hown hK hP hD hS 0 rfl rfl 0 (by decide) (hts _ gw_574) (fun _ h9 => h9) rfl (by decide +kernel) rfl rfl (Nat.le_of_ble_eq_true rfl) dM_floor_74 (fun H locs hP hD hS => ?_)
      have hP : va_P (dC, dI) vCl [(m0, .inr (6, [.int 1, .long mtot, .ref aTy, .int msz, .int mat, .int mfl, .int mru, .ref aTo, .ref aDr, .int (bI mpd), .int mk, .long mg, .long mw, .int mn, .int (bI mgp), .long mga, .long mgb, .int (nI fcm), .ref aBx])), (aBx, .inl (cBx, 40, .inr (.inl bx)))] H := hP
      have hD : va_D A [(m0, .inr (6, [.int 1, .long mtot, .ref aTy, .int msz, .int mat, .int mfl, .int mru, .ref aTo, .ref aDr, .int (bI mpd), .int mk, .long mg, .long mw, .int mn, .int (bI mgp), .long mga, .long mgb, .int (nI fcm), .ref aBx])), (aBx, .inl (cBx, 40, .inr (.inl bx)))] := hD
      refine lv_aload_n hx hb dM_floor_77 rfl (lv_at hl 1 rfl) ?_
      refine va_get (D := (dC, dI)) (ci := 6) (v := .int 1) (C := RM) (T := TM) (N := 19) hx hb hts inM hown hK hP 0 rfl rfl 0 (by decide) (hts _ gw_574) (fun _ h9 => h9) rfl dM_floor_78 ?_
      refine lv_if_gt (tgt := 93) hx hb dM_floor_81 (by decide) (fun c_6 => ?_) (fun c_6 => absurd (by decide) c_6)
      refine lv_iconst (v := 0) hx hb dM_floor_93 (by decide) ?_
      exact W.zret (v := 0) hx hb hr (rfl) (fun t ht hW => ⟨by rw [show fM_floor bx mcode mtot msz mat mfl mru mpd mk mg mw mn mgp mga mgb fcm q1 q2 q3 q4 q5 = false from by unfold fM_floor; rw [if_pos c_1, if_neg (Bool.eq_false_iff.mp c_4)]]; rfl, by rw [ht, show fM_floor_c0f0 bx mcode mtot msz mat mfl mru mpd mk mg mw mn mgp mga mgb fcm q1 q2 q3 q4 q5 = 1 from by unfold fM_floor_c0f0; rw [if_pos c_1, if_neg (Bool.eq_false_iff.mp c_4)], show fM_floor_c0f17 bx mcode mtot msz mat mfl mru mpd mk mg mw mn mgp mga mgb fcm q1 q2 q3 q4 q5 = fcm from by unfold fM_floor_c0f17; rw [if_pos c_1, if_neg (Bool.eq_false_iff.mp c_4)], show fM_floor_a1 bx mcode mtot msz mat mfl mru mpd mk mg mw mn mgp mga mgb fcm q1 q2 q3 q4 q5 = bx from by unfold fM_floor_a1; rw [if_pos c_1, if_neg (Bool.eq_false_iff.mp c_4)]]; exact hP, by rw [hAe]; exact hS.F ht⟩) hS.2.2 dM_floor_94
    · skip
      refine lv_lload hx hb dM_floor_14 (lv_at hl 3 rfl) ?_
      refine tr_go (st1 := [.int (bI (fM_isPlace q3))]) (va_runS (As := [.long q3]) (rest := []) ⟨hx, hb, hml, hown, hts⟩ (c_M_isPlace l dC dI q3) ⟨cB 1 hts gw_714 gw_7 gw_712 ndM_isPlace rfl rfl ⟨Nat.le_of_ble_eq_true rfl, Nat.le_of_ble_eq_true rfl⟩, hts _ gw_713⟩ (tp_Rs hN hK hP [] [] rfl rfl) rfl rfl hl.1 rfl (lv_room (Nat.le_of_ble_eq_true rfl)) dM_floor_16 ⟨Nat.le_of_ble_eq_true rfl, Nat.le_of_ble_eq_true rfl⟩) rfl ?_
      refine tb_ifeq (tgt := 60) hx hb dM_floor_19 (by decide) (fun c_7 => ?_) (fun c_7 => ?_)
      · skip
        refine lv_iconst (v := 0) hx hb dM_floor_60 (by decide) ?_
        refine lv_istore (lv' := [(11, .int 0), (0, .ref m0), (1, .long q1), (3, .long q2), (5, .long q3), (7, .long q4), (9, .long q5)]) hx hb dM_floor_61 hl (by decide) rfl (fun ls hl => ?_)
        refine lv_aload_n hx hb dM_floor_63 rfl (lv_at hl 1 rfl) ?_
        refine lv_iload hx hb dM_floor_64 (lv_at hl 0 rfl) ?_
        refine lv_if_eq (tgt := 73) hx hb dM_floor_66 (by decide) (fun c_8 => ?_) (fun c_8 => absurd (by decide) c_8)
        refine lv_iconst (v := 1) hx hb dM_floor_73 (by decide) ?_
        refine va_put (D := (dC, dI)) (ci := 6) (v := .int 1) (ty := .int) (C := RM) (T := TM) (N := 19) hx hb hts inM yM yoM noM hown hK hP hD hS 0 rfl rfl 0 (by decide) (hts _ gw_574) (fun _ h9 => h9) rfl (by decide +kernel) rfl rfl (Nat.le_of_ble_eq_true rfl) dM_floor_74 (fun H locs hP hD hS => ?_)
        have hP : va_P (dC, dI) vCl [(m0, .inr (6, [.int 1, .long mtot, .ref aTy, .int msz, .int mat, .int mfl, .int mru, .ref aTo, .ref aDr, .int (bI mpd), .int mk, .long mg, .long mw, .int mn, .int (bI mgp), .long mga, .long mgb, .int (nI fcm), .ref aBx])), (aBx, .inl (cBx, 40, .inr (.inl bx)))] H := hP
        have hD : va_D A [(m0, .inr (6, [.int 1, .long mtot, .ref aTy, .int msz, .int mat, .int mfl, .int mru, .ref aTo, .ref aDr, .int (bI mpd), .int mk, .long mg, .long mw, .int mn, .int (bI mgp), .long mga, .long mgb, .int (nI fcm), .ref aBx])), (aBx, .inl (cBx, 40, .inr (.inl bx)))] := hD
        refine lv_aload_n hx hb dM_floor_77 rfl (lv_at hl 1 rfl) ?_
        refine va_get (D := (dC, dI)) (ci := 6) (v := .int 1) (C := RM) (T := TM) (N := 19) hx hb hts inM hown hK hP 0 rfl rfl 0 (by decide) (hts _ gw_574) (fun _ h9 => h9) rfl dM_floor_78 ?_
        refine lv_if_gt (tgt := 93) hx hb dM_floor_81 (by decide) (fun c_9 => ?_) (fun c_9 => absurd (by decide) c_9)
        refine lv_iconst (v := 0) hx hb dM_floor_93 (by decide) ?_
        exact W.zret (v := 0) hx hb hr (rfl) (fun t ht hW => ⟨by rw [show fM_floor bx mcode mtot msz mat mfl mru mpd mk mg mw mn mgp mga mgb fcm q1 q2 q3 q4 q5 = false from by unfold fM_floor; rw [if_pos c_1, if_pos c_4, if_neg (Bool.eq_false_iff.mp c_7)]]; rfl, by rw [ht, show fM_floor_c0f0 bx mcode mtot msz mat mfl mru mpd mk mg mw mn mgp mga mgb fcm q1 q2 q3 q4 q5 = 1 from by unfold fM_floor_c0f0; rw [if_pos c_1, if_pos c_4, if_neg (Bool.eq_false_iff.mp c_7)], show fM_floor_c0f17 bx mcode mtot msz mat mfl mru mpd mk mg mw mn mgp mga mgb fcm q1 q2 q3 q4 q5 = fcm from by unfold fM_floor_c0f17; rw [if_pos c_1, if_pos c_4, if_neg (Bool.eq_false_iff.mp c_7)], show fM_floor_a1 bx mcode mtot msz mat mfl mru mpd mk mg mw mn mgp mga mgb fcm q1 q2 q3 q4 q5 = bx from by unfold fM_floor_a1; rw [if_pos c_1, if_pos c_4, if_neg (Bool.eq_false_iff.mp c_7)]]; exact hP, by rw [hAe]; exact hS.F ht⟩) hS.2.2 dM_floor_94
      · skip
        refine lv_lload hx hb dM_floor_22 (lv_at hl 4 rfl) ?_
        refine tr_go (st1 := [.int (bI (fM_isPlace q4))]) (va_runS (As := [.long q4]) (rest := []) ⟨hx, hb, hml, hown, hts⟩ (c_M_isPlace l dC dI q4) ⟨cB 1 hts gw_714 gw_7 gw_712 ndM_isPlace rfl rfl ⟨Nat.le_of_ble_eq_true rfl, Nat.le_of_ble_eq_true rfl⟩, hts _ gw_713⟩ (tp_Rs hN hK hP [] [] rfl rfl) rfl rfl hl.1 rfl (lv_room (Nat.le_of_ble_eq_true rfl)) dM_floor_24 ⟨Nat.le_of_ble_eq_true rfl, Nat.le_of_ble_eq_true rfl⟩) rfl ?_
        refine tb_ifeq (tgt := 60) hx hb dM_floor_27 (by decide) (fun c_10 => ?_) (fun c_10 => ?_)
        · skip
          refine lv_iconst (v := 0) hx hb dM_floor_60 (by decide) ?_
          refine lv_istore (lv' := [(11, .int 0), (0, .ref m0), (1, .long q1), (3, .long q2), (5, .long q3), (7, .long q4), (9, .long q5)]) hx hb dM_floor_61 hl (by decide) rfl (fun ls hl => ?_)
          refine lv_aload_n hx hb dM_floor_63 rfl (lv_at hl 1 rfl) ?_
          refine lv_iload hx hb dM_floor_64 (lv_at hl 0 rfl) ?_
          refine lv_if_eq (tgt := 73) hx hb dM_floor_66 (by decide) (fun c_11 => ?_) (fun c_11 => absurd (by decide) c_11)
          refine lv_iconst (v := 1) hx hb dM_floor_73 (by decide) ?_
          refine va_put (D := (dC, dI)) (ci := 6) (v := .int 1) (ty := .int) (C := RM) (T := TM) (N := 19) hx hb hts inM yM yoM noM hown hK hP hD hS 0 rfl rfl 0 (by decide) (hts _ gw_574) (fun _ h9 => h9) rfl (by decide +kernel) rfl rfl (Nat.le_of_ble_eq_true rfl) dM_floor_74 (fun H locs hP hD hS => ?_)
          have hP : va_P (dC, dI) vCl [(m0, .inr (6, [.int 1, .long mtot, .ref aTy, .int msz, .int mat, .int mfl, .int mru, .ref aTo, .ref aDr, .int (bI mpd), .int mk, .long mg, .long mw, .int mn, .int (bI mgp), .long mga, .long mgb, .int (nI fcm), .ref aBx])), (aBx, .inl (cBx, 40, .inr (.inl bx)))] H := hP
          have hD : va_D A [(m0, .inr (6, [.int 1, .long mtot, .ref aTy, .int msz, .int mat, .int mfl, .int mru, .ref aTo, .ref aDr, .int (bI mpd), .int mk, .long mg, .long mw, .int mn, .int (bI mgp), .long mga, .long mgb, .int (nI fcm), .ref aBx])), (aBx, .inl (cBx, 40, .inr (.inl bx)))] := hD
          refine lv_aload_n hx hb dM_floor_77 rfl (lv_at hl 1 rfl) ?_
          refine va_get (D := (dC, dI)) (ci := 6) (v := .int 1) (C := RM) (T := TM) (N := 19) hx hb hts inM hown hK hP 0 rfl rfl 0 (by decide) (hts _ gw_574) (fun _ h9 => h9) rfl dM_floor_78 ?_
          refine lv_if_gt (tgt := 93) hx hb dM_floor_81 (by decide) (fun c_12 => ?_) (fun c_12 => absurd (by decide) c_12)
          refine lv_iconst (v := 0) hx hb dM_floor_93 (by decide) ?_
          exact W.zret (v := 0) hx hb hr (rfl) (fun t ht hW => ⟨by rw [show fM_floor bx mcode mtot msz mat mfl mru mpd mk mg mw mn mgp mga mgb fcm q1 q2 q3 q4 q5 = false from by unfold fM_floor; rw [if_pos c_1, if_pos c_4, if_pos c_7, if_neg (Bool.eq_false_iff.mp c_10)]]; rfl, by rw [ht, show fM_floor_c0f0 bx mcode mtot msz mat mfl mru mpd mk mg mw mn mgp mga mgb fcm q1 q2 q3 q4 q5 = 1 from by unfold fM_floor_c0f0; rw [if_pos c_1, if_pos c_4, if_pos c_7, if_neg (Bool.eq_false_iff.mp c_10)], show fM_floor_c0f17 bx mcode mtot msz mat mfl mru mpd mk mg mw mn mgp mga mgb fcm q1 q2 q3 q4 q5 = fcm from by unfold fM_floor_c0f17; rw [if_pos c_1, if_pos c_4, if_pos c_7, if_neg (Bool.eq_false_iff.mp c_10)], show fM_floor_a1 bx mcode mtot msz mat mfl mru mpd mk mg mw mn mgp mga mgb fcm q1 q2 q3 q4 q5 = bx from by unfold fM_floor_a1; rw [if_pos c_1, if_pos c_4, if_pos c_7, if_neg (Bool.eq_false_iff.mp c_10)]]; exact hP, by rw [hAe]; exact hS.F ht⟩) hS.2.2 dM_floor_94
        · skip
          refine lv_lload hx hb dM_floor_30 (lv_at hl 3 rfl) ?_
          refine lv_lload_n hx hb dM_floor_32 rfl (lv_at hl 1 rfl) ?_
          refine tl_le (tgt := 60) hx hb dM_floor_33 dM_floor_34 (by decide) (fun c_13 => ?_) (fun c_13 => ?_)
          · skip
            refine lv_iconst (v := 0) hx hb dM_floor_60 (by decide) ?_
            refine lv_istore (lv' := [(11, .int 0), (0, .ref m0), (1, .long q1), (3, .long q2), (5, .long q3), (7, .long q4), (9, .long q5)]) hx hb dM_floor_61 hl (by decide) rfl (fun ls hl => ?_)
            refine lv_aload_n hx hb dM_floor_63 rfl (lv_at hl 1 rfl) ?_
            refine lv_iload hx hb dM_floor_64 (lv_at hl 0 rfl) ?_
            refine lv_if_eq (tgt := 73) hx hb dM_floor_66 (by decide) (fun c_14 => ?_) (fun c_14 => absurd (by decide) c_14)
            refine lv_iconst (v := 1) hx hb dM_floor_73 (by decide) ?_
            refine va_put (D := (dC, dI)) (ci := 6) (v := .int 1) (ty := .int) (C := RM) (T := TM) (N := 19) hx hb hts inM yM yoM noM hown hK hP hD hS 0 rfl rfl 0 (by decide) (hts _ gw_574) (fun _ h9 => h9) rfl (by decide +kernel) rfl rfl (Nat.le_of_ble_eq_true rfl) dM_floor_74 (fun H locs hP hD hS => ?_)
            have hP : va_P (dC, dI) vCl [(m0, .inr (6, [.int 1, .long mtot, .ref aTy, .int msz, .int mat, .int mfl, .int mru, .ref aTo, .ref aDr, .int (bI mpd), .int mk, .long mg, .long mw, .int mn, .int (bI mgp), .long mga, .long mgb, .int (nI fcm), .ref aBx])), (aBx, .inl (cBx, 40, .inr (.inl bx)))] H := hP
            have hD : va_D A [(m0, .inr (6, [.int 1, .long mtot, .ref aTy, .int msz, .int mat, .int mfl, .int mru, .ref aTo, .ref aDr, .int (bI mpd), .int mk, .long mg, .long mw, .int mn, .int (bI mgp), .long mga, .long mgb, .int (nI fcm), .ref aBx])), (aBx, .inl (cBx, 40, .inr (.inl bx)))] := hD
            refine lv_aload_n hx hb dM_floor_77 rfl (lv_at hl 1 rfl) ?_
            refine va_get (D := (dC, dI)) (ci := 6) (v := .int 1) (C := RM) (T := TM) (N := 19) hx hb hts inM hown hK hP 0 rfl rfl 0 (by decide) (hts _ gw_574) (fun _ h9 => h9) rfl dM_floor_78 ?_
            refine lv_if_gt (tgt := 93) hx hb dM_floor_81 (by decide) (fun c_15 => ?_) (fun c_15 => absurd (by decide) c_15)
            refine lv_iconst (v := 0) hx hb dM_floor_93 (by decide) ?_
            exact W.zret (v := 0) hx hb hr (rfl) (fun t ht hW => ⟨by rw [show fM_floor bx mcode mtot msz mat mfl mru mpd mk mg mw mn mgp mga mgb fcm q1 q2 q3 q4 q5 = false from by unfold fM_floor; rw [if_pos c_1, if_pos c_4, if_pos c_7, if_pos c_10, if_pos c_13]]; rfl, by rw [ht, show fM_floor_c0f0 bx mcode mtot msz mat mfl mru mpd mk mg mw mn mgp mga mgb fcm q1 q2 q3 q4 q5 = 1 from by unfold fM_floor_c0f0; rw [if_pos c_1, if_pos c_4, if_pos c_7, if_pos c_10, if_pos c_13], show fM_floor_c0f17 bx mcode mtot msz mat mfl mru mpd mk mg mw mn mgp mga mgb fcm q1 q2 q3 q4 q5 = fcm from by unfold fM_floor_c0f17; rw [if_pos c_1, if_pos c_4, if_pos c_7, if_pos c_10, if_pos c_13], show fM_floor_a1 bx mcode mtot msz mat mfl mru mpd mk mg mw mn mgp mga mgb fcm q1 q2 q3 q4 q5 = bx from by unfold fM_floor_a1; rw [if_pos c_1, if_pos c_4, if_pos c_7, if_pos c_10, if_pos c_13]]; exact hP, by rw [hAe]; exact hS.F ht⟩) hS.2.2 dM_floor_94
          · skip
            refine lv_lload hx hb dM_floor_37 (lv_at hl 4 rfl) ?_
            refine lv_lload_n hx hb dM_floor_39 rfl (lv_at hl 2 rfl) ?_
            refine tl_le (tgt := 60) hx hb dM_floor_40 dM_floor_41 (by decide) (fun c_16 => ?_) (fun c_16 => ?_)
            · skip
              refine lv_iconst (v := 0) hx hb dM_floor_60 (by decide) ?_
              refine lv_istore (lv' := [(11, .int 0), (0, .ref m0), (1, .long q1), (3, .long q2), (5, .long q3), (7, .long q4), (9, .long q5)]) hx hb dM_floor_61 hl (by decide) rfl (fun ls hl => ?_)
              refine lv_aload_n hx hb dM_floor_63 rfl (lv_at hl 1 rfl) ?_
              refine lv_iload hx hb dM_floor_64 (lv_at hl 0 rfl) ?_
              refine lv_if_eq (tgt := 73) hx hb dM_floor_66 (by decide) (fun c_17 => ?_) (fun c_17 => absurd (by decide) c_17)
              refine lv_iconst (v := 1) hx hb dM_floor_73 (by decide) ?_
              refine va_put (D := (dC, dI)) (ci := 6) (v := .int 1) (ty := .int) (C := RM) (T := TM) (N := 19) hx hb hts inM yM yoM noM hown hK hP hD hS 0 rfl rfl 0 (by decide) (hts _ gw_574) (fun _ h9 => h9) rfl (by decide +kernel) rfl rfl (Nat.le_of_ble_eq_true rfl) dM_floor_74 (fun H locs hP hD hS => ?_)
              have hP : va_P (dC, dI) vCl [(m0, .inr (6, [.int 1, .long mtot, .ref aTy, .int msz, .int mat, .int mfl, .int mru, .ref aTo, .ref aDr, .int (bI mpd), .int mk, .long mg, .long mw, .int mn, .int (bI mgp), .long mga, .long mgb, .int (nI fcm), .ref aBx])), (aBx, .inl (cBx, 40, .inr (.inl bx)))] H := hP
              have hD : va_D A [(m0, .inr (6, [.int 1, .long mtot, .ref aTy, .int msz, .int mat, .int mfl, .int mru, .ref aTo, .ref aDr, .int (bI mpd), .int mk, .long mg, .long mw, .int mn, .int (bI mgp), .long mga, .long mgb, .int (nI fcm), .ref aBx])), (aBx, .inl (cBx, 40, .inr (.inl bx)))] := hD
              refine lv_aload_n hx hb dM_floor_77 rfl (lv_at hl 1 rfl) ?_
              refine va_get (D := (dC, dI)) (ci := 6) (v := .int 1) (C := RM) (T := TM) (N := 19) hx hb hts inM hown hK hP 0 rfl rfl 0 (by decide) (hts _ gw_574) (fun _ h9 => h9) rfl dM_floor_78 ?_
              refine lv_if_gt (tgt := 93) hx hb dM_floor_81 (by decide) (fun c_18 => ?_) (fun c_18 => absurd (by decide) c_18)
              refine lv_iconst (v := 0) hx hb dM_floor_93 (by decide) ?_
              exact W.zret (v := 0) hx hb hr (rfl) (fun t ht hW => ⟨by rw [show fM_floor bx mcode mtot msz mat mfl mru mpd mk mg mw mn mgp mga mgb fcm q1 q2 q3 q4 q5 = false from by unfold fM_floor; rw [if_pos c_1, if_pos c_4, if_pos c_7, if_pos c_10, if_neg c_13, if_pos c_16]]; rfl, by rw [ht, show fM_floor_c0f0 bx mcode mtot msz mat mfl mru mpd mk mg mw mn mgp mga mgb fcm q1 q2 q3 q4 q5 = 1 from by unfold fM_floor_c0f0; rw [if_pos c_1, if_pos c_4, if_pos c_7, if_pos c_10, if_neg c_13, if_pos c_16], show fM_floor_c0f17 bx mcode mtot msz mat mfl mru mpd mk mg mw mn mgp mga mgb fcm q1 q2 q3 q4 q5 = fcm from by unfold fM_floor_c0f17; rw [if_pos c_1, if_pos c_4, if_pos c_7, if_pos c_10, if_neg c_13, if_pos c_16], show fM_floor_a1 bx mcode mtot msz mat mfl mru mpd mk mg mw mn mgp mga mgb fcm q1 q2 q3 q4 q5 = bx from by unfold fM_floor_a1; rw [if_pos c_1, if_pos c_4, if_pos c_7, if_pos c_10, if_neg c_13, if_pos c_16]]; exact hP, by rw [hAe]; exact hS.F ht⟩) hS.2.2 dM_floor_94
            · skip
              refine lv_lload hx hb dM_floor_44 (lv_at hl 5 rfl) ?_
              refine lv_lconst (v := 0) hx hb dM_floor_46 (by decide) ?_
              refine lv_ldc2 (v := 1000000) hx hb hown (hts _ gw_716) dM_floor_47 ?_
              refine tr_go (st1 := [.int (bI (fM_isIn q5 0 1000000))]) (va_runS (As := [.long q5, .long 0, .long 1000000]) (rest := []) ⟨hx, hb, hml, hown, hts⟩ (c_M_isIn l dC dI q5 0 1000000) ⟨cB 3 hts gw_623 gw_7 gw_621 ndM_isIn rfl rfl ⟨Nat.le_of_ble_eq_true rfl, Nat.le_of_ble_eq_true rfl⟩, hts _ gw_622⟩ (tp_Rs hN hK hP [] [] rfl rfl) rfl rfl hl.1 rfl (lv_room (Nat.le_of_ble_eq_true rfl)) dM_floor_50 ⟨Nat.le_of_ble_eq_true rfl, Nat.le_of_ble_eq_true rfl⟩) rfl ?_
              refine tb_ifeq (tgt := 60) hx hb dM_floor_53 (by decide) (fun c_19 => ?_) (fun c_19 => ?_)
              · skip
                refine lv_iconst (v := 0) hx hb dM_floor_60 (by decide) ?_
                refine lv_istore (lv' := [(11, .int 0), (0, .ref m0), (1, .long q1), (3, .long q2), (5, .long q3), (7, .long q4), (9, .long q5)]) hx hb dM_floor_61 hl (by decide) rfl (fun ls hl => ?_)
                refine lv_aload_n hx hb dM_floor_63 rfl (lv_at hl 1 rfl) ?_
                refine lv_iload hx hb dM_floor_64 (lv_at hl 0 rfl) ?_
                refine lv_if_eq (tgt := 73) hx hb dM_floor_66 (by decide) (fun c_20 => ?_) (fun c_20 => absurd (by decide) c_20)
                refine lv_iconst (v := 1) hx hb dM_floor_73 (by decide) ?_
                refine va_put (D := (dC, dI)) (ci := 6) (v := .int 1) (ty := .int) (C := RM) (T := TM) (N := 19) hx hb hts inM yM yoM noM hown hK hP hD hS 0 rfl rfl 0 (by decide) (hts _ gw_574) (fun _ h9 => h9) rfl (by decide +kernel) rfl rfl (Nat.le_of_ble_eq_true rfl) dM_floor_74 (fun H locs hP hD hS => ?_)
                have hP : va_P (dC, dI) vCl [(m0, .inr (6, [.int 1, .long mtot, .ref aTy, .int msz, .int mat, .int mfl, .int mru, .ref aTo, .ref aDr, .int (bI mpd), .int mk, .long mg, .long mw, .int mn, .int (bI mgp), .long mga, .long mgb, .int (nI fcm), .ref aBx])), (aBx, .inl (cBx, 40, .inr (.inl bx)))] H := hP
                have hD : va_D A [(m0, .inr (6, [.int 1, .long mtot, .ref aTy, .int msz, .int mat, .int mfl, .int mru, .ref aTo, .ref aDr, .int (bI mpd), .int mk, .long mg, .long mw, .int mn, .int (bI mgp), .long mga, .long mgb, .int (nI fcm), .ref aBx])), (aBx, .inl (cBx, 40, .inr (.inl bx)))] := hD
                refine lv_aload_n hx hb dM_floor_77 rfl (lv_at hl 1 rfl) ?_
                refine va_get (D := (dC, dI)) (ci := 6) (v := .int 1) (C := RM) (T := TM) (N := 19) hx hb hts inM hown hK hP 0 rfl rfl 0 (by decide) (hts _ gw_574) (fun _ h9 => h9) rfl dM_floor_78 ?_
                refine lv_if_gt (tgt := 93) hx hb dM_floor_81 (by decide) (fun c_21 => ?_) (fun c_21 => absurd (by decide) c_21)
                refine lv_iconst (v := 0) hx hb dM_floor_93 (by decide) ?_
                exact W.zret (v := 0) hx hb hr (rfl) (fun t ht hW => ⟨by rw [show fM_floor bx mcode mtot msz mat mfl mru mpd mk mg mw mn mgp mga mgb fcm q1 q2 q3 q4 q5 = false from by unfold fM_floor; rw [if_pos c_1, if_pos c_4, if_pos c_7, if_pos c_10, if_neg c_13, if_neg c_16, if_neg (Bool.eq_false_iff.mp c_19)]]; rfl, by rw [ht, show fM_floor_c0f0 bx mcode mtot msz mat mfl mru mpd mk mg mw mn mgp mga mgb fcm q1 q2 q3 q4 q5 = 1 from by unfold fM_floor_c0f0; rw [if_pos c_1, if_pos c_4, if_pos c_7, if_pos c_10, if_neg c_13, if_neg c_16, if_neg (Bool.eq_false_iff.mp c_19)], show fM_floor_c0f17 bx mcode mtot msz mat mfl mru mpd mk mg mw mn mgp mga mgb fcm q1 q2 q3 q4 q5 = fcm from by unfold fM_floor_c0f17; rw [if_pos c_1, if_pos c_4, if_pos c_7, if_pos c_10, if_neg c_13, if_neg c_16, if_neg (Bool.eq_false_iff.mp c_19)], show fM_floor_a1 bx mcode mtot msz mat mfl mru mpd mk mg mw mn mgp mga mgb fcm q1 q2 q3 q4 q5 = bx from by unfold fM_floor_a1; rw [if_pos c_1, if_pos c_4, if_pos c_7, if_pos c_10, if_neg c_13, if_neg c_16, if_neg (Bool.eq_false_iff.mp c_19)]]; exact hP, by rw [hAe]; exact hS.F ht⟩) hS.2.2 dM_floor_94
              · skip
                refine lv_iconst (v := 1) hx hb dM_floor_56 (by decide) ?_
                refine lv_goto (tgt := 61) hx hb dM_floor_57 (by decide) ?_
                refine lv_istore (lv' := [(11, .int 1), (0, .ref m0), (1, .long q1), (3, .long q2), (5, .long q3), (7, .long q4), (9, .long q5)]) hx hb dM_floor_61 hl (by decide) rfl (fun ls hl => ?_)
                refine lv_aload_n hx hb dM_floor_63 rfl (lv_at hl 1 rfl) ?_
                refine lv_iload hx hb dM_floor_64 (lv_at hl 0 rfl) ?_
                refine lv_if_eq (tgt := 73) hx hb dM_floor_66 (by decide) (fun c_22 => absurd c_22 (by decide)) (fun c_22 => ?_)
                refine lv_iconst (v := 0) hx hb dM_floor_69 (by decide) ?_
                refine lv_goto (tgt := 74) hx hb dM_floor_70 (by decide) ?_
                refine va_put (D := (dC, dI)) (ci := 6) (v := .int 0) (ty := .int) (C := RM) (T := TM) (N := 19) hx hb hts inM yM yoM noM hown hK hP hD hS 0 rfl rfl 0 (by decide) (hts _ gw_574) (fun _ h9 => h9) rfl (by decide +kernel) rfl rfl (Nat.le_of_ble_eq_true rfl) dM_floor_74 (fun H locs hP hD hS => ?_)
                have hP : va_P (dC, dI) vCl [(m0, .inr (6, [.int 0, .long mtot, .ref aTy, .int msz, .int mat, .int mfl, .int mru, .ref aTo, .ref aDr, .int (bI mpd), .int mk, .long mg, .long mw, .int mn, .int (bI mgp), .long mga, .long mgb, .int (nI fcm), .ref aBx])), (aBx, .inl (cBx, 40, .inr (.inl bx)))] H := hP
                have hD : va_D A [(m0, .inr (6, [.int 0, .long mtot, .ref aTy, .int msz, .int mat, .int mfl, .int mru, .ref aTo, .ref aDr, .int (bI mpd), .int mk, .long mg, .long mw, .int mn, .int (bI mgp), .long mga, .long mgb, .int (nI fcm), .ref aBx])), (aBx, .inl (cBx, 40, .inr (.inl bx)))] := hD
                refine lv_aload_n hx hb dM_floor_77 rfl (lv_at hl 1 rfl) ?_
                refine va_get (D := (dC, dI)) (ci := 6) (v := .int 0) (C := RM) (T := TM) (N := 19) hx hb hts inM hown hK hP 0 rfl rfl 0 (by decide) (hts _ gw_574) (fun _ h9 => h9) rfl dM_floor_78 ?_
                refine lv_if_gt (tgt := 93) hx hb dM_floor_81 (by decide) (fun c_23 => absurd c_23 (by decide)) (fun c_23 => ?_)
                refine lv_aload_n hx hb dM_floor_84 rfl (lv_at hl 1 rfl) ?_
                refine va_get (D := (dC, dI)) (ci := 6) (v := .int (nI fcm)) (C := RM) (T := TM) (N := 19) hx hb hts inM hown hK hP 0 rfl rfl 17 (by decide) (hts _ gw_591) (fun _ h9 => h9) rfl dM_floor_85 ?_
                refine lv_bipush (v := 8) hx hb dM_floor_88 (by decide) ?_
                refine lv_icmp_ne (tgt := 95) hx hb dM_floor_90 (by decide) (fun c_24 => ?_) (fun c_24 => ?_)
                · skip
                  refine lv_aload_n hx hb dM_floor_95 rfl (lv_at hl 1 rfl) ?_
                  refine va_get (D := (dC, dI)) (ci := 6) (v := .ref aBx) (C := RM) (T := TM) (N := 19) hx hb hts inM hown hK hP 0 rfl rfl 18 (by decide) (hts _ gw_592) (fun _ h9 => h9) rfl dM_floor_96 ?_
                  refine lv_iconst (v := 5) hx hb dM_floor_99 (by decide) ?_
                  refine lv_aload_n hx hb dM_floor_100 rfl (lv_at hl 1 rfl) ?_
                  refine va_get (D := (dC, dI)) (ci := 6) (v := .int (nI fcm)) (C := RM) (T := TM) (N := 19) hx hb hts inM hown hK hP 0 rfl rfl 17 (by decide) (hts _ gw_591) (fun _ h9 => h9) rfl dM_floor_101 ?_
                  refine lv_imul hx hb dM_floor_104 ?_
                  refine lv_lload_n hx hb dM_floor_105 rfl (lv_at hl 2 rfl) ?_
                  have b_25 : vp_in (5 * (nI fcm)) 40 := tin_b0 (mfne c_24 hfc)
                  refine va_last hx hb hK hP hD hS 1 0 rfl rfl b_25 dM_floor_106 (fun H locs hP hD hS => ?_)
                  have hP : va_P (dC, dI) vCl [(m0, .inr (6, [.int 0, .long mtot, .ref aTy, .int msz, .int mat, .int mfl, .int mru, .ref aTo, .ref aDr, .int (bI mpd), .int mk, .long mg, .long mw, .int mn, .int (bI mgp), .long mga, .long mgb, .int (nI fcm), .ref aBx])), (aBx, .inl (cBx, 40, .inr (.inl (vp_updL bx (5 * (nI fcm)).toNatClampNeg q1))))] H := hP
                  have hD : va_D A [(m0, .inr (6, [.int 0, .long mtot, .ref aTy, .int msz, .int mat, .int mfl, .int mru, .ref aTo, .ref aDr, .int (bI mpd), .int mk, .long mg, .long mw, .int mn, .int (bI mgp), .long mga, .long mgb, .int (nI fcm), .ref aBx])), (aBx, .inl (cBx, 40, .inr (.inl (vp_updL bx (5 * (nI fcm)).toNatClampNeg q1))))] := hD
                  refine lv_aload_n hx hb dM_floor_107 rfl (lv_at hl 1 rfl) ?_
                  refine va_get (D := (dC, dI)) (ci := 6) (v := .ref aBx) (C := RM) (T := TM) (N := 19) hx hb hts inM hown hK hP 0 rfl rfl 18 (by decide) (hts _ gw_592) (fun _ h9 => h9) rfl dM_floor_108 ?_
                  refine lv_iconst (v := 5) hx hb dM_floor_111 (by decide) ?_
                  refine lv_aload_n hx hb dM_floor_112 rfl (lv_at hl 1 rfl) ?_
                  refine va_get (D := (dC, dI)) (ci := 6) (v := .int (nI fcm)) (C := RM) (T := TM) (N := 19) hx hb hts inM hown hK hP 0 rfl rfl 17 (by decide) (hts _ gw_591) (fun _ h9 => h9) rfl dM_floor_113 ?_
                  refine lv_imul hx hb dM_floor_116 ?_
                  refine lv_iconst (v := 1) hx hb dM_floor_117 (by decide) ?_
                  refine lv_iadd hx hb dM_floor_118 ?_
                  refine lv_lload_n hx hb dM_floor_119 rfl (lv_at hl 3 rfl) ?_
                  have b_26 : vp_in ((5 * (nI fcm)) + 1) 40 := tin_b 1 (by decide) rfl (mfne c_24 hfc)
                  refine va_last hx hb hK hP hD hS 1 0 rfl rfl b_26 dM_floor_120 (fun H locs hP hD hS => ?_)
                  have hP : va_P (dC, dI) vCl [(m0, .inr (6, [.int 0, .long mtot, .ref aTy, .int msz, .int mat, .int mfl, .int mru, .ref aTo, .ref aDr, .int (bI mpd), .int mk, .long mg, .long mw, .int mn, .int (bI mgp), .long mga, .long mgb, .int (nI fcm), .ref aBx])), (aBx, .inl (cBx, 40, .inr (.inl (vp_updL (vp_updL bx (5 * (nI fcm)).toNatClampNeg q1) ((5 * (nI fcm)) + 1).toNatClampNeg q2))))] H := hP
                  have hD : va_D A [(m0, .inr (6, [.int 0, .long mtot, .ref aTy, .int msz, .int mat, .int mfl, .int mru, .ref aTo, .ref aDr, .int (bI mpd), .int mk, .long mg, .long mw, .int mn, .int (bI mgp), .long mga, .long mgb, .int (nI fcm), .ref aBx])), (aBx, .inl (cBx, 40, .inr (.inl (vp_updL (vp_updL bx (5 * (nI fcm)).toNatClampNeg q1) ((5 * (nI fcm)) + 1).toNatClampNeg q2))))] := hD
                  refine lv_aload_n hx hb dM_floor_121 rfl (lv_at hl 1 rfl) ?_
                  refine va_get (D := (dC, dI)) (ci := 6) (v := .ref aBx) (C := RM) (T := TM) (N := 19) hx hb hts inM hown hK hP 0 rfl rfl 18 (by decide) (hts _ gw_592) (fun _ h9 => h9) rfl dM_floor_122 ?_
                  refine lv_iconst (v := 5) hx hb dM_floor_125 (by decide) ?_
                  refine lv_aload_n hx hb dM_floor_126 rfl (lv_at hl 1 rfl) ?_
                  refine va_get (D := (dC, dI)) (ci := 6) (v := .int (nI fcm)) (C := RM) (T := TM) (N := 19) hx hb hts inM hown hK hP 0 rfl rfl 17 (by decide) (hts _ gw_591) (fun _ h9 => h9) rfl dM_floor_127 ?_
                  refine lv_imul hx hb dM_floor_130 ?_
                  refine lv_iconst (v := 2) hx hb dM_floor_131 (by decide) ?_
                  refine lv_iadd hx hb dM_floor_132 ?_
                  refine lv_lload hx hb dM_floor_133 (lv_at hl 4 rfl) ?_
                  have b_27 : vp_in ((5 * (nI fcm)) + 2) 40 := tin_b 2 (by decide) rfl (mfne c_24 hfc)
                  refine va_last hx hb hK hP hD hS 1 0 rfl rfl b_27 dM_floor_135 (fun H locs hP hD hS => ?_)
                  have hP : va_P (dC, dI) vCl [(m0, .inr (6, [.int 0, .long mtot, .ref aTy, .int msz, .int mat, .int mfl, .int mru, .ref aTo, .ref aDr, .int (bI mpd), .int mk, .long mg, .long mw, .int mn, .int (bI mgp), .long mga, .long mgb, .int (nI fcm), .ref aBx])), (aBx, .inl (cBx, 40, .inr (.inl (vp_updL (vp_updL (vp_updL bx (5 * (nI fcm)).toNatClampNeg q1) ((5 * (nI fcm)) + 1).toNatClampNeg q2) ((5 * (nI fcm)) + 2).toNatClampNeg q3))))] H := hP
                  have hD : va_D A [(m0, .inr (6, [.int 0, .long mtot, .ref aTy, .int msz, .int mat, .int mfl, .int mru, .ref aTo, .ref aDr, .int (bI mpd), .int mk, .long mg, .long mw, .int mn, .int (bI mgp), .long mga, .long mgb, .int (nI fcm), .ref aBx])), (aBx, .inl (cBx, 40, .inr (.inl (vp_updL (vp_updL (vp_updL bx (5 * (nI fcm)).toNatClampNeg q1) ((5 * (nI fcm)) + 1).toNatClampNeg q2) ((5 * (nI fcm)) + 2).toNatClampNeg q3))))] := hD
                  refine lv_aload_n hx hb dM_floor_136 rfl (lv_at hl 1 rfl) ?_
                  refine va_get (D := (dC, dI)) (ci := 6) (v := .ref aBx) (C := RM) (T := TM) (N := 19) hx hb hts inM hown hK hP 0 rfl rfl 18 (by decide) (hts _ gw_592) (fun _ h9 => h9) rfl dM_floor_137 ?_
                  refine lv_iconst (v := 5) hx hb dM_floor_140 (by decide) ?_
                  refine lv_aload_n hx hb dM_floor_141 rfl (lv_at hl 1 rfl) ?_
                  refine va_get (D := (dC, dI)) (ci := 6) (v := .int (nI fcm)) (C := RM) (T := TM) (N := 19) hx hb hts inM hown hK hP 0 rfl rfl 17 (by decide) (hts _ gw_591) (fun _ h9 => h9) rfl dM_floor_142 ?_
                  refine lv_imul hx hb dM_floor_145 ?_
                  refine lv_iconst (v := 3) hx hb dM_floor_146 (by decide) ?_
                  refine lv_iadd hx hb dM_floor_147 ?_
                  refine lv_lload hx hb dM_floor_148 (lv_at hl 5 rfl) ?_
                  have b_28 : vp_in ((5 * (nI fcm)) + 3) 40 := tin_b 3 (by decide) rfl (mfne c_24 hfc)
                  refine va_last hx hb hK hP hD hS 1 0 rfl rfl b_28 dM_floor_150 (fun H locs hP hD hS => ?_)
                  have hP : va_P (dC, dI) vCl [(m0, .inr (6, [.int 0, .long mtot, .ref aTy, .int msz, .int mat, .int mfl, .int mru, .ref aTo, .ref aDr, .int (bI mpd), .int mk, .long mg, .long mw, .int mn, .int (bI mgp), .long mga, .long mgb, .int (nI fcm), .ref aBx])), (aBx, .inl (cBx, 40, .inr (.inl (vp_updL (vp_updL (vp_updL (vp_updL bx (5 * (nI fcm)).toNatClampNeg q1) ((5 * (nI fcm)) + 1).toNatClampNeg q2) ((5 * (nI fcm)) + 2).toNatClampNeg q3) ((5 * (nI fcm)) + 3).toNatClampNeg q4))))] H := hP
                  have hD : va_D A [(m0, .inr (6, [.int 0, .long mtot, .ref aTy, .int msz, .int mat, .int mfl, .int mru, .ref aTo, .ref aDr, .int (bI mpd), .int mk, .long mg, .long mw, .int mn, .int (bI mgp), .long mga, .long mgb, .int (nI fcm), .ref aBx])), (aBx, .inl (cBx, 40, .inr (.inl (vp_updL (vp_updL (vp_updL (vp_updL bx (5 * (nI fcm)).toNatClampNeg q1) ((5 * (nI fcm)) + 1).toNatClampNeg q2) ((5 * (nI fcm)) + 2).toNatClampNeg q3) ((5 * (nI fcm)) + 3).toNatClampNeg q4))))] := hD
                  refine lv_aload_n hx hb dM_floor_151 rfl (lv_at hl 1 rfl) ?_
                  refine va_get (D := (dC, dI)) (ci := 6) (v := .ref aBx) (C := RM) (T := TM) (N := 19) hx hb hts inM hown hK hP 0 rfl rfl 18 (by decide) (hts _ gw_592) (fun _ h9 => h9) rfl dM_floor_152 ?_
                  refine lv_iconst (v := 5) hx hb dM_floor_155 (by decide) ?_
                  refine lv_aload_n hx hb dM_floor_156 rfl (lv_at hl 1 rfl) ?_
                  refine va_get (D := (dC, dI)) (ci := 6) (v := .int (nI fcm)) (C := RM) (T := TM) (N := 19) hx hb hts inM hown hK hP 0 rfl rfl 17 (by decide) (hts _ gw_591) (fun _ h9 => h9) rfl dM_floor_157 ?_
                  refine lv_imul hx hb dM_floor_160 ?_
                  refine lv_iconst (v := 4) hx hb dM_floor_161 (by decide) ?_
                  refine lv_iadd hx hb dM_floor_162 ?_
                  refine lv_lload hx hb dM_floor_163 (lv_at hl 6 rfl) ?_
                  have b_29 : vp_in ((5 * (nI fcm)) + 4) 40 := tin_b 4 (by decide) rfl (mfne c_24 hfc)
                  refine va_last hx hb hK hP hD hS 1 0 rfl rfl b_29 dM_floor_165 (fun H locs hP hD hS => ?_)
                  have hP : va_P (dC, dI) vCl [(m0, .inr (6, [.int 0, .long mtot, .ref aTy, .int msz, .int mat, .int mfl, .int mru, .ref aTo, .ref aDr, .int (bI mpd), .int mk, .long mg, .long mw, .int mn, .int (bI mgp), .long mga, .long mgb, .int (nI fcm), .ref aBx])), (aBx, .inl (cBx, 40, .inr (.inl (vp_updL (vp_updL (vp_updL (vp_updL (vp_updL bx (5 * (nI fcm)).toNatClampNeg q1) ((5 * (nI fcm)) + 1).toNatClampNeg q2) ((5 * (nI fcm)) + 2).toNatClampNeg q3) ((5 * (nI fcm)) + 3).toNatClampNeg q4) ((5 * (nI fcm)) + 4).toNatClampNeg q5))))] H := hP
                  have hD : va_D A [(m0, .inr (6, [.int 0, .long mtot, .ref aTy, .int msz, .int mat, .int mfl, .int mru, .ref aTo, .ref aDr, .int (bI mpd), .int mk, .long mg, .long mw, .int mn, .int (bI mgp), .long mga, .long mgb, .int (nI fcm), .ref aBx])), (aBx, .inl (cBx, 40, .inr (.inl (vp_updL (vp_updL (vp_updL (vp_updL (vp_updL bx (5 * (nI fcm)).toNatClampNeg q1) ((5 * (nI fcm)) + 1).toNatClampNeg q2) ((5 * (nI fcm)) + 2).toNatClampNeg q3) ((5 * (nI fcm)) + 3).toNatClampNeg q4) ((5 * (nI fcm)) + 4).toNatClampNeg q5))))] := hD
                  refine lv_aload_n hx hb dM_floor_166 rfl (lv_at hl 1 rfl) ?_
                  refine lv_dup hx hb dM_floor_167 rfl ?_
                  refine va_get (D := (dC, dI)) (ci := 6) (v := .int (nI fcm)) (C := RM) (T := TM) (N := 19) hx hb hts inM hown hK hP 0 rfl rfl 17 (by decide) (hts _ gw_591) (fun _ h9 => h9) rfl dM_floor_168 ?_
                  refine lv_iconst (v := 1) hx hb dM_floor_171 (by decide) ?_
                  refine lv_iadd hx hb dM_floor_172 ?_
                  rw [nI_1 (fcm)]
                  refine va_put (D := (dC, dI)) (ci := 6) (v := .int (nI (fcm + 1))) (ty := .int) (C := RM) (T := TM) (N := 19) hx hb hts inM yM yoM noM hown hK hP hD hS 0 rfl rfl 17 (by decide) (hts _ gw_591) (fun _ h9 => h9) rfl (by decide +kernel) rfl rfl (Nat.le_of_ble_eq_true rfl) dM_floor_173 (fun H locs hP hD hS => ?_)
                  have hP : va_P (dC, dI) vCl [(m0, .inr (6, [.int 0, .long mtot, .ref aTy, .int msz, .int mat, .int mfl, .int mru, .ref aTo, .ref aDr, .int (bI mpd), .int mk, .long mg, .long mw, .int mn, .int (bI mgp), .long mga, .long mgb, .int (nI (fcm + 1)), .ref aBx])), (aBx, .inl (cBx, 40, .inr (.inl (vp_updL (vp_updL (vp_updL (vp_updL (vp_updL bx (5 * (nI fcm)).toNatClampNeg q1) ((5 * (nI fcm)) + 1).toNatClampNeg q2) ((5 * (nI fcm)) + 2).toNatClampNeg q3) ((5 * (nI fcm)) + 3).toNatClampNeg q4) ((5 * (nI fcm)) + 4).toNatClampNeg q5))))] H := hP
                  have hD : va_D A [(m0, .inr (6, [.int 0, .long mtot, .ref aTy, .int msz, .int mat, .int mfl, .int mru, .ref aTo, .ref aDr, .int (bI mpd), .int mk, .long mg, .long mw, .int mn, .int (bI mgp), .long mga, .long mgb, .int (nI (fcm + 1)), .ref aBx])), (aBx, .inl (cBx, 40, .inr (.inl (vp_updL (vp_updL (vp_updL (vp_updL (vp_updL bx (5 * (nI fcm)).toNatClampNeg q1) ((5 * (nI fcm)) + 1).toNatClampNeg q2) ((5 * (nI fcm)) + 2).toNatClampNeg q3) ((5 * (nI fcm)) + 3).toNatClampNeg q4) ((5 * (nI fcm)) + 4).toNatClampNeg q5))))] := hD
                  refine lv_iconst (v := 1) hx hb dM_floor_176 (by decide) ?_
                  exact W.zret (v := 1) hx hb hr (rfl) (fun t ht hW => ⟨by rw [show fM_floor bx mcode mtot msz mat mfl mru mpd mk mg mw mn mgp mga mgb fcm q1 q2 q3 q4 q5 = true from by unfold fM_floor; rw [if_pos c_1, if_pos c_4, if_pos c_7, if_pos c_10, if_neg c_13, if_neg c_16, if_pos c_19, if_neg c_24]]; rfl, by rw [ht, show fM_floor_c0f0 bx mcode mtot msz mat mfl mru mpd mk mg mw mn mgp mga mgb fcm q1 q2 q3 q4 q5 = 0 from by unfold fM_floor_c0f0; rw [if_pos c_1, if_pos c_4, if_pos c_7, if_pos c_10, if_neg c_13, if_neg c_16, if_pos c_19, if_neg c_24], show fM_floor_c0f17 bx mcode mtot msz mat mfl mru mpd mk mg mw mn mgp mga mgb fcm q1 q2 q3 q4 q5 = (fcm + 1) from by unfold fM_floor_c0f17; rw [if_pos c_1, if_pos c_4, if_pos c_7, if_pos c_10, if_neg c_13, if_neg c_16, if_pos c_19, if_neg c_24], show fM_floor_a1 bx mcode mtot msz mat mfl mru mpd mk mg mw mn mgp mga mgb fcm q1 q2 q3 q4 q5 = vp_updL (vp_updL (vp_updL (vp_updL (vp_updL bx (5 * (nI fcm)).toNatClampNeg q1) ((5 * (nI fcm)) + 1).toNatClampNeg q2) ((5 * (nI fcm)) + 2).toNatClampNeg q3) ((5 * (nI fcm)) + 3).toNatClampNeg q4) ((5 * (nI fcm)) + 4).toNatClampNeg q5 from by unfold fM_floor_a1; rw [if_pos c_1, if_pos c_4, if_pos c_7, if_pos c_10, if_neg c_13, if_neg c_16, if_pos c_19, if_neg c_24]]; exact hP, by rw [hAe]; exact hS.F ht⟩) hS.2.2 dM_floor_177
                · skip
                  refine lv_iconst (v := 0) hx hb dM_floor_93 (by decide) ?_
                  exact W.zret (v := 0) hx hb hr (rfl) (fun t ht hW => ⟨by rw [show fM_floor bx mcode mtot msz mat mfl mru mpd mk mg mw mn mgp mga mgb fcm q1 q2 q3 q4 q5 = false from by unfold fM_floor; rw [if_pos c_1, if_pos c_4, if_pos c_7, if_pos c_10, if_neg c_13, if_neg c_16, if_pos c_19, if_pos c_24]]; rfl, by rw [ht, show fM_floor_c0f0 bx mcode mtot msz mat mfl mru mpd mk mg mw mn mgp mga mgb fcm q1 q2 q3 q4 q5 = 0 from by unfold fM_floor_c0f0; rw [if_pos c_1, if_pos c_4, if_pos c_7, if_pos c_10, if_neg c_13, if_neg c_16, if_pos c_19, if_pos c_24], show fM_floor_c0f17 bx mcode mtot msz mat mfl mru mpd mk mg mw mn mgp mga mgb fcm q1 q2 q3 q4 q5 = fcm from by unfold fM_floor_c0f17; rw [if_pos c_1, if_pos c_4, if_pos c_7, if_pos c_10, if_neg c_13, if_neg c_16, if_pos c_19, if_pos c_24], show fM_floor_a1 bx mcode mtot msz mat mfl mru mpd mk mg mw mn mgp mga mgb fcm q1 q2 q3 q4 q5 = bx from by unfold fM_floor_a1; rw [if_pos c_1, if_pos c_4, if_pos c_7, if_pos c_10, if_neg c_13, if_neg c_16, if_pos c_19, if_pos c_24]]; exact hP, by rw [hAe]; exact hS.F ht⟩) hS.2.2 dM_floor_94

def fM_rise_c0f0 (mcode : Int32) (mtot : Int64) (msz : Int32) (mat : Int32) (mfl : Int32) (mru : Int32) (mpd : Bool) (mk : Int32) (mg : Int64) (mw : Int64) (mn : Int32) (mgp : Bool) (mga : Int64) (mgb : Int64) (mfc : Int32) (gN : Nat) (part : Int32) : Int32 := if (fM_none mcode mtot msz mat mfl mru mpd mk mg mw mn mgp mga mgb mfc) = true then (fM_none_c0f0 mcode mtot msz mat mfl mru mpd mk mg mw mn mgp mga mgb mfc) else (if (fM_isIn part.toInt64 0 1) = true then (if part = 0 then 0 else 0) else 2)
def fM_rise (mcode : Int32) (mtot : Int64) (msz : Int32) (mat : Int32) (mfl : Int32) (mru : Int32) (mpd : Bool) (mk : Int32) (mg : Int64) (mw : Int64) (mn : Int32) (mgp : Bool) (mga : Int64) (mgb : Int64) (mfc : Int32) (gN : Nat) (part : Int32) : Int64 := if (fM_none mcode mtot msz mat mfl mru mpd mk mg mw mn mgp mga mgb mfc) = true then 0 else (if (fM_isIn part.toInt64 0 1) = true then (if part = 0 then (mtot / (fM_common gN mtot mn.toInt64)) else (mn.toInt64 / (fM_common gN mtot mn.toInt64))) else 0)
set_option maxHeartbeats 4000000 in
set_option maxRecDepth 100000 in
theorem c_M_rise (l : Launch) (dC : Nat → ClassId) (dI : Nat → Nat → Nat) (m0 : Nat) (aTy : Nat) (aTo : Nat) (aDr : Nat) (aBx : Nat) (mcode : Int32) (mtot : Int64) (msz : Int32) (mat : Int32) (mfl : Int32) (mru : Int32) (mpd : Bool) (mk : Int32) (mg : Int64) (mw : Int64) (mn : Int32) (mgp : Bool) (mga : Int64) (mgb : Int64) (mfc : Int32) (gN : Nat) (part : Int32) (hgd : gcdD gN mtot mn.toInt64) (hg0 : ¬ fM_common gN mtot mn.toInt64 = 0) : Met l mM_rise wM_rise ({ frames := 1, cells := 0, slots := 0, locals := 29 }) (tp_W (dC, dI) vCl [.ref m0, .int part] [(m0, .inr (6, [.int mcode, .long mtot, .ref aTy, .int msz, .int mat, .int mfl, .int mru, .ref aTo, .ref aDr, .int (bI mpd), .int mk, .long mg, .long mw, .int mn, .int (bI mgp), .long mga, .long mgb, .int mfc, .ref aBx]))] []) (tq_W (dC, dI) vCl (some (.long (fM_rise mcode mtot msz mat mfl mru mpd mk mg mw mn mgp mga mgb mfc gN part))) [(m0, .inr (6, [.int mcode, .long mtot, .ref aTy, .int msz, .int mat, .int mfl, .int mru, .ref aTo, .ref aDr, .int (bI mpd), .int mk, .long mg, .long mw, .int mn, .int (bI mgp), .long mga, .long mgb, .int mfc, .ref aBx]))] [(m0, .inr (6, [.int (fM_rise_c0f0 mcode mtot msz mat mfl mru mpd mk mg mw mn mgp mga mgb mfc gN part), .long mtot, .ref aTy, .int msz, .int mat, .int mfl, .int mru, .ref aTo, .ref aDr, .int (bI mpd), .int mk, .long mg, .long mw, .int mn, .int (bI mgp), .long mga, .long mgb, .int mfc, .ref aBx]))]) 0 0 (tA [(m0, .inr (6, [.int mcode, .long mtot, .ref aTy, .int msz, .int mat, .int mfl, .int mru, .ref aTo, .ref aDr, .int (bI mpd), .int mk, .long mg, .long mw, .int mn, .int (bI mgp), .long mga, .long mgb, .int mfc, .ref aBx]))]) := by
  refine Met.ofW (cc := bM_rise) (maxL := 2) (ret := (some .long)) (by decide) rfl ?_
  intro p e s m args below meth c s₁ B hml hv
  obtain ⟨rfl, hP, hK, hN, hD0⟩ := hv
  have hx := B.exec
  have hb := B.bytes
  have hr := B.returns
  have hts : ∀ w ∈ gT, w.before _ s = true := fun w h => atoms_spec (ws := wM_rise) B.pre w (List.mem_cons_of_mem _ h)
  have hown : s.vm.findClass RM = some m.cls := findClass_of_methodNamed B.named
  have hlocks := B.notSynchronized
  have hD := tA_D hD0
  generalize hAe : tA [(m0, .inr (6, [.int mcode, .long mtot, .ref aTy, .int msz, .int mat, .int mfl, .int mru, .ref aTo, .ref aDr, .int (bI mpd), .int mk, .long mg, .long mw, .int mn, .int (bI mgp), .long mga, .long mgb, .int mfc, .ref aBx]))] = A at hD ⊢
  have hS : va_S A s.heap s.heap [] := va_S.rf
  have hP : va_P (dC, dI) vCl [(m0, .inr (6, [.int mcode, .long mtot, .ref aTy, .int msz, .int mat, .int mfl, .int mru, .ref aTo, .ref aDr, .int (bI mpd), .int mk, .long mg, .long mw, .int mn, .int (bI mgp), .long mga, .long mgb, .int mfc, .ref aBx]))] s.heap := hP
  have hl := lv_entry ([.ref m0, .int part]) (n := 2) (Nat.le_of_ble_eq_true rfl)
  rw [lg_entry_eq]
  generalize (lg_sl ([.ref m0, .int part]) ++ List.replicate (2 - (lg_sl ([.ref m0, .int part])).length) Slot.unset).toArray = ls at hl ⊢
  have hl : lv_has ls 2 [(0, .ref m0), (1, .int part)] := hl
  refine lv_aload_n hx hb dM_rise_0 rfl (lv_at hl 0 rfl) ?_
  refine tc_go (st1 := [.int (bI (fM_none mcode mtot msz mat mfl mru mpd mk mg mw mn mgp mga mgb mfc))]) (ws' := [(m0, .inr (6, [.int (fM_none_c0f0 mcode mtot msz mat mfl mru mpd mk mg mw mn mgp mga mgb mfc), .long mtot, .ref aTy, .int msz, .int mat, .int mfl, .int mru, .ref aTo, .ref aDr, .int (bI mpd), .int mk, .long mg, .long mw, .int mn, .int (bI mgp), .long mga, .long mgb, .int mfc, .ref aBx]))]) (va_runV (As := []) (rest := []) (C := RM) ⟨hx, hb, hml, hown, hts⟩ (c_M_none l dC dI m0 aTy aTo aDr aBx mcode mtot msz mat mfl mru mpd mk mg mw mn mgp mga mgb mfc) ⟨cB 0 hts gw_671 gw_7 gw_669 ndM_none rfl rfl ⟨Nat.le_of_ble_eq_true rfl, Nat.le_of_ble_eq_true rfl⟩, hts _ gw_670, hts _ gw_764⟩ (tp_Wv hN hK hP hD [0] [] rfl (by decide) rfl (q0 := 0) (ci := 6) rfl rfl) rfl rfl hl.1 rfl (lv_room (Nat.le_of_ble_eq_true rfl)) dM_rise_1 ⟨Nat.le_of_ble_eq_true rfl, Nat.le_of_ble_eq_true rfl⟩) rfl hP hD hS [0] rfl rfl rfl (fun H locs hP hD hS => ?_)
  have hP : va_P (dC, dI) vCl [(m0, .inr (6, [.int (fM_none_c0f0 mcode mtot msz mat mfl mru mpd mk mg mw mn mgp mga mgb mfc), .long mtot, .ref aTy, .int msz, .int mat, .int mfl, .int mru, .ref aTo, .ref aDr, .int (bI mpd), .int mk, .long mg, .long mw, .int mn, .int (bI mgp), .long mga, .long mgb, .int mfc, .ref aBx]))] H := hP
  have hD : va_D A [(m0, .inr (6, [.int (fM_none_c0f0 mcode mtot msz mat mfl mru mpd mk mg mw mn mgp mga mgb mfc), .long mtot, .ref aTy, .int msz, .int mat, .int mfl, .int mru, .ref aTo, .ref aDr, .int (bI mpd), .int mk, .long mg, .long mw, .int mn, .int (bI mgp), .long mga, .long mgb, .int mfc, .ref aBx]))] := hD
  refine tb_ifeq (tgt := 9) hx hb dM_rise_4 (by decide) (fun c_1 => ?_) (fun c_1 => ?_)
  · skip
    refine lv_aload_n hx hb dM_rise_9 rfl (lv_at hl 0 rfl) ?_
    refine lv_iload_n hx hb dM_rise_10 rfl (lv_at hl 1 rfl) ?_
    refine lv_i2l (v := part.toInt64) hx hb dM_rise_11 rfl ?_
    refine lv_lconst (v := 0) hx hb dM_rise_12 (by decide) ?_
    refine lv_lconst (v := 1) hx hb dM_rise_13 (by decide) ?_
    refine tr_go (st1 := [.int (bI (fM_isIn part.toInt64 0 1)), .ref m0]) (va_runS (As := [.long part.toInt64, .long 0, .long 1]) (rest := [.ref m0]) ⟨hx, hb, hml, hown, hts⟩ (c_M_isIn l dC dI part.toInt64 0 1) ⟨cB 3 hts gw_623 gw_7 gw_621 ndM_isIn rfl rfl ⟨Nat.le_of_ble_eq_true rfl, Nat.le_of_ble_eq_true rfl⟩, hts _ gw_622⟩ (tp_Rs hN hK hP [] [] rfl rfl) rfl rfl hl.1 rfl (lv_room (Nat.le_of_ble_eq_true rfl)) dM_rise_14 ⟨Nat.le_of_ble_eq_true rfl, Nat.le_of_ble_eq_true rfl⟩) rfl ?_
    refine tb_ifeq (tgt := 24) hx hb dM_rise_17 (by decide) (fun c_2 => ?_) (fun c_2 => ?_)
    · skip
      refine lv_iconst (v := 2) hx hb dM_rise_24 (by decide) ?_
      refine va_put (D := (dC, dI)) (ci := 6) (v := .int 2) (ty := .int) (C := RM) (T := TM) (N := 19) hx hb hts inM yM yoM noM hown hK hP hD hS 0 rfl rfl 0 (by decide) (hts _ gw_574) (fun _ h9 => h9) rfl (by decide +kernel) rfl rfl (Nat.le_of_ble_eq_true rfl) dM_rise_25 (fun H locs hP hD hS => ?_)
      have hP : va_P (dC, dI) vCl [(m0, .inr (6, [.int 2, .long mtot, .ref aTy, .int msz, .int mat, .int mfl, .int mru, .ref aTo, .ref aDr, .int (bI mpd), .int mk, .long mg, .long mw, .int mn, .int (bI mgp), .long mga, .long mgb, .int mfc, .ref aBx]))] H := hP
      have hD : va_D A [(m0, .inr (6, [.int 2, .long mtot, .ref aTy, .int msz, .int mat, .int mfl, .int mru, .ref aTo, .ref aDr, .int (bI mpd), .int mk, .long mg, .long mw, .int mn, .int (bI mgp), .long mga, .long mgb, .int mfc, .ref aBx]))] := hD
      refine lv_aload_n hx hb dM_rise_28 rfl (lv_at hl 0 rfl) ?_
      refine va_get (D := (dC, dI)) (ci := 6) (v := .int 2) (C := RM) (T := TM) (N := 19) hx hb hts inM hown hK hP 0 rfl rfl 0 (by decide) (hts _ gw_574) (fun _ h9 => h9) rfl dM_rise_29 ?_
      refine lv_if_le (tgt := 39) hx hb dM_rise_32 (by decide) (fun c_3 => absurd c_3 (by decide)) (fun c_3 => ?_)
      refine lv_lconst (v := 0) hx hb dM_rise_35 (by decide) ?_
      refine lv_goto (tgt := 68) hx hb dM_rise_36 (by decide) ?_
      exact W.lret (v := 0) hx hb hr (fun t ht hW => ⟨by rw [show fM_rise mcode mtot msz mat mfl mru mpd mk mg mw mn mgp mga mgb mfc gN part = 0 from by unfold fM_rise; rw [if_neg (Bool.eq_false_iff.mp c_1), if_neg (Bool.eq_false_iff.mp c_2)]], by rw [ht, show fM_rise_c0f0 mcode mtot msz mat mfl mru mpd mk mg mw mn mgp mga mgb mfc gN part = 2 from by unfold fM_rise_c0f0; rw [if_neg (Bool.eq_false_iff.mp c_1), if_neg (Bool.eq_false_iff.mp c_2)]]; exact hP, by rw [hAe]; exact hS.F ht⟩) hS.2.2 dM_rise_68
    · skip
      refine lv_iconst (v := 0) hx hb dM_rise_20 (by decide) ?_
      refine lv_goto (tgt := 25) hx hb dM_rise_21 (by decide) ?_
      refine va_put (D := (dC, dI)) (ci := 6) (v := .int 0) (ty := .int) (C := RM) (T := TM) (N := 19) hx hb hts inM yM yoM noM hown hK hP hD hS 0 rfl rfl 0 (by decide) (hts _ gw_574) (fun _ h9 => h9) rfl (by decide +kernel) rfl rfl (Nat.le_of_ble_eq_true rfl) dM_rise_25 (fun H locs hP hD hS => ?_)
      have hP : va_P (dC, dI) vCl [(m0, .inr (6, [.int 0, .long mtot, .ref aTy, .int msz, .int mat, .int mfl, .int mru, .ref aTo, .ref aDr, .int (bI mpd), .int mk, .long mg, .long mw, .int mn, .int (bI mgp), .long mga, .long mgb, .int mfc, .ref aBx]))] H := hP
      have hD : va_D A [(m0, .inr (6, [.int 0, .long mtot, .ref aTy, .int msz, .int mat, .int mfl, .int mru, .ref aTo, .ref aDr, .int (bI mpd), .int mk, .long mg, .long mw, .int mn, .int (bI mgp), .long mga, .long mgb, .int mfc, .ref aBx]))] := hD
      refine lv_aload_n hx hb dM_rise_28 rfl (lv_at hl 0 rfl) ?_
      refine va_get (D := (dC, dI)) (ci := 6) (v := .int 0) (C := RM) (T := TM) (N := 19) hx hb hts inM hown hK hP 0 rfl rfl 0 (by decide) (hts _ gw_574) (fun _ h9 => h9) rfl dM_rise_29 ?_
      refine lv_if_le (tgt := 39) hx hb dM_rise_32 (by decide) (fun c_4 => ?_) (fun c_4 => absurd (by decide) c_4)
      refine lv_iload_n hx hb dM_rise_39 rfl (lv_at hl 1 rfl) ?_
      refine lv_if_ne (tgt := 50) hx hb dM_rise_40 (by decide) (fun c_5 => ?_) (fun c_5 => ?_)
      · skip
        refine lv_aload_n hx hb dM_rise_50 rfl (lv_at hl 0 rfl) ?_
        refine va_get (D := (dC, dI)) (ci := 6) (v := .int mn) (C := RM) (T := TM) (N := 19) hx hb hts inM hown hK hP 0 rfl rfl 13 (by decide) (hts _ gw_587) (fun _ h9 => h9) rfl dM_rise_51 ?_
        refine lv_i2l (v := mn.toInt64) hx hb dM_rise_54 rfl ?_
        refine lv_aload_n hx hb dM_rise_55 rfl (lv_at hl 0 rfl) ?_
        refine va_get (D := (dC, dI)) (ci := 6) (v := .long mtot) (C := RM) (T := TM) (N := 19) hx hb hts inM hown hK hP 0 rfl rfl 1 (by decide) (hts _ gw_575) (fun _ h9 => h9) rfl dM_rise_56 ?_
        refine lv_aload_n hx hb dM_rise_59 rfl (lv_at hl 0 rfl) ?_
        refine va_get (D := (dC, dI)) (ci := 6) (v := .int mn) (C := RM) (T := TM) (N := 19) hx hb hts inM hown hK hP 0 rfl rfl 13 (by decide) (hts _ gw_587) (fun _ h9 => h9) rfl dM_rise_60 ?_
        refine lv_i2l (v := mn.toInt64) hx hb dM_rise_63 rfl ?_
        refine tr_go (st1 := [.long (fM_common gN mtot mn.toInt64), .long mn.toInt64]) (va_runS (As := [.long mtot, .long mn.toInt64]) (rest := [.long mn.toInt64]) ⟨hx, hb, hml, hown, hts⟩ (c_M_common l dC dI gN mtot mn.toInt64 (by assumption)) ⟨cB 2 hts gw_674 gw_7 gw_672 ndM_common rfl rfl ⟨Nat.le_of_ble_eq_true rfl, Nat.le_of_ble_eq_true rfl⟩, hts _ gw_673⟩ (tp_Rs hN hK hP [] [] rfl rfl) rfl rfl hl.1 rfl (lv_room (Nat.le_of_ble_eq_true rfl)) dM_rise_64 ⟨Nat.le_of_ble_eq_true rfl, Nat.le_of_ble_eq_true rfl⟩) rfl ?_
        refine lv_ldiv hx hb dM_rise_67 hg0 ?_
        exact W.lret (v := mn.toInt64 / (fM_common gN mtot mn.toInt64)) hx hb hr (fun t ht hW => ⟨by rw [show fM_rise mcode mtot msz mat mfl mru mpd mk mg mw mn mgp mga mgb mfc gN part = mn.toInt64 / (fM_common gN mtot mn.toInt64) from by unfold fM_rise; rw [if_neg (Bool.eq_false_iff.mp c_1), if_pos c_2, if_neg c_5]], by rw [ht, show fM_rise_c0f0 mcode mtot msz mat mfl mru mpd mk mg mw mn mgp mga mgb mfc gN part = 0 from by unfold fM_rise_c0f0; rw [if_neg (Bool.eq_false_iff.mp c_1), if_pos c_2, if_neg c_5]]; exact hP, by rw [hAe]; exact hS.F ht⟩) hS.2.2 dM_rise_68
      · skip
        refine lv_aload_n hx hb dM_rise_43 rfl (lv_at hl 0 rfl) ?_
        refine va_get (D := (dC, dI)) (ci := 6) (v := .long mtot) (C := RM) (T := TM) (N := 19) hx hb hts inM hown hK hP 0 rfl rfl 1 (by decide) (hts _ gw_575) (fun _ h9 => h9) rfl dM_rise_44 ?_
        refine lv_goto (tgt := 55) hx hb dM_rise_47 (by decide) ?_
        refine lv_aload_n hx hb dM_rise_55 rfl (lv_at hl 0 rfl) ?_
        refine va_get (D := (dC, dI)) (ci := 6) (v := .long mtot) (C := RM) (T := TM) (N := 19) hx hb hts inM hown hK hP 0 rfl rfl 1 (by decide) (hts _ gw_575) (fun _ h9 => h9) rfl dM_rise_56 ?_
        refine lv_aload_n hx hb dM_rise_59 rfl (lv_at hl 0 rfl) ?_
        refine va_get (D := (dC, dI)) (ci := 6) (v := .int mn) (C := RM) (T := TM) (N := 19) hx hb hts inM hown hK hP 0 rfl rfl 13 (by decide) (hts _ gw_587) (fun _ h9 => h9) rfl dM_rise_60 ?_
        refine lv_i2l (v := mn.toInt64) hx hb dM_rise_63 rfl ?_
        refine tr_go (st1 := [.long (fM_common gN mtot mn.toInt64), .long mtot]) (va_runS (As := [.long mtot, .long mn.toInt64]) (rest := [.long mtot]) ⟨hx, hb, hml, hown, hts⟩ (c_M_common l dC dI gN mtot mn.toInt64 (by assumption)) ⟨cB 2 hts gw_674 gw_7 gw_672 ndM_common rfl rfl ⟨Nat.le_of_ble_eq_true rfl, Nat.le_of_ble_eq_true rfl⟩, hts _ gw_673⟩ (tp_Rs hN hK hP [] [] rfl rfl) rfl rfl hl.1 rfl (lv_room (Nat.le_of_ble_eq_true rfl)) dM_rise_64 ⟨Nat.le_of_ble_eq_true rfl, Nat.le_of_ble_eq_true rfl⟩) rfl ?_
        refine lv_ldiv hx hb dM_rise_67 hg0 ?_
        exact W.lret (v := mtot / (fM_common gN mtot mn.toInt64)) hx hb hr (fun t ht hW => ⟨by rw [show fM_rise mcode mtot msz mat mfl mru mpd mk mg mw mn mgp mga mgb mfc gN part = mtot / (fM_common gN mtot mn.toInt64) from by unfold fM_rise; rw [if_neg (Bool.eq_false_iff.mp c_1), if_pos c_2, if_pos c_5]], by rw [ht, show fM_rise_c0f0 mcode mtot msz mat mfl mru mpd mk mg mw mn mgp mga mgb mfc gN part = 0 from by unfold fM_rise_c0f0; rw [if_neg (Bool.eq_false_iff.mp c_1), if_pos c_2, if_pos c_5]]; exact hP, by rw [hAe]; exact hS.F ht⟩) hS.2.2 dM_rise_68
  · skip
    refine lv_lconst (v := 0) hx hb dM_rise_7 (by decide) ?_
    exact W.lret (v := 0) hx hb hr (fun t ht hW => ⟨by rw [show fM_rise mcode mtot msz mat mfl mru mpd mk mg mw mn mgp mga mgb mfc gN part = 0 from by unfold fM_rise; rw [if_pos c_1]], by rw [ht, show fM_rise_c0f0 mcode mtot msz mat mfl mru mpd mk mg mw mn mgp mga mgb mfc gN part = fM_none_c0f0 mcode mtot msz mat mfl mru mpd mk mg mw mn mgp mga mgb mfc from by unfold fM_rise_c0f0; rw [if_pos c_1]]; exact hP, by rw [hAe]; exact hS.F ht⟩) hS.2.2 dM_rise_8

def hldL (to : Nat → Int32) (mcode : Int32) (mtot : Int64) (msz : Int32) (mat : Int32) (mfl : Int32) (mpd : Bool) (mk : Int32) (mg : Int64) (mw : Int64) (mn : Int32) (mgp : Bool) (mga : Int64) (mgb : Int64) (mfc : Int32) (ru : Nat) (g : Int64) (w : Int64) (many : Int32) : Nat → Nat → Nat
  | 0, k => k
  | n + 1, k => if fM_holds to mcode mtot msz mat mfl (nI ru) mpd mk mg mw mn mgp mga mgb mfc (nI k) g w many = true then hldL to mcode mtot msz mat mfl mpd mk mg mw mn mgp mga mgb mfc ru g w many n (k + 1) else k
def fM_holding (to : Nat → Int32) (mcode : Int32) (mtot : Int64) (msz : Int32) (mat : Int32) (mfl : Int32) (mpd : Bool) (mk : Int32) (mg : Int64) (mw : Int64) (mn : Int32) (mgp : Bool) (mga : Int64) (mgb : Int64) (mfc : Int32) (ru : Nat) (g : Int64) (w : Int64) (many : Int32) : Int32 := nI (hldL to mcode mtot msz mat mfl mpd mk mg mw mn mgp mga mgb mfc ru g w many ru 0)

set_option maxHeartbeats 4000000 in
set_option maxRecDepth 100000 in
theorem c_M_holding (l : Launch) (dC : Nat → ClassId) (dI : Nat → Nat → Nat) (m0 : Nat) (aTy : Nat) (aTo : Nat) (aDr : Nat) (aBx : Nat) (cTo : ClassId) (to : Nat → Int32) (mcode : Int32) (mtot : Int64) (msz : Int32) (mat : Int32) (mfl : Int32) (mpd : Bool) (mk : Int32) (mg : Int64) (mw : Int64) (mn : Int32) (mgp : Bool) (mga : Int64) (mgb : Int64) (mfc : Int32) (ru : Nat) (g : Int64) (w : Int64) (many : Int32) (hru : ru ≤ 8) : Met l mM_holding wM_holding ({ frames := 1, cells := 0, slots := 0, locals := 31 }) (tp_R (dC, dI) vCl [.ref m0, .long g, .long w, .int many] [(m0, .inr (6, [.int mcode, .long mtot, .ref aTy, .int msz, .int mat, .int mfl, .int (nI ru), .ref aTo, .ref aDr, .int (bI mpd), .int mk, .long mg, .long mw, .int mn, .int (bI mgp), .long mga, .long mgb, .int mfc, .ref aBx])), (aTo, .inl (cTo, 56, .inl to))] [(cTo, .int)]) (tq_R (some (.int (fM_holding to mcode mtot msz mat mfl mpd mk mg mw mn mgp mga mgb mfc ru g w many)))) 0 0 (fun _ => False) := by
  refine Met.ofW (cc := bM_holding) (maxL := 7) (ret := (some .int)) (by decide) rfl ?_
  intro p e s m args below meth c s₁ B hml hv
  obtain ⟨rfl, hP, hK, hN⟩ := hv
  have hx := B.exec
  have hb := B.bytes
  have hr := B.returns
  have hts : ∀ w ∈ gT, w.before _ s = true := fun w h => atoms_spec (ws := wM_holding) B.pre w (List.mem_cons_of_mem _ h)
  have hown : s.vm.findClass RM = some m.cls := findClass_of_methodNamed B.named
  have hlocks := B.notSynchronized
  have hP : va_P (dC, dI) vCl [(m0, .inr (6, [.int mcode, .long mtot, .ref aTy, .int msz, .int mat, .int mfl, .int (nI ru), .ref aTo, .ref aDr, .int (bI mpd), .int mk, .long mg, .long mw, .int mn, .int (bI mgp), .long mga, .long mgb, .int mfc, .ref aBx])), (aTo, .inl (cTo, 56, .inl to))] s.heap := hP
  have hl := lv_entry ([.ref m0, .long g, .long w, .int many]) (n := 7) (Nat.le_of_ble_eq_true rfl)
  rw [lg_entry_eq]
  generalize (lg_sl ([.ref m0, .long g, .long w, .int many]) ++ List.replicate (7 - (lg_sl ([.ref m0, .long g, .long w, .int many])).length) Slot.unset).toArray = ls at hl ⊢
  have hl : lv_has ls 7 [(0, .ref m0), (1, .long g), (3, .long w), (5, .int many)] := hl
  have loop : ∀ (n : Nat) (k : Nat) (hk : n + k = ru) (hR : hldL to mcode mtot msz mat mfl mpd mk mg mw mn mgp mga mgb mfc ru g w many n k = hldL to mcode mtot msz mat mfl mpd mk mg mw mn mgp mga mgb mfc ru g w many ru 0) (ls : Array Slot), lv_has ls 7 [(6, .int (nI k)), (5, .int many), (3, .long w), (1, .long g), (0, .ref m0)] → W p l e (headSpec wM_holding ({ frames := 1, cells := 0, slots := 0, locals := 31 })).room s m ([.ref m0, .long g, .long w, .int many] : List Value).toArray below meth c s.heap [] 0 0 (MQ below (tq_R (some (.int (fM_holding to mcode mtot msz mat mfl mpd mk mg mw mn mgp mga mgb mfc ru g w many)))) ([.ref m0, .long g, .long w, .int many] : List Value).toArray s 0 0 (fun _ => False)) (F0 m 3 ls []) := by
    intro n
    induction n with
    | zero =>
      intro k hk hR ls hl
      refine lv_iload hx hb dM_holding_3 (lv_at hl 0 rfl) ?_
      refine lv_aload_n hx hb dM_holding_5 rfl (lv_at hl 4 rfl) ?_
      refine va_get (D := (dC, dI)) (ci := 6) (v := .int (nI ru)) (C := RM) (T := TM) (N := 19) hx hb hts inM hown hK hP 0 rfl rfl 6 (by decide) (hts _ gw_580) (fun _ h9 => h9) rfl dM_holding_6 ?_
      refine lv_icmp_ge (tgt := 31) hx hb dM_holding_9 (by decide) (fun c_1 => ?_) (fun c_1 => absurd (by rw [show k = ru by omega]; exact Int32.le_refl _) c_1)
      refine lv_iload hx hb dM_holding_31 (lv_at hl 0 rfl) ?_
      exact W.iret (v := nI k) hx hb hr (fun t ht hW => ⟨by rw [fM_holding, ← hR, hldL], ht⟩) (fun q h => by cases h) dM_holding_33
    | succ n ih =>
      intro k hk hR ls hl
      refine lv_iload hx hb dM_holding_3 (lv_at hl 0 rfl) ?_
      refine lv_aload_n hx hb dM_holding_5 rfl (lv_at hl 4 rfl) ?_
      refine va_get (D := (dC, dI)) (ci := 6) (v := .int (nI ru)) (C := RM) (T := TM) (N := 19) hx hb hts inM hown hK hP 0 rfl rfl 6 (by decide) (hts _ gw_580) (fun _ h9 => h9) rfl dM_holding_6 ?_
      refine lv_icmp_ge (tgt := 31) hx hb dM_holding_9 (by decide) (fun c_2 => absurd c_2 (nI_ge (by omega) (by omega))) (fun c_2 => ?_)
      refine lv_aload_n hx hb dM_holding_12 rfl (lv_at hl 4 rfl) ?_
      refine lv_iload hx hb dM_holding_13 (lv_at hl 0 rfl) ?_
      refine lv_lload_n hx hb dM_holding_15 rfl (lv_at hl 3 rfl) ?_
      refine lv_lload_n hx hb dM_holding_16 rfl (lv_at hl 2 rfl) ?_
      refine lv_iload hx hb dM_holding_17 (lv_at hl 1 rfl) ?_
      refine tr_go (st1 := [.int (bI (fM_holds to mcode mtot msz mat mfl (nI ru) mpd mk mg mw mn mgp mga mgb mfc (nI k) g w many))]) (va_runV (As := [.int (nI k), .long g, .long w, .int many]) (rest := []) (C := RM) ⟨hx, hb, hml, hown, hts⟩ (c_M_holds l dC dI m0 aTy aTo aDr aBx cTo to mcode mtot msz mat mfl (nI ru) mpd mk mg mw mn mgp mga mgb mfc (nI k) g w many (vp_in_nI (by omega) (by decide))) ⟨cB 4 hts gw_664 gw_7 gw_662 ndM_holds rfl rfl ⟨Nat.le_of_ble_eq_true rfl, Nat.le_of_ble_eq_true rfl⟩, hts _ gw_663, hts _ gw_763⟩ (tp_Rv hN hK hP [0, 1] [0] rfl rfl (q0 := 0) (ci := 6) rfl rfl) rfl rfl hl.1 rfl (lv_room (Nat.le_of_ble_eq_true rfl)) dM_holding_19 ⟨Nat.le_of_ble_eq_true rfl, Nat.le_of_ble_eq_true rfl⟩) rfl ?_
      refine tb_ifeq (tgt := 31) hx hb dM_holding_22 (by decide) (fun c_3 => ?_) (fun c_3 => ?_)
      · skip
        refine lv_iload hx hb dM_holding_31 (lv_at hl 0 rfl) ?_
        exact W.iret (v := nI k) hx hb hr (fun t ht hW => ⟨by rw [fM_holding, ← hR, hldL, if_neg (Bool.eq_false_iff.mp c_3)], ht⟩) (fun q h => by cases h) dM_holding_33
      · skip
        refine lv_iinc (v := nI (k + 1)) (lv' := [(6, .int (nI (k + 1))), (5, .int many), (3, .long w), (1, .long g), (0, .ref m0)]) hx hb dM_holding_25 hl (k := 0) rfl (by rw [nI_succ]; rfl) (by decide) rfl (fun ls hl => ?_)
        refine lv_goto (tgt := 3) hx hb dM_holding_28 (by decide) ?_
        exact ih (k + 1) (by omega) (by rw [hldL, if_pos c_3] at hR; exact hR) ls (lv_sub hl [0, 1, 2, 3, 4] rfl)
  refine lv_iconst (v := 0) hx hb dM_holding_0 (by decide) ?_
  refine lv_istore (lv' := [(6, .int 0), (0, .ref m0), (1, .long g), (3, .long w), (5, .int many)]) hx hb dM_holding_1 hl (by decide) rfl (fun ls hl => ?_)
  exact loop ru 0 rfl rfl ls (lv_sub hl [0, 4, 3, 2, 1] rfl)

theorem misin {x : Int32} {ru : Nat} (hru : ru ≤ 8) (h : fM_isIn x.toInt64 0 (nI ru - 1).toInt64 = true) : vp_in x 8 := by
  unfold fM_isIn at h
  by_cases h1 : x.toInt64 < 0
  · rw [if_pos h1] at h; cases h
  · rw [if_neg h1] at h
    by_cases h2 : (nI ru - 1).toInt64 < x.toInt64
    · rw [if_pos h2] at h; cases h
    · rw [Int64.lt_iff_toInt_lt, Int32.toInt_toInt64] at h1 h2
      rw [Int32.toInt_toInt64] at h2
      have h3 : (nI ru - 1).toInt = (ru : Int) - 1 := pk_sub_toInt (b := 1) (by omega) (by decide)
      have h4 : (0 : Int64).toInt = 0 := rfl
      rw [vp_in_iff]
      omega

def fM_meets_c0f0 (to : Nat → Int32) (mcode : Int32) (mtot : Int64) (msz : Int32) (mat : Int32) (mfl : Int32) (mpd : Bool) (mk : Int32) (mg : Int64) (mw : Int64) (mn : Int32) (mgp : Bool) (mga : Int64) (mgb : Int64) (mfc : Int32) (ru : Nat) (rule : Int32) : Int32 := if (fM_none mcode mtot msz mat mfl (nI ru) mpd mk mg mw mn mgp mga mgb mfc) = true then (fM_none_c0f0 mcode mtot msz mat mfl (nI ru) mpd mk mg mw mn mgp mga mgb mfc) else (if (fM_isIn rule.toInt64 0 (((nI ru) - 1).toInt64)) = true then (if (fM_holds to 0 mtot msz mat mfl (nI ru) mpd mk mg mw mn mgp mga mgb mfc rule mg mw mn) = true then 0 else 0) else 2)
def fM_meets (to : Nat → Int32) (mcode : Int32) (mtot : Int64) (msz : Int32) (mat : Int32) (mfl : Int32) (mpd : Bool) (mk : Int32) (mg : Int64) (mw : Int64) (mn : Int32) (mgp : Bool) (mga : Int64) (mgb : Int64) (mfc : Int32) (ru : Nat) (rule : Int32) : Bool := if (fM_none mcode mtot msz mat mfl (nI ru) mpd mk mg mw mn mgp mga mgb mfc) = true then false else (if (fM_isIn rule.toInt64 0 (((nI ru) - 1).toInt64)) = true then (if (fM_holds to 0 mtot msz mat mfl (nI ru) mpd mk mg mw mn mgp mga mgb mfc rule mg mw mn) = true then true else false) else false)
set_option maxHeartbeats 4000000 in
set_option maxRecDepth 100000 in
theorem c_M_meets (l : Launch) (dC : Nat → ClassId) (dI : Nat → Nat → Nat) (m0 : Nat) (aTy : Nat) (aTo : Nat) (aDr : Nat) (aBx : Nat) (cTo : ClassId) (to : Nat → Int32) (mcode : Int32) (mtot : Int64) (msz : Int32) (mat : Int32) (mfl : Int32) (mpd : Bool) (mk : Int32) (mg : Int64) (mw : Int64) (mn : Int32) (mgp : Bool) (mga : Int64) (mgb : Int64) (mfc : Int32) (ru : Nat) (rule : Int32) (hru : ru ≤ 8) : Met l mM_meets wM_meets ({ frames := 1, cells := 0, slots := 0, locals := 31 }) (tp_W (dC, dI) vCl [.ref m0, .int rule] [(m0, .inr (6, [.int mcode, .long mtot, .ref aTy, .int msz, .int mat, .int mfl, .int (nI ru), .ref aTo, .ref aDr, .int (bI mpd), .int mk, .long mg, .long mw, .int mn, .int (bI mgp), .long mga, .long mgb, .int mfc, .ref aBx])), (aTo, .inl (cTo, 56, .inl to))] [(cTo, .int)]) (tq_W (dC, dI) vCl (some (.int (bI (fM_meets to mcode mtot msz mat mfl mpd mk mg mw mn mgp mga mgb mfc ru rule)))) [(m0, .inr (6, [.int mcode, .long mtot, .ref aTy, .int msz, .int mat, .int mfl, .int (nI ru), .ref aTo, .ref aDr, .int (bI mpd), .int mk, .long mg, .long mw, .int mn, .int (bI mgp), .long mga, .long mgb, .int mfc, .ref aBx])), (aTo, .inl (cTo, 56, .inl to))] [(m0, .inr (6, [.int (fM_meets_c0f0 to mcode mtot msz mat mfl mpd mk mg mw mn mgp mga mgb mfc ru rule), .long mtot, .ref aTy, .int msz, .int mat, .int mfl, .int (nI ru), .ref aTo, .ref aDr, .int (bI mpd), .int mk, .long mg, .long mw, .int mn, .int (bI mgp), .long mga, .long mgb, .int mfc, .ref aBx])), (aTo, .inl (cTo, 56, .inl to))]) 0 0 (tA [(m0, .inr (6, [.int mcode, .long mtot, .ref aTy, .int msz, .int mat, .int mfl, .int (nI ru), .ref aTo, .ref aDr, .int (bI mpd), .int mk, .long mg, .long mw, .int mn, .int (bI mgp), .long mga, .long mgb, .int mfc, .ref aBx])), (aTo, .inl (cTo, 56, .inl to))]) := by
  refine Met.ofW (cc := bM_meets) (maxL := 2) (ret := (some .boolean)) (by decide) rfl ?_
  intro p e s m args below meth c s₁ B hml hv
  obtain ⟨rfl, hP, hK, hN, hD0⟩ := hv
  have hx := B.exec
  have hb := B.bytes
  have hr := B.returns
  have hts : ∀ w ∈ gT, w.before _ s = true := fun w h => atoms_spec (ws := wM_meets) B.pre w (List.mem_cons_of_mem _ h)
  have hown : s.vm.findClass RM = some m.cls := findClass_of_methodNamed B.named
  have hlocks := B.notSynchronized
  have hD := tA_D hD0
  generalize hAe : tA [(m0, .inr (6, [.int mcode, .long mtot, .ref aTy, .int msz, .int mat, .int mfl, .int (nI ru), .ref aTo, .ref aDr, .int (bI mpd), .int mk, .long mg, .long mw, .int mn, .int (bI mgp), .long mga, .long mgb, .int mfc, .ref aBx])), (aTo, .inl (cTo, 56, .inl to))] = A at hD ⊢
  have hS : va_S A s.heap s.heap [] := va_S.rf
  have hP : va_P (dC, dI) vCl [(m0, .inr (6, [.int mcode, .long mtot, .ref aTy, .int msz, .int mat, .int mfl, .int (nI ru), .ref aTo, .ref aDr, .int (bI mpd), .int mk, .long mg, .long mw, .int mn, .int (bI mgp), .long mga, .long mgb, .int mfc, .ref aBx])), (aTo, .inl (cTo, 56, .inl to))] s.heap := hP
  have hl := lv_entry ([.ref m0, .int rule]) (n := 2) (Nat.le_of_ble_eq_true rfl)
  rw [lg_entry_eq]
  generalize (lg_sl ([.ref m0, .int rule]) ++ List.replicate (2 - (lg_sl ([.ref m0, .int rule])).length) Slot.unset).toArray = ls at hl ⊢
  have hl : lv_has ls 2 [(0, .ref m0), (1, .int rule)] := hl
  refine lv_aload_n hx hb dM_meets_0 rfl (lv_at hl 0 rfl) ?_
  refine tc_go (st1 := [.int (bI (fM_none mcode mtot msz mat mfl (nI ru) mpd mk mg mw mn mgp mga mgb mfc))]) (ws' := [(m0, .inr (6, [.int (fM_none_c0f0 mcode mtot msz mat mfl (nI ru) mpd mk mg mw mn mgp mga mgb mfc), .long mtot, .ref aTy, .int msz, .int mat, .int mfl, .int (nI ru), .ref aTo, .ref aDr, .int (bI mpd), .int mk, .long mg, .long mw, .int mn, .int (bI mgp), .long mga, .long mgb, .int mfc, .ref aBx])), (aTo, .inl (cTo, 56, .inl to))]) (va_runV (As := []) (rest := []) (C := RM) ⟨hx, hb, hml, hown, hts⟩ (c_M_none l dC dI m0 aTy aTo aDr aBx mcode mtot msz mat mfl (nI ru) mpd mk mg mw mn mgp mga mgb mfc) ⟨cB 0 hts gw_671 gw_7 gw_669 ndM_none rfl rfl ⟨Nat.le_of_ble_eq_true rfl, Nat.le_of_ble_eq_true rfl⟩, hts _ gw_670, hts _ gw_764⟩ (tp_Wv hN hK hP hD [0] [] rfl (by decide) rfl (q0 := 0) (ci := 6) rfl rfl) rfl rfl hl.1 rfl (lv_room (Nat.le_of_ble_eq_true rfl)) dM_meets_1 ⟨Nat.le_of_ble_eq_true rfl, Nat.le_of_ble_eq_true rfl⟩) rfl hP hD hS [0] rfl rfl rfl (fun H locs hP hD hS => ?_)
  have hP : va_P (dC, dI) vCl [(m0, .inr (6, [.int (fM_none_c0f0 mcode mtot msz mat mfl (nI ru) mpd mk mg mw mn mgp mga mgb mfc), .long mtot, .ref aTy, .int msz, .int mat, .int mfl, .int (nI ru), .ref aTo, .ref aDr, .int (bI mpd), .int mk, .long mg, .long mw, .int mn, .int (bI mgp), .long mga, .long mgb, .int mfc, .ref aBx])), (aTo, .inl (cTo, 56, .inl to))] H := hP
  have hD : va_D A [(m0, .inr (6, [.int (fM_none_c0f0 mcode mtot msz mat mfl (nI ru) mpd mk mg mw mn mgp mga mgb mfc), .long mtot, .ref aTy, .int msz, .int mat, .int mfl, .int (nI ru), .ref aTo, .ref aDr, .int (bI mpd), .int mk, .long mg, .long mw, .int mn, .int (bI mgp), .long mga, .long mgb, .int mfc, .ref aBx])), (aTo, .inl (cTo, 56, .inl to))] := hD
  refine tb_ifeq (tgt := 9) hx hb dM_meets_4 (by decide) (fun c_1 => ?_) (fun c_1 => ?_)
  · skip
    refine lv_aload_n hx hb dM_meets_9 rfl (lv_at hl 0 rfl) ?_
    refine lv_iload_n hx hb dM_meets_10 rfl (lv_at hl 1 rfl) ?_
    refine lv_i2l (v := rule.toInt64) hx hb dM_meets_11 rfl ?_
    refine lv_lconst (v := 0) hx hb dM_meets_12 (by decide) ?_
    refine lv_aload_n hx hb dM_meets_13 rfl (lv_at hl 0 rfl) ?_
    refine va_get (D := (dC, dI)) (ci := 6) (v := .int (nI ru)) (C := RM) (T := TM) (N := 19) hx hb hts inM hown hK hP 0 rfl rfl 6 (by decide) (hts _ gw_580) (fun _ h9 => h9) rfl dM_meets_14 ?_
    refine lv_iconst (v := 1) hx hb dM_meets_17 (by decide) ?_
    refine lv_isub hx hb dM_meets_18 ?_
    refine lv_i2l (v := ((nI ru) - 1).toInt64) hx hb dM_meets_19 rfl ?_
    refine tr_go (st1 := [.int (bI (fM_isIn rule.toInt64 0 (((nI ru) - 1).toInt64))), .ref m0]) (va_runS (As := [.long rule.toInt64, .long 0, .long (((nI ru) - 1).toInt64)]) (rest := [.ref m0]) ⟨hx, hb, hml, hown, hts⟩ (c_M_isIn l dC dI rule.toInt64 0 (((nI ru) - 1).toInt64)) ⟨cB 3 hts gw_623 gw_7 gw_621 ndM_isIn rfl rfl ⟨Nat.le_of_ble_eq_true rfl, Nat.le_of_ble_eq_true rfl⟩, hts _ gw_622⟩ (tp_Rs hN hK hP [] [] rfl rfl) rfl rfl hl.1 rfl (lv_room (Nat.le_of_ble_eq_true rfl)) dM_meets_20 ⟨Nat.le_of_ble_eq_true rfl, Nat.le_of_ble_eq_true rfl⟩) rfl ?_
    refine tb_ifeq (tgt := 30) hx hb dM_meets_23 (by decide) (fun c_2 => ?_) (fun c_2 => ?_)
    · skip
      refine lv_iconst (v := 2) hx hb dM_meets_30 (by decide) ?_
      refine va_put (D := (dC, dI)) (ci := 6) (v := .int 2) (ty := .int) (C := RM) (T := TM) (N := 19) hx hb hts inM yM yoM noM hown hK hP hD hS 0 rfl rfl 0 (by decide) (hts _ gw_574) (fun _ h9 => h9) rfl (by decide +kernel) rfl rfl (Nat.le_of_ble_eq_true rfl) dM_meets_31 (fun H locs hP hD hS => ?_)
      have hP : va_P (dC, dI) vCl [(m0, .inr (6, [.int 2, .long mtot, .ref aTy, .int msz, .int mat, .int mfl, .int (nI ru), .ref aTo, .ref aDr, .int (bI mpd), .int mk, .long mg, .long mw, .int mn, .int (bI mgp), .long mga, .long mgb, .int mfc, .ref aBx])), (aTo, .inl (cTo, 56, .inl to))] H := hP
      have hD : va_D A [(m0, .inr (6, [.int 2, .long mtot, .ref aTy, .int msz, .int mat, .int mfl, .int (nI ru), .ref aTo, .ref aDr, .int (bI mpd), .int mk, .long mg, .long mw, .int mn, .int (bI mgp), .long mga, .long mgb, .int mfc, .ref aBx])), (aTo, .inl (cTo, 56, .inl to))] := hD
      refine lv_aload_n hx hb dM_meets_34 rfl (lv_at hl 0 rfl) ?_
      refine va_get (D := (dC, dI)) (ci := 6) (v := .int 2) (C := RM) (T := TM) (N := 19) hx hb hts inM hown hK hP 0 rfl rfl 0 (by decide) (hts _ gw_574) (fun _ h9 => h9) rfl dM_meets_35 ?_
      refine lv_if_ne (tgt := 65) hx hb dM_meets_38 (by decide) (fun c_3 => ?_) (fun c_3 => absurd c_3 (by decide))
      refine lv_iconst (v := 0) hx hb dM_meets_65 (by decide) ?_
      exact W.zret (v := 0) hx hb hr (rfl) (fun t ht hW => ⟨by rw [show fM_meets to mcode mtot msz mat mfl mpd mk mg mw mn mgp mga mgb mfc ru rule = false from by unfold fM_meets; rw [if_neg (Bool.eq_false_iff.mp c_1), if_neg (Bool.eq_false_iff.mp c_2)]]; rfl, by rw [ht, show fM_meets_c0f0 to mcode mtot msz mat mfl mpd mk mg mw mn mgp mga mgb mfc ru rule = 2 from by unfold fM_meets_c0f0; rw [if_neg (Bool.eq_false_iff.mp c_1), if_neg (Bool.eq_false_iff.mp c_2)]]; exact hP, by rw [hAe]; exact hS.F ht⟩) hS.2.2 dM_meets_66
    · skip
      refine lv_iconst (v := 0) hx hb dM_meets_26 (by decide) ?_
      refine lv_goto (tgt := 31) hx hb dM_meets_27 (by decide) ?_
      refine va_put (D := (dC, dI)) (ci := 6) (v := .int 0) (ty := .int) (C := RM) (T := TM) (N := 19) hx hb hts inM yM yoM noM hown hK hP hD hS 0 rfl rfl 0 (by decide) (hts _ gw_574) (fun _ h9 => h9) rfl (by decide +kernel) rfl rfl (Nat.le_of_ble_eq_true rfl) dM_meets_31 (fun H locs hP hD hS => ?_)
      have hP : va_P (dC, dI) vCl [(m0, .inr (6, [.int 0, .long mtot, .ref aTy, .int msz, .int mat, .int mfl, .int (nI ru), .ref aTo, .ref aDr, .int (bI mpd), .int mk, .long mg, .long mw, .int mn, .int (bI mgp), .long mga, .long mgb, .int mfc, .ref aBx])), (aTo, .inl (cTo, 56, .inl to))] H := hP
      have hD : va_D A [(m0, .inr (6, [.int 0, .long mtot, .ref aTy, .int msz, .int mat, .int mfl, .int (nI ru), .ref aTo, .ref aDr, .int (bI mpd), .int mk, .long mg, .long mw, .int mn, .int (bI mgp), .long mga, .long mgb, .int mfc, .ref aBx])), (aTo, .inl (cTo, 56, .inl to))] := hD
      refine lv_aload_n hx hb dM_meets_34 rfl (lv_at hl 0 rfl) ?_
      refine va_get (D := (dC, dI)) (ci := 6) (v := .int 0) (C := RM) (T := TM) (N := 19) hx hb hts inM hown hK hP 0 rfl rfl 0 (by decide) (hts _ gw_574) (fun _ h9 => h9) rfl dM_meets_35 ?_
      refine lv_if_ne (tgt := 65) hx hb dM_meets_38 (by decide) (fun c_4 => absurd (by decide) c_4) (fun c_4 => ?_)
      refine lv_aload_n hx hb dM_meets_41 rfl (lv_at hl 0 rfl) ?_
      refine lv_iload_n hx hb dM_meets_42 rfl (lv_at hl 1 rfl) ?_
      refine lv_aload_n hx hb dM_meets_43 rfl (lv_at hl 0 rfl) ?_
      refine va_get (D := (dC, dI)) (ci := 6) (v := .long mg) (C := RM) (T := TM) (N := 19) hx hb hts inM hown hK hP 0 rfl rfl 11 (by decide) (hts _ gw_585) (fun _ h9 => h9) rfl dM_meets_44 ?_
      refine lv_aload_n hx hb dM_meets_47 rfl (lv_at hl 0 rfl) ?_
      refine va_get (D := (dC, dI)) (ci := 6) (v := .long mw) (C := RM) (T := TM) (N := 19) hx hb hts inM hown hK hP 0 rfl rfl 12 (by decide) (hts _ gw_586) (fun _ h9 => h9) rfl dM_meets_48 ?_
      refine lv_aload_n hx hb dM_meets_51 rfl (lv_at hl 0 rfl) ?_
      refine va_get (D := (dC, dI)) (ci := 6) (v := .int mn) (C := RM) (T := TM) (N := 19) hx hb hts inM hown hK hP 0 rfl rfl 13 (by decide) (hts _ gw_587) (fun _ h9 => h9) rfl dM_meets_52 ?_
      refine tr_go (st1 := [.int (bI (fM_holds to 0 mtot msz mat mfl (nI ru) mpd mk mg mw mn mgp mga mgb mfc rule mg mw mn))]) (va_runV (As := [.int rule, .long mg, .long mw, .int mn]) (rest := []) (C := RM) ⟨hx, hb, hml, hown, hts⟩ (c_M_holds l dC dI m0 aTy aTo aDr aBx cTo to 0 mtot msz mat mfl (nI ru) mpd mk mg mw mn mgp mga mgb mfc rule mg mw mn (misin hru c_2)) ⟨cB 4 hts gw_664 gw_7 gw_662 ndM_holds rfl rfl ⟨Nat.le_of_ble_eq_true rfl, Nat.le_of_ble_eq_true rfl⟩, hts _ gw_663, hts _ gw_763⟩ (tp_Rv hN hK hP [0, 1] [0] rfl rfl (q0 := 0) (ci := 6) rfl rfl) rfl rfl hl.1 rfl (lv_room (Nat.le_of_ble_eq_true rfl)) dM_meets_55 ⟨Nat.le_of_ble_eq_true rfl, Nat.le_of_ble_eq_true rfl⟩) rfl ?_
      refine tb_ifeq (tgt := 65) hx hb dM_meets_58 (by decide) (fun c_5 => ?_) (fun c_5 => ?_)
      · skip
        refine lv_iconst (v := 0) hx hb dM_meets_65 (by decide) ?_
        exact W.zret (v := 0) hx hb hr (rfl) (fun t ht hW => ⟨by rw [show fM_meets to mcode mtot msz mat mfl mpd mk mg mw mn mgp mga mgb mfc ru rule = false from by unfold fM_meets; rw [if_neg (Bool.eq_false_iff.mp c_1), if_pos c_2, if_neg (Bool.eq_false_iff.mp c_5)]]; rfl, by rw [ht, show fM_meets_c0f0 to mcode mtot msz mat mfl mpd mk mg mw mn mgp mga mgb mfc ru rule = 0 from by unfold fM_meets_c0f0; rw [if_neg (Bool.eq_false_iff.mp c_1), if_pos c_2, if_neg (Bool.eq_false_iff.mp c_5)]]; exact hP, by rw [hAe]; exact hS.F ht⟩) hS.2.2 dM_meets_66
      · skip
        refine lv_iconst (v := 1) hx hb dM_meets_61 (by decide) ?_
        refine lv_goto (tgt := 66) hx hb dM_meets_62 (by decide) ?_
        exact W.zret (v := 1) hx hb hr (rfl) (fun t ht hW => ⟨by rw [show fM_meets to mcode mtot msz mat mfl mpd mk mg mw mn mgp mga mgb mfc ru rule = true from by unfold fM_meets; rw [if_neg (Bool.eq_false_iff.mp c_1), if_pos c_2, if_pos c_5]]; rfl, by rw [ht, show fM_meets_c0f0 to mcode mtot msz mat mfl mpd mk mg mw mn mgp mga mgb mfc ru rule = 0 from by unfold fM_meets_c0f0; rw [if_neg (Bool.eq_false_iff.mp c_1), if_pos c_2, if_pos c_5]]; exact hP, by rw [hAe]; exact hS.F ht⟩) hS.2.2 dM_meets_66
  · skip
    refine lv_iconst (v := 0) hx hb dM_meets_7 (by decide) ?_
    exact W.zret (v := 0) hx hb hr (rfl) (fun t ht hW => ⟨by rw [show fM_meets to mcode mtot msz mat mfl mpd mk mg mw mn mgp mga mgb mfc ru rule = false from by unfold fM_meets; rw [if_pos c_1]]; rfl, by rw [ht, show fM_meets_c0f0 to mcode mtot msz mat mfl mpd mk mg mw mn mgp mga mgb mfc ru rule = fM_none_c0f0 mcode mtot msz mat mfl (nI ru) mpd mk mg mw mn mgp mga mgb mfc from by unfold fM_meets_c0f0; rw [if_pos c_1]]; exact hP, by rw [hAe]; exact hS.F ht⟩) hS.2.2 dM_meets_8
