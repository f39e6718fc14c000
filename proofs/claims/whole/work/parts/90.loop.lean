set_option maxHeartbeats 4000000 in
theorem law_head {p : Program} {e : Env} {s : State} {m : MethodId} {below : List Frame} {meth : Method} {c : Code} {l : Launch} {b L : Nat} {xs : Nat → Int32} {A : Nat → Prop} (K0 : lk l p s m meth c A b L xs) (hL : L ≤ 5632) {aO m0 p0 i : Nat} (hi : i ≤ 5643) {H : Heap} {locs : List Loc} {cells slots : Nat} (hS : va_S A s.heap H locs) {ls : Array Slot} (hl : lv_has ls 8 [(4, .int (nI i)), (3, .ref aO), (2, .ref m0), (1, .ref p0), (0, .ref b)])
    (kout : L < i + 11 → ∀ ls : Array Slot, lv_has ls 8 [(4, .int (nI i)), (3, .ref aO), (2, .ref m0), (1, .ref p0), (0, .ref b)] → W p l e room_1 s m #[Value.ref b] below meth c H locs cells slots (lw_Z below #[Value.ref b] s) (F0 m 1328 ls [])) (kin : i + 11 ≤ L → ∀ ls : Array Slot, lv_has ls 8 [(4, .int (nI i)), (3, .ref aO), (2, .ref m0), (1, .ref p0), (0, .ref b)] → W p l e room_1 s m #[Value.ref b] below meth c H locs cells slots (lw_Z below #[Value.ref b] s) (F0 m 33 ls [])) : W p l e room_1 s m #[Value.ref b] below meth c H locs cells slots (lw_Z below #[Value.ref b] s) (F0 m 23 ls []) := by
  obtain ⟨hx, hb, hr, hml, hown, hts, hN, hZ, hC, hfl, hX, hbl, hA0, qS, vS, hR9, hG⟩ := K0
  have hbA := hA0 b hbl
  have hcond : (nI L - 11 < nI i) ↔ L < i + 11 := by
    rw [Int32.lt_iff_toInt_lt, nI_toInt (n := i) (by omega), show (11 : Int32) = nI 11 from rfl, pk_sub_toInt (by omega) (by omega)]
    omega
  refine lv_iload hx hb dL_law_23 (lv_at hl 0 rfl) ?_
  refine lv_aload_n hx hb dL_law_25 rfl (lv_at hl 4 rfl) ?_
  refine va_slen hx hb hX hbl hbA hS dL_law_26 ?_
  refine lv_bipush (v := 11) hx hb dL_law_27 (by decide) ?_
  refine lv_isub hx hb dL_law_29 ?_
  refine lv_icmp_gt (tgt := 1328) hx hb dL_law_30 (by decide) (fun c_1 => ?_) (fun c_1 => ?_)
  · skip
    exact kout (hcond.mp c_1) ls hl
  · skip
    exact kin (Nat.le_of_not_lt (fun h => c_1 (hcond.mpr h))) ls hl

set_option maxHeartbeats 8000000 in
set_option maxRecDepth 100000 in
theorem law_sw {p : Program} {e : Env} {s : State} {m : MethodId} {below : List Frame} {meth : Method} {c : Code} {l : Launch} {b L : Nat} {xs : Nat → Int32} {dC : Nat → ClassId} {dI : Nat → Nat → Nat} {A : Nat → Prop} (K0 : lk l p s m meth c A b L xs) (a : AD) (v : LSt) (hv : okS v) {H : Heap} {locs : List Loc} {cells slots i : Nat} (hL : L ≤ 5632) (hc1 : cells + 1 ≤ room_1.cells ∧ slots + 6 ≤ room_1.slots) (hi : i + 11 ≤ L) (hK : va_K (dC, dI) vCl (lw_t a v) s) (hP : va_P (dC, dI) vCl (lw_w a v) H) (hD : va_D A (lw_w a v)) (hS : va_S A s.heap H locs) {ls : Array Slot} (hl : lv_has ls 8 (lw_l a b i))
    (kont : ∀ (v1 : LSt) (H1 : Heap) (locs1 : List Loc), okS v1 → va_K (dC, dI) vCl (lw_t a v1) s → va_P (dC, dI) vCl (lw_w a v1) H1 → va_D A (lw_w a v1) → va_S A s.heap H1 locs1 → ∀ ls1 : Array Slot, lv_has ls1 8 (lw_l a b i) → W p l e room_1 s m #[Value.ref b] below meth c H1 locs1 (cells + 1) (slots + 6) (lw_Z below #[Value.ref b] s) (F0 m 1322 ls1 [])) : W p l e room_1 s m #[Value.ref b] below meth c H locs cells slots (lw_Z below #[Value.ref b] s) (F0 m 33 ls []) := by
  have K9 := K0
  obtain ⟨hx, hb, hr, hml, hown, hts, hN, hZ, hC, hfl, hX, hbl, hA0, qS, vS, hR9, hG⟩ := K9
  have hbA := hA0 b hbl
  obtain ⟨p0, pT, ac, pF, b1, b2, b3, b4, b5, h0, pQ, pG, m0, aTy, aTo, aDr, aBx, aO, ca, d1, d2, d3, d4, d5, cTy, cTo, cDr, cBx, cO⟩ := a
  have hl : lv_has ls 8 [(4, .int (nI i)), (3, .ref aO), (2, .ref m0), (1, .ref p0), (0, .ref b)] := hl
  refine lv_aload_n hx hb dL_law_33 rfl (lv_at hl 4 rfl) ?_
  refine lv_iload hx hb dL_law_34 (lv_at hl 0 rfl) ?_
  have b_1 : vp_in (nI i) L := vp_in_nI (by omega) (by omega)
  refine va_sld hx hb hX hbl hbA hS b_1 dL_law_36 ?_
  refine lv_bipush (v := 15) hx hb dL_law_37 (by decide) ?_
  refine lv_iand hx hb dL_law_39 ?_
  by_cases c_2 : ((xs (nI i).toNatClampNeg) &&& 15) = 0
  · skip
    refine lv_tableIn (tgt := 116) hx hb dL_law_40 (by rw [c_2]; decide) (by rw [c_2]; decide) (by rw [c_2]; rfl) (by decide) ?_
    exact law_0 K0 (p0, pT, ac, pF, b1, b2, b3, b4, b5, h0, pQ, pG, m0, aTy, aTo, aDr, aBx, aO, ca, d1, d2, d3, d4, d5, cTy, cTo, cDr, cBx, cO) v hv hL hc1 hi hK hP hD hS hl kont
  · skip
    have ec_2 : ¬ ((xs (nI i).toNatClampNeg) &&& 15) = nI 0 := c_2
    by_cases c_3 : ((xs (nI i).toNatClampNeg) &&& 15) = 1
    · skip
      refine lv_tableIn (tgt := 211) hx hb dL_law_40 (by rw [c_3]; decide) (by rw [c_3]; decide) (by rw [c_3]; rfl) (by decide) ?_
      exact law_1 K0 (p0, pT, ac, pF, b1, b2, b3, b4, b5, h0, pQ, pG, m0, aTy, aTo, aDr, aBx, aO, ca, d1, d2, d3, d4, d5, cTy, cTo, cDr, cBx, cO) v hv hL hc1 hi hK hP hD hS hl kont
    · skip
      have ec_3 : ¬ ((xs (nI i).toNatClampNeg) &&& 15) = nI 1 := c_3
      by_cases c_4 : ((xs (nI i).toNatClampNeg) &&& 15) = 2
      · skip
        refine lv_tableIn (tgt := 236) hx hb dL_law_40 (by rw [c_4]; decide) (by rw [c_4]; decide) (by rw [c_4]; rfl) (by decide) ?_
        exact law_2 K0 (p0, pT, ac, pF, b1, b2, b3, b4, b5, h0, pQ, pG, m0, aTy, aTo, aDr, aBx, aO, ca, d1, d2, d3, d4, d5, cTy, cTo, cDr, cBx, cO) v hv hL hc1 hi hK hP hD hS hl kont
      · skip
        have ec_4 : ¬ ((xs (nI i).toNatClampNeg) &&& 15) = nI 2 := c_4
        by_cases c_5 : ((xs (nI i).toNatClampNeg) &&& 15) = 3
        · skip
          refine lv_tableIn (tgt := 249) hx hb dL_law_40 (by rw [c_5]; decide) (by rw [c_5]; decide) (by rw [c_5]; rfl) (by decide) ?_
          exact law_3 K0 (p0, pT, ac, pF, b1, b2, b3, b4, b5, h0, pQ, pG, m0, aTy, aTo, aDr, aBx, aO, ca, d1, d2, d3, d4, d5, cTy, cTo, cDr, cBx, cO) v hv hL hc1 hi hK hP hD hS hl kont
        · skip
          have ec_5 : ¬ ((xs (nI i).toNatClampNeg) &&& 15) = nI 3 := c_5
          by_cases c_6 : ((xs (nI i).toNatClampNeg) &&& 15) = 4
          · skip
            refine lv_tableIn (tgt := 393) hx hb dL_law_40 (by rw [c_6]; decide) (by rw [c_6]; decide) (by rw [c_6]; rfl) (by decide) ?_
            exact law_4 K0 (p0, pT, ac, pF, b1, b2, b3, b4, b5, h0, pQ, pG, m0, aTy, aTo, aDr, aBx, aO, ca, d1, d2, d3, d4, d5, cTy, cTo, cDr, cBx, cO) v hv hL hc1 hi hK hP hD hS hl kont
          · skip
            have ec_6 : ¬ ((xs (nI i).toNatClampNeg) &&& 15) = nI 4 := c_6
            by_cases c_7 : ((xs (nI i).toNatClampNeg) &&& 15) = 5
            · skip
              refine lv_tableIn (tgt := 448) hx hb dL_law_40 (by rw [c_7]; decide) (by rw [c_7]; decide) (by rw [c_7]; rfl) (by decide) ?_
              exact law_5 K0 (p0, pT, ac, pF, b1, b2, b3, b4, b5, h0, pQ, pG, m0, aTy, aTo, aDr, aBx, aO, ca, d1, d2, d3, d4, d5, cTy, cTo, cDr, cBx, cO) v hv hL hc1 hi hK hP hD hS hl kont
            · skip
              have ec_7 : ¬ ((xs (nI i).toNatClampNeg) &&& 15) = nI 5 := c_7
              by_cases c_8 : ((xs (nI i).toNatClampNeg) &&& 15) = 6
              · skip
                refine lv_tableIn (tgt := 515) hx hb dL_law_40 (by rw [c_8]; decide) (by rw [c_8]; decide) (by rw [c_8]; rfl) (by decide) ?_
                exact law_6 K0 (p0, pT, ac, pF, b1, b2, b3, b4, b5, h0, pQ, pG, m0, aTy, aTo, aDr, aBx, aO, ca, d1, d2, d3, d4, d5, cTy, cTo, cDr, cBx, cO) v hv hL hc1 hi hK hP hD hS hl kont
              · skip
                have ec_8 : ¬ ((xs (nI i).toNatClampNeg) &&& 15) = nI 6 := c_8
                by_cases c_9 : ((xs (nI i).toNatClampNeg) &&& 15) = 7
                · skip
                  refine lv_tableIn (tgt := 582) hx hb dL_law_40 (by rw [c_9]; decide) (by rw [c_9]; decide) (by rw [c_9]; rfl) (by decide) ?_
                  exact law_7 K0 (p0, pT, ac, pF, b1, b2, b3, b4, b5, h0, pQ, pG, m0, aTy, aTo, aDr, aBx, aO, ca, d1, d2, d3, d4, d5, cTy, cTo, cDr, cBx, cO) v hv hL hc1 hi hK hP hD hS hl kont
                · skip
                  have ec_9 : ¬ ((xs (nI i).toNatClampNeg) &&& 15) = nI 7 := c_9
                  by_cases c_10 : ((xs (nI i).toNatClampNeg) &&& 15) = 8
                  · skip
                    refine lv_tableIn (tgt := 637) hx hb dL_law_40 (by rw [c_10]; decide) (by rw [c_10]; decide) (by rw [c_10]; rfl) (by decide) ?_
                    exact law_8 K0 (p0, pT, ac, pF, b1, b2, b3, b4, b5, h0, pQ, pG, m0, aTy, aTo, aDr, aBx, aO, ca, d1, d2, d3, d4, d5, cTy, cTo, cDr, cBx, cO) v hv hL hc1 hi hK hP hD hS hl kont
                  · skip
                    have ec_10 : ¬ ((xs (nI i).toNatClampNeg) &&& 15) = nI 8 := c_10
                    by_cases c_11 : ((xs (nI i).toNatClampNeg) &&& 15) = 9
                    · skip
                      refine lv_tableIn (tgt := 700) hx hb dL_law_40 (by rw [c_11]; decide) (by rw [c_11]; decide) (by rw [c_11]; rfl) (by decide) ?_
                      exact law_9 K0 (p0, pT, ac, pF, b1, b2, b3, b4, b5, h0, pQ, pG, m0, aTy, aTo, aDr, aBx, aO, ca, d1, d2, d3, d4, d5, cTy, cTo, cDr, cBx, cO) v hv hL hc1 hi hK hP hD hS hl kont
                    · skip
                      have ec_11 : ¬ ((xs (nI i).toNatClampNeg) &&& 15) = nI 9 := c_11
                      by_cases c_12 : ((xs (nI i).toNatClampNeg) &&& 15) = 10
                      · skip
                        refine lv_tableIn (tgt := 981) hx hb dL_law_40 (by rw [c_12]; decide) (by rw [c_12]; decide) (by rw [c_12]; rfl) (by decide) ?_
                        exact law_10 K0 (p0, pT, ac, pF, b1, b2, b3, b4, b5, h0, pQ, pG, m0, aTy, aTo, aDr, aBx, aO, ca, d1, d2, d3, d4, d5, cTy, cTo, cDr, cBx, cO) v hv hL hc1 hi hK hP hD hS hl kont
                      · skip
                        have ec_12 : ¬ ((xs (nI i).toNatClampNeg) &&& 15) = nI 10 := c_12
                        by_cases c_13 : ((xs (nI i).toNatClampNeg) &&& 15) = 11
                        · skip
                          refine lv_tableIn (tgt := 1024) hx hb dL_law_40 (by rw [c_13]; decide) (by rw [c_13]; decide) (by rw [c_13]; rfl) (by decide) ?_
                          exact law_11 K0 (p0, pT, ac, pF, b1, b2, b3, b4, b5, h0, pQ, pG, m0, aTy, aTo, aDr, aBx, aO, ca, d1, d2, d3, d4, d5, cTy, cTo, cDr, cBx, cO) v hv hL hc1 hi hK hP hD hS hl kont
                        · skip
                          have ec_13 : ¬ ((xs (nI i).toNatClampNeg) &&& 15) = nI 11 := c_13
                          by_cases c_14 : ((xs (nI i).toNatClampNeg) &&& 15) = 12
                          · skip
                            refine lv_tableIn (tgt := 1079) hx hb dL_law_40 (by rw [c_14]; decide) (by rw [c_14]; decide) (by rw [c_14]; rfl) (by decide) ?_
                            exact law_12 K0 (p0, pT, ac, pF, b1, b2, b3, b4, b5, h0, pQ, pG, m0, aTy, aTo, aDr, aBx, aO, ca, d1, d2, d3, d4, d5, cTy, cTo, cDr, cBx, cO) v hv hL hc1 hi hK hP hD hS hl kont
                          · skip
                            have ec_14 : ¬ ((xs (nI i).toNatClampNeg) &&& 15) = nI 12 := c_14
                            by_cases c_15 : ((xs (nI i).toNatClampNeg) &&& 15) = 13
                            · skip
                              refine lv_tableIn (tgt := 1211) hx hb dL_law_40 (by rw [c_15]; decide) (by rw [c_15]; decide) (by rw [c_15]; rfl) (by decide) ?_
                              exact law_13 K0 (p0, pT, ac, pF, b1, b2, b3, b4, b5, h0, pQ, pG, m0, aTy, aTo, aDr, aBx, aO, ca, d1, d2, d3, d4, d5, cTy, cTo, cDr, cBx, cO) v hv hL hc1 hi hK hP hD hS hl kont
                            · skip
                              have ec_15 : ¬ ((xs (nI i).toNatClampNeg) &&& 15) = nI 13 := c_15
                              by_cases c_16 : ((xs (nI i).toNatClampNeg) &&& 15) = 14
                              · skip
                                refine lv_tableIn (tgt := 1266) hx hb dL_law_40 (by rw [c_16]; decide) (by rw [c_16]; decide) (by rw [c_16]; rfl) (by decide) ?_
                                exact law_14 K0 (p0, pT, ac, pF, b1, b2, b3, b4, b5, h0, pQ, pG, m0, aTy, aTo, aDr, aBx, aO, ca, d1, d2, d3, d4, d5, cTy, cTo, cDr, cBx, cO) v hv hL hc1 hi hK hP hD hS hl kont
                              · skip
                                have ec_16 : ¬ ((xs (nI i).toNatClampNeg) &&& 15) = nI 14 := c_16
                                refine lv_tableOut (tgt := 1322) hx hb dL_law_40 (tsw 14 (by decide) (fun j hj => by rcases (show j = 0 ∨ j = 1 ∨ j = 2 ∨ j = 3 ∨ j = 4 ∨ j = 5 ∨ j = 6 ∨ j = 7 ∨ j = 8 ∨ j = 9 ∨ j = 10 ∨ j = 11 ∨ j = 12 ∨ j = 13 ∨ j = 14 by omega) with rfl | rfl | rfl | rfl | rfl | rfl | rfl | rfl | rfl | rfl | rfl | rfl | rfl | rfl | rfl <;> assumption)) (by decide) ?_
                                refine W.widen (k := cells + 1) (n := slots + 6) (Nat.le_add_right _ _) (Nat.le_add_right _ _) ?_
                                exact kont v _ _ hv hK hP hD hS ls hl

set_option maxHeartbeats 4000000 in
theorem law_loop {p : Program} {e : Env} {s : State} {m : MethodId} {below : List Frame} {meth : Method} {c : Code} {l : Launch} {b L : Nat} {xs : Nat → Int32} {dC : Nat → ClassId} {dI : Nat → Nat → Nat} {A : Nat → Prop} (K0 : lk l p s m meth c A b L xs) (hlocks : meth.locks = false) (hL : L ≤ 5632) (a : AD) : ∀ (n i : Nat) (v : LSt) (H : Heap) (locs : List Loc) (cells slots : Nat), okS v → L < i + 11 * n + 11 → i ≤ 5643 → cells + n ≤ 1064 → slots + 6 * n ≤ 8878 → va_K (dC, dI) vCl (lw_t a v) s → va_P (dC, dI) vCl (lw_w a v) H → va_D A (lw_w a v) → va_S A s.heap H locs → ∀ ls : Array Slot, lv_has ls 8 (lw_l a b i) → W p l e room_1 s m #[Value.ref b] below meth c H locs cells slots (lw_Z below #[Value.ref b] s) (F0 m 23 ls []) := by
  have K9 := K0
  obtain ⟨hx, hb, hr, hml, hown, hts, hN, hZ, hC, hfl, hX, hbl, hA0, qS, vS, hR9, hG⟩ := K9
  have hfin : ∀ (H : Heap) (locs : List Loc) (cells slots : Nat), va_S A s.heap H locs → cells ≤ 1064 → slots ≤ 8878 → ∀ ls : Array Slot, W p l e room_1 s m #[Value.ref b] below meth c H locs cells slots (lw_Z below #[Value.ref b] s) (F0 m 1328 ls []) := fun H locs cells slots hS h1 h2 ls => by
    refine va_forget (fun q hq => Nat.le_of_not_lt (fun h => hA0 _ h (hS.2.2 q hq))) ?_
    refine W.widen (k := 1064) (n := 8878) h1 h2 ?_
    refine lv_iconst (v := 1) hx hb dL_law_1328 (by decide) ?_
    exact lw_ret hx hb hr hlocks dL_law_1329
  intro n
  induction n with
  | zero =>
    intro i v H locs cells slots hv hi hi2 hc hs hK hP hD hS ls hl
    obtain ⟨p0, pT, ac, pF, b1, b2, b3, b4, b5, h0, pQ, pG, m0, aTy, aTo, aDr, aBx, aO, ca, d1, d2, d3, d4, d5, cTy, cTo, cDr, cBx, cO⟩ := a
    have hl : lv_has ls 8 [(4, .int (nI i)), (3, .ref aO), (2, .ref m0), (1, .ref p0), (0, .ref b)] := hl
    exact law_head K0 hL hi2 hS hl (fun _ ls _ => hfin H locs cells slots hS (by omega) (by omega) ls) (fun h => absurd h (by omega))
  | succ n ih =>
    intro i v H locs cells slots hv hi hi2 hc hs hK hP hD hS ls hl
    obtain ⟨p0, pT, ac, pF, b1, b2, b3, b4, b5, h0, pQ, pG, m0, aTy, aTo, aDr, aBx, aO, ca, d1, d2, d3, d4, d5, cTy, cTo, cDr, cBx, cO⟩ := a
    have hl : lv_has ls 8 [(4, .int (nI i)), (3, .ref aO), (2, .ref m0), (1, .ref p0), (0, .ref b)] := hl
    refine law_head K0 hL hi2 hS hl (fun _ ls _ => hfin H locs cells slots hS (by omega) (by omega) ls) (fun h ls hl => ?_)
    refine law_sw K0 (p0, pT, ac, pF, b1, b2, b3, b4, b5, h0, pQ, pG, m0, aTy, aTo, aDr, aBx, aO, ca, d1, d2, d3, d4, d5, cTy, cTo, cDr, cBx, cO) v hv hL ⟨show cells + 1 ≤ 1064 by omega, show slots + 6 ≤ 8878 by omega⟩ h hK hP hD hS hl (fun v1 H1 locs1 hv1 hK1 hP1 hD1 hS1 ls hl => ?_)
    have hl : lv_has ls 8 [(4, .int (nI i)), (3, .ref aO), (2, .ref m0), (1, .ref p0), (0, .ref b)] := hl
    refine lv_iinc (v := nI (i + 11)) (lv' := [(4, .int (nI (i + 11))), (3, .ref aO), (2, .ref m0), (1, .ref p0), (0, .ref b)]) hx hb dL_law_1322 hl (k := 0) rfl (nI_add i 11) (by decide) rfl (fun ls hl => ?_)
    refine lv_goto (tgt := 23) hx hb dL_law_1325 (by decide) ?_
    exact ih (i + 11) v1 H1 locs1 (cells + 1) (slots + 6) hv1 (by omega) (by omega) (by omega) (by omega) hK1 hP1 hD1 hS1 ls hl
