def gcdL : Nat → Int64 → Int64 → Int64
  | 0, a, _ => a
  | n + 1, a, b => if b = 0 then a else gcdL n b (a - a / b * b)
def fQ_gcd (a0 b0 : Int64) : Int64 := gcdL 100 a0 b0

set_option maxHeartbeats 4000000 in
set_option maxRecDepth 100000 in
theorem c_Q_gcd (l : Launch) (dC : Nat → ClassId) (dI : Nat → Nat → Nat) (a0 : Int64) (b0 : Int64) : Met l mQ_commonDivisor wQ_commonDivisor ({ frames := 0, cells := 0, slots := 0, locals := 0 }) (tp_R (dC, dI) vCl [.long a0, .long b0] [] []) (tq_R (some (.long (fQ_gcd a0 b0)))) 0 0 (fun _ => False) := by
  refine Met.ofW (cc := bQ_commonDivisor) (maxL := 11) (ret := (some .long)) (by decide) rfl ?_
  intro p e s m args below meth c s₁ B hml hv
  obtain ⟨rfl, hP, hK, hN⟩ := hv
  have hx := B.exec
  have hb := B.bytes
  have hr := B.returns
  have hts : ∀ w ∈ gT, w.before _ s = true := fun w h => atoms_spec (ws := wQ_commonDivisor) B.pre w (List.mem_cons_of_mem _ h)
  have hown : s.vm.findClass RQ = some m.cls := findClass_of_methodNamed B.named
  have hlocks := B.notSynchronized
  have hP : va_P (dC, dI) vCl [] s.heap := hP
  have hl := lv_entry ([.long a0, .long b0]) (n := 11) (Nat.le_of_ble_eq_true rfl)
  rw [lg_entry_eq]
  generalize (lg_sl ([.long a0, .long b0]) ++ List.replicate (11 - (lg_sl ([.long a0, .long b0])).length) Slot.unset).toArray = ls at hl ⊢
  have hl : lv_has ls 11 [(0, .long a0), (2, .long b0)] := hl
  have loop : ∀ (n : Nat) (k : Nat) (a : Int64) (b : Int64) (hk : n + k = 100) (hR : gcdL n a b = fQ_gcd a0 b0) (ls : Array Slot), lv_has ls 11 [(8, .int (nI k)), (6, .long b), (4, .long a), (2, .long b0), (0, .long a0)] → W p l e (headSpec wQ_commonDivisor ({ frames := 0, cells := 0, slots := 0, locals := 0 })).room s m ([.long a0, .long b0] : List Value).toArray below meth c s.heap [] 0 0 (MQ below (tq_R (some (.long (fQ_gcd a0 b0)))) ([.long a0, .long b0] : List Value).toArray s 0 0 (fun _ => False)) (F0 m 9 ls []) := by
    intro n
    induction n with
    | zero =>
      intro k a b hk hR ls hl
      refine lv_iload hx hb dQ_commonDivisor_9 (lv_at hl 0 rfl) ?_
      refine lv_bipush (v := 100) hx hb dQ_commonDivisor_11 (by decide) ?_
      refine lv_icmp_ge (tgt := 44) hx hb dQ_commonDivisor_13 (by decide) (fun c_1 => ?_) (fun c_1 => absurd (by rw [show k = 100 by omega]; decide) c_1)
      refine lv_lload hx hb dQ_commonDivisor_44 (lv_at hl 2 rfl) ?_
      exact W.lret (v := a) hx hb hr (fun t ht hW => ⟨by rw [← hR, gcdL], ht⟩) (fun q h => by cases h) dQ_commonDivisor_46
    | succ n ih =>
      intro k a b hk hR ls hl
      refine lv_iload hx hb dQ_commonDivisor_9 (lv_at hl 0 rfl) ?_
      refine lv_bipush (v := 100) hx hb dQ_commonDivisor_11 (by decide) ?_
      refine lv_icmp_ge (tgt := 44) hx hb dQ_commonDivisor_13 (by decide) (fun c_2 => absurd c_2 ((nI_ge (by omega) (by decide) : ¬ nI 100 ≤ nI k))) (fun c_2 => ?_)
      refine lv_lload hx hb dQ_commonDivisor_16 (lv_at hl 1 rfl) ?_
      refine lv_lconst (v := 0) hx hb dQ_commonDivisor_18 (by decide) ?_
      refine tl_eq (tgt := 44) hx hb dQ_commonDivisor_19 dQ_commonDivisor_20 (by decide) (fun c_3 => ?_) (fun c_3 => ?_)
      · skip
        refine lv_lload hx hb dQ_commonDivisor_44 (lv_at hl 2 rfl) ?_
        exact W.lret (v := a) hx hb hr (fun t ht hW => ⟨by rw [← hR, gcdL, if_pos c_3], ht⟩) (fun q h => by cases h) dQ_commonDivisor_46
      · skip
        refine lv_lload hx hb dQ_commonDivisor_23 (lv_at hl 2 rfl) ?_
        refine lv_lload hx hb dQ_commonDivisor_25 (lv_at hl 1 rfl) ?_
        refine lv_lrem hx hb dQ_commonDivisor_27 c_3 ?_
        refine lv_lstore (lv' := [(9, .long (a - a / b * b)), (8, .int (nI k)), (6, .long b), (4, .long a), (2, .long b0), (0, .long a0)]) hx hb dQ_commonDivisor_28 hl (by decide) rfl (fun ls hl => ?_)
        refine lv_lload hx hb dQ_commonDivisor_30 (lv_at hl 2 rfl) ?_
        refine lv_lstore (lv' := [(4, .long b), (9, .long (a - a / b * b)), (8, .int (nI k)), (6, .long b), (2, .long b0), (0, .long a0)]) hx hb dQ_commonDivisor_32 hl (by decide) rfl (fun ls hl => ?_)
        refine lv_lload hx hb dQ_commonDivisor_34 (lv_at hl 1 rfl) ?_
        refine lv_lstore (lv' := [(6, .long (a - a / b * b)), (4, .long b), (9, .long (a - a / b * b)), (8, .int (nI k)), (2, .long b0), (0, .long a0)]) hx hb dQ_commonDivisor_36 hl (by decide) rfl (fun ls hl => ?_)
        refine lv_iinc (v := nI (k + 1)) (lv' := [(8, .int (nI (k + 1))), (6, .long (a - a / b * b)), (4, .long b), (9, .long (a - a / b * b)), (2, .long b0), (0, .long a0)]) hx hb dQ_commonDivisor_38 hl (k := 3) rfl (by rw [nI_succ]; rfl) (by decide) rfl (fun ls hl => ?_)
        refine lv_goto (tgt := 9) hx hb dQ_commonDivisor_41 (by decide) ?_
        exact ih (k + 1) b (a - a / b * b) (by omega) (by rw [gcdL, if_neg c_3] at hR; exact hR) ls (lv_sub hl [0, 1, 2, 4, 5] rfl)
  refine lv_lload_n hx hb dQ_commonDivisor_0 rfl (lv_at hl 0 rfl) ?_
  refine lv_lstore (lv' := [(4, .long a0), (0, .long a0), (2, .long b0)]) hx hb dQ_commonDivisor_1 hl (by decide) rfl (fun ls hl => ?_)
  refine lv_lload_n hx hb dQ_commonDivisor_3 rfl (lv_at hl 2 rfl) ?_
  refine lv_lstore (lv' := [(6, .long b0), (4, .long a0), (0, .long a0), (2, .long b0)]) hx hb dQ_commonDivisor_4 hl (by decide) rfl (fun ls hl => ?_)
  refine lv_iconst (v := 0) hx hb dQ_commonDivisor_6 (by decide) ?_
  refine lv_istore (lv' := [(8, .int 0), (6, .long b0), (4, .long a0), (0, .long a0), (2, .long b0)]) hx hb dQ_commonDivisor_7 hl (by decide) rfl (fun ls hl => ?_)
  exact loop 100 0 a0 b0 rfl rfl ls (lv_sub hl [0, 1, 2, 4, 3] rfl)

def rootL (kind rises : Int32) (total going width : Int64) (cf ct : Int32) (sq : Int64) : Nat → Int64 → Int64
  | 0, r => r
  | n + 1, r => if sq < fA_ss kind rises total going width cf ct (r + 1 <<< ((nI n).toInt64 &&& 63)) then rootL kind rises total going width cf ct sq n r else rootL kind rises total going width cf ct sq n (r + 1 <<< ((nI n).toInt64 &&& 63))
def fA_cut (kind rises : Int32) (total going width : Int64) (cf ct : Int32) : Int64 := rootL kind rises total going width cf ct (fA_sss kind rises total going width cf ct) 20 0

set_option maxHeartbeats 4000000 in
set_option maxRecDepth 100000 in
theorem c_A_cut (l : Launch) (dC : Nat → ClassId) (dI : Nat → Nat → Nat) (h0 : Nat) (kind : Int32) (rises : Int32) (total : Int64) (going : Int64) (width : Int64) (cf : Int32) (ct : Int32) : Met l mA_stringCutOff wA_stringCutOff ({ frames := 3, cells := 0, slots := 0, locals := 64 }) (tp_R (dC, dI) vCl [.ref h0] [(h0, .inr (4, [.int kind, .int rises, .long total, .long going, .long width, .int cf, .int ct]))] []) (tq_R (some (.long (fA_cut kind rises total going width cf ct)))) 0 0 (fun _ => False) := by
  refine Met.ofW (cc := bA_stringCutOff) (maxL := 8) (ret := (some .long)) (by decide) rfl ?_
  intro p e s m args below meth c s₁ B hml hv
  obtain ⟨rfl, hP, hK, hN⟩ := hv
  have hx := B.exec
  have hb := B.bytes
  have hr := B.returns
  have hts : ∀ w ∈ gT, w.before _ s = true := fun w h => atoms_spec (ws := wA_stringCutOff) B.pre w (List.mem_cons_of_mem _ h)
  have hown : s.vm.findClass RA = some m.cls := findClass_of_methodNamed B.named
  have hlocks := B.notSynchronized
  have hP : va_P (dC, dI) vCl [(h0, .inr (4, [.int kind, .int rises, .long total, .long going, .long width, .int cf, .int ct]))] s.heap := hP
  have hl := lv_entry ([.ref h0]) (n := 8) (Nat.le_of_ble_eq_true rfl)
  rw [lg_entry_eq]
  generalize (lg_sl ([.ref h0]) ++ List.replicate (8 - (lg_sl ([.ref h0])).length) Slot.unset).toArray = ls at hl ⊢
  have hl : lv_has ls 8 [(0, .ref h0)] := hl
  have loop : ∀ (n : Nat) (r : Int64) (hn : n ≤ 20) (hR : rootL kind rises total going width cf ct (fA_sss kind rises total going width cf ct) n r = fA_cut kind rises total going width cf ct) (ls : Array Slot), lv_has ls 8 [(5, .int (nI n - 1)), (3, .long r), (1, .long (fA_sss kind rises total going width cf ct)), (0, .ref h0)] → W p l e (headSpec wA_stringCutOff ({ frames := 3, cells := 0, slots := 0, locals := 64 })).room s m ([.ref h0] : List Value).toArray below meth c s.heap [] 0 0 (MQ below (tq_R (some (.long (fA_cut kind rises total going width cf ct)))) ([.ref h0] : List Value).toArray s 0 0 (fun _ => False)) (F0 m 11 ls []) := by
    intro n
    induction n with
    | zero =>
      intro r hn hR ls hl
      refine lv_iload hx hb dA_stringCutOff_11 (lv_at hl 0 rfl) ?_
      refine lv_if_lt (tgt := 44) hx hb dA_stringCutOff_13 (by decide) (fun c_1 => ?_) (fun c_1 => absurd (by decide) c_1)
      refine lv_lload_n hx hb dA_stringCutOff_44 rfl (lv_at hl 1 rfl) ?_
      exact W.lret (v := r) hx hb hr (fun t ht hW => ⟨by rw [← hR, rootL], ht⟩) (fun q h => by cases h) dA_stringCutOff_45
    | succ n ih =>
      intro r hn hR ls hl
      rw [nI_pred] at hl
      have hnb : n < 20 := hn
      have hnn : ¬ nI n < 0 := nI_pos (by omega)
      refine lv_iload hx hb dA_stringCutOff_11 (lv_at hl 0 rfl) ?_
      refine lv_if_lt (tgt := 44) hx hb dA_stringCutOff_13 (by decide) (fun c_2 => absurd c_2 (hnn)) (fun c_2 => ?_)
      refine lv_lload_n hx hb dA_stringCutOff_16 rfl (lv_at hl 1 rfl) ?_
      refine lv_lconst (v := 1) hx hb dA_stringCutOff_17 (by decide) ?_
      refine lv_iload hx hb dA_stringCutOff_18 (lv_at hl 0 rfl) ?_
      refine lv_lshl (v := 1 <<< ((nI n).toInt64 &&& 63)) hx hb dA_stringCutOff_20 rfl ?_
      refine lv_ladd hx hb dA_stringCutOff_21 ?_
      refine lv_lstore (lv' := [(6, .long (r + (1 <<< ((nI n).toInt64 &&& 63)))), (5, .int (nI n)), (3, .long r), (1, .long (fA_sss kind rises total going width cf ct)), (0, .ref h0)]) hx hb dA_stringCutOff_22 hl (by decide) rfl (fun ls hl => ?_)
      refine lv_aload_n hx hb dA_stringCutOff_24 rfl (lv_at hl 4 rfl) ?_
      refine lv_lload hx hb dA_stringCutOff_25 (lv_at hl 0 rfl) ?_
      refine tr_go (st1 := [.long (fA_ss kind rises total going width cf ct (r + (1 <<< ((nI n).toInt64 &&& 63))))]) (va_runV (As := [.long (r + (1 <<< ((nI n).toInt64 &&& 63)))]) (rest := []) (C := RA) ⟨hx, hb, hml, hown, hts⟩ (c_A_scaledSquare l dC dI h0 kind rises total going width cf ct (r + (1 <<< ((nI n).toInt64 &&& 63)))) ⟨cB 1 hts gw_534 gw_5 gw_532 ndA_scaledSquare rfl rfl ⟨Nat.le_of_ble_eq_true rfl, Nat.le_of_ble_eq_true rfl⟩, hts _ gw_533, hts _ gw_755⟩ (tp_Rv hN hK hP [0] [] rfl rfl (q0 := 0) (ci := 4) rfl rfl) rfl rfl hl.1 rfl (lv_room (Nat.le_of_ble_eq_true rfl)) dA_stringCutOff_27 ⟨Nat.le_of_ble_eq_true rfl, Nat.le_of_ble_eq_true rfl⟩) rfl ?_
      refine lv_lload_n hx hb dA_stringCutOff_30 rfl (lv_at hl 3 rfl) ?_
      refine tl_gt (tgt := 38) hx hb dA_stringCutOff_31 dA_stringCutOff_32 (by decide) (fun c_3 => ?_) (fun c_3 => ?_)
      · skip
        refine lv_iinc (v := nI n - 1) (lv' := [(5, .int (nI n - 1)), (6, .long (r + (1 <<< ((nI n).toInt64 &&& 63)))), (3, .long r), (1, .long (fA_sss kind rises total going width cf ct)), (0, .ref h0)]) hx hb dA_stringCutOff_38 hl (k := 1) rfl (by rw [Int32.sub_eq_add_neg]; rfl) (by decide) rfl (fun ls hl => ?_)
        refine lv_goto (tgt := 11) hx hb dA_stringCutOff_41 (by decide) ?_
        exact ih r (by omega) (by rw [rootL, if_pos c_3] at hR; exact hR) ls (lv_sub hl [0, 2, 3, 4] rfl)
      · skip
        refine lv_lload hx hb dA_stringCutOff_35 (lv_at hl 0 rfl) ?_
        refine lv_lstore_n (lv' := [(3, .long (r + (1 <<< ((nI n).toInt64 &&& 63)))), (6, .long (r + (1 <<< ((nI n).toInt64 &&& 63)))), (5, .int (nI n)), (1, .long (fA_sss kind rises total going width cf ct)), (0, .ref h0)]) hx hb dA_stringCutOff_37 rfl hl (by decide) rfl (fun ls hl => ?_)
        refine lv_iinc (v := nI n - 1) (lv' := [(5, .int (nI n - 1)), (3, .long (r + (1 <<< ((nI n).toInt64 &&& 63)))), (6, .long (r + (1 <<< ((nI n).toInt64 &&& 63)))), (1, .long (fA_sss kind rises total going width cf ct)), (0, .ref h0)]) hx hb dA_stringCutOff_38 hl (k := 2) rfl (by rw [Int32.sub_eq_add_neg]; rfl) (by decide) rfl (fun ls hl => ?_)
        refine lv_goto (tgt := 11) hx hb dA_stringCutOff_41 (by decide) ?_
        exact ih (r + (1 <<< ((nI n).toInt64 &&& 63))) (by omega) (by rw [rootL, if_neg c_3] at hR; exact hR) ls (lv_sub hl [0, 1, 3, 4] rfl)
  refine lv_aload_n hx hb dA_stringCutOff_0 rfl (lv_at hl 0 rfl) ?_
  refine tr_go (st1 := [.long (fA_sss kind rises total going width cf ct)]) (va_runV (As := []) (rest := []) (C := RA) ⟨hx, hb, hml, hown, hts⟩ (c_A_scaledStringSquare l dC dI h0 kind rises total going width cf ct) ⟨cB 0 hts gw_527 gw_5 gw_525 ndA_scaledStringSquare rfl rfl ⟨Nat.le_of_ble_eq_true rfl, Nat.le_of_ble_eq_true rfl⟩, hts _ gw_526, hts _ gw_754⟩ (tp_Rv hN hK hP [0] [] rfl rfl (q0 := 0) (ci := 4) rfl rfl) rfl rfl hl.1 rfl (lv_room (Nat.le_of_ble_eq_true rfl)) dA_stringCutOff_1 ⟨Nat.le_of_ble_eq_true rfl, Nat.le_of_ble_eq_true rfl⟩) rfl ?_
  refine lv_lstore_n (lv' := [(1, .long (fA_sss kind rises total going width cf ct)), (0, .ref h0)]) hx hb dA_stringCutOff_4 rfl hl (by decide) rfl (fun ls hl => ?_)
  refine lv_lconst (v := 0) hx hb dA_stringCutOff_5 (by decide) ?_
  refine lv_lstore_n (lv' := [(3, .long 0), (1, .long (fA_sss kind rises total going width cf ct)), (0, .ref h0)]) hx hb dA_stringCutOff_6 rfl hl (by decide) rfl (fun ls hl => ?_)
  refine lv_bipush (v := 19) hx hb dA_stringCutOff_7 (by decide) ?_
  refine lv_istore (lv' := [(5, .int 19), (3, .long 0), (1, .long (fA_sss kind rises total going width cf ct)), (0, .ref h0)]) hx hb dA_stringCutOff_9 hl (by decide) rfl (fun ls hl => ?_)
  exact loop 20 0 (by omega) rfl ls (lv_sub hl [0, 1, 2, 3] rfl)

def fQ_take_c0f0 (num : Int64) (den : Int64) (top : Int64) (bot : Int64) : Int64 := if (fQ_gcd top bot) ≤ 0 then num else (top / (fQ_gcd top bot))
def fQ_take_c0f1 (num : Int64) (den : Int64) (top : Int64) (bot : Int64) : Int64 := if (fQ_gcd top bot) ≤ 0 then den else (bot / (fQ_gcd top bot))
set_option maxHeartbeats 4000000 in
set_option maxRecDepth 100000 in
theorem c_Q_take (l : Launch) (dC : Nat → ClassId) (dI : Nat → Nat → Nat) (h0 : Nat) (num : Int64) (den : Int64) (top : Int64) (bot : Int64) : Met l mQ_take wQ_take ({ frames := 1, cells := 0, slots := 0, locals := 30 }) (tp_W (dC, dI) vCl [.ref h0, .long top, .long bot] [(h0, .inr (5, [.long num, .long den]))] []) (tq_W (dC, dI) vCl (none) [(h0, .inr (5, [.long num, .long den]))] [(h0, .inr (5, [.long (fQ_take_c0f0 num den top bot), .long (fQ_take_c0f1 num den top bot)]))]) 0 0 (tA [(h0, .inr (5, [.long num, .long den]))]) := by
  refine Met.ofW (cc := bQ_take) (maxL := 7) (ret := none) (by decide) rfl ?_
  intro p e s m args below meth c s₁ B hml hv
  obtain ⟨rfl, hP, hK, hN, hD0⟩ := hv
  have hx := B.exec
  have hb := B.bytes
  have hr := B.returns
  have hts : ∀ w ∈ gT, w.before _ s = true := fun w h => atoms_spec (ws := wQ_take) B.pre w (List.mem_cons_of_mem _ h)
  have hown : s.vm.findClass RQ = some m.cls := findClass_of_methodNamed B.named
  have hlocks := B.notSynchronized
  have hD := tA_D hD0
  generalize hAe : tA [(h0, .inr (5, [.long num, .long den]))] = A at hD ⊢
  have hS : va_S A s.heap s.heap [] := va_S.rf
  have hP : va_P (dC, dI) vCl [(h0, .inr (5, [.long num, .long den]))] s.heap := hP
  have hl := lv_entry ([.ref h0, .long top, .long bot]) (n := 7) (Nat.le_of_ble_eq_true rfl)
  rw [lg_entry_eq]
  generalize (lg_sl ([.ref h0, .long top, .long bot]) ++ List.replicate (7 - (lg_sl ([.ref h0, .long top, .long bot])).length) Slot.unset).toArray = ls at hl ⊢
  have hl : lv_has ls 7 [(0, .ref h0), (1, .long top), (3, .long bot)] := hl
  refine lv_lload_n hx hb dQ_take_0 rfl (lv_at hl 1 rfl) ?_
  refine lv_lload_n hx hb dQ_take_1 rfl (lv_at hl 2 rfl) ?_
  refine tr_go (st1 := [.long (fQ_gcd top bot)]) (va_runS (As := [.long top, .long bot]) (rest := []) ⟨hx, hb, hml, hown, hts⟩ (c_Q_gcd l dC dI top bot) ⟨cB 2 hts gw_361 gw_6 gw_359 ndQ_commonDivisor rfl rfl ⟨Nat.le_of_ble_eq_true rfl, Nat.le_of_ble_eq_true rfl⟩, hts _ gw_360⟩ (tp_Rs hN hK hP [] [] rfl rfl) rfl rfl hl.1 rfl (lv_room (Nat.le_of_ble_eq_true rfl)) dQ_take_2 ⟨Nat.le_of_ble_eq_true rfl, Nat.le_of_ble_eq_true rfl⟩) rfl ?_
  refine lv_lstore (lv' := [(5, .long (fQ_gcd top bot)), (0, .ref h0), (1, .long top), (3, .long bot)]) hx hb dQ_take_5 hl (by decide) rfl (fun ls hl => ?_)
  refine lv_lload hx hb dQ_take_7 (lv_at hl 0 rfl) ?_
  refine lv_lconst (v := 0) hx hb dQ_take_9 (by decide) ?_
  refine tl_le (tgt := 30) hx hb dQ_take_10 dQ_take_11 (by decide) (fun c_1 => ?_) (fun c_1 => ?_)
  · skip
    exact W.vret hx hb hr (fun t ht hW => ⟨rfl, by rw [ht, show fQ_take_c0f0 num den top bot = num from by unfold fQ_take_c0f0; rw [if_pos c_1], show fQ_take_c0f1 num den top bot = den from by unfold fQ_take_c0f1; rw [if_pos c_1]]; exact hP, by rw [hAe]; exact hS.F ht⟩) hS.2.2 dQ_take_30
  · skip
    refine lv_aload_n hx hb dQ_take_14 rfl (lv_at hl 1 rfl) ?_
    refine lv_lload_n hx hb dQ_take_15 rfl (lv_at hl 2 rfl) ?_
    refine lv_lload hx hb dQ_take_16 (lv_at hl 0 rfl) ?_
    refine lv_ldiv hx hb dQ_take_18 (fun h => absurd (h ▸ c_1) (by decide)) ?_
    refine va_put (D := (dC, dI)) (ci := 5) (v := .long (top / (fQ_gcd top bot))) (ty := .long) (C := RQ) (T := TQ) (N := 2) hx hb hts inQ yQ yoQ noQ hown hK hP hD hS 0 rfl rfl 0 (by decide) (hts _ gw_94) (fun _ h9 => h9) rfl (by decide +kernel) rfl rfl (Nat.le_of_ble_eq_true rfl) dQ_take_19 (fun H locs hP hD hS => ?_)
    have hP : va_P (dC, dI) vCl [(h0, .inr (5, [.long (top / (fQ_gcd top bot)), .long den]))] H := hP
    have hD : va_D A [(h0, .inr (5, [.long (top / (fQ_gcd top bot)), .long den]))] := hD
    refine lv_aload_n hx hb dQ_take_22 rfl (lv_at hl 1 rfl) ?_
    refine lv_lload_n hx hb dQ_take_23 rfl (lv_at hl 3 rfl) ?_
    refine lv_lload hx hb dQ_take_24 (lv_at hl 0 rfl) ?_
    refine lv_ldiv hx hb dQ_take_26 (fun h => absurd (h ▸ c_1) (by decide)) ?_
    refine va_put (D := (dC, dI)) (ci := 5) (v := .long (bot / (fQ_gcd top bot))) (ty := .long) (C := RQ) (T := TQ) (N := 2) hx hb hts inQ yQ yoQ noQ hown hK hP hD hS 0 rfl rfl 1 (by decide) (hts _ gw_95) (fun _ h9 => h9) rfl (by decide +kernel) rfl rfl (Nat.le_of_ble_eq_true rfl) dQ_take_27 (fun H locs hP hD hS => ?_)
    have hP : va_P (dC, dI) vCl [(h0, .inr (5, [.long (top / (fQ_gcd top bot)), .long (bot / (fQ_gcd top bot))]))] H := hP
    have hD : va_D A [(h0, .inr (5, [.long (top / (fQ_gcd top bot)), .long (bot / (fQ_gcd top bot))]))] := hD
    exact W.vret hx hb hr (fun t ht hW => ⟨rfl, by rw [ht, show fQ_take_c0f0 num den top bot = top / (fQ_gcd top bot) from by unfold fQ_take_c0f0; rw [if_neg c_1], show fQ_take_c0f1 num den top bot = bot / (fQ_gcd top bot) from by unfold fQ_take_c0f1; rw [if_neg c_1]]; exact hP, by rw [hAe]; exact hS.F ht⟩) hS.2.2 dQ_take_30

set_option maxHeartbeats 4000000 in
set_option maxRecDepth 100000 in
theorem c_A_measure (l : Launch) (dC : Nat → ClassId) (dI : Nat → Nat → Nat) (h0 : Nat) (kind : Int32) (rises : Int32) (total : Int64) (going : Int64) (width : Int64) (cf : Int32) (ct : Int32) (k1 : Int32) (t1 : Int64) (g1 : Int64) (w1 : Int64) : Met l mA_measure wA_measure ({ frames := 0, cells := 0, slots := 0, locals := 0 }) (tp_W (dC, dI) vCl [.ref h0, .int k1, .long t1, .long g1, .long w1] [(h0, .inr (4, [.int kind, .int rises, .long total, .long going, .long width, .int cf, .int ct]))] []) (tq_W (dC, dI) vCl (none) [(h0, .inr (4, [.int kind, .int rises, .long total, .long going, .long width, .int cf, .int ct]))] [(h0, .inr (4, [.int k1, .int rises, .long t1, .long g1, .long w1, .int cf, .int ct]))]) 0 0 (tA [(h0, .inr (4, [.int kind, .int rises, .long total, .long going, .long width, .int cf, .int ct]))]) := by
  refine Met.ofW (cc := bA_measure) (maxL := 8) (ret := none) (by decide) rfl ?_
  intro p e s m args below meth c s₁ B hml hv
  obtain ⟨rfl, hP, hK, hN, hD0⟩ := hv
  have hx := B.exec
  have hb := B.bytes
  have hr := B.returns
  have hts : ∀ w ∈ gT, w.before _ s = true := fun w h => atoms_spec (ws := wA_measure) B.pre w (List.mem_cons_of_mem _ h)
  have hown : s.vm.findClass RA = some m.cls := findClass_of_methodNamed B.named
  have hlocks := B.notSynchronized
  have hD := tA_D hD0
  generalize hAe : tA [(h0, .inr (4, [.int kind, .int rises, .long total, .long going, .long width, .int cf, .int ct]))] = A at hD ⊢
  have hS : va_S A s.heap s.heap [] := va_S.rf
  have hP : va_P (dC, dI) vCl [(h0, .inr (4, [.int kind, .int rises, .long total, .long going, .long width, .int cf, .int ct]))] s.heap := hP
  have hl := lv_entry ([.ref h0, .int k1, .long t1, .long g1, .long w1]) (n := 8) (Nat.le_of_ble_eq_true rfl)
  rw [lg_entry_eq]
  generalize (lg_sl ([.ref h0, .int k1, .long t1, .long g1, .long w1]) ++ List.replicate (8 - (lg_sl ([.ref h0, .int k1, .long t1, .long g1, .long w1])).length) Slot.unset).toArray = ls at hl ⊢
  have hl : lv_has ls 8 [(0, .ref h0), (1, .int k1), (2, .long t1), (4, .long g1), (6, .long w1)] := hl
  refine lv_aload_n hx hb dA_measure_0 rfl (lv_at hl 0 rfl) ?_
  refine lv_iload_n hx hb dA_measure_1 rfl (lv_at hl 1 rfl) ?_
  refine va_put (D := (dC, dI)) (ci := 4) (v := .int k1) (ty := .int) (C := RA) (T := TA) (N := 7) hx hb hts inA yA yoA noA hown hK hP hD hS 0 rfl rfl 0 (by decide) (hts _ gw_75) (fun _ h9 => h9) rfl (by decide +kernel) rfl rfl (Nat.le_of_ble_eq_true rfl) dA_measure_2 (fun H locs hP hD hS => ?_)
  have hP : va_P (dC, dI) vCl [(h0, .inr (4, [.int k1, .int rises, .long total, .long going, .long width, .int cf, .int ct]))] H := hP
  have hD : va_D A [(h0, .inr (4, [.int k1, .int rises, .long total, .long going, .long width, .int cf, .int ct]))] := hD
  refine lv_aload_n hx hb dA_measure_5 rfl (lv_at hl 0 rfl) ?_
  refine lv_lload_n hx hb dA_measure_6 rfl (lv_at hl 2 rfl) ?_
  refine va_put (D := (dC, dI)) (ci := 4) (v := .long t1) (ty := .long) (C := RA) (T := TA) (N := 7) hx hb hts inA yA yoA noA hown hK hP hD hS 0 rfl rfl 2 (by decide) (hts _ gw_77) (fun _ h9 => h9) rfl (by decide +kernel) rfl rfl (Nat.le_of_ble_eq_true rfl) dA_measure_7 (fun H locs hP hD hS => ?_)
  have hP : va_P (dC, dI) vCl [(h0, .inr (4, [.int k1, .int rises, .long t1, .long going, .long width, .int cf, .int ct]))] H := hP
  have hD : va_D A [(h0, .inr (4, [.int k1, .int rises, .long t1, .long going, .long width, .int cf, .int ct]))] := hD
  refine lv_aload_n hx hb dA_measure_10 rfl (lv_at hl 0 rfl) ?_
  refine lv_lload hx hb dA_measure_11 (lv_at hl 3 rfl) ?_
  refine va_put (D := (dC, dI)) (ci := 4) (v := .long g1) (ty := .long) (C := RA) (T := TA) (N := 7) hx hb hts inA yA yoA noA hown hK hP hD hS 0 rfl rfl 3 (by decide) (hts _ gw_78) (fun _ h9 => h9) rfl (by decide +kernel) rfl rfl (Nat.le_of_ble_eq_true rfl) dA_measure_13 (fun H locs hP hD hS => ?_)
  have hP : va_P (dC, dI) vCl [(h0, .inr (4, [.int k1, .int rises, .long t1, .long g1, .long width, .int cf, .int ct]))] H := hP
  have hD : va_D A [(h0, .inr (4, [.int k1, .int rises, .long t1, .long g1, .long width, .int cf, .int ct]))] := hD
  refine lv_aload_n hx hb dA_measure_16 rfl (lv_at hl 0 rfl) ?_
  refine lv_lload hx hb dA_measure_17 (lv_at hl 4 rfl) ?_
  refine va_put (D := (dC, dI)) (ci := 4) (v := .long w1) (ty := .long) (C := RA) (T := TA) (N := 7) hx hb hts inA yA yoA noA hown hK hP hD hS 0 rfl rfl 4 (by decide) (hts _ gw_79) (fun _ h9 => h9) rfl (by decide +kernel) rfl rfl (Nat.le_of_ble_eq_true rfl) dA_measure_19 (fun H locs hP hD hS => ?_)
  have hP : va_P (dC, dI) vCl [(h0, .inr (4, [.int k1, .int rises, .long t1, .long g1, .long w1, .int cf, .int ct]))] H := hP
  have hD : va_D A [(h0, .inr (4, [.int k1, .int rises, .long t1, .long g1, .long w1, .int cf, .int ct]))] := hD
  exact W.vret hx hb hr (fun t ht hW => ⟨rfl, by rw [ht]; exact hP, by rw [hAe]; exact hS.F ht⟩) hS.2.2 dA_measure_22

def fA_divide_c0f5 (kind : Int32) (rises : Int32) (total : Int64) (going : Int64) (width : Int64) (cf : Int32) (ct : Int32) (n1 : Int32) : Int32 := if kind = 0 then (fA_treads kind n1 total going width cf ct) else ((n1 - (fA_fewest kind n1 total going width cf ct)) / 2)
def fA_divide_c0f6 (kind : Int32) (rises : Int32) (total : Int64) (going : Int64) (width : Int64) (cf : Int32) (ct : Int32) (n1 : Int32) : Int32 := if kind = 0 then (((fA_treads kind n1 total going width cf ct) + (fA_landings kind n1 total going width (fA_treads kind n1 total going width cf ct) ct)) + (fA_winders kind n1 total going width (fA_treads kind n1 total going width cf ct) ct)) else ((((n1 - (fA_fewest kind n1 total going width cf ct)) / 2) + (fA_landings kind n1 total going width ((n1 - (fA_fewest kind n1 total going width cf ct)) / 2) ct)) + (fA_winders kind n1 total going width ((n1 - (fA_fewest kind n1 total going width cf ct)) / 2) ct))
set_option maxHeartbeats 4000000 in
set_option maxRecDepth 100000 in
theorem c_A_divide (l : Launch) (dC : Nat → ClassId) (dI : Nat → Nat → Nat) (h0 : Nat) (kind : Int32) (rises : Int32) (total : Int64) (going : Int64) (width : Int64) (cf : Int32) (ct : Int32) (n1 : Int32) : Met l mA_divide wA_divide ({ frames := 1, cells := 0, slots := 0, locals := 20 }) (tp_W (dC, dI) vCl [.ref h0, .int n1] [(h0, .inr (4, [.int kind, .int rises, .long total, .long going, .long width, .int cf, .int ct]))] []) (tq_W (dC, dI) vCl (none) [(h0, .inr (4, [.int kind, .int rises, .long total, .long going, .long width, .int cf, .int ct]))] [(h0, .inr (4, [.int kind, .int n1, .long total, .long going, .long width, .int (fA_divide_c0f5 kind rises total going width cf ct n1), .int (fA_divide_c0f6 kind rises total going width cf ct n1)]))]) 0 0 (tA [(h0, .inr (4, [.int kind, .int rises, .long total, .long going, .long width, .int cf, .int ct]))]) := by
  refine Met.ofW (cc := bA_divide) (maxL := 2) (ret := none) (by decide) rfl ?_
  intro p e s m args below meth c s₁ B hml hv
  obtain ⟨rfl, hP, hK, hN, hD0⟩ := hv
  have hx := B.exec
  have hb := B.bytes
  have hr := B.returns
  have hts : ∀ w ∈ gT, w.before _ s = true := fun w h => atoms_spec (ws := wA_divide) B.pre w (List.mem_cons_of_mem _ h)
  have hown : s.vm.findClass RA = some m.cls := findClass_of_methodNamed B.named
  have hlocks := B.notSynchronized
  have hD := tA_D hD0
  generalize hAe : tA [(h0, .inr (4, [.int kind, .int rises, .long total, .long going, .long width, .int cf, .int ct]))] = A at hD ⊢
  have hS : va_S A s.heap s.heap [] := va_S.rf
  have hP : va_P (dC, dI) vCl [(h0, .inr (4, [.int kind, .int rises, .long total, .long going, .long width, .int cf, .int ct]))] s.heap := hP
  have hl := lv_entry ([.ref h0, .int n1]) (n := 2) (Nat.le_of_ble_eq_true rfl)
  rw [lg_entry_eq]
  generalize (lg_sl ([.ref h0, .int n1]) ++ List.replicate (2 - (lg_sl ([.ref h0, .int n1])).length) Slot.unset).toArray = ls at hl ⊢
  have hl : lv_has ls 2 [(0, .ref h0), (1, .int n1)] := hl
  refine lv_aload_n hx hb dA_divide_0 rfl (lv_at hl 0 rfl) ?_
  refine lv_iload_n hx hb dA_divide_1 rfl (lv_at hl 1 rfl) ?_
  refine va_put (D := (dC, dI)) (ci := 4) (v := .int n1) (ty := .int) (C := RA) (T := TA) (N := 7) hx hb hts inA yA yoA noA hown hK hP hD hS 0 rfl rfl 1 (by decide) (hts _ gw_76) (fun _ h9 => h9) rfl (by decide +kernel) rfl rfl (Nat.le_of_ble_eq_true rfl) dA_divide_2 (fun H locs hP hD hS => ?_)
  have hP : va_P (dC, dI) vCl [(h0, .inr (4, [.int kind, .int n1, .long total, .long going, .long width, .int cf, .int ct]))] H := hP
  have hD : va_D A [(h0, .inr (4, [.int kind, .int n1, .long total, .long going, .long width, .int cf, .int ct]))] := hD
  refine lv_aload_n hx hb dA_divide_5 rfl (lv_at hl 0 rfl) ?_
  refine lv_aload_n hx hb dA_divide_6 rfl (lv_at hl 0 rfl) ?_
  refine va_get (D := (dC, dI)) (ci := 4) (v := .int kind) (C := RA) (T := TA) (N := 7) hx hb hts inA hown hK hP 0 rfl rfl 0 (by decide) (hts _ gw_75) (fun _ h9 => h9) rfl dA_divide_7 ?_
  refine lv_if_ne (tgt := 20) hx hb dA_divide_10 (by decide) (fun c_1 => ?_) (fun c_1 => ?_)
  · skip
    refine lv_iload_n hx hb dA_divide_20 rfl (lv_at hl 1 rfl) ?_
    refine lv_aload_n hx hb dA_divide_21 rfl (lv_at hl 0 rfl) ?_
    refine tr_go (st1 := [.int (fA_fewest kind n1 total going width cf ct), .int n1, .ref h0]) (va_runV (As := []) (rest := [.int n1, .ref h0]) (C := RA) ⟨hx, hb, hml, hown, hts⟩ (c_A_fewestRises l dC dI h0 kind n1 total going width cf ct) ⟨cB 0 hts gw_326 gw_5 gw_335 ndA_fewestRises rfl rfl ⟨Nat.le_of_ble_eq_true rfl, Nat.le_of_ble_eq_true rfl⟩, hts _ gw_324, hts _ gw_325⟩ (tp_Rv hN hK hP [0] [] rfl rfl (q0 := 0) (ci := 4) rfl rfl) rfl rfl hl.1 rfl (lv_room (Nat.le_of_ble_eq_true rfl)) dA_divide_22 ⟨Nat.le_of_ble_eq_true rfl, Nat.le_of_ble_eq_true rfl⟩) rfl ?_
    refine lv_isub hx hb dA_divide_25 ?_
    refine lv_iconst (v := 2) hx hb dA_divide_26 (by decide) ?_
    refine lv_idiv hx hb dA_divide_27 (by decide) ?_
    refine va_put (D := (dC, dI)) (ci := 4) (v := .int ((n1 - (fA_fewest kind n1 total going width cf ct)) / 2)) (ty := .int) (C := RA) (T := TA) (N := 7) hx hb hts inA yA yoA noA hown hK hP hD hS 0 rfl rfl 5 (by decide) (hts _ gw_80) (fun _ h9 => h9) rfl (by decide +kernel) rfl rfl (Nat.le_of_ble_eq_true rfl) dA_divide_28 (fun H locs hP hD hS => ?_)
    have hP : va_P (dC, dI) vCl [(h0, .inr (4, [.int kind, .int n1, .long total, .long going, .long width, .int ((n1 - (fA_fewest kind n1 total going width cf ct)) / 2), .int ct]))] H := hP
    have hD : va_D A [(h0, .inr (4, [.int kind, .int n1, .long total, .long going, .long width, .int ((n1 - (fA_fewest kind n1 total going width cf ct)) / 2), .int ct]))] := hD
    refine lv_aload_n hx hb dA_divide_31 rfl (lv_at hl 0 rfl) ?_
    refine lv_aload_n hx hb dA_divide_32 rfl (lv_at hl 0 rfl) ?_
    refine va_get (D := (dC, dI)) (ci := 4) (v := .int ((n1 - (fA_fewest kind n1 total going width cf ct)) / 2)) (C := RA) (T := TA) (N := 7) hx hb hts inA hown hK hP 0 rfl rfl 5 (by decide) (hts _ gw_80) (fun _ h9 => h9) rfl dA_divide_33 ?_
    refine lv_aload_n hx hb dA_divide_36 rfl (lv_at hl 0 rfl) ?_
    refine tr_go (st1 := [.int (fA_landings kind n1 total going width ((n1 - (fA_fewest kind n1 total going width cf ct)) / 2) ct), .int ((n1 - (fA_fewest kind n1 total going width cf ct)) / 2), .ref h0]) (va_runV (As := []) (rest := [.int ((n1 - (fA_fewest kind n1 total going width cf ct)) / 2), .ref h0]) (C := RA) ⟨hx, hb, hml, hown, hts⟩ (c_A_landings l dC dI h0 kind n1 total going width ((n1 - (fA_fewest kind n1 total going width cf ct)) / 2) ct) ⟨cB 0 hts gw_339 gw_5 gw_336 ndA_landings rfl rfl ⟨Nat.le_of_ble_eq_true rfl, Nat.le_of_ble_eq_true rfl⟩, hts _ gw_337, hts _ gw_338⟩ (tp_Rv hN hK hP [0] [] rfl rfl (q0 := 0) (ci := 4) rfl rfl) rfl rfl hl.1 rfl (lv_room (Nat.le_of_ble_eq_true rfl)) dA_divide_37 ⟨Nat.le_of_ble_eq_true rfl, Nat.le_of_ble_eq_true rfl⟩) rfl ?_
    refine lv_iadd hx hb dA_divide_40 ?_
    refine lv_aload_n hx hb dA_divide_41 rfl (lv_at hl 0 rfl) ?_
    refine tr_go (st1 := [.int (fA_winders kind n1 total going width ((n1 - (fA_fewest kind n1 total going width cf ct)) / 2) ct), .int (((n1 - (fA_fewest kind n1 total going width cf ct)) / 2) + (fA_landings kind n1 total going width ((n1 - (fA_fewest kind n1 total going width cf ct)) / 2) ct)), .ref h0]) (va_runV (As := []) (rest := [.int (((n1 - (fA_fewest kind n1 total going width cf ct)) / 2) + (fA_landings kind n1 total going width ((n1 - (fA_fewest kind n1 total going width cf ct)) / 2) ct)), .ref h0]) (C := RA) ⟨hx, hb, hml, hown, hts⟩ (c_A_winders l dC dI h0 kind n1 total going width ((n1 - (fA_fewest kind n1 total going width cf ct)) / 2) ct) ⟨cB 0 hts gw_343 gw_5 gw_340 ndA_winders rfl rfl ⟨Nat.le_of_ble_eq_true rfl, Nat.le_of_ble_eq_true rfl⟩, hts _ gw_341, hts _ gw_342⟩ (tp_Rv hN hK hP [0] [] rfl rfl (q0 := 0) (ci := 4) rfl rfl) rfl rfl hl.1 rfl (lv_room (Nat.le_of_ble_eq_true rfl)) dA_divide_42 ⟨Nat.le_of_ble_eq_true rfl, Nat.le_of_ble_eq_true rfl⟩) rfl ?_
    refine lv_iadd hx hb dA_divide_45 ?_
    refine va_put (D := (dC, dI)) (ci := 4) (v := .int ((((n1 - (fA_fewest kind n1 total going width cf ct)) / 2) + (fA_landings kind n1 total going width ((n1 - (fA_fewest kind n1 total going width cf ct)) / 2) ct)) + (fA_winders kind n1 total going width ((n1 - (fA_fewest kind n1 total going width cf ct)) / 2) ct))) (ty := .int) (C := RA) (T := TA) (N := 7) hx hb hts inA yA yoA noA hown hK hP hD hS 0 rfl rfl 6 (by decide) (hts _ gw_81) (fun _ h9 => h9) rfl (by decide +kernel) rfl rfl (Nat.le_of_ble_eq_true rfl) dA_divide_46 (fun H locs hP hD hS => ?_)
    have hP : va_P (dC, dI) vCl [(h0, .inr (4, [.int kind, .int n1, .long total, .long going, .long width, .int ((n1 - (fA_fewest kind n1 total going width cf ct)) / 2), .int ((((n1 - (fA_fewest kind n1 total going width cf ct)) / 2) + (fA_landings kind n1 total going width ((n1 - (fA_fewest kind n1 total going width cf ct)) / 2) ct)) + (fA_winders kind n1 total going width ((n1 - (fA_fewest kind n1 total going width cf ct)) / 2) ct))]))] H := hP
    have hD : va_D A [(h0, .inr (4, [.int kind, .int n1, .long total, .long going, .long width, .int ((n1 - (fA_fewest kind n1 total going width cf ct)) / 2), .int ((((n1 - (fA_fewest kind n1 total going width cf ct)) / 2) + (fA_landings kind n1 total going width ((n1 - (fA_fewest kind n1 total going width cf ct)) / 2) ct)) + (fA_winders kind n1 total going width ((n1 - (fA_fewest kind n1 total going width cf ct)) / 2) ct))]))] := hD
    exact W.vret hx hb hr (fun t ht hW => ⟨rfl, by rw [ht, show fA_divide_c0f5 kind rises total going width cf ct n1 = (n1 - (fA_fewest kind n1 total going width cf ct)) / 2 from by unfold fA_divide_c0f5; rw [if_neg c_1], show fA_divide_c0f6 kind rises total going width cf ct n1 = (((n1 - (fA_fewest kind n1 total going width cf ct)) / 2) + (fA_landings kind n1 total going width ((n1 - (fA_fewest kind n1 total going width cf ct)) / 2) ct)) + (fA_winders kind n1 total going width ((n1 - (fA_fewest kind n1 total going width cf ct)) / 2) ct) from by unfold fA_divide_c0f6; rw [if_neg c_1]]; exact hP, by rw [hAe]; exact hS.F ht⟩) hS.2.2 dA_divide_49
  · skip
    refine lv_aload_n hx hb dA_divide_13 rfl (lv_at hl 0 rfl) ?_
    refine tr_go (st1 := [.int (fA_treads kind n1 total going width cf ct), .ref h0]) (va_runV (As := []) (rest := [.ref h0]) (C := RA) ⟨hx, hb, hml, hown, hts⟩ (c_A_treads l dC dI h0 kind n1 total going width cf ct) ⟨cB 0 hts gw_334 gw_5 gw_331 ndA_treads rfl rfl ⟨Nat.le_of_ble_eq_true rfl, Nat.le_of_ble_eq_true rfl⟩, hts _ gw_332, hts _ gw_333⟩ (tp_Rv hN hK hP [0] [] rfl rfl (q0 := 0) (ci := 4) rfl rfl) rfl rfl hl.1 rfl (lv_room (Nat.le_of_ble_eq_true rfl)) dA_divide_14 ⟨Nat.le_of_ble_eq_true rfl, Nat.le_of_ble_eq_true rfl⟩) rfl ?_
    refine lv_goto (tgt := 28) hx hb dA_divide_17 (by decide) ?_
    refine va_put (D := (dC, dI)) (ci := 4) (v := .int (fA_treads kind n1 total going width cf ct)) (ty := .int) (C := RA) (T := TA) (N := 7) hx hb hts inA yA yoA noA hown hK hP hD hS 0 rfl rfl 5 (by decide) (hts _ gw_80) (fun _ h9 => h9) rfl (by decide +kernel) rfl rfl (Nat.le_of_ble_eq_true rfl) dA_divide_28 (fun H locs hP hD hS => ?_)
    have hP : va_P (dC, dI) vCl [(h0, .inr (4, [.int kind, .int n1, .long total, .long going, .long width, .int (fA_treads kind n1 total going width cf ct), .int ct]))] H := hP
    have hD : va_D A [(h0, .inr (4, [.int kind, .int n1, .long total, .long going, .long width, .int (fA_treads kind n1 total going width cf ct), .int ct]))] := hD
    refine lv_aload_n hx hb dA_divide_31 rfl (lv_at hl 0 rfl) ?_
    refine lv_aload_n hx hb dA_divide_32 rfl (lv_at hl 0 rfl) ?_
    refine va_get (D := (dC, dI)) (ci := 4) (v := .int (fA_treads kind n1 total going width cf ct)) (C := RA) (T := TA) (N := 7) hx hb hts inA hown hK hP 0 rfl rfl 5 (by decide) (hts _ gw_80) (fun _ h9 => h9) rfl dA_divide_33 ?_
    refine lv_aload_n hx hb dA_divide_36 rfl (lv_at hl 0 rfl) ?_
    refine tr_go (st1 := [.int (fA_landings kind n1 total going width (fA_treads kind n1 total going width cf ct) ct), .int (fA_treads kind n1 total going width cf ct), .ref h0]) (va_runV (As := []) (rest := [.int (fA_treads kind n1 total going width cf ct), .ref h0]) (C := RA) ⟨hx, hb, hml, hown, hts⟩ (c_A_landings l dC dI h0 kind n1 total going width (fA_treads kind n1 total going width cf ct) ct) ⟨cB 0 hts gw_339 gw_5 gw_336 ndA_landings rfl rfl ⟨Nat.le_of_ble_eq_true rfl, Nat.le_of_ble_eq_true rfl⟩, hts _ gw_337, hts _ gw_338⟩ (tp_Rv hN hK hP [0] [] rfl rfl (q0 := 0) (ci := 4) rfl rfl) rfl rfl hl.1 rfl (lv_room (Nat.le_of_ble_eq_true rfl)) dA_divide_37 ⟨Nat.le_of_ble_eq_true rfl, Nat.le_of_ble_eq_true rfl⟩) rfl ?_
    refine lv_iadd hx hb dA_divide_40 ?_
    refine lv_aload_n hx hb dA_divide_41 rfl (lv_at hl 0 rfl) ?_
    refine tr_go (st1 := [.int (fA_winders kind n1 total going width (fA_treads kind n1 total going width cf ct) ct), .int ((fA_treads kind n1 total going width cf ct) + (fA_landings kind n1 total going width (fA_treads kind n1 total going width cf ct) ct)), .ref h0]) (va_runV (As := []) (rest := [.int ((fA_treads kind n1 total going width cf ct) + (fA_landings kind n1 total going width (fA_treads kind n1 total going width cf ct) ct)), .ref h0]) (C := RA) ⟨hx, hb, hml, hown, hts⟩ (c_A_winders l dC dI h0 kind n1 total going width (fA_treads kind n1 total going width cf ct) ct) ⟨cB 0 hts gw_343 gw_5 gw_340 ndA_winders rfl rfl ⟨Nat.le_of_ble_eq_true rfl, Nat.le_of_ble_eq_true rfl⟩, hts _ gw_341, hts _ gw_342⟩ (tp_Rv hN hK hP [0] [] rfl rfl (q0 := 0) (ci := 4) rfl rfl) rfl rfl hl.1 rfl (lv_room (Nat.le_of_ble_eq_true rfl)) dA_divide_42 ⟨Nat.le_of_ble_eq_true rfl, Nat.le_of_ble_eq_true rfl⟩) rfl ?_
    refine lv_iadd hx hb dA_divide_45 ?_
    refine va_put (D := (dC, dI)) (ci := 4) (v := .int (((fA_treads kind n1 total going width cf ct) + (fA_landings kind n1 total going width (fA_treads kind n1 total going width cf ct) ct)) + (fA_winders kind n1 total going width (fA_treads kind n1 total going width cf ct) ct))) (ty := .int) (C := RA) (T := TA) (N := 7) hx hb hts inA yA yoA noA hown hK hP hD hS 0 rfl rfl 6 (by decide) (hts _ gw_81) (fun _ h9 => h9) rfl (by decide +kernel) rfl rfl (Nat.le_of_ble_eq_true rfl) dA_divide_46 (fun H locs hP hD hS => ?_)
    have hP : va_P (dC, dI) vCl [(h0, .inr (4, [.int kind, .int n1, .long total, .long going, .long width, .int (fA_treads kind n1 total going width cf ct), .int (((fA_treads kind n1 total going width cf ct) + (fA_landings kind n1 total going width (fA_treads kind n1 total going width cf ct) ct)) + (fA_winders kind n1 total going width (fA_treads kind n1 total going width cf ct) ct))]))] H := hP
    have hD : va_D A [(h0, .inr (4, [.int kind, .int n1, .long total, .long going, .long width, .int (fA_treads kind n1 total going width cf ct), .int (((fA_treads kind n1 total going width cf ct) + (fA_landings kind n1 total going width (fA_treads kind n1 total going width cf ct) ct)) + (fA_winders kind n1 total going width (fA_treads kind n1 total going width cf ct) ct))]))] := hD
    exact W.vret hx hb hr (fun t ht hW => ⟨rfl, by rw [ht, show fA_divide_c0f5 kind rises total going width cf ct n1 = fA_treads kind n1 total going width cf ct from by unfold fA_divide_c0f5; rw [if_pos c_1], show fA_divide_c0f6 kind rises total going width cf ct n1 = ((fA_treads kind n1 total going width cf ct) + (fA_landings kind n1 total going width (fA_treads kind n1 total going width cf ct) ct)) + (fA_winders kind n1 total going width (fA_treads kind n1 total going width cf ct) ct) from by unfold fA_divide_c0f6; rw [if_pos c_1]]; exact hP, by rw [hAe]; exact hS.F ht⟩) hS.2.2 dA_divide_49
