def dcf (k n : Int32) : Int32 := if k = 0 then n - 1 else (n - (if k = 2 then 4 else (if k = 1 then 2 else 1))) / 2
def dct (k n : Int32) : Int32 := if k = 0 then ((n - 1) + (if k = 1 then 1 else 0)) + (if k = 2 then 3 else 0) else (((n - (if k = 2 then 4 else (if k = 1 then 2 else 1))) / 2) + (if k = 1 then 1 else 0)) + (if k = 2 then 3 else 0)
def fewN (k : Int32) : Nat := if k = 2 then 4 else (if k = 1 then 2 else 1)
theorem fewN_4 (k : Int32) : fewN k ≤ 4 := by unfold fewN; split; decide; split <;> decide
theorem fewN_e (kind rises : Int32) (total going width : Int64) (cf ct : Int32) : fA_fewest kind rises total going width cf ct = nI (fewN kind) := by
  unfold fA_fewest fewN
  split
  · rfl
  · split <;> rfl
def runH (fw fr fb : Nat → Int32) (rc : Nat) (k1 : Int32) (tot g1 w1 : Int64) (j : Nat) : Int32 := fS_held fw fr fb rc k1 (nI j) tot g1 w1 (dcf k1 (nI j)) (dct k1 (nI j))
def runF (fw fr fb : Nat → Int32) (rc : Nat) (k1 : Int32) (tot g1 w1 : Int64) : Nat → Nat → Nat
  | 0, j => j
  | n + 1, j => if runH fw fr fb rc k1 tot g1 w1 j = nI rc then j else runF fw fr fb rc k1 tot g1 w1 n (j + 1)
def runM (fw fr fb : Nat → Int32) (rc : Nat) (k1 : Int32) (tot g1 w1 : Int64) : Nat → Nat → Int32 → Int32
  | 0, _, b => b
  | n + 1, j, b => runM fw fr fb rc k1 tot g1 w1 n (j + 1) (if b < runH fw fr fb rc k1 tot g1 w1 j then runH fw fr fb rc k1 tot g1 w1 j else b)
def runJ (fw fr fb : Nat → Int32) (rc : Nat) (k1 : Int32) (tot g1 w1 : Int64) : Nat := runF fw fr fb rc k1 tot g1 w1 (61 - fewN k1) (fewN k1)

def xP_run (tot : Int64) (pd : Bool) (gd : Bool) (fw : Nat → Int32) (fr : Nat → Int32) (fb : Nat → Int32) (rc : Nat) (kind : Int32) (rises : Int32) (total : Int64) (going : Int64) (width : Int64) (cf : Int32) (ct : Int32) (rn : Int64) (rd : Int64) (k1 : Int32) (g1 : Int64) (w1 : Int64) : Nat := if (nI rc) = 0 then 1 else (if k1 < 0 then 2 else (if k1 ≤ 2 then (if g1 < 1 then 2 else (if 10000 < g1 then 2 else (if w1 < 1 then 2 else (if w1 ≤ 10000 then 0 else 2)))) else 2))


set_option maxHeartbeats 4000000 in
set_option maxRecDepth 100000 in
theorem c_P_run (l : Launch) (dC : Nat → ClassId) (dI : Nat → Nat → Nat) (p0 : Nat) (pT : Nat) (pR : Nat) (pS : Nat) (pF : Nat) (h0 : Nat) (pQ : Nat) (pG : Nat) (tot : Int64) (pd : Bool) (gd : Bool) (aw : Nat) (ar : Nat) (ab : Nat) (cw : ClassId) (cr : ClassId) (cb : ClassId) (fw : Nat → Int32) (fr : Nat → Int32) (fb : Nat → Int32) (rc : Nat) (kind : Int32) (rises : Int32) (total : Int64) (going : Int64) (width : Int64) (cf : Int32) (ct : Int32) (rn : Int64) (rd : Int64) (k1 : Int32) (g1 : Int64) (w1 : Int64) (j9 : Nat) (hrc : rc ≤ 8) (hx9 : xP_run tot pd gd fw fr fb rc kind rises total going width cf ct rn rd k1 g1 w1 = 0) (hJ9 : runJ fw fr fb rc k1 tot g1 w1 = j9) (h60 : j9 ≤ 60) : Met l mP_run wP_run ({ frames := 3, cells := 0, slots := 0, locals := 72 }) (tp_W (dC, dI) vCl [.ref p0, .int k1, .long g1, .long w1] [(p0, .inr (0, [.ref pT, .ref pR, .ref pS, .ref pF, .ref h0, .ref pQ, .ref pG, .long tot, .int (bI pd), .int (bI gd)])), (h0, .inr (4, [.int kind, .int rises, .long total, .long going, .long width, .int cf, .int ct])), (pR, .inr (2, [.ref aw, .ref ar, .ref ab, .int (nI rc)])), (aw, .inl (cw, 40, .inl fw)), (ar, .inl (cr, 8, .inl fr)), (ab, .inl (cb, 8, .inl fb)), (pQ, .inr (5, [.long rn, .long rd]))] [(cw, .int), (cr, .char), (cb, .int)]) (tq_W (dC, dI) vCl (some (.int (nI j9))) [(p0, .inr (0, [.ref pT, .ref pR, .ref pS, .ref pF, .ref h0, .ref pQ, .ref pG, .long tot, .int (bI pd), .int (bI gd)])), (h0, .inr (4, [.int kind, .int rises, .long total, .long going, .long width, .int cf, .int ct])), (pR, .inr (2, [.ref aw, .ref ar, .ref ab, .int (nI rc)])), (aw, .inl (cw, 40, .inl fw)), (ar, .inl (cr, 8, .inl fr)), (ab, .inl (cb, 8, .inl fb)), (pQ, .inr (5, [.long rn, .long rd]))] [(p0, .inr (0, [.ref pT, .ref pR, .ref pS, .ref pF, .ref h0, .ref pQ, .ref pG, .long tot, .int (bI true), .int (bI false)])), (h0, .inr (4, [.int k1, .int (nI j9), .long tot, .long g1, .long w1, .int (dcf k1 (nI j9)), .int (dct k1 (nI j9))])), (pR, .inr (2, [.ref aw, .ref ar, .ref ab, .int (nI rc)])), (aw, .inl (cw, 40, .inl fw)), (ar, .inl (cr, 8, .inl fr)), (ab, .inl (cb, 8, .inl fb)), (pQ, .inr (5, [.long (fQ_take_c0f0 rn rd tot (nI j9).toInt64), .long (fQ_take_c0f1 rn rd tot (nI j9).toInt64)]))]) 0 0 (tA [(p0, .inr (0, [.ref pT, .ref pR, .ref pS, .ref pF, .ref h0, .ref pQ, .ref pG, .long tot, .int (bI pd), .int (bI gd)])), (h0, .inr (4, [.int kind, .int rises, .long total, .long going, .long width, .int cf, .int ct])), (pR, .inr (2, [.ref aw, .ref ar, .ref ab, .int (nI rc)])), (aw, .inl (cw, 40, .inl fw)), (ar, .inl (cr, 8, .inl fr)), (ab, .inl (cb, 8, .inl fb)), (pQ, .inr (5, [.long rn, .long rd]))]) := by
  refine Met.ofW (cc := bP_run) (maxL := 9) (ret := (some .int)) (by decide) rfl ?_
  intro p e s m args below meth c s₁ B hml hv
  obtain ⟨rfl, hP, hK, hN, hD0⟩ := hv
  have hx := B.exec
  have hb := B.bytes
  have hr := B.returns
  have hts : ∀ w ∈ gT, w.before _ s = true := fun w h => atoms_spec (ws := wP_run) B.pre w (List.mem_cons_of_mem _ h)
  have hown : s.vm.findClass RP = some m.cls := findClass_of_methodNamed B.named
  have hlocks := B.notSynchronized
  have hD := tA_D hD0
  generalize hAe : tA [(p0, .inr (0, [.ref pT, .ref pR, .ref pS, .ref pF, .ref h0, .ref pQ, .ref pG, .long tot, .int (bI pd), .int (bI gd)])), (h0, .inr (4, [.int kind, .int rises, .long total, .long going, .long width, .int cf, .int ct])), (pR, .inr (2, [.ref aw, .ref ar, .ref ab, .int (nI rc)])), (aw, .inl (cw, 40, .inl fw)), (ar, .inl (cr, 8, .inl fr)), (ab, .inl (cb, 8, .inl fb)), (pQ, .inr (5, [.long rn, .long rd]))] = A at hD ⊢
  have hS : va_S A s.heap s.heap [] := va_S.rf
  have hP : va_P (dC, dI) vCl [(p0, .inr (0, [.ref pT, .ref pR, .ref pS, .ref pF, .ref h0, .ref pQ, .ref pG, .long tot, .int (bI pd), .int (bI gd)])), (h0, .inr (4, [.int kind, .int rises, .long total, .long going, .long width, .int cf, .int ct])), (pR, .inr (2, [.ref aw, .ref ar, .ref ab, .int (nI rc)])), (aw, .inl (cw, 40, .inl fw)), (ar, .inl (cr, 8, .inl fr)), (ab, .inl (cb, 8, .inl fb)), (pQ, .inr (5, [.long rn, .long rd]))] s.heap := hP
  have hl := lv_entry ([.ref p0, .int k1, .long g1, .long w1]) (n := 9) (Nat.le_of_ble_eq_true rfl)
  rw [lg_entry_eq]
  generalize (lg_sl ([.ref p0, .int k1, .long g1, .long w1]) ++ List.replicate (9 - (lg_sl ([.ref p0, .int k1, .long g1, .long w1])).length) Slot.unset).toArray = ls at hl ⊢
  have hl : lv_has ls 9 [(0, .ref p0), (1, .int k1), (2, .long g1), (4, .long w1)] := hl
  have loop : ∀ (n : Nat) (j : Nat) (mh : Int32) (rz : Int32) (cz : Int32) (tz : Int32) (hk : n + j = 61) (hJ : runF fw fr fb rc k1 tot g1 w1 n j = j9) (hM : runM fw fr fb rc k1 tot g1 w1 n j mh = runM fw fr fb rc k1 tot g1 w1 (61 - fewN k1) (fewN k1) 0) (hz : j = 61 → rz = nI 60 ∧ cz = dcf k1 (nI 60) ∧ tz = dct k1 (nI 60)) (H : Heap) (locs : List Loc) (hP : va_P (dC, dI) vCl [(p0, .inr (0, [.ref pT, .ref pR, .ref pS, .ref pF, .ref h0, .ref pQ, .ref pG, .long tot, .int (bI false), .int (bI false)])), (h0, .inr (4, [.int k1, .int rz, .long tot, .long g1, .long w1, .int cz, .int tz])), (pR, .inr (2, [.ref aw, .ref ar, .ref ab, .int (nI rc)])), (aw, .inl (cw, 40, .inl fw)), (ar, .inl (cr, 8, .inl fr)), (ab, .inl (cb, 8, .inl fb)), (pQ, .inr (5, [.long rn, .long rd]))] H) (hD : va_D A [(p0, .inr (0, [.ref pT, .ref pR, .ref pS, .ref pF, .ref h0, .ref pQ, .ref pG, .long tot, .int (bI false), .int (bI false)])), (h0, .inr (4, [.int k1, .int rz, .long tot, .long g1, .long w1, .int cz, .int tz])), (pR, .inr (2, [.ref aw, .ref ar, .ref ab, .int (nI rc)])), (aw, .inl (cw, 40, .inl fw)), (ar, .inl (cr, 8, .inl fr)), (ab, .inl (cb, 8, .inl fb)), (pQ, .inr (5, [.long rn, .long rd]))]) (hS : va_S A s.heap H locs) (ls : Array Slot), lv_has ls 9 [(7, .int (nI j)), (6, .int mh), (4, .long w1), (2, .long g1), (1, .int k1), (0, .ref p0)] → W p l e (headSpec wP_run ({ frames := 3, cells := 0, slots := 0, locals := 72 })).room s m ([.ref p0, .int k1, .long g1, .long w1] : List Value).toArray below meth c H locs 0 0 (MQ below (tq_W (dC, dI) vCl (some (.int (nI j9))) [(p0, .inr (0, [.ref pT, .ref pR, .ref pS, .ref pF, .ref h0, .ref pQ, .ref pG, .long tot, .int (bI pd), .int (bI gd)])), (h0, .inr (4, [.int kind, .int rises, .long total, .long going, .long width, .int cf, .int ct])), (pR, .inr (2, [.ref aw, .ref ar, .ref ab, .int (nI rc)])), (aw, .inl (cw, 40, .inl fw)), (ar, .inl (cr, 8, .inl fr)), (ab, .inl (cb, 8, .inl fb)), (pQ, .inr (5, [.long rn, .long rd]))] [(p0, .inr (0, [.ref pT, .ref pR, .ref pS, .ref pF, .ref h0, .ref pQ, .ref pG, .long tot, .int (bI true), .int (bI false)])), (h0, .inr (4, [.int k1, .int (nI j9), .long tot, .long g1, .long w1, .int (dcf k1 (nI j9)), .int (dct k1 (nI j9))])), (pR, .inr (2, [.ref aw, .ref ar, .ref ab, .int (nI rc)])), (aw, .inl (cw, 40, .inl fw)), (ar, .inl (cr, 8, .inl fr)), (ab, .inl (cb, 8, .inl fb)), (pQ, .inr (5, [.long (fQ_take_c0f0 rn rd tot (nI j9).toInt64), .long (fQ_take_c0f1 rn rd tot (nI j9).toInt64)]))]) ([.ref p0, .int k1, .long g1, .long w1] : List Value).toArray s 0 0 A) (F0 m 110 ls []) := by
    intro n
    induction n with
    | zero =>
      intro j mh rz cz tz hk hJ hM hz H locs hP hD hS ls hl
      refine lv_iload hx hb dP_run_110 (lv_at hl 0 rfl) ?_
      refine lv_bipush (v := 60) hx hb dP_run_112 (by decide) ?_
      refine lv_icmp_gt (tgt := 188) hx hb dP_run_114 (by decide) (fun c_1 => ?_) (fun c_1 => absurd (by rw [show j = 61 by omega]; decide) c_1)
      refine lv_iconst (v := (-1)) hx hb dP_run_188 (by decide) ?_
      refine lv_iload hx hb dP_run_189 (lv_at hl 1 rfl) ?_
      refine lv_isub hx hb dP_run_191 ?_
      exact absurd (show j = j9 from hJ) (by omega)
    | succ n ih =>
      intro j mh rz cz tz hk hJ hM hz H locs hP hD hS ls hl
      refine lv_iload hx hb dP_run_110 (lv_at hl 0 rfl) ?_
      refine lv_bipush (v := 60) hx hb dP_run_112 (by decide) ?_
      refine lv_icmp_gt (tgt := 188) hx hb dP_run_114 (by decide) (fun c_2 => absurd c_2 ((nI_nlt (by omega) (by decide) : ¬ nI 60 < nI j))) (fun c_2 => ?_)
      refine lv_aload_n hx hb dP_run_117 rfl (lv_at hl 5 rfl) ?_
      refine va_get (D := (dC, dI)) (ci := 0) (v := .ref h0) (C := RP) (T := TP) (N := 10) hx hb hts inP hown hK hP 0 rfl rfl 4 (by decide) (hts _ gw_103) (fun _ h9 => h9) rfl dP_run_118 ?_
      refine lv_iload hx hb dP_run_121 (lv_at hl 0 rfl) ?_
      refine tc_go (st1 := []) (ws' := [(p0, .inr (0, [.ref pT, .ref pR, .ref pS, .ref pF, .ref h0, .ref pQ, .ref pG, .long tot, .int (bI false), .int (bI false)])), (h0, .inr (4, [.int k1, .int (nI j), .long tot, .long g1, .long w1, .int (dcf k1 (nI j)), .int (dct k1 (nI j))])), (pR, .inr (2, [.ref aw, .ref ar, .ref ab, .int (nI rc)])), (aw, .inl (cw, 40, .inl fw)), (ar, .inl (cr, 8, .inl fr)), (ab, .inl (cb, 8, .inl fb)), (pQ, .inr (5, [.long rn, .long rd]))]) (va_runV (As := [.int (nI j)]) (rest := []) (C := RA) ⟨hx, hb, hml, hown, hts⟩ (c_A_divide l dC dI h0 k1 rz tot g1 w1 cz tz (nI j)) ⟨cB 1 hts gw_330 gw_5 gw_327 ndA_divide rfl rfl ⟨Nat.le_of_ble_eq_true rfl, Nat.le_of_ble_eq_true rfl⟩, hts _ gw_328, hts _ gw_329⟩ (tp_Wv hN hK hP hD [1] [] rfl (by decide) rfl (q0 := 1) (ci := 4) rfl rfl) rfl rfl hl.1 rfl (lv_room (Nat.le_of_ble_eq_true rfl)) dP_run_123 ⟨Nat.le_of_ble_eq_true rfl, Nat.le_of_ble_eq_true rfl⟩) rfl hP hD hS [1] rfl rfl rfl (fun H locs hP hD hS => ?_)
      have hP : va_P (dC, dI) vCl [(p0, .inr (0, [.ref pT, .ref pR, .ref pS, .ref pF, .ref h0, .ref pQ, .ref pG, .long tot, .int (bI false), .int (bI false)])), (h0, .inr (4, [.int k1, .int (nI j), .long tot, .long g1, .long w1, .int (dcf k1 (nI j)), .int (dct k1 (nI j))])), (pR, .inr (2, [.ref aw, .ref ar, .ref ab, .int (nI rc)])), (aw, .inl (cw, 40, .inl fw)), (ar, .inl (cr, 8, .inl fr)), (ab, .inl (cb, 8, .inl fb)), (pQ, .inr (5, [.long rn, .long rd]))] H := hP
      have hD : va_D A [(p0, .inr (0, [.ref pT, .ref pR, .ref pS, .ref pF, .ref h0, .ref pQ, .ref pG, .long tot, .int (bI false), .int (bI false)])), (h0, .inr (4, [.int k1, .int (nI j), .long tot, .long g1, .long w1, .int (dcf k1 (nI j)), .int (dct k1 (nI j))])), (pR, .inr (2, [.ref aw, .ref ar, .ref ab, .int (nI rc)])), (aw, .inl (cw, 40, .inl fw)), (ar, .inl (cr, 8, .inl fr)), (ab, .inl (cb, 8, .inl fb)), (pQ, .inr (5, [.long rn, .long rd]))] := hD
      refine lv_aload_n hx hb dP_run_126 rfl (lv_at hl 5 rfl) ?_
      refine va_get (D := (dC, dI)) (ci := 0) (v := .ref pR) (C := RP) (T := TP) (N := 10) hx hb hts inP hown hK hP 0 rfl rfl 1 (by decide) (hts _ gw_100) (fun _ h9 => h9) rfl dP_run_127 ?_
      refine lv_aload_n hx hb dP_run_130 rfl (lv_at hl 5 rfl) ?_
      refine va_get (D := (dC, dI)) (ci := 0) (v := .ref h0) (C := RP) (T := TP) (N := 10) hx hb hts inP hown hK hP 0 rfl rfl 4 (by decide) (hts _ gw_103) (fun _ h9 => h9) rfl dP_run_131 ?_
      refine tr_go (st1 := [.int (fS_held fw fr fb rc k1 (nI j) tot g1 w1 (dcf k1 (nI j)) (dct k1 (nI j)))]) (va_runV (As := [.ref h0]) (rest := []) (C := RS) ⟨hx, hb, hml, hown, hts⟩ (c_S_held l dC dI pR aw ar ab cw cr cb fw fr fb rc h0 k1 (nI j) tot g1 w1 (dcf k1 (nI j)) (dct k1 (nI j)) (by assumption)) ⟨cB 1 hts gw_347 gw_3 gw_344 ndS_heldFromFirst rfl rfl ⟨Nat.le_of_ble_eq_true rfl, Nat.le_of_ble_eq_true rfl⟩, hts _ gw_345, hts _ gw_346⟩ (tp_Rv hN hK hP [2, 3, 4, 5, 1] [0, 1, 2] rfl rfl (q0 := 2) (ci := 2) rfl rfl) rfl rfl hl.1 rfl (lv_room (Nat.le_of_ble_eq_true rfl)) dP_run_134 ⟨Nat.le_of_ble_eq_true rfl, Nat.le_of_ble_eq_true rfl⟩) rfl ?_
      refine lv_istore (lv' := [(8, .int (fS_held fw fr fb rc k1 (nI j) tot g1 w1 (dcf k1 (nI j)) (dct k1 (nI j)))), (7, .int (nI j)), (6, .int mh), (4, .long w1), (2, .long g1), (1, .int k1), (0, .ref p0)]) hx hb dP_run_137 hl (by decide) rfl (fun ls hl => ?_)
      refine lv_iload hx hb dP_run_139 (lv_at hl 0 rfl) ?_
      refine lv_aload_n hx hb dP_run_141 rfl (lv_at hl 6 rfl) ?_
      refine va_get (D := (dC, dI)) (ci := 0) (v := .ref pR) (C := RP) (T := TP) (N := 10) hx hb hts inP hown hK hP 0 rfl rfl 1 (by decide) (hts _ gw_100) (fun _ h9 => h9) rfl dP_run_142 ?_
      refine va_getN (D := (dC, dI)) (ci := 2) (v := .int (nI rc)) (C := RS) (T := TS) (N := 4) hx hb hts inS hown hK hP 2 rfl rfl 3 (by decide) (va_Nw.use rfl (hN _ nw_3 rfl)) (fun _ h9 => h9) rfl dP_run_145 ?_
      refine lv_icmp_ne (tgt := 173) hx hb dP_run_148 (by decide) (fun c_3 => ?_) (fun c_3 => ?_)
      · skip
        refine lv_iload hx hb dP_run_173 (lv_at hl 2 rfl) ?_
        refine lv_iload hx hb dP_run_175 (lv_at hl 0 rfl) ?_
        refine va_mmax hx hb (hml.trans hl.1.symm) hown (hts _ gw_362) (hts _ gw_182) (hts _ gw_14) (hts _ gw_183) (Nat.le_of_ble_eq_true rfl) (Nat.le_of_ble_eq_true rfl) (Nat.le_of_ble_eq_true rfl) (Nat.le_of_ble_eq_true rfl) dP_run_177 ?_
        refine lv_istore (lv' := [(6, .int (if mh < (fS_held fw fr fb rc k1 (nI j) tot g1 w1 (dcf k1 (nI j)) (dct k1 (nI j))) then (fS_held fw fr fb rc k1 (nI j) tot g1 w1 (dcf k1 (nI j)) (dct k1 (nI j))) else mh)), (8, .int (fS_held fw fr fb rc k1 (nI j) tot g1 w1 (dcf k1 (nI j)) (dct k1 (nI j)))), (7, .int (nI j)), (4, .long w1), (2, .long g1), (1, .int k1), (0, .ref p0)]) hx hb dP_run_180 hl (by decide) rfl (fun ls hl => ?_)
        refine lv_iinc (v := nI (j + 1)) (lv' := [(7, .int (nI (j + 1))), (6, .int (if mh < (fS_held fw fr fb rc k1 (nI j) tot g1 w1 (dcf k1 (nI j)) (dct k1 (nI j))) then (fS_held fw fr fb rc k1 (nI j) tot g1 w1 (dcf k1 (nI j)) (dct k1 (nI j))) else mh)), (8, .int (fS_held fw fr fb rc k1 (nI j) tot g1 w1 (dcf k1 (nI j)) (dct k1 (nI j)))), (4, .long w1), (2, .long g1), (1, .int k1), (0, .ref p0)]) hx hb dP_run_182 hl (k := 2) rfl (by rw [nI_succ]; rfl) (by decide) rfl (fun ls hl => ?_)
        refine lv_goto (tgt := 110) hx hb dP_run_185 (by decide) ?_
        exact ih (j + 1) (if mh < (fS_held fw fr fb rc k1 (nI j) tot g1 w1 (dcf k1 (nI j)) (dct k1 (nI j))) then (fS_held fw fr fb rc k1 (nI j) tot g1 w1 (dcf k1 (nI j)) (dct k1 (nI j))) else mh) (nI j) (dcf k1 (nI j)) (dct k1 (nI j)) (by omega) (by rw [runF, runH, if_neg c_3] at hJ; exact hJ) (by rw [runM] at hM; exact hM) (fun h9 => by rw [show j = 60 from (by omega)]; exact ⟨rfl, rfl, rfl⟩) _ _ hP hD hS ls (lv_sub hl [0, 1, 3, 4, 5, 6] rfl)
      · skip
        refine lv_aload_n hx hb dP_run_151 rfl (lv_at hl 6 rfl) ?_
        refine lv_iconst (v := 1) hx hb dP_run_152 (by decide) ?_
        refine va_put (D := (dC, dI)) (ci := 0) (v := .int 1) (ty := .boolean) (C := RP) (T := TP) (N := 10) hx hb hts inP yP yoP noP hown hK hP hD hS 0 rfl rfl 8 (by decide) (hts _ gw_107) (fun _ h9 => h9) rfl (by decide +kernel) rfl rfl (Nat.le_of_ble_eq_true rfl) dP_run_153 (fun H locs hP hD hS => ?_)
        have hP : va_P (dC, dI) vCl [(p0, .inr (0, [.ref pT, .ref pR, .ref pS, .ref pF, .ref h0, .ref pQ, .ref pG, .long tot, .int 1, .int (bI false)])), (h0, .inr (4, [.int k1, .int (nI j), .long tot, .long g1, .long w1, .int (dcf k1 (nI j)), .int (dct k1 (nI j))])), (pR, .inr (2, [.ref aw, .ref ar, .ref ab, .int (nI rc)])), (aw, .inl (cw, 40, .inl fw)), (ar, .inl (cr, 8, .inl fr)), (ab, .inl (cb, 8, .inl fb)), (pQ, .inr (5, [.long rn, .long rd]))] H := hP
        have hD : va_D A [(p0, .inr (0, [.ref pT, .ref pR, .ref pS, .ref pF, .ref h0, .ref pQ, .ref pG, .long tot, .int 1, .int (bI false)])), (h0, .inr (4, [.int k1, .int (nI j), .long tot, .long g1, .long w1, .int (dcf k1 (nI j)), .int (dct k1 (nI j))])), (pR, .inr (2, [.ref aw, .ref ar, .ref ab, .int (nI rc)])), (aw, .inl (cw, 40, .inl fw)), (ar, .inl (cr, 8, .inl fr)), (ab, .inl (cb, 8, .inl fb)), (pQ, .inr (5, [.long rn, .long rd]))] := hD
        refine lv_aload_n hx hb dP_run_156 rfl (lv_at hl 6 rfl) ?_
        refine va_get (D := (dC, dI)) (ci := 0) (v := .ref pQ) (C := RP) (T := TP) (N := 10) hx hb hts inP hown hK hP 0 rfl rfl 5 (by decide) (hts _ gw_104) (fun _ h9 => h9) rfl dP_run_157 ?_
        refine lv_aload_n hx hb dP_run_160 rfl (lv_at hl 6 rfl) ?_
        refine va_get (D := (dC, dI)) (ci := 0) (v := .long tot) (C := RP) (T := TP) (N := 10) hx hb hts inP hown hK hP 0 rfl rfl 7 (by decide) (hts _ gw_106) (fun _ h9 => h9) rfl dP_run_161 ?_
        refine lv_iload hx hb dP_run_164 (lv_at hl 1 rfl) ?_
        refine lv_i2l (v := (nI j).toInt64) hx hb dP_run_166 rfl ?_
        refine tc_go (st1 := []) (ws' := [(p0, .inr (0, [.ref pT, .ref pR, .ref pS, .ref pF, .ref h0, .ref pQ, .ref pG, .long tot, .int 1, .int (bI false)])), (h0, .inr (4, [.int k1, .int (nI j), .long tot, .long g1, .long w1, .int (dcf k1 (nI j)), .int (dct k1 (nI j))])), (pR, .inr (2, [.ref aw, .ref ar, .ref ab, .int (nI rc)])), (aw, .inl (cw, 40, .inl fw)), (ar, .inl (cr, 8, .inl fr)), (ab, .inl (cb, 8, .inl fb)), (pQ, .inr (5, [.long (fQ_take_c0f0 rn rd tot ((nI j).toInt64)), .long (fQ_take_c0f1 rn rd tot ((nI j).toInt64))]))]) (va_runV (As := [.long tot, .long ((nI j).toInt64)]) (rest := []) (C := RQ) ⟨hx, hb, hml, hown, hts⟩ (c_Q_take l dC dI pQ rn rd tot ((nI j).toInt64)) ⟨cB 2 hts gw_358 gw_6 gw_355 ndQ_take rfl rfl ⟨Nat.le_of_ble_eq_true rfl, Nat.le_of_ble_eq_true rfl⟩, hts _ gw_356, hts _ gw_357⟩ (tp_Wv hN hK hP hD [6] [] rfl (by decide) rfl (q0 := 6) (ci := 5) rfl rfl) rfl rfl hl.1 rfl (lv_room (Nat.le_of_ble_eq_true rfl)) dP_run_167 ⟨Nat.le_of_ble_eq_true rfl, Nat.le_of_ble_eq_true rfl⟩) rfl hP hD hS [6] rfl rfl rfl (fun H locs hP hD hS => ?_)
        have hP : va_P (dC, dI) vCl [(p0, .inr (0, [.ref pT, .ref pR, .ref pS, .ref pF, .ref h0, .ref pQ, .ref pG, .long tot, .int 1, .int (bI false)])), (h0, .inr (4, [.int k1, .int (nI j), .long tot, .long g1, .long w1, .int (dcf k1 (nI j)), .int (dct k1 (nI j))])), (pR, .inr (2, [.ref aw, .ref ar, .ref ab, .int (nI rc)])), (aw, .inl (cw, 40, .inl fw)), (ar, .inl (cr, 8, .inl fr)), (ab, .inl (cb, 8, .inl fb)), (pQ, .inr (5, [.long (fQ_take_c0f0 rn rd tot ((nI j).toInt64)), .long (fQ_take_c0f1 rn rd tot ((nI j).toInt64))]))] H := hP
        have hD : va_D A [(p0, .inr (0, [.ref pT, .ref pR, .ref pS, .ref pF, .ref h0, .ref pQ, .ref pG, .long tot, .int 1, .int (bI false)])), (h0, .inr (4, [.int k1, .int (nI j), .long tot, .long g1, .long w1, .int (dcf k1 (nI j)), .int (dct k1 (nI j))])), (pR, .inr (2, [.ref aw, .ref ar, .ref ab, .int (nI rc)])), (aw, .inl (cw, 40, .inl fw)), (ar, .inl (cr, 8, .inl fr)), (ab, .inl (cb, 8, .inl fb)), (pQ, .inr (5, [.long (fQ_take_c0f0 rn rd tot ((nI j).toInt64)), .long (fQ_take_c0f1 rn rd tot ((nI j).toInt64))]))] := hD
        refine lv_iload hx hb dP_run_170 (lv_at hl 1 rfl) ?_
        have ej : runF fw fr fb rc k1 tot g1 w1 (n + 1) j = j := by rw [runF, runH, if_pos c_3]
        have ej2 : j = j9 := ej.symm.trans hJ
        subst ej2
        exact W.iret (v := nI j) hx hb hr (fun t ht hW => ⟨rfl, by rw [ht]; exact hP, by rw [hAe]; exact hS.F ht⟩) hS.2.2 dP_run_172
  refine lv_aload_n hx hb dP_run_0 rfl (lv_at hl 0 rfl) ?_
  refine va_get (D := (dC, dI)) (ci := 0) (v := .ref pR) (C := RP) (T := TP) (N := 10) hx hb hts inP hown hK hP 0 rfl rfl 1 (by decide) (hts _ gw_100) (fun _ h9 => h9) rfl dP_run_1 ?_
  refine va_getN (D := (dC, dI)) (ci := 2) (v := .int (nI rc)) (C := RS) (T := TS) (N := 4) hx hb hts inS hown hK hP 2 rfl rfl 3 (by decide) (va_Nw.use rfl (hN _ nw_3 rfl)) (fun _ h9 => h9) rfl dP_run_4 ?_
  refine lv_if_ne (tgt := 20) hx hb dP_run_7 (by decide) (fun c_4 => ?_) (fun c_4 => ?_)
  · skip
    refine lv_iload_n hx hb dP_run_20 rfl (lv_at hl 1 rfl) ?_
    refine lv_if_lt (tgt := 29) hx hb dP_run_21 (by decide) (fun c_5 => ?_) (fun c_5 => ?_)
    · skip
      exact absurd (hx9.symm.trans (show xP_run tot pd gd fw fr fb rc kind rises total going width cf ct rn rd k1 g1 w1 = 2 from by unfold xP_run; rw [if_neg c_4, if_pos c_5])) (by decide)
    · skip
      refine lv_iload_n hx hb dP_run_24 rfl (lv_at hl 1 rfl) ?_
      refine lv_iconst (v := 2) hx hb dP_run_25 (by decide) ?_
      refine lv_icmp_le (tgt := 39) hx hb dP_run_26 (by decide) (fun c_6 => ?_) (fun c_6 => ?_)
      · skip
        refine lv_lload_n hx hb dP_run_39 rfl (lv_at hl 2 rfl) ?_
        refine lv_lconst (v := 1) hx hb dP_run_40 (by decide) ?_
        refine tl_lt (tgt := 69) hx hb dP_run_41 dP_run_42 (by decide) (fun c_7 => ?_) (fun c_7 => ?_)
        · skip
          exact absurd (hx9.symm.trans (show xP_run tot pd gd fw fr fb rc kind rises total going width cf ct rn rd k1 g1 w1 = 2 from by unfold xP_run; rw [if_neg c_4, if_neg c_5, if_pos c_6, if_pos c_7])) (by decide)
        · skip
          refine lv_lload_n hx hb dP_run_45 rfl (lv_at hl 2 rfl) ?_
          refine lv_ldc2 (v := 10000) hx hb hown (hts _ gw_318) dP_run_46 ?_
          refine tl_gt (tgt := 69) hx hb dP_run_49 dP_run_50 (by decide) (fun c_8 => ?_) (fun c_8 => ?_)
          · skip
            exact absurd (hx9.symm.trans (show xP_run tot pd gd fw fr fb rc kind rises total going width cf ct rn rd k1 g1 w1 = 2 from by unfold xP_run; rw [if_neg c_4, if_neg c_5, if_pos c_6, if_neg c_7, if_pos c_8])) (by decide)
          · skip
            refine lv_lload hx hb dP_run_53 (lv_at hl 3 rfl) ?_
            refine lv_lconst (v := 1) hx hb dP_run_55 (by decide) ?_
            refine tl_lt (tgt := 69) hx hb dP_run_56 dP_run_57 (by decide) (fun c_9 => ?_) (fun c_9 => ?_)
            · skip
              exact absurd (hx9.symm.trans (show xP_run tot pd gd fw fr fb rc kind rises total going width cf ct rn rd k1 g1 w1 = 2 from by unfold xP_run; rw [if_neg c_4, if_neg c_5, if_pos c_6, if_neg c_7, if_neg c_8, if_pos c_9])) (by decide)
            · skip
              refine lv_lload hx hb dP_run_60 (lv_at hl 3 rfl) ?_
              refine lv_ldc2 (v := 10000) hx hb hown (hts _ gw_318) dP_run_62 ?_
              refine tl_le (tgt := 79) hx hb dP_run_65 dP_run_66 (by decide) (fun c_10 => ?_) (fun c_10 => ?_)
              · skip
                refine lv_aload_n hx hb dP_run_79 rfl (lv_at hl 0 rfl) ?_
                refine tc_go (st1 := []) (ws' := [(p0, .inr (0, [.ref pT, .ref pR, .ref pS, .ref pF, .ref h0, .ref pQ, .ref pG, .long tot, .int (bI false), .int (bI false)])), (h0, .inr (4, [.int kind, .int rises, .long total, .long going, .long width, .int cf, .int ct])), (pR, .inr (2, [.ref aw, .ref ar, .ref ab, .int (nI rc)])), (aw, .inl (cw, 40, .inl fw)), (ar, .inl (cr, 8, .inl fr)), (ab, .inl (cb, 8, .inl fb)), (pQ, .inr (5, [.long rn, .long rd]))]) (va_runV (As := []) (rest := []) (C := RP) ⟨hx, hb, hml, hown, hts⟩ (c_P_forget l dC dI p0 pT pR pS pF h0 pQ pG tot pd gd) ⟨cB 0 hts gw_239 gw_1 gw_237 ndP_forgetPlan rfl rfl ⟨Nat.le_of_ble_eq_true rfl, Nat.le_of_ble_eq_true rfl⟩, hts _ gw_238, hts _ gw_748⟩ (tp_Wv hN hK hP hD [0] [] rfl (by decide) rfl (q0 := 0) (ci := 0) rfl rfl) rfl rfl hl.1 rfl (lv_room (Nat.le_of_ble_eq_true rfl)) dP_run_80 ⟨Nat.le_of_ble_eq_true rfl, Nat.le_of_ble_eq_true rfl⟩) rfl hP hD hS [0] rfl rfl rfl (fun H locs hP hD hS => ?_)
                have hP : va_P (dC, dI) vCl [(p0, .inr (0, [.ref pT, .ref pR, .ref pS, .ref pF, .ref h0, .ref pQ, .ref pG, .long tot, .int (bI false), .int (bI false)])), (h0, .inr (4, [.int kind, .int rises, .long total, .long going, .long width, .int cf, .int ct])), (pR, .inr (2, [.ref aw, .ref ar, .ref ab, .int (nI rc)])), (aw, .inl (cw, 40, .inl fw)), (ar, .inl (cr, 8, .inl fr)), (ab, .inl (cb, 8, .inl fb)), (pQ, .inr (5, [.long rn, .long rd]))] H := hP
                have hD : va_D A [(p0, .inr (0, [.ref pT, .ref pR, .ref pS, .ref pF, .ref h0, .ref pQ, .ref pG, .long tot, .int (bI false), .int (bI false)])), (h0, .inr (4, [.int kind, .int rises, .long total, .long going, .long width, .int cf, .int ct])), (pR, .inr (2, [.ref aw, .ref ar, .ref ab, .int (nI rc)])), (aw, .inl (cw, 40, .inl fw)), (ar, .inl (cr, 8, .inl fr)), (ab, .inl (cb, 8, .inl fb)), (pQ, .inr (5, [.long rn, .long rd]))] := hD
                refine lv_aload_n hx hb dP_run_83 rfl (lv_at hl 0 rfl) ?_
                refine va_get (D := (dC, dI)) (ci := 0) (v := .ref h0) (C := RP) (T := TP) (N := 10) hx hb hts inP hown hK hP 0 rfl rfl 4 (by decide) (hts _ gw_103) (fun _ h9 => h9) rfl dP_run_84 ?_
                refine lv_iload_n hx hb dP_run_87 rfl (lv_at hl 1 rfl) ?_
                refine lv_aload_n hx hb dP_run_88 rfl (lv_at hl 0 rfl) ?_
                refine va_get (D := (dC, dI)) (ci := 0) (v := .long tot) (C := RP) (T := TP) (N := 10) hx hb hts inP hown hK hP 0 rfl rfl 7 (by decide) (hts _ gw_106) (fun _ h9 => h9) rfl dP_run_89 ?_
                refine lv_lload_n hx hb dP_run_92 rfl (lv_at hl 2 rfl) ?_
                refine lv_lload hx hb dP_run_93 (lv_at hl 3 rfl) ?_
                refine tc_go (st1 := []) (ws' := [(p0, .inr (0, [.ref pT, .ref pR, .ref pS, .ref pF, .ref h0, .ref pQ, .ref pG, .long tot, .int (bI false), .int (bI false)])), (h0, .inr (4, [.int k1, .int rises, .long tot, .long g1, .long w1, .int cf, .int ct])), (pR, .inr (2, [.ref aw, .ref ar, .ref ab, .int (nI rc)])), (aw, .inl (cw, 40, .inl fw)), (ar, .inl (cr, 8, .inl fr)), (ab, .inl (cb, 8, .inl fb)), (pQ, .inr (5, [.long rn, .long rd]))]) (va_runV (As := [.int k1, .long tot, .long g1, .long w1]) (rest := []) (C := RA) ⟨hx, hb, hml, hown, hts⟩ (c_A_measure l dC dI h0 kind rises total going width cf ct k1 tot g1 w1) ⟨cB 4 hts gw_322 gw_5 gw_319 ndA_measure rfl rfl ⟨Nat.le_of_ble_eq_true rfl, Nat.le_of_ble_eq_true rfl⟩, hts _ gw_320, hts _ gw_321⟩ (tp_Wv hN hK hP hD [1] [] rfl (by decide) rfl (q0 := 1) (ci := 4) rfl rfl) rfl rfl hl.1 rfl (lv_room (Nat.le_of_ble_eq_true rfl)) dP_run_95 ⟨Nat.le_of_ble_eq_true rfl, Nat.le_of_ble_eq_true rfl⟩) rfl hP hD hS [1] rfl rfl rfl (fun H locs hP hD hS => ?_)
                have hP : va_P (dC, dI) vCl [(p0, .inr (0, [.ref pT, .ref pR, .ref pS, .ref pF, .ref h0, .ref pQ, .ref pG, .long tot, .int (bI false), .int (bI false)])), (h0, .inr (4, [.int k1, .int rises, .long tot, .long g1, .long w1, .int cf, .int ct])), (pR, .inr (2, [.ref aw, .ref ar, .ref ab, .int (nI rc)])), (aw, .inl (cw, 40, .inl fw)), (ar, .inl (cr, 8, .inl fr)), (ab, .inl (cb, 8, .inl fb)), (pQ, .inr (5, [.long rn, .long rd]))] H := hP
                have hD : va_D A [(p0, .inr (0, [.ref pT, .ref pR, .ref pS, .ref pF, .ref h0, .ref pQ, .ref pG, .long tot, .int (bI false), .int (bI false)])), (h0, .inr (4, [.int k1, .int rises, .long tot, .long g1, .long w1, .int cf, .int ct])), (pR, .inr (2, [.ref aw, .ref ar, .ref ab, .int (nI rc)])), (aw, .inl (cw, 40, .inl fw)), (ar, .inl (cr, 8, .inl fr)), (ab, .inl (cb, 8, .inl fb)), (pQ, .inr (5, [.long rn, .long rd]))] := hD
                refine lv_iconst (v := 0) hx hb dP_run_98 (by decide) ?_
                refine lv_istore (lv' := [(6, .int 0), (0, .ref p0), (1, .int k1), (2, .long g1), (4, .long w1)]) hx hb dP_run_99 hl (by decide) rfl (fun ls hl => ?_)
                refine lv_aload_n hx hb dP_run_101 rfl (lv_at hl 1 rfl) ?_
                refine va_get (D := (dC, dI)) (ci := 0) (v := .ref h0) (C := RP) (T := TP) (N := 10) hx hb hts inP hown hK hP 0 rfl rfl 4 (by decide) (hts _ gw_103) (fun _ h9 => h9) rfl dP_run_102 ?_
                refine tr_go (st1 := [.int (fA_fewest k1 rises tot g1 w1 cf ct)]) (va_runV (As := []) (rest := []) (C := RA) ⟨hx, hb, hml, hown, hts⟩ (c_A_fewestRises l dC dI h0 k1 rises tot g1 w1 cf ct) ⟨cB 0 hts gw_326 gw_5 gw_323 ndA_fewestRises rfl rfl ⟨Nat.le_of_ble_eq_true rfl, Nat.le_of_ble_eq_true rfl⟩, hts _ gw_324, hts _ gw_325⟩ (tp_Rv hN hK hP [1] [] rfl rfl (q0 := 1) (ci := 4) rfl rfl) rfl rfl hl.1 rfl (lv_room (Nat.le_of_ble_eq_true rfl)) dP_run_105 ⟨Nat.le_of_ble_eq_true rfl, Nat.le_of_ble_eq_true rfl⟩) rfl ?_
                rw [fewN_e]
                refine lv_istore (lv' := [(7, .int (nI (fewN k1))), (6, .int 0), (0, .ref p0), (1, .int k1), (2, .long g1), (4, .long w1)]) hx hb dP_run_108 hl (by decide) rfl (fun ls hl => ?_)
                exact loop (61 - fewN k1) (fewN k1) 0 rises cf ct (by have := fewN_4 k1; omega) hJ9 rfl (fun h9 => by have := fewN_4 k1; omega) _ _ hP hD hS ls (lv_sub hl [0, 1, 5, 4, 3, 2] rfl)
              · skip
                exact absurd (hx9.symm.trans (show xP_run tot pd gd fw fr fb rc kind rises total going width cf ct rn rd k1 g1 w1 = 2 from by unfold xP_run; rw [if_neg c_4, if_neg c_5, if_pos c_6, if_neg c_7, if_neg c_8, if_neg c_9, if_neg c_10])) (by decide)
      · skip
        exact absurd (hx9.symm.trans (show xP_run tot pd gd fw fr fb rc kind rises total going width cf ct rn rd k1 g1 w1 = 2 from by unfold xP_run; rw [if_neg c_4, if_neg c_5, if_neg c_6])) (by decide)
  · skip
    exact absurd (hx9.symm.trans (show xP_run tot pd gd fw fr fb rc kind rises total going width cf ct rn rd k1 g1 w1 = 1 from by unfold xP_run; rw [if_pos c_4])) (by decide)


set_option maxHeartbeats 4000000 in
set_option maxRecDepth 100000 in
theorem c_P_run_none (l : Launch) (dC : Nat → ClassId) (dI : Nat → Nat → Nat) (p0 : Nat) (pT : Nat) (pR : Nat) (pS : Nat) (pF : Nat) (h0 : Nat) (pQ : Nat) (pG : Nat) (tot : Int64) (pd : Bool) (gd : Bool) (aw : Nat) (ar : Nat) (ab : Nat) (cw : ClassId) (cr : ClassId) (cb : ClassId) (fw : Nat → Int32) (fr : Nat → Int32) (fb : Nat → Int32) (rc : Nat) (kind : Int32) (rises : Int32) (total : Int64) (going : Int64) (width : Int64) (cf : Int32) (ct : Int32) (rn : Int64) (rd : Int64) (k1 : Int32) (g1 : Int64) (w1 : Int64) (hrc : rc ≤ 8) (hx9 : xP_run tot pd gd fw fr fb rc kind rises total going width cf ct rn rd k1 g1 w1 = 0) (hJ9 : runJ fw fr fb rc k1 tot g1 w1 = 61) : Met l mP_run wP_run ({ frames := 3, cells := 0, slots := 0, locals := 72 }) (tp_W (dC, dI) vCl [.ref p0, .int k1, .long g1, .long w1] [(p0, .inr (0, [.ref pT, .ref pR, .ref pS, .ref pF, .ref h0, .ref pQ, .ref pG, .long tot, .int (bI pd), .int (bI gd)])), (h0, .inr (4, [.int kind, .int rises, .long total, .long going, .long width, .int cf, .int ct])), (pR, .inr (2, [.ref aw, .ref ar, .ref ab, .int (nI rc)])), (aw, .inl (cw, 40, .inl fw)), (ar, .inl (cr, 8, .inl fr)), (ab, .inl (cb, 8, .inl fb)), (pQ, .inr (5, [.long rn, .long rd]))] [(cw, .int), (cr, .char), (cb, .int)]) (tq_W (dC, dI) vCl (some (.int ((-1) - runM fw fr fb rc k1 tot g1 w1 (61 - fewN k1) (fewN k1) 0))) [(p0, .inr (0, [.ref pT, .ref pR, .ref pS, .ref pF, .ref h0, .ref pQ, .ref pG, .long tot, .int (bI pd), .int (bI gd)])), (h0, .inr (4, [.int kind, .int rises, .long total, .long going, .long width, .int cf, .int ct])), (pR, .inr (2, [.ref aw, .ref ar, .ref ab, .int (nI rc)])), (aw, .inl (cw, 40, .inl fw)), (ar, .inl (cr, 8, .inl fr)), (ab, .inl (cb, 8, .inl fb)), (pQ, .inr (5, [.long rn, .long rd]))] [(p0, .inr (0, [.ref pT, .ref pR, .ref pS, .ref pF, .ref h0, .ref pQ, .ref pG, .long tot, .int (bI false), .int (bI false)])), (h0, .inr (4, [.int k1, .int (nI 60), .long tot, .long g1, .long w1, .int (dcf k1 (nI 60)), .int (dct k1 (nI 60))])), (pR, .inr (2, [.ref aw, .ref ar, .ref ab, .int (nI rc)])), (aw, .inl (cw, 40, .inl fw)), (ar, .inl (cr, 8, .inl fr)), (ab, .inl (cb, 8, .inl fb)), (pQ, .inr (5, [.long rn, .long rd]))]) 0 0 (tA [(p0, .inr (0, [.ref pT, .ref pR, .ref pS, .ref pF, .ref h0, .ref pQ, .ref pG, .long tot, .int (bI pd), .int (bI gd)])), (h0, .inr (4, [.int kind, .int rises, .long total, .long going, .long width, .int cf, .int ct])), (pR, .inr (2, [.ref aw, .ref ar, .ref ab, .int (nI rc)])), (aw, .inl (cw, 40, .inl fw)), (ar, .inl (cr, 8, .inl fr)), (ab, .inl (cb, 8, .inl fb)), (pQ, .inr (5, [.long rn, .long rd]))]) := by
  refine Met.ofW (cc := bP_run) (maxL := 9) (ret := (some .int)) (by decide) rfl ?_
  intro p e s m args below meth c s₁ B hml hv
  obtain ⟨rfl, hP, hK, hN, hD0⟩ := hv
  have hx := B.exec
  have hb := B.bytes
  have hr := B.returns
  have hts : ∀ w ∈ gT, w.before _ s = true := fun w h => atoms_spec (ws := wP_run) B.pre w (List.mem_cons_of_mem _ h)
  have hown : s.vm.findClass RP = some m.cls := findClass_of_methodNamed B.named
  have hlocks := B.notSynchronized
  have hD := tA_D hD0
  generalize hAe : tA [(p0, .inr (0, [.ref pT, .ref pR, .ref pS, .ref pF, .ref h0, .ref pQ, .ref pG, .long tot, .int (bI pd), .int (bI gd)])), (h0, .inr (4, [.int kind, .int rises, .long total, .long going, .long width, .int cf, .int ct])), (pR, .inr (2, [.ref aw, .ref ar, .ref ab, .int (nI rc)])), (aw, .inl (cw, 40, .inl fw)), (ar, .inl (cr, 8, .inl fr)), (ab, .inl (cb, 8, .inl fb)), (pQ, .inr (5, [.long rn, .long rd]))] = A at hD ⊢
  have hS : va_S A s.heap s.heap [] := va_S.rf
  have hP : va_P (dC, dI) vCl [(p0, .inr (0, [.ref pT, .ref pR, .ref pS, .ref pF, .ref h0, .ref pQ, .ref pG, .long tot, .int (bI pd), .int (bI gd)])), (h0, .inr (4, [.int kind, .int rises, .long total, .long going, .long width, .int cf, .int ct])), (pR, .inr (2, [.ref aw, .ref ar, .ref ab, .int (nI rc)])), (aw, .inl (cw, 40, .inl fw)), (ar, .inl (cr, 8, .inl fr)), (ab, .inl (cb, 8, .inl fb)), (pQ, .inr (5, [.long rn, .long rd]))] s.heap := hP
  have hl := lv_entry ([.ref p0, .int k1, .long g1, .long w1]) (n := 9) (Nat.le_of_ble_eq_true rfl)
  rw [lg_entry_eq]
  generalize (lg_sl ([.ref p0, .int k1, .long g1, .long w1]) ++ List.replicate (9 - (lg_sl ([.ref p0, .int k1, .long g1, .long w1])).length) Slot.unset).toArray = ls at hl ⊢
  have hl : lv_has ls 9 [(0, .ref p0), (1, .int k1), (2, .long g1), (4, .long w1)] := hl
  have loop : ∀ (n : Nat) (j : Nat) (mh : Int32) (rz : Int32) (cz : Int32) (tz : Int32) (hk : n + j = 61) (hJ : runF fw fr fb rc k1 tot g1 w1 n j = 61) (hM : runM fw fr fb rc k1 tot g1 w1 n j mh = runM fw fr fb rc k1 tot g1 w1 (61 - fewN k1) (fewN k1) 0) (hz : j = 61 → rz = nI 60 ∧ cz = dcf k1 (nI 60) ∧ tz = dct k1 (nI 60)) (H : Heap) (locs : List Loc) (hP : va_P (dC, dI) vCl [(p0, .inr (0, [.ref pT, .ref pR, .ref pS, .ref pF, .ref h0, .ref pQ, .ref pG, .long tot, .int (bI false), .int (bI false)])), (h0, .inr (4, [.int k1, .int rz, .long tot, .long g1, .long w1, .int cz, .int tz])), (pR, .inr (2, [.ref aw, .ref ar, .ref ab, .int (nI rc)])), (aw, .inl (cw, 40, .inl fw)), (ar, .inl (cr, 8, .inl fr)), (ab, .inl (cb, 8, .inl fb)), (pQ, .inr (5, [.long rn, .long rd]))] H) (hD : va_D A [(p0, .inr (0, [.ref pT, .ref pR, .ref pS, .ref pF, .ref h0, .ref pQ, .ref pG, .long tot, .int (bI false), .int (bI false)])), (h0, .inr (4, [.int k1, .int rz, .long tot, .long g1, .long w1, .int cz, .int tz])), (pR, .inr (2, [.ref aw, .ref ar, .ref ab, .int (nI rc)])), (aw, .inl (cw, 40, .inl fw)), (ar, .inl (cr, 8, .inl fr)), (ab, .inl (cb, 8, .inl fb)), (pQ, .inr (5, [.long rn, .long rd]))]) (hS : va_S A s.heap H locs) (ls : Array Slot), lv_has ls 9 [(7, .int (nI j)), (6, .int mh), (4, .long w1), (2, .long g1), (1, .int k1), (0, .ref p0)] → W p l e (headSpec wP_run ({ frames := 3, cells := 0, slots := 0, locals := 72 })).room s m ([.ref p0, .int k1, .long g1, .long w1] : List Value).toArray below meth c H locs 0 0 (MQ below (tq_W (dC, dI) vCl (some (.int ((-1) - runM fw fr fb rc k1 tot g1 w1 (61 - fewN k1) (fewN k1) 0))) [(p0, .inr (0, [.ref pT, .ref pR, .ref pS, .ref pF, .ref h0, .ref pQ, .ref pG, .long tot, .int (bI pd), .int (bI gd)])), (h0, .inr (4, [.int kind, .int rises, .long total, .long going, .long width, .int cf, .int ct])), (pR, .inr (2, [.ref aw, .ref ar, .ref ab, .int (nI rc)])), (aw, .inl (cw, 40, .inl fw)), (ar, .inl (cr, 8, .inl fr)), (ab, .inl (cb, 8, .inl fb)), (pQ, .inr (5, [.long rn, .long rd]))] [(p0, .inr (0, [.ref pT, .ref pR, .ref pS, .ref pF, .ref h0, .ref pQ, .ref pG, .long tot, .int (bI false), .int (bI false)])), (h0, .inr (4, [.int k1, .int (nI 60), .long tot, .long g1, .long w1, .int (dcf k1 (nI 60)), .int (dct k1 (nI 60))])), (pR, .inr (2, [.ref aw, .ref ar, .ref ab, .int (nI rc)])), (aw, .inl (cw, 40, .inl fw)), (ar, .inl (cr, 8, .inl fr)), (ab, .inl (cb, 8, .inl fb)), (pQ, .inr (5, [.long rn, .long rd]))]) ([.ref p0, .int k1, .long g1, .long w1] : List Value).toArray s 0 0 A) (F0 m 110 ls []) := by
    intro n
    induction n with
    | zero =>
      intro j mh rz cz tz hk hJ hM hz H locs hP hD hS ls hl
      refine lv_iload hx hb dP_run_110 (lv_at hl 0 rfl) ?_
      refine lv_bipush (v := 60) hx hb dP_run_112 (by decide) ?_
      refine lv_icmp_gt (tgt := 188) hx hb dP_run_114 (by decide) (fun c_1 => ?_) (fun c_1 => absurd (by rw [show j = 61 by omega]; decide) c_1)
      refine lv_iconst (v := (-1)) hx hb dP_run_188 (by decide) ?_
      refine lv_iload hx hb dP_run_189 (lv_at hl 1 rfl) ?_
      refine lv_isub hx hb dP_run_191 ?_
      obtain ⟨z1, z2, z3⟩ := hz (by omega)
      subst z1 z2 z3
      exact W.iret (v := (-1) - mh) hx hb hr (fun t ht hW => ⟨by rw [← hM, runM], by rw [ht]; exact hP, by rw [hAe]; exact hS.F ht⟩) hS.2.2 dP_run_192
    | succ n ih =>
      intro j mh rz cz tz hk hJ hM hz H locs hP hD hS ls hl
      refine lv_iload hx hb dP_run_110 (lv_at hl 0 rfl) ?_
      refine lv_bipush (v := 60) hx hb dP_run_112 (by decide) ?_
      refine lv_icmp_gt (tgt := 188) hx hb dP_run_114 (by decide) (fun c_2 => absurd c_2 ((nI_nlt (by omega) (by decide) : ¬ nI 60 < nI j))) (fun c_2 => ?_)
      refine lv_aload_n hx hb dP_run_117 rfl (lv_at hl 5 rfl) ?_
      refine va_get (D := (dC, dI)) (ci := 0) (v := .ref h0) (C := RP) (T := TP) (N := 10) hx hb hts inP hown hK hP 0 rfl rfl 4 (by decide) (hts _ gw_103) (fun _ h9 => h9) rfl dP_run_118 ?_
      refine lv_iload hx hb dP_run_121 (lv_at hl 0 rfl) ?_
      refine tc_go (st1 := []) (ws' := [(p0, .inr (0, [.ref pT, .ref pR, .ref pS, .ref pF, .ref h0, .ref pQ, .ref pG, .long tot, .int (bI false), .int (bI false)])), (h0, .inr (4, [.int k1, .int (nI j), .long tot, .long g1, .long w1, .int (dcf k1 (nI j)), .int (dct k1 (nI j))])), (pR, .inr (2, [.ref aw, .ref ar, .ref ab, .int (nI rc)])), (aw, .inl (cw, 40, .inl fw)), (ar, .inl (cr, 8, .inl fr)), (ab, .inl (cb, 8, .inl fb)), (pQ, .inr (5, [.long rn, .long rd]))]) (va_runV (As := [.int (nI j)]) (rest := []) (C := RA) ⟨hx, hb, hml, hown, hts⟩ (c_A_divide l dC dI h0 k1 rz tot g1 w1 cz tz (nI j)) ⟨cB 1 hts gw_330 gw_5 gw_327 ndA_divide rfl rfl ⟨Nat.le_of_ble_eq_true rfl, Nat.le_of_ble_eq_true rfl⟩, hts _ gw_328, hts _ gw_329⟩ (tp_Wv hN hK hP hD [1] [] rfl (by decide) rfl (q0 := 1) (ci := 4) rfl rfl) rfl rfl hl.1 rfl (lv_room (Nat.le_of_ble_eq_true rfl)) dP_run_123 ⟨Nat.le_of_ble_eq_true rfl, Nat.le_of_ble_eq_true rfl⟩) rfl hP hD hS [1] rfl rfl rfl (fun H locs hP hD hS => ?_)
      have hP : va_P (dC, dI) vCl [(p0, .inr (0, [.ref pT, .ref pR, .ref pS, .ref pF, .ref h0, .ref pQ, .ref pG, .long tot, .int (bI false), .int (bI false)])), (h0, .inr (4, [.int k1, .int (nI j), .long tot, .long g1, .long w1, .int (dcf k1 (nI j)), .int (dct k1 (nI j))])), (pR, .inr (2, [.ref aw, .ref ar, .ref ab, .int (nI rc)])), (aw, .inl (cw, 40, .inl fw)), (ar, .inl (cr, 8, .inl fr)), (ab, .inl (cb, 8, .inl fb)), (pQ, .inr (5, [.long rn, .long rd]))] H := hP
      have hD : va_D A [(p0, .inr (0, [.ref pT, .ref pR, .ref pS, .ref pF, .ref h0, .ref pQ, .ref pG, .long tot, .int (bI false), .int (bI false)])), (h0, .inr (4, [.int k1, .int (nI j), .long tot, .long g1, .long w1, .int (dcf k1 (nI j)), .int (dct k1 (nI j))])), (pR, .inr (2, [.ref aw, .ref ar, .ref ab, .int (nI rc)])), (aw, .inl (cw, 40, .inl fw)), (ar, .inl (cr, 8, .inl fr)), (ab, .inl (cb, 8, .inl fb)), (pQ, .inr (5, [.long rn, .long rd]))] := hD
      refine lv_aload_n hx hb dP_run_126 rfl (lv_at hl 5 rfl) ?_
      refine va_get (D := (dC, dI)) (ci := 0) (v := .ref pR) (C := RP) (T := TP) (N := 10) hx hb hts inP hown hK hP 0 rfl rfl 1 (by decide) (hts _ gw_100) (fun _ h9 => h9) rfl dP_run_127 ?_
      refine lv_aload_n hx hb dP_run_130 rfl (lv_at hl 5 rfl) ?_
      refine va_get (D := (dC, dI)) (ci := 0) (v := .ref h0) (C := RP) (T := TP) (N := 10) hx hb hts inP hown hK hP 0 rfl rfl 4 (by decide) (hts _ gw_103) (fun _ h9 => h9) rfl dP_run_131 ?_
      refine tr_go (st1 := [.int (fS_held fw fr fb rc k1 (nI j) tot g1 w1 (dcf k1 (nI j)) (dct k1 (nI j)))]) (va_runV (As := [.ref h0]) (rest := []) (C := RS) ⟨hx, hb, hml, hown, hts⟩ (c_S_held l dC dI pR aw ar ab cw cr cb fw fr fb rc h0 k1 (nI j) tot g1 w1 (dcf k1 (nI j)) (dct k1 (nI j)) (by assumption)) ⟨cB 1 hts gw_347 gw_3 gw_344 ndS_heldFromFirst rfl rfl ⟨Nat.le_of_ble_eq_true rfl, Nat.le_of_ble_eq_true rfl⟩, hts _ gw_345, hts _ gw_346⟩ (tp_Rv hN hK hP [2, 3, 4, 5, 1] [0, 1, 2] rfl rfl (q0 := 2) (ci := 2) rfl rfl) rfl rfl hl.1 rfl (lv_room (Nat.le_of_ble_eq_true rfl)) dP_run_134 ⟨Nat.le_of_ble_eq_true rfl, Nat.le_of_ble_eq_true rfl⟩) rfl ?_
      refine lv_istore (lv' := [(8, .int (fS_held fw fr fb rc k1 (nI j) tot g1 w1 (dcf k1 (nI j)) (dct k1 (nI j)))), (7, .int (nI j)), (6, .int mh), (4, .long w1), (2, .long g1), (1, .int k1), (0, .ref p0)]) hx hb dP_run_137 hl (by decide) rfl (fun ls hl => ?_)
      refine lv_iload hx hb dP_run_139 (lv_at hl 0 rfl) ?_
      refine lv_aload_n hx hb dP_run_141 rfl (lv_at hl 6 rfl) ?_
      refine va_get (D := (dC, dI)) (ci := 0) (v := .ref pR) (C := RP) (T := TP) (N := 10) hx hb hts inP hown hK hP 0 rfl rfl 1 (by decide) (hts _ gw_100) (fun _ h9 => h9) rfl dP_run_142 ?_
      refine va_getN (D := (dC, dI)) (ci := 2) (v := .int (nI rc)) (C := RS) (T := TS) (N := 4) hx hb hts inS hown hK hP 2 rfl rfl 3 (by decide) (va_Nw.use rfl (hN _ nw_3 rfl)) (fun _ h9 => h9) rfl dP_run_145 ?_
      refine lv_icmp_ne (tgt := 173) hx hb dP_run_148 (by decide) (fun c_3 => ?_) (fun c_3 => ?_)
      · skip
        refine lv_iload hx hb dP_run_173 (lv_at hl 2 rfl) ?_
        refine lv_iload hx hb dP_run_175 (lv_at hl 0 rfl) ?_
        refine va_mmax hx hb (hml.trans hl.1.symm) hown (hts _ gw_362) (hts _ gw_182) (hts _ gw_14) (hts _ gw_183) (Nat.le_of_ble_eq_true rfl) (Nat.le_of_ble_eq_true rfl) (Nat.le_of_ble_eq_true rfl) (Nat.le_of_ble_eq_true rfl) dP_run_177 ?_
        refine lv_istore (lv' := [(6, .int (if mh < (fS_held fw fr fb rc k1 (nI j) tot g1 w1 (dcf k1 (nI j)) (dct k1 (nI j))) then (fS_held fw fr fb rc k1 (nI j) tot g1 w1 (dcf k1 (nI j)) (dct k1 (nI j))) else mh)), (8, .int (fS_held fw fr fb rc k1 (nI j) tot g1 w1 (dcf k1 (nI j)) (dct k1 (nI j)))), (7, .int (nI j)), (4, .long w1), (2, .long g1), (1, .int k1), (0, .ref p0)]) hx hb dP_run_180 hl (by decide) rfl (fun ls hl => ?_)
        refine lv_iinc (v := nI (j + 1)) (lv' := [(7, .int (nI (j + 1))), (6, .int (if mh < (fS_held fw fr fb rc k1 (nI j) tot g1 w1 (dcf k1 (nI j)) (dct k1 (nI j))) then (fS_held fw fr fb rc k1 (nI j) tot g1 w1 (dcf k1 (nI j)) (dct k1 (nI j))) else mh)), (8, .int (fS_held fw fr fb rc k1 (nI j) tot g1 w1 (dcf k1 (nI j)) (dct k1 (nI j)))), (4, .long w1), (2, .long g1), (1, .int k1), (0, .ref p0)]) hx hb dP_run_182 hl (k := 2) rfl (by rw [nI_succ]; rfl) (by decide) rfl (fun ls hl => ?_)
        refine lv_goto (tgt := 110) hx hb dP_run_185 (by decide) ?_
        exact ih (j + 1) (if mh < (fS_held fw fr fb rc k1 (nI j) tot g1 w1 (dcf k1 (nI j)) (dct k1 (nI j))) then (fS_held fw fr fb rc k1 (nI j) tot g1 w1 (dcf k1 (nI j)) (dct k1 (nI j))) else mh) (nI j) (dcf k1 (nI j)) (dct k1 (nI j)) (by omega) (by rw [runF, runH, if_neg c_3] at hJ; exact hJ) (by rw [runM] at hM; exact hM) (fun h9 => by rw [show j = 60 from (by omega)]; exact ⟨rfl, rfl, rfl⟩) _ _ hP hD hS ls (lv_sub hl [0, 1, 3, 4, 5, 6] rfl)
      · skip
        refine lv_aload_n hx hb dP_run_151 rfl (lv_at hl 6 rfl) ?_
        refine lv_iconst (v := 1) hx hb dP_run_152 (by decide) ?_
        refine va_put (D := (dC, dI)) (ci := 0) (v := .int 1) (ty := .boolean) (C := RP) (T := TP) (N := 10) hx hb hts inP yP yoP noP hown hK hP hD hS 0 rfl rfl 8 (by decide) (hts _ gw_107) (fun _ h9 => h9) rfl (by decide +kernel) rfl rfl (Nat.le_of_ble_eq_true rfl) dP_run_153 (fun H locs hP hD hS => ?_)
        have hP : va_P (dC, dI) vCl [(p0, .inr (0, [.ref pT, .ref pR, .ref pS, .ref pF, .ref h0, .ref pQ, .ref pG, .long tot, .int 1, .int (bI false)])), (h0, .inr (4, [.int k1, .int (nI j), .long tot, .long g1, .long w1, .int (dcf k1 (nI j)), .int (dct k1 (nI j))])), (pR, .inr (2, [.ref aw, .ref ar, .ref ab, .int (nI rc)])), (aw, .inl (cw, 40, .inl fw)), (ar, .inl (cr, 8, .inl fr)), (ab, .inl (cb, 8, .inl fb)), (pQ, .inr (5, [.long rn, .long rd]))] H := hP
        have hD : va_D A [(p0, .inr (0, [.ref pT, .ref pR, .ref pS, .ref pF, .ref h0, .ref pQ, .ref pG, .long tot, .int 1, .int (bI false)])), (h0, .inr (4, [.int k1, .int (nI j), .long tot, .long g1, .long w1, .int (dcf k1 (nI j)), .int (dct k1 (nI j))])), (pR, .inr (2, [.ref aw, .ref ar, .ref ab, .int (nI rc)])), (aw, .inl (cw, 40, .inl fw)), (ar, .inl (cr, 8, .inl fr)), (ab, .inl (cb, 8, .inl fb)), (pQ, .inr (5, [.long rn, .long rd]))] := hD
        refine lv_aload_n hx hb dP_run_156 rfl (lv_at hl 6 rfl) ?_
        refine va_get (D := (dC, dI)) (ci := 0) (v := .ref pQ) (C := RP) (T := TP) (N := 10) hx hb hts inP hown hK hP 0 rfl rfl 5 (by decide) (hts _ gw_104) (fun _ h9 => h9) rfl dP_run_157 ?_
        refine lv_aload_n hx hb dP_run_160 rfl (lv_at hl 6 rfl) ?_
        refine va_get (D := (dC, dI)) (ci := 0) (v := .long tot) (C := RP) (T := TP) (N := 10) hx hb hts inP hown hK hP 0 rfl rfl 7 (by decide) (hts _ gw_106) (fun _ h9 => h9) rfl dP_run_161 ?_
        refine lv_iload hx hb dP_run_164 (lv_at hl 1 rfl) ?_
        refine lv_i2l (v := (nI j).toInt64) hx hb dP_run_166 rfl ?_
        refine tc_go (st1 := []) (ws' := [(p0, .inr (0, [.ref pT, .ref pR, .ref pS, .ref pF, .ref h0, .ref pQ, .ref pG, .long tot, .int 1, .int (bI false)])), (h0, .inr (4, [.int k1, .int (nI j), .long tot, .long g1, .long w1, .int (dcf k1 (nI j)), .int (dct k1 (nI j))])), (pR, .inr (2, [.ref aw, .ref ar, .ref ab, .int (nI rc)])), (aw, .inl (cw, 40, .inl fw)), (ar, .inl (cr, 8, .inl fr)), (ab, .inl (cb, 8, .inl fb)), (pQ, .inr (5, [.long (fQ_take_c0f0 rn rd tot ((nI j).toInt64)), .long (fQ_take_c0f1 rn rd tot ((nI j).toInt64))]))]) (va_runV (As := [.long tot, .long ((nI j).toInt64)]) (rest := []) (C := RQ) ⟨hx, hb, hml, hown, hts⟩ (c_Q_take l dC dI pQ rn rd tot ((nI j).toInt64)) ⟨cB 2 hts gw_358 gw_6 gw_355 ndQ_take rfl rfl ⟨Nat.le_of_ble_eq_true rfl, Nat.le_of_ble_eq_true rfl⟩, hts _ gw_356, hts _ gw_357⟩ (tp_Wv hN hK hP hD [6] [] rfl (by decide) rfl (q0 := 6) (ci := 5) rfl rfl) rfl rfl hl.1 rfl (lv_room (Nat.le_of_ble_eq_true rfl)) dP_run_167 ⟨Nat.le_of_ble_eq_true rfl, Nat.le_of_ble_eq_true rfl⟩) rfl hP hD hS [6] rfl rfl rfl (fun H locs hP hD hS => ?_)
        have hP : va_P (dC, dI) vCl [(p0, .inr (0, [.ref pT, .ref pR, .ref pS, .ref pF, .ref h0, .ref pQ, .ref pG, .long tot, .int 1, .int (bI false)])), (h0, .inr (4, [.int k1, .int (nI j), .long tot, .long g1, .long w1, .int (dcf k1 (nI j)), .int (dct k1 (nI j))])), (pR, .inr (2, [.ref aw, .ref ar, .ref ab, .int (nI rc)])), (aw, .inl (cw, 40, .inl fw)), (ar, .inl (cr, 8, .inl fr)), (ab, .inl (cb, 8, .inl fb)), (pQ, .inr (5, [.long (fQ_take_c0f0 rn rd tot ((nI j).toInt64)), .long (fQ_take_c0f1 rn rd tot ((nI j).toInt64))]))] H := hP
        have hD : va_D A [(p0, .inr (0, [.ref pT, .ref pR, .ref pS, .ref pF, .ref h0, .ref pQ, .ref pG, .long tot, .int 1, .int (bI false)])), (h0, .inr (4, [.int k1, .int (nI j), .long tot, .long g1, .long w1, .int (dcf k1 (nI j)), .int (dct k1 (nI j))])), (pR, .inr (2, [.ref aw, .ref ar, .ref ab, .int (nI rc)])), (aw, .inl (cw, 40, .inl fw)), (ar, .inl (cr, 8, .inl fr)), (ab, .inl (cb, 8, .inl fb)), (pQ, .inr (5, [.long (fQ_take_c0f0 rn rd tot ((nI j).toInt64)), .long (fQ_take_c0f1 rn rd tot ((nI j).toInt64))]))] := hD
        refine lv_iload hx hb dP_run_170 (lv_at hl 1 rfl) ?_
        have ej : runF fw fr fb rc k1 tot g1 w1 (n + 1) j = j := by rw [runF, runH, if_pos c_3]
        exact absurd (ej.symm.trans hJ) (by omega)
  refine lv_aload_n hx hb dP_run_0 rfl (lv_at hl 0 rfl) ?_
  refine va_get (D := (dC, dI)) (ci := 0) (v := .ref pR) (C := RP) (T := TP) (N := 10) hx hb hts inP hown hK hP 0 rfl rfl 1 (by decide) (hts _ gw_100) (fun _ h9 => h9) rfl dP_run_1 ?_
  refine va_getN (D := (dC, dI)) (ci := 2) (v := .int (nI rc)) (C := RS) (T := TS) (N := 4) hx hb hts inS hown hK hP 2 rfl rfl 3 (by decide) (va_Nw.use rfl (hN _ nw_3 rfl)) (fun _ h9 => h9) rfl dP_run_4 ?_
  refine lv_if_ne (tgt := 20) hx hb dP_run_7 (by decide) (fun c_4 => ?_) (fun c_4 => ?_)
  · skip
    refine lv_iload_n hx hb dP_run_20 rfl (lv_at hl 1 rfl) ?_
    refine lv_if_lt (tgt := 29) hx hb dP_run_21 (by decide) (fun c_5 => ?_) (fun c_5 => ?_)
    · skip
      exact absurd (hx9.symm.trans (show xP_run tot pd gd fw fr fb rc kind rises total going width cf ct rn rd k1 g1 w1 = 2 from by unfold xP_run; rw [if_neg c_4, if_pos c_5])) (by decide)
    · skip
      refine lv_iload_n hx hb dP_run_24 rfl (lv_at hl 1 rfl) ?_
      refine lv_iconst (v := 2) hx hb dP_run_25 (by decide) ?_
      refine lv_icmp_le (tgt := 39) hx hb dP_run_26 (by decide) (fun c_6 => ?_) (fun c_6 => ?_)
      · skip
        refine lv_lload_n hx hb dP_run_39 rfl (lv_at hl 2 rfl) ?_
        refine lv_lconst (v := 1) hx hb dP_run_40 (by decide) ?_
        refine tl_lt (tgt := 69) hx hb dP_run_41 dP_run_42 (by decide) (fun c_7 => ?_) (fun c_7 => ?_)
        · skip
          exact absurd (hx9.symm.trans (show xP_run tot pd gd fw fr fb rc kind rises total going width cf ct rn rd k1 g1 w1 = 2 from by unfold xP_run; rw [if_neg c_4, if_neg c_5, if_pos c_6, if_pos c_7])) (by decide)
        · skip
          refine lv_lload_n hx hb dP_run_45 rfl (lv_at hl 2 rfl) ?_
          refine lv_ldc2 (v := 10000) hx hb hown (hts _ gw_318) dP_run_46 ?_
          refine tl_gt (tgt := 69) hx hb dP_run_49 dP_run_50 (by decide) (fun c_8 => ?_) (fun c_8 => ?_)
          · skip
            exact absurd (hx9.symm.trans (show xP_run tot pd gd fw fr fb rc kind rises total going width cf ct rn rd k1 g1 w1 = 2 from by unfold xP_run; rw [if_neg c_4, if_neg c_5, if_pos c_6, if_neg c_7, if_pos c_8])) (by decide)
          · skip
            refine lv_lload hx hb dP_run_53 (lv_at hl 3 rfl) ?_
            refine lv_lconst (v := 1) hx hb dP_run_55 (by decide) ?_
            refine tl_lt (tgt := 69) hx hb dP_run_56 dP_run_57 (by decide) (fun c_9 => ?_) (fun c_9 => ?_)
            · skip
              exact absurd (hx9.symm.trans (show xP_run tot pd gd fw fr fb rc kind rises total going width cf ct rn rd k1 g1 w1 = 2 from by unfold xP_run; rw [if_neg c_4, if_neg c_5, if_pos c_6, if_neg c_7, if_neg c_8, if_pos c_9])) (by decide)
            · skip
              refine lv_lload hx hb dP_run_60 (lv_at hl 3 rfl) ?_
              refine lv_ldc2 (v := 10000) hx hb hown (hts _ gw_318) dP_run_62 ?_
              refine tl_le (tgt := 79) hx hb dP_run_65 dP_run_66 (by decide) (fun c_10 => ?_) (fun c_10 => ?_)
              · skip
                refine lv_aload_n hx hb dP_run_79 rfl (lv_at hl 0 rfl) ?_
                refine tc_go (st1 := []) (ws' := [(p0, .inr (0, [.ref pT, .ref pR, .ref pS, .ref pF, .ref h0, .ref pQ, .ref pG, .long tot, .int (bI false), .int (bI false)])), (h0, .inr (4, [.int kind, .int rises, .long total, .long going, .long width, .int cf, .int ct])), (pR, .inr (2, [.ref aw, .ref ar, .ref ab, .int (nI rc)])), (aw, .inl (cw, 40, .inl fw)), (ar, .inl (cr, 8, .inl fr)), (ab, .inl (cb, 8, .inl fb)), (pQ, .inr (5, [.long rn, .long rd]))]) (va_runV (As := []) (rest := []) (C := RP) ⟨hx, hb, hml, hown, hts⟩ (c_P_forget l dC dI p0 pT pR pS pF h0 pQ pG tot pd gd) ⟨cB 0 hts gw_239 gw_1 gw_237 ndP_forgetPlan rfl rfl ⟨Nat.le_of_ble_eq_true rfl, Nat.le_of_ble_eq_true rfl⟩, hts _ gw_238, hts _ gw_748⟩ (tp_Wv hN hK hP hD [0] [] rfl (by decide) rfl (q0 := 0) (ci := 0) rfl rfl) rfl rfl hl.1 rfl (lv_room (Nat.le_of_ble_eq_true rfl)) dP_run_80 ⟨Nat.le_of_ble_eq_true rfl, Nat.le_of_ble_eq_true rfl⟩) rfl hP hD hS [0] rfl rfl rfl (fun H locs hP hD hS => ?_)
                have hP : va_P (dC, dI) vCl [(p0, .inr (0, [.ref pT, .ref pR, .ref pS, .ref pF, .ref h0, .ref pQ, .ref pG, .long tot, .int (bI false), .int (bI false)])), (h0, .inr (4, [.int kind, .int rises, .long total, .long going, .long width, .int cf, .int ct])), (pR, .inr (2, [.ref aw, .ref ar, .ref ab, .int (nI rc)])), (aw, .inl (cw, 40, .inl fw)), (ar, .inl (cr, 8, .inl fr)), (ab, .inl (cb, 8, .inl fb)), (pQ, .inr (5, [.long rn, .long rd]))] H := hP
                have hD : va_D A [(p0, .inr (0, [.ref pT, .ref pR, .ref pS, .ref pF, .ref h0, .ref pQ, .ref pG, .long tot, .int (bI false), .int (bI false)])), (h0, .inr (4, [.int kind, .int rises, .long total, .long going, .long width, .int cf, .int ct])), (pR, .inr (2, [.ref aw, .ref ar, .ref ab, .int (nI rc)])), (aw, .inl (cw, 40, .inl fw)), (ar, .inl (cr, 8, .inl fr)), (ab, .inl (cb, 8, .inl fb)), (pQ, .inr (5, [.long rn, .long rd]))] := hD
                refine lv_aload_n hx hb dP_run_83 rfl (lv_at hl 0 rfl) ?_
                refine va_get (D := (dC, dI)) (ci := 0) (v := .ref h0) (C := RP) (T := TP) (N := 10) hx hb hts inP hown hK hP 0 rfl rfl 4 (by decide) (hts _ gw_103) (fun _ h9 => h9) rfl dP_run_84 ?_
                refine lv_iload_n hx hb dP_run_87 rfl (lv_at hl 1 rfl) ?_
                refine lv_aload_n hx hb dP_run_88 rfl (lv_at hl 0 rfl) ?_
                refine va_get (D := (dC, dI)) (ci := 0) (v := .long tot) (C := RP) (T := TP) (N := 10) hx hb hts inP hown hK hP 0 rfl rfl 7 (by decide) (hts _ gw_106) (fun _ h9 => h9) rfl dP_run_89 ?_
                refine lv_lload_n hx hb dP_run_92 rfl (lv_at hl 2 rfl) ?_
                refine lv_lload hx hb dP_run_93 (lv_at hl 3 rfl) ?_
                refine tc_go (st1 := []) (ws' := [(p0, .inr (0, [.ref pT, .ref pR, .ref pS, .ref pF, .ref h0, .ref pQ, .ref pG, .long tot, .int (bI false), .int (bI false)])), (h0, .inr (4, [.int k1, .int rises, .long tot, .long g1, .long w1, .int cf, .int ct])), (pR, .inr (2, [.ref aw, .ref ar, .ref ab, .int (nI rc)])), (aw, .inl (cw, 40, .inl fw)), (ar, .inl (cr, 8, .inl fr)), (ab, .inl (cb, 8, .inl fb)), (pQ, .inr (5, [.long rn, .long rd]))]) (va_runV (As := [.int k1, .long tot, .long g1, .long w1]) (rest := []) (C := RA) ⟨hx, hb, hml, hown, hts⟩ (c_A_measure l dC dI h0 kind rises total going width cf ct k1 tot g1 w1) ⟨cB 4 hts gw_322 gw_5 gw_319 ndA_measure rfl rfl ⟨Nat.le_of_ble_eq_true rfl, Nat.le_of_ble_eq_true rfl⟩, hts _ gw_320, hts _ gw_321⟩ (tp_Wv hN hK hP hD [1] [] rfl (by decide) rfl (q0 := 1) (ci := 4) rfl rfl) rfl rfl hl.1 rfl (lv_room (Nat.le_of_ble_eq_true rfl)) dP_run_95 ⟨Nat.le_of_ble_eq_true rfl, Nat.le_of_ble_eq_true rfl⟩) rfl hP hD hS [1] rfl rfl rfl (fun H locs hP hD hS => ?_)
                have hP : va_P (dC, dI) vCl [(p0, .inr (0, [.ref pT, .ref pR, .ref pS, .ref pF, .ref h0, .ref pQ, .ref pG, .long tot, .int (bI false), .int (bI false)])), (h0, .inr (4, [.int k1, .int rises, .long tot, .long g1, .long w1, .int cf, .int ct])), (pR, .inr (2, [.ref aw, .ref ar, .ref ab, .int (nI rc)])), (aw, .inl (cw, 40, .inl fw)), (ar, .inl (cr, 8, .inl fr)), (ab, .inl (cb, 8, .inl fb)), (pQ, .inr (5, [.long rn, .long rd]))] H := hP
                have hD : va_D A [(p0, .inr (0, [.ref pT, .ref pR, .ref pS, .ref pF, .ref h0, .ref pQ, .ref pG, .long tot, .int (bI false), .int (bI false)])), (h0, .inr (4, [.int k1, .int rises, .long tot, .long g1, .long w1, .int cf, .int ct])), (pR, .inr (2, [.ref aw, .ref ar, .ref ab, .int (nI rc)])), (aw, .inl (cw, 40, .inl fw)), (ar, .inl (cr, 8, .inl fr)), (ab, .inl (cb, 8, .inl fb)), (pQ, .inr (5, [.long rn, .long rd]))] := hD
                refine lv_iconst (v := 0) hx hb dP_run_98 (by decide) ?_
                refine lv_istore (lv' := [(6, .int 0), (0, .ref p0), (1, .int k1), (2, .long g1), (4, .long w1)]) hx hb dP_run_99 hl (by decide) rfl (fun ls hl => ?_)
                refine lv_aload_n hx hb dP_run_101 rfl (lv_at hl 1 rfl) ?_
                refine va_get (D := (dC, dI)) (ci := 0) (v := .ref h0) (C := RP) (T := TP) (N := 10) hx hb hts inP hown hK hP 0 rfl rfl 4 (by decide) (hts _ gw_103) (fun _ h9 => h9) rfl dP_run_102 ?_
                refine tr_go (st1 := [.int (fA_fewest k1 rises tot g1 w1 cf ct)]) (va_runV (As := []) (rest := []) (C := RA) ⟨hx, hb, hml, hown, hts⟩ (c_A_fewestRises l dC dI h0 k1 rises tot g1 w1 cf ct) ⟨cB 0 hts gw_326 gw_5 gw_323 ndA_fewestRises rfl rfl ⟨Nat.le_of_ble_eq_true rfl, Nat.le_of_ble_eq_true rfl⟩, hts _ gw_324, hts _ gw_325⟩ (tp_Rv hN hK hP [1] [] rfl rfl (q0 := 1) (ci := 4) rfl rfl) rfl rfl hl.1 rfl (lv_room (Nat.le_of_ble_eq_true rfl)) dP_run_105 ⟨Nat.le_of_ble_eq_true rfl, Nat.le_of_ble_eq_true rfl⟩) rfl ?_
                rw [fewN_e]
                refine lv_istore (lv' := [(7, .int (nI (fewN k1))), (6, .int 0), (0, .ref p0), (1, .int k1), (2, .long g1), (4, .long w1)]) hx hb dP_run_108 hl (by decide) rfl (fun ls hl => ?_)
                exact loop (61 - fewN k1) (fewN k1) 0 rises cf ct (by have := fewN_4 k1; omega) hJ9 rfl (fun h9 => by have := fewN_4 k1; omega) _ _ hP hD hS ls (lv_sub hl [0, 1, 5, 4, 3, 2] rfl)
              · skip
                exact absurd (hx9.symm.trans (show xP_run tot pd gd fw fr fb rc kind rises total going width cf ct rn rd k1 g1 w1 = 2 from by unfold xP_run; rw [if_neg c_4, if_neg c_5, if_pos c_6, if_neg c_7, if_neg c_8, if_neg c_9, if_neg c_10])) (by decide)
      · skip
        exact absurd (hx9.symm.trans (show xP_run tot pd gd fw fr fb rc kind rises total going width cf ct rn rd k1 g1 w1 = 2 from by unfold xP_run; rw [if_neg c_4, if_neg c_5, if_neg c_6])) (by decide)
  · skip
    exact absurd (hx9.symm.trans (show xP_run tot pd gd fw fr fb rc kind rises total going width cf ct rn rd k1 g1 w1 = 1 from by unfold xP_run; rw [if_pos c_4])) (by decide)

set_option maxHeartbeats 4000000 in
set_option maxRecDepth 100000 in
theorem t_P_run_ISE (l : Launch) (dC : Nat → ClassId) (dI : Nat → Nat → Nat) (p0 : Nat) (pT : Nat) (pR : Nat) (pS : Nat) (pF : Nat) (h0 : Nat) (pQ : Nat) (pG : Nat) (tot : Int64) (pd : Bool) (gd : Bool) (aw : Nat) (ar : Nat) (ab : Nat) (cw : ClassId) (cr : ClassId) (cb : ClassId) (fw : Nat → Int32) (fr : Nat → Int32) (fb : Nat → Int32) (rc : Nat) (kind : Int32) (rises : Int32) (total : Int64) (going : Int64) (width : Int64) (cf : Int32) (ct : Int32) (rn : Int64) (rd : Int64) (k1 : Int32) (g1 : Int64) (w1 : Int64) (hfl : l.stackTraces = false) (hx9 : xP_run tot pd gd fw fr fb rc kind rises total going width cf ct rn rd k1 g1 w1 = 1) : tw_Met l mP_run wP_run ({ frames := 6, cells := 1, slots := 6, locals := 82 }) (tp_T (dC, dI) vCl [.ref p0, .int k1, .long g1, .long w1] [(p0, .inr (0, [.ref pT, .ref pR, .ref pS, .ref pF, .ref h0, .ref pQ, .ref pG, .long tot, .int (bI pd), .int (bI gd)])), (h0, .inr (4, [.int kind, .int rises, .long total, .long going, .long width, .int cf, .int ct])), (pR, .inr (2, [.ref aw, .ref ar, .ref ab, .int (nI rc)])), (aw, .inl (cw, 40, .inl fw)), (ar, .inl (cr, 8, .inl fr)), (ab, .inl (cb, 8, .inl fb)), (pQ, .inr (5, [.long rn, .long rd]))] [(cw, .int), (cr, .char), (cb, .int)]) "java/lang/IllegalStateException" := by
  refine tw_ofW (cc := bP_run) (maxL := 9) (ret := (some .int)) (by decide) rfl ?_
  intro p e s m args below meth c s₁ B hml hne hv
  obtain ⟨rfl, hP, hK, hN, hZ⟩ := hv
  have hx := B.exec
  have hb := B.bytes
  have hr := B.returns
  have hts : ∀ w ∈ gT, w.before _ s = true := fun w h => atoms_spec (ws := wP_run) B.pre w (List.mem_cons_of_mem _ h)
  have hown : s.vm.findClass RP = some m.cls := findClass_of_methodNamed B.named
  have hlocks := B.notSynchronized
  have hP : va_P (dC, dI) vCl [(p0, .inr (0, [.ref pT, .ref pR, .ref pS, .ref pF, .ref h0, .ref pQ, .ref pG, .long tot, .int (bI pd), .int (bI gd)])), (h0, .inr (4, [.int kind, .int rises, .long total, .long going, .long width, .int cf, .int ct])), (pR, .inr (2, [.ref aw, .ref ar, .ref ab, .int (nI rc)])), (aw, .inl (cw, 40, .inl fw)), (ar, .inl (cr, 8, .inl fr)), (ab, .inl (cb, 8, .inl fb)), (pQ, .inr (5, [.long rn, .long rd]))] s.heap := hP
  have hl := lv_entry ([.ref p0, .int k1, .long g1, .long w1]) (n := 9) (Nat.le_of_ble_eq_true rfl)
  rw [lg_entry_eq]
  generalize (lg_sl ([.ref p0, .int k1, .long g1, .long w1]) ++ List.replicate (9 - (lg_sl ([.ref p0, .int k1, .long g1, .long w1])).length) Slot.unset).toArray = ls at hl ⊢
  have hl : lv_has ls 9 [(0, .ref p0), (1, .int k1), (2, .long g1), (4, .long w1)] := hl
  refine lv_aload_n hx hb dP_run_0 rfl (lv_at hl 0 rfl) ?_
  refine va_get (D := (dC, dI)) (ci := 0) (v := .ref pR) (C := RP) (T := TP) (N := 10) hx hb hts inP hown hK hP 0 rfl rfl 1 (by decide) (hts _ gw_100) (fun _ h9 => h9) rfl dP_run_1 ?_
  refine va_getN (D := (dC, dI)) (ci := 2) (v := .int (nI rc)) (C := RS) (T := TS) (N := 4) hx hb hts inS hown hK hP 2 rfl rfl 3 (by decide) (va_Nw.use rfl (hN _ nw_3 rfl)) (fun _ h9 => h9) rfl dP_run_4 ?_
  refine lv_if_ne (tgt := 20) hx hb dP_run_7 (by decide) (fun c_1 => ?_) (fun c_1 => ?_)
  · skip
    refine lv_iload_n hx hb dP_run_20 rfl (lv_at hl 1 rfl) ?_
    refine lv_if_lt (tgt := 29) hx hb dP_run_21 (by decide) (fun c_2 => ?_) (fun c_2 => ?_)
    · skip
      exact absurd (hx9.symm.trans (show xP_run tot pd gd fw fr fb rc kind rises total going width cf ct rn rd k1 g1 w1 = 2 from by unfold xP_run; rw [if_neg c_1, if_pos c_2])) (by decide)
    · skip
      refine lv_iload_n hx hb dP_run_24 rfl (lv_at hl 1 rfl) ?_
      refine lv_iconst (v := 2) hx hb dP_run_25 (by decide) ?_
      refine lv_icmp_le (tgt := 39) hx hb dP_run_26 (by decide) (fun c_3 => ?_) (fun c_3 => ?_)
      · skip
        refine lv_lload_n hx hb dP_run_39 rfl (lv_at hl 2 rfl) ?_
        refine lv_lconst (v := 1) hx hb dP_run_40 (by decide) ?_
        refine tl_lt (tgt := 69) hx hb dP_run_41 dP_run_42 (by decide) (fun c_4 => ?_) (fun c_4 => ?_)
        · skip
          exact absurd (hx9.symm.trans (show xP_run tot pd gd fw fr fb rc kind rises total going width cf ct rn rd k1 g1 w1 = 2 from by unfold xP_run; rw [if_neg c_1, if_neg c_2, if_pos c_3, if_pos c_4])) (by decide)
        · skip
          refine lv_lload_n hx hb dP_run_45 rfl (lv_at hl 2 rfl) ?_
          refine lv_ldc2 (v := 10000) hx hb hown (hts _ gw_318) dP_run_46 ?_
          refine tl_gt (tgt := 69) hx hb dP_run_49 dP_run_50 (by decide) (fun c_5 => ?_) (fun c_5 => ?_)
          · skip
            exact absurd (hx9.symm.trans (show xP_run tot pd gd fw fr fb rc kind rises total going width cf ct rn rd k1 g1 w1 = 2 from by unfold xP_run; rw [if_neg c_1, if_neg c_2, if_pos c_3, if_neg c_4, if_pos c_5])) (by decide)
          · skip
            refine lv_lload hx hb dP_run_53 (lv_at hl 3 rfl) ?_
            refine lv_lconst (v := 1) hx hb dP_run_55 (by decide) ?_
            refine tl_lt (tgt := 69) hx hb dP_run_56 dP_run_57 (by decide) (fun c_6 => ?_) (fun c_6 => ?_)
            · skip
              exact absurd (hx9.symm.trans (show xP_run tot pd gd fw fr fb rc kind rises total going width cf ct rn rd k1 g1 w1 = 2 from by unfold xP_run; rw [if_neg c_1, if_neg c_2, if_pos c_3, if_neg c_4, if_neg c_5, if_pos c_6])) (by decide)
            · skip
              refine lv_lload hx hb dP_run_60 (lv_at hl 3 rfl) ?_
              refine lv_ldc2 (v := 10000) hx hb hown (hts _ gw_318) dP_run_62 ?_
              refine tl_le (tgt := 79) hx hb dP_run_65 dP_run_66 (by decide) (fun c_7 => ?_) (fun c_7 => ?_)
              · skip
                refine lv_aload_n hx hb dP_run_79 rfl (lv_at hl 0 rfl) ?_
                exact absurd (hx9.symm.trans (show xP_run tot pd gd fw fr fb rc kind rises total going width cf ct rn rd k1 g1 w1 = 0 from by unfold xP_run; rw [if_neg c_1, if_neg c_2, if_pos c_3, if_neg c_4, if_neg c_5, if_neg c_6, if_pos c_7])) (by decide)
              · skip
                exact absurd (hx9.symm.trans (show xP_run tot pd gd fw fr fb rc kind rises total going width cf ct rn rd k1 g1 w1 = 2 from by unfold xP_run; rw [if_neg c_1, if_neg c_2, if_pos c_3, if_neg c_4, if_neg c_5, if_neg c_6, if_neg c_7])) (by decide)
      · skip
        exact absurd (hx9.symm.trans (show xP_run tot pd gd fw fr fb rc kind rises total going width cf ct rn rd k1 g1 w1 = 2 from by unfold xP_run; rw [if_neg c_1, if_neg c_2, if_neg c_3])) (by decide)
  · skip
    exact tw_new (E := "java/lang/IllegalStateException") hx hb hml hl.1 hfl hlocks hne hown (tz_lit (hZ.1 _ sw_2 rfl)) (hts _ gw_305) (hts _ gw_16) (own_ISE hts hN hZ) (by decide) (by decide) dP_run_10 dP_run_13 dP_run_14 dP_run_16 dP_run_19 (Nat.le_of_ble_eq_true rfl) (Nat.le_of_ble_eq_true rfl) (Nat.le_of_ble_eq_true rfl) (Nat.le_of_ble_eq_true rfl)

set_option maxHeartbeats 4000000 in
set_option maxRecDepth 100000 in
theorem t_P_run_IAE (l : Launch) (dC : Nat → ClassId) (dI : Nat → Nat → Nat) (p0 : Nat) (pT : Nat) (pR : Nat) (pS : Nat) (pF : Nat) (h0 : Nat) (pQ : Nat) (pG : Nat) (tot : Int64) (pd : Bool) (gd : Bool) (aw : Nat) (ar : Nat) (ab : Nat) (cw : ClassId) (cr : ClassId) (cb : ClassId) (fw : Nat → Int32) (fr : Nat → Int32) (fb : Nat → Int32) (rc : Nat) (kind : Int32) (rises : Int32) (total : Int64) (going : Int64) (width : Int64) (cf : Int32) (ct : Int32) (rn : Int64) (rd : Int64) (k1 : Int32) (g1 : Int64) (w1 : Int64) (hfl : l.stackTraces = false) (hx9 : xP_run tot pd gd fw fr fb rc kind rises total going width cf ct rn rd k1 g1 w1 = 2) : tw_Met l mP_run wP_run ({ frames := 6, cells := 1, slots := 6, locals := 82 }) (tp_T (dC, dI) vCl [.ref p0, .int k1, .long g1, .long w1] [(p0, .inr (0, [.ref pT, .ref pR, .ref pS, .ref pF, .ref h0, .ref pQ, .ref pG, .long tot, .int (bI pd), .int (bI gd)])), (h0, .inr (4, [.int kind, .int rises, .long total, .long going, .long width, .int cf, .int ct])), (pR, .inr (2, [.ref aw, .ref ar, .ref ab, .int (nI rc)])), (aw, .inl (cw, 40, .inl fw)), (ar, .inl (cr, 8, .inl fr)), (ab, .inl (cb, 8, .inl fb)), (pQ, .inr (5, [.long rn, .long rd]))] [(cw, .int), (cr, .char), (cb, .int)]) "java/lang/IllegalArgumentException" := by
  refine tw_ofW (cc := bP_run) (maxL := 9) (ret := (some .int)) (by decide) rfl ?_
  intro p e s m args below meth c s₁ B hml hne hv
  obtain ⟨rfl, hP, hK, hN, hZ⟩ := hv
  have hx := B.exec
  have hb := B.bytes
  have hr := B.returns
  have hts : ∀ w ∈ gT, w.before _ s = true := fun w h => atoms_spec (ws := wP_run) B.pre w (List.mem_cons_of_mem _ h)
  have hown : s.vm.findClass RP = some m.cls := findClass_of_methodNamed B.named
  have hlocks := B.notSynchronized
  have hP : va_P (dC, dI) vCl [(p0, .inr (0, [.ref pT, .ref pR, .ref pS, .ref pF, .ref h0, .ref pQ, .ref pG, .long tot, .int (bI pd), .int (bI gd)])), (h0, .inr (4, [.int kind, .int rises, .long total, .long going, .long width, .int cf, .int ct])), (pR, .inr (2, [.ref aw, .ref ar, .ref ab, .int (nI rc)])), (aw, .inl (cw, 40, .inl fw)), (ar, .inl (cr, 8, .inl fr)), (ab, .inl (cb, 8, .inl fb)), (pQ, .inr (5, [.long rn, .long rd]))] s.heap := hP
  have hl := lv_entry ([.ref p0, .int k1, .long g1, .long w1]) (n := 9) (Nat.le_of_ble_eq_true rfl)
  rw [lg_entry_eq]
  generalize (lg_sl ([.ref p0, .int k1, .long g1, .long w1]) ++ List.replicate (9 - (lg_sl ([.ref p0, .int k1, .long g1, .long w1])).length) Slot.unset).toArray = ls at hl ⊢
  have hl : lv_has ls 9 [(0, .ref p0), (1, .int k1), (2, .long g1), (4, .long w1)] := hl
  refine lv_aload_n hx hb dP_run_0 rfl (lv_at hl 0 rfl) ?_
  refine va_get (D := (dC, dI)) (ci := 0) (v := .ref pR) (C := RP) (T := TP) (N := 10) hx hb hts inP hown hK hP 0 rfl rfl 1 (by decide) (hts _ gw_100) (fun _ h9 => h9) rfl dP_run_1 ?_
  refine va_getN (D := (dC, dI)) (ci := 2) (v := .int (nI rc)) (C := RS) (T := TS) (N := 4) hx hb hts inS hown hK hP 2 rfl rfl 3 (by decide) (va_Nw.use rfl (hN _ nw_3 rfl)) (fun _ h9 => h9) rfl dP_run_4 ?_
  refine lv_if_ne (tgt := 20) hx hb dP_run_7 (by decide) (fun c_1 => ?_) (fun c_1 => ?_)
  · skip
    refine lv_iload_n hx hb dP_run_20 rfl (lv_at hl 1 rfl) ?_
    refine lv_if_lt (tgt := 29) hx hb dP_run_21 (by decide) (fun c_2 => ?_) (fun c_2 => ?_)
    · skip
      exact tw_new (E := "java/lang/IllegalArgumentException") hx hb hml hl.1 hfl hlocks hne hown (tz_lit (hZ.1 _ sw_3 rfl)) (hts _ gw_250) (hts _ gw_11) (own_IAE hts hN hZ) (by decide) (by decide) dP_run_29 dP_run_32 dP_run_33 dP_run_35 dP_run_38 (Nat.le_of_ble_eq_true rfl) (Nat.le_of_ble_eq_true rfl) (Nat.le_of_ble_eq_true rfl) (Nat.le_of_ble_eq_true rfl)
    · skip
      refine lv_iload_n hx hb dP_run_24 rfl (lv_at hl 1 rfl) ?_
      refine lv_iconst (v := 2) hx hb dP_run_25 (by decide) ?_
      refine lv_icmp_le (tgt := 39) hx hb dP_run_26 (by decide) (fun c_3 => ?_) (fun c_3 => ?_)
      · skip
        refine lv_lload_n hx hb dP_run_39 rfl (lv_at hl 2 rfl) ?_
        refine lv_lconst (v := 1) hx hb dP_run_40 (by decide) ?_
        refine tl_lt (tgt := 69) hx hb dP_run_41 dP_run_42 (by decide) (fun c_4 => ?_) (fun c_4 => ?_)
        · skip
          exact tw_new (E := "java/lang/IllegalArgumentException") hx hb hml hl.1 hfl hlocks hne hown (tz_lit (hZ.1 _ sw_4 rfl)) (hts _ gw_250) (hts _ gw_11) (own_IAE hts hN hZ) (by decide) (by decide) dP_run_69 dP_run_72 dP_run_73 dP_run_75 dP_run_78 (Nat.le_of_ble_eq_true rfl) (Nat.le_of_ble_eq_true rfl) (Nat.le_of_ble_eq_true rfl) (Nat.le_of_ble_eq_true rfl)
        · skip
          refine lv_lload_n hx hb dP_run_45 rfl (lv_at hl 2 rfl) ?_
          refine lv_ldc2 (v := 10000) hx hb hown (hts _ gw_318) dP_run_46 ?_
          refine tl_gt (tgt := 69) hx hb dP_run_49 dP_run_50 (by decide) (fun c_5 => ?_) (fun c_5 => ?_)
          · skip
            exact tw_new (E := "java/lang/IllegalArgumentException") hx hb hml hl.1 hfl hlocks hne hown (tz_lit (hZ.1 _ sw_4 rfl)) (hts _ gw_250) (hts _ gw_11) (own_IAE hts hN hZ) (by decide) (by decide) dP_run_69 dP_run_72 dP_run_73 dP_run_75 dP_run_78 (Nat.le_of_ble_eq_true rfl) (Nat.le_of_ble_eq_true rfl) (Nat.le_of_ble_eq_true rfl) (Nat.le_of_ble_eq_true rfl)
          · skip
            refine lv_lload hx hb dP_run_53 (lv_at hl 3 rfl) ?_
            refine lv_lconst (v := 1) hx hb dP_run_55 (by decide) ?_
            refine tl_lt (tgt := 69) hx hb dP_run_56 dP_run_57 (by decide) (fun c_6 => ?_) (fun c_6 => ?_)
            · skip
              exact tw_new (E := "java/lang/IllegalArgumentException") hx hb hml hl.1 hfl hlocks hne hown (tz_lit (hZ.1 _ sw_4 rfl)) (hts _ gw_250) (hts _ gw_11) (own_IAE hts hN hZ) (by decide) (by decide) dP_run_69 dP_run_72 dP_run_73 dP_run_75 dP_run_78 (Nat.le_of_ble_eq_true rfl) (Nat.le_of_ble_eq_true rfl) (Nat.le_of_ble_eq_true rfl) (Nat.le_of_ble_eq_true rfl)
            · skip
              refine lv_lload hx hb dP_run_60 (lv_at hl 3 rfl) ?_
              refine lv_ldc2 (v := 10000) hx hb hown (hts _ gw_318) dP_run_62 ?_
              refine tl_le (tgt := 79) hx hb dP_run_65 dP_run_66 (by decide) (fun c_7 => ?_) (fun c_7 => ?_)
              · skip
                refine lv_aload_n hx hb dP_run_79 rfl (lv_at hl 0 rfl) ?_
                exact absurd (hx9.symm.trans (show xP_run tot pd gd fw fr fb rc kind rises total going width cf ct rn rd k1 g1 w1 = 0 from by unfold xP_run; rw [if_neg c_1, if_neg c_2, if_pos c_3, if_neg c_4, if_neg c_5, if_neg c_6, if_pos c_7])) (by decide)
              · skip
                exact tw_new (E := "java/lang/IllegalArgumentException") hx hb hml hl.1 hfl hlocks hne hown (tz_lit (hZ.1 _ sw_4 rfl)) (hts _ gw_250) (hts _ gw_11) (own_IAE hts hN hZ) (by decide) (by decide) dP_run_69 dP_run_72 dP_run_73 dP_run_75 dP_run_78 (Nat.le_of_ble_eq_true rfl) (Nat.le_of_ble_eq_true rfl) (Nat.le_of_ble_eq_true rfl) (Nat.le_of_ble_eq_true rfl)
      · skip
        exact tw_new (E := "java/lang/IllegalArgumentException") hx hb hml hl.1 hfl hlocks hne hown (tz_lit (hZ.1 _ sw_3 rfl)) (hts _ gw_250) (hts _ gw_11) (own_IAE hts hN hZ) (by decide) (by decide) dP_run_29 dP_run_32 dP_run_33 dP_run_35 dP_run_38 (Nat.le_of_ble_eq_true rfl) (Nat.le_of_ble_eq_true rfl) (Nat.le_of_ble_eq_true rfl) (Nat.le_of_ble_eq_true rfl)
  · skip
    exact absurd (hx9.symm.trans (show xP_run tot pd gd fw fr fb rc kind rises total going width cf ct rn rd k1 g1 w1 = 1 from by unfold xP_run; rw [if_pos c_1])) (by decide)
