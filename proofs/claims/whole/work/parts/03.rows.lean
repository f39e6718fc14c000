/-! Rows of mine: contracts of methods that only read, of methods that write their own cells and make none; calls of both; booleans as numbers; a comparison of longs with the branch behind it. -/
def bI (b : Bool) : Int32 := if b = true then 1 else 0
theorem bI_0 {b : Bool} : bI b = 0 ↔ b = false := by cases b <;> decide
theorem bI_1 {b : Bool} : ¬ bI b = 0 ↔ b = true := by cases b <;> decide
theorem bI_n (b : Bool) : narrow .boolean (.int (bI b)) = .int (bI b) := by cases b <;> rfl
theorem bI_f (b : Bool) : fits .boolean (.int (bI b)) = true := by cases b <;> rfl
theorem bI_t : bI true = 1 := rfl
theorem bI_ff : bI false = 0 := rfl
/-- words that the tables give and that stay true as entries are resolved, though they aren't 'good' ones -/
def tnB : Cond → Bool
  | .fieldLinkNest .. => true
  | .methodLinkNest .. => true
  | .declares _ => true
  | .castable .. => true
  | _ => false
def tn (U : State) : Prop := ∀ w ∈ tables_1, tnB w = true → va_Nw w U
theorem tn_warm {s U : State} (hW : s.WarmedH U.vm) (h : tn s) : tn U := by
  intro w hw hb
  have h1 := h w hw hb
  cases w <;> first | exact va_Nw.warmF hW h1 | exact va_Nw.warmM hW h1 | exact va_Nw.warmD hW h1 | exact va_Nw.warmC hW h1 | (cases hb)
theorem tn_same {s U : State} (h : s.vm = U.vm) (hs : tn s) : tn U := tn_warm (by rw [← h]; exact State.WarmedH.refl s) hs
/-- the addresses of a world -/
def tA (ws : va_W) : Nat → Prop := fun q => ∃ (k : Nat) (e : va_E), ws[k]? = some (q, e)
theorem tA_D {ws : va_W} {A : Nat → Prop} (h : va_D A ws) : va_D (tA ws) ws := ⟨h.1, fun k q hk => ⟨k, q.2, hk⟩⟩
def tq_R (ov : Option Value) : Array Value → State → Outcome → State → Prop := fun _ st o t => o = .returned ov ∧ t.heap = st.heap
def tq_W (D : va_G) (cl : List vw_C) (ov : Option Value) (ws ws' : va_W) : Array Value → State → Outcome → State → Prop := fun _ st o t => o = .returned ov ∧ va_P D cl ws' t.heap ∧ va_F (tA ws) st t
def tp_R (D : va_G) (cl : List vw_C) (av : List Value) (w : va_W) (tys : List (ClassId × FieldType)) : Array Value → State → Prop := va_Pc av (fun U => va_P D cl w U.heap ∧ va_K D cl tys U ∧ tn U)
def tp_W (D : va_G) (cl : List vw_C) (av : List Value) (w : va_W) (tys : List (ClassId × FieldType)) : Array Value → State → Prop := va_Pc av (fun U => va_P D cl w U.heap ∧ va_K D cl tys U ∧ tn U ∧ va_D (fun _ => True) w)
/-- places of a world taken by new cells -/
def tc_put (ws : va_W) : List Nat → va_W → va_W
  | [], _ => ws
  | i :: is, w1 => match w1 with
    | [] => ws
    | x :: xs => tc_put (ws.set i x) is xs
theorem tc_put_in : ∀ (is : List Nat) (w1 ws : va_W) (k : Nat) (q : Nat × va_E), (tc_put ws is w1)[k]? = some q → q ∈ w1 ∨ (ws[k]? = some q ∧ k ∉ is.take w1.length) := by
  intro is
  induction is with
  | nil => intro w1 ws k q h; cases w1 <;> exact Or.inr ⟨h, by simp⟩
  | cons i is ih =>
    intro w1 ws k q h
    cases w1 with
    | nil => exact Or.inr ⟨h, by simp⟩
    | cons x xs =>
      rcases ih xs (ws.set i x) k q h with h1 | ⟨h1, h2⟩
      · exact Or.inl (List.mem_cons_of_mem _ h1)
      · by_cases hk : i = k
        · subst hk
          have hl : i < ws.length := by
            have := (List.getElem?_eq_some_iff.mp h1).1
            simpa using this
          rw [List.getElem?_set_self hl] at h1
          exact Or.inl (by rw [← Option.some.inj h1]; exact List.mem_cons_self)
        · rw [List.getElem?_set_ne hk] at h1
          refine Or.inr ⟨h1, ?_⟩
          simp only [List.length_cons, List.take_succ_cons, List.mem_cons, not_or]
          exact ⟨fun e => hk e.symm, h2⟩
theorem tc_put_map : ∀ (is : List Nat) (w1 ws wc : va_W), is.map (fun i => ws[i]?) = wc.map some → wc.map (·.1) = w1.map (·.1) → (tc_put ws is w1).map (·.1) = ws.map (·.1) := by
  intro is
  induction is with
  | nil => intro w1 ws wc _ _; cases w1 <;> rfl
  | cons i is ih =>
    intro w1 ws wc h1 h2
    cases w1 with
    | nil => rfl
    | cons x xs =>
      cases wc with
      | nil => simp at h1
      | cons y ys =>
        simp only [List.map_cons, List.cons.injEq] at h1 h2
        have hs : (ws.set i x).map (·.1) = ws.map (·.1) := by
          apply List.ext_getElem?
          intro k
          rw [List.getElem?_map, List.getElem?_map]
          by_cases hk : i = k
          · subst hk
            have hl : i < ws.length := (List.getElem?_eq_some_iff.mp h1.1).1
            rw [List.getElem?_set_self hl, h1.1, Option.map_some, Option.map_some, h2.1]
          · rw [List.getElem?_set_ne hk]
        show (tc_put (ws.set i x) is xs).map (·.1) = _
        by_cases hxs : (is.map fun j => (ws.set i x)[j]?) = (ys.map some)
        · rw [ih xs (ws.set i x) ys hxs h2.2, hs]
        · -- the later places may include i again: their addresses are the same all the same
          have key : ∀ (is : List Nat) (xs ws2 ys : va_W), (is.map fun j => (ws2[j]?).map (·.1)) = (ys.map fun z => some z.1) → ys.map (·.1) = xs.map (·.1) → (tc_put ws2 is xs).map (·.1) = ws2.map (·.1) := by
            intro is
            induction is with
            | nil => intro xs ws2 ys _ _; cases xs <;> rfl
            | cons j js ih2 =>
              intro xs ws2 ys g1 g2
              cases xs with
              | nil => rfl
              | cons x2 xs2 =>
                cases ys with
                | nil => simp at g1
                | cons y2 ys2 =>
                  simp only [List.map_cons, List.cons.injEq] at g1 g2
                  have hs2 : (ws2.set j x2).map (·.1) = ws2.map (·.1) := by
                    apply List.ext_getElem?
                    intro k
                    rw [List.getElem?_map, List.getElem?_map]
                    by_cases hk : j = k
                    · subst hk
                      have g3 := g1.1
                      cases hj : ws2[j]? with
                      | none => rw [hj] at g3; cases g3
                      | some z =>
                        have hl : j < ws2.length := (List.getElem?_eq_some_iff.mp hj).1
                        rw [hj, Option.map_some] at g3
                        rw [List.getElem?_set_self hl, Option.map_some, Option.map_some, ← g2.1, ← Option.some.inj g3]
                    · rw [List.getElem?_set_ne hk]
                  show (tc_put (ws2.set j x2) js xs2).map (·.1) = _
                  rw [ih2 xs2 (ws2.set j x2) ys2 ?_ g2.2, hs2]
                  rw [← g1.2]
                  apply List.map_congr_left
                  intro k _
                  rw [← List.getElem?_map, ← List.getElem?_map, hs2]
          rw [key is xs (ws.set i x) ys ?_ h2.2, hs]
          have h3 : (is.map fun j => (ws[j]?).map (·.1)) = ys.map fun z => some z.1 := by
            have := congrArg (List.map (Option.map (·.1))) h1.2
            simpa [List.map_map, Function.comp_def] using this
          rw [← h3]
          apply List.map_congr_left
          intro k _
          rw [← List.getElem?_map, ← List.getElem?_map, hs]
theorem tc_D {A : Nat → Prop} {ws ws' : va_W} (h : ws'.map (·.1) = ws.map (·.1)) (hD : va_D A ws) : va_D A ws' := by
  have back : ∀ (k : Nat) (q : Nat × va_E), ws'[k]? = some q → ∃ q0, ws[k]? = some q0 ∧ q0.1 = q.1 := by
    intro k q hk
    have h1 : (ws'.map (·.1))[k]? = some q.1 := by rw [List.getElem?_map, hk]; rfl
    rw [h, List.getElem?_map] at h1
    cases hw : ws[k]? with
    | none => rw [hw] at h1; cases h1
    | some q0 => rw [hw] at h1; exact ⟨q0, rfl, Option.some.inj h1⟩
  refine ⟨fun i j p q hi hj he => ?_, fun k q hk => ?_⟩
  · obtain ⟨p0, a1, a2⟩ := back i p hi
    obtain ⟨q0, b1, b2⟩ := back j q hj
    exact hD.1 i j p0 q0 a1 b1 (by rw [a2, b2, he])
  · obtain ⟨q0, a1, a2⟩ := back k q hk
    rw [← a2]
    exact hD.2 k q0 a1
theorem tc_join {D : va_G} {cl : List vw_C} {A : Nat → Prop} {ws wc w1 ws' : va_W} {H H1 : Heap} (hP : va_P D cl ws H) (hD : va_D A ws) (is : List Nat) (hC : is.map (fun i => ws[i]?) = wc.map some) (ha : wc.map (·.1) = w1.map (·.1))
    (hP1 : va_P D cl w1 H1) (hk : ∀ q : Nat, q < H.size → ¬ tA wc q → H1[q]? = H[q]?) (hw : tc_put ws is w1 = ws') : va_P D cl ws' H1 ∧ va_D A ws' := by
  subst hw
  refine ⟨fun k q hq => ?_, tc_D (tc_put_map is w1 ws wc hC ha) hD⟩
  rcases tc_put_in is w1 ws k q hq with h | ⟨h, hn⟩
  · obtain ⟨j, hj⟩ := List.getElem?_of_mem h
    exact hP1 j q hj
  · have hat := hP k q h
    refine hat.kept (hk q.1 hat.lt ?_)
    rintro ⟨j, e, hj⟩
    have hlen : is.length = wc.length := by simpa using congrArg List.length hC
    have hlen1 : wc.length = w1.length := by simpa using congrArg List.length ha
    have hjl : j < is.length := by rw [hlen]; exact (List.getElem?_eq_some_iff.mp hj).1
    have h2 : (is.map fun i => ws[i]?)[j]? = some (some (q.1, e)) := by rw [hC, List.getElem?_map, hj]; rfl
    rw [List.getElem?_map, List.getElem?_eq_getElem hjl] at h2
    have h3 : ws[is[j]]? = some (q.1, e) := Option.some.inj h2
    have h4 : k = is[j] := hD.1 k is[j] q (q.1, e) h h3 rfl
    apply hn
    rw [h4, List.take_of_length_le (by omega)]
    exact List.getElem_mem hjl
section TR
variable {p : Program} {l : Launch} {e : Env} {R : Room} {s : State} {m : MethodId} {args : Array Value} {below : List Frame} {meth : Method} {c : Code} {H : Heap} {locs : List Loc} {cells slots : Nat} {Q : State → Prop}
variable {pc : Nat} {ls : Array Slot} {rest st0 st1 : List Value} {a : Array Value} {cc : ByteArray} {D : va_G} {cl : List vw_C} {A0 : Nat → Prop} {H0 : Heap} {ws wc w1 ws' : va_W} {ov : Option Value} {tys tys' : List (ClassId × FieldType)}
theorem tr_go (hr : va_Run p l e R s m args below meth c H locs cells slots 0 0 (F0 m pc ls st0) rest (tq_R ov a) (fun _ => False)) (hs : ov.toList ++ rest = st1) (kk : W p l e R s m args below meth c H locs cells slots Q (F0 m (pc + 3) ls st1)) : W p l e R s m args below meth c H locs cells slots Q (F0 m pc ls st0) := by
  intro T hT X
  obtain ⟨v, st₀, t, T', L, h0, X', hL, e1, e2, ⟨hv, hh⟩, st⟩ := hr T hT X
  cases hv
  subst hs
  obtain ⟨t2, a1, b1⟩ := kk T' (by rw [e1, hh, h0]) (Stand.forget X' (fun q h => (hL q h).elim))
  exact ⟨t2, st t2 a1, b1⟩
theorem tc_go (hr : va_Run p l e R s m args below meth c H locs cells slots 0 0 (F0 m pc ls st0) rest (tq_W D cl ov wc w1 a) (tA wc)) (hs : ov.toList ++ rest = st1) (hP : va_P D cl ws H) (hD : va_D A0 ws) (hS : va_S A0 H0 H locs)
    (is : List Nat) (hC : is.map (fun i => ws[i]?) = wc.map some) (ha : wc.map (·.1) = w1.map (·.1)) (hw : tc_put ws is w1 = ws')
    (kk : ∀ (H1 : Heap) (locs1 : List Loc), va_P D cl ws' H1 → va_D A0 ws' → va_S A0 H0 H1 locs1 → W p l e R s m args below meth c H1 locs1 cells slots Q (F0 m (pc + 3) ls st1)) : W p l e R s m args below meth c H locs cells slots Q (F0 m pc ls st0) := by
  intro T hT X
  obtain ⟨v, st₀, t, T', L, h0, X', hL, e1, e2, ⟨hv, hP1, hF⟩, st⟩ := hr T hT X
  cases hv
  subst hs
  have hin : ∀ q, tA wc q → A0 q := by
    rintro q ⟨j, e, hj⟩
    have hjl : j < is.length := by
      have : is.length = wc.length := by simpa using congrArg List.length hC
      rw [this]; exact (List.getElem?_eq_some_iff.mp hj).1
    have h2 : (is.map fun i => ws[i]?)[j]? = some (some (q, e)) := by rw [hC, List.getElem?_map, hj]; rfl
    rw [List.getElem?_map, List.getElem?_eq_getElem hjl] at h2
    exact hD.2 is[j] (q, e) (Option.some.inj h2)
  have hF1 : H.size ≤ T'.heap.size := by rw [e1, ← h0]; exact hF.1
  have hF2 : ∀ q : Nat, q < H.size → ¬ tA wc q → T'.heap[q]? = H[q]? := fun q h1 h2 => by
    rw [e1, hF.2 q (by rw [h0]; exact h1) h2, h0]
  obtain ⟨hP', hD'⟩ := tc_join hP hD is hC ha (by rw [e1]; exact hP1) hF2 hw
  obtain ⟨t2, a1, b1⟩ := kk T'.heap (locs ++ L) hP' hD' ⟨Nat.le_trans hS.1 hF1, fun q h1 h2 => by
      rw [hF2 q (Nat.lt_of_lt_of_le h1 hS.1) (fun h => h2 (hin q h))]
      exact hS.2.1 q h1 h2, fun x hx => by
      rcases List.mem_append.mp hx with h | h
      · exact hS.2.2 x h
      · exact hin _ (hL x h)⟩ T' rfl X'
  exact ⟨t2, st t2 a1, b1⟩
/-- the start of a call, for a contract of mine -/
theorem tp_Rs {av : List Value} {w : va_W} (hN : tn s) (hK : va_K D cl tys s) (hP : va_P D cl ws H) (is ts : List Nat) (hw : is.filterMap (fun i => ws[i]?) = w) (ht : ts.filterMap (fun i => tys[i]?) = tys') : PreS s H (tp_R D cl av w tys') av :=
  ⟨fun a U g mk q => ⟨q.1, q.2.1, va_K.moved (u := U) (U := U.calling g mk a) (Vm.Alike.refl U.vm) q.2.2.1, tn_same (s := U) rfl q.2.2.2⟩, fun U hU hW => ⟨rfl, by rw [hU]; exact hP.sub is hw, va_K.moved hW.alike (hK.sub ts ht), tn_warm hW hN⟩⟩
theorem tp_Rv {b q0 ci : Nat} {cq : vw_C} {fs : List Value} {As : List Value} {w : va_W} (hN : tn s) (hK : va_K D cl tys s) (hP : va_P D cl ws H) (is ts : List Nat) (hw : is.filterMap (fun i => ws[i]?) = w) (ht : ts.filterMap (fun i => tys[i]?) = tys') (he : ws[q0]? = some (b, .inr (ci, fs))) (hc : cl[ci]? = some cq) : PreV s H cq.1 b (tp_R D cl (.ref b :: As) w tys') As :=
  ⟨(tp_Rs (av := .ref b :: As) hN hK hP is ts hw ht).1, va_recv hK hP hc he, (tp_Rs (av := .ref b :: As) hN hK hP is ts hw ht).2⟩
theorem tp_Ws {av : List Value} {w : va_W} {A : Nat → Prop} (hN : tn s) (hK : va_K D cl tys s) (hP : va_P D cl ws H) (hD : va_D A ws) (is ts : List Nat) (hw : is.map (fun i => ws[i]?) = w.map some) (hn : va_nd is = true) (ht : ts.filterMap (fun i => tys[i]?) = tys') : PreS s H (tp_W D cl av w tys') av :=
  ⟨fun a U g mk q => ⟨q.1, q.2.1, va_K.moved (u := U) (U := U.calling g mk a) (Vm.Alike.refl U.vm) q.2.2.1, tn_same (s := U) rfl q.2.2.2.1, q.2.2.2.2⟩, fun U hU hW => ⟨rfl, by rw [hU]; exact hP.sub is (by
    have h := congrArg (List.filterMap id) hw
    rw [List.filterMap_map, List.filterMap_map] at h
    simpa [Function.comp_def] using h), va_K.moved hW.alike (hK.sub ts ht), tn_warm hW hN, (hD.sub is hn hw).weaken (fun _ _ _ _ => trivial)⟩⟩
theorem tp_Wv {b q0 ci : Nat} {cq : vw_C} {fs : List Value} {As : List Value} {w : va_W} {A : Nat → Prop} (hN : tn s) (hK : va_K D cl tys s) (hP : va_P D cl ws H) (hD : va_D A ws) (is ts : List Nat) (hw : is.map (fun i => ws[i]?) = w.map some) (hn : va_nd is = true) (ht : ts.filterMap (fun i => tys[i]?) = tys') (he : ws[q0]? = some (b, .inr (ci, fs))) (hc : cl[ci]? = some cq) : PreV s H cq.1 b (tp_W D cl (.ref b :: As) w tys') As :=
  ⟨(tp_Ws (av := .ref b :: As) hN hK hP hD is ts hw hn ht).1, va_recv hK hP hc he, (tp_Ws (av := .ref b :: As) hN hK hP hD is ts hw hn ht).2⟩
/-- branches -/
theorem tb_ifeq (hexec : p.tables.exec = Jvm.exec) (hb : c.code = cc) {b : Bool} {off : Int} {tgt : Nat} (hdg : decode cc pc = .ok (.ifCond .eq off, 3)) (ht : (pc : Int) + off = (tgt : Int)) (kt : b = false → W p l e R s m args below meth c H locs cells slots Q (F0 m tgt ls rest)) (kf : b = true → W p l e R s m args below meth c H locs cells slots Q (F0 m (pc + 3) ls rest)) : W p l e R s m args below meth c H locs cells slots Q (F0 m pc ls (.int (bI b) :: rest)) :=
  lv_if_eq hexec hb hdg ht (fun h => kt (bI_0.mp h)) (fun h => kf (bI_1.mp h))
theorem tb_ifne (hexec : p.tables.exec = Jvm.exec) (hb : c.code = cc) {b : Bool} {off : Int} {tgt : Nat} (hdg : decode cc pc = .ok (.ifCond .ne off, 3)) (ht : (pc : Int) + off = (tgt : Int)) (kt : b = true → W p l e R s m args below meth c H locs cells slots Q (F0 m tgt ls rest)) (kf : b = false → W p l e R s m args below meth c H locs cells slots Q (F0 m (pc + 3) ls rest)) : W p l e R s m args below meth c H locs cells slots Q (F0 m pc ls (.int (bI b) :: rest)) :=
  lv_if_ne hexec hb hdg ht (fun h => kt (bI_1.mp h)) (fun h => kf (bI_0.mp h))
theorem tl_ge (hexec : p.tables.exec = Jvm.exec) (hb : c.code = cc) {x y : Int64} {off : Int} {tgt : Nat} (h1 : decode cc pc = .ok (.lcmp, 1)) (h2 : decode cc (pc + 1) = .ok (.ifCond .ge off, 3)) (ht : ((pc + 1 : Nat) : Int) + off = (tgt : Int)) (kt : y ≤ x → W p l e R s m args below meth c H locs cells slots Q (F0 m tgt ls rest)) (kf : ¬ y ≤ x → W p l e R s m args below meth c H locs cells slots Q (F0 m (pc + 1 + 3) ls rest)) : W p l e R s m args below meth c H locs cells slots Q (F0 m pc ls (.long y :: .long x :: rest)) :=
  W.lcmp hexec hb h1 (lv_if_ge hexec hb h2 ht (fun h => kt ((lg_cmp_ge x y).mp h)) (fun h => kf (fun h3 => h ((lg_cmp_ge x y).mpr h3))))
theorem tl_le (hexec : p.tables.exec = Jvm.exec) (hb : c.code = cc) {x y : Int64} {off : Int} {tgt : Nat} (h1 : decode cc pc = .ok (.lcmp, 1)) (h2 : decode cc (pc + 1) = .ok (.ifCond .le off, 3)) (ht : ((pc + 1 : Nat) : Int) + off = (tgt : Int)) (kt : x ≤ y → W p l e R s m args below meth c H locs cells slots Q (F0 m tgt ls rest)) (kf : ¬ x ≤ y → W p l e R s m args below meth c H locs cells slots Q (F0 m (pc + 1 + 3) ls rest)) : W p l e R s m args below meth c H locs cells slots Q (F0 m pc ls (.long y :: .long x :: rest)) :=
  W.lcmp hexec hb h1 (lv_if_le hexec hb h2 ht (fun h => kt ((lg_cmp_le x y).mp h)) (fun h => kf (fun h3 => h ((lg_cmp_le x y).mpr h3))))
theorem tl_gt (hexec : p.tables.exec = Jvm.exec) (hb : c.code = cc) {x y : Int64} {off : Int} {tgt : Nat} (h1 : decode cc pc = .ok (.lcmp, 1)) (h2 : decode cc (pc + 1) = .ok (.ifCond .gt off, 3)) (ht : ((pc + 1 : Nat) : Int) + off = (tgt : Int)) (kt : y < x → W p l e R s m args below meth c H locs cells slots Q (F0 m tgt ls rest)) (kf : ¬ y < x → W p l e R s m args below meth c H locs cells slots Q (F0 m (pc + 1 + 3) ls rest)) : W p l e R s m args below meth c H locs cells slots Q (F0 m pc ls (.long y :: .long x :: rest)) :=
  W.lcmp hexec hb h1 (lv_if_gt hexec hb h2 ht (fun h => kt ((lg_cmp_gt x y).mp h)) (fun h => kf (fun h3 => h ((lg_cmp_gt x y).mpr h3))))
theorem tl_lt (hexec : p.tables.exec = Jvm.exec) (hb : c.code = cc) {x y : Int64} {off : Int} {tgt : Nat} (h1 : decode cc pc = .ok (.lcmp, 1)) (h2 : decode cc (pc + 1) = .ok (.ifCond .lt off, 3)) (ht : ((pc + 1 : Nat) : Int) + off = (tgt : Int)) (kt : x < y → W p l e R s m args below meth c H locs cells slots Q (F0 m tgt ls rest)) (kf : ¬ x < y → W p l e R s m args below meth c H locs cells slots Q (F0 m (pc + 1 + 3) ls rest)) : W p l e R s m args below meth c H locs cells slots Q (F0 m pc ls (.long y :: .long x :: rest)) :=
  W.lcmp hexec hb h1 (lv_if_lt hexec hb h2 ht (fun h => kt ((lg_cmp_lt x y).mp h)) (fun h => kf (fun h3 => h ((lg_cmp_lt x y).mpr h3))))
theorem tl_eq (hexec : p.tables.exec = Jvm.exec) (hb : c.code = cc) {x y : Int64} {off : Int} {tgt : Nat} (h1 : decode cc pc = .ok (.lcmp, 1)) (h2 : decode cc (pc + 1) = .ok (.ifCond .eq off, 3)) (ht : ((pc + 1 : Nat) : Int) + off = (tgt : Int)) (kt : x = y → W p l e R s m args below meth c H locs cells slots Q (F0 m tgt ls rest)) (kf : ¬ x = y → W p l e R s m args below meth c H locs cells slots Q (F0 m (pc + 1 + 3) ls rest)) : W p l e R s m args below meth c H locs cells slots Q (F0 m pc ls (.long y :: .long x :: rest)) :=
  W.lcmp hexec hb h1 (lv_if_eq hexec hb h2 ht (fun h => kt ((lg_cmp_eq x y).mp h)) (fun h => kf (fun h3 => h ((lg_cmp_eq x y).mpr h3))))
theorem tl_ne (hexec : p.tables.exec = Jvm.exec) (hb : c.code = cc) {x y : Int64} {off : Int} {tgt : Nat} (h1 : decode cc pc = .ok (.lcmp, 1)) (h2 : decode cc (pc + 1) = .ok (.ifCond .ne off, 3)) (ht : ((pc + 1 : Nat) : Int) + off = (tgt : Int)) (kt : ¬ x = y → W p l e R s m args below meth c H locs cells slots Q (F0 m tgt ls rest)) (kf : x = y → W p l e R s m args below meth c H locs cells slots Q (F0 m (pc + 1 + 3) ls rest)) : W p l e R s m args below meth c H locs cells slots Q (F0 m pc ls (.long y :: .long x :: rest)) :=
  W.lcmp hexec hb h1 (lv_if_ne hexec hb h2 ht (fun h => kt (fun h3 => h ((lg_cmp_eq x y).mpr h3))) (fun h => kf ((lg_cmp_eq x y).mp h)))
end TR
