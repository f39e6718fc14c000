/-! Rows of mine for methods that throw: a contract for a method that always throws from the given start (it writes nothing and makes one cell, the exception), the call of such a method, leaving a method by the throw, and the catch. -/
theorem tw_keep {s t : State} {k n : Nat} (h : s.sameButNew t [] k n) : ∀ q : Nat, q < s.heap.size → t.heap[q]? = s.heap[q]? := by
  intro q hq
  have hc : s.heap[q]? = some (s.heap[q]) := Array.getElem?_eq_getElem hq
  obtain ⟨c', h1, h2, h3, h4⟩ := h.2.2.2.2.2 q _ hc
  have e : c'.slots = (s.heap[q]).slots := Array.ext_getElem? (fun i => h4 i (by simp))
  rw [e] at h2
  rw [h1, hc, h2]
/-- the end of a throwing method, as its caller sees it -/
def tw_Q (E : String) : Array Value → State → Outcome → State → Prop := fun _ st o t =>
  ∃ x : Addr, o = .threw x ∧ st.heap.size ≤ x ∧ (∃ cell : Cell, t.heap[x]? = some cell ∧ cell.vm = .none ∧ st.vm.findClass E = some cell.cls) ∧ st.WarmedH t.vm ∧ st.sameButNew ({ t with vm := st.vm } : State) [] 1 6
def tw_Met (l : Launch) (y : MethodName) (ws : List Cond) (rm : Room) (Pc : Array Value → State → Prop) (E : String) : Prop :=
  MetFree l y (headSpec ws rm) Pc (fun _ _ _ _ _ => True) (tw_Q E)
def tw_MQ (below : List Frame) (a : Array Value) (s : State) (E : String) : State → Prop := fun t => ∃ o, t.status = .running ∧ Ended t below o ∧ tw_Q E a s o t
theorem tw_ofW {l : Launch} {y : MethodName} {ws ws' : List Cond} {rm : Room} {Pc : Array Value → State → Prop} {E : String} {cc : ByteArray} {maxL : Nat} {ret : Option FieldType}
    (hy : plainName y.cls = true) (hw : ws = Cond.code y cc maxL ret :: ws')
    (body : ∀ p e s m args below meth c s₁, BodyLoose p l y (headSpec ws rm) cc maxL ret e s m args below meth c s₁ → c.maxLocals = maxL → c.exceptionTable.isEmpty = true → Pc args s →
      W p l e (headSpec ws rm).room s m args below meth c s.heap [] 0 0 (tw_MQ below args s E) (entryFrame m args maxL)) : tw_Met l y ws rm Pc E := by
  refine MetFree.of_bodyS (code := cc) (maxLocals := maxL) (ret := ret) hy ?_ ?_
  · intro args s m h hn
    obtain ⟨meth, c, h1, h2, h3, h4, h5, h6, -, -⟩ := Cond.code_spec hn (atoms_spec (ws := ws) h _ (by rw [hw]; exact List.mem_cons_self))
    exact ⟨meth, c, h1, h2, h3, h4, h5, h6⟩
  · intro p e s m args below meth c s₁ B hml hP _
    have hh0 : s₁.heap = s.heap := by rw [B.state]; rfl
    have hne : c.exceptionTable.isEmpty = true := B.noHandlers (atoms_spec (ws := ws) B.pre _ (by rw [hw]; exact List.mem_cons_self))
    obtain ⟨t, a1, o, b1, b2, b3⟩ := body p e s m args below meth c s₁ B hml hne hP s₁ hh0 (Stand.of_body B)
    exact ⟨t, o, a1, b1, b2, b3⟩
section TW
variable {p : Program} {l : Launch} {e : Env} {R : Room} {s : State} {m : MethodId} {args : Array Value} {below : List Frame} {meth : Method} {c : Code} {H : Heap} {locs : List Loc} {cells slots : Nat} {Q : State → Prop}
/-- the machine with an exception on its way, over the method's own frame g -/
def tw_T (p : Program) (l : Launch) (e : Env) (R : Room) (s : State) (m : MethodId) (args : Array Value) (below : List Frame) (meth : Method) (c : Code) (H : Heap) (locs : List Loc) (cells slots : Nat) (Q : State → Prop) (g : JFrame) (x : Addr) : Prop :=
  ∀ T : State, T.heap = H → Stand p l e R s m args below meth c T locs cells slots → ∃ t, Steps p.tables e below ((T.setTop g).pushFrame (.throwing x)) t ∧ Q t
/-- what stands behind a throw: the exception's cell is new, all that was there stands -/
def tw_N (E : String) (s : State) (H H1 : Heap) (x : Addr) : Prop :=
  H.size ≤ x ∧ H.size ≤ H1.size ∧ (∃ cell : Cell, H1[x]? = some cell ∧ cell.vm = .none ∧ s.vm.findClass E = some cell.cls) ∧ ∀ q : Nat, q < H.size → H1[q]? = H[q]?
theorem tw_back {y : MethodName} {ws : List Cond} {rm : Room} {Pc : Array Value → State → Prop} {E : String} {bytes : ByteArray} {maxL : Nat} {ret : Option FieldType} {len W : Nat}
    (hM : tw_Met l y ws rm Pc E) (hblind : FrameBlind Pc) (hrc : rm.cells = 1) (hrs : rm.slots = 6) (hframes : rm.frames + 1 ≤ R.frames) (hlocals : W + (maxL + 11) + rm.locals ≤ R.locals)
    (hws : ∀ w ∈ ws, ∀ (a' : Array Value) (U : State), s.WarmedH U.vm → w.before a' U = true) (hcode : Cond.code y bytes maxL ret ∈ ws) (hinit : ∀ (a' : Array Value) (U : State), s.WarmedH U.vm → (Cond.initialized y.cls).before a' U = true)
    {T : State} {locs : List Loc} {cells slots : Nat} {g : JFrame} {ig : Instr} {mk : MethodId} {a : Array Value}
    (X : Stand p l e R s m args below meth c T locs cells slots) (hg : g.method = m) (hsize : g.locals.size = c.maxLocals) (hdg : decode c.code g.pc = .ok (ig, len))
    (hW : 2 * g.monitorRoom + (g.stack.map fun v => v.category).sum ≤ W) (hn : T.methodNamed? y = some mk) (hc1 : cells + 1 ≤ R.cells) (hs6 : slots + 6 ≤ R.slots) (hp : Pc a T) :
    ∃ (x : Addr) (T' : State), Stand p l e R s m args below meth c T' locs (cells + 1) (slots + 6) ∧ tw_N E s T.heap T'.heap x ∧
      Steps p.tables e below (doInvoke e (T.setTop g) [] mk a).1 ((T'.setTop g).pushFrame (.throwing x)) := by
  have h2 : (Cond.code y bytes maxL ret).before a T = true := hws _ hcode _ _ X.warmed
  obtain ⟨methY, cY, hmY, hcY, -, hlY, -, -, -, -⟩ := Cond.code_spec hn h2
  obtain ⟨kY, hkY, -⟩ := className_of_methodNamed hn
  have hinitY : kY.init = .initialized := Cond.initialized_spec (findClass_of_methodNamed hn) hkY (hinit a T X.warmed)
  have h : At T g.method c below := by rw [hg]; exact X.here
  have happ : (headSpec ws rm).appliesLoose y e.platform (T.calling g mk a) = true :=
    Spec.appliesLoose_calling (g := g) h hdg hn hkY hinitY
      (X.room_calling (g := g) (R' := (headSpec ws rm).room) hsize hmY hcY hframes (by rw [hlY]; exact (by have : (headSpec ws rm).room.locals = rm.locals := rfl; omega)) (by rw [show (headSpec ws rm).room.cells = 1 from hrc]; exact hc1) (by rw [show (headSpec ws rm).room.slots = 6 from hrs]; exact hs6))
      (atoms_intro fun w hw => hws w hw _ _ X.warmed)
  obtain ⟨mid, hmid⟩ := h.above
  have hfr : (T.setTop g).frames = (.java g :: mid) ++ below := by rw [State.frames_setTop' g h.top, hmid]; rfl
  obtain ⟨o, s₂, hsteps, -, hend, hq⟩ := Steps.callFree hM p X.admits X.cas X.clock (acts := []) hfr happ (hblind _ _ _ _ hp) trivial
  obtain ⟨x, rfl, hx, ⟨cell, hcx, hcv, hcc⟩, hW₂, hsame⟩ : tw_Q E a (T.calling g mk a) o s₂ := hq
  rw [State.frames_setTop' g h.top, X.tail] at hend
  obtain ⟨T', X', hWT, hsm, ht⟩ := X.outOfThrown hg hend hW₂ hsame
  have hh : s₂.heap = T'.heap := by rw [ht]; exact Stand.throwing_heap T' g x
  refine ⟨x, T', by simpa using X', ⟨hx, hsm.2.1, ⟨cell, by rw [← hh]; exact hcx, hcv, ?_⟩, fun q hq => tw_keep hsm q hq⟩, by rw [← ht]; exact hsteps⟩
  have h1 : T.vm.findClass E = some cell.cls := hcc
  rw [X.warmed.alike.findClass] at h1
  exact h1
variable {y : MethodName} {bytes cc : ByteArray} {maxL nL n index : Nat} {ret : Option FieldType} {ws : List Cond} {rm : Room} {Pc : Array Value → State → Prop} {E : String} {Ts : List Cond} {own C : String} {b : Addr} {As rest st0 : List Value} {pc : Nat} {ls : Array Slot}
/-- a static call of a method that throws -/
theorem tw_runS (S : CallFix p m c cc nL s args Ts own) (hM : tw_Met l y ws rm Pc E) (cw : CallB R s args own index y bytes maxL ret ws rm 1 6 n ∧ (Cond.static y).before args s = true) (hp : PreS s H Pc As)
    (hn : As.length = n) (hsize : ls.size = nL) (hstack : st0 = As.reverse ++ rest) (hW : (rest.map fun v => v.category).sum ≤ 8) (hdg : decode cc pc = .ok (.invokestatic index, 3)) (hf : cells + 1 ≤ R.cells ∧ slots + 6 ≤ R.slots)
    (kk : ∀ (x : Addr) (H1 : Heap), tw_N E s H H1 x → tw_T p l e R s m args below meth c H1 locs (cells + 1) (slots + 6) Q (F0 m pc ls rest) x) : W p l e R s m args below meth c H locs cells slots Q (F0 m pc ls st0) := by
  obtain ⟨⟨hrc, hrs, hfr, hlo, hws, hcw, hcode, hini, hy, hlen, hl⟩, hstt⟩ := cw
  obtain ⟨hx, hb, hml, ho, -⟩ := S
  intro T hT X
  obtain ⟨mk, hnamed⟩ := Cond.code_named hcode
  obtain ⟨methM, cM, hmethM, -, -, -, -, -, -, hsigM⟩ := Cond.code_spec hnamed hcode
  have hstatic : methM.isStatic = true := Cond.static_spec hnamed hmethM hstt
  obtain ⟨kP, hkP, -⟩ := className_of_methodNamed hnamed
  have hinitP : kP.init = .initialized := Cond.initialized_spec (findClass_of_methodNamed hnamed) hkP hini
  obtain ⟨vm₁, X₁, hstep₁⟩ := X.invokestatic hx ho hl hnamed hmethM hstatic hkP hinitP hy (g := F0 m pc ls st0) rfl (argsL := As) (rest := rest) (hn.trans (hlen _ hsigM)) hstack (by rw [hb]; exact hdg)
  obtain ⟨x, T', X', hN, hsteps⟩ := tw_back (len := 3) (W := 8) (ig := .invokestatic index) (a := As.toArray) hM hp.1 hrc hrs hfr hlo hws hcw (fun a' U hW => word_at hW (Or.inl (by first | rfl | simp [Cond.onTables, Cond.keeps, Cond.steady])) hini) (g := F0 m pc ls rest) X₁ rfl (hsize.trans hml.symm) (by rw [hb]; exact hdg) (by simpa using hW) (X₁.named hnamed) hf.1 hf.2 (hp.2 (T.setVm vm₁) hT X₁.warmed)
  obtain ⟨t, a1, b1⟩ := kk x T'.heap (by rw [← hT]; exact hN) T' rfl X'
  exact ⟨t, hstep₁ _ fun acts => by rw [doInvoke_state]; exact hsteps.trans a1, b1⟩
/-- a virtual call of a method that throws -/
theorem tw_runV (S : CallFix p m c cc nL s args Ts own) (hM : tw_Met l y ws rm Pc E) (cw : CallW R s args own C index y bytes maxL ret ws rm 1 6 n) (hp : PreV s H C b Pc As)
    (hn : As.length = n) (hsize : ls.size = nL) (hstack : st0 = As.reverse ++ .ref b :: rest) (hW : (rest.map fun v => v.category).sum ≤ 8) (hdg : decode cc pc = .ok (.invokevirtual index, 3)) (hf : cells + 1 ≤ R.cells ∧ slots + 6 ≤ R.slots)
    (kk : ∀ (x : Addr) (H1 : Heap), tw_N E s H H1 x → tw_T p l e R s m args below meth c H1 locs (cells + 1) (slots + 6) Q (F0 m pc ls rest) x) : W p l e R s m args below meth c H locs cells slots Q (F0 m pc ls st0) := by
  obtain ⟨⟨hrc, hrs, hfr, hlo, hws, hcw, hcode, hini, hy, hlen, hl⟩, hinst, hsel⟩ := cw
  obtain ⟨hx, hb, hml, ho, -⟩ := S
  obtain ⟨hblind, ⟨cellB, hcB, hoB, hclB⟩, hPc⟩ := hp
  intro T hT X
  obtain ⟨mk, methM, hnamed, hmethM, hstM, habM⟩ := Cond.instanceMethod_spec hinst
  obtain ⟨methM', cM, hmethM', -, -, -, -, -, -, hsigM⟩ := Cond.code_spec hnamed hcode
  cases hmethM.symm.trans hmethM'
  obtain ⟨c2, r2, m2, q1, q2, q3, q4, kP, hkP, hkPi⟩ := Cond.selects_spec hsel
  cases hclB.symm.trans q1
  cases (State.methodFound?_of_named hnamed hy).symm.trans q2
  cases hnamed.symm.trans q3
  have hselP : selectMethod e.platform s.vm cellB.cls mk = .method mk := by rw [Launch.admits_selectMethod X.admits]; exact q4
  obtain ⟨vm₁, X₁, hstep₁⟩ := X.invokevirtual hx ho hl hnamed hmethM hstM hkP hkPi hy (a := b) (cell := cellB) (by rw [hT]; exact hcB)
    (fun z h => by rw [h] at hoB; cases hoB) hselP hmethM habM hkP hkPi (g := F0 m pc ls st0) rfl (argsL := As) (rest := rest) (hn.trans (hlen _ hsigM)) hstack (by rw [hb]; exact hdg)
  obtain ⟨x, T', X', hN, hsteps⟩ := tw_back (len := 3) (W := 8) (ig := .invokevirtual index) (a := (Value.ref b :: As).toArray) hM hblind hrc hrs hfr hlo hws hcw (fun a' U hW => word_at hW (Or.inl (by first | rfl | simp [Cond.onTables, Cond.keeps, Cond.steady])) hini) (g := F0 m pc ls rest) X₁ rfl (hsize.trans hml.symm) (by rw [hb]; exact hdg) (by simpa using hW) (X₁.named hnamed) hf.1 hf.2 (hPc (T.setVm vm₁) hT X₁.warmed)
  obtain ⟨t, a1, b1⟩ := kk x T'.heap (by rw [← hT]; exact hN) T' rfl X'
  exact ⟨t, hstep₁ _ fun acts => by rw [doInvoke_state]; exact hsteps.trans a1, b1⟩
/-- the exception leaves the method -/
theorem tw_leave {x : Addr} (hlocks : meth.locks = false) (hne : c.exceptionTable.isEmpty = true) (hN : tw_N E s s.heap H x) : tw_T p l e R s m args below meth c H [] 1 6 (tw_MQ below args s E) (F0 m pc ls rest) x := by
  intro T hT X
  obtain ⟨st, r1, r2, r3, r4⟩ := X.leaveThrown x (g := F0 m pc ls rest) rfl rfl rfl (fun y hy => by
    rw [Array.isEmpty_iff] at hne
    rw [hne] at hy
    cases hy) hlocks
  obtain ⟨h1, h2, h3, h4⟩ := hN
  refine ⟨_, st, .threw x, r1, r2, x, rfl, h1, ?_, r3, r4⟩
  obtain ⟨cell, k1, k2, k3⟩ := h3
  exact ⟨cell, by rw [show (T.setFrames (.throwing x :: below)).heap = T.heap from rfl, hT]; exact k1, k2, k3⟩
end TW
section TC
variable {e : Env} {s0 : State} {f : JFrame} {a : Addr} {cell : Cell}
/-- an entry of the table that lets the exception pass: it names a class that the exception isn't of -/
def tw_no (pl : Platform) (s0 : State) (d : ClassId) (thrown : ClassId) (y : ExceptionTableEntry) : Prop := y.catchType ≠ 0 ∧ ∃ k, s0.vm.ClassLinks pl d y.catchType k ∧ s0.vm.assignable thrown k = false
def tw_yes (pl : Platform) (s0 : State) (d : ClassId) (thrown : ClassId) (y : ExceptionTableEntry) : Prop := y.catchType ≠ 0 ∧ ∃ k, s0.vm.ClassLinks pl d y.catchType k ∧ s0.vm.assignable thrown k = true
/-- one entry that covers the place, its class cold or warm: taken, or the search goes on over the warmer tables -/
theorem tw_one {S : State} {y : ExceptionTableEntry} {r : List ExceptionTableEntry} {k : ClassId} (hW : s0.WarmedH S.vm) (hc : S.heap[a]? = some cell) (ho : ∀ z, cell.vm ≠ .statics z) (h0 : ∃ z, s0.vm.classes[cell.cls]? = some z)
    (hy : covers y f.pc = true) (hy0 : y.catchType ≠ 0) (hl : s0.vm.ClassLinks e.platform f.method.cls y.catchType k) :
    ∃ vm', s0.WarmedH vm' ∧ ∀ (Q : Handler → Pre) (E : CtlPost) (d : Bool) (acts : List Action), wp (findHandler.go f a (y :: r)) Q E e d acts S ↔
      if s0.vm.assignable cell.cls k = true then Q (.found y.handlerPc) d acts (S.setVm vm') else wp (findHandler.go f a r) Q E e d acts (S.setVm vm') := by
  obtain ⟨dk, _, _, kt, hd, _, _, _, _, hkt, _, hopen⟩ := hl.here
  have hl' := hW.classLinks hl
  refine ⟨S.vm.noted f.method.cls y.catchType (.cls k), hW.noted hd hopen (State.rightAt_cls hl), fun Q E d acts => ?_⟩
  obtain ⟨z0, h0⟩ := h0
  have hal : s0.vm.Alike (S.vm.noted f.method.cls y.catchType (.cls k)) := (hW.noted hd hopen (State.rightAt_cls hl)).alike
  obtain ⟨z1, hz1, -⟩ := hal.2.2 _ _ h0
  obtain ⟨z2, hz2, -⟩ := hal.2.2 _ _ hkt
  have he : (S.vm.noted f.method.cls y.catchType (.cls k)).assignable cell.cls k = s0.vm.assignable cell.cls k := by rw [hal.assignable]
  obtain ⟨ha, ht⟩ := (resolveClass_links e.toSetting hl').op (op := VmOp.resolveClass f.method.cls y.catchType) rfl
  simp only [covers] at hy
  by_cases hq : s0.vm.assignable cell.cls k = true
  · rw [if_pos hq]
    rw [hq] at he
    simp [findHandler.go, hy, hy0, ha, ht, hc, ho, hz1, hz2, he, VmOp.dirties, VmOp.acts]
  · rw [if_neg hq]
    have hq' : s0.vm.assignable cell.cls k = false := by simpa using hq
    rw [hq'] at he
    simp [findHandler.go, hy, hy0, ha, ht, hc, ho, hz1, hz2, he, VmOp.dirties, VmOp.acts]
theorem tw_search (x : ExceptionTableEntry) (r : List ExceptionTableEntry) (ho : ∀ z, cell.vm ≠ .statics z) (h0 : ∃ z, s0.vm.classes[cell.cls]? = some z) (hx : covers x f.pc = true) (hyes : tw_yes e.platform s0 f.method.cls cell.cls x) :
    ∀ (pre : List ExceptionTableEntry) (S : State), s0.WarmedH S.vm → S.heap[a]? = some cell → (∀ y ∈ pre, covers y f.pc = true ∧ tw_no e.platform s0 f.method.cls cell.cls y) →
      ∃ vm', s0.WarmedH vm' ∧ ∀ (Q : Handler → Pre) (E : CtlPost) (d : Bool) (acts : List Action), wp (findHandler.go f a (pre ++ x :: r)) Q E e d acts S ↔ Q (.found x.handlerPc) d acts (S.setVm vm') := by
  intro pre
  induction pre with
  | nil =>
    intro S hW hc _
    obtain ⟨hn, k, hl, hf⟩ := hyes
    obtain ⟨vm', hW', hq⟩ := tw_one (e := e) (r := r) hW hc ho h0 hx hn hl
    exact ⟨vm', hW', fun Q E d acts => by rw [List.nil_append, hq Q E d acts, if_pos hf]⟩
  | cons y ys ih =>
    intro S hW hc hp
    obtain ⟨hcy, hn, k, hl, hf⟩ := hp y List.mem_cons_self
    obtain ⟨vm1, hW1, hq1⟩ := tw_one (e := e) (r := ys ++ x :: r) hW hc ho h0 hcy hn hl
    obtain ⟨vm2, hW2, hq2⟩ := ih (S.setVm vm1) hW1 hc (fun z hz => hp z (List.mem_cons_of_mem _ hz))
    exact ⟨vm2, hW2, fun Q E d acts => by
      rw [List.cons_append, hq1 Q E d acts, if_neg (by rw [hf]; decide)]
      exact hq2 Q E d acts⟩
end TC
section TD
variable {p : Program} {l : Launch} {e : Env} {R : Room} {s : State} {m : MethodId} {args : Array Value} {below : List Frame} {meth : Method} {c : Code} {H : Heap} {locs : List Loc} {cells slots : Nat} {Q : State → Prop}
theorem tw_vmf (S : State) (vm' : Vm) (F G : List Frame) : ((S.setFrames F).setVm vm').setFrames G = (S.setVm vm').setFrames G := by
  have h1 : (S.setFrames F).setVm vm' = (S.setVm vm').setFrames F := rfl
  rw [h1, State.setFrames_setFrames]
theorem tw_step {T : State} {vm' : Vm} {g : JFrame} {x : Addr} {hp : Nat} {target : State} (X : Stand p l e R s m args below meth c T locs cells slots) (hg : g.method = m)
    (hf : ∀ (Q : Handler → Pre) (E : CtlPost) (d : Bool) (acts : List Action), wp (findHandler g x) Q E e d acts ((T.setTop g).pushFrame (.throwing x)) ↔ Q (.found hp) d acts (((T.setTop g).pushFrame (.throwing x)).setVm vm'))
    (hrest : Steps p.tables e below ((T.setVm vm').setTop { g with pc := hp, stack := [.ref x] }) target) : Steps p.tables e below ((T.setTop g).pushFrame (.throwing x)) target := by
  subst hg
  have h := X.here
  obtain ⟨hgo, hw⟩ := h.throwing x
  refine Steps.head hgo hw ?_
  have hs : (stepThrowing e ((T.setTop g).pushFrame (.throwing x)) x (.java g :: T.frames.tail)).Is ((((T.setTop g).pushFrame (.throwing x)).setVm vm').setFrames (.java { g with pc := hp, stack := [.ref x] } :: T.frames.tail)) [] := by
    simp only [stepThrowing, searchFrame, vmDo]
    generalize hr : Sem.go _ e false [] ((T.setTop g).pushFrame (.throwing x)) = res
    obtain ⟨as, rfl, ha⟩ := Sem.eq_ok_of hr (a := Handler.found hp) (s' := ((T.setTop g).pushFrame (.throwing x)).setVm vm') (acts' := []) (by simp [hf _ _ _ _])
    exact ⟨rfl, ha⟩
  rw [stepThread_throwing (frames_entered h.top _), hs.1]
  obtain ⟨g₀, hg⟩ := Option.isSome_iff_exists.mp h.top
  obtain ⟨r, hr⟩ := State.topJava?_eq_some.mp hg
  have hr' : (T.setVm vm').frames = .java g₀ :: r := hr
  rw [State.setTop_of_frames _ hr'] at hrest
  rw [hr, List.tail_cons, State.pushFrame, tw_vmf, State.setTop_of_frames _ hr, tw_vmf]
  exact hrest
theorem tw_tab {hh : List (Nat × Nat × Nat × Nat)} {t : List ExceptionTableEntry} (h : t.map (fun h => (h.startPc, h.endPc, h.handlerPc, h.catchType)) = hh) : t = hh.map (fun q => (⟨q.1, q.2.1, q.2.2.1, q.2.2.2⟩ : ExceptionTableEntry)) := by
  subst h
  rw [List.map_map]
  exact (List.map_id t).symm
/-- what the law's words say of a catch: the class of the entry, and whether the exception is of it -/
def tw_cls (own : String) (k : Nat) (name E : String) (yes : Bool) (U : State) : Prop := (Cond.classLink own k name).before #[] U = true ∧ ∃ c1 c2, U.vm.findClass E = some c1 ∧ U.vm.findClass name = some c2 ∧ U.vm.assignable c1 c2 = yes
/-- caught: behind entries that let it pass -/
theorem tw_catch {own E : String} {H0 : Heap} {x : Addr} {pc : Nat} {ls : Array Slot} {st : List Value} (hown : s.vm.findClass own = some m.cls) (hN : tw_N E s H0 H x) (pre : List ExceptionTableEntry) (xe : ExceptionTableEntry) (r : List ExceptionTableEntry)
    (hsplit : c.exceptionTable.toList = pre ++ xe :: r) (hpre : ∀ y ∈ pre, covers y pc = true ∧ y.catchType ≠ 0 ∧ ∃ name, tw_cls own y.catchType name E false s) (hx : covers xe pc = true) (hx0 : xe.catchType ≠ 0) {name : String} (hcls : tw_cls own xe.catchType name E true s)
    (k : W p l e R s m args below meth c H locs cells slots Q (F0 m xe.handlerPc ls [.ref x])) : tw_T p l e R s m args below meth c H locs cells slots Q (F0 m pc ls st) x := by
  intro T hT X
  have hpl : e.platform.magicAccessors = ({} : Platform).magicAccessors := by rw [X.admits.platform]
  obtain ⟨-, -, ⟨cell, hcell, hvm, hfE⟩, -⟩ := hN
  obtain ⟨hlk, c1, c2, g1, g2, g3⟩ := hcls
  cases hfE.symm.trans g1
  obtain ⟨c3, g4, hcl⟩ := Cond.classLink_spec hown hlk e.platform hpl
  cases g2.symm.trans g4
  obtain ⟨dk, _, _, kt, hd, _, _, _, _, hkt, _, hopen⟩ := hcl.here
  have h0 : ∃ z, s.vm.classes[cell.cls]? = some z := Vm.classAt_of_assignable g3 ⟨kt, hkt⟩
  obtain ⟨vm', hW', hq⟩ := tw_search (e := e) (s0 := s) (f := F0 m pc ls st) (a := x) (cell := cell) xe r (by rw [hvm]; intro z hz; cases hz) h0 hx ⟨hx0, c2, hcl, g3⟩ pre ((T.setTop (F0 m pc ls st)).pushFrame (.throwing x))
    (by rw [Stand.throwing_vm]; exact X.warmed) (by rw [Stand.throwing_heap, hT]; exact hcell) (fun y hy => by
      obtain ⟨a1, a2, nm, a3, d1, d2, b1, b2, b3⟩ := hpre y hy
      cases hfE.symm.trans b1
      obtain ⟨d3, b4, hcl'⟩ := Cond.classLink_spec hown a3 e.platform hpl
      cases b2.symm.trans b4
      exact ⟨a1, a2, d2, hcl', b3⟩)
  obtain ⟨t, a1, b1⟩ := k (T.setVm vm') hT (X.noted hW')
  refine ⟨t, tw_step X rfl (fun Q E d acts => ?_) a1, b1⟩
  rw [W.findHandler_eq (meth := meth) (code := c) (by rw [Stand.throwing_vm]; exact X.method') X.code, hsplit]
  exact hq Q E d acts
end TD
section TN
variable {p : Program} {l : Launch} {e : Env} {R : Room} {s : State} {m : MethodId} {args : Array Value} {below : List Frame} {meth : Method} {c : Code} {cc : ByteArray} {nL : Nat}
/-- throw new E("..") at the beginning of a road on which nothing was written or made -/
theorem tw_new {own E tx : String} {index si ic pc : Nat} {names : List String} {ls : Array Slot} (hx : p.tables.exec = Jvm.exec) (hb : c.code = cc) (hml : c.maxLocals = nL) (hsize : ls.size = nL) (hfl : l.stackTraces = false) (hlocks : meth.locks = false) (hne : c.exceptionTable.isEmpty = true)
    (hown : s.vm.findClass own = some m.cls) (hlit : (Cond.stringRef own si tx).before args s = true) (hcl : (Cond.classLink own index E).before args s = true) (hini : (Cond.initialized E).before args s = true)
    (h : ∀ a ∈ Bundle.ownAtoms own ic E names, a.before args s = true) (hE : Bundle.fit E = true) (hnames : ∀ n ∈ names, Bundle.fit n = true)
    (d0 : decode cc pc = .ok (.new index, 3)) (d3 : decode cc (pc + 3) = .ok (.dup, 1)) (d4 : decode cc (pc + 4) = .ok (.ldc si, 2)) (d6 : decode cc (pc + 6) = .ok (.invokespecial ic, 3)) (d9 : decode cc (pc + 9) = .ok (.athrow, 1))
    (hRc : 1 ≤ R.cells) (hRs : 6 ≤ R.slots) (hRf : names.length + 3 < R.frames) (hRl : 1 + (13 * (names.length + 1) + 42) ≤ R.locals) :
    W p l e R s m args below meth c s.heap [] 0 0 (tw_MQ below args s E) (F0 m pc ls []) := by
  have hins : (Cond.instantiable E 6).before args s = true := h _ (by simp [Bundle.ownAtoms])
  refine W.newc hx hb hown hcl hins hini (g := F0 m pc ls []) rfl d0 (by omega) (by omega) ?_
  intro cC kC h1 h2 h3 h4
  refine W.eq (g2 := F0 m (pc + 3) ls [.ref s.heap.size]) rfl ?_
  refine lv_dup hx hb d3 rfl ?_
  obtain ⟨k9, cf9, i9, str, -, -, -, -, -, hstr⟩ := Cond.stringRef_spec hown hlit
  intro T hT X
  have X0 := X
  obtain ⟨U, st, r1, r2, r3, r4, ce, hce, hO⟩ := X.ctorThrowS hx (by rw [X.admits.platform]; exact hfl) hown hE hnames h (fun y hy => by cases hy) h1 h2 (a := s.heap.size) (by rw [hT]; simp [freshCell]) (Nat.le_refl _) (msg := .ref str) rfl
    (g := F0 m (pc + 6) ls [.ref str, .ref s.heap.size, .ref s.heap.size]) rfl (hsize.trans hml.symm) rfl rfl (rest := []) rfl (by rw [hb]; exact d6) (by rw [hb]; exact d9)
    (fun y hy => by
      rw [Array.isEmpty_iff] at hne
      rw [hne] at hy
      cases hy) hRf (by simpa [Value.category] using hRl) hlocks
  refine ⟨U, X0.ldcString hx hown (text := tx) (a := str) hlit hstr (g := F0 m (pc + 4) ls [.ref s.heap.size, .ref s.heap.size]) rfl (by rw [hb]; exact d4) U st, .threw s.heap.size, r1, r2, s.heap.size, rfl, Nat.le_refl _, ⟨ce, hce, hO.vm, hO.cls⟩, r3, ?_⟩
  simpa using r4
end TN
