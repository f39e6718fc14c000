section
-- ===== PART A: goes FIRST, ahead of the names: the tables' words, and 'selects' of the private methods out of them =====
/-- a private method of a class that the tables say can be made, by its rows of tables_1 -/
def lw_okq (q : MethodName × Nat) : Prop := (q.1.cls ≠ "java/lang/invoke/MethodHandle" ∧ q.1.cls ≠ "java/lang/invoke/VarHandle") ∧ Cond.instantiable q.1.cls q.2 ∈ tables_1 ∧ Cond.privateMethod q.1 ∈ tables_1 ∧ Cond.instanceMethod q.1 ∈ tables_1
theorem lw_p0 : lw_okq (⟨"StairPlans$RuleText", "readRule", "(LStairPlans$RuleSet;)Z"⟩, 3) := ⟨⟨by decide +kernel, by decide +kernel⟩, List.mem_of_getElem? (i := 29) (by decide +kernel), List.mem_of_getElem? (i := 195) (by decide +kernel), List.mem_of_getElem? (i := 196) (by decide +kernel)⟩
theorem lw_p1 : lw_okq (⟨"StairPlans$RuleText", "readSum", "(LStairPlans$RuleSet;)Z"⟩, 3) := ⟨⟨by decide +kernel, by decide +kernel⟩, List.mem_of_getElem? (i := 29) (by decide +kernel), List.mem_of_getElem? (i := 199) (by decide +kernel), List.mem_of_getElem? (i := 200) (by decide +kernel)⟩
theorem lw_p2 : lw_okq (⟨"StairPlans$RuleText", "readTerm", "(LStairPlans$RuleSet;)Z"⟩, 3) := ⟨⟨by decide +kernel, by decide +kernel⟩, List.mem_of_getElem? (i := 29) (by decide +kernel), List.mem_of_getElem? (i := 203) (by decide +kernel), List.mem_of_getElem? (i := 204) (by decide +kernel)⟩
theorem lw_p3 : lw_okq (⟨"StairPlans$RuleText", "readNumber", "(I)I"⟩, 3) := ⟨⟨by decide +kernel, by decide +kernel⟩, List.mem_of_getElem? (i := 29) (by decide +kernel), List.mem_of_getElem? (i := 207) (by decide +kernel), List.mem_of_getElem? (i := 208) (by decide +kernel)⟩
theorem lw_p4 : lw_okq (⟨"StairPlans$RuleText", "next", "()C"⟩, 3) := ⟨⟨by decide +kernel, by decide +kernel⟩, List.mem_of_getElem? (i := 29) (by decide +kernel), List.mem_of_getElem? (i := 211) (by decide +kernel), List.mem_of_getElem? (i := 212) (by decide +kernel)⟩
theorem lw_p5 : lw_okq (⟨"StairPlans", "forgetPlan", "()V"⟩, 10) := ⟨⟨by decide +kernel, by decide +kernel⟩, List.mem_of_getElem? (i := 21) (by decide +kernel), List.mem_of_getElem? (i := 314) (by decide +kernel), List.mem_of_getElem? (i := 315) (by decide +kernel)⟩
theorem lw_p6 : lw_okq (⟨"java/lang/Throwable", "fillInStackTrace", "(I)Ljava/lang/Throwable;"⟩, 6) := ⟨⟨by decide +kernel, by decide +kernel⟩, List.mem_of_getElem? (i := 366) (by decide +kernel), List.mem_of_getElem? (i := 364) (by decide +kernel), List.mem_of_getElem? (i := 365) (by decide +kernel)⟩
theorem lw_p7 : lw_okq (⟨"StairPlans$RuleSet", "sumTimesRises", "(ILStairPlans$Stair;)J"⟩, 4) := ⟨⟨by decide +kernel, by decide +kernel⟩, List.mem_of_getElem? (i := 47) (by decide +kernel), List.mem_of_getElem? (i := 455) (by decide +kernel), List.mem_of_getElem? (i := 456) (by decide +kernel)⟩
theorem lw_p8 : lw_okq (⟨"StairPlans", "requirePlan", "()V"⟩, 10) := ⟨⟨by decide +kernel, by decide +kernel⟩, List.mem_of_getElem? (i := 21) (by decide +kernel), List.mem_of_getElem? (i := 475) (by decide +kernel), List.mem_of_getElem? (i := 476) (by decide +kernel)⟩
theorem lw_p9 : lw_okq (⟨"StairPlans$Stair", "cornerX", "()J"⟩, 7) := ⟨⟨by decide +kernel, by decide +kernel⟩, List.mem_of_getElem? (i := 94) (by decide +kernel), List.mem_of_getElem? (i := 515) (by decide +kernel), List.mem_of_getElem? (i := 516) (by decide +kernel)⟩
theorem lw_p10 : lw_okq (⟨"StairPlans", "requireWinders", "()V"⟩, 10) := ⟨⟨by decide +kernel, by decide +kernel⟩, List.mem_of_getElem? (i := 21) (by decide +kernel), List.mem_of_getElem? (i := 545) (by decide +kernel), List.mem_of_getElem? (i := 546) (by decide +kernel)⟩
theorem lw_p11 : lw_okq (⟨"StairPlans$FloorSet", "isOver", "(ILStairPlans$Stair;I)Z"⟩, 6) := ⟨⟨by decide +kernel, by decide +kernel⟩, List.mem_of_getElem? (i := 68) (by decide +kernel), List.mem_of_getElem? (i := 621) (by decide +kernel), List.mem_of_getElem? (i := 622) (by decide +kernel)⟩
theorem lw_p12 : lw_okq (⟨"StairPlans$Stair", "scaledStringSquare", "()J"⟩, 7) := ⟨⟨by decide +kernel, by decide +kernel⟩, List.mem_of_getElem? (i := 94) (by decide +kernel), List.mem_of_getElem? (i := 642) (by decide +kernel), List.mem_of_getElem? (i := 643) (by decide +kernel)⟩
theorem lw_p13 : lw_okq (⟨"StairPlans$Stair", "scaledSquare", "(J)J"⟩, 7) := ⟨⟨by decide +kernel, by decide +kernel⟩, List.mem_of_getElem? (i := 94) (by decide +kernel), List.mem_of_getElem? (i := 650) (by decide +kernel), List.mem_of_getElem? (i := 651) (by decide +kernel)⟩
theorem lw_p14 : lw_okq (⟨"StairPlansModel", "readRule", "(I)V"⟩, 19) := ⟨⟨by decide +kernel, by decide +kernel⟩, List.mem_of_getElem? (i := 689) (by decide +kernel), List.mem_of_getElem? (i := 774) (by decide +kernel), List.mem_of_getElem? (i := 775) (by decide +kernel)⟩
theorem lw_p15 : lw_okq (⟨"StairPlansModel", "readTerm", "(I)V"⟩, 19) := ⟨⟨by decide +kernel, by decide +kernel⟩, List.mem_of_getElem? (i := 689) (by decide +kernel), List.mem_of_getElem? (i := 778) (by decide +kernel), List.mem_of_getElem? (i := 779) (by decide +kernel)⟩
def lw_privs_1 : List (MethodName × Nat) := [(⟨"StairPlans$RuleText", "readRule", "(LStairPlans$RuleSet;)Z"⟩, 3), (⟨"StairPlans$RuleText", "readSum", "(LStairPlans$RuleSet;)Z"⟩, 3), (⟨"StairPlans$RuleText", "readTerm", "(LStairPlans$RuleSet;)Z"⟩, 3), (⟨"StairPlans$RuleText", "readNumber", "(I)I"⟩, 3), (⟨"StairPlans$RuleText", "next", "()C"⟩, 3), (⟨"StairPlans", "forgetPlan", "()V"⟩, 10), (⟨"java/lang/Throwable", "fillInStackTrace", "(I)Ljava/lang/Throwable;"⟩, 6), (⟨"StairPlans$RuleSet", "sumTimesRises", "(ILStairPlans$Stair;)J"⟩, 4), (⟨"StairPlans", "requirePlan", "()V"⟩, 10), (⟨"StairPlans$Stair", "cornerX", "()J"⟩, 7), (⟨"StairPlans", "requireWinders", "()V"⟩, 10), (⟨"StairPlans$FloorSet", "isOver", "(ILStairPlans$Stair;I)Z"⟩, 6), (⟨"StairPlans$Stair", "scaledStringSquare", "()J"⟩, 7), (⟨"StairPlans$Stair", "scaledSquare", "(J)J"⟩, 7), (⟨"StairPlansModel", "readRule", "(I)V"⟩, 19), (⟨"StairPlansModel", "readTerm", "(I)V"⟩, 19)]
theorem lw_r1 : ∀ q ∈ lw_privs_1, lw_okq q := List.forall_mem_cons.mpr ⟨lw_p0, List.forall_mem_cons.mpr ⟨lw_p1, List.forall_mem_cons.mpr ⟨lw_p2, List.forall_mem_cons.mpr ⟨lw_p3, List.forall_mem_cons.mpr ⟨lw_p4, List.forall_mem_cons.mpr ⟨lw_p5, List.forall_mem_cons.mpr ⟨lw_p6, List.forall_mem_cons.mpr ⟨lw_p7, List.forall_mem_cons.mpr ⟨lw_p8, List.forall_mem_cons.mpr ⟨lw_p9, List.forall_mem_cons.mpr ⟨lw_p10, List.forall_mem_cons.mpr ⟨lw_p11, List.forall_mem_cons.mpr ⟨lw_p12, List.forall_mem_cons.mpr ⟨lw_p13, List.forall_mem_cons.mpr ⟨lw_p14, List.forall_mem_cons.mpr ⟨lw_p15, fun _ h => absurd h List.not_mem_nil⟩⟩⟩⟩⟩⟩⟩⟩⟩⟩⟩⟩⟩⟩⟩⟩
theorem lw_p16 : lw_okq (⟨"StairPlansModel", "readDigits", "(I)I"⟩, 19) := ⟨⟨by decide +kernel, by decide +kernel⟩, List.mem_of_getElem? (i := 689) (by decide +kernel), List.mem_of_getElem? (i := 782) (by decide +kernel), List.mem_of_getElem? (i := 783) (by decide +kernel)⟩
theorem lw_p17 : lw_okq (⟨"StairPlansModel", "isDigit", "()Z"⟩, 19) := ⟨⟨by decide +kernel, by decide +kernel⟩, List.mem_of_getElem? (i := 689) (by decide +kernel), List.mem_of_getElem? (i := 786) (by decide +kernel), List.mem_of_getElem? (i := 787) (by decide +kernel)⟩
theorem lw_p18 : lw_okq (⟨"StairPlansModel", "here", "()I"⟩, 19) := ⟨⟨by decide +kernel, by decide +kernel⟩, List.mem_of_getElem? (i := 689) (by decide +kernel), List.mem_of_getElem? (i := 790) (by decide +kernel), List.mem_of_getElem? (i := 791) (by decide +kernel)⟩
theorem lw_p19 : lw_okq (⟨"StairPlansModel", "fail", "()V"⟩, 19) := ⟨⟨by decide +kernel, by decide +kernel⟩, List.mem_of_getElem? (i := 689) (by decide +kernel), List.mem_of_getElem? (i := 797) (by decide +kernel), List.mem_of_getElem? (i := 798) (by decide +kernel)⟩
theorem lw_p20 : lw_okq (⟨"StairPlansModel", "holding", "(JJI)I"⟩, 19) := ⟨⟨by decide +kernel, by decide +kernel⟩, List.mem_of_getElem? (i := 689) (by decide +kernel), List.mem_of_getElem? (i := 807) (by decide +kernel), List.mem_of_getElem? (i := 808) (by decide +kernel)⟩
theorem lw_p21 : lw_okq (⟨"StairPlansModel", "holds", "(IJJI)Z"⟩, 19) := ⟨⟨by decide +kernel, by decide +kernel⟩, List.mem_of_getElem? (i := 689) (by decide +kernel), List.mem_of_getElem? (i := 811) (by decide +kernel), List.mem_of_getElem? (i := 812) (by decide +kernel)⟩
theorem lw_p22 : lw_okq (⟨"StairPlansModel", "none", "()Z"⟩, 19) := ⟨⟨by decide +kernel, by decide +kernel⟩, List.mem_of_getElem? (i := 689) (by decide +kernel), List.mem_of_getElem? (i := 819) (by decide +kernel), List.mem_of_getElem? (i := 820) (by decide +kernel)⟩
theorem lw_p23 : lw_okq (⟨"StairPlansModel", "sort", "(I)I"⟩, 19) := ⟨⟨by decide +kernel, by decide +kernel⟩, List.mem_of_getElem? (i := 689) (by decide +kernel), List.mem_of_getElem? (i := 831) (by decide +kernel), List.mem_of_getElem? (i := 832) (by decide +kernel)⟩
theorem lw_p24 : lw_okq (⟨"StairPlansModel", "before", "()I"⟩, 19) := ⟨⟨by decide +kernel, by decide +kernel⟩, List.mem_of_getElem? (i := 689) (by decide +kernel), List.mem_of_getElem? (i := 835) (by decide +kernel), List.mem_of_getElem? (i := 836) (by decide +kernel)⟩
theorem lw_p25 : lw_okq (⟨"StairPlansModel", "inSquare", "()I"⟩, 19) := ⟨⟨by decide +kernel, by decide +kernel⟩, List.mem_of_getElem? (i := 689) (by decide +kernel), List.mem_of_getElem? (i := 839) (by decide +kernel), List.mem_of_getElem? (i := 840) (by decide +kernel)⟩
theorem lw_p26 : lw_okq (⟨"StairPlansModel", "side", "(II)J"⟩, 19) := ⟨⟨by decide +kernel, by decide +kernel⟩, List.mem_of_getElem? (i := 689) (by decide +kernel), List.mem_of_getElem? (i := 843) (by decide +kernel), List.mem_of_getElem? (i := 844) (by decide +kernel)⟩
theorem lw_p27 : lw_okq (⟨"StairPlansModel", "noWinders", "()Z"⟩, 19) := ⟨⟨by decide +kernel, by decide +kernel⟩, List.mem_of_getElem? (i := 689) (by decide +kernel), List.mem_of_getElem? (i := 851) (by decide +kernel), List.mem_of_getElem? (i := 852) (by decide +kernel)⟩
def lw_privs_2 : List (MethodName × Nat) := [(⟨"StairPlansModel", "readDigits", "(I)I"⟩, 19), (⟨"StairPlansModel", "isDigit", "()Z"⟩, 19), (⟨"StairPlansModel", "here", "()I"⟩, 19), (⟨"StairPlansModel", "fail", "()V"⟩, 19), (⟨"StairPlansModel", "holding", "(JJI)I"⟩, 19), (⟨"StairPlansModel", "holds", "(IJJI)Z"⟩, 19), (⟨"StairPlansModel", "none", "()Z"⟩, 19), (⟨"StairPlansModel", "sort", "(I)I"⟩, 19), (⟨"StairPlansModel", "before", "()I"⟩, 19), (⟨"StairPlansModel", "inSquare", "()I"⟩, 19), (⟨"StairPlansModel", "side", "(II)J"⟩, 19), (⟨"StairPlansModel", "noWinders", "()Z"⟩, 19)]
theorem lw_r2 : ∀ q ∈ lw_privs_2, lw_okq q := List.forall_mem_cons.mpr ⟨lw_p16, List.forall_mem_cons.mpr ⟨lw_p17, List.forall_mem_cons.mpr ⟨lw_p18, List.forall_mem_cons.mpr ⟨lw_p19, List.forall_mem_cons.mpr ⟨lw_p20, List.forall_mem_cons.mpr ⟨lw_p21, List.forall_mem_cons.mpr ⟨lw_p22, List.forall_mem_cons.mpr ⟨lw_p23, List.forall_mem_cons.mpr ⟨lw_p24, List.forall_mem_cons.mpr ⟨lw_p25, List.forall_mem_cons.mpr ⟨lw_p26, List.forall_mem_cons.mpr ⟨lw_p27, fun _ h => absurd h List.not_mem_nil⟩⟩⟩⟩⟩⟩⟩⟩⟩⟩⟩⟩
def lw_privs : List (MethodName × Nat) := lw_privs_1 ++ (lw_privs_2)
def lw_tbl : List Cond := k2_sels lw_privs ++ tables_1
theorem lw_privs_ok : ∀ q ∈ lw_privs, lw_okq q := by
  show ∀ q ∈ lw_privs_1 ++ (lw_privs_2), lw_okq q
  exact List.forall_mem_append.mpr ⟨lw_r1, lw_r2⟩
end
section
/-! Rows of mine for methods that throw: a contract for a method that always throws from the given start (it writes nothing and makes one cell, the exception), the call of such a method, leaving a method by the throw, and the catch. -/
theorem tw_keep {s t : State} {k n : Nat} (h : s.sameButNew t [] k n) : ∀ q : Nat, q < s.heap.size → t.heap[q]? = s.heap[q]? := by
  intro q hq
  have hc : s.heap[q]? = some (s.heap[q]) := Array.getElem?_eq_getElem hq
  obtain ⟨c', h1, h2, h3, h4⟩ := h.2.2.2.2.2 q _ hc
  have e : c'.slots = (s.heap[q]).slots := Array.ext_getElem? (fun i => h4 i (by simp))
  rw [e] at h2
  rw [h1, hc, h2]
/-- the end of a throwing method, as its caller sees it -/
def tw_Q (E : String) : Array Value → State → Outcome → State → Prop := fun _ st o t =>
  ∃ x : Addr, o = .threw x ∧ st.heap.size ≤ x ∧ (∃ cell : Cell, t.heap[x]? = some cell ∧ cell.vm = .none ∧ st.vm.findClass E = some cell.cls) ∧ st.WarmedH t.vm ∧ st.sameButNew ({ t with vm := st.vm } : State) [] 1 6
def tw_Met (l : Launch) (y : MethodName) (ws : List Cond) (rm : Room) (Pc : Array Value → State → Prop) (E : String) : Prop :=
  MetFree l y (headSpec ws rm) Pc (fun _ _ _ _ _ => True) (tw_Q E)
def tw_MQ (below : List Frame) (a : Array Value) (s : State) (E : String) : State → Prop := fun t => ∃ o, t.status = .running ∧ Ended t below o ∧ tw_Q E a s o t
theorem tw_ofW {l : Launch} {y : MethodName} {ws ws' : List Cond} {rm : Room} {Pc : Array Value → State → Prop} {E : String} {cc : ByteArray} {maxL : Nat} {ret : Option FieldType}
    (hy : plainName y.cls = true) (hw : ws = Cond.code y cc maxL ret :: ws')
    (body : ∀ p e s m args below meth c s₁, BodyLoose p l y (headSpec ws rm) cc maxL ret e s m args below meth c s₁ → c.maxLocals = maxL → c.exceptionTable.isEmpty = true → Pc args s →
      W p l e (headSpec ws rm).room s m args below meth c s.heap [] 0 0 (tw_MQ below args s E) (entryFrame m args maxL)) : tw_Met l y ws rm Pc E := by
  refine MetFree.of_bodyS (code := cc) (maxLocals := maxL) (ret := ret) hy ?_ ?_
  · intro args s m h hn
    obtain ⟨meth, c, h1, h2, h3, h4, h5, h6, -, -⟩ := Cond.code_spec hn (atoms_spec (ws := ws) h _ (by rw [hw]; exact List.mem_cons_self))
    exact ⟨meth, c, h1, h2, h3, h4, h5, h6⟩
  · intro p e s m args below meth c s₁ B hml hP _
    have hh0 : s₁.heap = s.heap := by rw [B.state]; rfl
    have hne : c.exceptionTable.isEmpty = true := B.noHandlers (atoms_spec (ws := ws) B.pre _ (by rw [hw]; exact List.mem_cons_self))
    obtain ⟨t, a1, o, b1, b2, b3⟩ := body p e s m args below meth c s₁ B hml hne hP s₁ hh0 (Stand.of_body B)
    exact ⟨t, o, a1, b1, b2, b3⟩
section TW
variable {p : Program} {l : Launch} {e : Env} {R : Room} {s : State} {m : MethodId} {args : Array Value} {below : List Frame} {meth : Method} {c : Code} {H : Heap} {locs : List Loc} {cells slots : Nat} {Q : State → Prop}
/-- the machine with an exception on its way, over the method's own frame g -/
def tw_T (p : Program) (l : Launch) (e : Env) (R : Room) (s : State) (m : MethodId) (args : Array Value) (below : List Frame) (meth : Method) (c : Code) (H : Heap) (locs : List Loc) (cells slots : Nat) (Q : State → Prop) (g : JFrame) (x : Addr) : Prop :=
  ∀ T : State, T.heap = H → Stand p l e R s m args below meth c T locs cells slots → ∃ t, Steps p.tables e below ((T.setTop g).pushFrame (.throwing x)) t ∧ Q t
/-- what stands behind a throw: the exception's cell is new, all that was there stands -/
def tw_N (E : String) (s : State) (H H1 : Heap) (x : Addr) : Prop :=
  H.size ≤ x ∧ H.size ≤ H1.size ∧ (∃ cell : Cell, H1[x]? = some cell ∧ cell.vm = .none ∧ s.vm.findClass E = some cell.cls) ∧ ∀ q : Nat, q < H.size → H1[q]? = H[q]?
theorem tw_back {y : MethodName} {ws : List Cond} {rm : Room} {Pc : Array Value → State → Prop} {E : String} {bytes : ByteArray} {maxL : Nat} {ret : Option FieldType} {len W : Nat}
    (hM : tw_Met l y ws rm Pc E) (hblind : FrameBlind Pc) (hrc : rm.cells = 1) (hrs : rm.slots = 6) (hframes : rm.frames + 1 ≤ R.frames) (hlocals : W + (maxL + 11) + rm.locals ≤ R.locals)
    (hws : ∀ w ∈ ws, ∀ (a' : Array Value) (U : State), s.WarmedH U.vm → w.before a' U = true) (hcode : Cond.code y bytes maxL ret ∈ ws) (hinit : ∀ (a' : Array Value) (U : State), s.WarmedH U.vm → (Cond.initialized y.cls).before a' U = true)
    {T : State} {locs : List Loc} {cells slots : Nat} {g : JFrame} {ig : Instr} {mk : MethodId} {a : Array Value}
    (X : Stand p l e R s m args below meth c T locs cells slots) (hg : g.method = m) (hsize : g.locals.size = c.maxLocals) (hdg : decode c.code g.pc = .ok (ig, len))
    (hW : 2 * g.monitorRoom + (g.stack.map fun v => v.category).sum ≤ W) (hn : T.methodNamed? y = some mk) (hc1 : cells + 1 ≤ R.cells) (hs6 : slots + 6 ≤ R.slots) (hp : Pc a T) :
    ∃ (x : Addr) (T' : State), Stand p l e R s m args below meth c T' locs (cells + 1) (slots + 6) ∧ tw_N E s T.heap T'.heap x ∧
      Steps p.tables e below (doInvoke e (T.setTop g) [] mk a).1 ((T'.setTop g).pushFrame (.throwing x)) := by
  have h2 : (Cond.code y bytes maxL ret).before a T = true := hws _ hcode _ _ X.warmed
  obtain ⟨methY, cY, hmY, hcY, -, hlY, -, -, -, -⟩ := Cond.code_spec hn h2
  obtain ⟨kY, hkY, -⟩ := className_of_methodNamed hn
  have hinitY : kY.init = .initialized := Cond.initialized_spec (findClass_of_methodNamed hn) hkY (hinit a T X.warmed)
  have h : At T g.method c below := by rw [hg]; exact X.here
  have happ : (headSpec ws rm).appliesLoose y e.platform (T.calling g mk a) = true :=
    Spec.appliesLoose_calling (g := g) h hdg hn hkY hinitY
      (X.room_calling (g := g) (R' := (headSpec ws rm).room) hsize hmY hcY hframes (by rw [hlY]; exact (by have : (headSpec ws rm).room.locals = rm.locals := rfl; omega)) (by rw [show (headSpec ws rm).room.cells = 1 from hrc]; exact hc1) (by rw [show (headSpec ws rm).room.slots = 6 from hrs]; exact hs6))
      (atoms_intro fun w hw => hws w hw _ _ X.warmed)
  obtain ⟨mid, hmid⟩ := h.above
  have hfr : (T.setTop g).frames = (.java g :: mid) ++ below := by rw [State.frames_setTop' g h.top, hmid]; rfl
  obtain ⟨o, s₂, hsteps, -, hend, hq⟩ := Steps.callFree hM p X.admits X.cas X.clock (acts := []) hfr happ (hblind _ _ _ _ hp) trivial
  obtain ⟨x, rfl, hx, ⟨cell, hcx, hcv, hcc⟩, hW₂, hsame⟩ : tw_Q E a (T.calling g mk a) o s₂ := hq
  rw [State.frames_setTop' g h.top, X.tail] at hend
  obtain ⟨T', X', hWT, hsm, ht⟩ := X.outOfThrown hg hend hW₂ hsame
  have hh : s₂.heap = T'.heap := by rw [ht]; exact Stand.throwing_heap T' g x
  refine ⟨x, T', by simpa using X', ⟨hx, hsm.2.1, ⟨cell, by rw [← hh]; exact hcx, hcv, ?_⟩, fun q hq => tw_keep hsm q hq⟩, by rw [← ht]; exact hsteps⟩
  have h1 : T.vm.findClass E = some cell.cls := hcc
  rw [X.warmed.alike.findClass] at h1
  exact h1
variable {y : MethodName} {bytes cc : ByteArray} {maxL nL n index : Nat} {ret : Option FieldType} {ws : List Cond} {rm : Room} {Pc : Array Value → State → Prop} {E : String} {Ts : List Cond} {own C : String} {b : Addr} {As rest st0 : List Value} {pc : Nat} {ls : Array Slot}
/-- a static call of a method that throws -/
theorem tw_runS (S : CallFix p m c cc nL s args Ts own) (hM : tw_Met l y ws rm Pc E) (cw : CallB R s args own index y bytes maxL ret ws rm 1 6 n ∧ (Cond.static y).before args s = true) (hp : PreS s H Pc As)
    (hn : As.length = n) (hsize : ls.size = nL) (hstack : st0 = As.reverse ++ rest) (hW : (rest.map fun v => v.category).sum ≤ 8) (hdg : decode cc pc = .ok (.invokestatic index, 3)) (hf : cells + 1 ≤ R.cells ∧ slots + 6 ≤ R.slots)
    (kk : ∀ (x : Addr) (H1 : Heap), tw_N E s H H1 x → tw_T p l e R s m args below meth c H1 locs (cells + 1) (slots + 6) Q (F0 m pc ls rest) x) : W p l e R s m args below meth c H locs cells slots Q (F0 m pc ls st0) := by
  obtain ⟨⟨hrc, hrs, hfr, hlo, hws, hcw, hcode, hini, hy, hlen, hl⟩, hstt⟩ := cw
  obtain ⟨hx, hb, hml, ho, -⟩ := S
  intro T hT X
  obtain ⟨mk, hnamed⟩ := Cond.code_named hcode
  obtain ⟨methM, cM, hmethM, -, -, -, -, -, -, hsigM⟩ := Cond.code_spec hnamed hcode
  have hstatic : methM.isStatic = true := Cond.static_spec hnamed hmethM hstt
  obtain ⟨kP, hkP, -⟩ := className_of_methodNamed hnamed
  have hinitP : kP.init = .initialized := Cond.initialized_spec (findClass_of_methodNamed hnamed) hkP hini
  obtain ⟨vm₁, X₁, hstep₁⟩ := X.invokestatic hx ho hl hnamed hmethM hstatic hkP hinitP hy (g := F0 m pc ls st0) rfl (argsL := As) (rest := rest) (hn.trans (hlen _ hsigM)) hstack (by rw [hb]; exact hdg)
  obtain ⟨x, T', X', hN, hsteps⟩ := tw_back (len := 3) (W := 8) (ig := .invokestatic index) (a := As.toArray) hM hp.1 hrc hrs hfr hlo hws hcw (fun a' U hW => word_at hW (Or.inl (by first | rfl | simp [Cond.onTables, Cond.keeps, Cond.steady])) hini) (g := F0 m pc ls rest) X₁ rfl (hsize.trans hml.symm) (by rw [hb]; exact hdg) (by simpa using hW) (X₁.named hnamed) hf.1 hf.2 (hp.2 (T.setVm vm₁) hT X₁.warmed)
  obtain ⟨t, a1, b1⟩ := kk x T'.heap (by rw [← hT]; exact hN) T' rfl X'
  exact ⟨t, hstep₁ _ fun acts => by rw [doInvoke_state]; exact hsteps.trans a1, b1⟩
/-- a virtual call of a method that throws -/
theorem tw_runV (S : CallFix p m c cc nL s args Ts own) (hM : tw_Met l y ws rm Pc E) (cw : CallW R s args own C index y bytes maxL ret ws rm 1 6 n) (hp : PreV s H C b Pc As)
    (hn : As.length = n) (hsize : ls.size = nL) (hstack : st0 = As.reverse ++ .ref b :: rest) (hW : (rest.map fun v => v.category).sum ≤ 8) (hdg : decode cc pc = .ok (.invokevirtual index, 3)) (hf : cells + 1 ≤ R.cells ∧ slots + 6 ≤ R.slots)
    (kk : ∀ (x : Addr) (H1 : Heap), tw_N E s H H1 x → tw_T p l e R s m args below meth c H1 locs (cells + 1) (slots + 6) Q (F0 m pc ls rest) x) : W p l e R s m args below meth c H locs cells slots Q (F0 m pc ls st0) := by
  obtain ⟨⟨hrc, hrs, hfr, hlo, hws, hcw, hcode, hini, hy, hlen, hl⟩, hinst, hsel⟩ := cw
  obtain ⟨hx, hb, hml, ho, -⟩ := S
  obtain ⟨hblind, ⟨cellB, hcB, hoB, hclB⟩, hPc⟩ := hp
  intro T hT X
  obtain ⟨mk, methM, hnamed, hmethM, hstM, habM⟩ := Cond.instanceMethod_spec hinst
  obtain ⟨methM', cM, hmethM', -, -, -, -, -, -, hsigM⟩ := Cond.code_spec hnamed hcode
  cases hmethM.symm.trans hmethM'
  obtain ⟨c2, r2, m2, q1, q2, q3, q4, kP, hkP, hkPi⟩ := Cond.selects_spec hsel
  cases hclB.symm.trans q1
  cases (State.methodFound?_of_named hnamed hy).symm.trans q2
  cases hnamed.symm.trans q3
  have hselP : selectMethod e.platform s.vm cellB.cls mk = .method mk := by rw [Launch.admits_selectMethod X.admits]; exact q4
  obtain ⟨vm₁, X₁, hstep₁⟩ := X.invokevirtual hx ho hl hnamed hmethM hstM hkP hkPi hy (a := b) (cell := cellB) (by rw [hT]; exact hcB)
    (fun z h => by rw [h] at hoB; cases hoB) hselP hmethM habM hkP hkPi (g := F0 m pc ls st0) rfl (argsL := As) (rest := rest) (hn.trans (hlen _ hsigM)) hstack (by rw [hb]; exact hdg)
  obtain ⟨x, T', X', hN, hsteps⟩ := tw_back (len := 3) (W := 8) (ig := .invokevirtual index) (a := (Value.ref b :: As).toArray) hM hblind hrc hrs hfr hlo hws hcw (fun a' U hW => word_at hW (Or.inl (by first | rfl | simp [Cond.onTables, Cond.keeps, Cond.steady])) hini) (g := F0 m pc ls rest) X₁ rfl (hsize.trans hml.symm) (by rw [hb]; exact hdg) (by simpa using hW) (X₁.named hnamed) hf.1 hf.2 (hPc (T.setVm vm₁) hT X₁.warmed)
  obtain ⟨t, a1, b1⟩ := kk x T'.heap (by rw [← hT]; exact hN) T' rfl X'
  exact ⟨t, hstep₁ _ fun acts => by rw [doInvoke_state]; exact hsteps.trans a1, b1⟩
/-- the exception leaves the method -/
theorem tw_leave {x : Addr} (hlocks : meth.locks = false) (hne : c.exceptionTable.isEmpty = true) (hN : tw_N E s s.heap H x) : tw_T p l e R s m args below meth c H [] 1 6 (tw_MQ below args s E) (F0 m pc ls rest) x := by
  intro T hT X
  obtain ⟨st, r1, r2, r3, r4⟩ := X.leaveThrown x (g := F0 m pc ls rest) rfl rfl rfl (fun y hy => by
    rw [Array.isEmpty_iff] at hne
    rw [hne] at hy
    cases hy) hlocks
  obtain ⟨h1, h2, h3, h4⟩ := hN
  refine ⟨_, st, .threw x, r1, r2, x, rfl, h1, ?_, r3, r4⟩
  obtain ⟨cell, k1, k2, k3⟩ := h3
  exact ⟨cell, by rw [show (T.setFrames (.throwing x :: below)).heap = T.heap from rfl, hT]; exact k1, k2, k3⟩
end TW
section TC
variable {e : Env} {s0 : State} {f : JFrame} {a : Addr} {cell : Cell}
/-- an entry of the table that lets the exception pass: it names a class that the exception isn't of -/
def tw_no (pl : Platform) (s0 : State) (d : ClassId) (thrown : ClassId) (y : ExceptionTableEntry) : Prop := y.catchType ≠ 0 ∧ ∃ k, s0.vm.ClassLinks pl d y.catchType k ∧ s0.vm.assignable thrown k = false
def tw_yes (pl : Platform) (s0 : State) (d : ClassId) (thrown : ClassId) (y : ExceptionTableEntry) : Prop := y.catchType ≠ 0 ∧ ∃ k, s0.vm.ClassLinks pl d y.catchType k ∧ s0.vm.assignable thrown k = true
/-- one entry that covers the place, its class cold or warm: taken, or the search goes on over the warmer tables -/
theorem tw_one {S : State} {y : ExceptionTableEntry} {r : List ExceptionTableEntry} {k : ClassId} (hW : s0.WarmedH S.vm) (hc : S.heap[a]? = some cell) (ho : ∀ z, cell.vm ≠ .statics z) (h0 : ∃ z, s0.vm.classes[cell.cls]? = some z)
    (hy : covers y f.pc = true) (hy0 : y.catchType ≠ 0) (hl : s0.vm.ClassLinks e.platform f.method.cls y.catchType k) :
    ∃ vm', s0.WarmedH vm' ∧ ∀ (Q : Handler → Pre) (E : CtlPost) (d : Bool) (acts : List Action), wp (findHandler.go f a (y :: r)) Q E e d acts S ↔
      if s0.vm.assignable cell.cls k = true then Q (.found y.handlerPc) d acts (S.setVm vm') else wp (findHandler.go f a r) Q E e d acts (S.setVm vm') := by
  obtain ⟨dk, _, _, kt, hd, _, _, _, _, hkt, _, hopen⟩ := hl.here
  have hl' := hW.classLinks hl
  refine ⟨S.vm.noted f.method.cls y.catchType (.cls k), hW.noted hd hopen (State.rightAt_cls hl), fun Q E d acts => ?_⟩
  obtain ⟨z0, h0⟩ := h0
  have hal : s0.vm.Alike (S.vm.noted f.method.cls y.catchType (.cls k)) := (hW.noted hd hopen (State.rightAt_cls hl)).alike
  obtain ⟨z1, hz1, -⟩ := hal.2.2 _ _ h0
  obtain ⟨z2, hz2, -⟩ := hal.2.2 _ _ hkt
  have he : (S.vm.noted f.method.cls y.catchType (.cls k)).assignable cell.cls k = s0.vm.assignable cell.cls k := by rw [hal.assignable]
  obtain ⟨ha, ht⟩ := (resolveClass_links e.toSetting hl').op (op := VmOp.resolveClass f.method.cls y.catchType) rfl
  simp only [covers] at hy
  by_cases hq : s0.vm.assignable cell.cls k = true
  · rw [if_pos hq]
    rw [hq] at he
    simp [findHandler.go, hy, hy0, ha, ht, hc, ho, hz1, hz2, he, VmOp.dirties, VmOp.acts]
  · rw [if_neg hq]
    have hq' : s0.vm.assignable cell.cls k = false := by simpa using hq
    rw [hq'] at he
    simp [findHandler.go, hy, hy0, ha, ht, hc, ho, hz1, hz2, he, VmOp.dirties, VmOp.acts]
theorem tw_search (x : ExceptionTableEntry) (r : List ExceptionTableEntry) (ho : ∀ z, cell.vm ≠ .statics z) (h0 : ∃ z, s0.vm.classes[cell.cls]? = some z) (hx : covers x f.pc = true) (hyes : tw_yes e.platform s0 f.method.cls cell.cls x) :
    ∀ (pre : List ExceptionTableEntry) (S : State), s0.WarmedH S.vm → S.heap[a]? = some cell → (∀ y ∈ pre, covers y f.pc = true ∧ tw_no e.platform s0 f.method.cls cell.cls y) →
      ∃ vm', s0.WarmedH vm' ∧ ∀ (Q : Handler → Pre) (E : CtlPost) (d : Bool) (acts : List Action), wp (findHandler.go f a (pre ++ x :: r)) Q E e d acts S ↔ Q (.found x.handlerPc) d acts (S.setVm vm') := by
  intro pre
  induction pre with
  | nil =>
    intro S hW hc _
    obtain ⟨hn, k, hl, hf⟩ := hyes
    obtain ⟨vm', hW', hq⟩ := tw_one (e := e) (r := r) hW hc ho h0 hx hn hl
    exact ⟨vm', hW', fun Q E d acts => by rw [List.nil_append, hq Q E d acts, if_pos hf]⟩
  | cons y ys ih =>
    intro S hW hc hp
    obtain ⟨hcy, hn, k, hl, hf⟩ := hp y List.mem_cons_self
    obtain ⟨vm1, hW1, hq1⟩ := tw_one (e := e) (r := ys ++ x :: r) hW hc ho h0 hcy hn hl
    obtain ⟨vm2, hW2, hq2⟩ := ih (S.setVm vm1) hW1 hc (fun z hz => hp z (List.mem_cons_of_mem _ hz))
    exact ⟨vm2, hW2, fun Q E d acts => by
      rw [List.cons_append, hq1 Q E d acts, if_neg (by rw [hf]; decide)]
      exact hq2 Q E d acts⟩
end TC
section TD
variable {p : Program} {l : Launch} {e : Env} {R : Room} {s : State} {m : MethodId} {args : Array Value} {below : List Frame} {meth : Method} {c : Code} {H : Heap} {locs : List Loc} {cells slots : Nat} {Q : State → Prop}
theorem tw_vmf (S : State) (vm' : Vm) (F G : List Frame) : ((S.setFrames F).setVm vm').setFrames G = (S.setVm vm').setFrames G := by
  have h1 : (S.setFrames F).setVm vm' = (S.setVm vm').setFrames F := rfl
  rw [h1, State.setFrames_setFrames]
theorem tw_step {T : State} {vm' : Vm} {g : JFrame} {x : Addr} {hp : Nat} {target : State} (X : Stand p l e R s m args below meth c T locs cells slots) (hg : g.method = m)
    (hf : ∀ (Q : Handler → Pre) (E : CtlPost) (d : Bool) (acts : List Action), wp (findHandler g x) Q E e d acts ((T.setTop g).pushFrame (.throwing x)) ↔ Q (.found hp) d acts (((T.setTop g).pushFrame (.throwing x)).setVm vm'))
    (hrest : Steps p.tables e below ((T.setVm vm').setTop { g with pc := hp, stack := [.ref x] }) target) : Steps p.tables e below ((T.setTop g).pushFrame (.throwing x)) target := by
  subst hg
  have h := X.here
  obtain ⟨hgo, hw⟩ := h.throwing x
  refine Steps.head hgo hw ?_
  have hs : (stepThrowing e ((T.setTop g).pushFrame (.throwing x)) x (.java g :: T.frames.tail)).Is ((((T.setTop g).pushFrame (.throwing x)).setVm vm').setFrames (.java { g with pc := hp, stack := [.ref x] } :: T.frames.tail)) [] := by
    simp only [stepThrowing, searchFrame, vmDo]
    generalize hr : Sem.go _ e false [] ((T.setTop g).pushFrame (.throwing x)) = res
    obtain ⟨as, rfl, ha⟩ := Sem.eq_ok_of hr (a := Handler.found hp) (s' := ((T.setTop g).pushFrame (.throwing x)).setVm vm') (acts' := []) (by simp [hf _ _ _ _])
    exact ⟨rfl, ha⟩
  rw [stepThread_throwing (frames_entered h.top _), hs.1]
  obtain ⟨g₀, hg⟩ := Option.isSome_iff_exists.mp h.top
  obtain ⟨r, hr⟩ := State.topJava?_eq_some.mp hg
  have hr' : (T.setVm vm').frames = .java g₀ :: r := hr
  rw [State.setTop_of_frames _ hr'] at hrest
  rw [hr, List.tail_cons, State.pushFrame, tw_vmf, State.setTop_of_frames _ hr, tw_vmf]
  exact hrest
theorem tw_tab {hh : List (Nat × Nat × Nat × Nat)} {t : List ExceptionTableEntry} (h : t.map (fun h => (h.startPc, h.endPc, h.handlerPc, h.catchType)) = hh) : t = hh.map (fun q => (⟨q.1, q.2.1, q.2.2.1, q.2.2.2⟩ : ExceptionTableEntry)) := by
  subst h
  rw [List.map_map]
  exact (List.map_id t).symm
/-- what the law's words say of a catch: the class of the entry, and whether the exception is of it -/
def tw_cls (own : String) (k : Nat) (name E : String) (yes : Bool) (U : State) : Prop := (Cond.classLink own k name).before #[] U = true ∧ ∃ c1 c2, U.vm.findClass E = some c1 ∧ U.vm.findClass name = some c2 ∧ U.vm.assignable c1 c2 = yes
/-- caught: behind entries that let it pass -/
theorem tw_catch {own E : String} {H0 : Heap} {x : Addr} {pc : Nat} {ls : Array Slot} {st : List Value} (hown : s.vm.findClass own = some m.cls) (hN : tw_N E s H0 H x) (pre : List ExceptionTableEntry) (xe : ExceptionTableEntry) (r : List ExceptionTableEntry)
    (hsplit : c.exceptionTable.toList = pre ++ xe :: r) (hpre : ∀ y ∈ pre, covers y pc = true ∧ y.catchType ≠ 0 ∧ ∃ name, tw_cls own y.catchType name E false s) (hx : covers xe pc = true) (hx0 : xe.catchType ≠ 0) {name : String} (hcls : tw_cls own xe.catchType name E true s)
    (k : W p l e R s m args below meth c H locs cells slots Q (F0 m xe.handlerPc ls [.ref x])) : tw_T p l e R s m args below meth c H locs cells slots Q (F0 m pc ls st) x := by
  intro T hT X
  have hpl : e.platform.magicAccessors = ({} : Platform).magicAccessors := by rw [X.admits.platform]
  obtain ⟨-, -, ⟨cell, hcell, hvm, hfE⟩, -⟩ := hN
  obtain ⟨hlk, c1, c2, g1, g2, g3⟩ := hcls
  cases hfE.symm.trans g1
  obtain ⟨c3, g4, hcl⟩ := Cond.classLink_spec hown hlk e.platform hpl
  cases g2.symm.trans g4
  obtain ⟨dk, _, _, kt, hd, _, _, _, _, hkt, _, hopen⟩ := hcl.here
  have h0 : ∃ z, s.vm.classes[cell.cls]? = some z := Vm.classAt_of_assignable g3 ⟨kt, hkt⟩
  obtain ⟨vm', hW', hq⟩ := tw_search (e := e) (s0 := s) (f := F0 m pc ls st) (a := x) (cell := cell) xe r (by rw [hvm]; intro z hz; cases hz) h0 hx ⟨hx0, c2, hcl, g3⟩ pre ((T.setTop (F0 m pc ls st)).pushFrame (.throwing x))
    (by rw [Stand.throwing_vm]; exact X.warmed) (by rw [Stand.throwing_heap, hT]; exact hcell) (fun y hy => by
      obtain ⟨a1, a2, nm, a3, d1, d2, b1, b2, b3⟩ := hpre y hy
      cases hfE.symm.trans b1
      obtain ⟨d3, b4, hcl'⟩ := Cond.classLink_spec hown a3 e.platform hpl
      cases b2.symm.trans b4
      exact ⟨a1, a2, d2, hcl', b3⟩)
  obtain ⟨t, a1, b1⟩ := k (T.setVm vm') hT (X.noted hW')
  refine ⟨t, tw_step X rfl (fun Q E d acts => ?_) a1, b1⟩
  rw [W.findHandler_eq (meth := meth) (code := c) (by rw [Stand.throwing_vm]; exact X.method') X.code, hsplit]
  exact hq Q E d acts
end TD
section TN
variable {p : Program} {l : Launch} {e : Env} {R : Room} {s : State} {m : MethodId} {args : Array Value} {below : List Frame} {meth : Method} {c : Code} {cc : ByteArray} {nL : Nat}
/-- throw new E("..") at the beginning of a road on which nothing was written or made -/
theorem tw_new {own E tx : String} {index si ic pc : Nat} {names : List String} {ls : Array Slot} (hx : p.tables.exec = Jvm.exec) (hb : c.code = cc) (hml : c.maxLocals = nL) (hsize : ls.size = nL) (hfl : l.stackTraces = false) (hlocks : meth.locks = false) (hne : c.exceptionTable.isEmpty = true)
    (hown : s.vm.findClass own = some m.cls) (hlit : (Cond.stringRef own si tx).before args s = true) (hcl : (Cond.classLink own index E).before args s = true) (hini : (Cond.initialized E).before args s = true)
    (h : ∀ a ∈ Bundle.ownAtoms own ic E names, a.before args s = true) (hE : Bundle.fit E = true) (hnames : ∀ n ∈ names, Bundle.fit n = true)
    (d0 : decode cc pc = .ok (.new index, 3)) (d3 : decode cc (pc + 3) = .ok (.dup, 1)) (d4 : decode cc (pc + 4) = .ok (.ldc si, 2)) (d6 : decode cc (pc + 6) = .ok (.invokespecial ic, 3)) (d9 : decode cc (pc + 9) = .ok (.athrow, 1))
    (hRc : 1 ≤ R.cells) (hRs : 6 ≤ R.slots) (hRf : names.length + 3 < R.frames) (hRl : 1 + (13 * (names.length + 1) + 42) ≤ R.locals) :
    W p l e R s m args below meth c s.heap [] 0 0 (tw_MQ below args s E) (F0 m pc ls []) := by
  have hins : (Cond.instantiable E 6).before args s = true := h _ (by simp [Bundle.ownAtoms])
  refine W.newc hx hb hown hcl hins hini (g := F0 m pc ls []) rfl d0 (by omega) (by omega) ?_
  intro cC kC h1 h2 h3 h4
  refine W.eq (g2 := F0 m (pc + 3) ls [.ref s.heap.size]) rfl ?_
  refine lv_dup hx hb d3 rfl ?_
  obtain ⟨k9, cf9, i9, str, -, -, -, -, -, hstr⟩ := Cond.stringRef_spec hown hlit
  intro T hT X
  have X0 := X
  obtain ⟨U, st, r1, r2, r3, r4, ce, hce, hO⟩ := X.ctorThrowS hx (by rw [X.admits.platform]; exact hfl) hown hE hnames h (fun y hy => by cases hy) h1 h2 (a := s.heap.size) (by rw [hT]; simp [freshCell]) (Nat.le_refl _) (msg := .ref str) rfl
    (g := F0 m (pc + 6) ls [.ref str, .ref s.heap.size, .ref s.heap.size]) rfl (hsize.trans hml.symm) rfl rfl (rest := []) rfl (by rw [hb]; exact d6) (by rw [hb]; exact d9)
    (fun y hy => by
      rw [Array.isEmpty_iff] at hne
      rw [hne] at hy
      cases hy) hRf (by simpa [Value.category] using hRl) hlocks
  refine ⟨U, X0.ldcString hx hown (text := tx) (a := str) hlit hstr (g := F0 m (pc + 4) ls [.ref s.heap.size, .ref s.heap.size]) rfl (by rw [hb]; exact d4) U st, .threw s.heap.size, r1, r2, s.heap.size, rfl, Nat.le_refl _, ⟨ce, hce, hO.vm, hO.cls⟩, r3, ?_⟩
  simpa using r4
end TN
end
section
/-! Rows of mine: contracts of methods that only read, of methods that write their own cells and make none; calls of both; booleans as numbers; a comparison of longs with the branch behind it. -/
def bI (b : Bool) : Int32 := if b = true then 1 else 0
theorem bI_0 {b : Bool} : bI b = 0 ↔ b = false := by cases b <;> decide
theorem bI_1 {b : Bool} : ¬ bI b = 0 ↔ b = true := by cases b <;> decide
theorem bI_n (b : Bool) : narrow .boolean (.int (bI b)) = .int (bI b) := by cases b <;> rfl
theorem bI_f (b : Bool) : fits .boolean (.int (bI b)) = true := by cases b <;> rfl
theorem bI_t : bI true = 1 := rfl
theorem bI_ff : bI false = 0 := rfl
/-- words that the tables give and that stay true as entries are resolved, though they aren't 'good' ones -/
def tnB : Cond → Bool
  | .fieldLinkNest .. => true
  | .methodLinkNest .. => true
  | .declares _ => true
  | .castable .. => true
  | _ => false
def tn (U : State) : Prop := ∀ w ∈ tables_1, tnB w = true → va_Nw w U
theorem tn_warm {s U : State} (hW : s.WarmedH U.vm) (h : tn s) : tn U := by
  intro w hw hb
  have h1 := h w hw hb
  cases w <;> first | exact va_Nw.warmF hW h1 | exact va_Nw.warmM hW h1 | exact va_Nw.warmD hW h1 | exact va_Nw.warmC hW h1 | (cases hb)
theorem tn_same {s U : State} (h : s.vm = U.vm) (hs : tn s) : tn U := tn_warm (by rw [← h]; exact State.WarmedH.refl s) hs
/-- the addresses of a world -/
def tA (ws : va_W) : Nat → Prop := fun q => ∃ (k : Nat) (e : va_E), ws[k]? = some (q, e)
theorem tA_D {ws : va_W} {A : Nat → Prop} (h : va_D A ws) : va_D (tA ws) ws := ⟨h.1, fun k q hk => ⟨k, q.2, hk⟩⟩
def tq_R (ov : Option Value) : Array Value → State → Outcome → State → Prop := fun _ st o t => o = .returned ov ∧ t.heap = st.heap
def tq_W (D : va_G) (cl : List vw_C) (ov : Option Value) (ws ws' : va_W) : Array Value → State → Outcome → State → Prop := fun _ st o t => o = .returned ov ∧ va_P D cl ws' t.heap ∧ va_F (tA ws) st t
def tp_R (D : va_G) (cl : List vw_C) (av : List Value) (w : va_W) (tys : List (ClassId × FieldType)) : Array Value → State → Prop := va_Pc av (fun U => va_P D cl w U.heap ∧ va_K D cl tys U ∧ tn U)
def tp_W (D : va_G) (cl : List vw_C) (av : List Value) (w : va_W) (tys : List (ClassId × FieldType)) : Array Value → State → Prop := va_Pc av (fun U => va_P D cl w U.heap ∧ va_K D cl tys U ∧ tn U ∧ va_D (fun _ => True) w)
/-- places of a world taken by new cells -/
def tc_put (ws : va_W) : List Nat → va_W → va_W
  | [], _ => ws
  | i :: is, w1 => match w1 with
    | [] => ws
    | x :: xs => tc_put (ws.set i x) is xs
theorem tc_put_in : ∀ (is : List Nat) (w1 ws : va_W) (k : Nat) (q : Nat × va_E), (tc_put ws is w1)[k]? = some q → q ∈ w1 ∨ (ws[k]? = some q ∧ k ∉ is.take w1.length) := by
  intro is
  induction is with
  | nil => intro w1 ws k q h; cases w1 <;> exact Or.inr ⟨h, by simp⟩
  | cons i is ih =>
    intro w1 ws k q h
    cases w1 with
    | nil => exact Or.inr ⟨h, by simp⟩
    | cons x xs =>
      rcases ih xs (ws.set i x) k q h with h1 | ⟨h1, h2⟩
      · exact Or.inl (List.mem_cons_of_mem _ h1)
      · by_cases hk : i = k
        · subst hk
          have hl : i < ws.length := by
            have := (List.getElem?_eq_some_iff.mp h1).1
            simpa using this
          rw [List.getElem?_set_self hl] at h1
          exact Or.inl (by rw [← Option.some.inj h1]; exact List.mem_cons_self)
        · rw [List.getElem?_set_ne hk] at h1
          refine Or.inr ⟨h1, ?_⟩
          simp only [List.length_cons, List.take_succ_cons, List.mem_cons, not_or]
          exact ⟨fun e => hk e.symm, h2⟩
theorem tc_put_map : ∀ (is : List Nat) (w1 ws wc : va_W), is.map (fun i => ws[i]?) = wc.map some → wc.map (·.1) = w1.map (·.1) → (tc_put ws is w1).map (·.1) = ws.map (·.1) := by
  intro is
  induction is with
  | nil => intro w1 ws wc _ _; cases w1 <;> rfl
  | cons i is ih =>
    intro w1 ws wc h1 h2
    cases w1 with
    | nil => rfl
    | cons x xs =>
      cases wc with
      | nil => simp at h1
      | cons y ys =>
        simp only [List.map_cons, List.cons.injEq] at h1 h2
        have hs : (ws.set i x).map (·.1) = ws.map (·.1) := by
          apply List.ext_getElem?
          intro k
          rw [List.getElem?_map, List.getElem?_map]
          by_cases hk : i = k
          · subst hk
            have hl : i < ws.length := (List.getElem?_eq_some_iff.mp h1.1).1
            rw [List.getElem?_set_self hl, h1.1, Option.map_some, Option.map_some, h2.1]
          · rw [List.getElem?_set_ne hk]
        show (tc_put (ws.set i x) is xs).map (·.1) = _
        by_cases hxs : (is.map fun j => (ws.set i x)[j]?) = (ys.map some)
        · rw [ih xs (ws.set i x) ys hxs h2.2, hs]
        · -- the later places may include i again: their addresses are the same all the same
          have key : ∀ (is : List Nat) (xs ws2 ys : va_W), (is.map fun j => (ws2[j]?).map (·.1)) = (ys.map fun z => some z.1) → ys.map (·.1) = xs.map (·.1) → (tc_put ws2 is xs).map (·.1) = ws2.map (·.1) := by
            intro is
            induction is with
            | nil => intro xs ws2 ys _ _; cases xs <;> rfl
            | cons j js ih2 =>
              intro xs ws2 ys g1 g2
              cases xs with
              | nil => rfl
              | cons x2 xs2 =>
                cases ys with
                | nil => simp at g1
                | cons y2 ys2 =>
                  simp only [List.map_cons, List.cons.injEq] at g1 g2
                  have hs2 : (ws2.set j x2).map (·.1) = ws2.map (·.1) := by
                    apply List.ext_getElem?
                    intro k
                    rw [List.getElem?_map, List.getElem?_map]
                    by_cases hk : j = k
                    · subst hk
                      have g3 := g1.1
                      cases hj : ws2[j]? with
                      | none => rw [hj] at g3; cases g3
                      | some z =>
                        have hl : j < ws2.length := (List.getElem?_eq_some_iff.mp hj).1
                        rw [hj, Option.map_some] at g3
                        rw [List.getElem?_set_self hl, Option.map_some, Option.map_some, ← g2.1, ← Option.some.inj g3]
                    · rw [List.getElem?_set_ne hk]
                  show (tc_put (ws2.set j x2) js xs2).map (·.1) = _
                  rw [ih2 xs2 (ws2.set j x2) ys2 ?_ g2.2, hs2]
                  rw [← g1.2]
                  apply List.map_congr_left
                  intro k _
                  rw [← List.getElem?_map, ← List.getElem?_map, hs2]
          rw [key is xs (ws.set i x) ys ?_ h2.2, hs]
          have h3 : (is.map fun j => (ws[j]?).map (·.1)) = ys.map fun z => some z.1 := by
            have := congrArg (List.map (Option.map (·.1))) h1.2
            simpa [List.map_map, Function.comp_def] using this
          rw [← h3]
          apply List.map_congr_left
          intro k _
          rw [← List.getElem?_map, ← List.getElem?_map, hs]
theorem tc_D {A : Nat → Prop} {ws ws' : va_W} (h : ws'.map (·.1) = ws.map (·.1)) (hD : va_D A ws) : va_D A ws' := by
  have back : ∀ (k : Nat) (q : Nat × va_E), ws'[k]? = some q → ∃ q0, ws[k]? = some q0 ∧ q0.1 = q.1 := by
    intro k q hk
    have h1 : (ws'.map (·.1))[k]? = some q.1 := by rw [List.getElem?_map, hk]; rfl
    rw [h, List.getElem?_map] at h1
    cases hw : ws[k]? with
    | none => rw [hw] at h1; cases h1
    | some q0 => rw [hw] at h1; exact ⟨q0, rfl, Option.some.inj h1⟩
  refine ⟨fun i j p q hi hj he => ?_, fun k q hk => ?_⟩
  · obtain ⟨p0, a1, a2⟩ := back i p hi
    obtain ⟨q0, b1, b2⟩ := back j q hj
    exact hD.1 i j p0 q0 a1 b1 (by rw [a2, b2, he])
  · obtain ⟨q0, a1, a2⟩ := back k q hk
    rw [← a2]
    exact hD.2 k q0 a1
theorem tc_join {D : va_G} {cl : List vw_C} {A : Nat → Prop} {ws wc w1 ws' : va_W} {H H1 : Heap} (hP : va_P D cl ws H) (hD : va_D A ws) (is : List Nat) (hC : is.map (fun i => ws[i]?) = wc.map some) (ha : wc.map (·.1) = w1.map (·.1))
    (hP1 : va_P D cl w1 H1) (hk : ∀ q : Nat, q < H.size → ¬ tA wc q → H1[q]? = H[q]?) (hw : tc_put ws is w1 = ws') : va_P D cl ws' H1 ∧ va_D A ws' := by
  subst hw
  refine ⟨fun k q hq => ?_, tc_D (tc_put_map is w1 ws wc hC ha) hD⟩
  rcases tc_put_in is w1 ws k q hq with h | ⟨h, hn⟩
  · obtain ⟨j, hj⟩ := List.getElem?_of_mem h
    exact hP1 j q hj
  · have hat := hP k q h
    refine hat.kept (hk q.1 hat.lt ?_)
    rintro ⟨j, e, hj⟩
    have hlen : is.length = wc.length := by simpa using congrArg List.length hC
    have hlen1 : wc.length = w1.length := by simpa using congrArg List.length ha
    have hjl : j < is.length := by rw [hlen]; exact (List.getElem?_eq_some_iff.mp hj).1
    have h2 : (is.map fun i => ws[i]?)[j]? = some (some (q.1, e)) := by rw [hC, List.getElem?_map, hj]; rfl
    rw [List.getElem?_map, List.getElem?_eq_getElem hjl] at h2
    have h3 : ws[is[j]]? = some (q.1, e) := Option.some.inj h2
    have h4 : k = is[j] := hD.1 k is[j] q (q.1, e) h h3 rfl
    apply hn
    rw [h4, List.take_of_length_le (by omega)]
    exact List.getElem_mem hjl
section TR
variable {p : Program} {l : Launch} {e : Env} {R : Room} {s : State} {m : MethodId} {args : Array Value} {below : List Frame} {meth : Method} {c : Code} {H : Heap} {locs : List Loc} {cells slots : Nat} {Q : State → Prop}
variable {pc : Nat} {ls : Array Slot} {rest st0 st1 : List Value} {a : Array Value} {cc : ByteArray} {D : va_G} {cl : List vw_C} {A0 : Nat → Prop} {H0 : Heap} {ws wc w1 ws' : va_W} {ov : Option Value} {tys tys' : List (ClassId × FieldType)}
theorem tr_go (hr : va_Run p l e R s m args below meth c H locs cells slots 0 0 (F0 m pc ls st0) rest (tq_R ov a) (fun _ => False)) (hs : ov.toList ++ rest = st1) (kk : W p l e R s m args below meth c H locs cells slots Q (F0 m (pc + 3) ls st1)) : W p l e R s m args below meth c H locs cells slots Q (F0 m pc ls st0) := by
  intro T hT X
  obtain ⟨v, st₀, t, T', L, h0, X', hL, e1, e2, ⟨hv, hh⟩, st⟩ := hr T hT X
  cases hv
  subst hs
  obtain ⟨t2, a1, b1⟩ := kk T' (by rw [e1, hh, h0]) (Stand.forget X' (fun q h => (hL q h).elim))
  exact ⟨t2, st t2 a1, b1⟩
theorem tc_go (hr : va_Run p l e R s m args below meth c H locs cells slots 0 0 (F0 m pc ls st0) rest (tq_W D cl ov wc w1 a) (tA wc)) (hs : ov.toList ++ rest = st1) (hP : va_P D cl ws H) (hD : va_D A0 ws) (hS : va_S A0 H0 H locs)
    (is : List Nat) (hC : is.map (fun i => ws[i]?) = wc.map some) (ha : wc.map (·.1) = w1.map (·.1)) (hw : tc_put ws is w1 = ws')
    (kk : ∀ (H1 : Heap) (locs1 : List Loc), va_P D cl ws' H1 → va_D A0 ws' → va_S A0 H0 H1 locs1 → W p l e R s m args below meth c H1 locs1 cells slots Q (F0 m (pc + 3) ls st1)) : W p l e R s m args below meth c H locs cells slots Q (F0 m pc ls st0) := by
  intro T hT X
  obtain ⟨v, st₀, t, T', L, h0, X', hL, e1, e2, ⟨hv, hP1, hF⟩, st⟩ := hr T hT X
  cases hv
  subst hs
  have hin : ∀ q, tA wc q → A0 q := by
    rintro q ⟨j, e, hj⟩
    have hjl : j < is.length := by
      have : is.length = wc.length := by simpa using congrArg List.length hC
      rw [this]; exact (List.getElem?_eq_some_iff.mp hj).1
    have h2 : (is.map fun i => ws[i]?)[j]? = some (some (q, e)) := by rw [hC, List.getElem?_map, hj]; rfl
    rw [List.getElem?_map, List.getElem?_eq_getElem hjl] at h2
    exact hD.2 is[j] (q, e) (Option.some.inj h2)
  have hF1 : H.size ≤ T'.heap.size := by rw [e1, ← h0]; exact hF.1
  have hF2 : ∀ q : Nat, q < H.size → ¬ tA wc q → T'.heap[q]? = H[q]? := fun q h1 h2 => by
    rw [e1, hF.2 q (by rw [h0]; exact h1) h2, h0]
  obtain ⟨hP', hD'⟩ := tc_join hP hD is hC ha (by rw [e1]; exact hP1) hF2 hw
  obtain ⟨t2, a1, b1⟩ := kk T'.heap (locs ++ L) hP' hD' ⟨Nat.le_trans hS.1 hF1, fun q h1 h2 => by
      rw [hF2 q (Nat.lt_of_lt_of_le h1 hS.1) (fun h => h2 (hin q h))]
      exact hS.2.1 q h1 h2, fun x hx => by
      rcases List.mem_append.mp hx with h | h
      · exact hS.2.2 x h
      · exact hin _ (hL x h)⟩ T' rfl X'
  exact ⟨t2, st t2 a1, b1⟩
/-- the start of a call, for a contract of mine -/
theorem tp_Rs {av : List Value} {w : va_W} (hN : tn s) (hK : va_K D cl tys s) (hP : va_P D cl ws H) (is ts : List Nat) (hw : is.filterMap (fun i => ws[i]?) = w) (ht : ts.filterMap (fun i => tys[i]?) = tys') : PreS s H (tp_R D cl av w tys') av :=
  ⟨fun a U g mk q => ⟨q.1, q.2.1, va_K.moved (u := U) (U := U.calling g mk a) (Vm.Alike.refl U.vm) q.2.2.1, tn_same (s := U) rfl q.2.2.2⟩, fun U hU hW => ⟨rfl, by rw [hU]; exact hP.sub is hw, va_K.moved hW.alike (hK.sub ts ht), tn_warm hW hN⟩⟩
theorem tp_Rv {b q0 ci : Nat} {cq : vw_C} {fs : List Value} {As : List Value} {w : va_W} (hN : tn s) (hK : va_K D cl tys s) (hP : va_P D cl ws H) (is ts : List Nat) (hw : is.filterMap (fun i => ws[i]?) = w) (ht : ts.filterMap (fun i => tys[i]?) = tys') (he : ws[q0]? = some (b, .inr (ci, fs))) (hc : cl[ci]? = some cq) : PreV s H cq.1 b (tp_R D cl (.ref b :: As) w tys') As :=
  ⟨(tp_Rs (av := .ref b :: As) hN hK hP is ts hw ht).1, va_recv hK hP hc he, (tp_Rs (av := .ref b :: As) hN hK hP is ts hw ht).2⟩
theorem tp_Ws {av : List Value} {w : va_W} {A : Nat → Prop} (hN : tn s) (hK : va_K D cl tys s) (hP : va_P D cl ws H) (hD : va_D A ws) (is ts : List Nat) (hw : is.map (fun i => ws[i]?) = w.map some) (hn : va_nd is = true) (ht : ts.filterMap (fun i => tys[i]?) = tys') : PreS s H (tp_W D cl av w tys') av :=
  ⟨fun a U g mk q => ⟨q.1, q.2.1, va_K.moved (u := U) (U := U.calling g mk a) (Vm.Alike.refl U.vm) q.2.2.1, tn_same (s := U) rfl q.2.2.2.1, q.2.2.2.2⟩, fun U hU hW => ⟨rfl, by rw [hU]; exact hP.sub is (by
    have h := congrArg (List.filterMap id) hw
    rw [List.filterMap_map, List.filterMap_map] at h
    simpa [Function.comp_def] using h), va_K.moved hW.alike (hK.sub ts ht), tn_warm hW hN, (hD.sub is hn hw).weaken (fun _ _ _ _ => trivial)⟩⟩
theorem tp_Wv {b q0 ci : Nat} {cq : vw_C} {fs : List Value} {As : List Value} {w : va_W} {A : Nat → Prop} (hN : tn s) (hK : va_K D cl tys s) (hP : va_P D cl ws H) (hD : va_D A ws) (is ts : List Nat) (hw : is.map (fun i => ws[i]?) = w.map some) (hn : va_nd is = true) (ht : ts.filterMap (fun i => tys[i]?) = tys') (he : ws[q0]? = some (b, .inr (ci, fs))) (hc : cl[ci]? = some cq) : PreV s H cq.1 b (tp_W D cl (.ref b :: As) w tys') As :=
  ⟨(tp_Ws (av := .ref b :: As) hN hK hP hD is ts hw hn ht).1, va_recv hK hP hc he, (tp_Ws (av := .ref b :: As) hN hK hP hD is ts hw hn ht).2⟩
/-- branches -/
theorem tb_ifeq (hexec : p.tables.exec = Jvm.exec) (hb : c.code = cc) {b : Bool} {off : Int} {tgt : Nat} (hdg : decode cc pc = .ok (.ifCond .eq off, 3)) (ht : (pc : Int) + off = (tgt : Int)) (kt : b = false → W p l e R s m args below meth c H locs cells slots Q (F0 m tgt ls rest)) (kf : b = true → W p l e R s m args below meth c H locs cells slots Q (F0 m (pc + 3) ls rest)) : W p l e R s m args below meth c H locs cells slots Q (F0 m pc ls (.int (bI b) :: rest)) :=
  lv_if_eq hexec hb hdg ht (fun h => kt (bI_0.mp h)) (fun h => kf (bI_1.mp h))
theorem tb_ifne (hexec : p.tables.exec = Jvm.exec) (hb : c.code = cc) {b : Bool} {off : Int} {tgt : Nat} (hdg : decode cc pc = .ok (.ifCond .ne off, 3)) (ht : (pc : Int) + off = (tgt : Int)) (kt : b = true → W p l e R s m args below meth c H locs cells slots Q (F0 m tgt ls rest)) (kf : b = false → W p l e R s m args below meth c H locs cells slots Q (F0 m (pc + 3) ls rest)) : W p l e R s m args below meth c H locs cells slots Q (F0 m pc ls (.int (bI b) :: rest)) :=
  lv_if_ne hexec hb hdg ht (fun h => kt (bI_1.mp h)) (fun h => kf (bI_0.mp h))
theorem tl_ge (hexec : p.tables.exec = Jvm.exec) (hb : c.code = cc) {x y : Int64} {off : Int} {tgt : Nat} (h1 : decode cc pc = .ok (.lcmp, 1)) (h2 : decode cc (pc + 1) = .ok (.ifCond .ge off, 3)) (ht : ((pc + 1 : Nat) : Int) + off = (tgt : Int)) (kt : y ≤ x → W p l e R s m args below meth c H locs cells slots Q (F0 m tgt ls rest)) (kf : ¬ y ≤ x → W p l e R s m args below meth c H locs cells slots Q (F0 m (pc + 1 + 3) ls rest)) : W p l e R s m args below meth c H locs cells slots Q (F0 m pc ls (.long y :: .long x :: rest)) :=
  W.lcmp hexec hb h1 (lv_if_ge hexec hb h2 ht (fun h => kt ((lg_cmp_ge x y).mp h)) (fun h => kf (fun h3 => h ((lg_cmp_ge x y).mpr h3))))
theorem tl_le (hexec : p.tables.exec = Jvm.exec) (hb : c.code = cc) {x y : Int64} {off : Int} {tgt : Nat} (h1 : decode cc pc = .ok (.lcmp, 1)) (h2 : decode cc (pc + 1) = .ok (.ifCond .le off, 3)) (ht : ((pc + 1 : Nat) : Int) + off = (tgt : Int)) (kt : x ≤ y → W p l e R s m args below meth c H locs cells slots Q (F0 m tgt ls rest)) (kf : ¬ x ≤ y → W p l e R s m args below meth c H locs cells slots Q (F0 m (pc + 1 + 3) ls rest)) : W p l e R s m args below meth c H locs cells slots Q (F0 m pc ls (.long y :: .long x :: rest)) :=
  W.lcmp hexec hb h1 (lv_if_le hexec hb h2 ht (fun h => kt ((lg_cmp_le x y).mp h)) (fun h => kf (fun h3 => h ((lg_cmp_le x y).mpr h3))))
theorem tl_gt (hexec : p.tables.exec = Jvm.exec) (hb : c.code = cc) {x y : Int64} {off : Int} {tgt : Nat} (h1 : decode cc pc = .ok (.lcmp, 1)) (h2 : decode cc (pc + 1) = .ok (.ifCond .gt off, 3)) (ht : ((pc + 1 : Nat) : Int) + off = (tgt : Int)) (kt : y < x → W p l e R s m args below meth c H locs cells slots Q (F0 m tgt ls rest)) (kf : ¬ y < x → W p l e R s m args below meth c H locs cells slots Q (F0 m (pc + 1 + 3) ls rest)) : W p l e R s m args below meth c H locs cells slots Q (F0 m pc ls (.long y :: .long x :: rest)) :=
  W.lcmp hexec hb h1 (lv_if_gt hexec hb h2 ht (fun h => kt ((lg_cmp_gt x y).mp h)) (fun h => kf (fun h3 => h ((lg_cmp_gt x y).mpr h3))))
theorem tl_lt (hexec : p.tables.exec = Jvm.exec) (hb : c.code = cc) {x y : Int64} {off : Int} {tgt : Nat} (h1 : decode cc pc = .ok (.lcmp, 1)) (h2 : decode cc (pc + 1) = .ok (.ifCond .lt off, 3)) (ht : ((pc + 1 : Nat) : Int) + off = (tgt : Int)) (kt : x < y → W p l e R s m args below meth c H locs cells slots Q (F0 m tgt ls rest)) (kf : ¬ x < y → W p l e R s m args below meth c H locs cells slots Q (F0 m (pc + 1 + 3) ls rest)) : W p l e R s m args below meth c H locs cells slots Q (F0 m pc ls (.long y :: .long x :: rest)) :=
  W.lcmp hexec hb h1 (lv_if_lt hexec hb h2 ht (fun h => kt ((lg_cmp_lt x y).mp h)) (fun h => kf (fun h3 => h ((lg_cmp_lt x y).mpr h3))))
theorem tl_eq (hexec : p.tables.exec = Jvm.exec) (hb : c.code = cc) {x y : Int64} {off : Int} {tgt : Nat} (h1 : decode cc pc = .ok (.lcmp, 1)) (h2 : decode cc (pc + 1) = .ok (.ifCond .eq off, 3)) (ht : ((pc + 1 : Nat) : Int) + off = (tgt : Int)) (kt : x = y → W p l e R s m args below meth c H locs cells slots Q (F0 m tgt ls rest)) (kf : ¬ x = y → W p l e R s m args below meth c H locs cells slots Q (F0 m (pc + 1 + 3) ls rest)) : W p l e R s m args below meth c H locs cells slots Q (F0 m pc ls (.long y :: .long x :: rest)) :=
  W.lcmp hexec hb h1 (lv_if_eq hexec hb h2 ht (fun h => kt ((lg_cmp_eq x y).mp h)) (fun h => kf (fun h3 => h ((lg_cmp_eq x y).mpr h3))))
theorem tl_ne (hexec : p.tables.exec = Jvm.exec) (hb : c.code = cc) {x y : Int64} {off : Int} {tgt : Nat} (h1 : decode cc pc = .ok (.lcmp, 1)) (h2 : decode cc (pc + 1) = .ok (.ifCond .ne off, 3)) (ht : ((pc + 1 : Nat) : Int) + off = (tgt : Int)) (kt : ¬ x = y → W p l e R s m args below meth c H locs cells slots Q (F0 m tgt ls rest)) (kf : x = y → W p l e R s m args below meth c H locs cells slots Q (F0 m (pc + 1 + 3) ls rest)) : W p l e R s m args below meth c H locs cells slots Q (F0 m pc ls (.long y :: .long x :: rest)) :=
  W.lcmp hexec hb h1 (lv_if_ne hexec hb h2 ht (fun h => kt (fun h3 => h ((lg_cmp_eq x y).mpr h3))) (fun h => kf ((lg_cmp_eq x y).mp h)))
end TR
end
section
/-! names: the words that all methods use (the tables' good ones), classes, methods -/
def gT : List Cond := lw_tbl.filter goodWord
theorem gT_good : ∀ w ∈ gT, (w.onTables && w.keeps) = true ∨ ∃ ty, w = .arrayClass ty := fun w h => good_of_word (List.mem_filter.mp h).2
theorem gT_tbl : ∀ w ∈ gT, w ∈ lw_tbl := fun w h => (List.mem_filter.mp h).1
def RP : String := "StairPlans"
def RT : String := "StairPlans$RuleText"
def RS : String := "StairPlans$RuleSet"
def RF : String := "StairPlans$FloorSet"
def RA : String := "StairPlans$Stair"
def RQ : String := "StairPlans$Fraction"
def RM : String := "StairPlansModel"
def RL : String := "StairPlansLaw"
def TP : u_T := fun k => match k with
  | 0 => ("StairPlans", "text", "LStairPlans$RuleText;", true)
  | 1 => ("StairPlans", "ruleSet", "LStairPlans$RuleSet;", false)
  | 2 => ("StairPlans", "spareRuleSet", "LStairPlans$RuleSet;", false)
  | 3 => ("StairPlans", "floorSet", "LStairPlans$FloorSet;", true)
  | 4 => ("StairPlans", "stair", "LStairPlans$Stair;", true)
  | 5 => ("StairPlans", "riseFraction", "LStairPlans$Fraction;", true)
  | 6 => ("StairPlans", "gapFraction", "LStairPlans$Fraction;", true)
  | 7 => ("StairPlans", "total", "J", false)
  | 8 => ("StairPlans", "planned", "Z", false)
  | _ => ("StairPlans", "gapFound", "Z", false)
def yP : Nat → FieldType := fun k => match k with
  | 0 => .object "StairPlans$RuleText"
  | 1 => .object "StairPlans$RuleSet"
  | 2 => .object "StairPlans$RuleSet"
  | 3 => .object "StairPlans$FloorSet"
  | 4 => .object "StairPlans$Stair"
  | 5 => .object "StairPlans$Fraction"
  | 6 => .object "StairPlans$Fraction"
  | 7 => .long
  | 8 => .boolean
  | _ => .boolean
theorem noP : ∀ a, a < 10 → ∀ b, b < 10 → a ≠ b → (TP a).2.1 ≠ (TP b).2.1 := by decide +kernel
theorem yoP : ∀ k, k < 10 → parseFieldDescriptor (TP k).2.2.1 = some (yP k) := by decide +kernel
def TT : u_T := fun k => match k with
  | 0 => ("StairPlans$RuleText", "characters", "[C", true)
  | 1 => ("StairPlans$RuleText", "length", "I", false)
  | _ => ("StairPlans$RuleText", "place", "I", false)
def yT : Nat → FieldType := fun k => match k with
  | 0 => .array .char
  | 1 => .int
  | _ => .int
theorem noT : ∀ a, a < 3 → ∀ b, b < 3 → a ≠ b → (TT a).2.1 ≠ (TT b).2.1 := by decide +kernel
theorem yoT : ∀ k, k < 3 → parseFieldDescriptor (TT k).2.2.1 = some (yT k) := by decide +kernel
def TS : u_T := fun k => match k with
  | 0 => ("StairPlans$RuleSet", "weights", "[I", true)
  | 1 => ("StairPlans$RuleSet", "relations", "[C", true)
  | 2 => ("StairPlans$RuleSet", "bounds", "[I", true)
  | _ => ("StairPlans$RuleSet", "count", "I", false)
def yS : Nat → FieldType := fun k => match k with
  | 0 => .array .int
  | 1 => .array .char
  | 2 => .array .int
  | _ => .int
theorem noS : ∀ a, a < 4 → ∀ b, b < 4 → a ≠ b → (TS a).2.1 ≠ (TS b).2.1 := by decide +kernel
theorem yoS : ∀ k, k < 4 → parseFieldDescriptor (TS k).2.2.1 = some (yS k) := by decide +kernel
def TF : u_T := fun k => match k with
  | 0 => ("StairPlans$FloorSet", "x0", "[J", true)
  | 1 => ("StairPlans$FloorSet", "y0", "[J", true)
  | 2 => ("StairPlans$FloorSet", "x1", "[J", true)
  | 3 => ("StairPlans$FloorSet", "y1", "[J", true)
  | 4 => ("StairPlans$FloorSet", "height", "[J", true)
  | _ => ("StairPlans$FloorSet", "count", "I", false)
def yF : Nat → FieldType := fun k => match k with
  | 0 => .array .long
  | 1 => .array .long
  | 2 => .array .long
  | 3 => .array .long
  | 4 => .array .long
  | _ => .int
theorem noF : ∀ a, a < 6 → ∀ b, b < 6 → a ≠ b → (TF a).2.1 ≠ (TF b).2.1 := by decide +kernel
theorem yoF : ∀ k, k < 6 → parseFieldDescriptor (TF k).2.2.1 = some (yF k) := by decide +kernel
def TA : u_T := fun k => match k with
  | 0 => ("StairPlans$Stair", "kind", "I", false)
  | 1 => ("StairPlans$Stair", "rises", "I", false)
  | 2 => ("StairPlans$Stair", "total", "J", false)
  | 3 => ("StairPlans$Stair", "going", "J", false)
  | 4 => ("StairPlans$Stair", "width", "J", false)
  | 5 => ("StairPlans$Stair", "cornerFrom", "I", false)
  | _ => ("StairPlans$Stair", "cornerTo", "I", false)
def yA : Nat → FieldType := fun k => match k with
  | 0 => .int
  | 1 => .int
  | 2 => .long
  | 3 => .long
  | 4 => .long
  | 5 => .int
  | _ => .int
theorem noA : ∀ a, a < 7 → ∀ b, b < 7 → a ≠ b → (TA a).2.1 ≠ (TA b).2.1 := by decide +kernel
theorem yoA : ∀ k, k < 7 → parseFieldDescriptor (TA k).2.2.1 = some (yA k) := by decide +kernel
def TQ : u_T := fun k => match k with
  | 0 => ("StairPlans$Fraction", "numerator", "J", false)
  | _ => ("StairPlans$Fraction", "denominator", "J", false)
def yQ : Nat → FieldType := fun k => match k with
  | 0 => .long
  | _ => .long
theorem noQ : ∀ a, a < 2 → ∀ b, b < 2 → a ≠ b → (TQ a).2.1 ≠ (TQ b).2.1 := by decide +kernel
theorem yoQ : ∀ k, k < 2 → parseFieldDescriptor (TQ k).2.2.1 = some (yQ k) := by decide +kernel
def TM : u_T := fun k => match k with
  | 0 => ("StairPlansModel", "code", "I", false)
  | 1 => ("StairPlansModel", "total", "J", false)
  | 2 => ("StairPlansModel", "typed", "[I", true)
  | 3 => ("StairPlansModel", "size", "I", false)
  | 4 => ("StairPlansModel", "at", "I", false)
  | 5 => ("StairPlansModel", "failed", "I", false)
  | 6 => ("StairPlansModel", "rules", "I", false)
  | 7 => ("StairPlansModel", "told", "[I", true)
  | 8 => ("StairPlansModel", "draft", "[I", true)
  | 9 => ("StairPlansModel", "planned", "Z", false)
  | 10 => ("StairPlansModel", "kind", "I", false)
  | 11 => ("StairPlansModel", "going", "J", false)
  | 12 => ("StairPlansModel", "width", "J", false)
  | 13 => ("StairPlansModel", "n", "I", false)
  | 14 => ("StairPlansModel", "gapped", "Z", false)
  | 15 => ("StairPlansModel", "gapAbove", "J", false)
  | 16 => ("StairPlansModel", "gapBelow", "J", false)
  | 17 => ("StairPlansModel", "floors", "I", false)
  | _ => ("StairPlansModel", "boxes", "[J", true)
def yM : Nat → FieldType := fun k => match k with
  | 0 => .int
  | 1 => .long
  | 2 => .array .int
  | 3 => .int
  | 4 => .int
  | 5 => .int
  | 6 => .int
  | 7 => .array .int
  | 8 => .array .int
  | 9 => .boolean
  | 10 => .int
  | 11 => .long
  | 12 => .long
  | 13 => .int
  | 14 => .boolean
  | 15 => .long
  | 16 => .long
  | 17 => .int
  | _ => .array .long
theorem noM : ∀ a, a < 19 → ∀ b, b < 19 → a ≠ b → (TM a).2.1 ≠ (TM b).2.1 := by decide +kernel
theorem yoM : ∀ k, k < 19 → parseFieldDescriptor (TM k).2.2.1 = some (yM k) := by decide +kernel
abbrev vCl : List vw_C := [(RP, TP, 10), (RT, TT, 3), (RS, TS, 4), (RF, TF, 6), (RA, TA, 7), (RQ, TQ, 2), (RM, TM, 19)]
abbrev bP_init : ByteArray := prog_1_method_1_code
def mP_init : MethodName := ⟨RP, "<init>", "()V"⟩
abbrev wP_init : List Cond := .code mP_init bP_init 1 none :: gT
abbrev bP_heights : ByteArray := prog_1_method_2_code
def mP_heights : MethodName := ⟨RP, "heights", "(J)Z"⟩
abbrev wP_heights : List Cond := .code mP_heights bP_heights 3 (some .boolean) :: gT
abbrev bP_unit : ByteArray := prog_1_method_3_code
def mP_unit : MethodName := ⟨RP, "unit", "(I)Z"⟩
abbrev wP_unit : List Cond := .code mP_unit bP_unit 2 (some .boolean) :: gT
abbrev bP_rules : ByteArray := prog_1_method_4_code
def mP_rules : MethodName := ⟨RP, "rules", "()I"⟩
abbrev wP_rules : List Cond := .code mP_rules bP_rules 4 (some .int) :: gT
abbrev bP_run : ByteArray := prog_1_method_5_code
def mP_run : MethodName := ⟨RP, "run", "(IJJ)I"⟩
abbrev wP_run : List Cond := .code mP_run bP_run 9 (some .int) :: gT
abbrev bP_rise : ByteArray := prog_1_method_6_code
def mP_rise : MethodName := ⟨RP, "rise", "(I)J"⟩
abbrev wP_rise : List Cond := .code mP_rise bP_rise 2 (some .long) :: gT
abbrev bP_step : ByteArray := prog_1_method_7_code
def mP_step : MethodName := ⟨RP, "step", "(II)J"⟩
abbrev wP_step : List Cond := .code mP_step bP_step 3 (some .long) :: gT
abbrev bP_winder : ByteArray := prog_1_method_8_code
def mP_winder : MethodName := ⟨RP, "winder", "(II)J"⟩
abbrev wP_winder : List Cond := .code mP_winder bP_winder 3 (some .long) :: gT
abbrev bP_area : ByteArray := prog_1_method_9_code
def mP_area : MethodName := ⟨RP, "area", "(I)J"⟩
abbrev wP_area : List Cond := .code mP_area bP_area 2 (some .long) :: gT
abbrev bP_meets : ByteArray := prog_1_method_10_code
def mP_meets : MethodName := ⟨RP, "meets", "(I)Z"⟩
abbrev wP_meets : List Cond := .code mP_meets bP_meets 2 (some .boolean) :: gT
abbrev bP_floor : ByteArray := prog_1_method_11_code
def mP_floor : MethodName := ⟨RP, "floor", "(JJJJJ)Z"⟩
abbrev wP_floor : List Cond := .code mP_floor bP_floor 11 (some .boolean) :: gT
abbrev bP_headRoom : ByteArray := prog_1_method_12_code
def mP_headRoom : MethodName := ⟨RP, "headRoom", "()J"⟩
abbrev wP_headRoom : List Cond := .code mP_headRoom bP_headRoom 1 (some .long) :: gT
abbrev bP_string : ByteArray := prog_1_method_13_code
def mP_string : MethodName := ⟨RP, "string", "(I)J"⟩
abbrev wP_string : List Cond := .code mP_string bP_string 4 (some .long) :: gT
abbrev bP_balusters : ByteArray := prog_1_method_14_code
def mP_balusters : MethodName := ⟨RP, "balusters", "(JJ)I"⟩
abbrev wP_balusters : List Cond := .code mP_balusters bP_balusters 8 (some .int) :: gT
abbrev bP_gap : ByteArray := prog_1_method_15_code
def mP_gap : MethodName := ⟨RP, "gap", "(I)J"⟩
abbrev wP_gap : List Cond := .code mP_gap bP_gap 2 (some .long) :: gT
abbrev bP_list : ByteArray := prog_1_method_16_code
def mP_list : MethodName := ⟨RP, "list", "(I)I"⟩
abbrev wP_list : List Cond := .code mP_list bP_list 2 (some .int) :: gT
abbrev bP_forgetPlan : ByteArray := prog_1_method_17_code
def mP_forgetPlan : MethodName := ⟨RP, "forgetPlan", "()V"⟩
abbrev wP_forgetPlan : List Cond := .code mP_forgetPlan bP_forgetPlan 1 none :: gT
abbrev bP_requirePlan : ByteArray := prog_1_method_18_code
def mP_requirePlan : MethodName := ⟨RP, "requirePlan", "()V"⟩
abbrev wP_requirePlan : List Cond := .code mP_requirePlan bP_requirePlan 1 none :: gT
abbrev bP_requireWinders : ByteArray := prog_1_method_19_code
def mP_requireWinders : MethodName := ⟨RP, "requireWinders", "()V"⟩
abbrev wP_requireWinders : List Cond := .code mP_requireWinders bP_requireWinders 1 none :: gT
abbrev bP_requireIndex : ByteArray := prog_1_method_20_code
def mP_requireIndex : MethodName := ⟨RP, "requireIndex", "(II)V"⟩
abbrev wP_requireIndex : List Cond := .code mP_requireIndex bP_requireIndex 2 none :: gT
abbrev bP_fewestBalusters : ByteArray := prog_1_method_21_code
def mP_fewestBalusters : MethodName := ⟨RP, "fewestBalusters", "(JJJ)I"⟩
abbrev wP_fewestBalusters : List Cond := .code mP_fewestBalusters bP_fewestBalusters 11 (some .int) :: gT
abbrev bM_init : ByteArray := prog_8_method_1_code
def mM_init : MethodName := ⟨RM, "<init>", "()V"⟩
abbrev wM_init : List Cond := .code mM_init bM_init 1 none :: gT
abbrev bM_thrown : ByteArray := prog_8_method_2_code
def mM_thrown : MethodName := ⟨RM, "thrown", "()I"⟩
abbrev wM_thrown : List Cond := .code mM_thrown bM_thrown 1 (some .int) :: gT
abbrev bM_isIn : ByteArray := prog_8_method_3_code
def mM_isIn : MethodName := ⟨RM, "isIn", "(JJJ)Z"⟩
abbrev wM_isIn : List Cond := .code mM_isIn bM_isIn 6 (some .boolean) :: gT
abbrev bM_heights : ByteArray := prog_8_method_4_code
def mM_heights : MethodName := ⟨RM, "heights", "(J)Z"⟩
abbrev wM_heights : List Cond := .code mM_heights bM_heights 3 (some .boolean) :: gT
abbrev bM_unit : ByteArray := prog_8_method_5_code
def mM_unit : MethodName := ⟨RM, "unit", "(I)Z"⟩
abbrev wM_unit : List Cond := .code mM_unit bM_unit 3 (some .boolean) :: gT
abbrev bM_here : ByteArray := prog_8_method_6_code
def mM_here : MethodName := ⟨RM, "here", "()I"⟩
abbrev wM_here : List Cond := .code mM_here bM_here 1 (some .int) :: gT
abbrev bM_fail : ByteArray := prog_8_method_7_code
def mM_fail : MethodName := ⟨RM, "fail", "()V"⟩
abbrev wM_fail : List Cond := .code mM_fail bM_fail 1 none :: gT
abbrev bM_isDigit : ByteArray := prog_8_method_8_code
def mM_isDigit : MethodName := ⟨RM, "isDigit", "()Z"⟩
abbrev wM_isDigit : List Cond := .code mM_isDigit bM_isDigit 1 (some .boolean) :: gT
abbrev bM_readDigits : ByteArray := prog_8_method_9_code
def mM_readDigits : MethodName := ⟨RM, "readDigits", "(I)I"⟩
abbrev wM_readDigits : List Cond := .code mM_readDigits bM_readDigits 4 (some .int) :: gT
abbrev bM_letterOf : ByteArray := prog_8_method_10_code
def mM_letterOf : MethodName := ⟨RM, "letterOf", "(I)I"⟩
abbrev wM_letterOf : List Cond := .code mM_letterOf bM_letterOf 1 (some .int) :: gT
abbrev bM_readTerm : ByteArray := prog_8_method_11_code
def mM_readTerm : MethodName := ⟨RM, "readTerm", "(I)V"⟩
abbrev wM_readTerm : List Cond := .code mM_readTerm bM_readTerm 4 none :: gT
abbrev bM_readRule : ByteArray := prog_8_method_12_code
def mM_readRule : MethodName := ⟨RM, "readRule", "(I)V"⟩
abbrev wM_readRule : List Cond := .code mM_readRule bM_readRule 4 none :: gT
abbrev bM_rules : ByteArray := prog_8_method_13_code
def mM_rules : MethodName := ⟨RM, "rules", "()I"⟩
abbrev wM_rules : List Cond := .code mM_rules bM_rules 3 (some .int) :: gT
abbrev bM_holds : ByteArray := prog_8_method_14_code
def mM_holds : MethodName := ⟨RM, "holds", "(IJJI)Z"⟩
abbrev wM_holds : List Cond := .code mM_holds bM_holds 12 (some .boolean) :: gT
abbrev bM_holding : ByteArray := prog_8_method_15_code
def mM_holding : MethodName := ⟨RM, "holding", "(JJI)I"⟩
abbrev wM_holding : List Cond := .code mM_holding bM_holding 7 (some .int) :: gT
abbrev bM_run : ByteArray := prog_8_method_16_code
def mM_run : MethodName := ⟨RM, "run", "(IJJ)I"⟩
abbrev wM_run : List Cond := .code mM_run bM_run 10 (some .int) :: gT
abbrev bM_none : ByteArray := prog_8_method_17_code
def mM_none : MethodName := ⟨RM, "none", "()Z"⟩
abbrev wM_none : List Cond := .code mM_none bM_none 1 (some .boolean) :: gT
abbrev bM_common : ByteArray := prog_8_method_18_code
def mM_common : MethodName := ⟨RM, "common", "(JJ)J"⟩
abbrev wM_common : List Cond := .code mM_common bM_common 10 (some .long) :: gT
abbrev bM_rise : ByteArray := prog_8_method_19_code
def mM_rise : MethodName := ⟨RM, "rise", "(I)J"⟩
abbrev wM_rise : List Cond := .code mM_rise bM_rise 2 (some .long) :: gT
abbrev bM_before : ByteArray := prog_8_method_20_code
def mM_before : MethodName := ⟨RM, "before", "()I"⟩
abbrev wM_before : List Cond := .code mM_before bM_before 1 (some .int) :: gT
abbrev bM_inSquare : ByteArray := prog_8_method_21_code
def mM_inSquare : MethodName := ⟨RM, "inSquare", "()I"⟩
abbrev wM_inSquare : List Cond := .code mM_inSquare bM_inSquare 1 (some .int) :: gT
abbrev bM_sort : ByteArray := prog_8_method_22_code
def mM_sort : MethodName := ⟨RM, "sort", "(I)I"⟩
abbrev wM_sort : List Cond := .code mM_sort bM_sort 3 (some .int) :: gT
abbrev bM_side : ByteArray := prog_8_method_23_code
def mM_side : MethodName := ⟨RM, "side", "(II)J"⟩
abbrev wM_side : List Cond := .code mM_side bM_side 8 (some .long) :: gT
abbrev bM_step : ByteArray := prog_8_method_24_code
def mM_step : MethodName := ⟨RM, "step", "(II)J"⟩
abbrev wM_step : List Cond := .code mM_step bM_step 3 (some .long) :: gT
abbrev bM_noWinders : ByteArray := prog_8_method_25_code
def mM_noWinders : MethodName := ⟨RM, "noWinders", "()Z"⟩
abbrev wM_noWinders : List Cond := .code mM_noWinders bM_noWinders 1 (some .boolean) :: gT
abbrev bM_winder : ByteArray := prog_8_method_26_code
def mM_winder : MethodName := ⟨RM, "winder", "(II)J"⟩
abbrev wM_winder : List Cond := .code mM_winder bM_winder 7 (some .long) :: gT
abbrev bM_area : ByteArray := prog_8_method_27_code
def mM_area : MethodName := ⟨RM, "area", "(I)J"⟩
abbrev wM_area : List Cond := .code mM_area bM_area 2 (some .long) :: gT
abbrev bM_meets : ByteArray := prog_8_method_28_code
def mM_meets : MethodName := ⟨RM, "meets", "(I)Z"⟩
abbrev wM_meets : List Cond := .code mM_meets bM_meets 2 (some .boolean) :: gT
abbrev bM_isPlace : ByteArray := prog_8_method_29_code
def mM_isPlace : MethodName := ⟨RM, "isPlace", "(J)Z"⟩
abbrev wM_isPlace : List Cond := .code mM_isPlace bM_isPlace 2 (some .boolean) :: gT
abbrev bM_floor : ByteArray := prog_8_method_30_code
def mM_floor : MethodName := ⟨RM, "floor", "(JJJJJ)Z"⟩
abbrev wM_floor : List Cond := .code mM_floor bM_floor 12 (some .boolean) :: gT
abbrev bM_headRoom : ByteArray := prog_8_method_31_code
def mM_headRoom : MethodName := ⟨RM, "headRoom", "()J"⟩
abbrev wM_headRoom : List Cond := .code mM_headRoom bM_headRoom 8 (some .long) :: gT
abbrev bM_string : ByteArray := prog_8_method_32_code
def mM_string : MethodName := ⟨RM, "string", "(I)J"⟩
abbrev wM_string : List Cond := .code mM_string bM_string 13 (some .long) :: gT
abbrev bM_balusters : ByteArray := prog_8_method_33_code
def mM_balusters : MethodName := ⟨RM, "balusters", "(JJ)I"⟩
abbrev wM_balusters : List Cond := .code mM_balusters bM_balusters 13 (some .int) :: gT
abbrev bM_gap : ByteArray := prog_8_method_34_code
def mM_gap : MethodName := ⟨RM, "gap", "(I)J"⟩
abbrev wM_gap : List Cond := .code mM_gap bM_gap 2 (some .long) :: gT
abbrev bM_list : ByteArray := prog_8_method_35_code
def mM_list : MethodName := ⟨RM, "list", "(I)I"⟩
abbrev wM_list : List Cond := .code mM_list bM_list 2 (some .int) :: gT
abbrev bF_init : ByteArray := prog_2_method_1_code
def mF_init : MethodName := ⟨RF, "<init>", "()V"⟩
abbrev wF_init : List Cond := .code mF_init bF_init 1 none :: gT
abbrev bF_isPlace : ByteArray := prog_2_method_2_code
def mF_isPlace : MethodName := ⟨RF, "isPlace", "(J)Z"⟩
abbrev wF_isPlace : List Cond := .code mF_isPlace bF_isPlace 2 (some .boolean) :: gT
abbrev bF_isHeight : ByteArray := prog_2_method_3_code
def mF_isHeight : MethodName := ⟨RF, "isHeight", "(J)Z"⟩
abbrev wF_isHeight : List Cond := .code mF_isHeight bF_isHeight 2 (some .boolean) :: gT
abbrev bF_append : ByteArray := prog_2_method_4_code
def mF_append : MethodName := ⟨RF, "append", "(JJJJJ)Z"⟩
abbrev wF_append : List Cond := .code mF_append bF_append 11 (some .boolean) :: gT
abbrev bF_leastRoomTimesRises : ByteArray := prog_2_method_5_code
def mF_leastRoomTimesRises : MethodName := ⟨RF, "leastRoomTimesRises", "(LStairPlans$Stair;)J"⟩
abbrev wF_leastRoomTimesRises : List Cond := .code mF_leastRoomTimesRises bF_leastRoomTimesRises 6 (some .long) :: gT
abbrev bF_isOver : ByteArray := prog_2_method_6_code
def mF_isOver : MethodName := ⟨RF, "isOver", "(ILStairPlans$Stair;I)Z"⟩
abbrev wF_isOver : List Cond := .code mF_isOver bF_isOver 4 (some .boolean) :: gT
abbrev bQ_init : ByteArray := prog_3_method_1_code
def mQ_init : MethodName := ⟨RQ, "<init>", "()V"⟩
abbrev wQ_init : List Cond := .code mQ_init bQ_init 1 none :: gT
abbrev bQ_take : ByteArray := prog_3_method_2_code
def mQ_take : MethodName := ⟨RQ, "take", "(JJ)V"⟩
abbrev wQ_take : List Cond := .code mQ_take bQ_take 7 none :: gT
abbrev bQ_commonDivisor : ByteArray := prog_3_method_3_code
def mQ_commonDivisor : MethodName := ⟨RQ, "commonDivisor", "(JJ)J"⟩
abbrev wQ_commonDivisor : List Cond := .code mQ_commonDivisor bQ_commonDivisor 11 (some .long) :: gT
abbrev bS_init : ByteArray := prog_4_method_1_code
def mS_init : MethodName := ⟨RS, "<init>", "()V"⟩
abbrev wS_init : List Cond := .code mS_init bS_init 1 none :: gT
abbrev bS_clear : ByteArray := prog_4_method_2_code
def mS_clear : MethodName := ⟨RS, "clear", "()V"⟩
abbrev wS_clear : List Cond := .code mS_clear bS_clear 2 none :: gT
abbrev bS_addTerm : ByteArray := prog_4_method_3_code
def mS_addTerm : MethodName := ⟨RS, "addTerm", "(II)V"⟩
abbrev wS_addTerm : List Cond := .code mS_addTerm bS_addTerm 3 none :: gT
abbrev bS_close : ByteArray := prog_4_method_4_code
def mS_close : MethodName := ⟨RS, "close", "(CI)V"⟩
abbrev wS_close : List Cond := .code mS_close bS_close 3 none :: gT
abbrev bS_heldFromFirst : ByteArray := prog_4_method_5_code
def mS_heldFromFirst : MethodName := ⟨RS, "heldFromFirst", "(LStairPlans$Stair;)I"⟩
abbrev wS_heldFromFirst : List Cond := .code mS_heldFromFirst bS_heldFromFirst 3 (some .int) :: gT
abbrev bS_holds : ByteArray := prog_4_method_6_code
def mS_holds : MethodName := ⟨RS, "holds", "(ILStairPlans$Stair;)Z"⟩
abbrev wS_holds : List Cond := .code mS_holds bS_holds 7 (some .boolean) :: gT
abbrev bS_sumTimesRises : ByteArray := prog_4_method_7_code
def mS_sumTimesRises : MethodName := ⟨RS, "sumTimesRises", "(ILStairPlans$Stair;)J"⟩
abbrev wS_sumTimesRises : List Cond := .code mS_sumTimesRises bS_sumTimesRises 5 (some .long) :: gT
abbrev bT_init : ByteArray := prog_5_method_1_code
def mT_init : MethodName := ⟨RT, "<init>", "()V"⟩
abbrev wT_init : List Cond := .code mT_init bT_init 1 none :: gT
abbrev bT_append : ByteArray := prog_5_method_2_code
def mT_append : MethodName := ⟨RT, "append", "(I)Z"⟩
abbrev wT_append : List Cond := .code mT_append bT_append 2 (some .boolean) :: gT
abbrev bT_clear : ByteArray := prog_5_method_3_code
def mT_clear : MethodName := ⟨RT, "clear", "()V"⟩
abbrev wT_clear : List Cond := .code mT_clear bT_clear 1 none :: gT
abbrev bT_readInto : ByteArray := prog_5_method_4_code
def mT_readInto : MethodName := ⟨RT, "readInto", "(LStairPlans$RuleSet;)Z"⟩
abbrev wT_readInto : List Cond := .code mT_readInto bT_readInto 3 (some .boolean) :: gT
abbrev bT_readRule : ByteArray := prog_5_method_5_code
def mT_readRule : MethodName := ⟨RT, "readRule", "(LStairPlans$RuleSet;)Z"⟩
abbrev wT_readRule : List Cond := .code mT_readRule bT_readRule 4 (some .boolean) :: gT
abbrev bT_readSum : ByteArray := prog_5_method_6_code
def mT_readSum : MethodName := ⟨RT, "readSum", "(LStairPlans$RuleSet;)Z"⟩
abbrev wT_readSum : List Cond := .code mT_readSum bT_readSum 3 (some .boolean) :: gT
abbrev bT_readTerm : ByteArray := prog_5_method_7_code
def mT_readTerm : MethodName := ⟨RT, "readTerm", "(LStairPlans$RuleSet;)Z"⟩
abbrev wT_readTerm : List Cond := .code mT_readTerm bT_readTerm 4 (some .boolean) :: gT
abbrev bT_readNumber : ByteArray := prog_5_method_8_code
def mT_readNumber : MethodName := ⟨RT, "readNumber", "(I)I"⟩
abbrev wT_readNumber : List Cond := .code mT_readNumber bT_readNumber 5 (some .int) :: gT
abbrev bT_next : ByteArray := prog_5_method_9_code
def mT_next : MethodName := ⟨RT, "next", "()C"⟩
abbrev wT_next : List Cond := .code mT_next bT_next 1 (some .char) :: gT
abbrev bA_init : ByteArray := prog_6_method_1_code
def mA_init : MethodName := ⟨RA, "<init>", "()V"⟩
abbrev wA_init : List Cond := .code mA_init bA_init 1 none :: gT
abbrev bA_measure : ByteArray := prog_6_method_2_code
def mA_measure : MethodName := ⟨RA, "measure", "(IJJJ)V"⟩
abbrev wA_measure : List Cond := .code mA_measure bA_measure 8 none :: gT
abbrev bA_divide : ByteArray := prog_6_method_3_code
def mA_divide : MethodName := ⟨RA, "divide", "(I)V"⟩
abbrev wA_divide : List Cond := .code mA_divide bA_divide 2 none :: gT
abbrev bA_fewestRises : ByteArray := prog_6_method_4_code
def mA_fewestRises : MethodName := ⟨RA, "fewestRises", "()I"⟩
abbrev wA_fewestRises : List Cond := .code mA_fewestRises bA_fewestRises 1 (some .int) :: gT
abbrev bA_treads : ByteArray := prog_6_method_5_code
def mA_treads : MethodName := ⟨RA, "treads", "()I"⟩
abbrev wA_treads : List Cond := .code mA_treads bA_treads 1 (some .int) :: gT
abbrev bA_landings : ByteArray := prog_6_method_6_code
def mA_landings : MethodName := ⟨RA, "landings", "()I"⟩
abbrev wA_landings : List Cond := .code mA_landings bA_landings 1 (some .int) :: gT
abbrev bA_winders : ByteArray := prog_6_method_7_code
def mA_winders : MethodName := ⟨RA, "winders", "()I"⟩
abbrev wA_winders : List Cond := .code mA_winders bA_winders 1 (some .int) :: gT
abbrev bA_cornerX : ByteArray := prog_6_method_8_code
def mA_cornerX : MethodName := ⟨RA, "cornerX", "()J"⟩
abbrev wA_cornerX : List Cond := .code mA_cornerX bA_cornerX 1 (some .long) :: gT
abbrev bA_shape : ByteArray := prog_6_method_9_code
def mA_shape : MethodName := ⟨RA, "shape", "(I)I"⟩
abbrev wA_shape : List Cond := .code mA_shape bA_shape 2 (some .int) :: gT
abbrev bA_leastX : ByteArray := prog_6_method_10_code
def mA_leastX : MethodName := ⟨RA, "leastX", "(I)J"⟩
abbrev wA_leastX : List Cond := .code mA_leastX bA_leastX 2 (some .long) :: gT
abbrev bA_greatestX : ByteArray := prog_6_method_11_code
def mA_greatestX : MethodName := ⟨RA, "greatestX", "(I)J"⟩
abbrev wA_greatestX : List Cond := .code mA_greatestX bA_greatestX 2 (some .long) :: gT
abbrev bA_leastY : ByteArray := prog_6_method_12_code
def mA_leastY : MethodName := ⟨RA, "leastY", "(I)J"⟩
abbrev wA_leastY : List Cond := .code mA_leastY bA_leastY 2 (some .long) :: gT
abbrev bA_greatestY : ByteArray := prog_6_method_13_code
def mA_greatestY : MethodName := ⟨RA, "greatestY", "(I)J"⟩
abbrev wA_greatestY : List Cond := .code mA_greatestY bA_greatestY 2 (some .long) :: gT
abbrev bA_heightTimesRises : ByteArray := prog_6_method_14_code
def mA_heightTimesRises : MethodName := ⟨RA, "heightTimesRises", "(I)J"⟩
abbrev wA_heightTimesRises : List Cond := .code mA_heightTimesRises bA_heightTimesRises 2 (some .long) :: gT
abbrev bA_edgeXTimesThree : ByteArray := prog_6_method_15_code
def mA_edgeXTimesThree : MethodName := ⟨RA, "edgeXTimesThree", "(I)J"⟩
abbrev wA_edgeXTimesThree : List Cond := .code mA_edgeXTimesThree bA_edgeXTimesThree 2 (some .long) :: gT
abbrev bA_edgeYTimesThree : ByteArray := prog_6_method_16_code
def mA_edgeYTimesThree : MethodName := ⟨RA, "edgeYTimesThree", "(I)J"⟩
abbrev wA_edgeYTimesThree : List Cond := .code mA_edgeYTimesThree bA_edgeYTimesThree 2 (some .long) :: gT
abbrev bA_sixTimesWinderArea : ByteArray := prog_6_method_17_code
def mA_sixTimesWinderArea : MethodName := ⟨RA, "sixTimesWinderArea", "()J"⟩
abbrev wA_sixTimesWinderArea : List Cond := .code mA_sixTimesWinderArea bA_sixTimesWinderArea 1 (some .long) :: gT
abbrev bA_along : ByteArray := prog_6_method_18_code
def mA_along : MethodName := ⟨RA, "along", "()J"⟩
abbrev wA_along : List Cond := .code mA_along bA_along 1 (some .long) :: gT
abbrev bA_scaledStringSquare : ByteArray := prog_6_method_19_code
def mA_scaledStringSquare : MethodName := ⟨RA, "scaledStringSquare", "()J"⟩
abbrev wA_scaledStringSquare : List Cond := .code mA_scaledStringSquare bA_scaledStringSquare 5 (some .long) :: gT
abbrev bA_scaledSquare : ByteArray := prog_6_method_20_code
def mA_scaledSquare : MethodName := ⟨RA, "scaledSquare", "(J)J"⟩
abbrev wA_scaledSquare : List Cond := .code mA_scaledSquare bA_scaledSquare 3 (some .long) :: gT
abbrev bA_stringCutOff : ByteArray := prog_6_method_21_code
def mA_stringCutOff : MethodName := ⟨RA, "stringCutOff", "()J"⟩
abbrev wA_stringCutOff : List Cond := .code mA_stringCutOff bA_stringCutOff 8 (some .long) :: gT
abbrev bA_isStringWhole : ByteArray := prog_6_method_22_code
def mA_isStringWhole : MethodName := ⟨RA, "isStringWhole", "(J)Z"⟩
abbrev wA_isStringWhole : List Cond := .code mA_isStringWhole bA_isStringWhole 3 (some .boolean) :: gT
abbrev bL_heights : ByteArray := method_3_code
def mL_heights : MethodName := ⟨RL, "heights", "(LStairPlans;J[J)I"⟩
abbrev wL_heights : List Cond := .codeWith mL_heights bL_heights 5 (some .int) [(0, 16, 19, 13)] :: gT
abbrev bL_run : ByteArray := method_4_code
def mL_run : MethodName := ⟨RL, "run", "(LStairPlans;IJJ[J)I"⟩
abbrev wL_run : List Cond := .codeWith mL_run bL_run 8 (some .int) [(0, 13, 16, 19), (0, 13, 20, 13)] :: gT
abbrev bL_rise : ByteArray := method_5_code
def mL_rise : MethodName := ⟨RL, "rise", "(LStairPlans;I[J)I"⟩
abbrev wL_rise : List Cond := .codeWith mL_rise bL_rise 4 (some .int) [(0, 8, 11, 19), (0, 8, 14, 25)] :: gT
abbrev bL_step : ByteArray := method_6_code
def mL_step : MethodName := ⟨RL, "step", "(LStairPlans;II[J)I"⟩
abbrev wL_step : List Cond := .codeWith mL_step bL_step 5 (some .int) [(0, 9, 12, 19), (0, 9, 16, 25), (0, 9, 20, 13)] :: gT
abbrev bL_winder : ByteArray := method_7_code
def mL_winder : MethodName := ⟨RL, "winder", "(LStairPlans;II[J)I"⟩
abbrev wL_winder : List Cond := .codeWith mL_winder bL_winder 5 (some .int) [(0, 9, 12, 19), (0, 9, 16, 25)] :: gT
abbrev bL_area : ByteArray := method_8_code
def mL_area : MethodName := ⟨RL, "area", "(LStairPlans;I[J)I"⟩
abbrev wL_area : List Cond := .codeWith mL_area bL_area 4 (some .int) [(0, 8, 11, 19), (0, 8, 14, 25)] :: gT
abbrev bL_meets : ByteArray := method_9_code
def mL_meets : MethodName := ⟨RL, "meets", "(LStairPlans;I[J)I"⟩
abbrev wL_meets : List Cond := .codeWith mL_meets bL_meets 4 (some .int) [(0, 16, 19, 19), (0, 16, 22, 25)] :: gT
abbrev bL_floor : ByteArray := method_10_code
def mL_floor : MethodName := ⟨RL, "floor", "(LStairPlans;JJJJJ[J)I"⟩
abbrev wL_floor : List Cond := .codeWith mL_floor bL_floor 13 (some .int) [(0, 24, 27, 13)] :: gT
abbrev bL_headRoom : ByteArray := method_11_code
def mL_headRoom : MethodName := ⟨RL, "headRoom", "(LStairPlans;[J)I"⟩
abbrev wL_headRoom : List Cond := .codeWith mL_headRoom bL_headRoom 3 (some .int) [(0, 7, 10, 19)] :: gT
abbrev bL_string : ByteArray := method_12_code
def mL_string : MethodName := ⟨RL, "string", "(LStairPlans;I[J)I"⟩
abbrev wL_string : List Cond := .codeWith mL_string bL_string 4 (some .int) [(0, 8, 11, 19), (0, 8, 14, 25)] :: gT
abbrev bL_balusters : ByteArray := method_13_code
def mL_balusters : MethodName := ⟨RL, "balusters", "(LStairPlans;JJ[J)I"⟩
abbrev wL_balusters : List Cond := .codeWith mL_balusters bL_balusters 7 (some .int) [(0, 11, 14, 19), (0, 11, 18, 13)] :: gT
abbrev bL_gap : ByteArray := method_14_code
def mL_gap : MethodName := ⟨RL, "gap", "(LStairPlans;I[J)I"⟩
abbrev wL_gap : List Cond := .codeWith mL_gap bL_gap 4 (some .int) [(0, 8, 11, 19), (0, 8, 14, 25)] :: gT
abbrev bL_list : ByteArray := method_15_code
def mL_list : MethodName := ⟨RL, "list", "(LStairPlans;I[J)I"⟩
abbrev wL_list : List Cond := .codeWith mL_list bL_list 4 (some .int) [(0, 9, 12, 19), (0, 9, 15, 25)] :: gT
theorem ndP_init : mP_init.cls ≠ "java/lang/invoke/MethodHandle" ∧ mP_init.cls ≠ "java/lang/invoke/VarHandle" ∧ (parseMethodDescriptor mP_init.desc).map (fun d => d.parameters.length) = some 0 := by decide +kernel
theorem ndP_heights : mP_heights.cls ≠ "java/lang/invoke/MethodHandle" ∧ mP_heights.cls ≠ "java/lang/invoke/VarHandle" ∧ (parseMethodDescriptor mP_heights.desc).map (fun d => d.parameters.length) = some 1 := by decide +kernel
theorem ndP_unit : mP_unit.cls ≠ "java/lang/invoke/MethodHandle" ∧ mP_unit.cls ≠ "java/lang/invoke/VarHandle" ∧ (parseMethodDescriptor mP_unit.desc).map (fun d => d.parameters.length) = some 1 := by decide +kernel
theorem ndP_rules : mP_rules.cls ≠ "java/lang/invoke/MethodHandle" ∧ mP_rules.cls ≠ "java/lang/invoke/VarHandle" ∧ (parseMethodDescriptor mP_rules.desc).map (fun d => d.parameters.length) = some 0 := by decide +kernel
theorem ndP_run : mP_run.cls ≠ "java/lang/invoke/MethodHandle" ∧ mP_run.cls ≠ "java/lang/invoke/VarHandle" ∧ (parseMethodDescriptor mP_run.desc).map (fun d => d.parameters.length) = some 3 := by decide +kernel
theorem ndP_rise : mP_rise.cls ≠ "java/lang/invoke/MethodHandle" ∧ mP_rise.cls ≠ "java/lang/invoke/VarHandle" ∧ (parseMethodDescriptor mP_rise.desc).map (fun d => d.parameters.length) = some 1 := by decide +kernel
theorem ndP_step : mP_step.cls ≠ "java/lang/invoke/MethodHandle" ∧ mP_step.cls ≠ "java/lang/invoke/VarHandle" ∧ (parseMethodDescriptor mP_step.desc).map (fun d => d.parameters.length) = some 2 := by decide +kernel
theorem ndP_winder : mP_winder.cls ≠ "java/lang/invoke/MethodHandle" ∧ mP_winder.cls ≠ "java/lang/invoke/VarHandle" ∧ (parseMethodDescriptor mP_winder.desc).map (fun d => d.parameters.length) = some 2 := by decide +kernel
theorem ndP_area : mP_area.cls ≠ "java/lang/invoke/MethodHandle" ∧ mP_area.cls ≠ "java/lang/invoke/VarHandle" ∧ (parseMethodDescriptor mP_area.desc).map (fun d => d.parameters.length) = some 1 := by decide +kernel
theorem ndP_meets : mP_meets.cls ≠ "java/lang/invoke/MethodHandle" ∧ mP_meets.cls ≠ "java/lang/invoke/VarHandle" ∧ (parseMethodDescriptor mP_meets.desc).map (fun d => d.parameters.length) = some 1 := by decide +kernel
theorem ndP_floor : mP_floor.cls ≠ "java/lang/invoke/MethodHandle" ∧ mP_floor.cls ≠ "java/lang/invoke/VarHandle" ∧ (parseMethodDescriptor mP_floor.desc).map (fun d => d.parameters.length) = some 5 := by decide +kernel
theorem ndP_headRoom : mP_headRoom.cls ≠ "java/lang/invoke/MethodHandle" ∧ mP_headRoom.cls ≠ "java/lang/invoke/VarHandle" ∧ (parseMethodDescriptor mP_headRoom.desc).map (fun d => d.parameters.length) = some 0 := by decide +kernel
theorem ndP_string : mP_string.cls ≠ "java/lang/invoke/MethodHandle" ∧ mP_string.cls ≠ "java/lang/invoke/VarHandle" ∧ (parseMethodDescriptor mP_string.desc).map (fun d => d.parameters.length) = some 1 := by decide +kernel
theorem ndP_balusters : mP_balusters.cls ≠ "java/lang/invoke/MethodHandle" ∧ mP_balusters.cls ≠ "java/lang/invoke/VarHandle" ∧ (parseMethodDescriptor mP_balusters.desc).map (fun d => d.parameters.length) = some 2 := by decide +kernel
theorem ndP_gap : mP_gap.cls ≠ "java/lang/invoke/MethodHandle" ∧ mP_gap.cls ≠ "java/lang/invoke/VarHandle" ∧ (parseMethodDescriptor mP_gap.desc).map (fun d => d.parameters.length) = some 1 := by decide +kernel
theorem ndP_list : mP_list.cls ≠ "java/lang/invoke/MethodHandle" ∧ mP_list.cls ≠ "java/lang/invoke/VarHandle" ∧ (parseMethodDescriptor mP_list.desc).map (fun d => d.parameters.length) = some 1 := by decide +kernel
theorem ndP_forgetPlan : mP_forgetPlan.cls ≠ "java/lang/invoke/MethodHandle" ∧ mP_forgetPlan.cls ≠ "java/lang/invoke/VarHandle" ∧ (parseMethodDescriptor mP_forgetPlan.desc).map (fun d => d.parameters.length) = some 0 := by decide +kernel
theorem ndP_requirePlan : mP_requirePlan.cls ≠ "java/lang/invoke/MethodHandle" ∧ mP_requirePlan.cls ≠ "java/lang/invoke/VarHandle" ∧ (parseMethodDescriptor mP_requirePlan.desc).map (fun d => d.parameters.length) = some 0 := by decide +kernel
theorem ndP_requireWinders : mP_requireWinders.cls ≠ "java/lang/invoke/MethodHandle" ∧ mP_requireWinders.cls ≠ "java/lang/invoke/VarHandle" ∧ (parseMethodDescriptor mP_requireWinders.desc).map (fun d => d.parameters.length) = some 0 := by decide +kernel
theorem ndP_requireIndex : mP_requireIndex.cls ≠ "java/lang/invoke/MethodHandle" ∧ mP_requireIndex.cls ≠ "java/lang/invoke/VarHandle" ∧ (parseMethodDescriptor mP_requireIndex.desc).map (fun d => d.parameters.length) = some 2 := by decide +kernel
theorem ndP_fewestBalusters : mP_fewestBalusters.cls ≠ "java/lang/invoke/MethodHandle" ∧ mP_fewestBalusters.cls ≠ "java/lang/invoke/VarHandle" ∧ (parseMethodDescriptor mP_fewestBalusters.desc).map (fun d => d.parameters.length) = some 3 := by decide +kernel
theorem ndM_init : mM_init.cls ≠ "java/lang/invoke/MethodHandle" ∧ mM_init.cls ≠ "java/lang/invoke/VarHandle" ∧ (parseMethodDescriptor mM_init.desc).map (fun d => d.parameters.length) = some 0 := by decide +kernel
theorem ndM_thrown : mM_thrown.cls ≠ "java/lang/invoke/MethodHandle" ∧ mM_thrown.cls ≠ "java/lang/invoke/VarHandle" ∧ (parseMethodDescriptor mM_thrown.desc).map (fun d => d.parameters.length) = some 0 := by decide +kernel
theorem ndM_isIn : mM_isIn.cls ≠ "java/lang/invoke/MethodHandle" ∧ mM_isIn.cls ≠ "java/lang/invoke/VarHandle" ∧ (parseMethodDescriptor mM_isIn.desc).map (fun d => d.parameters.length) = some 3 := by decide +kernel
theorem ndM_heights : mM_heights.cls ≠ "java/lang/invoke/MethodHandle" ∧ mM_heights.cls ≠ "java/lang/invoke/VarHandle" ∧ (parseMethodDescriptor mM_heights.desc).map (fun d => d.parameters.length) = some 1 := by decide +kernel
theorem ndM_unit : mM_unit.cls ≠ "java/lang/invoke/MethodHandle" ∧ mM_unit.cls ≠ "java/lang/invoke/VarHandle" ∧ (parseMethodDescriptor mM_unit.desc).map (fun d => d.parameters.length) = some 1 := by decide +kernel
theorem ndM_here : mM_here.cls ≠ "java/lang/invoke/MethodHandle" ∧ mM_here.cls ≠ "java/lang/invoke/VarHandle" ∧ (parseMethodDescriptor mM_here.desc).map (fun d => d.parameters.length) = some 0 := by decide +kernel
theorem ndM_fail : mM_fail.cls ≠ "java/lang/invoke/MethodHandle" ∧ mM_fail.cls ≠ "java/lang/invoke/VarHandle" ∧ (parseMethodDescriptor mM_fail.desc).map (fun d => d.parameters.length) = some 0 := by decide +kernel
theorem ndM_isDigit : mM_isDigit.cls ≠ "java/lang/invoke/MethodHandle" ∧ mM_isDigit.cls ≠ "java/lang/invoke/VarHandle" ∧ (parseMethodDescriptor mM_isDigit.desc).map (fun d => d.parameters.length) = some 0 := by decide +kernel
theorem ndM_readDigits : mM_readDigits.cls ≠ "java/lang/invoke/MethodHandle" ∧ mM_readDigits.cls ≠ "java/lang/invoke/VarHandle" ∧ (parseMethodDescriptor mM_readDigits.desc).map (fun d => d.parameters.length) = some 1 := by decide +kernel
theorem ndM_letterOf : mM_letterOf.cls ≠ "java/lang/invoke/MethodHandle" ∧ mM_letterOf.cls ≠ "java/lang/invoke/VarHandle" ∧ (parseMethodDescriptor mM_letterOf.desc).map (fun d => d.parameters.length) = some 1 := by decide +kernel
theorem ndM_readTerm : mM_readTerm.cls ≠ "java/lang/invoke/MethodHandle" ∧ mM_readTerm.cls ≠ "java/lang/invoke/VarHandle" ∧ (parseMethodDescriptor mM_readTerm.desc).map (fun d => d.parameters.length) = some 1 := by decide +kernel
theorem ndM_readRule : mM_readRule.cls ≠ "java/lang/invoke/MethodHandle" ∧ mM_readRule.cls ≠ "java/lang/invoke/VarHandle" ∧ (parseMethodDescriptor mM_readRule.desc).map (fun d => d.parameters.length) = some 1 := by decide +kernel
theorem ndM_rules : mM_rules.cls ≠ "java/lang/invoke/MethodHandle" ∧ mM_rules.cls ≠ "java/lang/invoke/VarHandle" ∧ (parseMethodDescriptor mM_rules.desc).map (fun d => d.parameters.length) = some 0 := by decide +kernel
theorem ndM_holds : mM_holds.cls ≠ "java/lang/invoke/MethodHandle" ∧ mM_holds.cls ≠ "java/lang/invoke/VarHandle" ∧ (parseMethodDescriptor mM_holds.desc).map (fun d => d.parameters.length) = some 4 := by decide +kernel
theorem ndM_holding : mM_holding.cls ≠ "java/lang/invoke/MethodHandle" ∧ mM_holding.cls ≠ "java/lang/invoke/VarHandle" ∧ (parseMethodDescriptor mM_holding.desc).map (fun d => d.parameters.length) = some 3 := by decide +kernel
theorem ndM_run : mM_run.cls ≠ "java/lang/invoke/MethodHandle" ∧ mM_run.cls ≠ "java/lang/invoke/VarHandle" ∧ (parseMethodDescriptor mM_run.desc).map (fun d => d.parameters.length) = some 3 := by decide +kernel
theorem ndM_none : mM_none.cls ≠ "java/lang/invoke/MethodHandle" ∧ mM_none.cls ≠ "java/lang/invoke/VarHandle" ∧ (parseMethodDescriptor mM_none.desc).map (fun d => d.parameters.length) = some 0 := by decide +kernel
theorem ndM_common : mM_common.cls ≠ "java/lang/invoke/MethodHandle" ∧ mM_common.cls ≠ "java/lang/invoke/VarHandle" ∧ (parseMethodDescriptor mM_common.desc).map (fun d => d.parameters.length) = some 2 := by decide +kernel
theorem ndM_rise : mM_rise.cls ≠ "java/lang/invoke/MethodHandle" ∧ mM_rise.cls ≠ "java/lang/invoke/VarHandle" ∧ (parseMethodDescriptor mM_rise.desc).map (fun d => d.parameters.length) = some 1 := by decide +kernel
theorem ndM_before : mM_before.cls ≠ "java/lang/invoke/MethodHandle" ∧ mM_before.cls ≠ "java/lang/invoke/VarHandle" ∧ (parseMethodDescriptor mM_before.desc).map (fun d => d.parameters.length) = some 0 := by decide +kernel
theorem ndM_inSquare : mM_inSquare.cls ≠ "java/lang/invoke/MethodHandle" ∧ mM_inSquare.cls ≠ "java/lang/invoke/VarHandle" ∧ (parseMethodDescriptor mM_inSquare.desc).map (fun d => d.parameters.length) = some 0 := by decide +kernel
theorem ndM_sort : mM_sort.cls ≠ "java/lang/invoke/MethodHandle" ∧ mM_sort.cls ≠ "java/lang/invoke/VarHandle" ∧ (parseMethodDescriptor mM_sort.desc).map (fun d => d.parameters.length) = some 1 := by decide +kernel
theorem ndM_side : mM_side.cls ≠ "java/lang/invoke/MethodHandle" ∧ mM_side.cls ≠ "java/lang/invoke/VarHandle" ∧ (parseMethodDescriptor mM_side.desc).map (fun d => d.parameters.length) = some 2 := by decide +kernel
theorem ndM_step : mM_step.cls ≠ "java/lang/invoke/MethodHandle" ∧ mM_step.cls ≠ "java/lang/invoke/VarHandle" ∧ (parseMethodDescriptor mM_step.desc).map (fun d => d.parameters.length) = some 2 := by decide +kernel
theorem ndM_noWinders : mM_noWinders.cls ≠ "java/lang/invoke/MethodHandle" ∧ mM_noWinders.cls ≠ "java/lang/invoke/VarHandle" ∧ (parseMethodDescriptor mM_noWinders.desc).map (fun d => d.parameters.length) = some 0 := by decide +kernel
theorem ndM_winder : mM_winder.cls ≠ "java/lang/invoke/MethodHandle" ∧ mM_winder.cls ≠ "java/lang/invoke/VarHandle" ∧ (parseMethodDescriptor mM_winder.desc).map (fun d => d.parameters.length) = some 2 := by decide +kernel
theorem ndM_area : mM_area.cls ≠ "java/lang/invoke/MethodHandle" ∧ mM_area.cls ≠ "java/lang/invoke/VarHandle" ∧ (parseMethodDescriptor mM_area.desc).map (fun d => d.parameters.length) = some 1 := by decide +kernel
theorem ndM_meets : mM_meets.cls ≠ "java/lang/invoke/MethodHandle" ∧ mM_meets.cls ≠ "java/lang/invoke/VarHandle" ∧ (parseMethodDescriptor mM_meets.desc).map (fun d => d.parameters.length) = some 1 := by decide +kernel
theorem ndM_isPlace : mM_isPlace.cls ≠ "java/lang/invoke/MethodHandle" ∧ mM_isPlace.cls ≠ "java/lang/invoke/VarHandle" ∧ (parseMethodDescriptor mM_isPlace.desc).map (fun d => d.parameters.length) = some 1 := by decide +kernel
theorem ndM_floor : mM_floor.cls ≠ "java/lang/invoke/MethodHandle" ∧ mM_floor.cls ≠ "java/lang/invoke/VarHandle" ∧ (parseMethodDescriptor mM_floor.desc).map (fun d => d.parameters.length) = some 5 := by decide +kernel
theorem ndM_headRoom : mM_headRoom.cls ≠ "java/lang/invoke/MethodHandle" ∧ mM_headRoom.cls ≠ "java/lang/invoke/VarHandle" ∧ (parseMethodDescriptor mM_headRoom.desc).map (fun d => d.parameters.length) = some 0 := by decide +kernel
theorem ndM_string : mM_string.cls ≠ "java/lang/invoke/MethodHandle" ∧ mM_string.cls ≠ "java/lang/invoke/VarHandle" ∧ (parseMethodDescriptor mM_string.desc).map (fun d => d.parameters.length) = some 1 := by decide +kernel
theorem ndM_balusters : mM_balusters.cls ≠ "java/lang/invoke/MethodHandle" ∧ mM_balusters.cls ≠ "java/lang/invoke/VarHandle" ∧ (parseMethodDescriptor mM_balusters.desc).map (fun d => d.parameters.length) = some 2 := by decide +kernel
theorem ndM_gap : mM_gap.cls ≠ "java/lang/invoke/MethodHandle" ∧ mM_gap.cls ≠ "java/lang/invoke/VarHandle" ∧ (parseMethodDescriptor mM_gap.desc).map (fun d => d.parameters.length) = some 1 := by decide +kernel
theorem ndM_list : mM_list.cls ≠ "java/lang/invoke/MethodHandle" ∧ mM_list.cls ≠ "java/lang/invoke/VarHandle" ∧ (parseMethodDescriptor mM_list.desc).map (fun d => d.parameters.length) = some 1 := by decide +kernel
theorem ndF_init : mF_init.cls ≠ "java/lang/invoke/MethodHandle" ∧ mF_init.cls ≠ "java/lang/invoke/VarHandle" ∧ (parseMethodDescriptor mF_init.desc).map (fun d => d.parameters.length) = some 0 := by decide +kernel
theorem ndF_isPlace : mF_isPlace.cls ≠ "java/lang/invoke/MethodHandle" ∧ mF_isPlace.cls ≠ "java/lang/invoke/VarHandle" ∧ (parseMethodDescriptor mF_isPlace.desc).map (fun d => d.parameters.length) = some 1 := by decide +kernel
theorem ndF_isHeight : mF_isHeight.cls ≠ "java/lang/invoke/MethodHandle" ∧ mF_isHeight.cls ≠ "java/lang/invoke/VarHandle" ∧ (parseMethodDescriptor mF_isHeight.desc).map (fun d => d.parameters.length) = some 1 := by decide +kernel
theorem ndF_append : mF_append.cls ≠ "java/lang/invoke/MethodHandle" ∧ mF_append.cls ≠ "java/lang/invoke/VarHandle" ∧ (parseMethodDescriptor mF_append.desc).map (fun d => d.parameters.length) = some 5 := by decide +kernel
theorem ndF_leastRoomTimesRises : mF_leastRoomTimesRises.cls ≠ "java/lang/invoke/MethodHandle" ∧ mF_leastRoomTimesRises.cls ≠ "java/lang/invoke/VarHandle" ∧ (parseMethodDescriptor mF_leastRoomTimesRises.desc).map (fun d => d.parameters.length) = some 1 := by decide +kernel
theorem ndF_isOver : mF_isOver.cls ≠ "java/lang/invoke/MethodHandle" ∧ mF_isOver.cls ≠ "java/lang/invoke/VarHandle" ∧ (parseMethodDescriptor mF_isOver.desc).map (fun d => d.parameters.length) = some 3 := by decide +kernel
theorem ndQ_init : mQ_init.cls ≠ "java/lang/invoke/MethodHandle" ∧ mQ_init.cls ≠ "java/lang/invoke/VarHandle" ∧ (parseMethodDescriptor mQ_init.desc).map (fun d => d.parameters.length) = some 0 := by decide +kernel
theorem ndQ_take : mQ_take.cls ≠ "java/lang/invoke/MethodHandle" ∧ mQ_take.cls ≠ "java/lang/invoke/VarHandle" ∧ (parseMethodDescriptor mQ_take.desc).map (fun d => d.parameters.length) = some 2 := by decide +kernel
theorem ndQ_commonDivisor : mQ_commonDivisor.cls ≠ "java/lang/invoke/MethodHandle" ∧ mQ_commonDivisor.cls ≠ "java/lang/invoke/VarHandle" ∧ (parseMethodDescriptor mQ_commonDivisor.desc).map (fun d => d.parameters.length) = some 2 := by decide +kernel
theorem ndS_init : mS_init.cls ≠ "java/lang/invoke/MethodHandle" ∧ mS_init.cls ≠ "java/lang/invoke/VarHandle" ∧ (parseMethodDescriptor mS_init.desc).map (fun d => d.parameters.length) = some 0 := by decide +kernel
theorem ndS_clear : mS_clear.cls ≠ "java/lang/invoke/MethodHandle" ∧ mS_clear.cls ≠ "java/lang/invoke/VarHandle" ∧ (parseMethodDescriptor mS_clear.desc).map (fun d => d.parameters.length) = some 0 := by decide +kernel
theorem ndS_addTerm : mS_addTerm.cls ≠ "java/lang/invoke/MethodHandle" ∧ mS_addTerm.cls ≠ "java/lang/invoke/VarHandle" ∧ (parseMethodDescriptor mS_addTerm.desc).map (fun d => d.parameters.length) = some 2 := by decide +kernel
theorem ndS_close : mS_close.cls ≠ "java/lang/invoke/MethodHandle" ∧ mS_close.cls ≠ "java/lang/invoke/VarHandle" ∧ (parseMethodDescriptor mS_close.desc).map (fun d => d.parameters.length) = some 2 := by decide +kernel
theorem ndS_heldFromFirst : mS_heldFromFirst.cls ≠ "java/lang/invoke/MethodHandle" ∧ mS_heldFromFirst.cls ≠ "java/lang/invoke/VarHandle" ∧ (parseMethodDescriptor mS_heldFromFirst.desc).map (fun d => d.parameters.length) = some 1 := by decide +kernel
theorem ndS_holds : mS_holds.cls ≠ "java/lang/invoke/MethodHandle" ∧ mS_holds.cls ≠ "java/lang/invoke/VarHandle" ∧ (parseMethodDescriptor mS_holds.desc).map (fun d => d.parameters.length) = some 2 := by decide +kernel
theorem ndS_sumTimesRises : mS_sumTimesRises.cls ≠ "java/lang/invoke/MethodHandle" ∧ mS_sumTimesRises.cls ≠ "java/lang/invoke/VarHandle" ∧ (parseMethodDescriptor mS_sumTimesRises.desc).map (fun d => d.parameters.length) = some 2 := by decide +kernel
theorem ndT_init : mT_init.cls ≠ "java/lang/invoke/MethodHandle" ∧ mT_init.cls ≠ "java/lang/invoke/VarHandle" ∧ (parseMethodDescriptor mT_init.desc).map (fun d => d.parameters.length) = some 0 := by decide +kernel
theorem ndT_append : mT_append.cls ≠ "java/lang/invoke/MethodHandle" ∧ mT_append.cls ≠ "java/lang/invoke/VarHandle" ∧ (parseMethodDescriptor mT_append.desc).map (fun d => d.parameters.length) = some 1 := by decide +kernel
theorem ndT_clear : mT_clear.cls ≠ "java/lang/invoke/MethodHandle" ∧ mT_clear.cls ≠ "java/lang/invoke/VarHandle" ∧ (parseMethodDescriptor mT_clear.desc).map (fun d => d.parameters.length) = some 0 := by decide +kernel
theorem ndT_readInto : mT_readInto.cls ≠ "java/lang/invoke/MethodHandle" ∧ mT_readInto.cls ≠ "java/lang/invoke/VarHandle" ∧ (parseMethodDescriptor mT_readInto.desc).map (fun d => d.parameters.length) = some 1 := by decide +kernel
theorem ndT_readRule : mT_readRule.cls ≠ "java/lang/invoke/MethodHandle" ∧ mT_readRule.cls ≠ "java/lang/invoke/VarHandle" ∧ (parseMethodDescriptor mT_readRule.desc).map (fun d => d.parameters.length) = some 1 := by decide +kernel
theorem ndT_readSum : mT_readSum.cls ≠ "java/lang/invoke/MethodHandle" ∧ mT_readSum.cls ≠ "java/lang/invoke/VarHandle" ∧ (parseMethodDescriptor mT_readSum.desc).map (fun d => d.parameters.length) = some 1 := by decide +kernel
theorem ndT_readTerm : mT_readTerm.cls ≠ "java/lang/invoke/MethodHandle" ∧ mT_readTerm.cls ≠ "java/lang/invoke/VarHandle" ∧ (parseMethodDescriptor mT_readTerm.desc).map (fun d => d.parameters.length) = some 1 := by decide +kernel
theorem ndT_readNumber : mT_readNumber.cls ≠ "java/lang/invoke/MethodHandle" ∧ mT_readNumber.cls ≠ "java/lang/invoke/VarHandle" ∧ (parseMethodDescriptor mT_readNumber.desc).map (fun d => d.parameters.length) = some 1 := by decide +kernel
theorem ndT_next : mT_next.cls ≠ "java/lang/invoke/MethodHandle" ∧ mT_next.cls ≠ "java/lang/invoke/VarHandle" ∧ (parseMethodDescriptor mT_next.desc).map (fun d => d.parameters.length) = some 0 := by decide +kernel
theorem ndA_init : mA_init.cls ≠ "java/lang/invoke/MethodHandle" ∧ mA_init.cls ≠ "java/lang/invoke/VarHandle" ∧ (parseMethodDescriptor mA_init.desc).map (fun d => d.parameters.length) = some 0 := by decide +kernel
theorem ndA_measure : mA_measure.cls ≠ "java/lang/invoke/MethodHandle" ∧ mA_measure.cls ≠ "java/lang/invoke/VarHandle" ∧ (parseMethodDescriptor mA_measure.desc).map (fun d => d.parameters.length) = some 4 := by decide +kernel
theorem ndA_divide : mA_divide.cls ≠ "java/lang/invoke/MethodHandle" ∧ mA_divide.cls ≠ "java/lang/invoke/VarHandle" ∧ (parseMethodDescriptor mA_divide.desc).map (fun d => d.parameters.length) = some 1 := by decide +kernel
theorem ndA_fewestRises : mA_fewestRises.cls ≠ "java/lang/invoke/MethodHandle" ∧ mA_fewestRises.cls ≠ "java/lang/invoke/VarHandle" ∧ (parseMethodDescriptor mA_fewestRises.desc).map (fun d => d.parameters.length) = some 0 := by decide +kernel
theorem ndA_treads : mA_treads.cls ≠ "java/lang/invoke/MethodHandle" ∧ mA_treads.cls ≠ "java/lang/invoke/VarHandle" ∧ (parseMethodDescriptor mA_treads.desc).map (fun d => d.parameters.length) = some 0 := by decide +kernel
theorem ndA_landings : mA_landings.cls ≠ "java/lang/invoke/MethodHandle" ∧ mA_landings.cls ≠ "java/lang/invoke/VarHandle" ∧ (parseMethodDescriptor mA_landings.desc).map (fun d => d.parameters.length) = some 0 := by decide +kernel
theorem ndA_winders : mA_winders.cls ≠ "java/lang/invoke/MethodHandle" ∧ mA_winders.cls ≠ "java/lang/invoke/VarHandle" ∧ (parseMethodDescriptor mA_winders.desc).map (fun d => d.parameters.length) = some 0 := by decide +kernel
theorem ndA_cornerX : mA_cornerX.cls ≠ "java/lang/invoke/MethodHandle" ∧ mA_cornerX.cls ≠ "java/lang/invoke/VarHandle" ∧ (parseMethodDescriptor mA_cornerX.desc).map (fun d => d.parameters.length) = some 0 := by decide +kernel
theorem ndA_shape : mA_shape.cls ≠ "java/lang/invoke/MethodHandle" ∧ mA_shape.cls ≠ "java/lang/invoke/VarHandle" ∧ (parseMethodDescriptor mA_shape.desc).map (fun d => d.parameters.length) = some 1 := by decide +kernel
theorem ndA_leastX : mA_leastX.cls ≠ "java/lang/invoke/MethodHandle" ∧ mA_leastX.cls ≠ "java/lang/invoke/VarHandle" ∧ (parseMethodDescriptor mA_leastX.desc).map (fun d => d.parameters.length) = some 1 := by decide +kernel
theorem ndA_greatestX : mA_greatestX.cls ≠ "java/lang/invoke/MethodHandle" ∧ mA_greatestX.cls ≠ "java/lang/invoke/VarHandle" ∧ (parseMethodDescriptor mA_greatestX.desc).map (fun d => d.parameters.length) = some 1 := by decide +kernel
theorem ndA_leastY : mA_leastY.cls ≠ "java/lang/invoke/MethodHandle" ∧ mA_leastY.cls ≠ "java/lang/invoke/VarHandle" ∧ (parseMethodDescriptor mA_leastY.desc).map (fun d => d.parameters.length) = some 1 := by decide +kernel
theorem ndA_greatestY : mA_greatestY.cls ≠ "java/lang/invoke/MethodHandle" ∧ mA_greatestY.cls ≠ "java/lang/invoke/VarHandle" ∧ (parseMethodDescriptor mA_greatestY.desc).map (fun d => d.parameters.length) = some 1 := by decide +kernel
theorem ndA_heightTimesRises : mA_heightTimesRises.cls ≠ "java/lang/invoke/MethodHandle" ∧ mA_heightTimesRises.cls ≠ "java/lang/invoke/VarHandle" ∧ (parseMethodDescriptor mA_heightTimesRises.desc).map (fun d => d.parameters.length) = some 1 := by decide +kernel
theorem ndA_edgeXTimesThree : mA_edgeXTimesThree.cls ≠ "java/lang/invoke/MethodHandle" ∧ mA_edgeXTimesThree.cls ≠ "java/lang/invoke/VarHandle" ∧ (parseMethodDescriptor mA_edgeXTimesThree.desc).map (fun d => d.parameters.length) = some 1 := by decide +kernel
theorem ndA_edgeYTimesThree : mA_edgeYTimesThree.cls ≠ "java/lang/invoke/MethodHandle" ∧ mA_edgeYTimesThree.cls ≠ "java/lang/invoke/VarHandle" ∧ (parseMethodDescriptor mA_edgeYTimesThree.desc).map (fun d => d.parameters.length) = some 1 := by decide +kernel
theorem ndA_sixTimesWinderArea : mA_sixTimesWinderArea.cls ≠ "java/lang/invoke/MethodHandle" ∧ mA_sixTimesWinderArea.cls ≠ "java/lang/invoke/VarHandle" ∧ (parseMethodDescriptor mA_sixTimesWinderArea.desc).map (fun d => d.parameters.length) = some 0 := by decide +kernel
theorem ndA_along : mA_along.cls ≠ "java/lang/invoke/MethodHandle" ∧ mA_along.cls ≠ "java/lang/invoke/VarHandle" ∧ (parseMethodDescriptor mA_along.desc).map (fun d => d.parameters.length) = some 0 := by decide +kernel
theorem ndA_scaledStringSquare : mA_scaledStringSquare.cls ≠ "java/lang/invoke/MethodHandle" ∧ mA_scaledStringSquare.cls ≠ "java/lang/invoke/VarHandle" ∧ (parseMethodDescriptor mA_scaledStringSquare.desc).map (fun d => d.parameters.length) = some 0 := by decide +kernel
theorem ndA_scaledSquare : mA_scaledSquare.cls ≠ "java/lang/invoke/MethodHandle" ∧ mA_scaledSquare.cls ≠ "java/lang/invoke/VarHandle" ∧ (parseMethodDescriptor mA_scaledSquare.desc).map (fun d => d.parameters.length) = some 1 := by decide +kernel
theorem ndA_stringCutOff : mA_stringCutOff.cls ≠ "java/lang/invoke/MethodHandle" ∧ mA_stringCutOff.cls ≠ "java/lang/invoke/VarHandle" ∧ (parseMethodDescriptor mA_stringCutOff.desc).map (fun d => d.parameters.length) = some 0 := by decide +kernel
theorem ndA_isStringWhole : mA_isStringWhole.cls ≠ "java/lang/invoke/MethodHandle" ∧ mA_isStringWhole.cls ≠ "java/lang/invoke/VarHandle" ∧ (parseMethodDescriptor mA_isStringWhole.desc).map (fun d => d.parameters.length) = some 1 := by decide +kernel
theorem ndL_heights : mL_heights.cls ≠ "java/lang/invoke/MethodHandle" ∧ mL_heights.cls ≠ "java/lang/invoke/VarHandle" ∧ (parseMethodDescriptor mL_heights.desc).map (fun d => d.parameters.length) = some 3 := by decide +kernel
theorem ndL_run : mL_run.cls ≠ "java/lang/invoke/MethodHandle" ∧ mL_run.cls ≠ "java/lang/invoke/VarHandle" ∧ (parseMethodDescriptor mL_run.desc).map (fun d => d.parameters.length) = some 5 := by decide +kernel
theorem ndL_rise : mL_rise.cls ≠ "java/lang/invoke/MethodHandle" ∧ mL_rise.cls ≠ "java/lang/invoke/VarHandle" ∧ (parseMethodDescriptor mL_rise.desc).map (fun d => d.parameters.length) = some 3 := by decide +kernel
theorem ndL_step : mL_step.cls ≠ "java/lang/invoke/MethodHandle" ∧ mL_step.cls ≠ "java/lang/invoke/VarHandle" ∧ (parseMethodDescriptor mL_step.desc).map (fun d => d.parameters.length) = some 4 := by decide +kernel
theorem ndL_winder : mL_winder.cls ≠ "java/lang/invoke/MethodHandle" ∧ mL_winder.cls ≠ "java/lang/invoke/VarHandle" ∧ (parseMethodDescriptor mL_winder.desc).map (fun d => d.parameters.length) = some 4 := by decide +kernel
theorem ndL_area : mL_area.cls ≠ "java/lang/invoke/MethodHandle" ∧ mL_area.cls ≠ "java/lang/invoke/VarHandle" ∧ (parseMethodDescriptor mL_area.desc).map (fun d => d.parameters.length) = some 3 := by decide +kernel
theorem ndL_meets : mL_meets.cls ≠ "java/lang/invoke/MethodHandle" ∧ mL_meets.cls ≠ "java/lang/invoke/VarHandle" ∧ (parseMethodDescriptor mL_meets.desc).map (fun d => d.parameters.length) = some 3 := by decide +kernel
theorem ndL_floor : mL_floor.cls ≠ "java/lang/invoke/MethodHandle" ∧ mL_floor.cls ≠ "java/lang/invoke/VarHandle" ∧ (parseMethodDescriptor mL_floor.desc).map (fun d => d.parameters.length) = some 7 := by decide +kernel
theorem ndL_headRoom : mL_headRoom.cls ≠ "java/lang/invoke/MethodHandle" ∧ mL_headRoom.cls ≠ "java/lang/invoke/VarHandle" ∧ (parseMethodDescriptor mL_headRoom.desc).map (fun d => d.parameters.length) = some 2 := by decide +kernel
theorem ndL_string : mL_string.cls ≠ "java/lang/invoke/MethodHandle" ∧ mL_string.cls ≠ "java/lang/invoke/VarHandle" ∧ (parseMethodDescriptor mL_string.desc).map (fun d => d.parameters.length) = some 3 := by decide +kernel
theorem ndL_balusters : mL_balusters.cls ≠ "java/lang/invoke/MethodHandle" ∧ mL_balusters.cls ≠ "java/lang/invoke/VarHandle" ∧ (parseMethodDescriptor mL_balusters.desc).map (fun d => d.parameters.length) = some 4 := by decide +kernel
theorem ndL_gap : mL_gap.cls ≠ "java/lang/invoke/MethodHandle" ∧ mL_gap.cls ≠ "java/lang/invoke/VarHandle" ∧ (parseMethodDescriptor mL_gap.desc).map (fun d => d.parameters.length) = some 3 := by decide +kernel
theorem ndL_list : mL_list.cls ≠ "java/lang/invoke/MethodHandle" ∧ mL_list.cls ≠ "java/lang/invoke/VarHandle" ∧ (parseMethodDescriptor mL_list.desc).map (fun d => d.parameters.length) = some 3 := by decide +kernel
theorem cB {own : String} {index : Nat} {y : MethodName} {bytes : ByteArray} {maxL mc ms : Nat} {ret : Option FieldType} {rm R : Room} {args : Array Value} {s : State} (n : Nat) (hts : ∀ w ∈ gT, w.before args s = true) (hc : Cond.code y bytes maxL ret ∈ gT) (hi : Cond.initialized y.cls ∈ gT) (hl : Cond.methodLink own index y ∈ gT)
    (hd : y.cls ≠ "java/lang/invoke/MethodHandle" ∧ y.cls ≠ "java/lang/invoke/VarHandle" ∧ (parseMethodDescriptor y.desc).map (fun d => d.parameters.length) = some n) (hrc : rm.cells = mc) (hrs : rm.slots = ms) (hR : rm.frames + 1 ≤ R.frames ∧ 8 + (maxL + 11) + rm.locals ≤ R.locals) :
    CallB R s args own index y bytes maxL ret (Cond.code y bytes maxL ret :: gT) rm mc ms n :=
  callB_of n hts (fun w h => by
    rcases List.mem_cons.mp h with rfl | h
    · exact ⟨hc, gT_good _ hc⟩
    · exact ⟨h, gT_good _ h⟩) rfl hrc hrs (hts _ hi) (hts _ hl) hd hR
end
section
theorem nw_0 : Cond.methodLinkNest "StairPlans" 9 ⟨"StairPlans$RuleText", "<init>", "()V"⟩ "StairPlans" ∈ tables_1 := List.mem_append_left _ (List.mem_of_getElem? (i := 30) (by rfl))
theorem nw_1 : Cond.fieldLinkNest "StairPlans" 83 "StairPlans$RuleText" "place" "I" "StairPlans" ∈ tables_1 := List.mem_append_left _ (List.mem_of_getElem? (i := 37) (by rfl))
theorem nw_2 : Cond.methodLinkNest "StairPlans" 18 ⟨"StairPlans$RuleSet", "<init>", "()V"⟩ "StairPlans" ∈ tables_1 := List.mem_append_left _ (List.mem_of_getElem? (i := 48) (by rfl))
theorem nw_3 : Cond.fieldLinkNest "StairPlans" 90 "StairPlans$RuleSet" "count" "I" "StairPlans" ∈ tables_1 := List.mem_append_left _ (List.mem_of_getElem? (i := 56) (by rfl))
theorem nw_4 : Cond.methodLinkNest "StairPlans" 28 ⟨"StairPlans$FloorSet", "<init>", "()V"⟩ "StairPlans" ∈ tables_1 := List.mem_append_left _ (List.mem_of_getElem? (i := 69) (by rfl))
theorem nw_5 : Cond.methodLinkNest "StairPlans" 35 ⟨"StairPlans$Stair", "<init>", "()V"⟩ "StairPlans" ∈ tables_1 := List.mem_append_left _ (List.mem_of_getElem? (i := 95) (by rfl))
theorem nw_6 : Cond.fieldLinkNest "StairPlans$FloorSet" 45 "StairPlans$Stair" "rises" "I" "StairPlans" ∈ tables_1 := List.mem_append_left _ (List.mem_of_getElem? (i := 101) (by rfl))
theorem nw_7 : Cond.fieldLinkNest "StairPlans$RuleSet" 32 "StairPlans$Stair" "rises" "I" "StairPlans" ∈ tables_1 := List.mem_append_left _ (List.mem_of_getElem? (i := 102) (by rfl))
theorem nw_8 : Cond.fieldLinkNest "StairPlans" 232 "StairPlans$Stair" "rises" "I" "StairPlans" ∈ tables_1 := List.mem_append_left _ (List.mem_of_getElem? (i := 103) (by rfl))
theorem nw_9 : Cond.fieldLinkNest "StairPlans$RuleSet" 44 "StairPlans$Stair" "total" "J" "StairPlans" ∈ tables_1 := List.mem_append_left _ (List.mem_of_getElem? (i := 105) (by rfl))
theorem nw_10 : Cond.fieldLinkNest "StairPlans$RuleSet" 37 "StairPlans$Stair" "going" "J" "StairPlans" ∈ tables_1 := List.mem_append_left _ (List.mem_of_getElem? (i := 107) (by rfl))
theorem nw_11 : Cond.fieldLinkNest "StairPlans$RuleSet" 41 "StairPlans$Stair" "width" "J" "StairPlans" ∈ tables_1 := List.mem_append_left _ (List.mem_of_getElem? (i := 109) (by rfl))
theorem nw_12 : Cond.methodLinkNest "StairPlans" 42 ⟨"StairPlans$Fraction", "<init>", "()V"⟩ "StairPlans" ∈ tables_1 := List.mem_append_left _ (List.mem_of_getElem? (i := 129) (by rfl))
theorem nw_13 : Cond.fieldLinkNest "StairPlans" 137 "StairPlans$Fraction" "numerator" "J" "StairPlans" ∈ tables_1 := List.mem_append_left _ (List.mem_of_getElem? (i := 134) (by rfl))
theorem nw_14 : Cond.fieldLinkNest "StairPlans" 140 "StairPlans$Fraction" "denominator" "J" "StairPlans" ∈ tables_1 := List.mem_append_left _ (List.mem_of_getElem? (i := 136) (by rfl))
theorem nw_15 : Cond.castable "java/lang/IllegalArgumentException" "java/lang/IllegalArgumentException" ∈ tables_1 := List.mem_append_right _ (List.mem_append_left _ (List.mem_of_getElem? (i := 89) (by rfl)))
theorem nw_16 : Cond.declares ⟨"java/lang/RuntimeException", "<init>", "()V"⟩ ∈ tables_1 := List.mem_append_right _ (List.mem_append_left _ (List.mem_of_getElem? (i := 90) (by rfl)))
theorem nw_17 : Cond.declares ⟨"java/lang/RuntimeException", "<init>", "(Ljava/lang/String;)V"⟩ ∈ tables_1 := List.mem_append_right _ (List.mem_append_left _ (List.mem_of_getElem? (i := 91) (by rfl)))
theorem nw_18 : Cond.declares ⟨"java/lang/Exception", "<init>", "()V"⟩ ∈ tables_1 := List.mem_append_right _ (List.mem_append_left _ (List.mem_of_getElem? (i := 92) (by rfl)))
theorem nw_19 : Cond.declares ⟨"java/lang/Exception", "<init>", "(Ljava/lang/String;)V"⟩ ∈ tables_1 := List.mem_append_right _ (List.mem_append_left _ (List.mem_of_getElem? (i := 93) (by rfl)))
theorem nw_20 : Cond.declares ⟨"java/lang/Throwable", "<init>", "()V"⟩ ∈ tables_1 := List.mem_append_right _ (List.mem_append_left _ (List.mem_of_getElem? (i := 94) (by rfl)))
theorem nw_21 : Cond.declares ⟨"java/lang/Throwable", "<init>", "(Ljava/lang/String;)V"⟩ ∈ tables_1 := List.mem_append_right _ (List.mem_append_left _ (List.mem_of_getElem? (i := 95) (by rfl)))
theorem nw_22 : Cond.castable "java/lang/IllegalStateException" "java/lang/IllegalStateException" ∈ tables_1 := List.mem_append_right _ (List.mem_append_left _ (List.mem_of_getElem? (i := 164) (by rfl)))
theorem nw_23 : Cond.castable "java/lang/IndexOutOfBoundsException" "java/lang/IndexOutOfBoundsException" ∈ tables_1 := List.mem_append_right _ (List.mem_append_right _ (List.mem_append_left _ (List.mem_of_getElem? (i := 4) (by rfl))))
theorem gw_0 : Cond.initialized "StairPlansLaw" ∈ gT := List.mem_filter.mpr ⟨List.mem_append_right _ (List.mem_append_left _ (List.mem_of_getElem? (i := 0) (by rfl)) : Cond.initialized "StairPlansLaw" ∈ tables_1), by rfl⟩
theorem gw_1 : Cond.initialized "StairPlans" ∈ gT := List.mem_filter.mpr ⟨List.mem_append_right _ (List.mem_append_left _ (List.mem_of_getElem? (i := 1) (by rfl)) : Cond.initialized "StairPlans" ∈ tables_1), by rfl⟩
theorem gw_2 : Cond.initialized "StairPlans$RuleText" ∈ gT := List.mem_filter.mpr ⟨List.mem_append_right _ (List.mem_append_left _ (List.mem_of_getElem? (i := 2) (by rfl)) : Cond.initialized "StairPlans$RuleText" ∈ tables_1), by rfl⟩
theorem gw_3 : Cond.initialized "StairPlans$RuleSet" ∈ gT := List.mem_filter.mpr ⟨List.mem_append_right _ (List.mem_append_left _ (List.mem_of_getElem? (i := 3) (by rfl)) : Cond.initialized "StairPlans$RuleSet" ∈ tables_1), by rfl⟩
theorem gw_4 : Cond.initialized "StairPlans$FloorSet" ∈ gT := List.mem_filter.mpr ⟨List.mem_append_right _ (List.mem_append_left _ (List.mem_of_getElem? (i := 4) (by rfl)) : Cond.initialized "StairPlans$FloorSet" ∈ tables_1), by rfl⟩
theorem gw_5 : Cond.initialized "StairPlans$Stair" ∈ gT := List.mem_filter.mpr ⟨List.mem_append_right _ (List.mem_append_left _ (List.mem_of_getElem? (i := 5) (by rfl)) : Cond.initialized "StairPlans$Stair" ∈ tables_1), by rfl⟩
theorem gw_6 : Cond.initialized "StairPlans$Fraction" ∈ gT := List.mem_filter.mpr ⟨List.mem_append_right _ (List.mem_append_left _ (List.mem_of_getElem? (i := 6) (by rfl)) : Cond.initialized "StairPlans$Fraction" ∈ tables_1), by rfl⟩
theorem gw_7 : Cond.initialized "StairPlansModel" ∈ gT := List.mem_filter.mpr ⟨List.mem_append_right _ (List.mem_append_left _ (List.mem_of_getElem? (i := 7) (by rfl)) : Cond.initialized "StairPlansModel" ∈ tables_1), by rfl⟩
theorem gw_8 : Cond.initialized "java/lang/Throwable" ∈ gT := List.mem_filter.mpr ⟨List.mem_append_right _ (List.mem_append_left _ (List.mem_of_getElem? (i := 8) (by rfl)) : Cond.initialized "java/lang/Throwable" ∈ tables_1), by rfl⟩
theorem gw_9 : Cond.initialized "java/lang/Exception" ∈ gT := List.mem_filter.mpr ⟨List.mem_append_right _ (List.mem_append_left _ (List.mem_of_getElem? (i := 9) (by rfl)) : Cond.initialized "java/lang/Exception" ∈ tables_1), by rfl⟩
theorem gw_10 : Cond.initialized "java/lang/RuntimeException" ∈ gT := List.mem_filter.mpr ⟨List.mem_append_right _ (List.mem_append_left _ (List.mem_of_getElem? (i := 10) (by rfl)) : Cond.initialized "java/lang/RuntimeException" ∈ tables_1), by rfl⟩
theorem gw_11 : Cond.initialized "java/lang/IllegalArgumentException" ∈ gT := List.mem_filter.mpr ⟨List.mem_append_right _ (List.mem_append_left _ (List.mem_of_getElem? (i := 11) (by rfl)) : Cond.initialized "java/lang/IllegalArgumentException" ∈ tables_1), by rfl⟩
theorem gw_12 : Cond.initialized "java/lang/String" ∈ gT := List.mem_filter.mpr ⟨List.mem_append_right _ (List.mem_append_left _ (List.mem_of_getElem? (i := 12) (by rfl)) : Cond.initialized "java/lang/String" ∈ tables_1), by rfl⟩
theorem gw_13 : Cond.initialized "java/lang/StringLatin1" ∈ gT := List.mem_filter.mpr ⟨List.mem_append_right _ (List.mem_append_left _ (List.mem_of_getElem? (i := 13) (by rfl)) : Cond.initialized "java/lang/StringLatin1" ∈ tables_1), by rfl⟩
theorem gw_14 : Cond.initialized "java/lang/Math" ∈ gT := List.mem_filter.mpr ⟨List.mem_append_right _ (List.mem_append_left _ (List.mem_of_getElem? (i := 14) (by rfl)) : Cond.initialized "java/lang/Math" ∈ tables_1), by rfl⟩
theorem gw_15 : Cond.initialized "java/lang/StringUTF16" ∈ gT := List.mem_filter.mpr ⟨List.mem_append_right _ (List.mem_append_left _ (List.mem_of_getElem? (i := 15) (by rfl)) : Cond.initialized "java/lang/StringUTF16" ∈ tables_1), by rfl⟩
theorem gw_16 : Cond.initialized "java/lang/IllegalStateException" ∈ gT := List.mem_filter.mpr ⟨List.mem_append_right _ (List.mem_append_left _ (List.mem_of_getElem? (i := 18) (by rfl)) : Cond.initialized "java/lang/IllegalStateException" ∈ tables_1), by rfl⟩
theorem gw_17 : Cond.initialized "java/lang/IndexOutOfBoundsException" ∈ gT := List.mem_filter.mpr ⟨List.mem_append_right _ (List.mem_append_left _ (List.mem_of_getElem? (i := 19) (by rfl)) : Cond.initialized "java/lang/IndexOutOfBoundsException" ∈ tables_1), by rfl⟩
theorem gw_18 : Cond.classLink "StairPlansLaw" 8 "StairPlans" ∈ gT := List.mem_filter.mpr ⟨List.mem_append_right _ (List.mem_append_left _ (List.mem_of_getElem? (i := 20) (by rfl)) : Cond.classLink "StairPlansLaw" 8 "StairPlans" ∈ tables_1), by rfl⟩
theorem gw_19 : Cond.instantiable "StairPlans" 10 ∈ gT := List.mem_filter.mpr ⟨List.mem_append_right _ (List.mem_append_left _ (List.mem_of_getElem? (i := 21) (by rfl)) : Cond.instantiable "StairPlans" 10 ∈ tables_1), by rfl⟩
theorem gw_20 : Cond.methodLink "StairPlansLaw" 63 ⟨"StairPlans", "<init>", "()V"⟩ ∈ gT := List.mem_filter.mpr ⟨List.mem_append_right _ (List.mem_append_left _ (List.mem_of_getElem? (i := 22) (by rfl)) : Cond.methodLink "StairPlansLaw" 63 ⟨"StairPlans", "<init>", "()V"⟩ ∈ tables_1), by rfl⟩
theorem gw_21 : Cond.instanceMethod ⟨"StairPlans", "<init>", "()V"⟩ ∈ gT := List.mem_filter.mpr ⟨List.mem_append_right _ (List.mem_append_left _ (List.mem_of_getElem? (i := 23) (by rfl)) : Cond.instanceMethod ⟨"StairPlans", "<init>", "()V"⟩ ∈ tables_1), by rfl⟩
theorem gw_22 : Cond.code ⟨"StairPlans", "<init>", "()V"⟩ prog_1_method_1_code 1 none ∈ gT := List.mem_filter.mpr ⟨List.mem_append_right _ (List.mem_append_left _ (List.mem_of_getElem? (i := 24) (by rfl)) : Cond.code ⟨"StairPlans", "<init>", "()V"⟩ prog_1_method_1_code 1 none ∈ tables_1), by rfl⟩
theorem gw_23 : Cond.methodLink "StairPlans" 1 ⟨"java/lang/Object", "<init>", "()V"⟩ ∈ gT := List.mem_filter.mpr ⟨List.mem_append_right _ (List.mem_append_left _ (List.mem_of_getElem? (i := 25) (by rfl)) : Cond.methodLink "StairPlans" 1 ⟨"java/lang/Object", "<init>", "()V"⟩ ∈ tables_1), by rfl⟩
theorem gw_24 : Cond.instanceMethod ⟨"java/lang/Object", "<init>", "()V"⟩ ∈ gT := List.mem_filter.mpr ⟨List.mem_append_right _ (List.mem_append_left _ (List.mem_of_getElem? (i := 26) (by rfl)) : Cond.instanceMethod ⟨"java/lang/Object", "<init>", "()V"⟩ ∈ tables_1), by rfl⟩
theorem gw_25 : Cond.code ⟨"java/lang/Object", "<init>", "()V"⟩ object_method_1_code 1 none ∈ gT := List.mem_filter.mpr ⟨List.mem_append_right _ (List.mem_append_left _ (List.mem_of_getElem? (i := 27) (by rfl)) : Cond.code ⟨"java/lang/Object", "<init>", "()V"⟩ object_method_1_code 1 none ∈ tables_1), by rfl⟩
theorem gw_26 : Cond.classLink "StairPlans" 7 "StairPlans$RuleText" ∈ gT := List.mem_filter.mpr ⟨List.mem_append_right _ (List.mem_append_left _ (List.mem_of_getElem? (i := 28) (by rfl)) : Cond.classLink "StairPlans" 7 "StairPlans$RuleText" ∈ tables_1), by rfl⟩
theorem gw_27 : Cond.instantiable "StairPlans$RuleText" 3 ∈ gT := List.mem_filter.mpr ⟨List.mem_append_right _ (List.mem_append_left _ (List.mem_of_getElem? (i := 29) (by rfl)) : Cond.instantiable "StairPlans$RuleText" 3 ∈ tables_1), by rfl⟩
theorem gw_28 : Cond.instanceMethod ⟨"StairPlans$RuleText", "<init>", "()V"⟩ ∈ gT := List.mem_filter.mpr ⟨List.mem_append_right _ (List.mem_append_left _ (List.mem_of_getElem? (i := 31) (by rfl)) : Cond.instanceMethod ⟨"StairPlans$RuleText", "<init>", "()V"⟩ ∈ tables_1), by rfl⟩
theorem gw_29 : Cond.code ⟨"StairPlans$RuleText", "<init>", "()V"⟩ prog_5_method_1_code 1 none ∈ gT := List.mem_filter.mpr ⟨List.mem_append_right _ (List.mem_append_left _ (List.mem_of_getElem? (i := 32) (by rfl)) : Cond.code ⟨"StairPlans$RuleText", "<init>", "()V"⟩ prog_5_method_1_code 1 none ∈ tables_1), by rfl⟩
theorem gw_30 : Cond.methodLink "StairPlans$RuleText" 3 ⟨"java/lang/Object", "<init>", "()V"⟩ ∈ gT := List.mem_filter.mpr ⟨List.mem_append_right _ (List.mem_append_left _ (List.mem_of_getElem? (i := 33) (by rfl)) : Cond.methodLink "StairPlans$RuleText" 3 ⟨"java/lang/Object", "<init>", "()V"⟩ ∈ tables_1), by rfl⟩
theorem gw_31 : Cond.fieldLink "StairPlans$RuleText" 11 "StairPlans$RuleText" "characters" "[C" ∈ gT := List.mem_filter.mpr ⟨List.mem_append_right _ (List.mem_append_left _ (List.mem_of_getElem? (i := 34) (by rfl)) : Cond.fieldLink "StairPlans$RuleText" 11 "StairPlans$RuleText" "characters" "[C" ∈ tables_1), by rfl⟩
theorem gw_32 : Cond.fieldLink "StairPlans$RuleText" 15 "StairPlans$RuleText" "length" "I" ∈ gT := List.mem_filter.mpr ⟨List.mem_append_right _ (List.mem_append_left _ (List.mem_of_getElem? (i := 35) (by rfl)) : Cond.fieldLink "StairPlans$RuleText" 15 "StairPlans$RuleText" "length" "I" ∈ tables_1), by rfl⟩
theorem gw_33 : Cond.fieldLink "StairPlans$RuleText" 19 "StairPlans$RuleText" "place" "I" ∈ gT := List.mem_filter.mpr ⟨List.mem_append_right _ (List.mem_append_left _ (List.mem_of_getElem? (i := 36) (by rfl)) : Cond.fieldLink "StairPlans$RuleText" 19 "StairPlans$RuleText" "place" "I" ∈ tables_1), by rfl⟩
theorem gw_34 : Cond.laysFinal "StairPlans$RuleText" "StairPlans$RuleText" "characters" "[C" ∈ gT := List.mem_filter.mpr ⟨List.mem_append_right _ (List.mem_append_left _ (List.mem_of_getElem? (i := 38) (by rfl)) : Cond.laysFinal "StairPlans$RuleText" "StairPlans$RuleText" "characters" "[C" ∈ tables_1), by rfl⟩
theorem gw_35 : Cond.lays "StairPlans$RuleText" "StairPlans$RuleText" "length" "I" ∈ gT := List.mem_filter.mpr ⟨List.mem_append_right _ (List.mem_append_left _ (List.mem_of_getElem? (i := 40) (by rfl)) : Cond.lays "StairPlans$RuleText" "StairPlans$RuleText" "length" "I" ∈ tables_1), by rfl⟩
theorem gw_36 : Cond.lays "StairPlans$RuleText" "StairPlans$RuleText" "place" "I" ∈ gT := List.mem_filter.mpr ⟨List.mem_append_right _ (List.mem_append_left _ (List.mem_of_getElem? (i := 42) (by rfl)) : Cond.lays "StairPlans$RuleText" "StairPlans$RuleText" "place" "I" ∈ tables_1), by rfl⟩
theorem gw_37 : Cond.arrayClass .char ∈ gT := List.mem_filter.mpr ⟨List.mem_append_right _ (List.mem_append_left _ (List.mem_of_getElem? (i := 45) (by rfl)) : Cond.arrayClass .char ∈ tables_1), by rfl⟩
theorem gw_38 : Cond.classLink "StairPlans" 16 "StairPlans$RuleSet" ∈ gT := List.mem_filter.mpr ⟨List.mem_append_right _ (List.mem_append_left _ (List.mem_of_getElem? (i := 46) (by rfl)) : Cond.classLink "StairPlans" 16 "StairPlans$RuleSet" ∈ tables_1), by rfl⟩
theorem gw_39 : Cond.instantiable "StairPlans$RuleSet" 4 ∈ gT := List.mem_filter.mpr ⟨List.mem_append_right _ (List.mem_append_left _ (List.mem_of_getElem? (i := 47) (by rfl)) : Cond.instantiable "StairPlans$RuleSet" 4 ∈ tables_1), by rfl⟩
theorem gw_40 : Cond.instanceMethod ⟨"StairPlans$RuleSet", "<init>", "()V"⟩ ∈ gT := List.mem_filter.mpr ⟨List.mem_append_right _ (List.mem_append_left _ (List.mem_of_getElem? (i := 49) (by rfl)) : Cond.instanceMethod ⟨"StairPlans$RuleSet", "<init>", "()V"⟩ ∈ tables_1), by rfl⟩
theorem gw_41 : Cond.code ⟨"StairPlans$RuleSet", "<init>", "()V"⟩ prog_4_method_1_code 1 none ∈ gT := List.mem_filter.mpr ⟨List.mem_append_right _ (List.mem_append_left _ (List.mem_of_getElem? (i := 50) (by rfl)) : Cond.code ⟨"StairPlans$RuleSet", "<init>", "()V"⟩ prog_4_method_1_code 1 none ∈ tables_1), by rfl⟩
theorem gw_42 : Cond.methodLink "StairPlans$RuleSet" 1 ⟨"java/lang/Object", "<init>", "()V"⟩ ∈ gT := List.mem_filter.mpr ⟨List.mem_append_right _ (List.mem_append_left _ (List.mem_of_getElem? (i := 51) (by rfl)) : Cond.methodLink "StairPlans$RuleSet" 1 ⟨"java/lang/Object", "<init>", "()V"⟩ ∈ tables_1), by rfl⟩
theorem gw_43 : Cond.fieldLink "StairPlans$RuleSet" 9 "StairPlans$RuleSet" "weights" "[I" ∈ gT := List.mem_filter.mpr ⟨List.mem_append_right _ (List.mem_append_left _ (List.mem_of_getElem? (i := 52) (by rfl)) : Cond.fieldLink "StairPlans$RuleSet" 9 "StairPlans$RuleSet" "weights" "[I" ∈ tables_1), by rfl⟩
theorem gw_44 : Cond.fieldLink "StairPlans$RuleSet" 13 "StairPlans$RuleSet" "relations" "[C" ∈ gT := List.mem_filter.mpr ⟨List.mem_append_right _ (List.mem_append_left _ (List.mem_of_getElem? (i := 53) (by rfl)) : Cond.fieldLink "StairPlans$RuleSet" 13 "StairPlans$RuleSet" "relations" "[C" ∈ tables_1), by rfl⟩
theorem gw_45 : Cond.fieldLink "StairPlans$RuleSet" 17 "StairPlans$RuleSet" "bounds" "[I" ∈ gT := List.mem_filter.mpr ⟨List.mem_append_right _ (List.mem_append_left _ (List.mem_of_getElem? (i := 54) (by rfl)) : Cond.fieldLink "StairPlans$RuleSet" 17 "StairPlans$RuleSet" "bounds" "[I" ∈ tables_1), by rfl⟩
theorem gw_46 : Cond.fieldLink "StairPlans$RuleSet" 20 "StairPlans$RuleSet" "count" "I" ∈ gT := List.mem_filter.mpr ⟨List.mem_append_right _ (List.mem_append_left _ (List.mem_of_getElem? (i := 55) (by rfl)) : Cond.fieldLink "StairPlans$RuleSet" 20 "StairPlans$RuleSet" "count" "I" ∈ tables_1), by rfl⟩
theorem gw_47 : Cond.laysFinal "StairPlans$RuleSet" "StairPlans$RuleSet" "weights" "[I" ∈ gT := List.mem_filter.mpr ⟨List.mem_append_right _ (List.mem_append_left _ (List.mem_of_getElem? (i := 57) (by rfl)) : Cond.laysFinal "StairPlans$RuleSet" "StairPlans$RuleSet" "weights" "[I" ∈ tables_1), by rfl⟩
theorem gw_48 : Cond.laysFinal "StairPlans$RuleSet" "StairPlans$RuleSet" "relations" "[C" ∈ gT := List.mem_filter.mpr ⟨List.mem_append_right _ (List.mem_append_left _ (List.mem_of_getElem? (i := 59) (by rfl)) : Cond.laysFinal "StairPlans$RuleSet" "StairPlans$RuleSet" "relations" "[C" ∈ tables_1), by rfl⟩
theorem gw_49 : Cond.laysFinal "StairPlans$RuleSet" "StairPlans$RuleSet" "bounds" "[I" ∈ gT := List.mem_filter.mpr ⟨List.mem_append_right _ (List.mem_append_left _ (List.mem_of_getElem? (i := 61) (by rfl)) : Cond.laysFinal "StairPlans$RuleSet" "StairPlans$RuleSet" "bounds" "[I" ∈ tables_1), by rfl⟩
theorem gw_50 : Cond.lays "StairPlans$RuleSet" "StairPlans$RuleSet" "count" "I" ∈ gT := List.mem_filter.mpr ⟨List.mem_append_right _ (List.mem_append_left _ (List.mem_of_getElem? (i := 63) (by rfl)) : Cond.lays "StairPlans$RuleSet" "StairPlans$RuleSet" "count" "I" ∈ tables_1), by rfl⟩
theorem gw_51 : Cond.arrayClass .int ∈ gT := List.mem_filter.mpr ⟨List.mem_append_right _ (List.mem_append_left _ (List.mem_of_getElem? (i := 66) (by rfl)) : Cond.arrayClass .int ∈ tables_1), by rfl⟩
theorem gw_52 : Cond.classLink "StairPlans" 26 "StairPlans$FloorSet" ∈ gT := List.mem_filter.mpr ⟨List.mem_append_right _ (List.mem_append_left _ (List.mem_of_getElem? (i := 67) (by rfl)) : Cond.classLink "StairPlans" 26 "StairPlans$FloorSet" ∈ tables_1), by rfl⟩
theorem gw_53 : Cond.instantiable "StairPlans$FloorSet" 6 ∈ gT := List.mem_filter.mpr ⟨List.mem_append_right _ (List.mem_append_left _ (List.mem_of_getElem? (i := 68) (by rfl)) : Cond.instantiable "StairPlans$FloorSet" 6 ∈ tables_1), by rfl⟩
theorem gw_54 : Cond.instanceMethod ⟨"StairPlans$FloorSet", "<init>", "()V"⟩ ∈ gT := List.mem_filter.mpr ⟨List.mem_append_right _ (List.mem_append_left _ (List.mem_of_getElem? (i := 70) (by rfl)) : Cond.instanceMethod ⟨"StairPlans$FloorSet", "<init>", "()V"⟩ ∈ tables_1), by rfl⟩
theorem gw_55 : Cond.code ⟨"StairPlans$FloorSet", "<init>", "()V"⟩ prog_2_method_1_code 1 none ∈ gT := List.mem_filter.mpr ⟨List.mem_append_right _ (List.mem_append_left _ (List.mem_of_getElem? (i := 71) (by rfl)) : Cond.code ⟨"StairPlans$FloorSet", "<init>", "()V"⟩ prog_2_method_1_code 1 none ∈ tables_1), by rfl⟩
theorem gw_56 : Cond.methodLink "StairPlans$FloorSet" 1 ⟨"java/lang/Object", "<init>", "()V"⟩ ∈ gT := List.mem_filter.mpr ⟨List.mem_append_right _ (List.mem_append_left _ (List.mem_of_getElem? (i := 72) (by rfl)) : Cond.methodLink "StairPlans$FloorSet" 1 ⟨"java/lang/Object", "<init>", "()V"⟩ ∈ tables_1), by rfl⟩
theorem gw_57 : Cond.fieldLink "StairPlans$FloorSet" 9 "StairPlans$FloorSet" "x0" "[J" ∈ gT := List.mem_filter.mpr ⟨List.mem_append_right _ (List.mem_append_left _ (List.mem_of_getElem? (i := 73) (by rfl)) : Cond.fieldLink "StairPlans$FloorSet" 9 "StairPlans$FloorSet" "x0" "[J" ∈ tables_1), by rfl⟩
theorem gw_58 : Cond.fieldLink "StairPlans$FloorSet" 13 "StairPlans$FloorSet" "y0" "[J" ∈ gT := List.mem_filter.mpr ⟨List.mem_append_right _ (List.mem_append_left _ (List.mem_of_getElem? (i := 74) (by rfl)) : Cond.fieldLink "StairPlans$FloorSet" 13 "StairPlans$FloorSet" "y0" "[J" ∈ tables_1), by rfl⟩
theorem gw_59 : Cond.fieldLink "StairPlans$FloorSet" 16 "StairPlans$FloorSet" "x1" "[J" ∈ gT := List.mem_filter.mpr ⟨List.mem_append_right _ (List.mem_append_left _ (List.mem_of_getElem? (i := 75) (by rfl)) : Cond.fieldLink "StairPlans$FloorSet" 16 "StairPlans$FloorSet" "x1" "[J" ∈ tables_1), by rfl⟩
theorem gw_60 : Cond.fieldLink "StairPlans$FloorSet" 19 "StairPlans$FloorSet" "y1" "[J" ∈ gT := List.mem_filter.mpr ⟨List.mem_append_right _ (List.mem_append_left _ (List.mem_of_getElem? (i := 76) (by rfl)) : Cond.fieldLink "StairPlans$FloorSet" 19 "StairPlans$FloorSet" "y1" "[J" ∈ tables_1), by rfl⟩
theorem gw_61 : Cond.fieldLink "StairPlans$FloorSet" 22 "StairPlans$FloorSet" "height" "[J" ∈ gT := List.mem_filter.mpr ⟨List.mem_append_right _ (List.mem_append_left _ (List.mem_of_getElem? (i := 77) (by rfl)) : Cond.fieldLink "StairPlans$FloorSet" 22 "StairPlans$FloorSet" "height" "[J" ∈ tables_1), by rfl⟩
theorem gw_62 : Cond.fieldLink "StairPlans$FloorSet" 25 "StairPlans$FloorSet" "count" "I" ∈ gT := List.mem_filter.mpr ⟨List.mem_append_right _ (List.mem_append_left _ (List.mem_of_getElem? (i := 78) (by rfl)) : Cond.fieldLink "StairPlans$FloorSet" 25 "StairPlans$FloorSet" "count" "I" ∈ tables_1), by rfl⟩
theorem gw_63 : Cond.laysFinal "StairPlans$FloorSet" "StairPlans$FloorSet" "x0" "[J" ∈ gT := List.mem_filter.mpr ⟨List.mem_append_right _ (List.mem_append_left _ (List.mem_of_getElem? (i := 79) (by rfl)) : Cond.laysFinal "StairPlans$FloorSet" "StairPlans$FloorSet" "x0" "[J" ∈ tables_1), by rfl⟩
theorem gw_64 : Cond.laysFinal "StairPlans$FloorSet" "StairPlans$FloorSet" "y0" "[J" ∈ gT := List.mem_filter.mpr ⟨List.mem_append_right _ (List.mem_append_left _ (List.mem_of_getElem? (i := 81) (by rfl)) : Cond.laysFinal "StairPlans$FloorSet" "StairPlans$FloorSet" "y0" "[J" ∈ tables_1), by rfl⟩
theorem gw_65 : Cond.laysFinal "StairPlans$FloorSet" "StairPlans$FloorSet" "x1" "[J" ∈ gT := List.mem_filter.mpr ⟨List.mem_append_right _ (List.mem_append_left _ (List.mem_of_getElem? (i := 83) (by rfl)) : Cond.laysFinal "StairPlans$FloorSet" "StairPlans$FloorSet" "x1" "[J" ∈ tables_1), by rfl⟩
theorem gw_66 : Cond.laysFinal "StairPlans$FloorSet" "StairPlans$FloorSet" "y1" "[J" ∈ gT := List.mem_filter.mpr ⟨List.mem_append_right _ (List.mem_append_left _ (List.mem_of_getElem? (i := 85) (by rfl)) : Cond.laysFinal "StairPlans$FloorSet" "StairPlans$FloorSet" "y1" "[J" ∈ tables_1), by rfl⟩
theorem gw_67 : Cond.laysFinal "StairPlans$FloorSet" "StairPlans$FloorSet" "height" "[J" ∈ gT := List.mem_filter.mpr ⟨List.mem_append_right _ (List.mem_append_left _ (List.mem_of_getElem? (i := 87) (by rfl)) : Cond.laysFinal "StairPlans$FloorSet" "StairPlans$FloorSet" "height" "[J" ∈ tables_1), by rfl⟩
theorem gw_68 : Cond.lays "StairPlans$FloorSet" "StairPlans$FloorSet" "count" "I" ∈ gT := List.mem_filter.mpr ⟨List.mem_append_right _ (List.mem_append_left _ (List.mem_of_getElem? (i := 89) (by rfl)) : Cond.lays "StairPlans$FloorSet" "StairPlans$FloorSet" "count" "I" ∈ tables_1), by rfl⟩
theorem gw_69 : Cond.arrayClass .long ∈ gT := List.mem_filter.mpr ⟨List.mem_append_right _ (List.mem_append_left _ (List.mem_of_getElem? (i := 92) (by rfl)) : Cond.arrayClass .long ∈ tables_1), by rfl⟩
theorem gw_70 : Cond.classLink "StairPlans" 33 "StairPlans$Stair" ∈ gT := List.mem_filter.mpr ⟨List.mem_append_right _ (List.mem_append_left _ (List.mem_of_getElem? (i := 93) (by rfl)) : Cond.classLink "StairPlans" 33 "StairPlans$Stair" ∈ tables_1), by rfl⟩
theorem gw_71 : Cond.instantiable "StairPlans$Stair" 7 ∈ gT := List.mem_filter.mpr ⟨List.mem_append_right _ (List.mem_append_left _ (List.mem_of_getElem? (i := 94) (by rfl)) : Cond.instantiable "StairPlans$Stair" 7 ∈ tables_1), by rfl⟩
theorem gw_72 : Cond.instanceMethod ⟨"StairPlans$Stair", "<init>", "()V"⟩ ∈ gT := List.mem_filter.mpr ⟨List.mem_append_right _ (List.mem_append_left _ (List.mem_of_getElem? (i := 96) (by rfl)) : Cond.instanceMethod ⟨"StairPlans$Stair", "<init>", "()V"⟩ ∈ tables_1), by rfl⟩
theorem gw_73 : Cond.code ⟨"StairPlans$Stair", "<init>", "()V"⟩ prog_6_method_1_code 1 none ∈ gT := List.mem_filter.mpr ⟨List.mem_append_right _ (List.mem_append_left _ (List.mem_of_getElem? (i := 97) (by rfl)) : Cond.code ⟨"StairPlans$Stair", "<init>", "()V"⟩ prog_6_method_1_code 1 none ∈ tables_1), by rfl⟩
theorem gw_74 : Cond.methodLink "StairPlans$Stair" 3 ⟨"java/lang/Object", "<init>", "()V"⟩ ∈ gT := List.mem_filter.mpr ⟨List.mem_append_right _ (List.mem_append_left _ (List.mem_of_getElem? (i := 98) (by rfl)) : Cond.methodLink "StairPlans$Stair" 3 ⟨"java/lang/Object", "<init>", "()V"⟩ ∈ tables_1), by rfl⟩
theorem gw_75 : Cond.fieldLink "StairPlans$Stair" 9 "StairPlans$Stair" "kind" "I" ∈ gT := List.mem_filter.mpr ⟨List.mem_append_right _ (List.mem_append_left _ (List.mem_of_getElem? (i := 99) (by rfl)) : Cond.fieldLink "StairPlans$Stair" 9 "StairPlans$Stair" "kind" "I" ∈ tables_1), by rfl⟩
theorem gw_76 : Cond.fieldLink "StairPlans$Stair" 15 "StairPlans$Stair" "rises" "I" ∈ gT := List.mem_filter.mpr ⟨List.mem_append_right _ (List.mem_append_left _ (List.mem_of_getElem? (i := 100) (by rfl)) : Cond.fieldLink "StairPlans$Stair" 15 "StairPlans$Stair" "rises" "I" ∈ tables_1), by rfl⟩
theorem gw_77 : Cond.fieldLink "StairPlans$Stair" 18 "StairPlans$Stair" "total" "J" ∈ gT := List.mem_filter.mpr ⟨List.mem_append_right _ (List.mem_append_left _ (List.mem_of_getElem? (i := 104) (by rfl)) : Cond.fieldLink "StairPlans$Stair" 18 "StairPlans$Stair" "total" "J" ∈ tables_1), by rfl⟩
theorem gw_78 : Cond.fieldLink "StairPlans$Stair" 22 "StairPlans$Stair" "going" "J" ∈ gT := List.mem_filter.mpr ⟨List.mem_append_right _ (List.mem_append_left _ (List.mem_of_getElem? (i := 106) (by rfl)) : Cond.fieldLink "StairPlans$Stair" 22 "StairPlans$Stair" "going" "J" ∈ tables_1), by rfl⟩
theorem gw_79 : Cond.fieldLink "StairPlans$Stair" 25 "StairPlans$Stair" "width" "J" ∈ gT := List.mem_filter.mpr ⟨List.mem_append_right _ (List.mem_append_left _ (List.mem_of_getElem? (i := 108) (by rfl)) : Cond.fieldLink "StairPlans$Stair" 25 "StairPlans$Stair" "width" "J" ∈ tables_1), by rfl⟩
theorem gw_80 : Cond.fieldLink "StairPlans$Stair" 28 "StairPlans$Stair" "cornerFrom" "I" ∈ gT := List.mem_filter.mpr ⟨List.mem_append_right _ (List.mem_append_left _ (List.mem_of_getElem? (i := 110) (by rfl)) : Cond.fieldLink "StairPlans$Stair" 28 "StairPlans$Stair" "cornerFrom" "I" ∈ tables_1), by rfl⟩
theorem gw_81 : Cond.fieldLink "StairPlans$Stair" 31 "StairPlans$Stair" "cornerTo" "I" ∈ gT := List.mem_filter.mpr ⟨List.mem_append_right _ (List.mem_append_left _ (List.mem_of_getElem? (i := 111) (by rfl)) : Cond.fieldLink "StairPlans$Stair" 31 "StairPlans$Stair" "cornerTo" "I" ∈ tables_1), by rfl⟩
theorem gw_82 : Cond.lays "StairPlans$Stair" "StairPlans$Stair" "kind" "I" ∈ gT := List.mem_filter.mpr ⟨List.mem_append_right _ (List.mem_append_left _ (List.mem_of_getElem? (i := 112) (by rfl)) : Cond.lays "StairPlans$Stair" "StairPlans$Stair" "kind" "I" ∈ tables_1), by rfl⟩
theorem gw_83 : Cond.lays "StairPlans$Stair" "StairPlans$Stair" "rises" "I" ∈ gT := List.mem_filter.mpr ⟨List.mem_append_right _ (List.mem_append_left _ (List.mem_of_getElem? (i := 114) (by rfl)) : Cond.lays "StairPlans$Stair" "StairPlans$Stair" "rises" "I" ∈ tables_1), by rfl⟩
theorem gw_84 : Cond.lays "StairPlans$Stair" "StairPlans$Stair" "total" "J" ∈ gT := List.mem_filter.mpr ⟨List.mem_append_right _ (List.mem_append_left _ (List.mem_of_getElem? (i := 116) (by rfl)) : Cond.lays "StairPlans$Stair" "StairPlans$Stair" "total" "J" ∈ tables_1), by rfl⟩
theorem gw_85 : Cond.lays "StairPlans$Stair" "StairPlans$Stair" "going" "J" ∈ gT := List.mem_filter.mpr ⟨List.mem_append_right _ (List.mem_append_left _ (List.mem_of_getElem? (i := 118) (by rfl)) : Cond.lays "StairPlans$Stair" "StairPlans$Stair" "going" "J" ∈ tables_1), by rfl⟩
theorem gw_86 : Cond.lays "StairPlans$Stair" "StairPlans$Stair" "width" "J" ∈ gT := List.mem_filter.mpr ⟨List.mem_append_right _ (List.mem_append_left _ (List.mem_of_getElem? (i := 120) (by rfl)) : Cond.lays "StairPlans$Stair" "StairPlans$Stair" "width" "J" ∈ tables_1), by rfl⟩
theorem gw_87 : Cond.lays "StairPlans$Stair" "StairPlans$Stair" "cornerFrom" "I" ∈ gT := List.mem_filter.mpr ⟨List.mem_append_right _ (List.mem_append_left _ (List.mem_of_getElem? (i := 122) (by rfl)) : Cond.lays "StairPlans$Stair" "StairPlans$Stair" "cornerFrom" "I" ∈ tables_1), by rfl⟩
theorem gw_88 : Cond.lays "StairPlans$Stair" "StairPlans$Stair" "cornerTo" "I" ∈ gT := List.mem_filter.mpr ⟨List.mem_append_right _ (List.mem_append_left _ (List.mem_of_getElem? (i := 124) (by rfl)) : Cond.lays "StairPlans$Stair" "StairPlans$Stair" "cornerTo" "I" ∈ tables_1), by rfl⟩
theorem gw_89 : Cond.classLink "StairPlans" 40 "StairPlans$Fraction" ∈ gT := List.mem_filter.mpr ⟨List.mem_append_right _ (List.mem_append_left _ (List.mem_of_getElem? (i := 127) (by rfl)) : Cond.classLink "StairPlans" 40 "StairPlans$Fraction" ∈ tables_1), by rfl⟩
theorem gw_90 : Cond.instantiable "StairPlans$Fraction" 2 ∈ gT := List.mem_filter.mpr ⟨List.mem_append_right _ (List.mem_append_left _ (List.mem_of_getElem? (i := 128) (by rfl)) : Cond.instantiable "StairPlans$Fraction" 2 ∈ tables_1), by rfl⟩
theorem gw_91 : Cond.instanceMethod ⟨"StairPlans$Fraction", "<init>", "()V"⟩ ∈ gT := List.mem_filter.mpr ⟨List.mem_append_right _ (List.mem_append_left _ (List.mem_of_getElem? (i := 130) (by rfl)) : Cond.instanceMethod ⟨"StairPlans$Fraction", "<init>", "()V"⟩ ∈ tables_1), by rfl⟩
theorem gw_92 : Cond.code ⟨"StairPlans$Fraction", "<init>", "()V"⟩ prog_3_method_1_code 1 none ∈ gT := List.mem_filter.mpr ⟨List.mem_append_right _ (List.mem_append_left _ (List.mem_of_getElem? (i := 131) (by rfl)) : Cond.code ⟨"StairPlans$Fraction", "<init>", "()V"⟩ prog_3_method_1_code 1 none ∈ tables_1), by rfl⟩
theorem gw_93 : Cond.methodLink "StairPlans$Fraction" 1 ⟨"java/lang/Object", "<init>", "()V"⟩ ∈ gT := List.mem_filter.mpr ⟨List.mem_append_right _ (List.mem_append_left _ (List.mem_of_getElem? (i := 132) (by rfl)) : Cond.methodLink "StairPlans$Fraction" 1 ⟨"java/lang/Object", "<init>", "()V"⟩ ∈ tables_1), by rfl⟩
theorem gw_94 : Cond.fieldLink "StairPlans$Fraction" 7 "StairPlans$Fraction" "numerator" "J" ∈ gT := List.mem_filter.mpr ⟨List.mem_append_right _ (List.mem_append_left _ (List.mem_of_getElem? (i := 133) (by rfl)) : Cond.fieldLink "StairPlans$Fraction" 7 "StairPlans$Fraction" "numerator" "J" ∈ tables_1), by rfl⟩
theorem gw_95 : Cond.fieldLink "StairPlans$Fraction" 13 "StairPlans$Fraction" "denominator" "J" ∈ gT := List.mem_filter.mpr ⟨List.mem_append_right _ (List.mem_append_left _ (List.mem_of_getElem? (i := 135) (by rfl)) : Cond.fieldLink "StairPlans$Fraction" 13 "StairPlans$Fraction" "denominator" "J" ∈ tables_1), by rfl⟩
theorem gw_96 : Cond.lays "StairPlans$Fraction" "StairPlans$Fraction" "numerator" "J" ∈ gT := List.mem_filter.mpr ⟨List.mem_append_right _ (List.mem_append_left _ (List.mem_of_getElem? (i := 137) (by rfl)) : Cond.lays "StairPlans$Fraction" "StairPlans$Fraction" "numerator" "J" ∈ tables_1), by rfl⟩
theorem gw_97 : Cond.lays "StairPlans$Fraction" "StairPlans$Fraction" "denominator" "J" ∈ gT := List.mem_filter.mpr ⟨List.mem_append_right _ (List.mem_append_left _ (List.mem_of_getElem? (i := 139) (by rfl)) : Cond.lays "StairPlans$Fraction" "StairPlans$Fraction" "denominator" "J" ∈ tables_1), by rfl⟩
theorem gw_98 : Cond.constantLong "StairPlans" 50 270 ∈ gT := List.mem_filter.mpr ⟨List.mem_append_right _ (List.mem_append_left _ (List.mem_of_getElem? (i := 142) (by rfl)) : Cond.constantLong "StairPlans" 50 270 ∈ tables_1), by rfl⟩
theorem gw_99 : Cond.fieldLink "StairPlans" 10 "StairPlans" "text" "LStairPlans$RuleText;" ∈ gT := List.mem_filter.mpr ⟨List.mem_append_right _ (List.mem_append_left _ (List.mem_of_getElem? (i := 143) (by rfl)) : Cond.fieldLink "StairPlans" 10 "StairPlans" "text" "LStairPlans$RuleText;" ∈ tables_1), by rfl⟩
theorem gw_100 : Cond.fieldLink "StairPlans" 19 "StairPlans" "ruleSet" "LStairPlans$RuleSet;" ∈ gT := List.mem_filter.mpr ⟨List.mem_append_right _ (List.mem_append_left _ (List.mem_of_getElem? (i := 144) (by rfl)) : Cond.fieldLink "StairPlans" 19 "StairPlans" "ruleSet" "LStairPlans$RuleSet;" ∈ tables_1), by rfl⟩
theorem gw_101 : Cond.fieldLink "StairPlans" 23 "StairPlans" "spareRuleSet" "LStairPlans$RuleSet;" ∈ gT := List.mem_filter.mpr ⟨List.mem_append_right _ (List.mem_append_left _ (List.mem_of_getElem? (i := 145) (by rfl)) : Cond.fieldLink "StairPlans" 23 "StairPlans" "spareRuleSet" "LStairPlans$RuleSet;" ∈ tables_1), by rfl⟩
theorem gw_102 : Cond.fieldLink "StairPlans" 29 "StairPlans" "floorSet" "LStairPlans$FloorSet;" ∈ gT := List.mem_filter.mpr ⟨List.mem_append_right _ (List.mem_append_left _ (List.mem_of_getElem? (i := 146) (by rfl)) : Cond.fieldLink "StairPlans" 29 "StairPlans" "floorSet" "LStairPlans$FloorSet;" ∈ tables_1), by rfl⟩
theorem gw_103 : Cond.fieldLink "StairPlans" 36 "StairPlans" "stair" "LStairPlans$Stair;" ∈ gT := List.mem_filter.mpr ⟨List.mem_append_right _ (List.mem_append_left _ (List.mem_of_getElem? (i := 147) (by rfl)) : Cond.fieldLink "StairPlans" 36 "StairPlans" "stair" "LStairPlans$Stair;" ∈ tables_1), by rfl⟩
theorem gw_104 : Cond.fieldLink "StairPlans" 43 "StairPlans" "riseFraction" "LStairPlans$Fraction;" ∈ gT := List.mem_filter.mpr ⟨List.mem_append_right _ (List.mem_append_left _ (List.mem_of_getElem? (i := 148) (by rfl)) : Cond.fieldLink "StairPlans" 43 "StairPlans" "riseFraction" "LStairPlans$Fraction;" ∈ tables_1), by rfl⟩
theorem gw_105 : Cond.fieldLink "StairPlans" 47 "StairPlans" "gapFraction" "LStairPlans$Fraction;" ∈ gT := List.mem_filter.mpr ⟨List.mem_append_right _ (List.mem_append_left _ (List.mem_of_getElem? (i := 149) (by rfl)) : Cond.fieldLink "StairPlans" 47 "StairPlans" "gapFraction" "LStairPlans$Fraction;" ∈ tables_1), by rfl⟩
theorem gw_106 : Cond.fieldLink "StairPlans" 52 "StairPlans" "total" "J" ∈ gT := List.mem_filter.mpr ⟨List.mem_append_right _ (List.mem_append_left _ (List.mem_of_getElem? (i := 150) (by rfl)) : Cond.fieldLink "StairPlans" 52 "StairPlans" "total" "J" ∈ tables_1), by rfl⟩
theorem gw_107 : Cond.fieldLink "StairPlans" 56 "StairPlans" "planned" "Z" ∈ gT := List.mem_filter.mpr ⟨List.mem_append_right _ (List.mem_append_left _ (List.mem_of_getElem? (i := 151) (by rfl)) : Cond.fieldLink "StairPlans" 56 "StairPlans" "planned" "Z" ∈ tables_1), by rfl⟩
theorem gw_108 : Cond.fieldLink "StairPlans" 60 "StairPlans" "gapFound" "Z" ∈ gT := List.mem_filter.mpr ⟨List.mem_append_right _ (List.mem_append_left _ (List.mem_of_getElem? (i := 152) (by rfl)) : Cond.fieldLink "StairPlans" 60 "StairPlans" "gapFound" "Z" ∈ tables_1), by rfl⟩
theorem gw_109 : Cond.laysFinal "StairPlans" "StairPlans" "text" "LStairPlans$RuleText;" ∈ gT := List.mem_filter.mpr ⟨List.mem_append_right _ (List.mem_append_left _ (List.mem_of_getElem? (i := 153) (by rfl)) : Cond.laysFinal "StairPlans" "StairPlans" "text" "LStairPlans$RuleText;" ∈ tables_1), by rfl⟩
theorem gw_110 : Cond.lays "StairPlans" "StairPlans" "ruleSet" "LStairPlans$RuleSet;" ∈ gT := List.mem_filter.mpr ⟨List.mem_append_right _ (List.mem_append_left _ (List.mem_of_getElem? (i := 155) (by rfl)) : Cond.lays "StairPlans" "StairPlans" "ruleSet" "LStairPlans$RuleSet;" ∈ tables_1), by rfl⟩
theorem gw_111 : Cond.lays "StairPlans" "StairPlans" "spareRuleSet" "LStairPlans$RuleSet;" ∈ gT := List.mem_filter.mpr ⟨List.mem_append_right _ (List.mem_append_left _ (List.mem_of_getElem? (i := 157) (by rfl)) : Cond.lays "StairPlans" "StairPlans" "spareRuleSet" "LStairPlans$RuleSet;" ∈ tables_1), by rfl⟩
theorem gw_112 : Cond.laysFinal "StairPlans" "StairPlans" "floorSet" "LStairPlans$FloorSet;" ∈ gT := List.mem_filter.mpr ⟨List.mem_append_right _ (List.mem_append_left _ (List.mem_of_getElem? (i := 159) (by rfl)) : Cond.laysFinal "StairPlans" "StairPlans" "floorSet" "LStairPlans$FloorSet;" ∈ tables_1), by rfl⟩
theorem gw_113 : Cond.laysFinal "StairPlans" "StairPlans" "stair" "LStairPlans$Stair;" ∈ gT := List.mem_filter.mpr ⟨List.mem_append_right _ (List.mem_append_left _ (List.mem_of_getElem? (i := 161) (by rfl)) : Cond.laysFinal "StairPlans" "StairPlans" "stair" "LStairPlans$Stair;" ∈ tables_1), by rfl⟩
theorem gw_114 : Cond.laysFinal "StairPlans" "StairPlans" "riseFraction" "LStairPlans$Fraction;" ∈ gT := List.mem_filter.mpr ⟨List.mem_append_right _ (List.mem_append_left _ (List.mem_of_getElem? (i := 163) (by rfl)) : Cond.laysFinal "StairPlans" "StairPlans" "riseFraction" "LStairPlans$Fraction;" ∈ tables_1), by rfl⟩
theorem gw_115 : Cond.laysFinal "StairPlans" "StairPlans" "gapFraction" "LStairPlans$Fraction;" ∈ gT := List.mem_filter.mpr ⟨List.mem_append_right _ (List.mem_append_left _ (List.mem_of_getElem? (i := 165) (by rfl)) : Cond.laysFinal "StairPlans" "StairPlans" "gapFraction" "LStairPlans$Fraction;" ∈ tables_1), by rfl⟩
theorem gw_116 : Cond.lays "StairPlans" "StairPlans" "total" "J" ∈ gT := List.mem_filter.mpr ⟨List.mem_append_right _ (List.mem_append_left _ (List.mem_of_getElem? (i := 167) (by rfl)) : Cond.lays "StairPlans" "StairPlans" "total" "J" ∈ tables_1), by rfl⟩
theorem gw_117 : Cond.lays "StairPlans" "StairPlans" "planned" "Z" ∈ gT := List.mem_filter.mpr ⟨List.mem_append_right _ (List.mem_append_left _ (List.mem_of_getElem? (i := 169) (by rfl)) : Cond.lays "StairPlans" "StairPlans" "planned" "Z" ∈ tables_1), by rfl⟩
theorem gw_118 : Cond.lays "StairPlans" "StairPlans" "gapFound" "Z" ∈ gT := List.mem_filter.mpr ⟨List.mem_append_right _ (List.mem_append_left _ (List.mem_of_getElem? (i := 171) (by rfl)) : Cond.lays "StairPlans" "StairPlans" "gapFound" "Z" ∈ tables_1), by rfl⟩
theorem gw_119 : Cond.methodLink "StairPlansLaw" 79 ⟨"StairPlans", "unit", "(I)Z"⟩ ∈ gT := List.mem_filter.mpr ⟨List.mem_append_right _ (List.mem_append_left _ (List.mem_of_getElem? (i := 174) (by rfl)) : Cond.methodLink "StairPlansLaw" 79 ⟨"StairPlans", "unit", "(I)Z"⟩ ∈ tables_1), by rfl⟩
theorem gw_120 : Cond.instanceMethod ⟨"StairPlans", "unit", "(I)Z"⟩ ∈ gT := List.mem_filter.mpr ⟨List.mem_append_right _ (List.mem_append_left _ (List.mem_of_getElem? (i := 175) (by rfl)) : Cond.instanceMethod ⟨"StairPlans", "unit", "(I)Z"⟩ ∈ tables_1), by rfl⟩
theorem gw_121 : Cond.selects "StairPlans" ⟨"StairPlans", "unit", "(I)Z"⟩ ⟨"StairPlans", "unit", "(I)Z"⟩ ∈ gT := List.mem_filter.mpr ⟨List.mem_append_right _ (List.mem_append_left _ (List.mem_of_getElem? (i := 176) (by rfl)) : Cond.selects "StairPlans" ⟨"StairPlans", "unit", "(I)Z"⟩ ⟨"StairPlans", "unit", "(I)Z"⟩ ∈ tables_1), by rfl⟩
theorem gw_122 : Cond.code ⟨"StairPlans", "unit", "(I)Z"⟩ prog_1_method_3_code 2 (some .boolean) ∈ gT := List.mem_filter.mpr ⟨List.mem_append_right _ (List.mem_append_left _ (List.mem_of_getElem? (i := 177) (by rfl)) : Cond.code ⟨"StairPlans", "unit", "(I)Z"⟩ prog_1_method_3_code 2 (some .boolean) ∈ tables_1), by rfl⟩
theorem gw_123 : Cond.methodLink "StairPlans" 75 ⟨"StairPlans$RuleText", "append", "(I)Z"⟩ ∈ gT := List.mem_filter.mpr ⟨List.mem_append_right _ (List.mem_append_left _ (List.mem_of_getElem? (i := 178) (by rfl)) : Cond.methodLink "StairPlans" 75 ⟨"StairPlans$RuleText", "append", "(I)Z"⟩ ∈ tables_1), by rfl⟩
theorem gw_124 : Cond.instanceMethod ⟨"StairPlans$RuleText", "append", "(I)Z"⟩ ∈ gT := List.mem_filter.mpr ⟨List.mem_append_right _ (List.mem_append_left _ (List.mem_of_getElem? (i := 179) (by rfl)) : Cond.instanceMethod ⟨"StairPlans$RuleText", "append", "(I)Z"⟩ ∈ tables_1), by rfl⟩
theorem gw_125 : Cond.selects "StairPlans$RuleText" ⟨"StairPlans$RuleText", "append", "(I)Z"⟩ ⟨"StairPlans$RuleText", "append", "(I)Z"⟩ ∈ gT := List.mem_filter.mpr ⟨List.mem_append_right _ (List.mem_append_left _ (List.mem_of_getElem? (i := 180) (by rfl)) : Cond.selects "StairPlans$RuleText" ⟨"StairPlans$RuleText", "append", "(I)Z"⟩ ⟨"StairPlans$RuleText", "append", "(I)Z"⟩ ∈ tables_1), by rfl⟩
theorem gw_126 : Cond.code ⟨"StairPlans$RuleText", "append", "(I)Z"⟩ prog_5_method_2_code 2 (some .boolean) ∈ gT := List.mem_filter.mpr ⟨List.mem_append_right _ (List.mem_append_left _ (List.mem_of_getElem? (i := 181) (by rfl)) : Cond.code ⟨"StairPlans$RuleText", "append", "(I)Z"⟩ prog_5_method_2_code 2 (some .boolean) ∈ tables_1), by rfl⟩
theorem gw_127 : Cond.methodLink "StairPlansLaw" 83 ⟨"StairPlans", "rules", "()I"⟩ ∈ gT := List.mem_filter.mpr ⟨List.mem_append_right _ (List.mem_append_left _ (List.mem_of_getElem? (i := 182) (by rfl)) : Cond.methodLink "StairPlansLaw" 83 ⟨"StairPlans", "rules", "()I"⟩ ∈ tables_1), by rfl⟩
theorem gw_128 : Cond.instanceMethod ⟨"StairPlans", "rules", "()I"⟩ ∈ gT := List.mem_filter.mpr ⟨List.mem_append_right _ (List.mem_append_left _ (List.mem_of_getElem? (i := 183) (by rfl)) : Cond.instanceMethod ⟨"StairPlans", "rules", "()I"⟩ ∈ tables_1), by rfl⟩
theorem gw_129 : Cond.selects "StairPlans" ⟨"StairPlans", "rules", "()I"⟩ ⟨"StairPlans", "rules", "()I"⟩ ∈ gT := List.mem_filter.mpr ⟨List.mem_append_right _ (List.mem_append_left _ (List.mem_of_getElem? (i := 184) (by rfl)) : Cond.selects "StairPlans" ⟨"StairPlans", "rules", "()I"⟩ ⟨"StairPlans", "rules", "()I"⟩ ∈ tables_1), by rfl⟩
theorem gw_130 : Cond.code ⟨"StairPlans", "rules", "()I"⟩ prog_1_method_4_code 4 (some .int) ∈ gT := List.mem_filter.mpr ⟨List.mem_append_right _ (List.mem_append_left _ (List.mem_of_getElem? (i := 185) (by rfl)) : Cond.code ⟨"StairPlans", "rules", "()I"⟩ prog_1_method_4_code 4 (some .int) ∈ tables_1), by rfl⟩
theorem gw_131 : Cond.methodLink "StairPlans" 79 ⟨"StairPlans$RuleText", "readInto", "(LStairPlans$RuleSet;)Z"⟩ ∈ gT := List.mem_filter.mpr ⟨List.mem_append_right _ (List.mem_append_left _ (List.mem_of_getElem? (i := 186) (by rfl)) : Cond.methodLink "StairPlans" 79 ⟨"StairPlans$RuleText", "readInto", "(LStairPlans$RuleSet;)Z"⟩ ∈ tables_1), by rfl⟩
theorem gw_132 : Cond.instanceMethod ⟨"StairPlans$RuleText", "readInto", "(LStairPlans$RuleSet;)Z"⟩ ∈ gT := List.mem_filter.mpr ⟨List.mem_append_right _ (List.mem_append_left _ (List.mem_of_getElem? (i := 187) (by rfl)) : Cond.instanceMethod ⟨"StairPlans$RuleText", "readInto", "(LStairPlans$RuleSet;)Z"⟩ ∈ tables_1), by rfl⟩
theorem gw_133 : Cond.selects "StairPlans$RuleText" ⟨"StairPlans$RuleText", "readInto", "(LStairPlans$RuleSet;)Z"⟩ ⟨"StairPlans$RuleText", "readInto", "(LStairPlans$RuleSet;)Z"⟩ ∈ gT := List.mem_filter.mpr ⟨List.mem_append_right _ (List.mem_append_left _ (List.mem_of_getElem? (i := 188) (by rfl)) : Cond.selects "StairPlans$RuleText" ⟨"StairPlans$RuleText", "readInto", "(LStairPlans$RuleSet;)Z"⟩ ⟨"StairPlans$RuleText", "readInto", "(LStairPlans$RuleSet;)Z"⟩ ∈ tables_1), by rfl⟩
theorem gw_134 : Cond.code ⟨"StairPlans$RuleText", "readInto", "(LStairPlans$RuleSet;)Z"⟩ prog_5_method_4_code 3 (some .boolean) ∈ gT := List.mem_filter.mpr ⟨List.mem_append_right _ (List.mem_append_left _ (List.mem_of_getElem? (i := 189) (by rfl)) : Cond.code ⟨"StairPlans$RuleText", "readInto", "(LStairPlans$RuleSet;)Z"⟩ prog_5_method_4_code 3 (some .boolean) ∈ tables_1), by rfl⟩
theorem gw_135 : Cond.methodLink "StairPlans$RuleText" 22 ⟨"StairPlans$RuleSet", "clear", "()V"⟩ ∈ gT := List.mem_filter.mpr ⟨List.mem_append_right _ (List.mem_append_left _ (List.mem_of_getElem? (i := 190) (by rfl)) : Cond.methodLink "StairPlans$RuleText" 22 ⟨"StairPlans$RuleSet", "clear", "()V"⟩ ∈ tables_1), by rfl⟩
theorem gw_136 : Cond.instanceMethod ⟨"StairPlans$RuleSet", "clear", "()V"⟩ ∈ gT := List.mem_filter.mpr ⟨List.mem_append_right _ (List.mem_append_left _ (List.mem_of_getElem? (i := 191) (by rfl)) : Cond.instanceMethod ⟨"StairPlans$RuleSet", "clear", "()V"⟩ ∈ tables_1), by rfl⟩
theorem gw_137 : Cond.selects "StairPlans$RuleSet" ⟨"StairPlans$RuleSet", "clear", "()V"⟩ ⟨"StairPlans$RuleSet", "clear", "()V"⟩ ∈ gT := List.mem_filter.mpr ⟨List.mem_append_right _ (List.mem_append_left _ (List.mem_of_getElem? (i := 192) (by rfl)) : Cond.selects "StairPlans$RuleSet" ⟨"StairPlans$RuleSet", "clear", "()V"⟩ ⟨"StairPlans$RuleSet", "clear", "()V"⟩ ∈ tables_1), by rfl⟩
theorem gw_138 : Cond.code ⟨"StairPlans$RuleSet", "clear", "()V"⟩ prog_4_method_2_code 2 none ∈ gT := List.mem_filter.mpr ⟨List.mem_append_right _ (List.mem_append_left _ (List.mem_of_getElem? (i := 193) (by rfl)) : Cond.code ⟨"StairPlans$RuleSet", "clear", "()V"⟩ prog_4_method_2_code 2 none ∈ tables_1), by rfl⟩
theorem gw_139 : Cond.methodLink "StairPlans$RuleText" 27 ⟨"StairPlans$RuleText", "readRule", "(LStairPlans$RuleSet;)Z"⟩ ∈ gT := List.mem_filter.mpr ⟨List.mem_append_right _ (List.mem_append_left _ (List.mem_of_getElem? (i := 194) (by rfl)) : Cond.methodLink "StairPlans$RuleText" 27 ⟨"StairPlans$RuleText", "readRule", "(LStairPlans$RuleSet;)Z"⟩ ∈ tables_1), by rfl⟩
theorem gw_140 : Cond.instanceMethod ⟨"StairPlans$RuleText", "readRule", "(LStairPlans$RuleSet;)Z"⟩ ∈ gT := List.mem_filter.mpr ⟨List.mem_append_right _ (List.mem_append_left _ (List.mem_of_getElem? (i := 196) (by rfl)) : Cond.instanceMethod ⟨"StairPlans$RuleText", "readRule", "(LStairPlans$RuleSet;)Z"⟩ ∈ tables_1), by rfl⟩
theorem gw_141 : Cond.code ⟨"StairPlans$RuleText", "readRule", "(LStairPlans$RuleSet;)Z"⟩ prog_5_method_5_code 4 (some .boolean) ∈ gT := List.mem_filter.mpr ⟨List.mem_append_right _ (List.mem_append_left _ (List.mem_of_getElem? (i := 197) (by rfl)) : Cond.code ⟨"StairPlans$RuleText", "readRule", "(LStairPlans$RuleSet;)Z"⟩ prog_5_method_5_code 4 (some .boolean) ∈ tables_1), by rfl⟩
theorem gw_142 : Cond.methodLink "StairPlans$RuleText" 35 ⟨"StairPlans$RuleText", "readSum", "(LStairPlans$RuleSet;)Z"⟩ ∈ gT := List.mem_filter.mpr ⟨List.mem_append_right _ (List.mem_append_left _ (List.mem_of_getElem? (i := 198) (by rfl)) : Cond.methodLink "StairPlans$RuleText" 35 ⟨"StairPlans$RuleText", "readSum", "(LStairPlans$RuleSet;)Z"⟩ ∈ tables_1), by rfl⟩
theorem gw_143 : Cond.instanceMethod ⟨"StairPlans$RuleText", "readSum", "(LStairPlans$RuleSet;)Z"⟩ ∈ gT := List.mem_filter.mpr ⟨List.mem_append_right _ (List.mem_append_left _ (List.mem_of_getElem? (i := 200) (by rfl)) : Cond.instanceMethod ⟨"StairPlans$RuleText", "readSum", "(LStairPlans$RuleSet;)Z"⟩ ∈ tables_1), by rfl⟩
theorem gw_144 : Cond.code ⟨"StairPlans$RuleText", "readSum", "(LStairPlans$RuleSet;)Z"⟩ prog_5_method_6_code 3 (some .boolean) ∈ gT := List.mem_filter.mpr ⟨List.mem_append_right _ (List.mem_append_left _ (List.mem_of_getElem? (i := 201) (by rfl)) : Cond.code ⟨"StairPlans$RuleText", "readSum", "(LStairPlans$RuleSet;)Z"⟩ prog_5_method_6_code 3 (some .boolean) ∈ tables_1), by rfl⟩
theorem gw_145 : Cond.methodLink "StairPlans$RuleText" 46 ⟨"StairPlans$RuleText", "readTerm", "(LStairPlans$RuleSet;)Z"⟩ ∈ gT := List.mem_filter.mpr ⟨List.mem_append_right _ (List.mem_append_left _ (List.mem_of_getElem? (i := 202) (by rfl)) : Cond.methodLink "StairPlans$RuleText" 46 ⟨"StairPlans$RuleText", "readTerm", "(LStairPlans$RuleSet;)Z"⟩ ∈ tables_1), by rfl⟩
theorem gw_146 : Cond.instanceMethod ⟨"StairPlans$RuleText", "readTerm", "(LStairPlans$RuleSet;)Z"⟩ ∈ gT := List.mem_filter.mpr ⟨List.mem_append_right _ (List.mem_append_left _ (List.mem_of_getElem? (i := 204) (by rfl)) : Cond.instanceMethod ⟨"StairPlans$RuleText", "readTerm", "(LStairPlans$RuleSet;)Z"⟩ ∈ tables_1), by rfl⟩
theorem gw_147 : Cond.code ⟨"StairPlans$RuleText", "readTerm", "(LStairPlans$RuleSet;)Z"⟩ prog_5_method_7_code 4 (some .boolean) ∈ gT := List.mem_filter.mpr ⟨List.mem_append_right _ (List.mem_append_left _ (List.mem_of_getElem? (i := 205) (by rfl)) : Cond.code ⟨"StairPlans$RuleText", "readTerm", "(LStairPlans$RuleSet;)Z"⟩ prog_5_method_7_code 4 (some .boolean) ∈ tables_1), by rfl⟩
theorem gw_148 : Cond.methodLink "StairPlans$RuleText" 38 ⟨"StairPlans$RuleText", "readNumber", "(I)I"⟩ ∈ gT := List.mem_filter.mpr ⟨List.mem_append_right _ (List.mem_append_left _ (List.mem_of_getElem? (i := 206) (by rfl)) : Cond.methodLink "StairPlans$RuleText" 38 ⟨"StairPlans$RuleText", "readNumber", "(I)I"⟩ ∈ tables_1), by rfl⟩
theorem gw_149 : Cond.instanceMethod ⟨"StairPlans$RuleText", "readNumber", "(I)I"⟩ ∈ gT := List.mem_filter.mpr ⟨List.mem_append_right _ (List.mem_append_left _ (List.mem_of_getElem? (i := 208) (by rfl)) : Cond.instanceMethod ⟨"StairPlans$RuleText", "readNumber", "(I)I"⟩ ∈ tables_1), by rfl⟩
theorem gw_150 : Cond.code ⟨"StairPlans$RuleText", "readNumber", "(I)I"⟩ prog_5_method_8_code 5 (some .int) ∈ gT := List.mem_filter.mpr ⟨List.mem_append_right _ (List.mem_append_left _ (List.mem_of_getElem? (i := 209) (by rfl)) : Cond.code ⟨"StairPlans$RuleText", "readNumber", "(I)I"⟩ prog_5_method_8_code 5 (some .int) ∈ tables_1), by rfl⟩
theorem gw_151 : Cond.methodLink "StairPlans$RuleText" 31 ⟨"StairPlans$RuleText", "next", "()C"⟩ ∈ gT := List.mem_filter.mpr ⟨List.mem_append_right _ (List.mem_append_left _ (List.mem_of_getElem? (i := 210) (by rfl)) : Cond.methodLink "StairPlans$RuleText" 31 ⟨"StairPlans$RuleText", "next", "()C"⟩ ∈ tables_1), by rfl⟩
theorem gw_152 : Cond.instanceMethod ⟨"StairPlans$RuleText", "next", "()C"⟩ ∈ gT := List.mem_filter.mpr ⟨List.mem_append_right _ (List.mem_append_left _ (List.mem_of_getElem? (i := 212) (by rfl)) : Cond.instanceMethod ⟨"StairPlans$RuleText", "next", "()C"⟩ ∈ tables_1), by rfl⟩
theorem gw_153 : Cond.code ⟨"StairPlans$RuleText", "next", "()C"⟩ prog_5_method_9_code 1 (some .char) ∈ gT := List.mem_filter.mpr ⟨List.mem_append_right _ (List.mem_append_left _ (List.mem_of_getElem? (i := 213) (by rfl)) : Cond.code ⟨"StairPlans$RuleText", "next", "()C"⟩ prog_5_method_9_code 1 (some .char) ∈ tables_1), by rfl⟩
theorem gw_154 : Cond.methodLink "StairPlans$RuleText" 51 ⟨"java/lang/String", "indexOf", "(I)I"⟩ ∈ gT := List.mem_filter.mpr ⟨List.mem_append_right _ (List.mem_append_left _ (List.mem_of_getElem? (i := 215) (by rfl)) : Cond.methodLink "StairPlans$RuleText" 51 ⟨"java/lang/String", "indexOf", "(I)I"⟩ ∈ tables_1), by rfl⟩
theorem gw_155 : Cond.instanceMethod ⟨"java/lang/String", "indexOf", "(I)I"⟩ ∈ gT := List.mem_filter.mpr ⟨List.mem_append_right _ (List.mem_append_left _ (List.mem_of_getElem? (i := 216) (by rfl)) : Cond.instanceMethod ⟨"java/lang/String", "indexOf", "(I)I"⟩ ∈ tables_1), by rfl⟩
theorem gw_156 : Cond.selects "java/lang/String" ⟨"java/lang/String", "indexOf", "(I)I"⟩ ⟨"java/lang/String", "indexOf", "(I)I"⟩ ∈ gT := List.mem_filter.mpr ⟨List.mem_append_right _ (List.mem_append_left _ (List.mem_of_getElem? (i := 217) (by rfl)) : Cond.selects "java/lang/String" ⟨"java/lang/String", "indexOf", "(I)I"⟩ ⟨"java/lang/String", "indexOf", "(I)I"⟩ ∈ tables_1), by rfl⟩
theorem gw_157 : Cond.code ⟨"java/lang/String", "indexOf", "(I)I"⟩ prog_16_method_79_code 2 (some .int) ∈ gT := List.mem_filter.mpr ⟨List.mem_append_right _ (List.mem_append_left _ (List.mem_of_getElem? (i := 218) (by rfl)) : Cond.code ⟨"java/lang/String", "indexOf", "(I)I"⟩ prog_16_method_79_code 2 (some .int) ∈ tables_1), by rfl⟩
theorem gw_158 : Cond.methodLink "java/lang/String" 633 ⟨"java/lang/String", "indexOf", "(II)I"⟩ ∈ gT := List.mem_filter.mpr ⟨List.mem_append_right _ (List.mem_append_left _ (List.mem_of_getElem? (i := 219) (by rfl)) : Cond.methodLink "java/lang/String" 633 ⟨"java/lang/String", "indexOf", "(II)I"⟩ ∈ tables_1), by rfl⟩
theorem gw_159 : Cond.instanceMethod ⟨"java/lang/String", "indexOf", "(II)I"⟩ ∈ gT := List.mem_filter.mpr ⟨List.mem_append_right _ (List.mem_append_left _ (List.mem_of_getElem? (i := 220) (by rfl)) : Cond.instanceMethod ⟨"java/lang/String", "indexOf", "(II)I"⟩ ∈ tables_1), by rfl⟩
theorem gw_160 : Cond.selects "java/lang/String" ⟨"java/lang/String", "indexOf", "(II)I"⟩ ⟨"java/lang/String", "indexOf", "(II)I"⟩ ∈ gT := List.mem_filter.mpr ⟨List.mem_append_right _ (List.mem_append_left _ (List.mem_of_getElem? (i := 221) (by rfl)) : Cond.selects "java/lang/String" ⟨"java/lang/String", "indexOf", "(II)I"⟩ ⟨"java/lang/String", "indexOf", "(II)I"⟩ ∈ tables_1), by rfl⟩
theorem gw_161 : Cond.code ⟨"java/lang/String", "indexOf", "(II)I"⟩ prog_16_method_80_code 3 (some .int) ∈ gT := List.mem_filter.mpr ⟨List.mem_append_right _ (List.mem_append_left _ (List.mem_of_getElem? (i := 222) (by rfl)) : Cond.code ⟨"java/lang/String", "indexOf", "(II)I"⟩ prog_16_method_80_code 3 (some .int) ∈ tables_1), by rfl⟩
theorem gw_162 : Cond.methodLink "java/lang/String" 492 ⟨"java/lang/String", "isLatin1", "()Z"⟩ ∈ gT := List.mem_filter.mpr ⟨List.mem_append_right _ (List.mem_append_left _ (List.mem_of_getElem? (i := 223) (by rfl)) : Cond.methodLink "java/lang/String" 492 ⟨"java/lang/String", "isLatin1", "()Z"⟩ ∈ tables_1), by rfl⟩
theorem gw_163 : Cond.instanceMethod ⟨"java/lang/String", "isLatin1", "()Z"⟩ ∈ gT := List.mem_filter.mpr ⟨List.mem_append_right _ (List.mem_append_left _ (List.mem_of_getElem? (i := 224) (by rfl)) : Cond.instanceMethod ⟨"java/lang/String", "isLatin1", "()Z"⟩ ∈ tables_1), by rfl⟩
theorem gw_164 : Cond.selects "java/lang/String" ⟨"java/lang/String", "isLatin1", "()Z"⟩ ⟨"java/lang/String", "isLatin1", "()Z"⟩ ∈ gT := List.mem_filter.mpr ⟨List.mem_append_right _ (List.mem_append_left _ (List.mem_of_getElem? (i := 225) (by rfl)) : Cond.selects "java/lang/String" ⟨"java/lang/String", "isLatin1", "()Z"⟩ ⟨"java/lang/String", "isLatin1", "()Z"⟩ ∈ tables_1), by rfl⟩
theorem gw_165 : Cond.code ⟨"java/lang/String", "isLatin1", "()Z"⟩ prog_16_method_154_code 1 (some .boolean) ∈ gT := List.mem_filter.mpr ⟨List.mem_append_right _ (List.mem_append_left _ (List.mem_of_getElem? (i := 226) (by rfl)) : Cond.code ⟨"java/lang/String", "isLatin1", "()Z"⟩ prog_16_method_154_code 1 (some .boolean) ∈ tables_1), by rfl⟩
theorem gw_166 : Cond.fieldLink "java/lang/String" 38 "java/lang/String" "COMPACT_STRINGS" "Z" ∈ gT := List.mem_filter.mpr ⟨List.mem_append_right _ (List.mem_append_left _ (List.mem_of_getElem? (i := 227) (by rfl)) : Cond.fieldLink "java/lang/String" 38 "java/lang/String" "COMPACT_STRINGS" "Z" ∈ tables_1), by rfl⟩
theorem gw_167 : Cond.methodLink "java/lang/String" 505 ⟨"java/lang/String", "length", "()I"⟩ ∈ gT := List.mem_filter.mpr ⟨List.mem_append_right _ (List.mem_append_left _ (List.mem_of_getElem? (i := 229) (by rfl)) : Cond.methodLink "java/lang/String" 505 ⟨"java/lang/String", "length", "()I"⟩ ∈ tables_1), by rfl⟩
theorem gw_168 : Cond.instanceMethod ⟨"java/lang/String", "length", "()I"⟩ ∈ gT := List.mem_filter.mpr ⟨List.mem_append_right _ (List.mem_append_left _ (List.mem_of_getElem? (i := 230) (by rfl)) : Cond.instanceMethod ⟨"java/lang/String", "length", "()I"⟩ ∈ tables_1), by rfl⟩
theorem gw_169 : Cond.selects "java/lang/String" ⟨"java/lang/String", "length", "()I"⟩ ⟨"java/lang/String", "length", "()I"⟩ ∈ gT := List.mem_filter.mpr ⟨List.mem_append_right _ (List.mem_append_left _ (List.mem_of_getElem? (i := 231) (by rfl)) : Cond.selects "java/lang/String" ⟨"java/lang/String", "length", "()I"⟩ ⟨"java/lang/String", "length", "()I"⟩ ∈ tables_1), by rfl⟩
theorem gw_170 : Cond.code ⟨"java/lang/String", "length", "()I"⟩ prog_16_method_54_code 1 (some .int) ∈ gT := List.mem_filter.mpr ⟨List.mem_append_right _ (List.mem_append_left _ (List.mem_of_getElem? (i := 232) (by rfl)) : Cond.code ⟨"java/lang/String", "length", "()I"⟩ prog_16_method_54_code 1 (some .int) ∈ tables_1), by rfl⟩
theorem gw_171 : Cond.methodLink "java/lang/String" 335 ⟨"java/lang/String", "coder", "()B"⟩ ∈ gT := List.mem_filter.mpr ⟨List.mem_append_right _ (List.mem_append_left _ (List.mem_of_getElem? (i := 233) (by rfl)) : Cond.methodLink "java/lang/String" 335 ⟨"java/lang/String", "coder", "()B"⟩ ∈ tables_1), by rfl⟩
theorem gw_172 : Cond.instanceMethod ⟨"java/lang/String", "coder", "()B"⟩ ∈ gT := List.mem_filter.mpr ⟨List.mem_append_right _ (List.mem_append_left _ (List.mem_of_getElem? (i := 234) (by rfl)) : Cond.instanceMethod ⟨"java/lang/String", "coder", "()B"⟩ ∈ tables_1), by rfl⟩
theorem gw_173 : Cond.selects "java/lang/String" ⟨"java/lang/String", "coder", "()B"⟩ ⟨"java/lang/String", "coder", "()B"⟩ ∈ gT := List.mem_filter.mpr ⟨List.mem_append_right _ (List.mem_append_left _ (List.mem_of_getElem? (i := 235) (by rfl)) : Cond.selects "java/lang/String" ⟨"java/lang/String", "coder", "()B"⟩ ⟨"java/lang/String", "coder", "()B"⟩ ∈ tables_1), by rfl⟩
theorem gw_174 : Cond.code ⟨"java/lang/String", "coder", "()B"⟩ prog_16_method_152_code 1 (some .byte) ∈ gT := List.mem_filter.mpr ⟨List.mem_append_right _ (List.mem_append_left _ (List.mem_of_getElem? (i := 236) (by rfl)) : Cond.code ⟨"java/lang/String", "coder", "()B"⟩ prog_16_method_152_code 1 (some .byte) ∈ tables_1), by rfl⟩
theorem gw_175 : Cond.methodLink "java/lang/String" 637 ⟨"java/lang/StringLatin1", "indexOf", "([BIII)I"⟩ ∈ gT := List.mem_filter.mpr ⟨List.mem_append_right _ (List.mem_append_left _ (List.mem_of_getElem? (i := 237) (by rfl)) : Cond.methodLink "java/lang/String" 637 ⟨"java/lang/StringLatin1", "indexOf", "([BIII)I"⟩ ∈ tables_1), by rfl⟩
theorem gw_176 : Cond.static ⟨"java/lang/StringLatin1", "indexOf", "([BIII)I"⟩ ∈ gT := List.mem_filter.mpr ⟨List.mem_append_right _ (List.mem_append_left _ (List.mem_of_getElem? (i := 238) (by rfl)) : Cond.static ⟨"java/lang/StringLatin1", "indexOf", "([BIII)I"⟩ ∈ tables_1), by rfl⟩
theorem gw_177 : Cond.code ⟨"java/lang/StringLatin1", "indexOf", "([BIII)I"⟩ prog_17_method_22_code 4 (some .int) ∈ gT := List.mem_filter.mpr ⟨List.mem_append_right _ (List.mem_append_left _ (List.mem_of_getElem? (i := 239) (by rfl)) : Cond.code ⟨"java/lang/StringLatin1", "indexOf", "([BIII)I"⟩ prog_17_method_22_code 4 (some .int) ∈ tables_1), by rfl⟩
theorem gw_178 : Cond.methodLink "java/lang/StringLatin1" 88 ⟨"java/lang/StringLatin1", "canEncode", "(I)Z"⟩ ∈ gT := List.mem_filter.mpr ⟨List.mem_append_right _ (List.mem_append_right _ (List.mem_append_left _ (List.mem_of_getElem? (i := 0) (by rfl))) : Cond.methodLink "java/lang/StringLatin1" 88 ⟨"java/lang/StringLatin1", "canEncode", "(I)Z"⟩ ∈ tables_1), by rfl⟩
theorem gw_179 : Cond.static ⟨"java/lang/StringLatin1", "canEncode", "(I)Z"⟩ ∈ gT := List.mem_filter.mpr ⟨List.mem_append_right _ (List.mem_append_right _ (List.mem_append_left _ (List.mem_of_getElem? (i := 1) (by rfl))) : Cond.static ⟨"java/lang/StringLatin1", "canEncode", "(I)Z"⟩ ∈ tables_1), by rfl⟩
theorem gw_180 : Cond.code ⟨"java/lang/StringLatin1", "canEncode", "(I)Z"⟩ prog_17_method_4_code 1 (some .boolean) ∈ gT := List.mem_filter.mpr ⟨List.mem_append_right _ (List.mem_append_right _ (List.mem_append_left _ (List.mem_of_getElem? (i := 2) (by rfl))) : Cond.code ⟨"java/lang/StringLatin1", "canEncode", "(I)Z"⟩ prog_17_method_4_code 1 (some .boolean) ∈ tables_1), by rfl⟩
theorem gw_181 : Cond.methodLink "java/lang/StringLatin1" 92 ⟨"java/lang/Math", "max", "(II)I"⟩ ∈ gT := List.mem_filter.mpr ⟨List.mem_append_right _ (List.mem_append_right _ (List.mem_append_left _ (List.mem_of_getElem? (i := 3) (by rfl))) : Cond.methodLink "java/lang/StringLatin1" 92 ⟨"java/lang/Math", "max", "(II)I"⟩ ∈ tables_1), by rfl⟩
theorem gw_182 : Cond.static ⟨"java/lang/Math", "max", "(II)I"⟩ ∈ gT := List.mem_filter.mpr ⟨List.mem_append_right _ (List.mem_append_right _ (List.mem_append_left _ (List.mem_of_getElem? (i := 4) (by rfl))) : Cond.static ⟨"java/lang/Math", "max", "(II)I"⟩ ∈ tables_1), by rfl⟩
theorem gw_183 : Cond.code ⟨"java/lang/Math", "max", "(II)I"⟩ prog_14_method_65_code 2 (some .int) ∈ gT := List.mem_filter.mpr ⟨List.mem_append_right _ (List.mem_append_right _ (List.mem_append_left _ (List.mem_of_getElem? (i := 5) (by rfl))) : Cond.code ⟨"java/lang/Math", "max", "(II)I"⟩ prog_14_method_65_code 2 (some .int) ∈ tables_1), by rfl⟩
theorem gw_184 : Cond.methodLink "java/lang/StringLatin1" 38 ⟨"java/lang/Math", "min", "(II)I"⟩ ∈ gT := List.mem_filter.mpr ⟨List.mem_append_right _ (List.mem_append_right _ (List.mem_append_left _ (List.mem_of_getElem? (i := 6) (by rfl))) : Cond.methodLink "java/lang/StringLatin1" 38 ⟨"java/lang/Math", "min", "(II)I"⟩ ∈ tables_1), by rfl⟩
theorem gw_185 : Cond.static ⟨"java/lang/Math", "min", "(II)I"⟩ ∈ gT := List.mem_filter.mpr ⟨List.mem_append_right _ (List.mem_append_right _ (List.mem_append_left _ (List.mem_of_getElem? (i := 7) (by rfl))) : Cond.static ⟨"java/lang/Math", "min", "(II)I"⟩ ∈ tables_1), by rfl⟩
theorem gw_186 : Cond.code ⟨"java/lang/Math", "min", "(II)I"⟩ prog_14_method_69_code 2 (some .int) ∈ gT := List.mem_filter.mpr ⟨List.mem_append_right _ (List.mem_append_right _ (List.mem_append_left _ (List.mem_of_getElem? (i := 8) (by rfl))) : Cond.code ⟨"java/lang/Math", "min", "(II)I"⟩ prog_14_method_69_code 2 (some .int) ∈ tables_1), by rfl⟩
theorem gw_187 : Cond.methodLink "java/lang/StringLatin1" 95 ⟨"java/lang/StringLatin1", "indexOfChar", "([BIII)I"⟩ ∈ gT := List.mem_filter.mpr ⟨List.mem_append_right _ (List.mem_append_right _ (List.mem_append_left _ (List.mem_of_getElem? (i := 9) (by rfl))) : Cond.methodLink "java/lang/StringLatin1" 95 ⟨"java/lang/StringLatin1", "indexOfChar", "([BIII)I"⟩ ∈ tables_1), by rfl⟩
theorem gw_188 : Cond.static ⟨"java/lang/StringLatin1", "indexOfChar", "([BIII)I"⟩ ∈ gT := List.mem_filter.mpr ⟨List.mem_append_right _ (List.mem_append_right _ (List.mem_append_left _ (List.mem_of_getElem? (i := 10) (by rfl))) : Cond.static ⟨"java/lang/StringLatin1", "indexOfChar", "([BIII)I"⟩ ∈ tables_1), by rfl⟩
theorem gw_189 : Cond.code ⟨"java/lang/StringLatin1", "indexOfChar", "([BIII)I"⟩ prog_17_method_23_code 6 (some .int) ∈ gT := List.mem_filter.mpr ⟨List.mem_append_right _ (List.mem_append_right _ (List.mem_append_left _ (List.mem_of_getElem? (i := 11) (by rfl))) : Cond.code ⟨"java/lang/StringLatin1", "indexOfChar", "([BIII)I"⟩ prog_17_method_23_code 6 (some .int) ∈ tables_1), by rfl⟩
theorem gw_190 : Cond.methodLink "java/lang/String" 640 ⟨"java/lang/StringUTF16", "indexOf", "([BIII)I"⟩ ∈ gT := List.mem_filter.mpr ⟨List.mem_append_right _ (List.mem_append_right _ (List.mem_append_left _ (List.mem_of_getElem? (i := 12) (by rfl))) : Cond.methodLink "java/lang/String" 640 ⟨"java/lang/StringUTF16", "indexOf", "([BIII)I"⟩ ∈ tables_1), by rfl⟩
theorem gw_191 : Cond.static ⟨"java/lang/StringUTF16", "indexOf", "([BIII)I"⟩ ∈ gT := List.mem_filter.mpr ⟨List.mem_append_right _ (List.mem_append_right _ (List.mem_append_left _ (List.mem_of_getElem? (i := 13) (by rfl))) : Cond.static ⟨"java/lang/StringUTF16", "indexOf", "([BIII)I"⟩ ∈ tables_1), by rfl⟩
theorem gw_192 : Cond.code ⟨"java/lang/StringUTF16", "indexOf", "([BIII)I"⟩ prog_18_method_40_code 4 (some .int) ∈ gT := List.mem_filter.mpr ⟨List.mem_append_right _ (List.mem_append_right _ (List.mem_append_left _ (List.mem_of_getElem? (i := 14) (by rfl))) : Cond.code ⟨"java/lang/StringUTF16", "indexOf", "([BIII)I"⟩ prog_18_method_40_code 4 (some .int) ∈ tables_1), by rfl⟩
theorem gw_193 : Cond.methodLink "java/lang/StringUTF16" 224 ⟨"java/lang/Math", "max", "(II)I"⟩ ∈ gT := List.mem_filter.mpr ⟨List.mem_append_right _ (List.mem_append_right _ (List.mem_append_left _ (List.mem_of_getElem? (i := 15) (by rfl))) : Cond.methodLink "java/lang/StringUTF16" 224 ⟨"java/lang/Math", "max", "(II)I"⟩ ∈ tables_1), by rfl⟩
theorem gw_194 : Cond.methodLink "java/lang/StringUTF16" 183 ⟨"java/lang/Math", "min", "(II)I"⟩ ∈ gT := List.mem_filter.mpr ⟨List.mem_append_right _ (List.mem_append_right _ (List.mem_append_left _ (List.mem_of_getElem? (i := 16) (by rfl))) : Cond.methodLink "java/lang/StringUTF16" 183 ⟨"java/lang/Math", "min", "(II)I"⟩ ∈ tables_1), by rfl⟩
theorem gw_195 : Cond.constant "java/lang/StringUTF16" 227 65536 ∈ gT := List.mem_filter.mpr ⟨List.mem_append_right _ (List.mem_append_right _ (List.mem_append_left _ (List.mem_of_getElem? (i := 17) (by rfl))) : Cond.constant "java/lang/StringUTF16" 227 65536 ∈ tables_1), by rfl⟩
theorem gw_196 : Cond.methodLink "java/lang/StringUTF16" 228 ⟨"java/lang/StringUTF16", "indexOfChar", "([BIII)I"⟩ ∈ gT := List.mem_filter.mpr ⟨List.mem_append_right _ (List.mem_append_right _ (List.mem_append_left _ (List.mem_of_getElem? (i := 18) (by rfl))) : Cond.methodLink "java/lang/StringUTF16" 228 ⟨"java/lang/StringUTF16", "indexOfChar", "([BIII)I"⟩ ∈ tables_1), by rfl⟩
theorem gw_197 : Cond.static ⟨"java/lang/StringUTF16", "indexOfChar", "([BIII)I"⟩ ∈ gT := List.mem_filter.mpr ⟨List.mem_append_right _ (List.mem_append_right _ (List.mem_append_left _ (List.mem_of_getElem? (i := 19) (by rfl))) : Cond.static ⟨"java/lang/StringUTF16", "indexOfChar", "([BIII)I"⟩ ∈ tables_1), by rfl⟩
theorem gw_198 : Cond.code ⟨"java/lang/StringUTF16", "indexOfChar", "([BIII)I"⟩ prog_18_method_47_code 4 (some .int) ∈ gT := List.mem_filter.mpr ⟨List.mem_append_right _ (List.mem_append_right _ (List.mem_append_left _ (List.mem_of_getElem? (i := 20) (by rfl))) : Cond.code ⟨"java/lang/StringUTF16", "indexOfChar", "([BIII)I"⟩ prog_18_method_47_code 4 (some .int) ∈ tables_1), by rfl⟩
theorem gw_199 : Cond.methodLink "java/lang/StringUTF16" 96 ⟨"java/lang/StringUTF16", "checkBoundsBeginEnd", "(II[B)V"⟩ ∈ gT := List.mem_filter.mpr ⟨List.mem_append_right _ (List.mem_append_right _ (List.mem_append_left _ (List.mem_of_getElem? (i := 21) (by rfl))) : Cond.methodLink "java/lang/StringUTF16" 96 ⟨"java/lang/StringUTF16", "checkBoundsBeginEnd", "(II[B)V"⟩ ∈ tables_1), by rfl⟩
theorem gw_200 : Cond.static ⟨"java/lang/StringUTF16", "checkBoundsBeginEnd", "(II[B)V"⟩ ∈ gT := List.mem_filter.mpr ⟨List.mem_append_right _ (List.mem_append_right _ (List.mem_append_left _ (List.mem_of_getElem? (i := 22) (by rfl))) : Cond.static ⟨"java/lang/StringUTF16", "checkBoundsBeginEnd", "(II[B)V"⟩ ∈ tables_1), by rfl⟩
theorem gw_201 : Cond.code ⟨"java/lang/StringUTF16", "checkBoundsBeginEnd", "(II[B)V"⟩ prog_18_method_93_code 3 none ∈ gT := List.mem_filter.mpr ⟨List.mem_append_right _ (List.mem_append_right _ (List.mem_append_left _ (List.mem_of_getElem? (i := 23) (by rfl))) : Cond.code ⟨"java/lang/StringUTF16", "checkBoundsBeginEnd", "(II[B)V"⟩ prog_18_method_93_code 3 none ∈ tables_1), by rfl⟩
theorem gw_202 : Cond.methodLink "java/lang/StringUTF16" 48 ⟨"java/lang/StringUTF16", "length", "([B)I"⟩ ∈ gT := List.mem_filter.mpr ⟨List.mem_append_right _ (List.mem_append_right _ (List.mem_append_left _ (List.mem_of_getElem? (i := 24) (by rfl))) : Cond.methodLink "java/lang/StringUTF16" 48 ⟨"java/lang/StringUTF16", "length", "([B)I"⟩ ∈ tables_1), by rfl⟩
theorem gw_203 : Cond.static ⟨"java/lang/StringUTF16", "length", "([B)I"⟩ ∈ gT := List.mem_filter.mpr ⟨List.mem_append_right _ (List.mem_append_right _ (List.mem_append_left _ (List.mem_of_getElem? (i := 25) (by rfl))) : Cond.static ⟨"java/lang/StringUTF16", "length", "([B)I"⟩ ∈ tables_1), by rfl⟩
theorem gw_204 : Cond.code ⟨"java/lang/StringUTF16", "length", "([B)I"⟩ prog_18_method_6_code 1 (some .int) ∈ gT := List.mem_filter.mpr ⟨List.mem_append_right _ (List.mem_append_right _ (List.mem_append_left _ (List.mem_of_getElem? (i := 26) (by rfl))) : Cond.code ⟨"java/lang/StringUTF16", "length", "([B)I"⟩ prog_18_method_6_code 1 (some .int) ∈ tables_1), by rfl⟩
theorem gw_205 : Cond.methodLink "java/lang/StringUTF16" 241 ⟨"java/lang/String", "checkBoundsBeginEnd", "(III)V"⟩ ∈ gT := List.mem_filter.mpr ⟨List.mem_append_right _ (List.mem_append_right _ (List.mem_append_left _ (List.mem_of_getElem? (i := 27) (by rfl))) : Cond.methodLink "java/lang/StringUTF16" 241 ⟨"java/lang/String", "checkBoundsBeginEnd", "(III)V"⟩ ∈ tables_1), by rfl⟩
theorem gw_206 : Cond.static ⟨"java/lang/String", "checkBoundsBeginEnd", "(III)V"⟩ ∈ gT := List.mem_filter.mpr ⟨List.mem_append_right _ (List.mem_append_right _ (List.mem_append_left _ (List.mem_of_getElem? (i := 28) (by rfl))) : Cond.static ⟨"java/lang/String", "checkBoundsBeginEnd", "(III)V"⟩ ∈ tables_1), by rfl⟩
theorem gw_207 : Cond.code ⟨"java/lang/String", "checkBoundsBeginEnd", "(III)V"⟩ prog_16_method_158_code 3 none ∈ gT := List.mem_filter.mpr ⟨List.mem_append_right _ (List.mem_append_right _ (List.mem_append_left _ (List.mem_of_getElem? (i := 29) (by rfl))) : Cond.code ⟨"java/lang/String", "checkBoundsBeginEnd", "(III)V"⟩ prog_16_method_158_code 3 none ∈ tables_1), by rfl⟩
theorem gw_208 : Cond.fieldLink "java/lang/String" 1053 "jdk/internal/util/Preconditions" "SIOOBE_FORMATTER" "Ljava/util/function/BiFunction;" ∈ gT := List.mem_filter.mpr ⟨List.mem_append_right _ (List.mem_append_right _ (List.mem_append_left _ (List.mem_of_getElem? (i := 30) (by rfl))) : Cond.fieldLink "java/lang/String" 1053 "jdk/internal/util/Preconditions" "SIOOBE_FORMATTER" "Ljava/util/function/BiFunction;" ∈ tables_1), by rfl⟩
theorem gw_209 : Cond.methodLink "java/lang/String" 1062 ⟨"jdk/internal/util/Preconditions", "checkFromToIndex", "(IIILjava/util/function/BiFunction;)I"⟩ ∈ gT := List.mem_filter.mpr ⟨List.mem_append_right _ (List.mem_append_right _ (List.mem_append_left _ (List.mem_of_getElem? (i := 32) (by rfl))) : Cond.methodLink "java/lang/String" 1062 ⟨"jdk/internal/util/Preconditions", "checkFromToIndex", "(IIILjava/util/function/BiFunction;)I"⟩ ∈ tables_1), by rfl⟩
theorem gw_210 : Cond.methodLink "java/lang/StringUTF16" 244 ⟨"java/lang/StringUTF16", "indexOfCharUnsafe", "([BIII)I"⟩ ∈ gT := List.mem_filter.mpr ⟨List.mem_append_right _ (List.mem_append_right _ (List.mem_append_left _ (List.mem_of_getElem? (i := 35) (by rfl))) : Cond.methodLink "java/lang/StringUTF16" 244 ⟨"java/lang/StringUTF16", "indexOfCharUnsafe", "([BIII)I"⟩ ∈ tables_1), by rfl⟩
theorem gw_211 : Cond.static ⟨"java/lang/StringUTF16", "indexOfCharUnsafe", "([BIII)I"⟩ ∈ gT := List.mem_filter.mpr ⟨List.mem_append_right _ (List.mem_append_right _ (List.mem_append_left _ (List.mem_of_getElem? (i := 36) (by rfl))) : Cond.static ⟨"java/lang/StringUTF16", "indexOfCharUnsafe", "([BIII)I"⟩ ∈ tables_1), by rfl⟩
theorem gw_212 : Cond.code ⟨"java/lang/StringUTF16", "indexOfCharUnsafe", "([BIII)I"⟩ prog_18_method_48_code 5 (some .int) ∈ gT := List.mem_filter.mpr ⟨List.mem_append_right _ (List.mem_append_right _ (List.mem_append_left _ (List.mem_of_getElem? (i := 37) (by rfl))) : Cond.code ⟨"java/lang/StringUTF16", "indexOfCharUnsafe", "([BIII)I"⟩ prog_18_method_48_code 5 (some .int) ∈ tables_1), by rfl⟩
theorem gw_213 : Cond.methodLink "java/lang/StringUTF16" 71 ⟨"java/lang/StringUTF16", "getChar", "([BI)C"⟩ ∈ gT := List.mem_filter.mpr ⟨List.mem_append_right _ (List.mem_append_right _ (List.mem_append_left _ (List.mem_of_getElem? (i := 38) (by rfl))) : Cond.methodLink "java/lang/StringUTF16" 71 ⟨"java/lang/StringUTF16", "getChar", "([BI)C"⟩ ∈ tables_1), by rfl⟩
theorem gw_214 : Cond.static ⟨"java/lang/StringUTF16", "getChar", "([BI)C"⟩ ∈ gT := List.mem_filter.mpr ⟨List.mem_append_right _ (List.mem_append_right _ (List.mem_append_left _ (List.mem_of_getElem? (i := 39) (by rfl))) : Cond.static ⟨"java/lang/StringUTF16", "getChar", "([BI)C"⟩ ∈ tables_1), by rfl⟩
theorem gw_215 : Cond.code ⟨"java/lang/StringUTF16", "getChar", "([BI)C"⟩ prog_18_method_5_code 2 (some .char) ∈ gT := List.mem_filter.mpr ⟨List.mem_append_right _ (List.mem_append_right _ (List.mem_append_left _ (List.mem_of_getElem? (i := 40) (by rfl))) : Cond.code ⟨"java/lang/StringUTF16", "getChar", "([BI)C"⟩ prog_18_method_5_code 2 (some .char) ∈ tables_1), by rfl⟩
theorem gw_216 : Cond.fieldLink "java/lang/StringUTF16" 44 "java/lang/StringUTF16" "$assertionsDisabled" "Z" ∈ gT := List.mem_filter.mpr ⟨List.mem_append_right _ (List.mem_append_right _ (List.mem_append_left _ (List.mem_of_getElem? (i := 41) (by rfl))) : Cond.fieldLink "java/lang/StringUTF16" 44 "java/lang/StringUTF16" "$assertionsDisabled" "Z" ∈ tables_1), by rfl⟩
theorem gw_217 : Cond.fieldLink "java/lang/StringUTF16" 59 "java/lang/StringUTF16" "HI_BYTE_SHIFT" "I" ∈ gT := List.mem_filter.mpr ⟨List.mem_append_right _ (List.mem_append_right _ (List.mem_append_left _ (List.mem_of_getElem? (i := 43) (by rfl))) : Cond.fieldLink "java/lang/StringUTF16" 59 "java/lang/StringUTF16" "HI_BYTE_SHIFT" "I" ∈ tables_1), by rfl⟩
theorem gw_218 : Cond.fieldLink "java/lang/StringUTF16" 63 "java/lang/StringUTF16" "LO_BYTE_SHIFT" "I" ∈ gT := List.mem_filter.mpr ⟨List.mem_append_right _ (List.mem_append_right _ (List.mem_append_left _ (List.mem_of_getElem? (i := 45) (by rfl))) : Cond.fieldLink "java/lang/StringUTF16" 63 "java/lang/StringUTF16" "LO_BYTE_SHIFT" "I" ∈ tables_1), by rfl⟩
theorem gw_219 : Cond.methodLink "java/lang/StringUTF16" 232 ⟨"java/lang/StringUTF16", "indexOfSupplementary", "([BIII)I"⟩ ∈ gT := List.mem_filter.mpr ⟨List.mem_append_right _ (List.mem_append_right _ (List.mem_append_left _ (List.mem_of_getElem? (i := 47) (by rfl))) : Cond.methodLink "java/lang/StringUTF16" 232 ⟨"java/lang/StringUTF16", "indexOfSupplementary", "([BIII)I"⟩ ∈ tables_1), by rfl⟩
theorem gw_220 : Cond.static ⟨"java/lang/StringUTF16", "indexOfSupplementary", "([BIII)I"⟩ ∈ gT := List.mem_filter.mpr ⟨List.mem_append_right _ (List.mem_append_right _ (List.mem_append_left _ (List.mem_of_getElem? (i := 48) (by rfl))) : Cond.static ⟨"java/lang/StringUTF16", "indexOfSupplementary", "([BIII)I"⟩ ∈ tables_1), by rfl⟩
theorem gw_221 : Cond.code ⟨"java/lang/StringUTF16", "indexOfSupplementary", "([BIII)I"⟩ prog_18_method_49_code 7 (some .int) ∈ gT := List.mem_filter.mpr ⟨List.mem_append_right _ (List.mem_append_right _ (List.mem_append_left _ (List.mem_of_getElem? (i := 49) (by rfl))) : Cond.code ⟨"java/lang/StringUTF16", "indexOfSupplementary", "([BIII)I"⟩ prog_18_method_49_code 7 (some .int) ∈ tables_1), by rfl⟩
theorem gw_222 : Cond.methodLink "java/lang/StringUTF16" 164 ⟨"java/lang/Character", "isValidCodePoint", "(I)Z"⟩ ∈ gT := List.mem_filter.mpr ⟨List.mem_append_right _ (List.mem_append_right _ (List.mem_append_left _ (List.mem_of_getElem? (i := 50) (by rfl))) : Cond.methodLink "java/lang/StringUTF16" 164 ⟨"java/lang/Character", "isValidCodePoint", "(I)Z"⟩ ∈ tables_1), by rfl⟩
theorem gw_223 : Cond.methodLink "java/lang/StringUTF16" 157 ⟨"java/lang/Character", "highSurrogate", "(I)C"⟩ ∈ gT := List.mem_filter.mpr ⟨List.mem_append_right _ (List.mem_append_right _ (List.mem_append_left _ (List.mem_of_getElem? (i := 53) (by rfl))) : Cond.methodLink "java/lang/StringUTF16" 157 ⟨"java/lang/Character", "highSurrogate", "(I)C"⟩ ∈ tables_1), by rfl⟩
theorem gw_224 : Cond.methodLink "java/lang/StringUTF16" 161 ⟨"java/lang/Character", "lowSurrogate", "(I)C"⟩ ∈ gT := List.mem_filter.mpr ⟨List.mem_append_right _ (List.mem_append_right _ (List.mem_append_left _ (List.mem_of_getElem? (i := 57) (by rfl))) : Cond.methodLink "java/lang/StringUTF16" 161 ⟨"java/lang/Character", "lowSurrogate", "(I)C"⟩ ∈ tables_1), by rfl⟩
theorem gw_225 : Cond.methodLink "StairPlans$RuleText" 56 ⟨"StairPlans$RuleSet", "addTerm", "(II)V"⟩ ∈ gT := List.mem_filter.mpr ⟨List.mem_append_right _ (List.mem_append_right _ (List.mem_append_left _ (List.mem_of_getElem? (i := 61) (by rfl))) : Cond.methodLink "StairPlans$RuleText" 56 ⟨"StairPlans$RuleSet", "addTerm", "(II)V"⟩ ∈ tables_1), by rfl⟩
theorem gw_226 : Cond.instanceMethod ⟨"StairPlans$RuleSet", "addTerm", "(II)V"⟩ ∈ gT := List.mem_filter.mpr ⟨List.mem_append_right _ (List.mem_append_right _ (List.mem_append_left _ (List.mem_of_getElem? (i := 62) (by rfl))) : Cond.instanceMethod ⟨"StairPlans$RuleSet", "addTerm", "(II)V"⟩ ∈ tables_1), by rfl⟩
theorem gw_227 : Cond.selects "StairPlans$RuleSet" ⟨"StairPlans$RuleSet", "addTerm", "(II)V"⟩ ⟨"StairPlans$RuleSet", "addTerm", "(II)V"⟩ ∈ gT := List.mem_filter.mpr ⟨List.mem_append_right _ (List.mem_append_right _ (List.mem_append_left _ (List.mem_of_getElem? (i := 63) (by rfl))) : Cond.selects "StairPlans$RuleSet" ⟨"StairPlans$RuleSet", "addTerm", "(II)V"⟩ ⟨"StairPlans$RuleSet", "addTerm", "(II)V"⟩ ∈ tables_1), by rfl⟩
theorem gw_228 : Cond.code ⟨"StairPlans$RuleSet", "addTerm", "(II)V"⟩ prog_4_method_3_code 3 none ∈ gT := List.mem_filter.mpr ⟨List.mem_append_right _ (List.mem_append_right _ (List.mem_append_left _ (List.mem_of_getElem? (i := 64) (by rfl))) : Cond.code ⟨"StairPlans$RuleSet", "addTerm", "(II)V"⟩ prog_4_method_3_code 3 none ∈ tables_1), by rfl⟩
theorem gw_229 : Cond.methodLink "StairPlans$RuleText" 42 ⟨"StairPlans$RuleSet", "close", "(CI)V"⟩ ∈ gT := List.mem_filter.mpr ⟨List.mem_append_right _ (List.mem_append_right _ (List.mem_append_left _ (List.mem_of_getElem? (i := 65) (by rfl))) : Cond.methodLink "StairPlans$RuleText" 42 ⟨"StairPlans$RuleSet", "close", "(CI)V"⟩ ∈ tables_1), by rfl⟩
theorem gw_230 : Cond.instanceMethod ⟨"StairPlans$RuleSet", "close", "(CI)V"⟩ ∈ gT := List.mem_filter.mpr ⟨List.mem_append_right _ (List.mem_append_right _ (List.mem_append_left _ (List.mem_of_getElem? (i := 66) (by rfl))) : Cond.instanceMethod ⟨"StairPlans$RuleSet", "close", "(CI)V"⟩ ∈ tables_1), by rfl⟩
theorem gw_231 : Cond.selects "StairPlans$RuleSet" ⟨"StairPlans$RuleSet", "close", "(CI)V"⟩ ⟨"StairPlans$RuleSet", "close", "(CI)V"⟩ ∈ gT := List.mem_filter.mpr ⟨List.mem_append_right _ (List.mem_append_right _ (List.mem_append_left _ (List.mem_of_getElem? (i := 67) (by rfl))) : Cond.selects "StairPlans$RuleSet" ⟨"StairPlans$RuleSet", "close", "(CI)V"⟩ ⟨"StairPlans$RuleSet", "close", "(CI)V"⟩ ∈ tables_1), by rfl⟩
theorem gw_232 : Cond.code ⟨"StairPlans$RuleSet", "close", "(CI)V"⟩ prog_4_method_4_code 3 none ∈ gT := List.mem_filter.mpr ⟨List.mem_append_right _ (List.mem_append_right _ (List.mem_append_left _ (List.mem_of_getElem? (i := 68) (by rfl))) : Cond.code ⟨"StairPlans$RuleSet", "close", "(CI)V"⟩ prog_4_method_4_code 3 none ∈ tables_1), by rfl⟩
theorem gw_233 : Cond.methodLink "StairPlans" 87 ⟨"StairPlans$RuleText", "clear", "()V"⟩ ∈ gT := List.mem_filter.mpr ⟨List.mem_append_right _ (List.mem_append_right _ (List.mem_append_left _ (List.mem_of_getElem? (i := 69) (by rfl))) : Cond.methodLink "StairPlans" 87 ⟨"StairPlans$RuleText", "clear", "()V"⟩ ∈ tables_1), by rfl⟩
theorem gw_234 : Cond.instanceMethod ⟨"StairPlans$RuleText", "clear", "()V"⟩ ∈ gT := List.mem_filter.mpr ⟨List.mem_append_right _ (List.mem_append_right _ (List.mem_append_left _ (List.mem_of_getElem? (i := 70) (by rfl))) : Cond.instanceMethod ⟨"StairPlans$RuleText", "clear", "()V"⟩ ∈ tables_1), by rfl⟩
theorem gw_235 : Cond.selects "StairPlans$RuleText" ⟨"StairPlans$RuleText", "clear", "()V"⟩ ⟨"StairPlans$RuleText", "clear", "()V"⟩ ∈ gT := List.mem_filter.mpr ⟨List.mem_append_right _ (List.mem_append_right _ (List.mem_append_left _ (List.mem_of_getElem? (i := 71) (by rfl))) : Cond.selects "StairPlans$RuleText" ⟨"StairPlans$RuleText", "clear", "()V"⟩ ⟨"StairPlans$RuleText", "clear", "()V"⟩ ∈ tables_1), by rfl⟩
theorem gw_236 : Cond.code ⟨"StairPlans$RuleText", "clear", "()V"⟩ prog_5_method_3_code 1 none ∈ gT := List.mem_filter.mpr ⟨List.mem_append_right _ (List.mem_append_right _ (List.mem_append_left _ (List.mem_of_getElem? (i := 72) (by rfl))) : Cond.code ⟨"StairPlans$RuleText", "clear", "()V"⟩ prog_5_method_3_code 1 none ∈ tables_1), by rfl⟩
theorem gw_237 : Cond.methodLink "StairPlans" 72 ⟨"StairPlans", "forgetPlan", "()V"⟩ ∈ gT := List.mem_filter.mpr ⟨List.mem_append_right _ (List.mem_append_right _ (List.mem_append_left _ (List.mem_of_getElem? (i := 73) (by rfl))) : Cond.methodLink "StairPlans" 72 ⟨"StairPlans", "forgetPlan", "()V"⟩ ∈ tables_1), by rfl⟩
theorem gw_238 : Cond.instanceMethod ⟨"StairPlans", "forgetPlan", "()V"⟩ ∈ gT := List.mem_filter.mpr ⟨List.mem_append_right _ (List.mem_append_right _ (List.mem_append_left _ (List.mem_of_getElem? (i := 75) (by rfl))) : Cond.instanceMethod ⟨"StairPlans", "forgetPlan", "()V"⟩ ∈ tables_1), by rfl⟩
theorem gw_239 : Cond.code ⟨"StairPlans", "forgetPlan", "()V"⟩ prog_1_method_17_code 1 none ∈ gT := List.mem_filter.mpr ⟨List.mem_append_right _ (List.mem_append_right _ (List.mem_append_left _ (List.mem_of_getElem? (i := 76) (by rfl))) : Cond.code ⟨"StairPlans", "forgetPlan", "()V"⟩ prog_1_method_17_code 1 none ∈ tables_1), by rfl⟩
theorem gw_240 : Cond.arrayClass .byte ∈ gT := List.mem_filter.mpr ⟨List.mem_append_right _ (List.mem_append_right _ (List.mem_append_left _ (List.mem_of_getElem? (i := 77) (by rfl))) : Cond.arrayClass .byte ∈ tables_1), by rfl⟩
theorem gw_241 : Cond.methodLink "StairPlansLaw" 69 ⟨"StairPlansLaw", "heights", "(LStairPlans;J[J)I"⟩ ∈ gT := List.mem_filter.mpr ⟨List.mem_append_right _ (List.mem_append_right _ (List.mem_append_left _ (List.mem_of_getElem? (i := 78) (by rfl))) : Cond.methodLink "StairPlansLaw" 69 ⟨"StairPlansLaw", "heights", "(LStairPlans;J[J)I"⟩ ∈ tables_1), by rfl⟩
theorem gw_242 : Cond.static ⟨"StairPlansLaw", "heights", "(LStairPlans;J[J)I"⟩ ∈ gT := List.mem_filter.mpr ⟨List.mem_append_right _ (List.mem_append_right _ (List.mem_append_left _ (List.mem_of_getElem? (i := 79) (by rfl))) : Cond.static ⟨"StairPlansLaw", "heights", "(LStairPlans;J[J)I"⟩ ∈ tables_1), by rfl⟩
theorem gw_243 : Cond.codeWith ⟨"StairPlansLaw", "heights", "(LStairPlans;J[J)I"⟩ method_3_code 5 (some .int) [(0, 16, 19, 13)] ∈ gT := List.mem_filter.mpr ⟨List.mem_append_right _ (List.mem_append_right _ (List.mem_append_left _ (List.mem_of_getElem? (i := 80) (by rfl))) : Cond.codeWith ⟨"StairPlansLaw", "heights", "(LStairPlans;J[J)I"⟩ method_3_code 5 (some .int) [(0, 16, 19, 13)] ∈ tables_1), by rfl⟩
theorem gw_244 : Cond.classLink "StairPlansLaw" 13 "java/lang/IllegalArgumentException" ∈ gT := List.mem_filter.mpr ⟨List.mem_append_right _ (List.mem_append_right _ (List.mem_append_left _ (List.mem_of_getElem? (i := 81) (by rfl))) : Cond.classLink "StairPlansLaw" 13 "java/lang/IllegalArgumentException" ∈ tables_1), by rfl⟩
theorem gw_245 : Cond.methodLink "StairPlansLaw" 7 ⟨"StairPlans", "heights", "(J)Z"⟩ ∈ gT := List.mem_filter.mpr ⟨List.mem_append_right _ (List.mem_append_right _ (List.mem_append_left _ (List.mem_of_getElem? (i := 82) (by rfl))) : Cond.methodLink "StairPlansLaw" 7 ⟨"StairPlans", "heights", "(J)Z"⟩ ∈ tables_1), by rfl⟩
theorem gw_246 : Cond.instanceMethod ⟨"StairPlans", "heights", "(J)Z"⟩ ∈ gT := List.mem_filter.mpr ⟨List.mem_append_right _ (List.mem_append_right _ (List.mem_append_left _ (List.mem_of_getElem? (i := 83) (by rfl))) : Cond.instanceMethod ⟨"StairPlans", "heights", "(J)Z"⟩ ∈ tables_1), by rfl⟩
theorem gw_247 : Cond.selects "StairPlans" ⟨"StairPlans", "heights", "(J)Z"⟩ ⟨"StairPlans", "heights", "(J)Z"⟩ ∈ gT := List.mem_filter.mpr ⟨List.mem_append_right _ (List.mem_append_right _ (List.mem_append_left _ (List.mem_of_getElem? (i := 84) (by rfl))) : Cond.selects "StairPlans" ⟨"StairPlans", "heights", "(J)Z"⟩ ⟨"StairPlans", "heights", "(J)Z"⟩ ∈ tables_1), by rfl⟩
theorem gw_248 : Cond.code ⟨"StairPlans", "heights", "(J)Z"⟩ prog_1_method_2_code 3 (some .boolean) ∈ gT := List.mem_filter.mpr ⟨List.mem_append_right _ (List.mem_append_right _ (List.mem_append_left _ (List.mem_of_getElem? (i := 85) (by rfl))) : Cond.code ⟨"StairPlans", "heights", "(J)Z"⟩ prog_1_method_2_code 3 (some .boolean) ∈ tables_1), by rfl⟩
theorem gw_249 : Cond.constantLong "StairPlans" 63 100000 ∈ gT := List.mem_filter.mpr ⟨List.mem_append_right _ (List.mem_append_right _ (List.mem_append_left _ (List.mem_of_getElem? (i := 86) (by rfl))) : Cond.constantLong "StairPlans" 63 100000 ∈ tables_1), by rfl⟩
theorem gw_250 : Cond.classLink "StairPlans" 65 "java/lang/IllegalArgumentException" ∈ gT := List.mem_filter.mpr ⟨List.mem_append_right _ (List.mem_append_right _ (List.mem_append_left _ (List.mem_of_getElem? (i := 87) (by rfl))) : Cond.classLink "StairPlans" 65 "java/lang/IllegalArgumentException" ∈ tables_1), by rfl⟩
theorem gw_251 : Cond.instantiable "java/lang/IllegalArgumentException" 6 ∈ gT := List.mem_filter.mpr ⟨List.mem_append_right _ (List.mem_append_right _ (List.mem_append_left _ (List.mem_of_getElem? (i := 88) (by rfl))) : Cond.instantiable "java/lang/IllegalArgumentException" 6 ∈ tables_1), by rfl⟩
theorem gw_252 : Cond.selects "java/lang/IllegalArgumentException" ⟨"java/lang/Throwable", "fillInStackTrace", "(I)Ljava/lang/Throwable;"⟩ ⟨"java/lang/Throwable", "fillInStackTrace", "(I)Ljava/lang/Throwable;"⟩ ∈ gT := List.mem_filter.mpr ⟨List.mem_append_right _ (List.mem_append_right _ (List.mem_append_left _ (List.mem_of_getElem? (i := 96) (by rfl))) : Cond.selects "java/lang/IllegalArgumentException" ⟨"java/lang/Throwable", "fillInStackTrace", "(I)Ljava/lang/Throwable;"⟩ ⟨"java/lang/Throwable", "fillInStackTrace", "(I)Ljava/lang/Throwable;"⟩ ∈ tables_1), by rfl⟩
theorem gw_253 : Cond.selects "java/lang/IllegalArgumentException" ⟨"java/lang/Throwable", "fillInStackTrace", "()Ljava/lang/Throwable;"⟩ ⟨"java/lang/Throwable", "fillInStackTrace", "()Ljava/lang/Throwable;"⟩ ∈ gT := List.mem_filter.mpr ⟨List.mem_append_right _ (List.mem_append_right _ (List.mem_append_left _ (List.mem_of_getElem? (i := 97) (by rfl))) : Cond.selects "java/lang/IllegalArgumentException" ⟨"java/lang/Throwable", "fillInStackTrace", "()Ljava/lang/Throwable;"⟩ ⟨"java/lang/Throwable", "fillInStackTrace", "()Ljava/lang/Throwable;"⟩ ∈ tables_1), by rfl⟩
theorem gw_254 : Cond.lays "java/lang/IllegalArgumentException" "java/lang/Throwable" "cause" "Ljava/lang/Throwable;" ∈ gT := List.mem_filter.mpr ⟨List.mem_append_right _ (List.mem_append_right _ (List.mem_append_left _ (List.mem_of_getElem? (i := 98) (by rfl))) : Cond.lays "java/lang/IllegalArgumentException" "java/lang/Throwable" "cause" "Ljava/lang/Throwable;" ∈ tables_1), by rfl⟩
theorem gw_255 : Cond.lays "java/lang/Throwable" "java/lang/Throwable" "cause" "Ljava/lang/Throwable;" ∈ gT := List.mem_filter.mpr ⟨List.mem_append_right _ (List.mem_append_right _ (List.mem_append_left _ (List.mem_of_getElem? (i := 99) (by rfl))) : Cond.lays "java/lang/Throwable" "java/lang/Throwable" "cause" "Ljava/lang/Throwable;" ∈ tables_1), by rfl⟩
theorem gw_256 : Cond.lays "java/lang/IllegalArgumentException" "java/lang/Throwable" "stackTrace" "[Ljava/lang/StackTraceElement;" ∈ gT := List.mem_filter.mpr ⟨List.mem_append_right _ (List.mem_append_right _ (List.mem_append_left _ (List.mem_of_getElem? (i := 100) (by rfl))) : Cond.lays "java/lang/IllegalArgumentException" "java/lang/Throwable" "stackTrace" "[Ljava/lang/StackTraceElement;" ∈ tables_1), by rfl⟩
theorem gw_257 : Cond.lays "java/lang/Throwable" "java/lang/Throwable" "stackTrace" "[Ljava/lang/StackTraceElement;" ∈ gT := List.mem_filter.mpr ⟨List.mem_append_right _ (List.mem_append_right _ (List.mem_append_left _ (List.mem_of_getElem? (i := 101) (by rfl))) : Cond.lays "java/lang/Throwable" "java/lang/Throwable" "stackTrace" "[Ljava/lang/StackTraceElement;" ∈ tables_1), by rfl⟩
theorem gw_258 : Cond.lays "java/lang/IllegalArgumentException" "java/lang/Throwable" "suppressedExceptions" "Ljava/util/List;" ∈ gT := List.mem_filter.mpr ⟨List.mem_append_right _ (List.mem_append_right _ (List.mem_append_left _ (List.mem_of_getElem? (i := 102) (by rfl))) : Cond.lays "java/lang/IllegalArgumentException" "java/lang/Throwable" "suppressedExceptions" "Ljava/util/List;" ∈ tables_1), by rfl⟩
theorem gw_259 : Cond.lays "java/lang/Throwable" "java/lang/Throwable" "suppressedExceptions" "Ljava/util/List;" ∈ gT := List.mem_filter.mpr ⟨List.mem_append_right _ (List.mem_append_right _ (List.mem_append_left _ (List.mem_of_getElem? (i := 103) (by rfl))) : Cond.lays "java/lang/Throwable" "java/lang/Throwable" "suppressedExceptions" "Ljava/util/List;" ∈ tables_1), by rfl⟩
theorem gw_260 : Cond.lays "java/lang/IllegalArgumentException" "java/lang/Throwable" "detailMessage" "Ljava/lang/String;" ∈ gT := List.mem_filter.mpr ⟨List.mem_append_right _ (List.mem_append_right _ (List.mem_append_left _ (List.mem_of_getElem? (i := 104) (by rfl))) : Cond.lays "java/lang/IllegalArgumentException" "java/lang/Throwable" "detailMessage" "Ljava/lang/String;" ∈ tables_1), by rfl⟩
theorem gw_261 : Cond.lays "java/lang/Throwable" "java/lang/Throwable" "detailMessage" "Ljava/lang/String;" ∈ gT := List.mem_filter.mpr ⟨List.mem_append_right _ (List.mem_append_right _ (List.mem_append_left _ (List.mem_of_getElem? (i := 105) (by rfl))) : Cond.lays "java/lang/Throwable" "java/lang/Throwable" "detailMessage" "Ljava/lang/String;" ∈ tables_1), by rfl⟩
theorem gw_262 : Cond.lays "java/lang/IllegalArgumentException" "java/lang/Throwable" "backtrace" "Ljava/lang/Object;" ∈ gT := List.mem_filter.mpr ⟨List.mem_append_right _ (List.mem_append_right _ (List.mem_append_left _ (List.mem_of_getElem? (i := 106) (by rfl))) : Cond.lays "java/lang/IllegalArgumentException" "java/lang/Throwable" "backtrace" "Ljava/lang/Object;" ∈ tables_1), by rfl⟩
theorem gw_263 : Cond.lays "java/lang/Throwable" "java/lang/Throwable" "backtrace" "Ljava/lang/Object;" ∈ gT := List.mem_filter.mpr ⟨List.mem_append_right _ (List.mem_append_right _ (List.mem_append_left _ (List.mem_of_getElem? (i := 107) (by rfl))) : Cond.lays "java/lang/Throwable" "java/lang/Throwable" "backtrace" "Ljava/lang/Object;" ∈ tables_1), by rfl⟩
theorem gw_264 : Cond.fieldLink "java/lang/Throwable" 198 "java/lang/Throwable" "backtrace" "Ljava/lang/Object;" ∈ gT := List.mem_filter.mpr ⟨List.mem_append_right _ (List.mem_append_right _ (List.mem_append_left _ (List.mem_of_getElem? (i := 108) (by rfl))) : Cond.fieldLink "java/lang/Throwable" 198 "java/lang/Throwable" "backtrace" "Ljava/lang/Object;" ∈ tables_1), by rfl⟩
theorem gw_265 : Cond.instanceMethod ⟨"java/lang/Throwable", "<init>", "()V"⟩ ∈ gT := List.mem_filter.mpr ⟨List.mem_append_right _ (List.mem_append_right _ (List.mem_append_left _ (List.mem_of_getElem? (i := 110) (by rfl))) : Cond.instanceMethod ⟨"java/lang/Throwable", "<init>", "()V"⟩ ∈ tables_1), by rfl⟩
theorem gw_266 : Cond.code ⟨"java/lang/Throwable", "<init>", "()V"⟩ prog_19_method_1_code 1 none ∈ gT := List.mem_filter.mpr ⟨List.mem_append_right _ (List.mem_append_right _ (List.mem_append_left _ (List.mem_of_getElem? (i := 111) (by rfl))) : Cond.code ⟨"java/lang/Throwable", "<init>", "()V"⟩ prog_19_method_1_code 1 none ∈ tables_1), by rfl⟩
theorem gw_267 : Cond.methodLink "java/lang/Throwable" 1 ⟨"java/lang/Object", "<init>", "()V"⟩ ∈ gT := List.mem_filter.mpr ⟨List.mem_append_right _ (List.mem_append_right _ (List.mem_append_left _ (List.mem_of_getElem? (i := 112) (by rfl))) : Cond.methodLink "java/lang/Throwable" 1 ⟨"java/lang/Object", "<init>", "()V"⟩ ∈ tables_1), by rfl⟩
theorem gw_268 : Cond.fieldLink "java/lang/Throwable" 13 "java/lang/Throwable" "UNASSIGNED_STACK" "[Ljava/lang/StackTraceElement;" ∈ gT := List.mem_filter.mpr ⟨List.mem_append_right _ (List.mem_append_right _ (List.mem_append_left _ (List.mem_of_getElem? (i := 113) (by rfl))) : Cond.fieldLink "java/lang/Throwable" 13 "java/lang/Throwable" "UNASSIGNED_STACK" "[Ljava/lang/StackTraceElement;" ∈ tables_1), by rfl⟩
theorem gw_269 : Cond.fieldLink "java/lang/Throwable" 20 "java/lang/Throwable" "SUPPRESSED_SENTINEL" "Ljava/util/List;" ∈ gT := List.mem_filter.mpr ⟨List.mem_append_right _ (List.mem_append_right _ (List.mem_append_left _ (List.mem_of_getElem? (i := 115) (by rfl))) : Cond.fieldLink "java/lang/Throwable" 20 "java/lang/Throwable" "SUPPRESSED_SENTINEL" "Ljava/util/List;" ∈ tables_1), by rfl⟩
theorem gw_270 : Cond.methodLink "java/lang/Throwable" 27 ⟨"java/lang/Throwable", "fillInStackTrace", "()Ljava/lang/Throwable;"⟩ ∈ gT := List.mem_filter.mpr ⟨List.mem_append_right _ (List.mem_append_right _ (List.mem_append_left _ (List.mem_of_getElem? (i := 117) (by rfl))) : Cond.methodLink "java/lang/Throwable" 27 ⟨"java/lang/Throwable", "fillInStackTrace", "()Ljava/lang/Throwable;"⟩ ∈ tables_1), by rfl⟩
theorem gw_271 : Cond.instanceMethod ⟨"java/lang/Throwable", "fillInStackTrace", "()Ljava/lang/Throwable;"⟩ ∈ gT := List.mem_filter.mpr ⟨List.mem_append_right _ (List.mem_append_right _ (List.mem_append_left _ (List.mem_of_getElem? (i := 118) (by rfl))) : Cond.instanceMethod ⟨"java/lang/Throwable", "fillInStackTrace", "()Ljava/lang/Throwable;"⟩ ∈ tables_1), by rfl⟩
theorem gw_272 : Cond.sameMethod "java/lang/Throwable" "java/lang/Throwable" "fillInStackTrace" "()Ljava/lang/Throwable;" ∈ gT := List.mem_filter.mpr ⟨List.mem_append_right _ (List.mem_append_right _ (List.mem_append_left _ (List.mem_of_getElem? (i := 119) (by rfl))) : Cond.sameMethod "java/lang/Throwable" "java/lang/Throwable" "fillInStackTrace" "()Ljava/lang/Throwable;" ∈ tables_1), by rfl⟩
theorem gw_273 : Cond.selects "java/lang/IllegalStateException" ⟨"java/lang/Throwable", "fillInStackTrace", "()Ljava/lang/Throwable;"⟩ ⟨"java/lang/Throwable", "fillInStackTrace", "()Ljava/lang/Throwable;"⟩ ∈ gT := List.mem_filter.mpr ⟨List.mem_append_right _ (List.mem_append_right _ (List.mem_append_left _ (List.mem_of_getElem? (i := 120) (by rfl))) : Cond.selects "java/lang/IllegalStateException" ⟨"java/lang/Throwable", "fillInStackTrace", "()Ljava/lang/Throwable;"⟩ ⟨"java/lang/Throwable", "fillInStackTrace", "()Ljava/lang/Throwable;"⟩ ∈ tables_1), by rfl⟩
theorem gw_274 : Cond.selects "java/lang/IndexOutOfBoundsException" ⟨"java/lang/Throwable", "fillInStackTrace", "()Ljava/lang/Throwable;"⟩ ⟨"java/lang/Throwable", "fillInStackTrace", "()Ljava/lang/Throwable;"⟩ ∈ gT := List.mem_filter.mpr ⟨List.mem_append_right _ (List.mem_append_right _ (List.mem_append_left _ (List.mem_of_getElem? (i := 121) (by rfl))) : Cond.selects "java/lang/IndexOutOfBoundsException" ⟨"java/lang/Throwable", "fillInStackTrace", "()Ljava/lang/Throwable;"⟩ ⟨"java/lang/Throwable", "fillInStackTrace", "()Ljava/lang/Throwable;"⟩ ∈ tables_1), by rfl⟩
theorem gw_275 : Cond.codeSync ⟨"java/lang/Throwable", "fillInStackTrace", "()Ljava/lang/Throwable;"⟩ prog_19_method_18_code 1 (Option.some (.object "java/lang/Throwable")) ∈ gT := List.mem_filter.mpr ⟨List.mem_append_right _ (List.mem_append_right _ (List.mem_append_left _ (List.mem_of_getElem? (i := 122) (by rfl))) : Cond.codeSync ⟨"java/lang/Throwable", "fillInStackTrace", "()Ljava/lang/Throwable;"⟩ prog_19_method_18_code 1 (Option.some (.object "java/lang/Throwable")) ∈ tables_1), by rfl⟩
theorem gw_276 : Cond.methodLink "java/lang/Throwable" 202 ⟨"java/lang/Throwable", "fillInStackTrace", "(I)Ljava/lang/Throwable;"⟩ ∈ gT := List.mem_filter.mpr ⟨List.mem_append_right _ (List.mem_append_right _ (List.mem_append_left _ (List.mem_of_getElem? (i := 123) (by rfl))) : Cond.methodLink "java/lang/Throwable" 202 ⟨"java/lang/Throwable", "fillInStackTrace", "(I)Ljava/lang/Throwable;"⟩ ∈ tables_1), by rfl⟩
theorem gw_277 : Cond.instanceMethod ⟨"java/lang/Throwable", "fillInStackTrace", "(I)Ljava/lang/Throwable;"⟩ ∈ gT := List.mem_filter.mpr ⟨List.mem_append_right _ (List.mem_append_right _ (List.mem_append_left _ (List.mem_of_getElem? (i := 125) (by rfl))) : Cond.instanceMethod ⟨"java/lang/Throwable", "fillInStackTrace", "(I)Ljava/lang/Throwable;"⟩ ∈ tables_1), by rfl⟩
theorem gw_278 : Cond.instantiable "java/lang/Throwable" 6 ∈ gT := List.mem_filter.mpr ⟨List.mem_append_right _ (List.mem_append_right _ (List.mem_append_left _ (List.mem_of_getElem? (i := 126) (by rfl))) : Cond.instantiable "java/lang/Throwable" 6 ∈ tables_1), by rfl⟩
theorem gw_279 : Cond.native ⟨"java/lang/Throwable", "fillInStackTrace", "(I)Ljava/lang/Throwable;"⟩ ∈ gT := List.mem_filter.mpr ⟨List.mem_append_right _ (List.mem_append_right _ (List.mem_append_left _ (List.mem_of_getElem? (i := 127) (by rfl))) : Cond.native ⟨"java/lang/Throwable", "fillInStackTrace", "(I)Ljava/lang/Throwable;"⟩ ∈ tables_1), by rfl⟩
theorem gw_280 : Cond.methodLink "StairPlans" 69 ⟨"java/lang/IllegalArgumentException", "<init>", "(Ljava/lang/String;)V"⟩ ∈ gT := List.mem_filter.mpr ⟨List.mem_append_right _ (List.mem_append_right _ (List.mem_append_left _ (List.mem_of_getElem? (i := 129) (by rfl))) : Cond.methodLink "StairPlans" 69 ⟨"java/lang/IllegalArgumentException", "<init>", "(Ljava/lang/String;)V"⟩ ∈ tables_1), by rfl⟩
theorem gw_281 : Cond.instanceMethod ⟨"java/lang/IllegalArgumentException", "<init>", "(Ljava/lang/String;)V"⟩ ∈ gT := List.mem_filter.mpr ⟨List.mem_append_right _ (List.mem_append_right _ (List.mem_append_left _ (List.mem_of_getElem? (i := 130) (by rfl))) : Cond.instanceMethod ⟨"java/lang/IllegalArgumentException", "<init>", "(Ljava/lang/String;)V"⟩ ∈ tables_1), by rfl⟩
theorem gw_282 : Cond.code ⟨"java/lang/IllegalArgumentException", "<init>", "(Ljava/lang/String;)V"⟩ prog_11_method_2_code 2 none ∈ gT := List.mem_filter.mpr ⟨List.mem_append_right _ (List.mem_append_right _ (List.mem_append_left _ (List.mem_of_getElem? (i := 131) (by rfl))) : Cond.code ⟨"java/lang/IllegalArgumentException", "<init>", "(Ljava/lang/String;)V"⟩ prog_11_method_2_code 2 none ∈ tables_1), by rfl⟩
theorem gw_283 : Cond.methodLink "java/lang/IllegalArgumentException" 7 ⟨"java/lang/RuntimeException", "<init>", "(Ljava/lang/String;)V"⟩ ∈ gT := List.mem_filter.mpr ⟨List.mem_append_right _ (List.mem_append_right _ (List.mem_append_left _ (List.mem_of_getElem? (i := 132) (by rfl))) : Cond.methodLink "java/lang/IllegalArgumentException" 7 ⟨"java/lang/RuntimeException", "<init>", "(Ljava/lang/String;)V"⟩ ∈ tables_1), by rfl⟩
theorem gw_284 : Cond.instanceMethod ⟨"java/lang/RuntimeException", "<init>", "(Ljava/lang/String;)V"⟩ ∈ gT := List.mem_filter.mpr ⟨List.mem_append_right _ (List.mem_append_right _ (List.mem_append_left _ (List.mem_of_getElem? (i := 133) (by rfl))) : Cond.instanceMethod ⟨"java/lang/RuntimeException", "<init>", "(Ljava/lang/String;)V"⟩ ∈ tables_1), by rfl⟩
theorem gw_285 : Cond.code ⟨"java/lang/RuntimeException", "<init>", "(Ljava/lang/String;)V"⟩ prog_15_method_2_code 2 none ∈ gT := List.mem_filter.mpr ⟨List.mem_append_right _ (List.mem_append_right _ (List.mem_append_left _ (List.mem_of_getElem? (i := 134) (by rfl))) : Cond.code ⟨"java/lang/RuntimeException", "<init>", "(Ljava/lang/String;)V"⟩ prog_15_method_2_code 2 none ∈ tables_1), by rfl⟩
theorem gw_286 : Cond.methodLink "java/lang/RuntimeException" 7 ⟨"java/lang/Exception", "<init>", "(Ljava/lang/String;)V"⟩ ∈ gT := List.mem_filter.mpr ⟨List.mem_append_right _ (List.mem_append_right _ (List.mem_append_left _ (List.mem_of_getElem? (i := 135) (by rfl))) : Cond.methodLink "java/lang/RuntimeException" 7 ⟨"java/lang/Exception", "<init>", "(Ljava/lang/String;)V"⟩ ∈ tables_1), by rfl⟩
theorem gw_287 : Cond.instanceMethod ⟨"java/lang/Exception", "<init>", "(Ljava/lang/String;)V"⟩ ∈ gT := List.mem_filter.mpr ⟨List.mem_append_right _ (List.mem_append_right _ (List.mem_append_left _ (List.mem_of_getElem? (i := 136) (by rfl))) : Cond.instanceMethod ⟨"java/lang/Exception", "<init>", "(Ljava/lang/String;)V"⟩ ∈ tables_1), by rfl⟩
theorem gw_288 : Cond.code ⟨"java/lang/Exception", "<init>", "(Ljava/lang/String;)V"⟩ prog_10_method_2_code 2 none ∈ gT := List.mem_filter.mpr ⟨List.mem_append_right _ (List.mem_append_right _ (List.mem_append_left _ (List.mem_of_getElem? (i := 137) (by rfl))) : Cond.code ⟨"java/lang/Exception", "<init>", "(Ljava/lang/String;)V"⟩ prog_10_method_2_code 2 none ∈ tables_1), by rfl⟩
theorem gw_289 : Cond.methodLink "java/lang/Exception" 7 ⟨"java/lang/Throwable", "<init>", "(Ljava/lang/String;)V"⟩ ∈ gT := List.mem_filter.mpr ⟨List.mem_append_right _ (List.mem_append_right _ (List.mem_append_left _ (List.mem_of_getElem? (i := 138) (by rfl))) : Cond.methodLink "java/lang/Exception" 7 ⟨"java/lang/Throwable", "<init>", "(Ljava/lang/String;)V"⟩ ∈ tables_1), by rfl⟩
theorem gw_290 : Cond.instanceMethod ⟨"java/lang/Throwable", "<init>", "(Ljava/lang/String;)V"⟩ ∈ gT := List.mem_filter.mpr ⟨List.mem_append_right _ (List.mem_append_right _ (List.mem_append_left _ (List.mem_of_getElem? (i := 139) (by rfl))) : Cond.instanceMethod ⟨"java/lang/Throwable", "<init>", "(Ljava/lang/String;)V"⟩ ∈ tables_1), by rfl⟩
theorem gw_291 : Cond.code ⟨"java/lang/Throwable", "<init>", "(Ljava/lang/String;)V"⟩ prog_19_method_2_code 2 none ∈ gT := List.mem_filter.mpr ⟨List.mem_append_right _ (List.mem_append_right _ (List.mem_append_left _ (List.mem_of_getElem? (i := 140) (by rfl))) : Cond.code ⟨"java/lang/Throwable", "<init>", "(Ljava/lang/String;)V"⟩ prog_19_method_2_code 2 none ∈ tables_1), by rfl⟩
theorem gw_292 : Cond.fieldLink "java/lang/Throwable" 31 "java/lang/Throwable" "detailMessage" "Ljava/lang/String;" ∈ gT := List.mem_filter.mpr ⟨List.mem_append_right _ (List.mem_append_right _ (List.mem_append_left _ (List.mem_of_getElem? (i := 142) (by rfl))) : Cond.fieldLink "java/lang/Throwable" 31 "java/lang/Throwable" "detailMessage" "Ljava/lang/String;" ∈ tables_1), by rfl⟩
theorem gw_293 : Cond.fieldLink "java/lang/Throwable" 7 "java/lang/Throwable" "cause" "Ljava/lang/Throwable;" ∈ gT := List.mem_filter.mpr ⟨List.mem_append_right _ (List.mem_append_right _ (List.mem_append_left _ (List.mem_of_getElem? (i := 143) (by rfl))) : Cond.fieldLink "java/lang/Throwable" 7 "java/lang/Throwable" "cause" "Ljava/lang/Throwable;" ∈ tables_1), by rfl⟩
theorem gw_294 : Cond.fieldLink "java/lang/Throwable" 17 "java/lang/Throwable" "stackTrace" "[Ljava/lang/StackTraceElement;" ∈ gT := List.mem_filter.mpr ⟨List.mem_append_right _ (List.mem_append_right _ (List.mem_append_left _ (List.mem_of_getElem? (i := 144) (by rfl))) : Cond.fieldLink "java/lang/Throwable" 17 "java/lang/Throwable" "stackTrace" "[Ljava/lang/StackTraceElement;" ∈ tables_1), by rfl⟩
theorem gw_295 : Cond.fieldLink "java/lang/Throwable" 24 "java/lang/Throwable" "suppressedExceptions" "Ljava/util/List;" ∈ gT := List.mem_filter.mpr ⟨List.mem_append_right _ (List.mem_append_right _ (List.mem_append_left _ (List.mem_of_getElem? (i := 145) (by rfl))) : Cond.fieldLink "java/lang/Throwable" 24 "java/lang/Throwable" "suppressedExceptions" "Ljava/util/List;" ∈ tables_1), by rfl⟩
theorem gw_296 : Cond.lays "java/lang/IllegalArgumentException" "java/lang/Throwable" "depth" "I" ∈ gT := List.mem_filter.mpr ⟨List.mem_append_right _ (List.mem_append_right _ (List.mem_append_left _ (List.mem_of_getElem? (i := 150) (by rfl))) : Cond.lays "java/lang/IllegalArgumentException" "java/lang/Throwable" "depth" "I" ∈ tables_1), by rfl⟩
theorem gw_297 : Cond.methodLink "StairPlansLaw" 87 ⟨"StairPlansLaw", "run", "(LStairPlans;IJJ[J)I"⟩ ∈ gT := List.mem_filter.mpr ⟨List.mem_append_right _ (List.mem_append_right _ (List.mem_append_left _ (List.mem_of_getElem? (i := 154) (by rfl))) : Cond.methodLink "StairPlansLaw" 87 ⟨"StairPlansLaw", "run", "(LStairPlans;IJJ[J)I"⟩ ∈ tables_1), by rfl⟩
theorem gw_298 : Cond.static ⟨"StairPlansLaw", "run", "(LStairPlans;IJJ[J)I"⟩ ∈ gT := List.mem_filter.mpr ⟨List.mem_append_right _ (List.mem_append_right _ (List.mem_append_left _ (List.mem_of_getElem? (i := 155) (by rfl))) : Cond.static ⟨"StairPlansLaw", "run", "(LStairPlans;IJJ[J)I"⟩ ∈ tables_1), by rfl⟩
theorem gw_299 : Cond.codeWith ⟨"StairPlansLaw", "run", "(LStairPlans;IJJ[J)I"⟩ method_4_code 8 (some .int) [(0, 13, 16, 19), (0, 13, 20, 13)] ∈ gT := List.mem_filter.mpr ⟨List.mem_append_right _ (List.mem_append_right _ (List.mem_append_left _ (List.mem_of_getElem? (i := 156) (by rfl))) : Cond.codeWith ⟨"StairPlansLaw", "run", "(LStairPlans;IJJ[J)I"⟩ method_4_code 8 (some .int) [(0, 13, 16, 19), (0, 13, 20, 13)] ∈ tables_1), by rfl⟩
theorem gw_300 : Cond.classLink "StairPlansLaw" 19 "java/lang/IllegalStateException" ∈ gT := List.mem_filter.mpr ⟨List.mem_append_right _ (List.mem_append_right _ (List.mem_append_left _ (List.mem_of_getElem? (i := 157) (by rfl))) : Cond.classLink "StairPlansLaw" 19 "java/lang/IllegalStateException" ∈ tables_1), by rfl⟩
theorem gw_301 : Cond.methodLink "StairPlansLaw" 15 ⟨"StairPlans", "run", "(IJJ)I"⟩ ∈ gT := List.mem_filter.mpr ⟨List.mem_append_right _ (List.mem_append_right _ (List.mem_append_left _ (List.mem_of_getElem? (i := 158) (by rfl))) : Cond.methodLink "StairPlansLaw" 15 ⟨"StairPlans", "run", "(IJJ)I"⟩ ∈ tables_1), by rfl⟩
theorem gw_302 : Cond.instanceMethod ⟨"StairPlans", "run", "(IJJ)I"⟩ ∈ gT := List.mem_filter.mpr ⟨List.mem_append_right _ (List.mem_append_right _ (List.mem_append_left _ (List.mem_of_getElem? (i := 159) (by rfl))) : Cond.instanceMethod ⟨"StairPlans", "run", "(IJJ)I"⟩ ∈ tables_1), by rfl⟩
theorem gw_303 : Cond.selects "StairPlans" ⟨"StairPlans", "run", "(IJJ)I"⟩ ⟨"StairPlans", "run", "(IJJ)I"⟩ ∈ gT := List.mem_filter.mpr ⟨List.mem_append_right _ (List.mem_append_right _ (List.mem_append_left _ (List.mem_of_getElem? (i := 160) (by rfl))) : Cond.selects "StairPlans" ⟨"StairPlans", "run", "(IJJ)I"⟩ ⟨"StairPlans", "run", "(IJJ)I"⟩ ∈ tables_1), by rfl⟩
theorem gw_304 : Cond.code ⟨"StairPlans", "run", "(IJJ)I"⟩ prog_1_method_5_code 9 (some .int) ∈ gT := List.mem_filter.mpr ⟨List.mem_append_right _ (List.mem_append_right _ (List.mem_append_left _ (List.mem_of_getElem? (i := 161) (by rfl))) : Cond.code ⟨"StairPlans", "run", "(IJJ)I"⟩ prog_1_method_5_code 9 (some .int) ∈ tables_1), by rfl⟩
theorem gw_305 : Cond.classLink "StairPlans" 93 "java/lang/IllegalStateException" ∈ gT := List.mem_filter.mpr ⟨List.mem_append_right _ (List.mem_append_right _ (List.mem_append_left _ (List.mem_of_getElem? (i := 162) (by rfl))) : Cond.classLink "StairPlans" 93 "java/lang/IllegalStateException" ∈ tables_1), by rfl⟩
theorem gw_306 : Cond.instantiable "java/lang/IllegalStateException" 6 ∈ gT := List.mem_filter.mpr ⟨List.mem_append_right _ (List.mem_append_right _ (List.mem_append_left _ (List.mem_of_getElem? (i := 163) (by rfl))) : Cond.instantiable "java/lang/IllegalStateException" 6 ∈ tables_1), by rfl⟩
theorem gw_307 : Cond.selects "java/lang/IllegalStateException" ⟨"java/lang/Throwable", "fillInStackTrace", "(I)Ljava/lang/Throwable;"⟩ ⟨"java/lang/Throwable", "fillInStackTrace", "(I)Ljava/lang/Throwable;"⟩ ∈ gT := List.mem_filter.mpr ⟨List.mem_append_right _ (List.mem_append_right _ (List.mem_append_left _ (List.mem_of_getElem? (i := 165) (by rfl))) : Cond.selects "java/lang/IllegalStateException" ⟨"java/lang/Throwable", "fillInStackTrace", "(I)Ljava/lang/Throwable;"⟩ ⟨"java/lang/Throwable", "fillInStackTrace", "(I)Ljava/lang/Throwable;"⟩ ∈ tables_1), by rfl⟩
theorem gw_308 : Cond.lays "java/lang/IllegalStateException" "java/lang/Throwable" "cause" "Ljava/lang/Throwable;" ∈ gT := List.mem_filter.mpr ⟨List.mem_append_right _ (List.mem_append_right _ (List.mem_append_left _ (List.mem_of_getElem? (i := 166) (by rfl))) : Cond.lays "java/lang/IllegalStateException" "java/lang/Throwable" "cause" "Ljava/lang/Throwable;" ∈ tables_1), by rfl⟩
theorem gw_309 : Cond.lays "java/lang/IllegalStateException" "java/lang/Throwable" "stackTrace" "[Ljava/lang/StackTraceElement;" ∈ gT := List.mem_filter.mpr ⟨List.mem_append_right _ (List.mem_append_right _ (List.mem_append_left _ (List.mem_of_getElem? (i := 167) (by rfl))) : Cond.lays "java/lang/IllegalStateException" "java/lang/Throwable" "stackTrace" "[Ljava/lang/StackTraceElement;" ∈ tables_1), by rfl⟩
theorem gw_310 : Cond.lays "java/lang/IllegalStateException" "java/lang/Throwable" "suppressedExceptions" "Ljava/util/List;" ∈ gT := List.mem_filter.mpr ⟨List.mem_append_right _ (List.mem_append_right _ (List.mem_append_left _ (List.mem_of_getElem? (i := 168) (by rfl))) : Cond.lays "java/lang/IllegalStateException" "java/lang/Throwable" "suppressedExceptions" "Ljava/util/List;" ∈ tables_1), by rfl⟩
theorem gw_311 : Cond.lays "java/lang/IllegalStateException" "java/lang/Throwable" "detailMessage" "Ljava/lang/String;" ∈ gT := List.mem_filter.mpr ⟨List.mem_append_right _ (List.mem_append_right _ (List.mem_append_left _ (List.mem_of_getElem? (i := 169) (by rfl))) : Cond.lays "java/lang/IllegalStateException" "java/lang/Throwable" "detailMessage" "Ljava/lang/String;" ∈ tables_1), by rfl⟩
theorem gw_312 : Cond.lays "java/lang/IllegalStateException" "java/lang/Throwable" "backtrace" "Ljava/lang/Object;" ∈ gT := List.mem_filter.mpr ⟨List.mem_append_right _ (List.mem_append_right _ (List.mem_append_left _ (List.mem_of_getElem? (i := 170) (by rfl))) : Cond.lays "java/lang/IllegalStateException" "java/lang/Throwable" "backtrace" "Ljava/lang/Object;" ∈ tables_1), by rfl⟩
theorem gw_313 : Cond.methodLink "StairPlans" 97 ⟨"java/lang/IllegalStateException", "<init>", "(Ljava/lang/String;)V"⟩ ∈ gT := List.mem_filter.mpr ⟨List.mem_append_right _ (List.mem_append_right _ (List.mem_append_left _ (List.mem_of_getElem? (i := 172) (by rfl))) : Cond.methodLink "StairPlans" 97 ⟨"java/lang/IllegalStateException", "<init>", "(Ljava/lang/String;)V"⟩ ∈ tables_1), by rfl⟩
theorem gw_314 : Cond.instanceMethod ⟨"java/lang/IllegalStateException", "<init>", "(Ljava/lang/String;)V"⟩ ∈ gT := List.mem_filter.mpr ⟨List.mem_append_right _ (List.mem_append_right _ (List.mem_append_left _ (List.mem_of_getElem? (i := 173) (by rfl))) : Cond.instanceMethod ⟨"java/lang/IllegalStateException", "<init>", "(Ljava/lang/String;)V"⟩ ∈ tables_1), by rfl⟩
theorem gw_315 : Cond.code ⟨"java/lang/IllegalStateException", "<init>", "(Ljava/lang/String;)V"⟩ prog_12_method_2_code 2 none ∈ gT := List.mem_filter.mpr ⟨List.mem_append_right _ (List.mem_append_right _ (List.mem_append_left _ (List.mem_of_getElem? (i := 174) (by rfl))) : Cond.code ⟨"java/lang/IllegalStateException", "<init>", "(Ljava/lang/String;)V"⟩ prog_12_method_2_code 2 none ∈ tables_1), by rfl⟩
theorem gw_316 : Cond.methodLink "java/lang/IllegalStateException" 7 ⟨"java/lang/RuntimeException", "<init>", "(Ljava/lang/String;)V"⟩ ∈ gT := List.mem_filter.mpr ⟨List.mem_append_right _ (List.mem_append_right _ (List.mem_append_left _ (List.mem_of_getElem? (i := 175) (by rfl))) : Cond.methodLink "java/lang/IllegalStateException" 7 ⟨"java/lang/RuntimeException", "<init>", "(Ljava/lang/String;)V"⟩ ∈ tables_1), by rfl⟩
theorem gw_317 : Cond.lays "java/lang/IllegalStateException" "java/lang/Throwable" "depth" "I" ∈ gT := List.mem_filter.mpr ⟨List.mem_append_right _ (List.mem_append_right _ (List.mem_append_left _ (List.mem_of_getElem? (i := 176) (by rfl))) : Cond.lays "java/lang/IllegalStateException" "java/lang/Throwable" "depth" "I" ∈ tables_1), by rfl⟩
theorem gw_318 : Cond.constantLong "StairPlans" 100 10000 ∈ gT := List.mem_filter.mpr ⟨List.mem_append_right _ (List.mem_append_right _ (List.mem_append_left _ (List.mem_of_getElem? (i := 179) (by rfl))) : Cond.constantLong "StairPlans" 100 10000 ∈ tables_1), by rfl⟩
theorem gw_319 : Cond.methodLink "StairPlans" 104 ⟨"StairPlans$Stair", "measure", "(IJJJ)V"⟩ ∈ gT := List.mem_filter.mpr ⟨List.mem_append_right _ (List.mem_append_right _ (List.mem_append_left _ (List.mem_of_getElem? (i := 181) (by rfl))) : Cond.methodLink "StairPlans" 104 ⟨"StairPlans$Stair", "measure", "(IJJJ)V"⟩ ∈ tables_1), by rfl⟩
theorem gw_320 : Cond.instanceMethod ⟨"StairPlans$Stair", "measure", "(IJJJ)V"⟩ ∈ gT := List.mem_filter.mpr ⟨List.mem_append_right _ (List.mem_append_right _ (List.mem_append_left _ (List.mem_of_getElem? (i := 182) (by rfl))) : Cond.instanceMethod ⟨"StairPlans$Stair", "measure", "(IJJJ)V"⟩ ∈ tables_1), by rfl⟩
theorem gw_321 : Cond.selects "StairPlans$Stair" ⟨"StairPlans$Stair", "measure", "(IJJJ)V"⟩ ⟨"StairPlans$Stair", "measure", "(IJJJ)V"⟩ ∈ gT := List.mem_filter.mpr ⟨List.mem_append_right _ (List.mem_append_right _ (List.mem_append_left _ (List.mem_of_getElem? (i := 183) (by rfl))) : Cond.selects "StairPlans$Stair" ⟨"StairPlans$Stair", "measure", "(IJJJ)V"⟩ ⟨"StairPlans$Stair", "measure", "(IJJJ)V"⟩ ∈ tables_1), by rfl⟩
theorem gw_322 : Cond.code ⟨"StairPlans$Stair", "measure", "(IJJJ)V"⟩ prog_6_method_2_code 8 none ∈ gT := List.mem_filter.mpr ⟨List.mem_append_right _ (List.mem_append_right _ (List.mem_append_left _ (List.mem_of_getElem? (i := 184) (by rfl))) : Cond.code ⟨"StairPlans$Stair", "measure", "(IJJJ)V"⟩ prog_6_method_2_code 8 none ∈ tables_1), by rfl⟩
theorem gw_323 : Cond.methodLink "StairPlans" 108 ⟨"StairPlans$Stair", "fewestRises", "()I"⟩ ∈ gT := List.mem_filter.mpr ⟨List.mem_append_right _ (List.mem_append_right _ (List.mem_append_left _ (List.mem_of_getElem? (i := 185) (by rfl))) : Cond.methodLink "StairPlans" 108 ⟨"StairPlans$Stair", "fewestRises", "()I"⟩ ∈ tables_1), by rfl⟩
theorem gw_324 : Cond.instanceMethod ⟨"StairPlans$Stair", "fewestRises", "()I"⟩ ∈ gT := List.mem_filter.mpr ⟨List.mem_append_right _ (List.mem_append_right _ (List.mem_append_left _ (List.mem_of_getElem? (i := 186) (by rfl))) : Cond.instanceMethod ⟨"StairPlans$Stair", "fewestRises", "()I"⟩ ∈ tables_1), by rfl⟩
theorem gw_325 : Cond.selects "StairPlans$Stair" ⟨"StairPlans$Stair", "fewestRises", "()I"⟩ ⟨"StairPlans$Stair", "fewestRises", "()I"⟩ ∈ gT := List.mem_filter.mpr ⟨List.mem_append_right _ (List.mem_append_right _ (List.mem_append_left _ (List.mem_of_getElem? (i := 187) (by rfl))) : Cond.selects "StairPlans$Stair" ⟨"StairPlans$Stair", "fewestRises", "()I"⟩ ⟨"StairPlans$Stair", "fewestRises", "()I"⟩ ∈ tables_1), by rfl⟩
theorem gw_326 : Cond.code ⟨"StairPlans$Stair", "fewestRises", "()I"⟩ prog_6_method_4_code 1 (some .int) ∈ gT := List.mem_filter.mpr ⟨List.mem_append_right _ (List.mem_append_right _ (List.mem_append_left _ (List.mem_of_getElem? (i := 188) (by rfl))) : Cond.code ⟨"StairPlans$Stair", "fewestRises", "()I"⟩ prog_6_method_4_code 1 (some .int) ∈ tables_1), by rfl⟩
theorem gw_327 : Cond.methodLink "StairPlans" 112 ⟨"StairPlans$Stair", "divide", "(I)V"⟩ ∈ gT := List.mem_filter.mpr ⟨List.mem_append_right _ (List.mem_append_right _ (List.mem_append_left _ (List.mem_of_getElem? (i := 189) (by rfl))) : Cond.methodLink "StairPlans" 112 ⟨"StairPlans$Stair", "divide", "(I)V"⟩ ∈ tables_1), by rfl⟩
theorem gw_328 : Cond.instanceMethod ⟨"StairPlans$Stair", "divide", "(I)V"⟩ ∈ gT := List.mem_filter.mpr ⟨List.mem_append_right _ (List.mem_append_right _ (List.mem_append_left _ (List.mem_of_getElem? (i := 190) (by rfl))) : Cond.instanceMethod ⟨"StairPlans$Stair", "divide", "(I)V"⟩ ∈ tables_1), by rfl⟩
theorem gw_329 : Cond.selects "StairPlans$Stair" ⟨"StairPlans$Stair", "divide", "(I)V"⟩ ⟨"StairPlans$Stair", "divide", "(I)V"⟩ ∈ gT := List.mem_filter.mpr ⟨List.mem_append_right _ (List.mem_append_right _ (List.mem_append_left _ (List.mem_of_getElem? (i := 191) (by rfl))) : Cond.selects "StairPlans$Stair" ⟨"StairPlans$Stair", "divide", "(I)V"⟩ ⟨"StairPlans$Stair", "divide", "(I)V"⟩ ∈ tables_1), by rfl⟩
theorem gw_330 : Cond.code ⟨"StairPlans$Stair", "divide", "(I)V"⟩ prog_6_method_3_code 2 none ∈ gT := List.mem_filter.mpr ⟨List.mem_append_right _ (List.mem_append_right _ (List.mem_append_left _ (List.mem_of_getElem? (i := 192) (by rfl))) : Cond.code ⟨"StairPlans$Stair", "divide", "(I)V"⟩ prog_6_method_3_code 2 none ∈ tables_1), by rfl⟩
theorem gw_331 : Cond.methodLink "StairPlans$Stair" 34 ⟨"StairPlans$Stair", "treads", "()I"⟩ ∈ gT := List.mem_filter.mpr ⟨List.mem_append_right _ (List.mem_append_right _ (List.mem_append_left _ (List.mem_of_getElem? (i := 193) (by rfl))) : Cond.methodLink "StairPlans$Stair" 34 ⟨"StairPlans$Stair", "treads", "()I"⟩ ∈ tables_1), by rfl⟩
theorem gw_332 : Cond.instanceMethod ⟨"StairPlans$Stair", "treads", "()I"⟩ ∈ gT := List.mem_filter.mpr ⟨List.mem_append_right _ (List.mem_append_right _ (List.mem_append_left _ (List.mem_of_getElem? (i := 194) (by rfl))) : Cond.instanceMethod ⟨"StairPlans$Stair", "treads", "()I"⟩ ∈ tables_1), by rfl⟩
theorem gw_333 : Cond.selects "StairPlans$Stair" ⟨"StairPlans$Stair", "treads", "()I"⟩ ⟨"StairPlans$Stair", "treads", "()I"⟩ ∈ gT := List.mem_filter.mpr ⟨List.mem_append_right _ (List.mem_append_right _ (List.mem_append_left _ (List.mem_of_getElem? (i := 195) (by rfl))) : Cond.selects "StairPlans$Stair" ⟨"StairPlans$Stair", "treads", "()I"⟩ ⟨"StairPlans$Stair", "treads", "()I"⟩ ∈ tables_1), by rfl⟩
theorem gw_334 : Cond.code ⟨"StairPlans$Stair", "treads", "()I"⟩ prog_6_method_5_code 1 (some .int) ∈ gT := List.mem_filter.mpr ⟨List.mem_append_right _ (List.mem_append_right _ (List.mem_append_left _ (List.mem_of_getElem? (i := 196) (by rfl))) : Cond.code ⟨"StairPlans$Stair", "treads", "()I"⟩ prog_6_method_5_code 1 (some .int) ∈ tables_1), by rfl⟩
theorem gw_335 : Cond.methodLink "StairPlans$Stair" 38 ⟨"StairPlans$Stair", "fewestRises", "()I"⟩ ∈ gT := List.mem_filter.mpr ⟨List.mem_append_right _ (List.mem_append_right _ (List.mem_append_left _ (List.mem_of_getElem? (i := 197) (by rfl))) : Cond.methodLink "StairPlans$Stair" 38 ⟨"StairPlans$Stair", "fewestRises", "()I"⟩ ∈ tables_1), by rfl⟩
theorem gw_336 : Cond.methodLink "StairPlans$Stair" 41 ⟨"StairPlans$Stair", "landings", "()I"⟩ ∈ gT := List.mem_filter.mpr ⟨List.mem_append_right _ (List.mem_append_right _ (List.mem_append_left _ (List.mem_of_getElem? (i := 198) (by rfl))) : Cond.methodLink "StairPlans$Stair" 41 ⟨"StairPlans$Stair", "landings", "()I"⟩ ∈ tables_1), by rfl⟩
theorem gw_337 : Cond.instanceMethod ⟨"StairPlans$Stair", "landings", "()I"⟩ ∈ gT := List.mem_filter.mpr ⟨List.mem_append_right _ (List.mem_append_right _ (List.mem_append_left _ (List.mem_of_getElem? (i := 199) (by rfl))) : Cond.instanceMethod ⟨"StairPlans$Stair", "landings", "()I"⟩ ∈ tables_1), by rfl⟩
theorem gw_338 : Cond.selects "StairPlans$Stair" ⟨"StairPlans$Stair", "landings", "()I"⟩ ⟨"StairPlans$Stair", "landings", "()I"⟩ ∈ gT := List.mem_filter.mpr ⟨List.mem_append_right _ (List.mem_append_right _ (List.mem_append_left _ (List.mem_of_getElem? (i := 200) (by rfl))) : Cond.selects "StairPlans$Stair" ⟨"StairPlans$Stair", "landings", "()I"⟩ ⟨"StairPlans$Stair", "landings", "()I"⟩ ∈ tables_1), by rfl⟩
theorem gw_339 : Cond.code ⟨"StairPlans$Stair", "landings", "()I"⟩ prog_6_method_6_code 1 (some .int) ∈ gT := List.mem_filter.mpr ⟨List.mem_append_right _ (List.mem_append_right _ (List.mem_append_left _ (List.mem_of_getElem? (i := 201) (by rfl))) : Cond.code ⟨"StairPlans$Stair", "landings", "()I"⟩ prog_6_method_6_code 1 (some .int) ∈ tables_1), by rfl⟩
theorem gw_340 : Cond.methodLink "StairPlans$Stair" 44 ⟨"StairPlans$Stair", "winders", "()I"⟩ ∈ gT := List.mem_filter.mpr ⟨List.mem_append_right _ (List.mem_append_right _ (List.mem_append_left _ (List.mem_of_getElem? (i := 202) (by rfl))) : Cond.methodLink "StairPlans$Stair" 44 ⟨"StairPlans$Stair", "winders", "()I"⟩ ∈ tables_1), by rfl⟩
theorem gw_341 : Cond.instanceMethod ⟨"StairPlans$Stair", "winders", "()I"⟩ ∈ gT := List.mem_filter.mpr ⟨List.mem_append_right _ (List.mem_append_right _ (List.mem_append_left _ (List.mem_of_getElem? (i := 203) (by rfl))) : Cond.instanceMethod ⟨"StairPlans$Stair", "winders", "()I"⟩ ∈ tables_1), by rfl⟩
theorem gw_342 : Cond.selects "StairPlans$Stair" ⟨"StairPlans$Stair", "winders", "()I"⟩ ⟨"StairPlans$Stair", "winders", "()I"⟩ ∈ gT := List.mem_filter.mpr ⟨List.mem_append_right _ (List.mem_append_right _ (List.mem_append_left _ (List.mem_of_getElem? (i := 204) (by rfl))) : Cond.selects "StairPlans$Stair" ⟨"StairPlans$Stair", "winders", "()I"⟩ ⟨"StairPlans$Stair", "winders", "()I"⟩ ∈ tables_1), by rfl⟩
theorem gw_343 : Cond.code ⟨"StairPlans$Stair", "winders", "()I"⟩ prog_6_method_7_code 1 (some .int) ∈ gT := List.mem_filter.mpr ⟨List.mem_append_right _ (List.mem_append_right _ (List.mem_append_left _ (List.mem_of_getElem? (i := 205) (by rfl))) : Cond.code ⟨"StairPlans$Stair", "winders", "()I"⟩ prog_6_method_7_code 1 (some .int) ∈ tables_1), by rfl⟩
theorem gw_344 : Cond.methodLink "StairPlans" 116 ⟨"StairPlans$RuleSet", "heldFromFirst", "(LStairPlans$Stair;)I"⟩ ∈ gT := List.mem_filter.mpr ⟨List.mem_append_right _ (List.mem_append_right _ (List.mem_append_left _ (List.mem_of_getElem? (i := 206) (by rfl))) : Cond.methodLink "StairPlans" 116 ⟨"StairPlans$RuleSet", "heldFromFirst", "(LStairPlans$Stair;)I"⟩ ∈ tables_1), by rfl⟩
theorem gw_345 : Cond.instanceMethod ⟨"StairPlans$RuleSet", "heldFromFirst", "(LStairPlans$Stair;)I"⟩ ∈ gT := List.mem_filter.mpr ⟨List.mem_append_right _ (List.mem_append_right _ (List.mem_append_left _ (List.mem_of_getElem? (i := 207) (by rfl))) : Cond.instanceMethod ⟨"StairPlans$RuleSet", "heldFromFirst", "(LStairPlans$Stair;)I"⟩ ∈ tables_1), by rfl⟩
theorem gw_346 : Cond.selects "StairPlans$RuleSet" ⟨"StairPlans$RuleSet", "heldFromFirst", "(LStairPlans$Stair;)I"⟩ ⟨"StairPlans$RuleSet", "heldFromFirst", "(LStairPlans$Stair;)I"⟩ ∈ gT := List.mem_filter.mpr ⟨List.mem_append_right _ (List.mem_append_right _ (List.mem_append_left _ (List.mem_of_getElem? (i := 208) (by rfl))) : Cond.selects "StairPlans$RuleSet" ⟨"StairPlans$RuleSet", "heldFromFirst", "(LStairPlans$Stair;)I"⟩ ⟨"StairPlans$RuleSet", "heldFromFirst", "(LStairPlans$Stair;)I"⟩ ∈ tables_1), by rfl⟩
theorem gw_347 : Cond.code ⟨"StairPlans$RuleSet", "heldFromFirst", "(LStairPlans$Stair;)I"⟩ prog_4_method_5_code 3 (some .int) ∈ gT := List.mem_filter.mpr ⟨List.mem_append_right _ (List.mem_append_right _ (List.mem_append_left _ (List.mem_of_getElem? (i := 209) (by rfl))) : Cond.code ⟨"StairPlans$RuleSet", "heldFromFirst", "(LStairPlans$Stair;)I"⟩ prog_4_method_5_code 3 (some .int) ∈ tables_1), by rfl⟩
theorem gw_348 : Cond.methodLink "StairPlans$RuleSet" 24 ⟨"StairPlans$RuleSet", "holds", "(ILStairPlans$Stair;)Z"⟩ ∈ gT := List.mem_filter.mpr ⟨List.mem_append_right _ (List.mem_append_right _ (List.mem_append_left _ (List.mem_of_getElem? (i := 210) (by rfl))) : Cond.methodLink "StairPlans$RuleSet" 24 ⟨"StairPlans$RuleSet", "holds", "(ILStairPlans$Stair;)Z"⟩ ∈ tables_1), by rfl⟩
theorem gw_349 : Cond.instanceMethod ⟨"StairPlans$RuleSet", "holds", "(ILStairPlans$Stair;)Z"⟩ ∈ gT := List.mem_filter.mpr ⟨List.mem_append_right _ (List.mem_append_right _ (List.mem_append_left _ (List.mem_of_getElem? (i := 211) (by rfl))) : Cond.instanceMethod ⟨"StairPlans$RuleSet", "holds", "(ILStairPlans$Stair;)Z"⟩ ∈ tables_1), by rfl⟩
theorem gw_350 : Cond.selects "StairPlans$RuleSet" ⟨"StairPlans$RuleSet", "holds", "(ILStairPlans$Stair;)Z"⟩ ⟨"StairPlans$RuleSet", "holds", "(ILStairPlans$Stair;)Z"⟩ ∈ gT := List.mem_filter.mpr ⟨List.mem_append_right _ (List.mem_append_right _ (List.mem_append_left _ (List.mem_of_getElem? (i := 212) (by rfl))) : Cond.selects "StairPlans$RuleSet" ⟨"StairPlans$RuleSet", "holds", "(ILStairPlans$Stair;)Z"⟩ ⟨"StairPlans$RuleSet", "holds", "(ILStairPlans$Stair;)Z"⟩ ∈ tables_1), by rfl⟩
theorem gw_351 : Cond.code ⟨"StairPlans$RuleSet", "holds", "(ILStairPlans$Stair;)Z"⟩ prog_4_method_6_code 7 (some .boolean) ∈ gT := List.mem_filter.mpr ⟨List.mem_append_right _ (List.mem_append_right _ (List.mem_append_left _ (List.mem_of_getElem? (i := 213) (by rfl))) : Cond.code ⟨"StairPlans$RuleSet", "holds", "(ILStairPlans$Stair;)Z"⟩ prog_4_method_6_code 7 (some .boolean) ∈ tables_1), by rfl⟩
theorem gw_352 : Cond.methodLink "StairPlans$RuleSet" 28 ⟨"StairPlans$RuleSet", "sumTimesRises", "(ILStairPlans$Stair;)J"⟩ ∈ gT := List.mem_filter.mpr ⟨List.mem_append_right _ (List.mem_append_right _ (List.mem_append_left _ (List.mem_of_getElem? (i := 214) (by rfl))) : Cond.methodLink "StairPlans$RuleSet" 28 ⟨"StairPlans$RuleSet", "sumTimesRises", "(ILStairPlans$Stair;)J"⟩ ∈ tables_1), by rfl⟩
theorem gw_353 : Cond.instanceMethod ⟨"StairPlans$RuleSet", "sumTimesRises", "(ILStairPlans$Stair;)J"⟩ ∈ gT := List.mem_filter.mpr ⟨List.mem_append_right _ (List.mem_append_right _ (List.mem_append_left _ (List.mem_of_getElem? (i := 216) (by rfl))) : Cond.instanceMethod ⟨"StairPlans$RuleSet", "sumTimesRises", "(ILStairPlans$Stair;)J"⟩ ∈ tables_1), by rfl⟩
theorem gw_354 : Cond.code ⟨"StairPlans$RuleSet", "sumTimesRises", "(ILStairPlans$Stair;)J"⟩ prog_4_method_7_code 5 (some .long) ∈ gT := List.mem_filter.mpr ⟨List.mem_append_right _ (List.mem_append_right _ (List.mem_append_left _ (List.mem_of_getElem? (i := 217) (by rfl))) : Cond.code ⟨"StairPlans$RuleSet", "sumTimesRises", "(ILStairPlans$Stair;)J"⟩ prog_4_method_7_code 5 (some .long) ∈ tables_1), by rfl⟩
theorem gw_355 : Cond.methodLink "StairPlans" 120 ⟨"StairPlans$Fraction", "take", "(JJ)V"⟩ ∈ gT := List.mem_filter.mpr ⟨List.mem_append_right _ (List.mem_append_right _ (List.mem_append_left _ (List.mem_of_getElem? (i := 218) (by rfl))) : Cond.methodLink "StairPlans" 120 ⟨"StairPlans$Fraction", "take", "(JJ)V"⟩ ∈ tables_1), by rfl⟩
theorem gw_356 : Cond.instanceMethod ⟨"StairPlans$Fraction", "take", "(JJ)V"⟩ ∈ gT := List.mem_filter.mpr ⟨List.mem_append_right _ (List.mem_append_right _ (List.mem_append_left _ (List.mem_of_getElem? (i := 219) (by rfl))) : Cond.instanceMethod ⟨"StairPlans$Fraction", "take", "(JJ)V"⟩ ∈ tables_1), by rfl⟩
theorem gw_357 : Cond.selects "StairPlans$Fraction" ⟨"StairPlans$Fraction", "take", "(JJ)V"⟩ ⟨"StairPlans$Fraction", "take", "(JJ)V"⟩ ∈ gT := List.mem_filter.mpr ⟨List.mem_append_right _ (List.mem_append_right _ (List.mem_append_left _ (List.mem_of_getElem? (i := 220) (by rfl))) : Cond.selects "StairPlans$Fraction" ⟨"StairPlans$Fraction", "take", "(JJ)V"⟩ ⟨"StairPlans$Fraction", "take", "(JJ)V"⟩ ∈ tables_1), by rfl⟩
theorem gw_358 : Cond.code ⟨"StairPlans$Fraction", "take", "(JJ)V"⟩ prog_3_method_2_code 7 none ∈ gT := List.mem_filter.mpr ⟨List.mem_append_right _ (List.mem_append_right _ (List.mem_append_left _ (List.mem_of_getElem? (i := 221) (by rfl))) : Cond.code ⟨"StairPlans$Fraction", "take", "(JJ)V"⟩ prog_3_method_2_code 7 none ∈ tables_1), by rfl⟩
theorem gw_359 : Cond.methodLink "StairPlans$Fraction" 16 ⟨"StairPlans$Fraction", "commonDivisor", "(JJ)J"⟩ ∈ gT := List.mem_filter.mpr ⟨List.mem_append_right _ (List.mem_append_right _ (List.mem_append_left _ (List.mem_of_getElem? (i := 222) (by rfl))) : Cond.methodLink "StairPlans$Fraction" 16 ⟨"StairPlans$Fraction", "commonDivisor", "(JJ)J"⟩ ∈ tables_1), by rfl⟩
theorem gw_360 : Cond.static ⟨"StairPlans$Fraction", "commonDivisor", "(JJ)J"⟩ ∈ gT := List.mem_filter.mpr ⟨List.mem_append_right _ (List.mem_append_right _ (List.mem_append_left _ (List.mem_of_getElem? (i := 223) (by rfl))) : Cond.static ⟨"StairPlans$Fraction", "commonDivisor", "(JJ)J"⟩ ∈ tables_1), by rfl⟩
theorem gw_361 : Cond.code ⟨"StairPlans$Fraction", "commonDivisor", "(JJ)J"⟩ prog_3_method_3_code 11 (some .long) ∈ gT := List.mem_filter.mpr ⟨List.mem_append_right _ (List.mem_append_right _ (List.mem_append_left _ (List.mem_of_getElem? (i := 224) (by rfl))) : Cond.code ⟨"StairPlans$Fraction", "commonDivisor", "(JJ)J"⟩ prog_3_method_3_code 11 (some .long) ∈ tables_1), by rfl⟩
theorem gw_362 : Cond.methodLink "StairPlans" 124 ⟨"java/lang/Math", "max", "(II)I"⟩ ∈ gT := List.mem_filter.mpr ⟨List.mem_append_right _ (List.mem_append_right _ (List.mem_append_left _ (List.mem_of_getElem? (i := 225) (by rfl))) : Cond.methodLink "StairPlans" 124 ⟨"java/lang/Math", "max", "(II)I"⟩ ∈ tables_1), by rfl⟩
theorem gw_363 : Cond.methodLink "StairPlansLaw" 91 ⟨"StairPlansLaw", "rise", "(LStairPlans;I[J)I"⟩ ∈ gT := List.mem_filter.mpr ⟨List.mem_append_right _ (List.mem_append_right _ (List.mem_append_left _ (List.mem_of_getElem? (i := 226) (by rfl))) : Cond.methodLink "StairPlansLaw" 91 ⟨"StairPlansLaw", "rise", "(LStairPlans;I[J)I"⟩ ∈ tables_1), by rfl⟩
theorem gw_364 : Cond.static ⟨"StairPlansLaw", "rise", "(LStairPlans;I[J)I"⟩ ∈ gT := List.mem_filter.mpr ⟨List.mem_append_right _ (List.mem_append_right _ (List.mem_append_left _ (List.mem_of_getElem? (i := 227) (by rfl))) : Cond.static ⟨"StairPlansLaw", "rise", "(LStairPlans;I[J)I"⟩ ∈ tables_1), by rfl⟩
theorem gw_365 : Cond.codeWith ⟨"StairPlansLaw", "rise", "(LStairPlans;I[J)I"⟩ method_5_code 4 (some .int) [(0, 8, 11, 19), (0, 8, 14, 25)] ∈ gT := List.mem_filter.mpr ⟨List.mem_append_right _ (List.mem_append_right _ (List.mem_append_left _ (List.mem_of_getElem? (i := 228) (by rfl))) : Cond.codeWith ⟨"StairPlansLaw", "rise", "(LStairPlans;I[J)I"⟩ method_5_code 4 (some .int) [(0, 8, 11, 19), (0, 8, 14, 25)] ∈ tables_1), by rfl⟩
theorem gw_366 : Cond.classLink "StairPlansLaw" 25 "java/lang/IndexOutOfBoundsException" ∈ gT := List.mem_filter.mpr ⟨List.mem_append_right _ (List.mem_append_right _ (List.mem_append_left _ (List.mem_of_getElem? (i := 229) (by rfl))) : Cond.classLink "StairPlansLaw" 25 "java/lang/IndexOutOfBoundsException" ∈ tables_1), by rfl⟩
theorem gw_367 : Cond.methodLink "StairPlansLaw" 21 ⟨"StairPlans", "rise", "(I)J"⟩ ∈ gT := List.mem_filter.mpr ⟨List.mem_append_right _ (List.mem_append_right _ (List.mem_append_left _ (List.mem_of_getElem? (i := 230) (by rfl))) : Cond.methodLink "StairPlansLaw" 21 ⟨"StairPlans", "rise", "(I)J"⟩ ∈ tables_1), by rfl⟩
theorem gw_368 : Cond.instanceMethod ⟨"StairPlans", "rise", "(I)J"⟩ ∈ gT := List.mem_filter.mpr ⟨List.mem_append_right _ (List.mem_append_right _ (List.mem_append_left _ (List.mem_of_getElem? (i := 231) (by rfl))) : Cond.instanceMethod ⟨"StairPlans", "rise", "(I)J"⟩ ∈ tables_1), by rfl⟩
theorem gw_369 : Cond.selects "StairPlans" ⟨"StairPlans", "rise", "(I)J"⟩ ⟨"StairPlans", "rise", "(I)J"⟩ ∈ gT := List.mem_filter.mpr ⟨List.mem_append_right _ (List.mem_append_right _ (List.mem_append_left _ (List.mem_of_getElem? (i := 232) (by rfl))) : Cond.selects "StairPlans" ⟨"StairPlans", "rise", "(I)J"⟩ ⟨"StairPlans", "rise", "(I)J"⟩ ∈ tables_1), by rfl⟩
theorem gw_370 : Cond.code ⟨"StairPlans", "rise", "(I)J"⟩ prog_1_method_6_code 2 (some .long) ∈ gT := List.mem_filter.mpr ⟨List.mem_append_right _ (List.mem_append_right _ (List.mem_append_left _ (List.mem_of_getElem? (i := 233) (by rfl))) : Cond.code ⟨"StairPlans", "rise", "(I)J"⟩ prog_1_method_6_code 2 (some .long) ∈ tables_1), by rfl⟩
theorem gw_371 : Cond.methodLink "StairPlans" 130 ⟨"StairPlans", "requirePlan", "()V"⟩ ∈ gT := List.mem_filter.mpr ⟨List.mem_append_right _ (List.mem_append_right _ (List.mem_append_left _ (List.mem_of_getElem? (i := 234) (by rfl))) : Cond.methodLink "StairPlans" 130 ⟨"StairPlans", "requirePlan", "()V"⟩ ∈ tables_1), by rfl⟩
theorem gw_372 : Cond.instanceMethod ⟨"StairPlans", "requirePlan", "()V"⟩ ∈ gT := List.mem_filter.mpr ⟨List.mem_append_right _ (List.mem_append_right _ (List.mem_append_left _ (List.mem_of_getElem? (i := 236) (by rfl))) : Cond.instanceMethod ⟨"StairPlans", "requirePlan", "()V"⟩ ∈ tables_1), by rfl⟩
theorem gw_373 : Cond.code ⟨"StairPlans", "requirePlan", "()V"⟩ prog_1_method_18_code 1 none ∈ gT := List.mem_filter.mpr ⟨List.mem_append_right _ (List.mem_append_right _ (List.mem_append_left _ (List.mem_of_getElem? (i := 237) (by rfl))) : Cond.code ⟨"StairPlans", "requirePlan", "()V"⟩ prog_1_method_18_code 1 none ∈ tables_1), by rfl⟩
theorem gw_374 : Cond.methodLink "StairPlans" 133 ⟨"StairPlans", "requireIndex", "(II)V"⟩ ∈ gT := List.mem_filter.mpr ⟨List.mem_append_right _ (List.mem_append_right _ (List.mem_append_left _ (List.mem_of_getElem? (i := 239) (by rfl))) : Cond.methodLink "StairPlans" 133 ⟨"StairPlans", "requireIndex", "(II)V"⟩ ∈ tables_1), by rfl⟩
theorem gw_375 : Cond.static ⟨"StairPlans", "requireIndex", "(II)V"⟩ ∈ gT := List.mem_filter.mpr ⟨List.mem_append_right _ (List.mem_append_right _ (List.mem_append_right _ (List.mem_append_left _ (List.mem_of_getElem? (i := 0) (by rfl)))) : Cond.static ⟨"StairPlans", "requireIndex", "(II)V"⟩ ∈ tables_1), by rfl⟩
theorem gw_376 : Cond.code ⟨"StairPlans", "requireIndex", "(II)V"⟩ prog_1_method_20_code 2 none ∈ gT := List.mem_filter.mpr ⟨List.mem_append_right _ (List.mem_append_right _ (List.mem_append_right _ (List.mem_append_left _ (List.mem_of_getElem? (i := 1) (by rfl)))) : Cond.code ⟨"StairPlans", "requireIndex", "(II)V"⟩ prog_1_method_20_code 2 none ∈ tables_1), by rfl⟩
theorem gw_377 : Cond.classLink "StairPlans" 239 "java/lang/IndexOutOfBoundsException" ∈ gT := List.mem_filter.mpr ⟨List.mem_append_right _ (List.mem_append_right _ (List.mem_append_right _ (List.mem_append_left _ (List.mem_of_getElem? (i := 2) (by rfl)))) : Cond.classLink "StairPlans" 239 "java/lang/IndexOutOfBoundsException" ∈ tables_1), by rfl⟩
theorem gw_378 : Cond.instantiable "java/lang/IndexOutOfBoundsException" 6 ∈ gT := List.mem_filter.mpr ⟨List.mem_append_right _ (List.mem_append_right _ (List.mem_append_right _ (List.mem_append_left _ (List.mem_of_getElem? (i := 3) (by rfl)))) : Cond.instantiable "java/lang/IndexOutOfBoundsException" 6 ∈ tables_1), by rfl⟩
theorem gw_379 : Cond.selects "java/lang/IndexOutOfBoundsException" ⟨"java/lang/Throwable", "fillInStackTrace", "(I)Ljava/lang/Throwable;"⟩ ⟨"java/lang/Throwable", "fillInStackTrace", "(I)Ljava/lang/Throwable;"⟩ ∈ gT := List.mem_filter.mpr ⟨List.mem_append_right _ (List.mem_append_right _ (List.mem_append_right _ (List.mem_append_left _ (List.mem_of_getElem? (i := 5) (by rfl)))) : Cond.selects "java/lang/IndexOutOfBoundsException" ⟨"java/lang/Throwable", "fillInStackTrace", "(I)Ljava/lang/Throwable;"⟩ ⟨"java/lang/Throwable", "fillInStackTrace", "(I)Ljava/lang/Throwable;"⟩ ∈ tables_1), by rfl⟩
theorem gw_380 : Cond.lays "java/lang/IndexOutOfBoundsException" "java/lang/Throwable" "cause" "Ljava/lang/Throwable;" ∈ gT := List.mem_filter.mpr ⟨List.mem_append_right _ (List.mem_append_right _ (List.mem_append_right _ (List.mem_append_left _ (List.mem_of_getElem? (i := 6) (by rfl)))) : Cond.lays "java/lang/IndexOutOfBoundsException" "java/lang/Throwable" "cause" "Ljava/lang/Throwable;" ∈ tables_1), by rfl⟩
theorem gw_381 : Cond.lays "java/lang/IndexOutOfBoundsException" "java/lang/Throwable" "stackTrace" "[Ljava/lang/StackTraceElement;" ∈ gT := List.mem_filter.mpr ⟨List.mem_append_right _ (List.mem_append_right _ (List.mem_append_right _ (List.mem_append_left _ (List.mem_of_getElem? (i := 7) (by rfl)))) : Cond.lays "java/lang/IndexOutOfBoundsException" "java/lang/Throwable" "stackTrace" "[Ljava/lang/StackTraceElement;" ∈ tables_1), by rfl⟩
theorem gw_382 : Cond.lays "java/lang/IndexOutOfBoundsException" "java/lang/Throwable" "suppressedExceptions" "Ljava/util/List;" ∈ gT := List.mem_filter.mpr ⟨List.mem_append_right _ (List.mem_append_right _ (List.mem_append_right _ (List.mem_append_left _ (List.mem_of_getElem? (i := 8) (by rfl)))) : Cond.lays "java/lang/IndexOutOfBoundsException" "java/lang/Throwable" "suppressedExceptions" "Ljava/util/List;" ∈ tables_1), by rfl⟩
theorem gw_383 : Cond.lays "java/lang/IndexOutOfBoundsException" "java/lang/Throwable" "detailMessage" "Ljava/lang/String;" ∈ gT := List.mem_filter.mpr ⟨List.mem_append_right _ (List.mem_append_right _ (List.mem_append_right _ (List.mem_append_left _ (List.mem_of_getElem? (i := 9) (by rfl)))) : Cond.lays "java/lang/IndexOutOfBoundsException" "java/lang/Throwable" "detailMessage" "Ljava/lang/String;" ∈ tables_1), by rfl⟩
theorem gw_384 : Cond.lays "java/lang/IndexOutOfBoundsException" "java/lang/Throwable" "backtrace" "Ljava/lang/Object;" ∈ gT := List.mem_filter.mpr ⟨List.mem_append_right _ (List.mem_append_right _ (List.mem_append_right _ (List.mem_append_left _ (List.mem_of_getElem? (i := 10) (by rfl)))) : Cond.lays "java/lang/IndexOutOfBoundsException" "java/lang/Throwable" "backtrace" "Ljava/lang/Object;" ∈ tables_1), by rfl⟩
theorem gw_385 : Cond.methodLink "StairPlans" 243 ⟨"java/lang/IndexOutOfBoundsException", "<init>", "(Ljava/lang/String;)V"⟩ ∈ gT := List.mem_filter.mpr ⟨List.mem_append_right _ (List.mem_append_right _ (List.mem_append_right _ (List.mem_append_left _ (List.mem_of_getElem? (i := 12) (by rfl)))) : Cond.methodLink "StairPlans" 243 ⟨"java/lang/IndexOutOfBoundsException", "<init>", "(Ljava/lang/String;)V"⟩ ∈ tables_1), by rfl⟩
theorem gw_386 : Cond.instanceMethod ⟨"java/lang/IndexOutOfBoundsException", "<init>", "(Ljava/lang/String;)V"⟩ ∈ gT := List.mem_filter.mpr ⟨List.mem_append_right _ (List.mem_append_right _ (List.mem_append_right _ (List.mem_append_left _ (List.mem_of_getElem? (i := 13) (by rfl)))) : Cond.instanceMethod ⟨"java/lang/IndexOutOfBoundsException", "<init>", "(Ljava/lang/String;)V"⟩ ∈ tables_1), by rfl⟩
theorem gw_387 : Cond.code ⟨"java/lang/IndexOutOfBoundsException", "<init>", "(Ljava/lang/String;)V"⟩ prog_13_method_2_code 2 none ∈ gT := List.mem_filter.mpr ⟨List.mem_append_right _ (List.mem_append_right _ (List.mem_append_right _ (List.mem_append_left _ (List.mem_of_getElem? (i := 14) (by rfl)))) : Cond.code ⟨"java/lang/IndexOutOfBoundsException", "<init>", "(Ljava/lang/String;)V"⟩ prog_13_method_2_code 2 none ∈ tables_1), by rfl⟩
theorem gw_388 : Cond.methodLink "java/lang/IndexOutOfBoundsException" 7 ⟨"java/lang/RuntimeException", "<init>", "(Ljava/lang/String;)V"⟩ ∈ gT := List.mem_filter.mpr ⟨List.mem_append_right _ (List.mem_append_right _ (List.mem_append_right _ (List.mem_append_left _ (List.mem_of_getElem? (i := 15) (by rfl)))) : Cond.methodLink "java/lang/IndexOutOfBoundsException" 7 ⟨"java/lang/RuntimeException", "<init>", "(Ljava/lang/String;)V"⟩ ∈ tables_1), by rfl⟩
theorem gw_389 : Cond.lays "java/lang/IndexOutOfBoundsException" "java/lang/Throwable" "depth" "I" ∈ gT := List.mem_filter.mpr ⟨List.mem_append_right _ (List.mem_append_right _ (List.mem_append_right _ (List.mem_append_left _ (List.mem_of_getElem? (i := 16) (by rfl)))) : Cond.lays "java/lang/IndexOutOfBoundsException" "java/lang/Throwable" "depth" "I" ∈ tables_1), by rfl⟩
theorem gw_390 : Cond.methodLink "StairPlansLaw" 95 ⟨"StairPlansLaw", "step", "(LStairPlans;II[J)I"⟩ ∈ gT := List.mem_filter.mpr ⟨List.mem_append_right _ (List.mem_append_right _ (List.mem_append_right _ (List.mem_append_left _ (List.mem_of_getElem? (i := 18) (by rfl)))) : Cond.methodLink "StairPlansLaw" 95 ⟨"StairPlansLaw", "step", "(LStairPlans;II[J)I"⟩ ∈ tables_1), by rfl⟩
theorem gw_391 : Cond.static ⟨"StairPlansLaw", "step", "(LStairPlans;II[J)I"⟩ ∈ gT := List.mem_filter.mpr ⟨List.mem_append_right _ (List.mem_append_right _ (List.mem_append_right _ (List.mem_append_left _ (List.mem_of_getElem? (i := 19) (by rfl)))) : Cond.static ⟨"StairPlansLaw", "step", "(LStairPlans;II[J)I"⟩ ∈ tables_1), by rfl⟩
theorem gw_392 : Cond.codeWith ⟨"StairPlansLaw", "step", "(LStairPlans;II[J)I"⟩ method_6_code 5 (some .int) [(0, 9, 12, 19), (0, 9, 16, 25), (0, 9, 20, 13)] ∈ gT := List.mem_filter.mpr ⟨List.mem_append_right _ (List.mem_append_right _ (List.mem_append_right _ (List.mem_append_left _ (List.mem_of_getElem? (i := 20) (by rfl)))) : Cond.codeWith ⟨"StairPlansLaw", "step", "(LStairPlans;II[J)I"⟩ method_6_code 5 (some .int) [(0, 9, 12, 19), (0, 9, 16, 25), (0, 9, 20, 13)] ∈ tables_1), by rfl⟩
theorem gw_393 : Cond.methodLink "StairPlansLaw" 27 ⟨"StairPlans", "step", "(II)J"⟩ ∈ gT := List.mem_filter.mpr ⟨List.mem_append_right _ (List.mem_append_right _ (List.mem_append_right _ (List.mem_append_left _ (List.mem_of_getElem? (i := 21) (by rfl)))) : Cond.methodLink "StairPlansLaw" 27 ⟨"StairPlans", "step", "(II)J"⟩ ∈ tables_1), by rfl⟩
theorem gw_394 : Cond.instanceMethod ⟨"StairPlans", "step", "(II)J"⟩ ∈ gT := List.mem_filter.mpr ⟨List.mem_append_right _ (List.mem_append_right _ (List.mem_append_right _ (List.mem_append_left _ (List.mem_of_getElem? (i := 22) (by rfl)))) : Cond.instanceMethod ⟨"StairPlans", "step", "(II)J"⟩ ∈ tables_1), by rfl⟩
theorem gw_395 : Cond.selects "StairPlans" ⟨"StairPlans", "step", "(II)J"⟩ ⟨"StairPlans", "step", "(II)J"⟩ ∈ gT := List.mem_filter.mpr ⟨List.mem_append_right _ (List.mem_append_right _ (List.mem_append_right _ (List.mem_append_left _ (List.mem_of_getElem? (i := 23) (by rfl)))) : Cond.selects "StairPlans" ⟨"StairPlans", "step", "(II)J"⟩ ⟨"StairPlans", "step", "(II)J"⟩ ∈ tables_1), by rfl⟩
theorem gw_396 : Cond.code ⟨"StairPlans", "step", "(II)J"⟩ prog_1_method_7_code 3 (some .long) ∈ gT := List.mem_filter.mpr ⟨List.mem_append_right _ (List.mem_append_right _ (List.mem_append_right _ (List.mem_append_left _ (List.mem_of_getElem? (i := 24) (by rfl)))) : Cond.code ⟨"StairPlans", "step", "(II)J"⟩ prog_1_method_7_code 3 (some .long) ∈ tables_1), by rfl⟩
theorem gw_397 : Cond.methodLink "StairPlans" 143 ⟨"StairPlans$Stair", "treads", "()I"⟩ ∈ gT := List.mem_filter.mpr ⟨List.mem_append_right _ (List.mem_append_right _ (List.mem_append_right _ (List.mem_append_left _ (List.mem_of_getElem? (i := 25) (by rfl)))) : Cond.methodLink "StairPlans" 143 ⟨"StairPlans$Stair", "treads", "()I"⟩ ∈ tables_1), by rfl⟩
theorem gw_398 : Cond.methodLink "StairPlans" 146 ⟨"StairPlans$Stair", "leastX", "(I)J"⟩ ∈ gT := List.mem_filter.mpr ⟨List.mem_append_right _ (List.mem_append_right _ (List.mem_append_right _ (List.mem_append_left _ (List.mem_of_getElem? (i := 26) (by rfl)))) : Cond.methodLink "StairPlans" 146 ⟨"StairPlans$Stair", "leastX", "(I)J"⟩ ∈ tables_1), by rfl⟩
theorem gw_399 : Cond.instanceMethod ⟨"StairPlans$Stair", "leastX", "(I)J"⟩ ∈ gT := List.mem_filter.mpr ⟨List.mem_append_right _ (List.mem_append_right _ (List.mem_append_right _ (List.mem_append_left _ (List.mem_of_getElem? (i := 27) (by rfl)))) : Cond.instanceMethod ⟨"StairPlans$Stair", "leastX", "(I)J"⟩ ∈ tables_1), by rfl⟩
theorem gw_400 : Cond.selects "StairPlans$Stair" ⟨"StairPlans$Stair", "leastX", "(I)J"⟩ ⟨"StairPlans$Stair", "leastX", "(I)J"⟩ ∈ gT := List.mem_filter.mpr ⟨List.mem_append_right _ (List.mem_append_right _ (List.mem_append_right _ (List.mem_append_left _ (List.mem_of_getElem? (i := 28) (by rfl)))) : Cond.selects "StairPlans$Stair" ⟨"StairPlans$Stair", "leastX", "(I)J"⟩ ⟨"StairPlans$Stair", "leastX", "(I)J"⟩ ∈ tables_1), by rfl⟩
theorem gw_401 : Cond.code ⟨"StairPlans$Stair", "leastX", "(I)J"⟩ prog_6_method_10_code 2 (some .long) ∈ gT := List.mem_filter.mpr ⟨List.mem_append_right _ (List.mem_append_right _ (List.mem_append_right _ (List.mem_append_left _ (List.mem_of_getElem? (i := 29) (by rfl)))) : Cond.code ⟨"StairPlans$Stair", "leastX", "(I)J"⟩ prog_6_method_10_code 2 (some .long) ∈ tables_1), by rfl⟩
theorem gw_402 : Cond.methodLink "StairPlans$Stair" 47 ⟨"StairPlans$Stair", "shape", "(I)I"⟩ ∈ gT := List.mem_filter.mpr ⟨List.mem_append_right _ (List.mem_append_right _ (List.mem_append_right _ (List.mem_append_left _ (List.mem_of_getElem? (i := 30) (by rfl)))) : Cond.methodLink "StairPlans$Stair" 47 ⟨"StairPlans$Stair", "shape", "(I)I"⟩ ∈ tables_1), by rfl⟩
theorem gw_403 : Cond.instanceMethod ⟨"StairPlans$Stair", "shape", "(I)I"⟩ ∈ gT := List.mem_filter.mpr ⟨List.mem_append_right _ (List.mem_append_right _ (List.mem_append_right _ (List.mem_append_left _ (List.mem_of_getElem? (i := 31) (by rfl)))) : Cond.instanceMethod ⟨"StairPlans$Stair", "shape", "(I)I"⟩ ∈ tables_1), by rfl⟩
theorem gw_404 : Cond.selects "StairPlans$Stair" ⟨"StairPlans$Stair", "shape", "(I)I"⟩ ⟨"StairPlans$Stair", "shape", "(I)I"⟩ ∈ gT := List.mem_filter.mpr ⟨List.mem_append_right _ (List.mem_append_right _ (List.mem_append_right _ (List.mem_append_left _ (List.mem_of_getElem? (i := 32) (by rfl)))) : Cond.selects "StairPlans$Stair" ⟨"StairPlans$Stair", "shape", "(I)I"⟩ ⟨"StairPlans$Stair", "shape", "(I)I"⟩ ∈ tables_1), by rfl⟩
theorem gw_405 : Cond.code ⟨"StairPlans$Stair", "shape", "(I)I"⟩ prog_6_method_9_code 2 (some .int) ∈ gT := List.mem_filter.mpr ⟨List.mem_append_right _ (List.mem_append_right _ (List.mem_append_right _ (List.mem_append_left _ (List.mem_of_getElem? (i := 33) (by rfl)))) : Cond.code ⟨"StairPlans$Stair", "shape", "(I)I"⟩ prog_6_method_9_code 2 (some .int) ∈ tables_1), by rfl⟩
theorem gw_406 : Cond.methodLink "StairPlans$Stair" 51 ⟨"StairPlans$Stair", "cornerX", "()J"⟩ ∈ gT := List.mem_filter.mpr ⟨List.mem_append_right _ (List.mem_append_right _ (List.mem_append_right _ (List.mem_append_left _ (List.mem_of_getElem? (i := 34) (by rfl)))) : Cond.methodLink "StairPlans$Stair" 51 ⟨"StairPlans$Stair", "cornerX", "()J"⟩ ∈ tables_1), by rfl⟩
theorem gw_407 : Cond.instanceMethod ⟨"StairPlans$Stair", "cornerX", "()J"⟩ ∈ gT := List.mem_filter.mpr ⟨List.mem_append_right _ (List.mem_append_right _ (List.mem_append_right _ (List.mem_append_left _ (List.mem_of_getElem? (i := 36) (by rfl)))) : Cond.instanceMethod ⟨"StairPlans$Stair", "cornerX", "()J"⟩ ∈ tables_1), by rfl⟩
theorem gw_408 : Cond.code ⟨"StairPlans$Stair", "cornerX", "()J"⟩ prog_6_method_8_code 1 (some .long) ∈ gT := List.mem_filter.mpr ⟨List.mem_append_right _ (List.mem_append_right _ (List.mem_append_right _ (List.mem_append_left _ (List.mem_of_getElem? (i := 37) (by rfl)))) : Cond.code ⟨"StairPlans$Stair", "cornerX", "()J"⟩ prog_6_method_8_code 1 (some .long) ∈ tables_1), by rfl⟩
theorem gw_409 : Cond.methodLink "StairPlans" 150 ⟨"StairPlans$Stair", "leastY", "(I)J"⟩ ∈ gT := List.mem_filter.mpr ⟨List.mem_append_right _ (List.mem_append_right _ (List.mem_append_right _ (List.mem_append_left _ (List.mem_of_getElem? (i := 38) (by rfl)))) : Cond.methodLink "StairPlans" 150 ⟨"StairPlans$Stair", "leastY", "(I)J"⟩ ∈ tables_1), by rfl⟩
theorem gw_410 : Cond.instanceMethod ⟨"StairPlans$Stair", "leastY", "(I)J"⟩ ∈ gT := List.mem_filter.mpr ⟨List.mem_append_right _ (List.mem_append_right _ (List.mem_append_right _ (List.mem_append_left _ (List.mem_of_getElem? (i := 39) (by rfl)))) : Cond.instanceMethod ⟨"StairPlans$Stair", "leastY", "(I)J"⟩ ∈ tables_1), by rfl⟩
theorem gw_411 : Cond.selects "StairPlans$Stair" ⟨"StairPlans$Stair", "leastY", "(I)J"⟩ ⟨"StairPlans$Stair", "leastY", "(I)J"⟩ ∈ gT := List.mem_filter.mpr ⟨List.mem_append_right _ (List.mem_append_right _ (List.mem_append_right _ (List.mem_append_left _ (List.mem_of_getElem? (i := 40) (by rfl)))) : Cond.selects "StairPlans$Stair" ⟨"StairPlans$Stair", "leastY", "(I)J"⟩ ⟨"StairPlans$Stair", "leastY", "(I)J"⟩ ∈ tables_1), by rfl⟩
theorem gw_412 : Cond.code ⟨"StairPlans$Stair", "leastY", "(I)J"⟩ prog_6_method_12_code 2 (some .long) ∈ gT := List.mem_filter.mpr ⟨List.mem_append_right _ (List.mem_append_right _ (List.mem_append_right _ (List.mem_append_left _ (List.mem_of_getElem? (i := 41) (by rfl)))) : Cond.code ⟨"StairPlans$Stair", "leastY", "(I)J"⟩ prog_6_method_12_code 2 (some .long) ∈ tables_1), by rfl⟩
theorem gw_413 : Cond.methodLink "StairPlans" 153 ⟨"StairPlans$Stair", "greatestX", "(I)J"⟩ ∈ gT := List.mem_filter.mpr ⟨List.mem_append_right _ (List.mem_append_right _ (List.mem_append_right _ (List.mem_append_left _ (List.mem_of_getElem? (i := 42) (by rfl)))) : Cond.methodLink "StairPlans" 153 ⟨"StairPlans$Stair", "greatestX", "(I)J"⟩ ∈ tables_1), by rfl⟩
theorem gw_414 : Cond.instanceMethod ⟨"StairPlans$Stair", "greatestX", "(I)J"⟩ ∈ gT := List.mem_filter.mpr ⟨List.mem_append_right _ (List.mem_append_right _ (List.mem_append_right _ (List.mem_append_left _ (List.mem_of_getElem? (i := 43) (by rfl)))) : Cond.instanceMethod ⟨"StairPlans$Stair", "greatestX", "(I)J"⟩ ∈ tables_1), by rfl⟩
theorem gw_415 : Cond.selects "StairPlans$Stair" ⟨"StairPlans$Stair", "greatestX", "(I)J"⟩ ⟨"StairPlans$Stair", "greatestX", "(I)J"⟩ ∈ gT := List.mem_filter.mpr ⟨List.mem_append_right _ (List.mem_append_right _ (List.mem_append_right _ (List.mem_append_left _ (List.mem_of_getElem? (i := 44) (by rfl)))) : Cond.selects "StairPlans$Stair" ⟨"StairPlans$Stair", "greatestX", "(I)J"⟩ ⟨"StairPlans$Stair", "greatestX", "(I)J"⟩ ∈ tables_1), by rfl⟩
theorem gw_416 : Cond.code ⟨"StairPlans$Stair", "greatestX", "(I)J"⟩ prog_6_method_11_code 2 (some .long) ∈ gT := List.mem_filter.mpr ⟨List.mem_append_right _ (List.mem_append_right _ (List.mem_append_right _ (List.mem_append_left _ (List.mem_of_getElem? (i := 45) (by rfl)))) : Cond.code ⟨"StairPlans$Stair", "greatestX", "(I)J"⟩ prog_6_method_11_code 2 (some .long) ∈ tables_1), by rfl⟩
theorem gw_417 : Cond.methodLink "StairPlans" 156 ⟨"StairPlans$Stair", "greatestY", "(I)J"⟩ ∈ gT := List.mem_filter.mpr ⟨List.mem_append_right _ (List.mem_append_right _ (List.mem_append_right _ (List.mem_append_left _ (List.mem_of_getElem? (i := 46) (by rfl)))) : Cond.methodLink "StairPlans" 156 ⟨"StairPlans$Stair", "greatestY", "(I)J"⟩ ∈ tables_1), by rfl⟩
theorem gw_418 : Cond.instanceMethod ⟨"StairPlans$Stair", "greatestY", "(I)J"⟩ ∈ gT := List.mem_filter.mpr ⟨List.mem_append_right _ (List.mem_append_right _ (List.mem_append_right _ (List.mem_append_left _ (List.mem_of_getElem? (i := 47) (by rfl)))) : Cond.instanceMethod ⟨"StairPlans$Stair", "greatestY", "(I)J"⟩ ∈ tables_1), by rfl⟩
theorem gw_419 : Cond.selects "StairPlans$Stair" ⟨"StairPlans$Stair", "greatestY", "(I)J"⟩ ⟨"StairPlans$Stair", "greatestY", "(I)J"⟩ ∈ gT := List.mem_filter.mpr ⟨List.mem_append_right _ (List.mem_append_right _ (List.mem_append_right _ (List.mem_append_left _ (List.mem_of_getElem? (i := 48) (by rfl)))) : Cond.selects "StairPlans$Stair" ⟨"StairPlans$Stair", "greatestY", "(I)J"⟩ ⟨"StairPlans$Stair", "greatestY", "(I)J"⟩ ∈ tables_1), by rfl⟩
theorem gw_420 : Cond.code ⟨"StairPlans$Stair", "greatestY", "(I)J"⟩ prog_6_method_13_code 2 (some .long) ∈ gT := List.mem_filter.mpr ⟨List.mem_append_right _ (List.mem_append_right _ (List.mem_append_right _ (List.mem_append_left _ (List.mem_of_getElem? (i := 49) (by rfl)))) : Cond.code ⟨"StairPlans$Stair", "greatestY", "(I)J"⟩ prog_6_method_13_code 2 (some .long) ∈ tables_1), by rfl⟩
theorem gw_421 : Cond.methodLink "StairPlans$Stair" 55 ⟨"StairPlans$Stair", "leastY", "(I)J"⟩ ∈ gT := List.mem_filter.mpr ⟨List.mem_append_right _ (List.mem_append_right _ (List.mem_append_right _ (List.mem_append_left _ (List.mem_of_getElem? (i := 50) (by rfl)))) : Cond.methodLink "StairPlans$Stair" 55 ⟨"StairPlans$Stair", "leastY", "(I)J"⟩ ∈ tables_1), by rfl⟩
theorem gw_422 : Cond.methodLink "StairPlans" 159 ⟨"StairPlans$Stair", "shape", "(I)I"⟩ ∈ gT := List.mem_filter.mpr ⟨List.mem_append_right _ (List.mem_append_right _ (List.mem_append_right _ (List.mem_append_left _ (List.mem_of_getElem? (i := 51) (by rfl)))) : Cond.methodLink "StairPlans" 159 ⟨"StairPlans$Stair", "shape", "(I)I"⟩ ∈ tables_1), by rfl⟩
theorem gw_423 : Cond.methodLink "StairPlans" 163 ⟨"StairPlans$Stair", "heightTimesRises", "(I)J"⟩ ∈ gT := List.mem_filter.mpr ⟨List.mem_append_right _ (List.mem_append_right _ (List.mem_append_right _ (List.mem_append_left _ (List.mem_of_getElem? (i := 52) (by rfl)))) : Cond.methodLink "StairPlans" 163 ⟨"StairPlans$Stair", "heightTimesRises", "(I)J"⟩ ∈ tables_1), by rfl⟩
theorem gw_424 : Cond.instanceMethod ⟨"StairPlans$Stair", "heightTimesRises", "(I)J"⟩ ∈ gT := List.mem_filter.mpr ⟨List.mem_append_right _ (List.mem_append_right _ (List.mem_append_right _ (List.mem_append_left _ (List.mem_of_getElem? (i := 53) (by rfl)))) : Cond.instanceMethod ⟨"StairPlans$Stair", "heightTimesRises", "(I)J"⟩ ∈ tables_1), by rfl⟩
theorem gw_425 : Cond.selects "StairPlans$Stair" ⟨"StairPlans$Stair", "heightTimesRises", "(I)J"⟩ ⟨"StairPlans$Stair", "heightTimesRises", "(I)J"⟩ ∈ gT := List.mem_filter.mpr ⟨List.mem_append_right _ (List.mem_append_right _ (List.mem_append_right _ (List.mem_append_left _ (List.mem_of_getElem? (i := 54) (by rfl)))) : Cond.selects "StairPlans$Stair" ⟨"StairPlans$Stair", "heightTimesRises", "(I)J"⟩ ⟨"StairPlans$Stair", "heightTimesRises", "(I)J"⟩ ∈ tables_1), by rfl⟩
theorem gw_426 : Cond.code ⟨"StairPlans$Stair", "heightTimesRises", "(I)J"⟩ prog_6_method_14_code 2 (some .long) ∈ gT := List.mem_filter.mpr ⟨List.mem_append_right _ (List.mem_append_right _ (List.mem_append_right _ (List.mem_append_left _ (List.mem_of_getElem? (i := 55) (by rfl)))) : Cond.code ⟨"StairPlans$Stair", "heightTimesRises", "(I)J"⟩ prog_6_method_14_code 2 (some .long) ∈ tables_1), by rfl⟩
theorem gw_427 : Cond.methodLink "StairPlansLaw" 99 ⟨"StairPlansLaw", "winder", "(LStairPlans;II[J)I"⟩ ∈ gT := List.mem_filter.mpr ⟨List.mem_append_right _ (List.mem_append_right _ (List.mem_append_right _ (List.mem_append_left _ (List.mem_of_getElem? (i := 57) (by rfl)))) : Cond.methodLink "StairPlansLaw" 99 ⟨"StairPlansLaw", "winder", "(LStairPlans;II[J)I"⟩ ∈ tables_1), by rfl⟩
theorem gw_428 : Cond.static ⟨"StairPlansLaw", "winder", "(LStairPlans;II[J)I"⟩ ∈ gT := List.mem_filter.mpr ⟨List.mem_append_right _ (List.mem_append_right _ (List.mem_append_right _ (List.mem_append_left _ (List.mem_of_getElem? (i := 58) (by rfl)))) : Cond.static ⟨"StairPlansLaw", "winder", "(LStairPlans;II[J)I"⟩ ∈ tables_1), by rfl⟩
theorem gw_429 : Cond.codeWith ⟨"StairPlansLaw", "winder", "(LStairPlans;II[J)I"⟩ method_7_code 5 (some .int) [(0, 9, 12, 19), (0, 9, 16, 25)] ∈ gT := List.mem_filter.mpr ⟨List.mem_append_right _ (List.mem_append_right _ (List.mem_append_right _ (List.mem_append_left _ (List.mem_of_getElem? (i := 59) (by rfl)))) : Cond.codeWith ⟨"StairPlansLaw", "winder", "(LStairPlans;II[J)I"⟩ method_7_code 5 (some .int) [(0, 9, 12, 19), (0, 9, 16, 25)] ∈ tables_1), by rfl⟩
theorem gw_430 : Cond.methodLink "StairPlansLaw" 31 ⟨"StairPlans", "winder", "(II)J"⟩ ∈ gT := List.mem_filter.mpr ⟨List.mem_append_right _ (List.mem_append_right _ (List.mem_append_right _ (List.mem_append_left _ (List.mem_of_getElem? (i := 60) (by rfl)))) : Cond.methodLink "StairPlansLaw" 31 ⟨"StairPlans", "winder", "(II)J"⟩ ∈ tables_1), by rfl⟩
theorem gw_431 : Cond.instanceMethod ⟨"StairPlans", "winder", "(II)J"⟩ ∈ gT := List.mem_filter.mpr ⟨List.mem_append_right _ (List.mem_append_right _ (List.mem_append_right _ (List.mem_append_left _ (List.mem_of_getElem? (i := 61) (by rfl)))) : Cond.instanceMethod ⟨"StairPlans", "winder", "(II)J"⟩ ∈ tables_1), by rfl⟩
theorem gw_432 : Cond.selects "StairPlans" ⟨"StairPlans", "winder", "(II)J"⟩ ⟨"StairPlans", "winder", "(II)J"⟩ ∈ gT := List.mem_filter.mpr ⟨List.mem_append_right _ (List.mem_append_right _ (List.mem_append_right _ (List.mem_append_left _ (List.mem_of_getElem? (i := 62) (by rfl)))) : Cond.selects "StairPlans" ⟨"StairPlans", "winder", "(II)J"⟩ ⟨"StairPlans", "winder", "(II)J"⟩ ∈ tables_1), by rfl⟩
theorem gw_433 : Cond.code ⟨"StairPlans", "winder", "(II)J"⟩ prog_1_method_8_code 3 (some .long) ∈ gT := List.mem_filter.mpr ⟨List.mem_append_right _ (List.mem_append_right _ (List.mem_append_right _ (List.mem_append_left _ (List.mem_of_getElem? (i := 63) (by rfl)))) : Cond.code ⟨"StairPlans", "winder", "(II)J"⟩ prog_1_method_8_code 3 (some .long) ∈ tables_1), by rfl⟩
theorem gw_434 : Cond.methodLink "StairPlans" 168 ⟨"StairPlans", "requireWinders", "()V"⟩ ∈ gT := List.mem_filter.mpr ⟨List.mem_append_right _ (List.mem_append_right _ (List.mem_append_right _ (List.mem_append_left _ (List.mem_of_getElem? (i := 64) (by rfl)))) : Cond.methodLink "StairPlans" 168 ⟨"StairPlans", "requireWinders", "()V"⟩ ∈ tables_1), by rfl⟩
theorem gw_435 : Cond.instanceMethod ⟨"StairPlans", "requireWinders", "()V"⟩ ∈ gT := List.mem_filter.mpr ⟨List.mem_append_right _ (List.mem_append_right _ (List.mem_append_right _ (List.mem_append_left _ (List.mem_of_getElem? (i := 66) (by rfl)))) : Cond.instanceMethod ⟨"StairPlans", "requireWinders", "()V"⟩ ∈ tables_1), by rfl⟩
theorem gw_436 : Cond.code ⟨"StairPlans", "requireWinders", "()V"⟩ prog_1_method_19_code 1 none ∈ gT := List.mem_filter.mpr ⟨List.mem_append_right _ (List.mem_append_right _ (List.mem_append_right _ (List.mem_append_left _ (List.mem_of_getElem? (i := 67) (by rfl)))) : Cond.code ⟨"StairPlans", "requireWinders", "()V"⟩ prog_1_method_19_code 1 none ∈ tables_1), by rfl⟩
theorem gw_437 : Cond.methodLink "StairPlans" 229 ⟨"StairPlans$Stair", "winders", "()I"⟩ ∈ gT := List.mem_filter.mpr ⟨List.mem_append_right _ (List.mem_append_right _ (List.mem_append_right _ (List.mem_append_left _ (List.mem_of_getElem? (i := 68) (by rfl)))) : Cond.methodLink "StairPlans" 229 ⟨"StairPlans$Stair", "winders", "()I"⟩ ∈ tables_1), by rfl⟩
theorem gw_438 : Cond.methodLink "StairPlans" 171 ⟨"StairPlans$Stair", "edgeXTimesThree", "(I)J"⟩ ∈ gT := List.mem_filter.mpr ⟨List.mem_append_right _ (List.mem_append_right _ (List.mem_append_right _ (List.mem_append_left _ (List.mem_of_getElem? (i := 70) (by rfl)))) : Cond.methodLink "StairPlans" 171 ⟨"StairPlans$Stair", "edgeXTimesThree", "(I)J"⟩ ∈ tables_1), by rfl⟩
theorem gw_439 : Cond.instanceMethod ⟨"StairPlans$Stair", "edgeXTimesThree", "(I)J"⟩ ∈ gT := List.mem_filter.mpr ⟨List.mem_append_right _ (List.mem_append_right _ (List.mem_append_right _ (List.mem_append_left _ (List.mem_of_getElem? (i := 71) (by rfl)))) : Cond.instanceMethod ⟨"StairPlans$Stair", "edgeXTimesThree", "(I)J"⟩ ∈ tables_1), by rfl⟩
theorem gw_440 : Cond.selects "StairPlans$Stair" ⟨"StairPlans$Stair", "edgeXTimesThree", "(I)J"⟩ ⟨"StairPlans$Stair", "edgeXTimesThree", "(I)J"⟩ ∈ gT := List.mem_filter.mpr ⟨List.mem_append_right _ (List.mem_append_right _ (List.mem_append_right _ (List.mem_append_left _ (List.mem_of_getElem? (i := 72) (by rfl)))) : Cond.selects "StairPlans$Stair" ⟨"StairPlans$Stair", "edgeXTimesThree", "(I)J"⟩ ⟨"StairPlans$Stair", "edgeXTimesThree", "(I)J"⟩ ∈ tables_1), by rfl⟩
theorem gw_441 : Cond.code ⟨"StairPlans$Stair", "edgeXTimesThree", "(I)J"⟩ prog_6_method_15_code 2 (some .long) ∈ gT := List.mem_filter.mpr ⟨List.mem_append_right _ (List.mem_append_right _ (List.mem_append_right _ (List.mem_append_left _ (List.mem_of_getElem? (i := 73) (by rfl)))) : Cond.code ⟨"StairPlans$Stair", "edgeXTimesThree", "(I)J"⟩ prog_6_method_15_code 2 (some .long) ∈ tables_1), by rfl⟩
theorem gw_442 : Cond.constantLong "StairPlans$Stair" 59 3 ∈ gT := List.mem_filter.mpr ⟨List.mem_append_right _ (List.mem_append_right _ (List.mem_append_right _ (List.mem_append_left _ (List.mem_of_getElem? (i := 74) (by rfl)))) : Cond.constantLong "StairPlans$Stair" 59 3 ∈ tables_1), by rfl⟩
theorem gw_443 : Cond.methodLink "StairPlans$Stair" 61 ⟨"java/lang/Math", "min", "(JJ)J"⟩ ∈ gT := List.mem_filter.mpr ⟨List.mem_append_right _ (List.mem_append_right _ (List.mem_append_right _ (List.mem_append_left _ (List.mem_of_getElem? (i := 75) (by rfl)))) : Cond.methodLink "StairPlans$Stair" 61 ⟨"java/lang/Math", "min", "(JJ)J"⟩ ∈ tables_1), by rfl⟩
theorem gw_444 : Cond.static ⟨"java/lang/Math", "min", "(JJ)J"⟩ ∈ gT := List.mem_filter.mpr ⟨List.mem_append_right _ (List.mem_append_right _ (List.mem_append_right _ (List.mem_append_left _ (List.mem_of_getElem? (i := 76) (by rfl)))) : Cond.static ⟨"java/lang/Math", "min", "(JJ)J"⟩ ∈ tables_1), by rfl⟩
theorem gw_445 : Cond.code ⟨"java/lang/Math", "min", "(JJ)J"⟩ prog_14_method_70_code 4 (some .long) ∈ gT := List.mem_filter.mpr ⟨List.mem_append_right _ (List.mem_append_right _ (List.mem_append_right _ (List.mem_append_left _ (List.mem_of_getElem? (i := 77) (by rfl)))) : Cond.code ⟨"java/lang/Math", "min", "(JJ)J"⟩ prog_14_method_70_code 4 (some .long) ∈ tables_1), by rfl⟩
theorem gw_446 : Cond.methodLink "StairPlans" 174 ⟨"StairPlans$Stair", "edgeYTimesThree", "(I)J"⟩ ∈ gT := List.mem_filter.mpr ⟨List.mem_append_right _ (List.mem_append_right _ (List.mem_append_right _ (List.mem_append_left _ (List.mem_of_getElem? (i := 78) (by rfl)))) : Cond.methodLink "StairPlans" 174 ⟨"StairPlans$Stair", "edgeYTimesThree", "(I)J"⟩ ∈ tables_1), by rfl⟩
theorem gw_447 : Cond.instanceMethod ⟨"StairPlans$Stair", "edgeYTimesThree", "(I)J"⟩ ∈ gT := List.mem_filter.mpr ⟨List.mem_append_right _ (List.mem_append_right _ (List.mem_append_right _ (List.mem_append_left _ (List.mem_of_getElem? (i := 79) (by rfl)))) : Cond.instanceMethod ⟨"StairPlans$Stair", "edgeYTimesThree", "(I)J"⟩ ∈ tables_1), by rfl⟩
theorem gw_448 : Cond.selects "StairPlans$Stair" ⟨"StairPlans$Stair", "edgeYTimesThree", "(I)J"⟩ ⟨"StairPlans$Stair", "edgeYTimesThree", "(I)J"⟩ ∈ gT := List.mem_filter.mpr ⟨List.mem_append_right _ (List.mem_append_right _ (List.mem_append_right _ (List.mem_append_left _ (List.mem_of_getElem? (i := 80) (by rfl)))) : Cond.selects "StairPlans$Stair" ⟨"StairPlans$Stair", "edgeYTimesThree", "(I)J"⟩ ⟨"StairPlans$Stair", "edgeYTimesThree", "(I)J"⟩ ∈ tables_1), by rfl⟩
theorem gw_449 : Cond.code ⟨"StairPlans$Stair", "edgeYTimesThree", "(I)J"⟩ prog_6_method_16_code 2 (some .long) ∈ gT := List.mem_filter.mpr ⟨List.mem_append_right _ (List.mem_append_right _ (List.mem_append_right _ (List.mem_append_left _ (List.mem_of_getElem? (i := 81) (by rfl)))) : Cond.code ⟨"StairPlans$Stair", "edgeYTimesThree", "(I)J"⟩ prog_6_method_16_code 2 (some .long) ∈ tables_1), by rfl⟩
theorem gw_450 : Cond.methodLink "StairPlans$Stair" 67 ⟨"java/lang/Math", "max", "(JJ)J"⟩ ∈ gT := List.mem_filter.mpr ⟨List.mem_append_right _ (List.mem_append_right _ (List.mem_append_right _ (List.mem_append_left _ (List.mem_of_getElem? (i := 82) (by rfl)))) : Cond.methodLink "StairPlans$Stair" 67 ⟨"java/lang/Math", "max", "(JJ)J"⟩ ∈ tables_1), by rfl⟩
theorem gw_451 : Cond.static ⟨"java/lang/Math", "max", "(JJ)J"⟩ ∈ gT := List.mem_filter.mpr ⟨List.mem_append_right _ (List.mem_append_right _ (List.mem_append_right _ (List.mem_append_left _ (List.mem_of_getElem? (i := 83) (by rfl)))) : Cond.static ⟨"java/lang/Math", "max", "(JJ)J"⟩ ∈ tables_1), by rfl⟩
theorem gw_452 : Cond.code ⟨"java/lang/Math", "max", "(JJ)J"⟩ prog_14_method_66_code 4 (some .long) ∈ gT := List.mem_filter.mpr ⟨List.mem_append_right _ (List.mem_append_right _ (List.mem_append_right _ (List.mem_append_left _ (List.mem_of_getElem? (i := 84) (by rfl)))) : Cond.code ⟨"java/lang/Math", "max", "(JJ)J"⟩ prog_14_method_66_code 4 (some .long) ∈ tables_1), by rfl⟩
theorem gw_453 : Cond.methodLink "StairPlansLaw" 102 ⟨"StairPlansLaw", "area", "(LStairPlans;I[J)I"⟩ ∈ gT := List.mem_filter.mpr ⟨List.mem_append_right _ (List.mem_append_right _ (List.mem_append_right _ (List.mem_append_left _ (List.mem_of_getElem? (i := 85) (by rfl)))) : Cond.methodLink "StairPlansLaw" 102 ⟨"StairPlansLaw", "area", "(LStairPlans;I[J)I"⟩ ∈ tables_1), by rfl⟩
theorem gw_454 : Cond.static ⟨"StairPlansLaw", "area", "(LStairPlans;I[J)I"⟩ ∈ gT := List.mem_filter.mpr ⟨List.mem_append_right _ (List.mem_append_right _ (List.mem_append_right _ (List.mem_append_left _ (List.mem_of_getElem? (i := 86) (by rfl)))) : Cond.static ⟨"StairPlansLaw", "area", "(LStairPlans;I[J)I"⟩ ∈ tables_1), by rfl⟩
theorem gw_455 : Cond.codeWith ⟨"StairPlansLaw", "area", "(LStairPlans;I[J)I"⟩ method_8_code 4 (some .int) [(0, 8, 11, 19), (0, 8, 14, 25)] ∈ gT := List.mem_filter.mpr ⟨List.mem_append_right _ (List.mem_append_right _ (List.mem_append_right _ (List.mem_append_left _ (List.mem_of_getElem? (i := 87) (by rfl)))) : Cond.codeWith ⟨"StairPlansLaw", "area", "(LStairPlans;I[J)I"⟩ method_8_code 4 (some .int) [(0, 8, 11, 19), (0, 8, 14, 25)] ∈ tables_1), by rfl⟩
theorem gw_456 : Cond.methodLink "StairPlansLaw" 34 ⟨"StairPlans", "area", "(I)J"⟩ ∈ gT := List.mem_filter.mpr ⟨List.mem_append_right _ (List.mem_append_right _ (List.mem_append_right _ (List.mem_append_left _ (List.mem_of_getElem? (i := 88) (by rfl)))) : Cond.methodLink "StairPlansLaw" 34 ⟨"StairPlans", "area", "(I)J"⟩ ∈ tables_1), by rfl⟩
theorem gw_457 : Cond.instanceMethod ⟨"StairPlans", "area", "(I)J"⟩ ∈ gT := List.mem_filter.mpr ⟨List.mem_append_right _ (List.mem_append_right _ (List.mem_append_right _ (List.mem_append_left _ (List.mem_of_getElem? (i := 89) (by rfl)))) : Cond.instanceMethod ⟨"StairPlans", "area", "(I)J"⟩ ∈ tables_1), by rfl⟩
theorem gw_458 : Cond.selects "StairPlans" ⟨"StairPlans", "area", "(I)J"⟩ ⟨"StairPlans", "area", "(I)J"⟩ ∈ gT := List.mem_filter.mpr ⟨List.mem_append_right _ (List.mem_append_right _ (List.mem_append_right _ (List.mem_append_left _ (List.mem_of_getElem? (i := 90) (by rfl)))) : Cond.selects "StairPlans" ⟨"StairPlans", "area", "(I)J"⟩ ⟨"StairPlans", "area", "(I)J"⟩ ∈ tables_1), by rfl⟩
theorem gw_459 : Cond.code ⟨"StairPlans", "area", "(I)J"⟩ prog_1_method_9_code 2 (some .long) ∈ gT := List.mem_filter.mpr ⟨List.mem_append_right _ (List.mem_append_right _ (List.mem_append_right _ (List.mem_append_left _ (List.mem_of_getElem? (i := 91) (by rfl)))) : Cond.code ⟨"StairPlans", "area", "(I)J"⟩ prog_1_method_9_code 2 (some .long) ∈ tables_1), by rfl⟩
theorem gw_460 : Cond.methodLink "StairPlans" 177 ⟨"StairPlans$Stair", "sixTimesWinderArea", "()J"⟩ ∈ gT := List.mem_filter.mpr ⟨List.mem_append_right _ (List.mem_append_right _ (List.mem_append_right _ (List.mem_append_left _ (List.mem_of_getElem? (i := 92) (by rfl)))) : Cond.methodLink "StairPlans" 177 ⟨"StairPlans$Stair", "sixTimesWinderArea", "()J"⟩ ∈ tables_1), by rfl⟩
theorem gw_461 : Cond.instanceMethod ⟨"StairPlans$Stair", "sixTimesWinderArea", "()J"⟩ ∈ gT := List.mem_filter.mpr ⟨List.mem_append_right _ (List.mem_append_right _ (List.mem_append_right _ (List.mem_append_left _ (List.mem_of_getElem? (i := 93) (by rfl)))) : Cond.instanceMethod ⟨"StairPlans$Stair", "sixTimesWinderArea", "()J"⟩ ∈ tables_1), by rfl⟩
theorem gw_462 : Cond.selects "StairPlans$Stair" ⟨"StairPlans$Stair", "sixTimesWinderArea", "()J"⟩ ⟨"StairPlans$Stair", "sixTimesWinderArea", "()J"⟩ ∈ gT := List.mem_filter.mpr ⟨List.mem_append_right _ (List.mem_append_right _ (List.mem_append_right _ (List.mem_append_left _ (List.mem_of_getElem? (i := 94) (by rfl)))) : Cond.selects "StairPlans$Stair" ⟨"StairPlans$Stair", "sixTimesWinderArea", "()J"⟩ ⟨"StairPlans$Stair", "sixTimesWinderArea", "()J"⟩ ∈ tables_1), by rfl⟩
theorem gw_463 : Cond.code ⟨"StairPlans$Stair", "sixTimesWinderArea", "()J"⟩ prog_6_method_17_code 1 (some .long) ∈ gT := List.mem_filter.mpr ⟨List.mem_append_right _ (List.mem_append_right _ (List.mem_append_right _ (List.mem_append_left _ (List.mem_of_getElem? (i := 95) (by rfl)))) : Cond.code ⟨"StairPlans$Stair", "sixTimesWinderArea", "()J"⟩ prog_6_method_17_code 1 (some .long) ∈ tables_1), by rfl⟩
theorem gw_464 : Cond.constantLong "StairPlans$Stair" 70 2 ∈ gT := List.mem_filter.mpr ⟨List.mem_append_right _ (List.mem_append_right _ (List.mem_append_right _ (List.mem_append_left _ (List.mem_of_getElem? (i := 96) (by rfl)))) : Cond.constantLong "StairPlans$Stair" 70 2 ∈ tables_1), by rfl⟩
theorem gw_465 : Cond.methodLink "StairPlansLaw" 105 ⟨"StairPlansLaw", "meets", "(LStairPlans;I[J)I"⟩ ∈ gT := List.mem_filter.mpr ⟨List.mem_append_right _ (List.mem_append_right _ (List.mem_append_right _ (List.mem_append_left _ (List.mem_of_getElem? (i := 97) (by rfl)))) : Cond.methodLink "StairPlansLaw" 105 ⟨"StairPlansLaw", "meets", "(LStairPlans;I[J)I"⟩ ∈ tables_1), by rfl⟩
theorem gw_466 : Cond.static ⟨"StairPlansLaw", "meets", "(LStairPlans;I[J)I"⟩ ∈ gT := List.mem_filter.mpr ⟨List.mem_append_right _ (List.mem_append_right _ (List.mem_append_right _ (List.mem_append_left _ (List.mem_of_getElem? (i := 98) (by rfl)))) : Cond.static ⟨"StairPlansLaw", "meets", "(LStairPlans;I[J)I"⟩ ∈ tables_1), by rfl⟩
theorem gw_467 : Cond.codeWith ⟨"StairPlansLaw", "meets", "(LStairPlans;I[J)I"⟩ method_9_code 4 (some .int) [(0, 16, 19, 19), (0, 16, 22, 25)] ∈ gT := List.mem_filter.mpr ⟨List.mem_append_right _ (List.mem_append_right _ (List.mem_append_right _ (List.mem_append_left _ (List.mem_of_getElem? (i := 99) (by rfl)))) : Cond.codeWith ⟨"StairPlansLaw", "meets", "(LStairPlans;I[J)I"⟩ method_9_code 4 (some .int) [(0, 16, 19, 19), (0, 16, 22, 25)] ∈ tables_1), by rfl⟩
theorem gw_468 : Cond.methodLink "StairPlansLaw" 37 ⟨"StairPlans", "meets", "(I)Z"⟩ ∈ gT := List.mem_filter.mpr ⟨List.mem_append_right _ (List.mem_append_right _ (List.mem_append_right _ (List.mem_append_left _ (List.mem_of_getElem? (i := 100) (by rfl)))) : Cond.methodLink "StairPlansLaw" 37 ⟨"StairPlans", "meets", "(I)Z"⟩ ∈ tables_1), by rfl⟩
theorem gw_469 : Cond.instanceMethod ⟨"StairPlans", "meets", "(I)Z"⟩ ∈ gT := List.mem_filter.mpr ⟨List.mem_append_right _ (List.mem_append_right _ (List.mem_append_right _ (List.mem_append_left _ (List.mem_of_getElem? (i := 101) (by rfl)))) : Cond.instanceMethod ⟨"StairPlans", "meets", "(I)Z"⟩ ∈ tables_1), by rfl⟩
theorem gw_470 : Cond.selects "StairPlans" ⟨"StairPlans", "meets", "(I)Z"⟩ ⟨"StairPlans", "meets", "(I)Z"⟩ ∈ gT := List.mem_filter.mpr ⟨List.mem_append_right _ (List.mem_append_right _ (List.mem_append_right _ (List.mem_append_left _ (List.mem_of_getElem? (i := 102) (by rfl)))) : Cond.selects "StairPlans" ⟨"StairPlans", "meets", "(I)Z"⟩ ⟨"StairPlans", "meets", "(I)Z"⟩ ∈ tables_1), by rfl⟩
theorem gw_471 : Cond.code ⟨"StairPlans", "meets", "(I)Z"⟩ prog_1_method_10_code 2 (some .boolean) ∈ gT := List.mem_filter.mpr ⟨List.mem_append_right _ (List.mem_append_right _ (List.mem_append_right _ (List.mem_append_left _ (List.mem_of_getElem? (i := 103) (by rfl)))) : Cond.code ⟨"StairPlans", "meets", "(I)Z"⟩ prog_1_method_10_code 2 (some .boolean) ∈ tables_1), by rfl⟩
theorem gw_472 : Cond.methodLink "StairPlans" 181 ⟨"StairPlans$RuleSet", "holds", "(ILStairPlans$Stair;)Z"⟩ ∈ gT := List.mem_filter.mpr ⟨List.mem_append_right _ (List.mem_append_right _ (List.mem_append_right _ (List.mem_append_left _ (List.mem_of_getElem? (i := 104) (by rfl)))) : Cond.methodLink "StairPlans" 181 ⟨"StairPlans$RuleSet", "holds", "(ILStairPlans$Stair;)Z"⟩ ∈ tables_1), by rfl⟩
theorem gw_473 : Cond.methodLink "StairPlansLaw" 108 ⟨"StairPlansLaw", "floor", "(LStairPlans;JJJJJ[J)I"⟩ ∈ gT := List.mem_filter.mpr ⟨List.mem_append_right _ (List.mem_append_right _ (List.mem_append_right _ (List.mem_append_left _ (List.mem_of_getElem? (i := 105) (by rfl)))) : Cond.methodLink "StairPlansLaw" 108 ⟨"StairPlansLaw", "floor", "(LStairPlans;JJJJJ[J)I"⟩ ∈ tables_1), by rfl⟩
theorem gw_474 : Cond.static ⟨"StairPlansLaw", "floor", "(LStairPlans;JJJJJ[J)I"⟩ ∈ gT := List.mem_filter.mpr ⟨List.mem_append_right _ (List.mem_append_right _ (List.mem_append_right _ (List.mem_append_left _ (List.mem_of_getElem? (i := 106) (by rfl)))) : Cond.static ⟨"StairPlansLaw", "floor", "(LStairPlans;JJJJJ[J)I"⟩ ∈ tables_1), by rfl⟩
theorem gw_475 : Cond.codeWith ⟨"StairPlansLaw", "floor", "(LStairPlans;JJJJJ[J)I"⟩ method_10_code 13 (some .int) [(0, 24, 27, 13)] ∈ gT := List.mem_filter.mpr ⟨List.mem_append_right _ (List.mem_append_right _ (List.mem_append_right _ (List.mem_append_left _ (List.mem_of_getElem? (i := 107) (by rfl)))) : Cond.codeWith ⟨"StairPlansLaw", "floor", "(LStairPlans;JJJJJ[J)I"⟩ method_10_code 13 (some .int) [(0, 24, 27, 13)] ∈ tables_1), by rfl⟩
theorem gw_476 : Cond.methodLink "StairPlansLaw" 41 ⟨"StairPlans", "floor", "(JJJJJ)Z"⟩ ∈ gT := List.mem_filter.mpr ⟨List.mem_append_right _ (List.mem_append_right _ (List.mem_append_right _ (List.mem_append_left _ (List.mem_of_getElem? (i := 108) (by rfl)))) : Cond.methodLink "StairPlansLaw" 41 ⟨"StairPlans", "floor", "(JJJJJ)Z"⟩ ∈ tables_1), by rfl⟩
theorem gw_477 : Cond.instanceMethod ⟨"StairPlans", "floor", "(JJJJJ)Z"⟩ ∈ gT := List.mem_filter.mpr ⟨List.mem_append_right _ (List.mem_append_right _ (List.mem_append_right _ (List.mem_append_left _ (List.mem_of_getElem? (i := 109) (by rfl)))) : Cond.instanceMethod ⟨"StairPlans", "floor", "(JJJJJ)Z"⟩ ∈ tables_1), by rfl⟩
theorem gw_478 : Cond.selects "StairPlans" ⟨"StairPlans", "floor", "(JJJJJ)Z"⟩ ⟨"StairPlans", "floor", "(JJJJJ)Z"⟩ ∈ gT := List.mem_filter.mpr ⟨List.mem_append_right _ (List.mem_append_right _ (List.mem_append_right _ (List.mem_append_left _ (List.mem_of_getElem? (i := 110) (by rfl)))) : Cond.selects "StairPlans" ⟨"StairPlans", "floor", "(JJJJJ)Z"⟩ ⟨"StairPlans", "floor", "(JJJJJ)Z"⟩ ∈ tables_1), by rfl⟩
theorem gw_479 : Cond.code ⟨"StairPlans", "floor", "(JJJJJ)Z"⟩ prog_1_method_11_code 11 (some .boolean) ∈ gT := List.mem_filter.mpr ⟨List.mem_append_right _ (List.mem_append_right _ (List.mem_append_right _ (List.mem_append_left _ (List.mem_of_getElem? (i := 111) (by rfl)))) : Cond.code ⟨"StairPlans", "floor", "(JJJJJ)Z"⟩ prog_1_method_11_code 11 (some .boolean) ∈ tables_1), by rfl⟩
theorem gw_480 : Cond.methodLink "StairPlans" 185 ⟨"StairPlans$FloorSet", "isPlace", "(J)Z"⟩ ∈ gT := List.mem_filter.mpr ⟨List.mem_append_right _ (List.mem_append_right _ (List.mem_append_right _ (List.mem_append_left _ (List.mem_of_getElem? (i := 112) (by rfl)))) : Cond.methodLink "StairPlans" 185 ⟨"StairPlans$FloorSet", "isPlace", "(J)Z"⟩ ∈ tables_1), by rfl⟩
theorem gw_481 : Cond.static ⟨"StairPlans$FloorSet", "isPlace", "(J)Z"⟩ ∈ gT := List.mem_filter.mpr ⟨List.mem_append_right _ (List.mem_append_right _ (List.mem_append_right _ (List.mem_append_left _ (List.mem_of_getElem? (i := 113) (by rfl)))) : Cond.static ⟨"StairPlans$FloorSet", "isPlace", "(J)Z"⟩ ∈ tables_1), by rfl⟩
theorem gw_482 : Cond.code ⟨"StairPlans$FloorSet", "isPlace", "(J)Z"⟩ prog_2_method_2_code 2 (some .boolean) ∈ gT := List.mem_filter.mpr ⟨List.mem_append_right _ (List.mem_append_right _ (List.mem_append_right _ (List.mem_append_left _ (List.mem_of_getElem? (i := 114) (by rfl)))) : Cond.code ⟨"StairPlans$FloorSet", "isPlace", "(J)Z"⟩ prog_2_method_2_code 2 (some .boolean) ∈ tables_1), by rfl⟩
theorem gw_483 : Cond.constantLong "StairPlans$FloorSet" 29 (-1000000) ∈ gT := List.mem_filter.mpr ⟨List.mem_append_right _ (List.mem_append_right _ (List.mem_append_right _ (List.mem_append_left _ (List.mem_of_getElem? (i := 115) (by rfl)))) : Cond.constantLong "StairPlans$FloorSet" 29 (-1000000) ∈ tables_1), by rfl⟩
theorem gw_484 : Cond.constantLong "StairPlans$FloorSet" 31 1000000 ∈ gT := List.mem_filter.mpr ⟨List.mem_append_right _ (List.mem_append_right _ (List.mem_append_right _ (List.mem_append_left _ (List.mem_of_getElem? (i := 116) (by rfl)))) : Cond.constantLong "StairPlans$FloorSet" 31 1000000 ∈ tables_1), by rfl⟩
theorem gw_485 : Cond.methodLink "StairPlans" 193 ⟨"StairPlans$FloorSet", "isHeight", "(J)Z"⟩ ∈ gT := List.mem_filter.mpr ⟨List.mem_append_right _ (List.mem_append_right _ (List.mem_append_right _ (List.mem_append_left _ (List.mem_of_getElem? (i := 119) (by rfl)))) : Cond.methodLink "StairPlans" 193 ⟨"StairPlans$FloorSet", "isHeight", "(J)Z"⟩ ∈ tables_1), by rfl⟩
theorem gw_486 : Cond.static ⟨"StairPlans$FloorSet", "isHeight", "(J)Z"⟩ ∈ gT := List.mem_filter.mpr ⟨List.mem_append_right _ (List.mem_append_right _ (List.mem_append_right _ (List.mem_append_left _ (List.mem_of_getElem? (i := 120) (by rfl)))) : Cond.static ⟨"StairPlans$FloorSet", "isHeight", "(J)Z"⟩ ∈ tables_1), by rfl⟩
theorem gw_487 : Cond.code ⟨"StairPlans$FloorSet", "isHeight", "(J)Z"⟩ prog_2_method_3_code 2 (some .boolean) ∈ gT := List.mem_filter.mpr ⟨List.mem_append_right _ (List.mem_append_right _ (List.mem_append_right _ (List.mem_append_left _ (List.mem_of_getElem? (i := 121) (by rfl)))) : Cond.code ⟨"StairPlans$FloorSet", "isHeight", "(J)Z"⟩ prog_2_method_3_code 2 (some .boolean) ∈ tables_1), by rfl⟩
theorem gw_488 : Cond.methodLink "StairPlans" 198 ⟨"StairPlans$FloorSet", "append", "(JJJJJ)Z"⟩ ∈ gT := List.mem_filter.mpr ⟨List.mem_append_right _ (List.mem_append_right _ (List.mem_append_right _ (List.mem_append_left _ (List.mem_of_getElem? (i := 123) (by rfl)))) : Cond.methodLink "StairPlans" 198 ⟨"StairPlans$FloorSet", "append", "(JJJJJ)Z"⟩ ∈ tables_1), by rfl⟩
theorem gw_489 : Cond.instanceMethod ⟨"StairPlans$FloorSet", "append", "(JJJJJ)Z"⟩ ∈ gT := List.mem_filter.mpr ⟨List.mem_append_right _ (List.mem_append_right _ (List.mem_append_right _ (List.mem_append_left _ (List.mem_of_getElem? (i := 124) (by rfl)))) : Cond.instanceMethod ⟨"StairPlans$FloorSet", "append", "(JJJJJ)Z"⟩ ∈ tables_1), by rfl⟩
theorem gw_490 : Cond.selects "StairPlans$FloorSet" ⟨"StairPlans$FloorSet", "append", "(JJJJJ)Z"⟩ ⟨"StairPlans$FloorSet", "append", "(JJJJJ)Z"⟩ ∈ gT := List.mem_filter.mpr ⟨List.mem_append_right _ (List.mem_append_right _ (List.mem_append_right _ (List.mem_append_left _ (List.mem_of_getElem? (i := 125) (by rfl)))) : Cond.selects "StairPlans$FloorSet" ⟨"StairPlans$FloorSet", "append", "(JJJJJ)Z"⟩ ⟨"StairPlans$FloorSet", "append", "(JJJJJ)Z"⟩ ∈ tables_1), by rfl⟩
theorem gw_491 : Cond.code ⟨"StairPlans$FloorSet", "append", "(JJJJJ)Z"⟩ prog_2_method_4_code 11 (some .boolean) ∈ gT := List.mem_filter.mpr ⟨List.mem_append_right _ (List.mem_append_right _ (List.mem_append_right _ (List.mem_append_left _ (List.mem_of_getElem? (i := 126) (by rfl)))) : Cond.code ⟨"StairPlans$FloorSet", "append", "(JJJJJ)Z"⟩ prog_2_method_4_code 11 (some .boolean) ∈ tables_1), by rfl⟩
theorem gw_492 : Cond.methodLink "StairPlansLaw" 112 ⟨"StairPlansLaw", "headRoom", "(LStairPlans;[J)I"⟩ ∈ gT := List.mem_filter.mpr ⟨List.mem_append_right _ (List.mem_append_right _ (List.mem_append_right _ (List.mem_append_left _ (List.mem_of_getElem? (i := 127) (by rfl)))) : Cond.methodLink "StairPlansLaw" 112 ⟨"StairPlansLaw", "headRoom", "(LStairPlans;[J)I"⟩ ∈ tables_1), by rfl⟩
theorem gw_493 : Cond.static ⟨"StairPlansLaw", "headRoom", "(LStairPlans;[J)I"⟩ ∈ gT := List.mem_filter.mpr ⟨List.mem_append_right _ (List.mem_append_right _ (List.mem_append_right _ (List.mem_append_left _ (List.mem_of_getElem? (i := 128) (by rfl)))) : Cond.static ⟨"StairPlansLaw", "headRoom", "(LStairPlans;[J)I"⟩ ∈ tables_1), by rfl⟩
theorem gw_494 : Cond.codeWith ⟨"StairPlansLaw", "headRoom", "(LStairPlans;[J)I"⟩ method_11_code 3 (some .int) [(0, 7, 10, 19)] ∈ gT := List.mem_filter.mpr ⟨List.mem_append_right _ (List.mem_append_right _ (List.mem_append_right _ (List.mem_append_left _ (List.mem_of_getElem? (i := 129) (by rfl)))) : Cond.codeWith ⟨"StairPlansLaw", "headRoom", "(LStairPlans;[J)I"⟩ method_11_code 3 (some .int) [(0, 7, 10, 19)] ∈ tables_1), by rfl⟩
theorem gw_495 : Cond.methodLink "StairPlansLaw" 45 ⟨"StairPlans", "headRoom", "()J"⟩ ∈ gT := List.mem_filter.mpr ⟨List.mem_append_right _ (List.mem_append_right _ (List.mem_append_right _ (List.mem_append_left _ (List.mem_of_getElem? (i := 130) (by rfl)))) : Cond.methodLink "StairPlansLaw" 45 ⟨"StairPlans", "headRoom", "()J"⟩ ∈ tables_1), by rfl⟩
theorem gw_496 : Cond.instanceMethod ⟨"StairPlans", "headRoom", "()J"⟩ ∈ gT := List.mem_filter.mpr ⟨List.mem_append_right _ (List.mem_append_right _ (List.mem_append_right _ (List.mem_append_left _ (List.mem_of_getElem? (i := 131) (by rfl)))) : Cond.instanceMethod ⟨"StairPlans", "headRoom", "()J"⟩ ∈ tables_1), by rfl⟩
theorem gw_497 : Cond.selects "StairPlans" ⟨"StairPlans", "headRoom", "()J"⟩ ⟨"StairPlans", "headRoom", "()J"⟩ ∈ gT := List.mem_filter.mpr ⟨List.mem_append_right _ (List.mem_append_right _ (List.mem_append_right _ (List.mem_append_left _ (List.mem_of_getElem? (i := 132) (by rfl)))) : Cond.selects "StairPlans" ⟨"StairPlans", "headRoom", "()J"⟩ ⟨"StairPlans", "headRoom", "()J"⟩ ∈ tables_1), by rfl⟩
theorem gw_498 : Cond.code ⟨"StairPlans", "headRoom", "()J"⟩ prog_1_method_12_code 1 (some .long) ∈ gT := List.mem_filter.mpr ⟨List.mem_append_right _ (List.mem_append_right _ (List.mem_append_right _ (List.mem_append_left _ (List.mem_of_getElem? (i := 133) (by rfl)))) : Cond.code ⟨"StairPlans", "headRoom", "()J"⟩ prog_1_method_12_code 1 (some .long) ∈ tables_1), by rfl⟩
theorem gw_499 : Cond.methodLink "StairPlans" 201 ⟨"StairPlans$FloorSet", "leastRoomTimesRises", "(LStairPlans$Stair;)J"⟩ ∈ gT := List.mem_filter.mpr ⟨List.mem_append_right _ (List.mem_append_right _ (List.mem_append_right _ (List.mem_append_left _ (List.mem_of_getElem? (i := 134) (by rfl)))) : Cond.methodLink "StairPlans" 201 ⟨"StairPlans$FloorSet", "leastRoomTimesRises", "(LStairPlans$Stair;)J"⟩ ∈ tables_1), by rfl⟩
theorem gw_500 : Cond.instanceMethod ⟨"StairPlans$FloorSet", "leastRoomTimesRises", "(LStairPlans$Stair;)J"⟩ ∈ gT := List.mem_filter.mpr ⟨List.mem_append_right _ (List.mem_append_right _ (List.mem_append_right _ (List.mem_append_left _ (List.mem_of_getElem? (i := 135) (by rfl)))) : Cond.instanceMethod ⟨"StairPlans$FloorSet", "leastRoomTimesRises", "(LStairPlans$Stair;)J"⟩ ∈ tables_1), by rfl⟩
theorem gw_501 : Cond.selects "StairPlans$FloorSet" ⟨"StairPlans$FloorSet", "leastRoomTimesRises", "(LStairPlans$Stair;)J"⟩ ⟨"StairPlans$FloorSet", "leastRoomTimesRises", "(LStairPlans$Stair;)J"⟩ ∈ gT := List.mem_filter.mpr ⟨List.mem_append_right _ (List.mem_append_right _ (List.mem_append_right _ (List.mem_append_left _ (List.mem_of_getElem? (i := 136) (by rfl)))) : Cond.selects "StairPlans$FloorSet" ⟨"StairPlans$FloorSet", "leastRoomTimesRises", "(LStairPlans$Stair;)J"⟩ ⟨"StairPlans$FloorSet", "leastRoomTimesRises", "(LStairPlans$Stair;)J"⟩ ∈ tables_1), by rfl⟩
theorem gw_502 : Cond.code ⟨"StairPlans$FloorSet", "leastRoomTimesRises", "(LStairPlans$Stair;)J"⟩ prog_2_method_5_code 6 (some .long) ∈ gT := List.mem_filter.mpr ⟨List.mem_append_right _ (List.mem_append_right _ (List.mem_append_right _ (List.mem_append_left _ (List.mem_of_getElem? (i := 137) (by rfl)))) : Cond.code ⟨"StairPlans$FloorSet", "leastRoomTimesRises", "(LStairPlans$Stair;)J"⟩ prog_2_method_5_code 6 (some .long) ∈ tables_1), by rfl⟩
theorem gw_503 : Cond.constantLong "StairPlans$FloorSet" 33 9223372036854775807 ∈ gT := List.mem_filter.mpr ⟨List.mem_append_right _ (List.mem_append_right _ (List.mem_append_right _ (List.mem_append_left _ (List.mem_of_getElem? (i := 138) (by rfl)))) : Cond.constantLong "StairPlans$FloorSet" 33 9223372036854775807 ∈ tables_1), by rfl⟩
theorem gw_504 : Cond.methodLink "StairPlans$FloorSet" 35 ⟨"StairPlans$Stair", "treads", "()I"⟩ ∈ gT := List.mem_filter.mpr ⟨List.mem_append_right _ (List.mem_append_right _ (List.mem_append_right _ (List.mem_append_left _ (List.mem_of_getElem? (i := 139) (by rfl)))) : Cond.methodLink "StairPlans$FloorSet" 35 ⟨"StairPlans$Stair", "treads", "()I"⟩ ∈ tables_1), by rfl⟩
theorem gw_505 : Cond.methodLink "StairPlans$FloorSet" 41 ⟨"StairPlans$FloorSet", "isOver", "(ILStairPlans$Stair;I)Z"⟩ ∈ gT := List.mem_filter.mpr ⟨List.mem_append_right _ (List.mem_append_right _ (List.mem_append_right _ (List.mem_append_left _ (List.mem_of_getElem? (i := 140) (by rfl)))) : Cond.methodLink "StairPlans$FloorSet" 41 ⟨"StairPlans$FloorSet", "isOver", "(ILStairPlans$Stair;I)Z"⟩ ∈ tables_1), by rfl⟩
theorem gw_506 : Cond.instanceMethod ⟨"StairPlans$FloorSet", "isOver", "(ILStairPlans$Stair;I)Z"⟩ ∈ gT := List.mem_filter.mpr ⟨List.mem_append_right _ (List.mem_append_right _ (List.mem_append_right _ (List.mem_append_left _ (List.mem_of_getElem? (i := 142) (by rfl)))) : Cond.instanceMethod ⟨"StairPlans$FloorSet", "isOver", "(ILStairPlans$Stair;I)Z"⟩ ∈ tables_1), by rfl⟩
theorem gw_507 : Cond.code ⟨"StairPlans$FloorSet", "isOver", "(ILStairPlans$Stair;I)Z"⟩ prog_2_method_6_code 4 (some .boolean) ∈ gT := List.mem_filter.mpr ⟨List.mem_append_right _ (List.mem_append_right _ (List.mem_append_right _ (List.mem_append_left _ (List.mem_of_getElem? (i := 143) (by rfl)))) : Cond.code ⟨"StairPlans$FloorSet", "isOver", "(ILStairPlans$Stair;I)Z"⟩ prog_2_method_6_code 4 (some .boolean) ∈ tables_1), by rfl⟩
theorem gw_508 : Cond.methodLink "StairPlans$FloorSet" 58 ⟨"StairPlans$Stair", "greatestX", "(I)J"⟩ ∈ gT := List.mem_filter.mpr ⟨List.mem_append_right _ (List.mem_append_right _ (List.mem_append_right _ (List.mem_append_left _ (List.mem_of_getElem? (i := 144) (by rfl)))) : Cond.methodLink "StairPlans$FloorSet" 58 ⟨"StairPlans$Stair", "greatestX", "(I)J"⟩ ∈ tables_1), by rfl⟩
theorem gw_509 : Cond.methodLink "StairPlans$FloorSet" 61 ⟨"StairPlans$Stair", "leastX", "(I)J"⟩ ∈ gT := List.mem_filter.mpr ⟨List.mem_append_right _ (List.mem_append_right _ (List.mem_append_right _ (List.mem_append_left _ (List.mem_of_getElem? (i := 145) (by rfl)))) : Cond.methodLink "StairPlans$FloorSet" 61 ⟨"StairPlans$Stair", "leastX", "(I)J"⟩ ∈ tables_1), by rfl⟩
theorem gw_510 : Cond.methodLink "StairPlans$FloorSet" 64 ⟨"StairPlans$Stair", "greatestY", "(I)J"⟩ ∈ gT := List.mem_filter.mpr ⟨List.mem_append_right _ (List.mem_append_right _ (List.mem_append_right _ (List.mem_append_left _ (List.mem_of_getElem? (i := 146) (by rfl)))) : Cond.methodLink "StairPlans$FloorSet" 64 ⟨"StairPlans$Stair", "greatestY", "(I)J"⟩ ∈ tables_1), by rfl⟩
theorem gw_511 : Cond.methodLink "StairPlans$FloorSet" 67 ⟨"StairPlans$Stair", "leastY", "(I)J"⟩ ∈ gT := List.mem_filter.mpr ⟨List.mem_append_right _ (List.mem_append_right _ (List.mem_append_right _ (List.mem_append_left _ (List.mem_of_getElem? (i := 147) (by rfl)))) : Cond.methodLink "StairPlans$FloorSet" 67 ⟨"StairPlans$Stair", "leastY", "(I)J"⟩ ∈ tables_1), by rfl⟩
theorem gw_512 : Cond.methodLink "StairPlans$FloorSet" 48 ⟨"StairPlans$Stair", "heightTimesRises", "(I)J"⟩ ∈ gT := List.mem_filter.mpr ⟨List.mem_append_right _ (List.mem_append_right _ (List.mem_append_right _ (List.mem_append_left _ (List.mem_of_getElem? (i := 148) (by rfl)))) : Cond.methodLink "StairPlans$FloorSet" 48 ⟨"StairPlans$Stair", "heightTimesRises", "(I)J"⟩ ∈ tables_1), by rfl⟩
theorem gw_513 : Cond.methodLink "StairPlans$FloorSet" 52 ⟨"java/lang/Math", "min", "(JJ)J"⟩ ∈ gT := List.mem_filter.mpr ⟨List.mem_append_right _ (List.mem_append_right _ (List.mem_append_right _ (List.mem_append_left _ (List.mem_of_getElem? (i := 149) (by rfl)))) : Cond.methodLink "StairPlans$FloorSet" 52 ⟨"java/lang/Math", "min", "(JJ)J"⟩ ∈ tables_1), by rfl⟩
theorem gw_514 : Cond.methodLink "StairPlansLaw" 116 ⟨"StairPlansLaw", "string", "(LStairPlans;I[J)I"⟩ ∈ gT := List.mem_filter.mpr ⟨List.mem_append_right _ (List.mem_append_right _ (List.mem_append_right _ (List.mem_append_left _ (List.mem_of_getElem? (i := 150) (by rfl)))) : Cond.methodLink "StairPlansLaw" 116 ⟨"StairPlansLaw", "string", "(LStairPlans;I[J)I"⟩ ∈ tables_1), by rfl⟩
theorem gw_515 : Cond.static ⟨"StairPlansLaw", "string", "(LStairPlans;I[J)I"⟩ ∈ gT := List.mem_filter.mpr ⟨List.mem_append_right _ (List.mem_append_right _ (List.mem_append_right _ (List.mem_append_left _ (List.mem_of_getElem? (i := 151) (by rfl)))) : Cond.static ⟨"StairPlansLaw", "string", "(LStairPlans;I[J)I"⟩ ∈ tables_1), by rfl⟩
theorem gw_516 : Cond.codeWith ⟨"StairPlansLaw", "string", "(LStairPlans;I[J)I"⟩ method_12_code 4 (some .int) [(0, 8, 11, 19), (0, 8, 14, 25)] ∈ gT := List.mem_filter.mpr ⟨List.mem_append_right _ (List.mem_append_right _ (List.mem_append_right _ (List.mem_append_left _ (List.mem_of_getElem? (i := 152) (by rfl)))) : Cond.codeWith ⟨"StairPlansLaw", "string", "(LStairPlans;I[J)I"⟩ method_12_code 4 (some .int) [(0, 8, 11, 19), (0, 8, 14, 25)] ∈ tables_1), by rfl⟩
theorem gw_517 : Cond.methodLink "StairPlansLaw" 49 ⟨"StairPlans", "string", "(I)J"⟩ ∈ gT := List.mem_filter.mpr ⟨List.mem_append_right _ (List.mem_append_right _ (List.mem_append_right _ (List.mem_append_left _ (List.mem_of_getElem? (i := 153) (by rfl)))) : Cond.methodLink "StairPlansLaw" 49 ⟨"StairPlans", "string", "(I)J"⟩ ∈ tables_1), by rfl⟩
theorem gw_518 : Cond.instanceMethod ⟨"StairPlans", "string", "(I)J"⟩ ∈ gT := List.mem_filter.mpr ⟨List.mem_append_right _ (List.mem_append_right _ (List.mem_append_right _ (List.mem_append_left _ (List.mem_of_getElem? (i := 154) (by rfl)))) : Cond.instanceMethod ⟨"StairPlans", "string", "(I)J"⟩ ∈ tables_1), by rfl⟩
theorem gw_519 : Cond.selects "StairPlans" ⟨"StairPlans", "string", "(I)J"⟩ ⟨"StairPlans", "string", "(I)J"⟩ ∈ gT := List.mem_filter.mpr ⟨List.mem_append_right _ (List.mem_append_right _ (List.mem_append_right _ (List.mem_append_left _ (List.mem_of_getElem? (i := 155) (by rfl)))) : Cond.selects "StairPlans" ⟨"StairPlans", "string", "(I)J"⟩ ⟨"StairPlans", "string", "(I)J"⟩ ∈ tables_1), by rfl⟩
theorem gw_520 : Cond.code ⟨"StairPlans", "string", "(I)J"⟩ prog_1_method_13_code 4 (some .long) ∈ gT := List.mem_filter.mpr ⟨List.mem_append_right _ (List.mem_append_right _ (List.mem_append_right _ (List.mem_append_left _ (List.mem_of_getElem? (i := 156) (by rfl)))) : Cond.code ⟨"StairPlans", "string", "(I)J"⟩ prog_1_method_13_code 4 (some .long) ∈ tables_1), by rfl⟩
theorem gw_521 : Cond.methodLink "StairPlans" 205 ⟨"StairPlans$Stair", "stringCutOff", "()J"⟩ ∈ gT := List.mem_filter.mpr ⟨List.mem_append_right _ (List.mem_append_right _ (List.mem_append_right _ (List.mem_append_left _ (List.mem_of_getElem? (i := 157) (by rfl)))) : Cond.methodLink "StairPlans" 205 ⟨"StairPlans$Stair", "stringCutOff", "()J"⟩ ∈ tables_1), by rfl⟩
theorem gw_522 : Cond.instanceMethod ⟨"StairPlans$Stair", "stringCutOff", "()J"⟩ ∈ gT := List.mem_filter.mpr ⟨List.mem_append_right _ (List.mem_append_right _ (List.mem_append_right _ (List.mem_append_left _ (List.mem_of_getElem? (i := 158) (by rfl)))) : Cond.instanceMethod ⟨"StairPlans$Stair", "stringCutOff", "()J"⟩ ∈ tables_1), by rfl⟩
theorem gw_523 : Cond.selects "StairPlans$Stair" ⟨"StairPlans$Stair", "stringCutOff", "()J"⟩ ⟨"StairPlans$Stair", "stringCutOff", "()J"⟩ ∈ gT := List.mem_filter.mpr ⟨List.mem_append_right _ (List.mem_append_right _ (List.mem_append_right _ (List.mem_append_left _ (List.mem_of_getElem? (i := 159) (by rfl)))) : Cond.selects "StairPlans$Stair" ⟨"StairPlans$Stair", "stringCutOff", "()J"⟩ ⟨"StairPlans$Stair", "stringCutOff", "()J"⟩ ∈ tables_1), by rfl⟩
theorem gw_524 : Cond.code ⟨"StairPlans$Stair", "stringCutOff", "()J"⟩ prog_6_method_21_code 8 (some .long) ∈ gT := List.mem_filter.mpr ⟨List.mem_append_right _ (List.mem_append_right _ (List.mem_append_right _ (List.mem_append_left _ (List.mem_of_getElem? (i := 160) (by rfl)))) : Cond.code ⟨"StairPlans$Stair", "stringCutOff", "()J"⟩ prog_6_method_21_code 8 (some .long) ∈ tables_1), by rfl⟩
theorem gw_525 : Cond.methodLink "StairPlans$Stair" 75 ⟨"StairPlans$Stair", "scaledStringSquare", "()J"⟩ ∈ gT := List.mem_filter.mpr ⟨List.mem_append_right _ (List.mem_append_right _ (List.mem_append_right _ (List.mem_append_left _ (List.mem_of_getElem? (i := 161) (by rfl)))) : Cond.methodLink "StairPlans$Stair" 75 ⟨"StairPlans$Stair", "scaledStringSquare", "()J"⟩ ∈ tables_1), by rfl⟩
theorem gw_526 : Cond.instanceMethod ⟨"StairPlans$Stair", "scaledStringSquare", "()J"⟩ ∈ gT := List.mem_filter.mpr ⟨List.mem_append_right _ (List.mem_append_right _ (List.mem_append_right _ (List.mem_append_left _ (List.mem_of_getElem? (i := 163) (by rfl)))) : Cond.instanceMethod ⟨"StairPlans$Stair", "scaledStringSquare", "()J"⟩ ∈ tables_1), by rfl⟩
theorem gw_527 : Cond.code ⟨"StairPlans$Stair", "scaledStringSquare", "()J"⟩ prog_6_method_19_code 5 (some .long) ∈ gT := List.mem_filter.mpr ⟨List.mem_append_right _ (List.mem_append_right _ (List.mem_append_right _ (List.mem_append_left _ (List.mem_of_getElem? (i := 164) (by rfl)))) : Cond.code ⟨"StairPlans$Stair", "scaledStringSquare", "()J"⟩ prog_6_method_19_code 5 (some .long) ∈ tables_1), by rfl⟩
theorem gw_528 : Cond.methodLink "StairPlans$Stair" 72 ⟨"StairPlans$Stair", "along", "()J"⟩ ∈ gT := List.mem_filter.mpr ⟨List.mem_append_right _ (List.mem_append_right _ (List.mem_append_right _ (List.mem_append_left _ (List.mem_of_getElem? (i := 165) (by rfl)))) : Cond.methodLink "StairPlans$Stair" 72 ⟨"StairPlans$Stair", "along", "()J"⟩ ∈ tables_1), by rfl⟩
theorem gw_529 : Cond.instanceMethod ⟨"StairPlans$Stair", "along", "()J"⟩ ∈ gT := List.mem_filter.mpr ⟨List.mem_append_right _ (List.mem_append_right _ (List.mem_append_right _ (List.mem_append_left _ (List.mem_of_getElem? (i := 166) (by rfl)))) : Cond.instanceMethod ⟨"StairPlans$Stair", "along", "()J"⟩ ∈ tables_1), by rfl⟩
theorem gw_530 : Cond.selects "StairPlans$Stair" ⟨"StairPlans$Stair", "along", "()J"⟩ ⟨"StairPlans$Stair", "along", "()J"⟩ ∈ gT := List.mem_filter.mpr ⟨List.mem_append_right _ (List.mem_append_right _ (List.mem_append_right _ (List.mem_append_left _ (List.mem_of_getElem? (i := 167) (by rfl)))) : Cond.selects "StairPlans$Stair" ⟨"StairPlans$Stair", "along", "()J"⟩ ⟨"StairPlans$Stair", "along", "()J"⟩ ∈ tables_1), by rfl⟩
theorem gw_531 : Cond.code ⟨"StairPlans$Stair", "along", "()J"⟩ prog_6_method_18_code 1 (some .long) ∈ gT := List.mem_filter.mpr ⟨List.mem_append_right _ (List.mem_append_right _ (List.mem_append_right _ (List.mem_append_left _ (List.mem_of_getElem? (i := 168) (by rfl)))) : Cond.code ⟨"StairPlans$Stair", "along", "()J"⟩ prog_6_method_18_code 1 (some .long) ∈ tables_1), by rfl⟩
theorem gw_532 : Cond.methodLink "StairPlans$Stair" 78 ⟨"StairPlans$Stair", "scaledSquare", "(J)J"⟩ ∈ gT := List.mem_filter.mpr ⟨List.mem_append_right _ (List.mem_append_right _ (List.mem_append_right _ (List.mem_append_left _ (List.mem_of_getElem? (i := 169) (by rfl)))) : Cond.methodLink "StairPlans$Stair" 78 ⟨"StairPlans$Stair", "scaledSquare", "(J)J"⟩ ∈ tables_1), by rfl⟩
theorem gw_533 : Cond.instanceMethod ⟨"StairPlans$Stair", "scaledSquare", "(J)J"⟩ ∈ gT := List.mem_filter.mpr ⟨List.mem_append_right _ (List.mem_append_right _ (List.mem_append_right _ (List.mem_append_left _ (List.mem_of_getElem? (i := 171) (by rfl)))) : Cond.instanceMethod ⟨"StairPlans$Stair", "scaledSquare", "(J)J"⟩ ∈ tables_1), by rfl⟩
theorem gw_534 : Cond.code ⟨"StairPlans$Stair", "scaledSquare", "(J)J"⟩ prog_6_method_20_code 3 (some .long) ∈ gT := List.mem_filter.mpr ⟨List.mem_append_right _ (List.mem_append_right _ (List.mem_append_right _ (List.mem_append_left _ (List.mem_of_getElem? (i := 172) (by rfl)))) : Cond.code ⟨"StairPlans$Stair", "scaledSquare", "(J)J"⟩ prog_6_method_20_code 3 (some .long) ∈ tables_1), by rfl⟩
theorem gw_535 : Cond.methodLink "StairPlans" 208 ⟨"StairPlans$Stair", "isStringWhole", "(J)Z"⟩ ∈ gT := List.mem_filter.mpr ⟨List.mem_append_right _ (List.mem_append_right _ (List.mem_append_right _ (List.mem_append_left _ (List.mem_of_getElem? (i := 173) (by rfl)))) : Cond.methodLink "StairPlans" 208 ⟨"StairPlans$Stair", "isStringWhole", "(J)Z"⟩ ∈ tables_1), by rfl⟩
theorem gw_536 : Cond.instanceMethod ⟨"StairPlans$Stair", "isStringWhole", "(J)Z"⟩ ∈ gT := List.mem_filter.mpr ⟨List.mem_append_right _ (List.mem_append_right _ (List.mem_append_right _ (List.mem_append_left _ (List.mem_of_getElem? (i := 174) (by rfl)))) : Cond.instanceMethod ⟨"StairPlans$Stair", "isStringWhole", "(J)Z"⟩ ∈ tables_1), by rfl⟩
theorem gw_537 : Cond.selects "StairPlans$Stair" ⟨"StairPlans$Stair", "isStringWhole", "(J)Z"⟩ ⟨"StairPlans$Stair", "isStringWhole", "(J)Z"⟩ ∈ gT := List.mem_filter.mpr ⟨List.mem_append_right _ (List.mem_append_right _ (List.mem_append_right _ (List.mem_append_left _ (List.mem_of_getElem? (i := 175) (by rfl)))) : Cond.selects "StairPlans$Stair" ⟨"StairPlans$Stair", "isStringWhole", "(J)Z"⟩ ⟨"StairPlans$Stair", "isStringWhole", "(J)Z"⟩ ∈ tables_1), by rfl⟩
theorem gw_538 : Cond.code ⟨"StairPlans$Stair", "isStringWhole", "(J)Z"⟩ prog_6_method_22_code 3 (some .boolean) ∈ gT := List.mem_filter.mpr ⟨List.mem_append_right _ (List.mem_append_right _ (List.mem_append_right _ (List.mem_append_left _ (List.mem_of_getElem? (i := 176) (by rfl)))) : Cond.code ⟨"StairPlans$Stair", "isStringWhole", "(J)Z"⟩ prog_6_method_22_code 3 (some .boolean) ∈ tables_1), by rfl⟩
theorem gw_539 : Cond.methodLink "StairPlansLaw" 119 ⟨"StairPlansLaw", "balusters", "(LStairPlans;JJ[J)I"⟩ ∈ gT := List.mem_filter.mpr ⟨List.mem_append_right _ (List.mem_append_right _ (List.mem_append_right _ (List.mem_append_left _ (List.mem_of_getElem? (i := 177) (by rfl)))) : Cond.methodLink "StairPlansLaw" 119 ⟨"StairPlansLaw", "balusters", "(LStairPlans;JJ[J)I"⟩ ∈ tables_1), by rfl⟩
theorem gw_540 : Cond.static ⟨"StairPlansLaw", "balusters", "(LStairPlans;JJ[J)I"⟩ ∈ gT := List.mem_filter.mpr ⟨List.mem_append_right _ (List.mem_append_right _ (List.mem_append_right _ (List.mem_append_left _ (List.mem_of_getElem? (i := 178) (by rfl)))) : Cond.static ⟨"StairPlansLaw", "balusters", "(LStairPlans;JJ[J)I"⟩ ∈ tables_1), by rfl⟩
theorem gw_541 : Cond.codeWith ⟨"StairPlansLaw", "balusters", "(LStairPlans;JJ[J)I"⟩ method_13_code 7 (some .int) [(0, 11, 14, 19), (0, 11, 18, 13)] ∈ gT := List.mem_filter.mpr ⟨List.mem_append_right _ (List.mem_append_right _ (List.mem_append_right _ (List.mem_append_left _ (List.mem_of_getElem? (i := 179) (by rfl)))) : Cond.codeWith ⟨"StairPlansLaw", "balusters", "(LStairPlans;JJ[J)I"⟩ method_13_code 7 (some .int) [(0, 11, 14, 19), (0, 11, 18, 13)] ∈ tables_1), by rfl⟩
theorem gw_542 : Cond.methodLink "StairPlansLaw" 52 ⟨"StairPlans", "balusters", "(JJ)I"⟩ ∈ gT := List.mem_filter.mpr ⟨List.mem_append_right _ (List.mem_append_right _ (List.mem_append_right _ (List.mem_append_left _ (List.mem_of_getElem? (i := 180) (by rfl)))) : Cond.methodLink "StairPlansLaw" 52 ⟨"StairPlans", "balusters", "(JJ)I"⟩ ∈ tables_1), by rfl⟩
theorem gw_543 : Cond.instanceMethod ⟨"StairPlans", "balusters", "(JJ)I"⟩ ∈ gT := List.mem_filter.mpr ⟨List.mem_append_right _ (List.mem_append_right _ (List.mem_append_right _ (List.mem_append_left _ (List.mem_of_getElem? (i := 181) (by rfl)))) : Cond.instanceMethod ⟨"StairPlans", "balusters", "(JJ)I"⟩ ∈ tables_1), by rfl⟩
theorem gw_544 : Cond.selects "StairPlans" ⟨"StairPlans", "balusters", "(JJ)I"⟩ ⟨"StairPlans", "balusters", "(JJ)I"⟩ ∈ gT := List.mem_filter.mpr ⟨List.mem_append_right _ (List.mem_append_right _ (List.mem_append_right _ (List.mem_append_left _ (List.mem_of_getElem? (i := 182) (by rfl)))) : Cond.selects "StairPlans" ⟨"StairPlans", "balusters", "(JJ)I"⟩ ⟨"StairPlans", "balusters", "(JJ)I"⟩ ∈ tables_1), by rfl⟩
theorem gw_545 : Cond.code ⟨"StairPlans", "balusters", "(JJ)I"⟩ prog_1_method_14_code 8 (some .int) ∈ gT := List.mem_filter.mpr ⟨List.mem_append_right _ (List.mem_append_right _ (List.mem_append_right _ (List.mem_append_left _ (List.mem_of_getElem? (i := 183) (by rfl)))) : Cond.code ⟨"StairPlans", "balusters", "(JJ)I"⟩ prog_1_method_14_code 8 (some .int) ∈ tables_1), by rfl⟩
theorem gw_546 : Cond.constantLong "StairPlans" 211 1000 ∈ gT := List.mem_filter.mpr ⟨List.mem_append_right _ (List.mem_append_right _ (List.mem_append_right _ (List.mem_append_left _ (List.mem_of_getElem? (i := 184) (by rfl)))) : Cond.constantLong "StairPlans" 211 1000 ∈ tables_1), by rfl⟩
theorem gw_547 : Cond.methodLink "StairPlans" 217 ⟨"StairPlans$Stair", "along", "()J"⟩ ∈ gT := List.mem_filter.mpr ⟨List.mem_append_right _ (List.mem_append_right _ (List.mem_append_right _ (List.mem_append_left _ (List.mem_of_getElem? (i := 187) (by rfl)))) : Cond.methodLink "StairPlans" 217 ⟨"StairPlans$Stair", "along", "()J"⟩ ∈ tables_1), by rfl⟩
theorem gw_548 : Cond.methodLink "StairPlans" 220 ⟨"StairPlans", "fewestBalusters", "(JJJ)I"⟩ ∈ gT := List.mem_filter.mpr ⟨List.mem_append_right _ (List.mem_append_right _ (List.mem_append_right _ (List.mem_append_left _ (List.mem_of_getElem? (i := 188) (by rfl)))) : Cond.methodLink "StairPlans" 220 ⟨"StairPlans", "fewestBalusters", "(JJJ)I"⟩ ∈ tables_1), by rfl⟩
theorem gw_549 : Cond.static ⟨"StairPlans", "fewestBalusters", "(JJJ)I"⟩ ∈ gT := List.mem_filter.mpr ⟨List.mem_append_right _ (List.mem_append_right _ (List.mem_append_right _ (List.mem_append_left _ (List.mem_of_getElem? (i := 189) (by rfl)))) : Cond.static ⟨"StairPlans", "fewestBalusters", "(JJJ)I"⟩ ∈ tables_1), by rfl⟩
theorem gw_550 : Cond.code ⟨"StairPlans", "fewestBalusters", "(JJJ)I"⟩ prog_1_method_21_code 11 (some .int) ∈ gT := List.mem_filter.mpr ⟨List.mem_append_right _ (List.mem_append_right _ (List.mem_append_right _ (List.mem_append_left _ (List.mem_of_getElem? (i := 190) (by rfl)))) : Cond.code ⟨"StairPlans", "fewestBalusters", "(JJJ)I"⟩ prog_1_method_21_code 11 (some .int) ∈ tables_1), by rfl⟩
theorem gw_551 : Cond.methodLink "StairPlans" 244 ⟨"java/lang/Math", "min", "(JJ)J"⟩ ∈ gT := List.mem_filter.mpr ⟨List.mem_append_right _ (List.mem_append_right _ (List.mem_append_right _ (List.mem_append_left _ (List.mem_of_getElem? (i := 191) (by rfl)))) : Cond.methodLink "StairPlans" 244 ⟨"java/lang/Math", "min", "(JJ)J"⟩ ∈ tables_1), by rfl⟩
theorem gw_552 : Cond.methodLink "StairPlansLaw" 123 ⟨"StairPlansLaw", "gap", "(LStairPlans;I[J)I"⟩ ∈ gT := List.mem_filter.mpr ⟨List.mem_append_right _ (List.mem_append_right _ (List.mem_append_right _ (List.mem_append_left _ (List.mem_of_getElem? (i := 192) (by rfl)))) : Cond.methodLink "StairPlansLaw" 123 ⟨"StairPlansLaw", "gap", "(LStairPlans;I[J)I"⟩ ∈ tables_1), by rfl⟩
theorem gw_553 : Cond.static ⟨"StairPlansLaw", "gap", "(LStairPlans;I[J)I"⟩ ∈ gT := List.mem_filter.mpr ⟨List.mem_append_right _ (List.mem_append_right _ (List.mem_append_right _ (List.mem_append_left _ (List.mem_of_getElem? (i := 193) (by rfl)))) : Cond.static ⟨"StairPlansLaw", "gap", "(LStairPlans;I[J)I"⟩ ∈ tables_1), by rfl⟩
theorem gw_554 : Cond.codeWith ⟨"StairPlansLaw", "gap", "(LStairPlans;I[J)I"⟩ method_14_code 4 (some .int) [(0, 8, 11, 19), (0, 8, 14, 25)] ∈ gT := List.mem_filter.mpr ⟨List.mem_append_right _ (List.mem_append_right _ (List.mem_append_right _ (List.mem_append_left _ (List.mem_of_getElem? (i := 194) (by rfl)))) : Cond.codeWith ⟨"StairPlansLaw", "gap", "(LStairPlans;I[J)I"⟩ method_14_code 4 (some .int) [(0, 8, 11, 19), (0, 8, 14, 25)] ∈ tables_1), by rfl⟩
theorem gw_555 : Cond.methodLink "StairPlansLaw" 56 ⟨"StairPlans", "gap", "(I)J"⟩ ∈ gT := List.mem_filter.mpr ⟨List.mem_append_right _ (List.mem_append_right _ (List.mem_append_right _ (List.mem_append_left _ (List.mem_of_getElem? (i := 195) (by rfl)))) : Cond.methodLink "StairPlansLaw" 56 ⟨"StairPlans", "gap", "(I)J"⟩ ∈ tables_1), by rfl⟩
theorem gw_556 : Cond.instanceMethod ⟨"StairPlans", "gap", "(I)J"⟩ ∈ gT := List.mem_filter.mpr ⟨List.mem_append_right _ (List.mem_append_right _ (List.mem_append_right _ (List.mem_append_left _ (List.mem_of_getElem? (i := 196) (by rfl)))) : Cond.instanceMethod ⟨"StairPlans", "gap", "(I)J"⟩ ∈ tables_1), by rfl⟩
theorem gw_557 : Cond.selects "StairPlans" ⟨"StairPlans", "gap", "(I)J"⟩ ⟨"StairPlans", "gap", "(I)J"⟩ ∈ gT := List.mem_filter.mpr ⟨List.mem_append_right _ (List.mem_append_right _ (List.mem_append_right _ (List.mem_append_left _ (List.mem_of_getElem? (i := 197) (by rfl)))) : Cond.selects "StairPlans" ⟨"StairPlans", "gap", "(I)J"⟩ ⟨"StairPlans", "gap", "(I)J"⟩ ∈ tables_1), by rfl⟩
theorem gw_558 : Cond.code ⟨"StairPlans", "gap", "(I)J"⟩ prog_1_method_15_code 2 (some .long) ∈ gT := List.mem_filter.mpr ⟨List.mem_append_right _ (List.mem_append_right _ (List.mem_append_right _ (List.mem_append_left _ (List.mem_of_getElem? (i := 198) (by rfl)))) : Cond.code ⟨"StairPlans", "gap", "(I)J"⟩ prog_1_method_15_code 2 (some .long) ∈ tables_1), by rfl⟩
theorem gw_559 : Cond.methodLink "StairPlansLaw" 126 ⟨"StairPlansLaw", "list", "(LStairPlans;I[J)I"⟩ ∈ gT := List.mem_filter.mpr ⟨List.mem_append_right _ (List.mem_append_right _ (List.mem_append_right _ (List.mem_append_left _ (List.mem_of_getElem? (i := 200) (by rfl)))) : Cond.methodLink "StairPlansLaw" 126 ⟨"StairPlansLaw", "list", "(LStairPlans;I[J)I"⟩ ∈ tables_1), by rfl⟩
theorem gw_560 : Cond.static ⟨"StairPlansLaw", "list", "(LStairPlans;I[J)I"⟩ ∈ gT := List.mem_filter.mpr ⟨List.mem_append_right _ (List.mem_append_right _ (List.mem_append_right _ (List.mem_append_left _ (List.mem_of_getElem? (i := 201) (by rfl)))) : Cond.static ⟨"StairPlansLaw", "list", "(LStairPlans;I[J)I"⟩ ∈ tables_1), by rfl⟩
theorem gw_561 : Cond.codeWith ⟨"StairPlansLaw", "list", "(LStairPlans;I[J)I"⟩ method_15_code 4 (some .int) [(0, 9, 12, 19), (0, 9, 15, 25)] ∈ gT := List.mem_filter.mpr ⟨List.mem_append_right _ (List.mem_append_right _ (List.mem_append_right _ (List.mem_append_left _ (List.mem_of_getElem? (i := 202) (by rfl)))) : Cond.codeWith ⟨"StairPlansLaw", "list", "(LStairPlans;I[J)I"⟩ method_15_code 4 (some .int) [(0, 9, 12, 19), (0, 9, 15, 25)] ∈ tables_1), by rfl⟩
theorem gw_562 : Cond.methodLink "StairPlansLaw" 59 ⟨"StairPlans", "list", "(I)I"⟩ ∈ gT := List.mem_filter.mpr ⟨List.mem_append_right _ (List.mem_append_right _ (List.mem_append_right _ (List.mem_append_left _ (List.mem_of_getElem? (i := 203) (by rfl)))) : Cond.methodLink "StairPlansLaw" 59 ⟨"StairPlans", "list", "(I)I"⟩ ∈ tables_1), by rfl⟩
theorem gw_563 : Cond.instanceMethod ⟨"StairPlans", "list", "(I)I"⟩ ∈ gT := List.mem_filter.mpr ⟨List.mem_append_right _ (List.mem_append_right _ (List.mem_append_right _ (List.mem_append_left _ (List.mem_of_getElem? (i := 204) (by rfl)))) : Cond.instanceMethod ⟨"StairPlans", "list", "(I)I"⟩ ∈ tables_1), by rfl⟩
theorem gw_564 : Cond.selects "StairPlans" ⟨"StairPlans", "list", "(I)I"⟩ ⟨"StairPlans", "list", "(I)I"⟩ ∈ gT := List.mem_filter.mpr ⟨List.mem_append_right _ (List.mem_append_right _ (List.mem_append_right _ (List.mem_append_left _ (List.mem_of_getElem? (i := 205) (by rfl)))) : Cond.selects "StairPlans" ⟨"StairPlans", "list", "(I)I"⟩ ⟨"StairPlans", "list", "(I)I"⟩ ∈ tables_1), by rfl⟩
theorem gw_565 : Cond.code ⟨"StairPlans", "list", "(I)I"⟩ prog_1_method_16_code 2 (some .int) ∈ gT := List.mem_filter.mpr ⟨List.mem_append_right _ (List.mem_append_right _ (List.mem_append_right _ (List.mem_append_left _ (List.mem_of_getElem? (i := 206) (by rfl)))) : Cond.code ⟨"StairPlans", "list", "(I)I"⟩ prog_1_method_16_code 2 (some .int) ∈ tables_1), by rfl⟩
theorem gw_566 : Cond.methodLink "StairPlans" 226 ⟨"StairPlans$Stair", "landings", "()I"⟩ ∈ gT := List.mem_filter.mpr ⟨List.mem_append_right _ (List.mem_append_right _ (List.mem_append_right _ (List.mem_append_left _ (List.mem_of_getElem? (i := 207) (by rfl)))) : Cond.methodLink "StairPlans" 226 ⟨"StairPlans$Stair", "landings", "()I"⟩ ∈ tables_1), by rfl⟩
theorem gw_567 : Cond.classLink "StairPlansLaw" 64 "StairPlansModel" ∈ gT := List.mem_filter.mpr ⟨List.mem_append_right _ (List.mem_append_right _ (List.mem_append_right _ (List.mem_append_left _ (List.mem_of_getElem? (i := 208) (by rfl)))) : Cond.classLink "StairPlansLaw" 64 "StairPlansModel" ∈ tables_1), by rfl⟩
theorem gw_568 : Cond.instantiable "StairPlansModel" 19 ∈ gT := List.mem_filter.mpr ⟨List.mem_append_right _ (List.mem_append_right _ (List.mem_append_right _ (List.mem_append_left _ (List.mem_of_getElem? (i := 209) (by rfl)))) : Cond.instantiable "StairPlansModel" 19 ∈ tables_1), by rfl⟩
theorem gw_569 : Cond.methodLink "StairPlansLaw" 66 ⟨"StairPlansModel", "<init>", "()V"⟩ ∈ gT := List.mem_filter.mpr ⟨List.mem_append_right _ (List.mem_append_right _ (List.mem_append_right _ (List.mem_append_left _ (List.mem_of_getElem? (i := 210) (by rfl)))) : Cond.methodLink "StairPlansLaw" 66 ⟨"StairPlansModel", "<init>", "()V"⟩ ∈ tables_1), by rfl⟩
theorem gw_570 : Cond.instanceMethod ⟨"StairPlansModel", "<init>", "()V"⟩ ∈ gT := List.mem_filter.mpr ⟨List.mem_append_right _ (List.mem_append_right _ (List.mem_append_right _ (List.mem_append_left _ (List.mem_of_getElem? (i := 211) (by rfl)))) : Cond.instanceMethod ⟨"StairPlansModel", "<init>", "()V"⟩ ∈ tables_1), by rfl⟩
theorem gw_571 : Cond.code ⟨"StairPlansModel", "<init>", "()V"⟩ prog_8_method_1_code 1 none ∈ gT := List.mem_filter.mpr ⟨List.mem_append_right _ (List.mem_append_right _ (List.mem_append_right _ (List.mem_append_left _ (List.mem_of_getElem? (i := 212) (by rfl)))) : Cond.code ⟨"StairPlansModel", "<init>", "()V"⟩ prog_8_method_1_code 1 none ∈ tables_1), by rfl⟩
theorem gw_572 : Cond.methodLink "StairPlansModel" 1 ⟨"java/lang/Object", "<init>", "()V"⟩ ∈ gT := List.mem_filter.mpr ⟨List.mem_append_right _ (List.mem_append_right _ (List.mem_append_right _ (List.mem_append_left _ (List.mem_of_getElem? (i := 213) (by rfl)))) : Cond.methodLink "StairPlansModel" 1 ⟨"java/lang/Object", "<init>", "()V"⟩ ∈ tables_1), by rfl⟩
theorem gw_573 : Cond.constantLong "StairPlansModel" 7 270 ∈ gT := List.mem_filter.mpr ⟨List.mem_append_right _ (List.mem_append_right _ (List.mem_append_right _ (List.mem_append_left _ (List.mem_of_getElem? (i := 214) (by rfl)))) : Cond.constantLong "StairPlansModel" 7 270 ∈ tables_1), by rfl⟩
theorem gw_574 : Cond.fieldLink "StairPlansModel" 29 "StairPlansModel" "code" "I" ∈ gT := List.mem_filter.mpr ⟨List.mem_append_right _ (List.mem_append_right _ (List.mem_append_right _ (List.mem_append_left _ (List.mem_of_getElem? (i := 215) (by rfl)))) : Cond.fieldLink "StairPlansModel" 29 "StairPlansModel" "code" "I" ∈ tables_1), by rfl⟩
theorem gw_575 : Cond.fieldLink "StairPlansModel" 9 "StairPlansModel" "total" "J" ∈ gT := List.mem_filter.mpr ⟨List.mem_append_right _ (List.mem_append_right _ (List.mem_append_right _ (List.mem_append_left _ (List.mem_of_getElem? (i := 216) (by rfl)))) : Cond.fieldLink "StairPlansModel" 9 "StairPlansModel" "total" "J" ∈ tables_1), by rfl⟩
theorem gw_576 : Cond.fieldLink "StairPlansModel" 15 "StairPlansModel" "typed" "[I" ∈ gT := List.mem_filter.mpr ⟨List.mem_append_right _ (List.mem_append_right _ (List.mem_append_right _ (List.mem_append_left _ (List.mem_of_getElem? (i := 217) (by rfl)))) : Cond.fieldLink "StairPlansModel" 15 "StairPlansModel" "typed" "[I" ∈ tables_1), by rfl⟩
theorem gw_577 : Cond.fieldLink "StairPlansModel" 43 "StairPlansModel" "size" "I" ∈ gT := List.mem_filter.mpr ⟨List.mem_append_right _ (List.mem_append_right _ (List.mem_append_right _ (List.mem_append_left _ (List.mem_of_getElem? (i := 218) (by rfl)))) : Cond.fieldLink "StairPlansModel" 43 "StairPlansModel" "size" "I" ∈ tables_1), by rfl⟩
theorem gw_578 : Cond.fieldLink "StairPlansModel" 46 "StairPlansModel" "at" "I" ∈ gT := List.mem_filter.mpr ⟨List.mem_append_right _ (List.mem_append_right _ (List.mem_append_right _ (List.mem_append_left _ (List.mem_of_getElem? (i := 219) (by rfl)))) : Cond.fieldLink "StairPlansModel" 46 "StairPlansModel" "at" "I" ∈ tables_1), by rfl⟩
theorem gw_579 : Cond.fieldLink "StairPlansModel" 49 "StairPlansModel" "failed" "I" ∈ gT := List.mem_filter.mpr ⟨List.mem_append_right _ (List.mem_append_right _ (List.mem_append_right _ (List.mem_append_left _ (List.mem_of_getElem? (i := 220) (by rfl)))) : Cond.fieldLink "StairPlansModel" 49 "StairPlansModel" "failed" "I" ∈ tables_1), by rfl⟩
theorem gw_580 : Cond.fieldLink "StairPlansModel" 77 "StairPlansModel" "rules" "I" ∈ gT := List.mem_filter.mpr ⟨List.mem_append_right _ (List.mem_append_right _ (List.mem_append_right _ (List.mem_append_left _ (List.mem_of_getElem? (i := 221) (by rfl)))) : Cond.fieldLink "StairPlansModel" 77 "StairPlansModel" "rules" "I" ∈ tables_1), by rfl⟩
theorem gw_581 : Cond.fieldLink "StairPlansModel" 19 "StairPlansModel" "told" "[I" ∈ gT := List.mem_filter.mpr ⟨List.mem_append_right _ (List.mem_append_right _ (List.mem_append_right _ (List.mem_append_left _ (List.mem_of_getElem? (i := 222) (by rfl)))) : Cond.fieldLink "StairPlansModel" 19 "StairPlansModel" "told" "[I" ∈ tables_1), by rfl⟩
theorem gw_582 : Cond.fieldLink "StairPlansModel" 22 "StairPlansModel" "draft" "[I" ∈ gT := List.mem_filter.mpr ⟨List.mem_append_right _ (List.mem_append_right _ (List.mem_append_right _ (List.mem_append_left _ (List.mem_of_getElem? (i := 223) (by rfl)))) : Cond.fieldLink "StairPlansModel" 22 "StairPlansModel" "draft" "[I" ∈ tables_1), by rfl⟩
theorem gw_583 : Cond.fieldLink "StairPlansModel" 39 "StairPlansModel" "planned" "Z" ∈ gT := List.mem_filter.mpr ⟨List.mem_append_right _ (List.mem_append_right _ (List.mem_append_right _ (List.mem_append_left _ (List.mem_of_getElem? (i := 224) (by rfl)))) : Cond.fieldLink "StairPlansModel" 39 "StairPlansModel" "planned" "Z" ∈ tables_1), by rfl⟩
theorem gw_584 : Cond.fieldLink "StairPlansModel" 92 "StairPlansModel" "kind" "I" ∈ gT := List.mem_filter.mpr ⟨List.mem_append_right _ (List.mem_append_right _ (List.mem_append_right _ (List.mem_append_left _ (List.mem_of_getElem? (i := 225) (by rfl)))) : Cond.fieldLink "StairPlansModel" 92 "StairPlansModel" "kind" "I" ∈ tables_1), by rfl⟩
theorem gw_585 : Cond.fieldLink "StairPlansModel" 95 "StairPlansModel" "going" "J" ∈ gT := List.mem_filter.mpr ⟨List.mem_append_right _ (List.mem_append_right _ (List.mem_append_right _ (List.mem_append_left _ (List.mem_of_getElem? (i := 226) (by rfl)))) : Cond.fieldLink "StairPlansModel" 95 "StairPlansModel" "going" "J" ∈ tables_1), by rfl⟩
theorem gw_586 : Cond.fieldLink "StairPlansModel" 98 "StairPlansModel" "width" "J" ∈ gT := List.mem_filter.mpr ⟨List.mem_append_right _ (List.mem_append_right _ (List.mem_append_right _ (List.mem_append_left _ (List.mem_of_getElem? (i := 227) (by rfl)))) : Cond.fieldLink "StairPlansModel" 98 "StairPlansModel" "width" "J" ∈ tables_1), by rfl⟩
theorem gw_587 : Cond.fieldLink "StairPlansModel" 101 "StairPlansModel" "n" "I" ∈ gT := List.mem_filter.mpr ⟨List.mem_append_right _ (List.mem_append_right _ (List.mem_append_right _ (List.mem_append_left _ (List.mem_of_getElem? (i := 228) (by rfl)))) : Cond.fieldLink "StairPlansModel" 101 "StairPlansModel" "n" "I" ∈ tables_1), by rfl⟩
theorem gw_588 : Cond.fieldLink "StairPlansModel" 104 "StairPlansModel" "gapped" "Z" ∈ gT := List.mem_filter.mpr ⟨List.mem_append_right _ (List.mem_append_right _ (List.mem_append_right _ (List.mem_append_left _ (List.mem_of_getElem? (i := 229) (by rfl)))) : Cond.fieldLink "StairPlansModel" 104 "StairPlansModel" "gapped" "Z" ∈ tables_1), by rfl⟩
theorem gw_589 : Cond.fieldLink "StairPlansModel" 149 "StairPlansModel" "gapAbove" "J" ∈ gT := List.mem_filter.mpr ⟨List.mem_append_right _ (List.mem_append_right _ (List.mem_append_right _ (List.mem_append_left _ (List.mem_of_getElem? (i := 230) (by rfl)))) : Cond.fieldLink "StairPlansModel" 149 "StairPlansModel" "gapAbove" "J" ∈ tables_1), by rfl⟩
theorem gw_590 : Cond.fieldLink "StairPlansModel" 152 "StairPlansModel" "gapBelow" "J" ∈ gT := List.mem_filter.mpr ⟨List.mem_append_right _ (List.mem_append_right _ (List.mem_append_right _ (List.mem_append_left _ (List.mem_of_getElem? (i := 231) (by rfl)))) : Cond.fieldLink "StairPlansModel" 152 "StairPlansModel" "gapBelow" "J" ∈ tables_1), by rfl⟩
theorem gw_591 : Cond.fieldLink "StairPlansModel" 142 "StairPlansModel" "floors" "I" ∈ gT := List.mem_filter.mpr ⟨List.mem_append_right _ (List.mem_append_right _ (List.mem_append_right _ (List.mem_append_left _ (List.mem_of_getElem? (i := 232) (by rfl)))) : Cond.fieldLink "StairPlansModel" 142 "StairPlansModel" "floors" "I" ∈ tables_1), by rfl⟩
theorem gw_592 : Cond.fieldLink "StairPlansModel" 25 "StairPlansModel" "boxes" "[J" ∈ gT := List.mem_filter.mpr ⟨List.mem_append_right _ (List.mem_append_right _ (List.mem_append_right _ (List.mem_append_left _ (List.mem_of_getElem? (i := 233) (by rfl)))) : Cond.fieldLink "StairPlansModel" 25 "StairPlansModel" "boxes" "[J" ∈ tables_1), by rfl⟩
theorem gw_593 : Cond.lays "StairPlansModel" "StairPlansModel" "code" "I" ∈ gT := List.mem_filter.mpr ⟨List.mem_append_right _ (List.mem_append_right _ (List.mem_append_right _ (List.mem_append_left _ (List.mem_of_getElem? (i := 234) (by rfl)))) : Cond.lays "StairPlansModel" "StairPlansModel" "code" "I" ∈ tables_1), by rfl⟩
theorem gw_594 : Cond.lays "StairPlansModel" "StairPlansModel" "total" "J" ∈ gT := List.mem_filter.mpr ⟨List.mem_append_right _ (List.mem_append_right _ (List.mem_append_right _ (List.mem_append_left _ (List.mem_of_getElem? (i := 236) (by rfl)))) : Cond.lays "StairPlansModel" "StairPlansModel" "total" "J" ∈ tables_1), by rfl⟩
theorem gw_595 : Cond.laysFinal "StairPlansModel" "StairPlansModel" "typed" "[I" ∈ gT := List.mem_filter.mpr ⟨List.mem_append_right _ (List.mem_append_right _ (List.mem_append_right _ (List.mem_append_left _ (List.mem_of_getElem? (i := 238) (by rfl)))) : Cond.laysFinal "StairPlansModel" "StairPlansModel" "typed" "[I" ∈ tables_1), by rfl⟩
theorem gw_596 : Cond.lays "StairPlansModel" "StairPlansModel" "size" "I" ∈ gT := List.mem_filter.mpr ⟨List.mem_append_right _ (List.mem_append_right _ (List.mem_append_right _ (List.mem_append_right _ (List.mem_of_getElem? (i := 0) (by rfl)))) : Cond.lays "StairPlansModel" "StairPlansModel" "size" "I" ∈ tables_1), by rfl⟩
theorem gw_597 : Cond.lays "StairPlansModel" "StairPlansModel" "at" "I" ∈ gT := List.mem_filter.mpr ⟨List.mem_append_right _ (List.mem_append_right _ (List.mem_append_right _ (List.mem_append_right _ (List.mem_of_getElem? (i := 2) (by rfl)))) : Cond.lays "StairPlansModel" "StairPlansModel" "at" "I" ∈ tables_1), by rfl⟩
theorem gw_598 : Cond.lays "StairPlansModel" "StairPlansModel" "failed" "I" ∈ gT := List.mem_filter.mpr ⟨List.mem_append_right _ (List.mem_append_right _ (List.mem_append_right _ (List.mem_append_right _ (List.mem_of_getElem? (i := 4) (by rfl)))) : Cond.lays "StairPlansModel" "StairPlansModel" "failed" "I" ∈ tables_1), by rfl⟩
theorem gw_599 : Cond.lays "StairPlansModel" "StairPlansModel" "rules" "I" ∈ gT := List.mem_filter.mpr ⟨List.mem_append_right _ (List.mem_append_right _ (List.mem_append_right _ (List.mem_append_right _ (List.mem_of_getElem? (i := 6) (by rfl)))) : Cond.lays "StairPlansModel" "StairPlansModel" "rules" "I" ∈ tables_1), by rfl⟩
theorem gw_600 : Cond.laysFinal "StairPlansModel" "StairPlansModel" "told" "[I" ∈ gT := List.mem_filter.mpr ⟨List.mem_append_right _ (List.mem_append_right _ (List.mem_append_right _ (List.mem_append_right _ (List.mem_of_getElem? (i := 8) (by rfl)))) : Cond.laysFinal "StairPlansModel" "StairPlansModel" "told" "[I" ∈ tables_1), by rfl⟩
theorem gw_601 : Cond.laysFinal "StairPlansModel" "StairPlansModel" "draft" "[I" ∈ gT := List.mem_filter.mpr ⟨List.mem_append_right _ (List.mem_append_right _ (List.mem_append_right _ (List.mem_append_right _ (List.mem_of_getElem? (i := 10) (by rfl)))) : Cond.laysFinal "StairPlansModel" "StairPlansModel" "draft" "[I" ∈ tables_1), by rfl⟩
theorem gw_602 : Cond.lays "StairPlansModel" "StairPlansModel" "planned" "Z" ∈ gT := List.mem_filter.mpr ⟨List.mem_append_right _ (List.mem_append_right _ (List.mem_append_right _ (List.mem_append_right _ (List.mem_of_getElem? (i := 12) (by rfl)))) : Cond.lays "StairPlansModel" "StairPlansModel" "planned" "Z" ∈ tables_1), by rfl⟩
theorem gw_603 : Cond.lays "StairPlansModel" "StairPlansModel" "kind" "I" ∈ gT := List.mem_filter.mpr ⟨List.mem_append_right _ (List.mem_append_right _ (List.mem_append_right _ (List.mem_append_right _ (List.mem_of_getElem? (i := 14) (by rfl)))) : Cond.lays "StairPlansModel" "StairPlansModel" "kind" "I" ∈ tables_1), by rfl⟩
theorem gw_604 : Cond.lays "StairPlansModel" "StairPlansModel" "going" "J" ∈ gT := List.mem_filter.mpr ⟨List.mem_append_right _ (List.mem_append_right _ (List.mem_append_right _ (List.mem_append_right _ (List.mem_of_getElem? (i := 16) (by rfl)))) : Cond.lays "StairPlansModel" "StairPlansModel" "going" "J" ∈ tables_1), by rfl⟩
theorem gw_605 : Cond.lays "StairPlansModel" "StairPlansModel" "width" "J" ∈ gT := List.mem_filter.mpr ⟨List.mem_append_right _ (List.mem_append_right _ (List.mem_append_right _ (List.mem_append_right _ (List.mem_of_getElem? (i := 18) (by rfl)))) : Cond.lays "StairPlansModel" "StairPlansModel" "width" "J" ∈ tables_1), by rfl⟩
theorem gw_606 : Cond.lays "StairPlansModel" "StairPlansModel" "n" "I" ∈ gT := List.mem_filter.mpr ⟨List.mem_append_right _ (List.mem_append_right _ (List.mem_append_right _ (List.mem_append_right _ (List.mem_of_getElem? (i := 20) (by rfl)))) : Cond.lays "StairPlansModel" "StairPlansModel" "n" "I" ∈ tables_1), by rfl⟩
theorem gw_607 : Cond.lays "StairPlansModel" "StairPlansModel" "gapped" "Z" ∈ gT := List.mem_filter.mpr ⟨List.mem_append_right _ (List.mem_append_right _ (List.mem_append_right _ (List.mem_append_right _ (List.mem_of_getElem? (i := 22) (by rfl)))) : Cond.lays "StairPlansModel" "StairPlansModel" "gapped" "Z" ∈ tables_1), by rfl⟩
theorem gw_608 : Cond.lays "StairPlansModel" "StairPlansModel" "gapAbove" "J" ∈ gT := List.mem_filter.mpr ⟨List.mem_append_right _ (List.mem_append_right _ (List.mem_append_right _ (List.mem_append_right _ (List.mem_of_getElem? (i := 24) (by rfl)))) : Cond.lays "StairPlansModel" "StairPlansModel" "gapAbove" "J" ∈ tables_1), by rfl⟩
theorem gw_609 : Cond.lays "StairPlansModel" "StairPlansModel" "gapBelow" "J" ∈ gT := List.mem_filter.mpr ⟨List.mem_append_right _ (List.mem_append_right _ (List.mem_append_right _ (List.mem_append_right _ (List.mem_of_getElem? (i := 26) (by rfl)))) : Cond.lays "StairPlansModel" "StairPlansModel" "gapBelow" "J" ∈ tables_1), by rfl⟩
theorem gw_610 : Cond.lays "StairPlansModel" "StairPlansModel" "floors" "I" ∈ gT := List.mem_filter.mpr ⟨List.mem_append_right _ (List.mem_append_right _ (List.mem_append_right _ (List.mem_append_right _ (List.mem_of_getElem? (i := 28) (by rfl)))) : Cond.lays "StairPlansModel" "StairPlansModel" "floors" "I" ∈ tables_1), by rfl⟩
theorem gw_611 : Cond.laysFinal "StairPlansModel" "StairPlansModel" "boxes" "[J" ∈ gT := List.mem_filter.mpr ⟨List.mem_append_right _ (List.mem_append_right _ (List.mem_append_right _ (List.mem_append_right _ (List.mem_of_getElem? (i := 30) (by rfl)))) : Cond.laysFinal "StairPlansModel" "StairPlansModel" "boxes" "[J" ∈ tables_1), by rfl⟩
theorem gw_612 : Cond.methodLink "StairPlansLaw" 75 ⟨"StairPlansModel", "thrown", "()I"⟩ ∈ gT := List.mem_filter.mpr ⟨List.mem_append_right _ (List.mem_append_right _ (List.mem_append_right _ (List.mem_append_right _ (List.mem_of_getElem? (i := 33) (by rfl)))) : Cond.methodLink "StairPlansLaw" 75 ⟨"StairPlansModel", "thrown", "()I"⟩ ∈ tables_1), by rfl⟩
theorem gw_613 : Cond.instanceMethod ⟨"StairPlansModel", "thrown", "()I"⟩ ∈ gT := List.mem_filter.mpr ⟨List.mem_append_right _ (List.mem_append_right _ (List.mem_append_right _ (List.mem_append_right _ (List.mem_of_getElem? (i := 34) (by rfl)))) : Cond.instanceMethod ⟨"StairPlansModel", "thrown", "()I"⟩ ∈ tables_1), by rfl⟩
theorem gw_614 : Cond.selects "StairPlansModel" ⟨"StairPlansModel", "thrown", "()I"⟩ ⟨"StairPlansModel", "thrown", "()I"⟩ ∈ gT := List.mem_filter.mpr ⟨List.mem_append_right _ (List.mem_append_right _ (List.mem_append_right _ (List.mem_append_right _ (List.mem_of_getElem? (i := 35) (by rfl)))) : Cond.selects "StairPlansModel" ⟨"StairPlansModel", "thrown", "()I"⟩ ⟨"StairPlansModel", "thrown", "()I"⟩ ∈ tables_1), by rfl⟩
theorem gw_615 : Cond.code ⟨"StairPlansModel", "thrown", "()I"⟩ prog_8_method_2_code 1 (some .int) ∈ gT := List.mem_filter.mpr ⟨List.mem_append_right _ (List.mem_append_right _ (List.mem_append_right _ (List.mem_append_right _ (List.mem_of_getElem? (i := 36) (by rfl)))) : Cond.code ⟨"StairPlansModel", "thrown", "()I"⟩ prog_8_method_2_code 1 (some .int) ∈ tables_1), by rfl⟩
theorem gw_616 : Cond.methodLink "StairPlansLaw" 74 ⟨"StairPlansModel", "heights", "(J)Z"⟩ ∈ gT := List.mem_filter.mpr ⟨List.mem_append_right _ (List.mem_append_right _ (List.mem_append_right _ (List.mem_append_right _ (List.mem_of_getElem? (i := 37) (by rfl)))) : Cond.methodLink "StairPlansLaw" 74 ⟨"StairPlansModel", "heights", "(J)Z"⟩ ∈ tables_1), by rfl⟩
theorem gw_617 : Cond.instanceMethod ⟨"StairPlansModel", "heights", "(J)Z"⟩ ∈ gT := List.mem_filter.mpr ⟨List.mem_append_right _ (List.mem_append_right _ (List.mem_append_right _ (List.mem_append_right _ (List.mem_of_getElem? (i := 38) (by rfl)))) : Cond.instanceMethod ⟨"StairPlansModel", "heights", "(J)Z"⟩ ∈ tables_1), by rfl⟩
theorem gw_618 : Cond.selects "StairPlansModel" ⟨"StairPlansModel", "heights", "(J)Z"⟩ ⟨"StairPlansModel", "heights", "(J)Z"⟩ ∈ gT := List.mem_filter.mpr ⟨List.mem_append_right _ (List.mem_append_right _ (List.mem_append_right _ (List.mem_append_right _ (List.mem_of_getElem? (i := 39) (by rfl)))) : Cond.selects "StairPlansModel" ⟨"StairPlansModel", "heights", "(J)Z"⟩ ⟨"StairPlansModel", "heights", "(J)Z"⟩ ∈ tables_1), by rfl⟩
theorem gw_619 : Cond.code ⟨"StairPlansModel", "heights", "(J)Z"⟩ prog_8_method_4_code 3 (some .boolean) ∈ gT := List.mem_filter.mpr ⟨List.mem_append_right _ (List.mem_append_right _ (List.mem_append_right _ (List.mem_append_right _ (List.mem_of_getElem? (i := 40) (by rfl)))) : Cond.code ⟨"StairPlansModel", "heights", "(J)Z"⟩ prog_8_method_4_code 3 (some .boolean) ∈ tables_1), by rfl⟩
theorem gw_620 : Cond.constantLong "StairPlansModel" 33 100000 ∈ gT := List.mem_filter.mpr ⟨List.mem_append_right _ (List.mem_append_right _ (List.mem_append_right _ (List.mem_append_right _ (List.mem_of_getElem? (i := 41) (by rfl)))) : Cond.constantLong "StairPlansModel" 33 100000 ∈ tables_1), by rfl⟩
theorem gw_621 : Cond.methodLink "StairPlansModel" 35 ⟨"StairPlansModel", "isIn", "(JJJ)Z"⟩ ∈ gT := List.mem_filter.mpr ⟨List.mem_append_right _ (List.mem_append_right _ (List.mem_append_right _ (List.mem_append_right _ (List.mem_of_getElem? (i := 42) (by rfl)))) : Cond.methodLink "StairPlansModel" 35 ⟨"StairPlansModel", "isIn", "(JJJ)Z"⟩ ∈ tables_1), by rfl⟩
theorem gw_622 : Cond.static ⟨"StairPlansModel", "isIn", "(JJJ)Z"⟩ ∈ gT := List.mem_filter.mpr ⟨List.mem_append_right _ (List.mem_append_right _ (List.mem_append_right _ (List.mem_append_right _ (List.mem_of_getElem? (i := 43) (by rfl)))) : Cond.static ⟨"StairPlansModel", "isIn", "(JJJ)Z"⟩ ∈ tables_1), by rfl⟩
theorem gw_623 : Cond.code ⟨"StairPlansModel", "isIn", "(JJJ)Z"⟩ prog_8_method_3_code 6 (some .boolean) ∈ gT := List.mem_filter.mpr ⟨List.mem_append_right _ (List.mem_append_right _ (List.mem_append_right _ (List.mem_append_right _ (List.mem_of_getElem? (i := 44) (by rfl)))) : Cond.code ⟨"StairPlansModel", "isIn", "(JJJ)Z"⟩ prog_8_method_3_code 6 (some .boolean) ∈ tables_1), by rfl⟩
theorem gw_624 : Cond.methodLink "StairPlansLaw" 82 ⟨"StairPlansModel", "unit", "(I)Z"⟩ ∈ gT := List.mem_filter.mpr ⟨List.mem_append_right _ (List.mem_append_right _ (List.mem_append_right _ (List.mem_append_right _ (List.mem_of_getElem? (i := 45) (by rfl)))) : Cond.methodLink "StairPlansLaw" 82 ⟨"StairPlansModel", "unit", "(I)Z"⟩ ∈ tables_1), by rfl⟩
theorem gw_625 : Cond.instanceMethod ⟨"StairPlansModel", "unit", "(I)Z"⟩ ∈ gT := List.mem_filter.mpr ⟨List.mem_append_right _ (List.mem_append_right _ (List.mem_append_right _ (List.mem_append_right _ (List.mem_of_getElem? (i := 46) (by rfl)))) : Cond.instanceMethod ⟨"StairPlansModel", "unit", "(I)Z"⟩ ∈ tables_1), by rfl⟩
theorem gw_626 : Cond.selects "StairPlansModel" ⟨"StairPlansModel", "unit", "(I)Z"⟩ ⟨"StairPlansModel", "unit", "(I)Z"⟩ ∈ gT := List.mem_filter.mpr ⟨List.mem_append_right _ (List.mem_append_right _ (List.mem_append_right _ (List.mem_append_right _ (List.mem_of_getElem? (i := 47) (by rfl)))) : Cond.selects "StairPlansModel" ⟨"StairPlansModel", "unit", "(I)Z"⟩ ⟨"StairPlansModel", "unit", "(I)Z"⟩ ∈ tables_1), by rfl⟩
theorem gw_627 : Cond.code ⟨"StairPlansModel", "unit", "(I)Z"⟩ prog_8_method_5_code 3 (some .boolean) ∈ gT := List.mem_filter.mpr ⟨List.mem_append_right _ (List.mem_append_right _ (List.mem_append_right _ (List.mem_append_right _ (List.mem_of_getElem? (i := 48) (by rfl)))) : Cond.code ⟨"StairPlansModel", "unit", "(I)Z"⟩ prog_8_method_5_code 3 (some .boolean) ∈ tables_1), by rfl⟩
theorem gw_628 : Cond.methodLink "StairPlansLaw" 86 ⟨"StairPlansModel", "rules", "()I"⟩ ∈ gT := List.mem_filter.mpr ⟨List.mem_append_right _ (List.mem_append_right _ (List.mem_append_right _ (List.mem_append_right _ (List.mem_of_getElem? (i := 49) (by rfl)))) : Cond.methodLink "StairPlansLaw" 86 ⟨"StairPlansModel", "rules", "()I"⟩ ∈ tables_1), by rfl⟩
theorem gw_629 : Cond.instanceMethod ⟨"StairPlansModel", "rules", "()I"⟩ ∈ gT := List.mem_filter.mpr ⟨List.mem_append_right _ (List.mem_append_right _ (List.mem_append_right _ (List.mem_append_right _ (List.mem_of_getElem? (i := 50) (by rfl)))) : Cond.instanceMethod ⟨"StairPlansModel", "rules", "()I"⟩ ∈ tables_1), by rfl⟩
theorem gw_630 : Cond.selects "StairPlansModel" ⟨"StairPlansModel", "rules", "()I"⟩ ⟨"StairPlansModel", "rules", "()I"⟩ ∈ gT := List.mem_filter.mpr ⟨List.mem_append_right _ (List.mem_append_right _ (List.mem_append_right _ (List.mem_append_right _ (List.mem_of_getElem? (i := 51) (by rfl)))) : Cond.selects "StairPlansModel" ⟨"StairPlansModel", "rules", "()I"⟩ ⟨"StairPlansModel", "rules", "()I"⟩ ∈ tables_1), by rfl⟩
theorem gw_631 : Cond.code ⟨"StairPlansModel", "rules", "()I"⟩ prog_8_method_13_code 3 (some .int) ∈ gT := List.mem_filter.mpr ⟨List.mem_append_right _ (List.mem_append_right _ (List.mem_append_right _ (List.mem_append_right _ (List.mem_of_getElem? (i := 52) (by rfl)))) : Cond.code ⟨"StairPlansModel", "rules", "()I"⟩ prog_8_method_13_code 3 (some .int) ∈ tables_1), by rfl⟩
theorem gw_632 : Cond.methodLink "StairPlansModel" 74 ⟨"StairPlansModel", "readRule", "(I)V"⟩ ∈ gT := List.mem_filter.mpr ⟨List.mem_append_right _ (List.mem_append_right _ (List.mem_append_right _ (List.mem_append_right _ (List.mem_of_getElem? (i := 53) (by rfl)))) : Cond.methodLink "StairPlansModel" 74 ⟨"StairPlansModel", "readRule", "(I)V"⟩ ∈ tables_1), by rfl⟩
theorem gw_633 : Cond.instanceMethod ⟨"StairPlansModel", "readRule", "(I)V"⟩ ∈ gT := List.mem_filter.mpr ⟨List.mem_append_right _ (List.mem_append_right _ (List.mem_append_right _ (List.mem_append_right _ (List.mem_of_getElem? (i := 55) (by rfl)))) : Cond.instanceMethod ⟨"StairPlansModel", "readRule", "(I)V"⟩ ∈ tables_1), by rfl⟩
theorem gw_634 : Cond.code ⟨"StairPlansModel", "readRule", "(I)V"⟩ prog_8_method_12_code 4 none ∈ gT := List.mem_filter.mpr ⟨List.mem_append_right _ (List.mem_append_right _ (List.mem_append_right _ (List.mem_append_right _ (List.mem_of_getElem? (i := 56) (by rfl)))) : Cond.code ⟨"StairPlansModel", "readRule", "(I)V"⟩ prog_8_method_12_code 4 none ∈ tables_1), by rfl⟩
theorem gw_635 : Cond.methodLink "StairPlansModel" 70 ⟨"StairPlansModel", "readTerm", "(I)V"⟩ ∈ gT := List.mem_filter.mpr ⟨List.mem_append_right _ (List.mem_append_right _ (List.mem_append_right _ (List.mem_append_right _ (List.mem_of_getElem? (i := 57) (by rfl)))) : Cond.methodLink "StairPlansModel" 70 ⟨"StairPlansModel", "readTerm", "(I)V"⟩ ∈ tables_1), by rfl⟩
theorem gw_636 : Cond.instanceMethod ⟨"StairPlansModel", "readTerm", "(I)V"⟩ ∈ gT := List.mem_filter.mpr ⟨List.mem_append_right _ (List.mem_append_right _ (List.mem_append_right _ (List.mem_append_right _ (List.mem_of_getElem? (i := 59) (by rfl)))) : Cond.instanceMethod ⟨"StairPlansModel", "readTerm", "(I)V"⟩ ∈ tables_1), by rfl⟩
theorem gw_637 : Cond.code ⟨"StairPlansModel", "readTerm", "(I)V"⟩ prog_8_method_11_code 4 none ∈ gT := List.mem_filter.mpr ⟨List.mem_append_right _ (List.mem_append_right _ (List.mem_append_right _ (List.mem_append_right _ (List.mem_of_getElem? (i := 60) (by rfl)))) : Cond.code ⟨"StairPlansModel", "readTerm", "(I)V"⟩ prog_8_method_11_code 4 none ∈ tables_1), by rfl⟩
theorem gw_638 : Cond.methodLink "StairPlansModel" 60 ⟨"StairPlansModel", "readDigits", "(I)I"⟩ ∈ gT := List.mem_filter.mpr ⟨List.mem_append_right _ (List.mem_append_right _ (List.mem_append_right _ (List.mem_append_right _ (List.mem_of_getElem? (i := 61) (by rfl)))) : Cond.methodLink "StairPlansModel" 60 ⟨"StairPlansModel", "readDigits", "(I)I"⟩ ∈ tables_1), by rfl⟩
theorem gw_639 : Cond.instanceMethod ⟨"StairPlansModel", "readDigits", "(I)I"⟩ ∈ gT := List.mem_filter.mpr ⟨List.mem_append_right _ (List.mem_append_right _ (List.mem_append_right _ (List.mem_append_right _ (List.mem_of_getElem? (i := 63) (by rfl)))) : Cond.instanceMethod ⟨"StairPlansModel", "readDigits", "(I)I"⟩ ∈ tables_1), by rfl⟩
theorem gw_640 : Cond.code ⟨"StairPlansModel", "readDigits", "(I)I"⟩ prog_8_method_9_code 4 (some .int) ∈ gT := List.mem_filter.mpr ⟨List.mem_append_right _ (List.mem_append_right _ (List.mem_append_right _ (List.mem_append_right _ (List.mem_of_getElem? (i := 64) (by rfl)))) : Cond.code ⟨"StairPlansModel", "readDigits", "(I)I"⟩ prog_8_method_9_code 4 (some .int) ∈ tables_1), by rfl⟩
theorem gw_641 : Cond.methodLink "StairPlansModel" 56 ⟨"StairPlansModel", "isDigit", "()Z"⟩ ∈ gT := List.mem_filter.mpr ⟨List.mem_append_right _ (List.mem_append_right _ (List.mem_append_right _ (List.mem_append_right _ (List.mem_of_getElem? (i := 65) (by rfl)))) : Cond.methodLink "StairPlansModel" 56 ⟨"StairPlansModel", "isDigit", "()Z"⟩ ∈ tables_1), by rfl⟩
theorem gw_642 : Cond.instanceMethod ⟨"StairPlansModel", "isDigit", "()Z"⟩ ∈ gT := List.mem_filter.mpr ⟨List.mem_append_right _ (List.mem_append_right _ (List.mem_append_right _ (List.mem_append_right _ (List.mem_of_getElem? (i := 67) (by rfl)))) : Cond.instanceMethod ⟨"StairPlansModel", "isDigit", "()Z"⟩ ∈ tables_1), by rfl⟩
theorem gw_643 : Cond.code ⟨"StairPlansModel", "isDigit", "()Z"⟩ prog_8_method_8_code 1 (some .boolean) ∈ gT := List.mem_filter.mpr ⟨List.mem_append_right _ (List.mem_append_right _ (List.mem_append_right _ (List.mem_append_right _ (List.mem_of_getElem? (i := 68) (by rfl)))) : Cond.code ⟨"StairPlansModel", "isDigit", "()Z"⟩ prog_8_method_8_code 1 (some .boolean) ∈ tables_1), by rfl⟩
theorem gw_644 : Cond.methodLink "StairPlansModel" 52 ⟨"StairPlansModel", "here", "()I"⟩ ∈ gT := List.mem_filter.mpr ⟨List.mem_append_right _ (List.mem_append_right _ (List.mem_append_right _ (List.mem_append_right _ (List.mem_of_getElem? (i := 69) (by rfl)))) : Cond.methodLink "StairPlansModel" 52 ⟨"StairPlansModel", "here", "()I"⟩ ∈ tables_1), by rfl⟩
theorem gw_645 : Cond.instanceMethod ⟨"StairPlansModel", "here", "()I"⟩ ∈ gT := List.mem_filter.mpr ⟨List.mem_append_right _ (List.mem_append_right _ (List.mem_append_right _ (List.mem_append_right _ (List.mem_of_getElem? (i := 71) (by rfl)))) : Cond.instanceMethod ⟨"StairPlansModel", "here", "()I"⟩ ∈ tables_1), by rfl⟩
theorem gw_646 : Cond.code ⟨"StairPlansModel", "here", "()I"⟩ prog_8_method_6_code 1 (some .int) ∈ gT := List.mem_filter.mpr ⟨List.mem_append_right _ (List.mem_append_right _ (List.mem_append_right _ (List.mem_append_right _ (List.mem_of_getElem? (i := 72) (by rfl)))) : Cond.code ⟨"StairPlansModel", "here", "()I"⟩ prog_8_method_6_code 1 (some .int) ∈ tables_1), by rfl⟩
theorem gw_647 : Cond.methodLink "StairPlansModel" 64 ⟨"StairPlansModel", "letterOf", "(I)I"⟩ ∈ gT := List.mem_filter.mpr ⟨List.mem_append_right _ (List.mem_append_right _ (List.mem_append_right _ (List.mem_append_right _ (List.mem_of_getElem? (i := 73) (by rfl)))) : Cond.methodLink "StairPlansModel" 64 ⟨"StairPlansModel", "letterOf", "(I)I"⟩ ∈ tables_1), by rfl⟩
theorem gw_648 : Cond.static ⟨"StairPlansModel", "letterOf", "(I)I"⟩ ∈ gT := List.mem_filter.mpr ⟨List.mem_append_right _ (List.mem_append_right _ (List.mem_append_right _ (List.mem_append_right _ (List.mem_of_getElem? (i := 74) (by rfl)))) : Cond.static ⟨"StairPlansModel", "letterOf", "(I)I"⟩ ∈ tables_1), by rfl⟩
theorem gw_649 : Cond.code ⟨"StairPlansModel", "letterOf", "(I)I"⟩ prog_8_method_10_code 1 (some .int) ∈ gT := List.mem_filter.mpr ⟨List.mem_append_right _ (List.mem_append_right _ (List.mem_append_right _ (List.mem_append_right _ (List.mem_of_getElem? (i := 75) (by rfl)))) : Cond.code ⟨"StairPlansModel", "letterOf", "(I)I"⟩ prog_8_method_10_code 1 (some .int) ∈ tables_1), by rfl⟩
theorem gw_650 : Cond.methodLink "StairPlansModel" 67 ⟨"StairPlansModel", "fail", "()V"⟩ ∈ gT := List.mem_filter.mpr ⟨List.mem_append_right _ (List.mem_append_right _ (List.mem_append_right _ (List.mem_append_right _ (List.mem_of_getElem? (i := 76) (by rfl)))) : Cond.methodLink "StairPlansModel" 67 ⟨"StairPlansModel", "fail", "()V"⟩ ∈ tables_1), by rfl⟩
theorem gw_651 : Cond.instanceMethod ⟨"StairPlansModel", "fail", "()V"⟩ ∈ gT := List.mem_filter.mpr ⟨List.mem_append_right _ (List.mem_append_right _ (List.mem_append_right _ (List.mem_append_right _ (List.mem_of_getElem? (i := 78) (by rfl)))) : Cond.instanceMethod ⟨"StairPlansModel", "fail", "()V"⟩ ∈ tables_1), by rfl⟩
theorem gw_652 : Cond.code ⟨"StairPlansModel", "fail", "()V"⟩ prog_8_method_7_code 1 none ∈ gT := List.mem_filter.mpr ⟨List.mem_append_right _ (List.mem_append_right _ (List.mem_append_right _ (List.mem_append_right _ (List.mem_of_getElem? (i := 79) (by rfl)))) : Cond.code ⟨"StairPlansModel", "fail", "()V"⟩ prog_8_method_7_code 1 none ∈ tables_1), by rfl⟩
theorem gw_653 : Cond.methodLink "StairPlansLaw" 90 ⟨"StairPlansModel", "run", "(IJJ)I"⟩ ∈ gT := List.mem_filter.mpr ⟨List.mem_append_right _ (List.mem_append_right _ (List.mem_append_right _ (List.mem_append_right _ (List.mem_of_getElem? (i := 80) (by rfl)))) : Cond.methodLink "StairPlansLaw" 90 ⟨"StairPlansModel", "run", "(IJJ)I"⟩ ∈ tables_1), by rfl⟩
theorem gw_654 : Cond.instanceMethod ⟨"StairPlansModel", "run", "(IJJ)I"⟩ ∈ gT := List.mem_filter.mpr ⟨List.mem_append_right _ (List.mem_append_right _ (List.mem_append_right _ (List.mem_append_right _ (List.mem_of_getElem? (i := 81) (by rfl)))) : Cond.instanceMethod ⟨"StairPlansModel", "run", "(IJJ)I"⟩ ∈ tables_1), by rfl⟩
theorem gw_655 : Cond.selects "StairPlansModel" ⟨"StairPlansModel", "run", "(IJJ)I"⟩ ⟨"StairPlansModel", "run", "(IJJ)I"⟩ ∈ gT := List.mem_filter.mpr ⟨List.mem_append_right _ (List.mem_append_right _ (List.mem_append_right _ (List.mem_append_right _ (List.mem_of_getElem? (i := 82) (by rfl)))) : Cond.selects "StairPlansModel" ⟨"StairPlansModel", "run", "(IJJ)I"⟩ ⟨"StairPlansModel", "run", "(IJJ)I"⟩ ∈ tables_1), by rfl⟩
theorem gw_656 : Cond.code ⟨"StairPlansModel", "run", "(IJJ)I"⟩ prog_8_method_16_code 10 (some .int) ∈ gT := List.mem_filter.mpr ⟨List.mem_append_right _ (List.mem_append_right _ (List.mem_append_right _ (List.mem_append_right _ (List.mem_of_getElem? (i := 83) (by rfl)))) : Cond.code ⟨"StairPlansModel", "run", "(IJJ)I"⟩ prog_8_method_16_code 10 (some .int) ∈ tables_1), by rfl⟩
theorem gw_657 : Cond.constantLong "StairPlansModel" 84 2 ∈ gT := List.mem_filter.mpr ⟨List.mem_append_right _ (List.mem_append_right _ (List.mem_append_right _ (List.mem_append_right _ (List.mem_of_getElem? (i := 84) (by rfl)))) : Cond.constantLong "StairPlansModel" 84 2 ∈ tables_1), by rfl⟩
theorem gw_658 : Cond.constantLong "StairPlansModel" 86 10000 ∈ gT := List.mem_filter.mpr ⟨List.mem_append_right _ (List.mem_append_right _ (List.mem_append_right _ (List.mem_append_right _ (List.mem_of_getElem? (i := 85) (by rfl)))) : Cond.constantLong "StairPlansModel" 86 10000 ∈ tables_1), by rfl⟩
theorem gw_659 : Cond.methodLink "StairPlansModel" 88 ⟨"StairPlansModel", "holding", "(JJI)I"⟩ ∈ gT := List.mem_filter.mpr ⟨List.mem_append_right _ (List.mem_append_right _ (List.mem_append_right _ (List.mem_append_right _ (List.mem_of_getElem? (i := 86) (by rfl)))) : Cond.methodLink "StairPlansModel" 88 ⟨"StairPlansModel", "holding", "(JJI)I"⟩ ∈ tables_1), by rfl⟩
theorem gw_660 : Cond.instanceMethod ⟨"StairPlansModel", "holding", "(JJI)I"⟩ ∈ gT := List.mem_filter.mpr ⟨List.mem_append_right _ (List.mem_append_right _ (List.mem_append_right _ (List.mem_append_right _ (List.mem_of_getElem? (i := 88) (by rfl)))) : Cond.instanceMethod ⟨"StairPlansModel", "holding", "(JJI)I"⟩ ∈ tables_1), by rfl⟩
theorem gw_661 : Cond.code ⟨"StairPlansModel", "holding", "(JJI)I"⟩ prog_8_method_15_code 7 (some .int) ∈ gT := List.mem_filter.mpr ⟨List.mem_append_right _ (List.mem_append_right _ (List.mem_append_right _ (List.mem_append_right _ (List.mem_of_getElem? (i := 89) (by rfl)))) : Cond.code ⟨"StairPlansModel", "holding", "(JJI)I"⟩ prog_8_method_15_code 7 (some .int) ∈ tables_1), by rfl⟩
theorem gw_662 : Cond.methodLink "StairPlansModel" 80 ⟨"StairPlansModel", "holds", "(IJJI)Z"⟩ ∈ gT := List.mem_filter.mpr ⟨List.mem_append_right _ (List.mem_append_right _ (List.mem_append_right _ (List.mem_append_right _ (List.mem_of_getElem? (i := 90) (by rfl)))) : Cond.methodLink "StairPlansModel" 80 ⟨"StairPlansModel", "holds", "(IJJI)Z"⟩ ∈ tables_1), by rfl⟩
theorem gw_663 : Cond.instanceMethod ⟨"StairPlansModel", "holds", "(IJJI)Z"⟩ ∈ gT := List.mem_filter.mpr ⟨List.mem_append_right _ (List.mem_append_right _ (List.mem_append_right _ (List.mem_append_right _ (List.mem_of_getElem? (i := 92) (by rfl)))) : Cond.instanceMethod ⟨"StairPlansModel", "holds", "(IJJI)Z"⟩ ∈ tables_1), by rfl⟩
theorem gw_664 : Cond.code ⟨"StairPlansModel", "holds", "(IJJI)Z"⟩ prog_8_method_14_code 12 (some .boolean) ∈ gT := List.mem_filter.mpr ⟨List.mem_append_right _ (List.mem_append_right _ (List.mem_append_right _ (List.mem_append_right _ (List.mem_of_getElem? (i := 93) (by rfl)))) : Cond.code ⟨"StairPlansModel", "holds", "(IJJI)Z"⟩ prog_8_method_14_code 12 (some .boolean) ∈ tables_1), by rfl⟩
theorem gw_665 : Cond.methodLink "StairPlansLaw" 94 ⟨"StairPlansModel", "rise", "(I)J"⟩ ∈ gT := List.mem_filter.mpr ⟨List.mem_append_right _ (List.mem_append_right _ (List.mem_append_right _ (List.mem_append_right _ (List.mem_of_getElem? (i := 94) (by rfl)))) : Cond.methodLink "StairPlansLaw" 94 ⟨"StairPlansModel", "rise", "(I)J"⟩ ∈ tables_1), by rfl⟩
theorem gw_666 : Cond.instanceMethod ⟨"StairPlansModel", "rise", "(I)J"⟩ ∈ gT := List.mem_filter.mpr ⟨List.mem_append_right _ (List.mem_append_right _ (List.mem_append_right _ (List.mem_append_right _ (List.mem_of_getElem? (i := 95) (by rfl)))) : Cond.instanceMethod ⟨"StairPlansModel", "rise", "(I)J"⟩ ∈ tables_1), by rfl⟩
theorem gw_667 : Cond.selects "StairPlansModel" ⟨"StairPlansModel", "rise", "(I)J"⟩ ⟨"StairPlansModel", "rise", "(I)J"⟩ ∈ gT := List.mem_filter.mpr ⟨List.mem_append_right _ (List.mem_append_right _ (List.mem_append_right _ (List.mem_append_right _ (List.mem_of_getElem? (i := 96) (by rfl)))) : Cond.selects "StairPlansModel" ⟨"StairPlansModel", "rise", "(I)J"⟩ ⟨"StairPlansModel", "rise", "(I)J"⟩ ∈ tables_1), by rfl⟩
theorem gw_668 : Cond.code ⟨"StairPlansModel", "rise", "(I)J"⟩ prog_8_method_19_code 2 (some .long) ∈ gT := List.mem_filter.mpr ⟨List.mem_append_right _ (List.mem_append_right _ (List.mem_append_right _ (List.mem_append_right _ (List.mem_of_getElem? (i := 97) (by rfl)))) : Cond.code ⟨"StairPlansModel", "rise", "(I)J"⟩ prog_8_method_19_code 2 (some .long) ∈ tables_1), by rfl⟩
theorem gw_669 : Cond.methodLink "StairPlansModel" 107 ⟨"StairPlansModel", "none", "()Z"⟩ ∈ gT := List.mem_filter.mpr ⟨List.mem_append_right _ (List.mem_append_right _ (List.mem_append_right _ (List.mem_append_right _ (List.mem_of_getElem? (i := 98) (by rfl)))) : Cond.methodLink "StairPlansModel" 107 ⟨"StairPlansModel", "none", "()Z"⟩ ∈ tables_1), by rfl⟩
theorem gw_670 : Cond.instanceMethod ⟨"StairPlansModel", "none", "()Z"⟩ ∈ gT := List.mem_filter.mpr ⟨List.mem_append_right _ (List.mem_append_right _ (List.mem_append_right _ (List.mem_append_right _ (List.mem_of_getElem? (i := 100) (by rfl)))) : Cond.instanceMethod ⟨"StairPlansModel", "none", "()Z"⟩ ∈ tables_1), by rfl⟩
theorem gw_671 : Cond.code ⟨"StairPlansModel", "none", "()Z"⟩ prog_8_method_17_code 1 (some .boolean) ∈ gT := List.mem_filter.mpr ⟨List.mem_append_right _ (List.mem_append_right _ (List.mem_append_right _ (List.mem_append_right _ (List.mem_of_getElem? (i := 101) (by rfl)))) : Cond.code ⟨"StairPlansModel", "none", "()Z"⟩ prog_8_method_17_code 1 (some .boolean) ∈ tables_1), by rfl⟩
theorem gw_672 : Cond.methodLink "StairPlansModel" 110 ⟨"StairPlansModel", "common", "(JJ)J"⟩ ∈ gT := List.mem_filter.mpr ⟨List.mem_append_right _ (List.mem_append_right _ (List.mem_append_right _ (List.mem_append_right _ (List.mem_of_getElem? (i := 102) (by rfl)))) : Cond.methodLink "StairPlansModel" 110 ⟨"StairPlansModel", "common", "(JJ)J"⟩ ∈ tables_1), by rfl⟩
theorem gw_673 : Cond.static ⟨"StairPlansModel", "common", "(JJ)J"⟩ ∈ gT := List.mem_filter.mpr ⟨List.mem_append_right _ (List.mem_append_right _ (List.mem_append_right _ (List.mem_append_right _ (List.mem_of_getElem? (i := 103) (by rfl)))) : Cond.static ⟨"StairPlansModel", "common", "(JJ)J"⟩ ∈ tables_1), by rfl⟩
theorem gw_674 : Cond.code ⟨"StairPlansModel", "common", "(JJ)J"⟩ prog_8_method_18_code 10 (some .long) ∈ gT := List.mem_filter.mpr ⟨List.mem_append_right _ (List.mem_append_right _ (List.mem_append_right _ (List.mem_append_right _ (List.mem_of_getElem? (i := 104) (by rfl)))) : Cond.code ⟨"StairPlansModel", "common", "(JJ)J"⟩ prog_8_method_18_code 10 (some .long) ∈ tables_1), by rfl⟩
theorem gw_675 : Cond.methodLink "StairPlansLaw" 98 ⟨"StairPlansModel", "step", "(II)J"⟩ ∈ gT := List.mem_filter.mpr ⟨List.mem_append_right _ (List.mem_append_right _ (List.mem_append_right _ (List.mem_append_right _ (List.mem_of_getElem? (i := 105) (by rfl)))) : Cond.methodLink "StairPlansLaw" 98 ⟨"StairPlansModel", "step", "(II)J"⟩ ∈ tables_1), by rfl⟩
theorem gw_676 : Cond.instanceMethod ⟨"StairPlansModel", "step", "(II)J"⟩ ∈ gT := List.mem_filter.mpr ⟨List.mem_append_right _ (List.mem_append_right _ (List.mem_append_right _ (List.mem_append_right _ (List.mem_of_getElem? (i := 106) (by rfl)))) : Cond.instanceMethod ⟨"StairPlansModel", "step", "(II)J"⟩ ∈ tables_1), by rfl⟩
theorem gw_677 : Cond.selects "StairPlansModel" ⟨"StairPlansModel", "step", "(II)J"⟩ ⟨"StairPlansModel", "step", "(II)J"⟩ ∈ gT := List.mem_filter.mpr ⟨List.mem_append_right _ (List.mem_append_right _ (List.mem_append_right _ (List.mem_append_right _ (List.mem_of_getElem? (i := 107) (by rfl)))) : Cond.selects "StairPlansModel" ⟨"StairPlansModel", "step", "(II)J"⟩ ⟨"StairPlansModel", "step", "(II)J"⟩ ∈ tables_1), by rfl⟩
theorem gw_678 : Cond.code ⟨"StairPlansModel", "step", "(II)J"⟩ prog_8_method_24_code 3 (some .long) ∈ gT := List.mem_filter.mpr ⟨List.mem_append_right _ (List.mem_append_right _ (List.mem_append_right _ (List.mem_append_right _ (List.mem_of_getElem? (i := 108) (by rfl)))) : Cond.code ⟨"StairPlansModel", "step", "(II)J"⟩ prog_8_method_24_code 3 (some .long) ∈ tables_1), by rfl⟩
theorem gw_679 : Cond.constantLong "StairPlansModel" 123 5 ∈ gT := List.mem_filter.mpr ⟨List.mem_append_right _ (List.mem_append_right _ (List.mem_append_right _ (List.mem_append_right _ (List.mem_of_getElem? (i := 109) (by rfl)))) : Cond.constantLong "StairPlansModel" 123 5 ∈ tables_1), by rfl⟩
theorem gw_680 : Cond.methodLink "StairPlansModel" 120 ⟨"StairPlansModel", "sort", "(I)I"⟩ ∈ gT := List.mem_filter.mpr ⟨List.mem_append_right _ (List.mem_append_right _ (List.mem_append_right _ (List.mem_append_right _ (List.mem_of_getElem? (i := 110) (by rfl)))) : Cond.methodLink "StairPlansModel" 120 ⟨"StairPlansModel", "sort", "(I)I"⟩ ∈ tables_1), by rfl⟩
theorem gw_681 : Cond.instanceMethod ⟨"StairPlansModel", "sort", "(I)I"⟩ ∈ gT := List.mem_filter.mpr ⟨List.mem_append_right _ (List.mem_append_right _ (List.mem_append_right _ (List.mem_append_right _ (List.mem_of_getElem? (i := 112) (by rfl)))) : Cond.instanceMethod ⟨"StairPlansModel", "sort", "(I)I"⟩ ∈ tables_1), by rfl⟩
theorem gw_682 : Cond.code ⟨"StairPlansModel", "sort", "(I)I"⟩ prog_8_method_22_code 3 (some .int) ∈ gT := List.mem_filter.mpr ⟨List.mem_append_right _ (List.mem_append_right _ (List.mem_append_right _ (List.mem_append_right _ (List.mem_of_getElem? (i := 113) (by rfl)))) : Cond.code ⟨"StairPlansModel", "sort", "(I)I"⟩ prog_8_method_22_code 3 (some .int) ∈ tables_1), by rfl⟩
theorem gw_683 : Cond.methodLink "StairPlansModel" 114 ⟨"StairPlansModel", "before", "()I"⟩ ∈ gT := List.mem_filter.mpr ⟨List.mem_append_right _ (List.mem_append_right _ (List.mem_append_right _ (List.mem_append_right _ (List.mem_of_getElem? (i := 114) (by rfl)))) : Cond.methodLink "StairPlansModel" 114 ⟨"StairPlansModel", "before", "()I"⟩ ∈ tables_1), by rfl⟩
theorem gw_684 : Cond.instanceMethod ⟨"StairPlansModel", "before", "()I"⟩ ∈ gT := List.mem_filter.mpr ⟨List.mem_append_right _ (List.mem_append_right _ (List.mem_append_right _ (List.mem_append_right _ (List.mem_of_getElem? (i := 116) (by rfl)))) : Cond.instanceMethod ⟨"StairPlansModel", "before", "()I"⟩ ∈ tables_1), by rfl⟩
theorem gw_685 : Cond.code ⟨"StairPlansModel", "before", "()I"⟩ prog_8_method_20_code 1 (some .int) ∈ gT := List.mem_filter.mpr ⟨List.mem_append_right _ (List.mem_append_right _ (List.mem_append_right _ (List.mem_append_right _ (List.mem_of_getElem? (i := 117) (by rfl)))) : Cond.code ⟨"StairPlansModel", "before", "()I"⟩ prog_8_method_20_code 1 (some .int) ∈ tables_1), by rfl⟩
theorem gw_686 : Cond.methodLink "StairPlansModel" 117 ⟨"StairPlansModel", "inSquare", "()I"⟩ ∈ gT := List.mem_filter.mpr ⟨List.mem_append_right _ (List.mem_append_right _ (List.mem_append_right _ (List.mem_append_right _ (List.mem_of_getElem? (i := 118) (by rfl)))) : Cond.methodLink "StairPlansModel" 117 ⟨"StairPlansModel", "inSquare", "()I"⟩ ∈ tables_1), by rfl⟩
theorem gw_687 : Cond.instanceMethod ⟨"StairPlansModel", "inSquare", "()I"⟩ ∈ gT := List.mem_filter.mpr ⟨List.mem_append_right _ (List.mem_append_right _ (List.mem_append_right _ (List.mem_append_right _ (List.mem_of_getElem? (i := 120) (by rfl)))) : Cond.instanceMethod ⟨"StairPlansModel", "inSquare", "()I"⟩ ∈ tables_1), by rfl⟩
theorem gw_688 : Cond.code ⟨"StairPlansModel", "inSquare", "()I"⟩ prog_8_method_21_code 1 (some .int) ∈ gT := List.mem_filter.mpr ⟨List.mem_append_right _ (List.mem_append_right _ (List.mem_append_right _ (List.mem_append_right _ (List.mem_of_getElem? (i := 121) (by rfl)))) : Cond.code ⟨"StairPlansModel", "inSquare", "()I"⟩ prog_8_method_21_code 1 (some .int) ∈ tables_1), by rfl⟩
theorem gw_689 : Cond.methodLink "StairPlansModel" 125 ⟨"StairPlansModel", "side", "(II)J"⟩ ∈ gT := List.mem_filter.mpr ⟨List.mem_append_right _ (List.mem_append_right _ (List.mem_append_right _ (List.mem_append_right _ (List.mem_of_getElem? (i := 122) (by rfl)))) : Cond.methodLink "StairPlansModel" 125 ⟨"StairPlansModel", "side", "(II)J"⟩ ∈ tables_1), by rfl⟩
theorem gw_690 : Cond.instanceMethod ⟨"StairPlansModel", "side", "(II)J"⟩ ∈ gT := List.mem_filter.mpr ⟨List.mem_append_right _ (List.mem_append_right _ (List.mem_append_right _ (List.mem_append_right _ (List.mem_of_getElem? (i := 124) (by rfl)))) : Cond.instanceMethod ⟨"StairPlansModel", "side", "(II)J"⟩ ∈ tables_1), by rfl⟩
theorem gw_691 : Cond.code ⟨"StairPlansModel", "side", "(II)J"⟩ prog_8_method_23_code 8 (some .long) ∈ gT := List.mem_filter.mpr ⟨List.mem_append_right _ (List.mem_append_right _ (List.mem_append_right _ (List.mem_append_right _ (List.mem_of_getElem? (i := 125) (by rfl)))) : Cond.code ⟨"StairPlansModel", "side", "(II)J"⟩ prog_8_method_23_code 8 (some .long) ∈ tables_1), by rfl⟩
theorem gw_692 : Cond.methodLink "StairPlansLaw" 101 ⟨"StairPlansModel", "winder", "(II)J"⟩ ∈ gT := List.mem_filter.mpr ⟨List.mem_append_right _ (List.mem_append_right _ (List.mem_append_right _ (List.mem_append_right _ (List.mem_of_getElem? (i := 126) (by rfl)))) : Cond.methodLink "StairPlansLaw" 101 ⟨"StairPlansModel", "winder", "(II)J"⟩ ∈ tables_1), by rfl⟩
theorem gw_693 : Cond.instanceMethod ⟨"StairPlansModel", "winder", "(II)J"⟩ ∈ gT := List.mem_filter.mpr ⟨List.mem_append_right _ (List.mem_append_right _ (List.mem_append_right _ (List.mem_append_right _ (List.mem_of_getElem? (i := 127) (by rfl)))) : Cond.instanceMethod ⟨"StairPlansModel", "winder", "(II)J"⟩ ∈ tables_1), by rfl⟩
theorem gw_694 : Cond.selects "StairPlansModel" ⟨"StairPlansModel", "winder", "(II)J"⟩ ⟨"StairPlansModel", "winder", "(II)J"⟩ ∈ gT := List.mem_filter.mpr ⟨List.mem_append_right _ (List.mem_append_right _ (List.mem_append_right _ (List.mem_append_right _ (List.mem_of_getElem? (i := 128) (by rfl)))) : Cond.selects "StairPlansModel" ⟨"StairPlansModel", "winder", "(II)J"⟩ ⟨"StairPlansModel", "winder", "(II)J"⟩ ∈ tables_1), by rfl⟩
theorem gw_695 : Cond.code ⟨"StairPlansModel", "winder", "(II)J"⟩ prog_8_method_26_code 7 (some .long) ∈ gT := List.mem_filter.mpr ⟨List.mem_append_right _ (List.mem_append_right _ (List.mem_append_right _ (List.mem_append_right _ (List.mem_of_getElem? (i := 129) (by rfl)))) : Cond.code ⟨"StairPlansModel", "winder", "(II)J"⟩ prog_8_method_26_code 7 (some .long) ∈ tables_1), by rfl⟩
theorem gw_696 : Cond.methodLink "StairPlansModel" 129 ⟨"StairPlansModel", "noWinders", "()Z"⟩ ∈ gT := List.mem_filter.mpr ⟨List.mem_append_right _ (List.mem_append_right _ (List.mem_append_right _ (List.mem_append_right _ (List.mem_of_getElem? (i := 130) (by rfl)))) : Cond.methodLink "StairPlansModel" 129 ⟨"StairPlansModel", "noWinders", "()Z"⟩ ∈ tables_1), by rfl⟩
theorem gw_697 : Cond.instanceMethod ⟨"StairPlansModel", "noWinders", "()Z"⟩ ∈ gT := List.mem_filter.mpr ⟨List.mem_append_right _ (List.mem_append_right _ (List.mem_append_right _ (List.mem_append_right _ (List.mem_of_getElem? (i := 132) (by rfl)))) : Cond.instanceMethod ⟨"StairPlansModel", "noWinders", "()Z"⟩ ∈ tables_1), by rfl⟩
theorem gw_698 : Cond.code ⟨"StairPlansModel", "noWinders", "()Z"⟩ prog_8_method_25_code 1 (some .boolean) ∈ gT := List.mem_filter.mpr ⟨List.mem_append_right _ (List.mem_append_right _ (List.mem_append_right _ (List.mem_append_right _ (List.mem_of_getElem? (i := 133) (by rfl)))) : Cond.code ⟨"StairPlansModel", "noWinders", "()Z"⟩ prog_8_method_25_code 1 (some .boolean) ∈ tables_1), by rfl⟩
theorem gw_699 : Cond.constantLong "StairPlansModel" 132 3 ∈ gT := List.mem_filter.mpr ⟨List.mem_append_right _ (List.mem_append_right _ (List.mem_append_right _ (List.mem_append_right _ (List.mem_of_getElem? (i := 134) (by rfl)))) : Cond.constantLong "StairPlansModel" 132 3 ∈ tables_1), by rfl⟩
theorem gw_700 : Cond.methodLink "StairPlansLaw" 104 ⟨"StairPlansModel", "area", "(I)J"⟩ ∈ gT := List.mem_filter.mpr ⟨List.mem_append_right _ (List.mem_append_right _ (List.mem_append_right _ (List.mem_append_right _ (List.mem_of_getElem? (i := 135) (by rfl)))) : Cond.methodLink "StairPlansLaw" 104 ⟨"StairPlansModel", "area", "(I)J"⟩ ∈ tables_1), by rfl⟩
theorem gw_701 : Cond.instanceMethod ⟨"StairPlansModel", "area", "(I)J"⟩ ∈ gT := List.mem_filter.mpr ⟨List.mem_append_right _ (List.mem_append_right _ (List.mem_append_right _ (List.mem_append_right _ (List.mem_of_getElem? (i := 136) (by rfl)))) : Cond.instanceMethod ⟨"StairPlansModel", "area", "(I)J"⟩ ∈ tables_1), by rfl⟩
theorem gw_702 : Cond.selects "StairPlansModel" ⟨"StairPlansModel", "area", "(I)J"⟩ ⟨"StairPlansModel", "area", "(I)J"⟩ ∈ gT := List.mem_filter.mpr ⟨List.mem_append_right _ (List.mem_append_right _ (List.mem_append_right _ (List.mem_append_right _ (List.mem_of_getElem? (i := 137) (by rfl)))) : Cond.selects "StairPlansModel" ⟨"StairPlansModel", "area", "(I)J"⟩ ⟨"StairPlansModel", "area", "(I)J"⟩ ∈ tables_1), by rfl⟩
theorem gw_703 : Cond.code ⟨"StairPlansModel", "area", "(I)J"⟩ prog_8_method_27_code 2 (some .long) ∈ gT := List.mem_filter.mpr ⟨List.mem_append_right _ (List.mem_append_right _ (List.mem_append_right _ (List.mem_append_right _ (List.mem_of_getElem? (i := 138) (by rfl)))) : Cond.code ⟨"StairPlansModel", "area", "(I)J"⟩ prog_8_method_27_code 2 (some .long) ∈ tables_1), by rfl⟩
theorem gw_704 : Cond.methodLink "StairPlansLaw" 107 ⟨"StairPlansModel", "meets", "(I)Z"⟩ ∈ gT := List.mem_filter.mpr ⟨List.mem_append_right _ (List.mem_append_right _ (List.mem_append_right _ (List.mem_append_right _ (List.mem_of_getElem? (i := 139) (by rfl)))) : Cond.methodLink "StairPlansLaw" 107 ⟨"StairPlansModel", "meets", "(I)Z"⟩ ∈ tables_1), by rfl⟩
theorem gw_705 : Cond.instanceMethod ⟨"StairPlansModel", "meets", "(I)Z"⟩ ∈ gT := List.mem_filter.mpr ⟨List.mem_append_right _ (List.mem_append_right _ (List.mem_append_right _ (List.mem_append_right _ (List.mem_of_getElem? (i := 140) (by rfl)))) : Cond.instanceMethod ⟨"StairPlansModel", "meets", "(I)Z"⟩ ∈ tables_1), by rfl⟩
theorem gw_706 : Cond.selects "StairPlansModel" ⟨"StairPlansModel", "meets", "(I)Z"⟩ ⟨"StairPlansModel", "meets", "(I)Z"⟩ ∈ gT := List.mem_filter.mpr ⟨List.mem_append_right _ (List.mem_append_right _ (List.mem_append_right _ (List.mem_append_right _ (List.mem_of_getElem? (i := 141) (by rfl)))) : Cond.selects "StairPlansModel" ⟨"StairPlansModel", "meets", "(I)Z"⟩ ⟨"StairPlansModel", "meets", "(I)Z"⟩ ∈ tables_1), by rfl⟩
theorem gw_707 : Cond.code ⟨"StairPlansModel", "meets", "(I)Z"⟩ prog_8_method_28_code 2 (some .boolean) ∈ gT := List.mem_filter.mpr ⟨List.mem_append_right _ (List.mem_append_right _ (List.mem_append_right _ (List.mem_append_right _ (List.mem_of_getElem? (i := 142) (by rfl)))) : Cond.code ⟨"StairPlansModel", "meets", "(I)Z"⟩ prog_8_method_28_code 2 (some .boolean) ∈ tables_1), by rfl⟩
theorem gw_708 : Cond.methodLink "StairPlansLaw" 111 ⟨"StairPlansModel", "floor", "(JJJJJ)Z"⟩ ∈ gT := List.mem_filter.mpr ⟨List.mem_append_right _ (List.mem_append_right _ (List.mem_append_right _ (List.mem_append_right _ (List.mem_of_getElem? (i := 143) (by rfl)))) : Cond.methodLink "StairPlansLaw" 111 ⟨"StairPlansModel", "floor", "(JJJJJ)Z"⟩ ∈ tables_1), by rfl⟩
theorem gw_709 : Cond.instanceMethod ⟨"StairPlansModel", "floor", "(JJJJJ)Z"⟩ ∈ gT := List.mem_filter.mpr ⟨List.mem_append_right _ (List.mem_append_right _ (List.mem_append_right _ (List.mem_append_right _ (List.mem_of_getElem? (i := 144) (by rfl)))) : Cond.instanceMethod ⟨"StairPlansModel", "floor", "(JJJJJ)Z"⟩ ∈ tables_1), by rfl⟩
theorem gw_710 : Cond.selects "StairPlansModel" ⟨"StairPlansModel", "floor", "(JJJJJ)Z"⟩ ⟨"StairPlansModel", "floor", "(JJJJJ)Z"⟩ ∈ gT := List.mem_filter.mpr ⟨List.mem_append_right _ (List.mem_append_right _ (List.mem_append_right _ (List.mem_append_right _ (List.mem_of_getElem? (i := 145) (by rfl)))) : Cond.selects "StairPlansModel" ⟨"StairPlansModel", "floor", "(JJJJJ)Z"⟩ ⟨"StairPlansModel", "floor", "(JJJJJ)Z"⟩ ∈ tables_1), by rfl⟩
theorem gw_711 : Cond.code ⟨"StairPlansModel", "floor", "(JJJJJ)Z"⟩ prog_8_method_30_code 12 (some .boolean) ∈ gT := List.mem_filter.mpr ⟨List.mem_append_right _ (List.mem_append_right _ (List.mem_append_right _ (List.mem_append_right _ (List.mem_of_getElem? (i := 146) (by rfl)))) : Cond.code ⟨"StairPlansModel", "floor", "(JJJJJ)Z"⟩ prog_8_method_30_code 12 (some .boolean) ∈ tables_1), by rfl⟩
theorem gw_712 : Cond.methodLink "StairPlansModel" 138 ⟨"StairPlansModel", "isPlace", "(J)Z"⟩ ∈ gT := List.mem_filter.mpr ⟨List.mem_append_right _ (List.mem_append_right _ (List.mem_append_right _ (List.mem_append_right _ (List.mem_of_getElem? (i := 147) (by rfl)))) : Cond.methodLink "StairPlansModel" 138 ⟨"StairPlansModel", "isPlace", "(J)Z"⟩ ∈ tables_1), by rfl⟩
theorem gw_713 : Cond.static ⟨"StairPlansModel", "isPlace", "(J)Z"⟩ ∈ gT := List.mem_filter.mpr ⟨List.mem_append_right _ (List.mem_append_right _ (List.mem_append_right _ (List.mem_append_right _ (List.mem_of_getElem? (i := 148) (by rfl)))) : Cond.static ⟨"StairPlansModel", "isPlace", "(J)Z"⟩ ∈ tables_1), by rfl⟩
theorem gw_714 : Cond.code ⟨"StairPlansModel", "isPlace", "(J)Z"⟩ prog_8_method_29_code 2 (some .boolean) ∈ gT := List.mem_filter.mpr ⟨List.mem_append_right _ (List.mem_append_right _ (List.mem_append_right _ (List.mem_append_right _ (List.mem_of_getElem? (i := 149) (by rfl)))) : Cond.code ⟨"StairPlansModel", "isPlace", "(J)Z"⟩ prog_8_method_29_code 2 (some .boolean) ∈ tables_1), by rfl⟩
theorem gw_715 : Cond.constantLong "StairPlansModel" 134 (-1000000) ∈ gT := List.mem_filter.mpr ⟨List.mem_append_right _ (List.mem_append_right _ (List.mem_append_right _ (List.mem_append_right _ (List.mem_of_getElem? (i := 150) (by rfl)))) : Cond.constantLong "StairPlansModel" 134 (-1000000) ∈ tables_1), by rfl⟩
theorem gw_716 : Cond.constantLong "StairPlansModel" 136 1000000 ∈ gT := List.mem_filter.mpr ⟨List.mem_append_right _ (List.mem_append_right _ (List.mem_append_right _ (List.mem_append_right _ (List.mem_of_getElem? (i := 151) (by rfl)))) : Cond.constantLong "StairPlansModel" 136 1000000 ∈ tables_1), by rfl⟩
theorem gw_717 : Cond.methodLink "StairPlansLaw" 115 ⟨"StairPlansModel", "headRoom", "()J"⟩ ∈ gT := List.mem_filter.mpr ⟨List.mem_append_right _ (List.mem_append_right _ (List.mem_append_right _ (List.mem_append_right _ (List.mem_of_getElem? (i := 152) (by rfl)))) : Cond.methodLink "StairPlansLaw" 115 ⟨"StairPlansModel", "headRoom", "()J"⟩ ∈ tables_1), by rfl⟩
theorem gw_718 : Cond.instanceMethod ⟨"StairPlansModel", "headRoom", "()J"⟩ ∈ gT := List.mem_filter.mpr ⟨List.mem_append_right _ (List.mem_append_right _ (List.mem_append_right _ (List.mem_append_right _ (List.mem_of_getElem? (i := 153) (by rfl)))) : Cond.instanceMethod ⟨"StairPlansModel", "headRoom", "()J"⟩ ∈ tables_1), by rfl⟩
theorem gw_719 : Cond.selects "StairPlansModel" ⟨"StairPlansModel", "headRoom", "()J"⟩ ⟨"StairPlansModel", "headRoom", "()J"⟩ ∈ gT := List.mem_filter.mpr ⟨List.mem_append_right _ (List.mem_append_right _ (List.mem_append_right _ (List.mem_append_right _ (List.mem_of_getElem? (i := 154) (by rfl)))) : Cond.selects "StairPlansModel" ⟨"StairPlansModel", "headRoom", "()J"⟩ ⟨"StairPlansModel", "headRoom", "()J"⟩ ∈ tables_1), by rfl⟩
theorem gw_720 : Cond.code ⟨"StairPlansModel", "headRoom", "()J"⟩ prog_8_method_31_code 8 (some .long) ∈ gT := List.mem_filter.mpr ⟨List.mem_append_right _ (List.mem_append_right _ (List.mem_append_right _ (List.mem_append_right _ (List.mem_of_getElem? (i := 155) (by rfl)))) : Cond.code ⟨"StairPlansModel", "headRoom", "()J"⟩ prog_8_method_31_code 8 (some .long) ∈ tables_1), by rfl⟩
theorem gw_721 : Cond.constantLong "StairPlansModel" 145 9223372036854775807 ∈ gT := List.mem_filter.mpr ⟨List.mem_append_right _ (List.mem_append_right _ (List.mem_append_right _ (List.mem_append_right _ (List.mem_of_getElem? (i := 156) (by rfl)))) : Cond.constantLong "StairPlansModel" 145 9223372036854775807 ∈ tables_1), by rfl⟩
theorem gw_722 : Cond.methodLink "StairPlansLaw" 118 ⟨"StairPlansModel", "string", "(I)J"⟩ ∈ gT := List.mem_filter.mpr ⟨List.mem_append_right _ (List.mem_append_right _ (List.mem_append_right _ (List.mem_append_right _ (List.mem_of_getElem? (i := 157) (by rfl)))) : Cond.methodLink "StairPlansLaw" 118 ⟨"StairPlansModel", "string", "(I)J"⟩ ∈ tables_1), by rfl⟩
theorem gw_723 : Cond.instanceMethod ⟨"StairPlansModel", "string", "(I)J"⟩ ∈ gT := List.mem_filter.mpr ⟨List.mem_append_right _ (List.mem_append_right _ (List.mem_append_right _ (List.mem_append_right _ (List.mem_of_getElem? (i := 158) (by rfl)))) : Cond.instanceMethod ⟨"StairPlansModel", "string", "(I)J"⟩ ∈ tables_1), by rfl⟩
theorem gw_724 : Cond.selects "StairPlansModel" ⟨"StairPlansModel", "string", "(I)J"⟩ ⟨"StairPlansModel", "string", "(I)J"⟩ ∈ gT := List.mem_filter.mpr ⟨List.mem_append_right _ (List.mem_append_right _ (List.mem_append_right _ (List.mem_append_right _ (List.mem_of_getElem? (i := 159) (by rfl)))) : Cond.selects "StairPlansModel" ⟨"StairPlansModel", "string", "(I)J"⟩ ⟨"StairPlansModel", "string", "(I)J"⟩ ∈ tables_1), by rfl⟩
theorem gw_725 : Cond.code ⟨"StairPlansModel", "string", "(I)J"⟩ prog_8_method_32_code 13 (some .long) ∈ gT := List.mem_filter.mpr ⟨List.mem_append_right _ (List.mem_append_right _ (List.mem_append_right _ (List.mem_append_right _ (List.mem_of_getElem? (i := 160) (by rfl)))) : Cond.code ⟨"StairPlansModel", "string", "(I)J"⟩ prog_8_method_32_code 13 (some .long) ∈ tables_1), by rfl⟩
theorem gw_726 : Cond.methodLink "StairPlansLaw" 122 ⟨"StairPlansModel", "balusters", "(JJ)I"⟩ ∈ gT := List.mem_filter.mpr ⟨List.mem_append_right _ (List.mem_append_right _ (List.mem_append_right _ (List.mem_append_right _ (List.mem_of_getElem? (i := 161) (by rfl)))) : Cond.methodLink "StairPlansLaw" 122 ⟨"StairPlansModel", "balusters", "(JJ)I"⟩ ∈ tables_1), by rfl⟩
theorem gw_727 : Cond.instanceMethod ⟨"StairPlansModel", "balusters", "(JJ)I"⟩ ∈ gT := List.mem_filter.mpr ⟨List.mem_append_right _ (List.mem_append_right _ (List.mem_append_right _ (List.mem_append_right _ (List.mem_of_getElem? (i := 162) (by rfl)))) : Cond.instanceMethod ⟨"StairPlansModel", "balusters", "(JJ)I"⟩ ∈ tables_1), by rfl⟩
theorem gw_728 : Cond.selects "StairPlansModel" ⟨"StairPlansModel", "balusters", "(JJ)I"⟩ ⟨"StairPlansModel", "balusters", "(JJ)I"⟩ ∈ gT := List.mem_filter.mpr ⟨List.mem_append_right _ (List.mem_append_right _ (List.mem_append_right _ (List.mem_append_right _ (List.mem_of_getElem? (i := 163) (by rfl)))) : Cond.selects "StairPlansModel" ⟨"StairPlansModel", "balusters", "(JJ)I"⟩ ⟨"StairPlansModel", "balusters", "(JJ)I"⟩ ∈ tables_1), by rfl⟩
theorem gw_729 : Cond.code ⟨"StairPlansModel", "balusters", "(JJ)I"⟩ prog_8_method_33_code 13 (some .int) ∈ gT := List.mem_filter.mpr ⟨List.mem_append_right _ (List.mem_append_right _ (List.mem_append_right _ (List.mem_append_right _ (List.mem_of_getElem? (i := 164) (by rfl)))) : Cond.code ⟨"StairPlansModel", "balusters", "(JJ)I"⟩ prog_8_method_33_code 13 (some .int) ∈ tables_1), by rfl⟩
theorem gw_730 : Cond.constantLong "StairPlansModel" 147 1000 ∈ gT := List.mem_filter.mpr ⟨List.mem_append_right _ (List.mem_append_right _ (List.mem_append_right _ (List.mem_append_right _ (List.mem_of_getElem? (i := 165) (by rfl)))) : Cond.constantLong "StairPlansModel" 147 1000 ∈ tables_1), by rfl⟩
theorem gw_731 : Cond.methodLink "StairPlansLaw" 125 ⟨"StairPlansModel", "gap", "(I)J"⟩ ∈ gT := List.mem_filter.mpr ⟨List.mem_append_right _ (List.mem_append_right _ (List.mem_append_right _ (List.mem_append_right _ (List.mem_of_getElem? (i := 166) (by rfl)))) : Cond.methodLink "StairPlansLaw" 125 ⟨"StairPlansModel", "gap", "(I)J"⟩ ∈ tables_1), by rfl⟩
theorem gw_732 : Cond.instanceMethod ⟨"StairPlansModel", "gap", "(I)J"⟩ ∈ gT := List.mem_filter.mpr ⟨List.mem_append_right _ (List.mem_append_right _ (List.mem_append_right _ (List.mem_append_right _ (List.mem_of_getElem? (i := 167) (by rfl)))) : Cond.instanceMethod ⟨"StairPlansModel", "gap", "(I)J"⟩ ∈ tables_1), by rfl⟩
theorem gw_733 : Cond.selects "StairPlansModel" ⟨"StairPlansModel", "gap", "(I)J"⟩ ⟨"StairPlansModel", "gap", "(I)J"⟩ ∈ gT := List.mem_filter.mpr ⟨List.mem_append_right _ (List.mem_append_right _ (List.mem_append_right _ (List.mem_append_right _ (List.mem_of_getElem? (i := 168) (by rfl)))) : Cond.selects "StairPlansModel" ⟨"StairPlansModel", "gap", "(I)J"⟩ ⟨"StairPlansModel", "gap", "(I)J"⟩ ∈ tables_1), by rfl⟩
theorem gw_734 : Cond.code ⟨"StairPlansModel", "gap", "(I)J"⟩ prog_8_method_34_code 2 (some .long) ∈ gT := List.mem_filter.mpr ⟨List.mem_append_right _ (List.mem_append_right _ (List.mem_append_right _ (List.mem_append_right _ (List.mem_of_getElem? (i := 169) (by rfl)))) : Cond.code ⟨"StairPlansModel", "gap", "(I)J"⟩ prog_8_method_34_code 2 (some .long) ∈ tables_1), by rfl⟩
theorem gw_735 : Cond.methodLink "StairPlansLaw" 128 ⟨"StairPlansModel", "list", "(I)I"⟩ ∈ gT := List.mem_filter.mpr ⟨List.mem_append_right _ (List.mem_append_right _ (List.mem_append_right _ (List.mem_append_right _ (List.mem_of_getElem? (i := 170) (by rfl)))) : Cond.methodLink "StairPlansLaw" 128 ⟨"StairPlansModel", "list", "(I)I"⟩ ∈ tables_1), by rfl⟩
theorem gw_736 : Cond.instanceMethod ⟨"StairPlansModel", "list", "(I)I"⟩ ∈ gT := List.mem_filter.mpr ⟨List.mem_append_right _ (List.mem_append_right _ (List.mem_append_right _ (List.mem_append_right _ (List.mem_of_getElem? (i := 171) (by rfl)))) : Cond.instanceMethod ⟨"StairPlansModel", "list", "(I)I"⟩ ∈ tables_1), by rfl⟩
theorem gw_737 : Cond.selects "StairPlansModel" ⟨"StairPlansModel", "list", "(I)I"⟩ ⟨"StairPlansModel", "list", "(I)I"⟩ ∈ gT := List.mem_filter.mpr ⟨List.mem_append_right _ (List.mem_append_right _ (List.mem_append_right _ (List.mem_append_right _ (List.mem_of_getElem? (i := 172) (by rfl)))) : Cond.selects "StairPlansModel" ⟨"StairPlansModel", "list", "(I)I"⟩ ⟨"StairPlansModel", "list", "(I)I"⟩ ∈ tables_1), by rfl⟩
theorem gw_738 : Cond.code ⟨"StairPlansModel", "list", "(I)I"⟩ prog_8_method_35_code 2 (some .int) ∈ gT := List.mem_filter.mpr ⟨List.mem_append_right _ (List.mem_append_right _ (List.mem_append_right _ (List.mem_append_right _ (List.mem_of_getElem? (i := 173) (by rfl)))) : Cond.code ⟨"StairPlansModel", "list", "(I)I"⟩ prog_8_method_35_code 2 (some .int) ∈ tables_1), by rfl⟩
theorem gw_739 : Cond.constantLong "StairPlansLaw" 67 4294967295 ∈ gT := List.mem_filter.mpr ⟨List.mem_append_right _ (List.mem_append_right _ (List.mem_append_right _ (List.mem_append_right _ (List.mem_of_getElem? (i := 174) (by rfl)))) : Cond.constantLong "StairPlansLaw" 67 4294967295 ∈ tables_1), by rfl⟩
theorem gw_740 : Cond.sameMethod "java/lang/Throwable" "java/lang/Throwable" "fillInStackTrace" "(I)Ljava/lang/Throwable;" ∈ gT := List.mem_filter.mpr ⟨List.mem_append_right _ (List.mem_append_right _ (List.mem_append_right _ (List.mem_append_right _ (List.mem_of_getElem? (i := 175) (by rfl)))) : Cond.sameMethod "java/lang/Throwable" "java/lang/Throwable" "fillInStackTrace" "(I)Ljava/lang/Throwable;" ∈ tables_1), by rfl⟩
theorem gw_741 : Cond.fieldLink "java/lang/String" 15 "java/lang/String" "coder" "B" ∈ gT := List.mem_filter.mpr ⟨List.mem_append_right _ (List.mem_append_right _ (List.mem_append_right _ (List.mem_append_right _ (List.mem_of_getElem? (i := 176) (by rfl)))) : Cond.fieldLink "java/lang/String" 15 "java/lang/String" "coder" "B" ∈ tables_1), by rfl⟩
theorem gw_742 : Cond.fieldLink "java/lang/String" 9 "java/lang/String" "value" "[B" ∈ gT := List.mem_filter.mpr ⟨List.mem_append_right _ (List.mem_append_right _ (List.mem_append_right _ (List.mem_append_right _ (List.mem_of_getElem? (i := 177) (by rfl)))) : Cond.fieldLink "java/lang/String" 9 "java/lang/String" "value" "[B" ∈ tables_1), by rfl⟩
theorem gw_743 : Cond.selects "StairPlans$RuleText" ⟨"StairPlans$RuleText", "readRule", "(LStairPlans$RuleSet;)Z"⟩ ⟨"StairPlans$RuleText", "readRule", "(LStairPlans$RuleSet;)Z"⟩ ∈ gT := List.mem_filter.mpr ⟨List.mem_append_left _ (List.mem_of_getElem? (i := 0) (by rfl) : Cond.selects "StairPlans$RuleText" ⟨"StairPlans$RuleText", "readRule", "(LStairPlans$RuleSet;)Z"⟩ ⟨"StairPlans$RuleText", "readRule", "(LStairPlans$RuleSet;)Z"⟩ ∈ k2_sels lw_privs), by rfl⟩
theorem gw_744 : Cond.selects "StairPlans$RuleText" ⟨"StairPlans$RuleText", "readSum", "(LStairPlans$RuleSet;)Z"⟩ ⟨"StairPlans$RuleText", "readSum", "(LStairPlans$RuleSet;)Z"⟩ ∈ gT := List.mem_filter.mpr ⟨List.mem_append_left _ (List.mem_of_getElem? (i := 1) (by rfl) : Cond.selects "StairPlans$RuleText" ⟨"StairPlans$RuleText", "readSum", "(LStairPlans$RuleSet;)Z"⟩ ⟨"StairPlans$RuleText", "readSum", "(LStairPlans$RuleSet;)Z"⟩ ∈ k2_sels lw_privs), by rfl⟩
theorem gw_745 : Cond.selects "StairPlans$RuleText" ⟨"StairPlans$RuleText", "readTerm", "(LStairPlans$RuleSet;)Z"⟩ ⟨"StairPlans$RuleText", "readTerm", "(LStairPlans$RuleSet;)Z"⟩ ∈ gT := List.mem_filter.mpr ⟨List.mem_append_left _ (List.mem_of_getElem? (i := 2) (by rfl) : Cond.selects "StairPlans$RuleText" ⟨"StairPlans$RuleText", "readTerm", "(LStairPlans$RuleSet;)Z"⟩ ⟨"StairPlans$RuleText", "readTerm", "(LStairPlans$RuleSet;)Z"⟩ ∈ k2_sels lw_privs), by rfl⟩
theorem gw_746 : Cond.selects "StairPlans$RuleText" ⟨"StairPlans$RuleText", "readNumber", "(I)I"⟩ ⟨"StairPlans$RuleText", "readNumber", "(I)I"⟩ ∈ gT := List.mem_filter.mpr ⟨List.mem_append_left _ (List.mem_of_getElem? (i := 3) (by rfl) : Cond.selects "StairPlans$RuleText" ⟨"StairPlans$RuleText", "readNumber", "(I)I"⟩ ⟨"StairPlans$RuleText", "readNumber", "(I)I"⟩ ∈ k2_sels lw_privs), by rfl⟩
theorem gw_747 : Cond.selects "StairPlans$RuleText" ⟨"StairPlans$RuleText", "next", "()C"⟩ ⟨"StairPlans$RuleText", "next", "()C"⟩ ∈ gT := List.mem_filter.mpr ⟨List.mem_append_left _ (List.mem_of_getElem? (i := 4) (by rfl) : Cond.selects "StairPlans$RuleText" ⟨"StairPlans$RuleText", "next", "()C"⟩ ⟨"StairPlans$RuleText", "next", "()C"⟩ ∈ k2_sels lw_privs), by rfl⟩
theorem gw_748 : Cond.selects "StairPlans" ⟨"StairPlans", "forgetPlan", "()V"⟩ ⟨"StairPlans", "forgetPlan", "()V"⟩ ∈ gT := List.mem_filter.mpr ⟨List.mem_append_left _ (List.mem_of_getElem? (i := 5) (by rfl) : Cond.selects "StairPlans" ⟨"StairPlans", "forgetPlan", "()V"⟩ ⟨"StairPlans", "forgetPlan", "()V"⟩ ∈ k2_sels lw_privs), by rfl⟩
theorem gw_749 : Cond.selects "StairPlans$RuleSet" ⟨"StairPlans$RuleSet", "sumTimesRises", "(ILStairPlans$Stair;)J"⟩ ⟨"StairPlans$RuleSet", "sumTimesRises", "(ILStairPlans$Stair;)J"⟩ ∈ gT := List.mem_filter.mpr ⟨List.mem_append_left _ (List.mem_of_getElem? (i := 7) (by rfl) : Cond.selects "StairPlans$RuleSet" ⟨"StairPlans$RuleSet", "sumTimesRises", "(ILStairPlans$Stair;)J"⟩ ⟨"StairPlans$RuleSet", "sumTimesRises", "(ILStairPlans$Stair;)J"⟩ ∈ k2_sels lw_privs), by rfl⟩
theorem gw_750 : Cond.selects "StairPlans" ⟨"StairPlans", "requirePlan", "()V"⟩ ⟨"StairPlans", "requirePlan", "()V"⟩ ∈ gT := List.mem_filter.mpr ⟨List.mem_append_left _ (List.mem_of_getElem? (i := 8) (by rfl) : Cond.selects "StairPlans" ⟨"StairPlans", "requirePlan", "()V"⟩ ⟨"StairPlans", "requirePlan", "()V"⟩ ∈ k2_sels lw_privs), by rfl⟩
theorem gw_751 : Cond.selects "StairPlans$Stair" ⟨"StairPlans$Stair", "cornerX", "()J"⟩ ⟨"StairPlans$Stair", "cornerX", "()J"⟩ ∈ gT := List.mem_filter.mpr ⟨List.mem_append_left _ (List.mem_of_getElem? (i := 9) (by rfl) : Cond.selects "StairPlans$Stair" ⟨"StairPlans$Stair", "cornerX", "()J"⟩ ⟨"StairPlans$Stair", "cornerX", "()J"⟩ ∈ k2_sels lw_privs), by rfl⟩
theorem gw_752 : Cond.selects "StairPlans" ⟨"StairPlans", "requireWinders", "()V"⟩ ⟨"StairPlans", "requireWinders", "()V"⟩ ∈ gT := List.mem_filter.mpr ⟨List.mem_append_left _ (List.mem_of_getElem? (i := 10) (by rfl) : Cond.selects "StairPlans" ⟨"StairPlans", "requireWinders", "()V"⟩ ⟨"StairPlans", "requireWinders", "()V"⟩ ∈ k2_sels lw_privs), by rfl⟩
theorem gw_753 : Cond.selects "StairPlans$FloorSet" ⟨"StairPlans$FloorSet", "isOver", "(ILStairPlans$Stair;I)Z"⟩ ⟨"StairPlans$FloorSet", "isOver", "(ILStairPlans$Stair;I)Z"⟩ ∈ gT := List.mem_filter.mpr ⟨List.mem_append_left _ (List.mem_of_getElem? (i := 11) (by rfl) : Cond.selects "StairPlans$FloorSet" ⟨"StairPlans$FloorSet", "isOver", "(ILStairPlans$Stair;I)Z"⟩ ⟨"StairPlans$FloorSet", "isOver", "(ILStairPlans$Stair;I)Z"⟩ ∈ k2_sels lw_privs), by rfl⟩
theorem gw_754 : Cond.selects "StairPlans$Stair" ⟨"StairPlans$Stair", "scaledStringSquare", "()J"⟩ ⟨"StairPlans$Stair", "scaledStringSquare", "()J"⟩ ∈ gT := List.mem_filter.mpr ⟨List.mem_append_left _ (List.mem_of_getElem? (i := 12) (by rfl) : Cond.selects "StairPlans$Stair" ⟨"StairPlans$Stair", "scaledStringSquare", "()J"⟩ ⟨"StairPlans$Stair", "scaledStringSquare", "()J"⟩ ∈ k2_sels lw_privs), by rfl⟩
theorem gw_755 : Cond.selects "StairPlans$Stair" ⟨"StairPlans$Stair", "scaledSquare", "(J)J"⟩ ⟨"StairPlans$Stair", "scaledSquare", "(J)J"⟩ ∈ gT := List.mem_filter.mpr ⟨List.mem_append_left _ (List.mem_of_getElem? (i := 13) (by rfl) : Cond.selects "StairPlans$Stair" ⟨"StairPlans$Stair", "scaledSquare", "(J)J"⟩ ⟨"StairPlans$Stair", "scaledSquare", "(J)J"⟩ ∈ k2_sels lw_privs), by rfl⟩
theorem gw_756 : Cond.selects "StairPlansModel" ⟨"StairPlansModel", "readRule", "(I)V"⟩ ⟨"StairPlansModel", "readRule", "(I)V"⟩ ∈ gT := List.mem_filter.mpr ⟨List.mem_append_left _ (List.mem_of_getElem? (i := 14) (by rfl) : Cond.selects "StairPlansModel" ⟨"StairPlansModel", "readRule", "(I)V"⟩ ⟨"StairPlansModel", "readRule", "(I)V"⟩ ∈ k2_sels lw_privs), by rfl⟩
theorem gw_757 : Cond.selects "StairPlansModel" ⟨"StairPlansModel", "readTerm", "(I)V"⟩ ⟨"StairPlansModel", "readTerm", "(I)V"⟩ ∈ gT := List.mem_filter.mpr ⟨List.mem_append_left _ (List.mem_of_getElem? (i := 15) (by rfl) : Cond.selects "StairPlansModel" ⟨"StairPlansModel", "readTerm", "(I)V"⟩ ⟨"StairPlansModel", "readTerm", "(I)V"⟩ ∈ k2_sels lw_privs), by rfl⟩
theorem gw_758 : Cond.selects "StairPlansModel" ⟨"StairPlansModel", "readDigits", "(I)I"⟩ ⟨"StairPlansModel", "readDigits", "(I)I"⟩ ∈ gT := List.mem_filter.mpr ⟨List.mem_append_left _ (List.mem_of_getElem? (i := 16) (by rfl) : Cond.selects "StairPlansModel" ⟨"StairPlansModel", "readDigits", "(I)I"⟩ ⟨"StairPlansModel", "readDigits", "(I)I"⟩ ∈ k2_sels lw_privs), by rfl⟩
theorem gw_759 : Cond.selects "StairPlansModel" ⟨"StairPlansModel", "isDigit", "()Z"⟩ ⟨"StairPlansModel", "isDigit", "()Z"⟩ ∈ gT := List.mem_filter.mpr ⟨List.mem_append_left _ (List.mem_of_getElem? (i := 17) (by rfl) : Cond.selects "StairPlansModel" ⟨"StairPlansModel", "isDigit", "()Z"⟩ ⟨"StairPlansModel", "isDigit", "()Z"⟩ ∈ k2_sels lw_privs), by rfl⟩
theorem gw_760 : Cond.selects "StairPlansModel" ⟨"StairPlansModel", "here", "()I"⟩ ⟨"StairPlansModel", "here", "()I"⟩ ∈ gT := List.mem_filter.mpr ⟨List.mem_append_left _ (List.mem_of_getElem? (i := 18) (by rfl) : Cond.selects "StairPlansModel" ⟨"StairPlansModel", "here", "()I"⟩ ⟨"StairPlansModel", "here", "()I"⟩ ∈ k2_sels lw_privs), by rfl⟩
theorem gw_761 : Cond.selects "StairPlansModel" ⟨"StairPlansModel", "fail", "()V"⟩ ⟨"StairPlansModel", "fail", "()V"⟩ ∈ gT := List.mem_filter.mpr ⟨List.mem_append_left _ (List.mem_of_getElem? (i := 19) (by rfl) : Cond.selects "StairPlansModel" ⟨"StairPlansModel", "fail", "()V"⟩ ⟨"StairPlansModel", "fail", "()V"⟩ ∈ k2_sels lw_privs), by rfl⟩
theorem gw_762 : Cond.selects "StairPlansModel" ⟨"StairPlansModel", "holding", "(JJI)I"⟩ ⟨"StairPlansModel", "holding", "(JJI)I"⟩ ∈ gT := List.mem_filter.mpr ⟨List.mem_append_left _ (List.mem_of_getElem? (i := 20) (by rfl) : Cond.selects "StairPlansModel" ⟨"StairPlansModel", "holding", "(JJI)I"⟩ ⟨"StairPlansModel", "holding", "(JJI)I"⟩ ∈ k2_sels lw_privs), by rfl⟩
theorem gw_763 : Cond.selects "StairPlansModel" ⟨"StairPlansModel", "holds", "(IJJI)Z"⟩ ⟨"StairPlansModel", "holds", "(IJJI)Z"⟩ ∈ gT := List.mem_filter.mpr ⟨List.mem_append_left _ (List.mem_of_getElem? (i := 21) (by rfl) : Cond.selects "StairPlansModel" ⟨"StairPlansModel", "holds", "(IJJI)Z"⟩ ⟨"StairPlansModel", "holds", "(IJJI)Z"⟩ ∈ k2_sels lw_privs), by rfl⟩
theorem gw_764 : Cond.selects "StairPlansModel" ⟨"StairPlansModel", "none", "()Z"⟩ ⟨"StairPlansModel", "none", "()Z"⟩ ∈ gT := List.mem_filter.mpr ⟨List.mem_append_left _ (List.mem_of_getElem? (i := 22) (by rfl) : Cond.selects "StairPlansModel" ⟨"StairPlansModel", "none", "()Z"⟩ ⟨"StairPlansModel", "none", "()Z"⟩ ∈ k2_sels lw_privs), by rfl⟩
theorem gw_765 : Cond.selects "StairPlansModel" ⟨"StairPlansModel", "sort", "(I)I"⟩ ⟨"StairPlansModel", "sort", "(I)I"⟩ ∈ gT := List.mem_filter.mpr ⟨List.mem_append_left _ (List.mem_of_getElem? (i := 23) (by rfl) : Cond.selects "StairPlansModel" ⟨"StairPlansModel", "sort", "(I)I"⟩ ⟨"StairPlansModel", "sort", "(I)I"⟩ ∈ k2_sels lw_privs), by rfl⟩
theorem gw_766 : Cond.selects "StairPlansModel" ⟨"StairPlansModel", "before", "()I"⟩ ⟨"StairPlansModel", "before", "()I"⟩ ∈ gT := List.mem_filter.mpr ⟨List.mem_append_left _ (List.mem_of_getElem? (i := 24) (by rfl) : Cond.selects "StairPlansModel" ⟨"StairPlansModel", "before", "()I"⟩ ⟨"StairPlansModel", "before", "()I"⟩ ∈ k2_sels lw_privs), by rfl⟩
theorem gw_767 : Cond.selects "StairPlansModel" ⟨"StairPlansModel", "inSquare", "()I"⟩ ⟨"StairPlansModel", "inSquare", "()I"⟩ ∈ gT := List.mem_filter.mpr ⟨List.mem_append_left _ (List.mem_of_getElem? (i := 25) (by rfl) : Cond.selects "StairPlansModel" ⟨"StairPlansModel", "inSquare", "()I"⟩ ⟨"StairPlansModel", "inSquare", "()I"⟩ ∈ k2_sels lw_privs), by rfl⟩
theorem gw_768 : Cond.selects "StairPlansModel" ⟨"StairPlansModel", "side", "(II)J"⟩ ⟨"StairPlansModel", "side", "(II)J"⟩ ∈ gT := List.mem_filter.mpr ⟨List.mem_append_left _ (List.mem_of_getElem? (i := 26) (by rfl) : Cond.selects "StairPlansModel" ⟨"StairPlansModel", "side", "(II)J"⟩ ⟨"StairPlansModel", "side", "(II)J"⟩ ∈ k2_sels lw_privs), by rfl⟩
theorem gw_769 : Cond.selects "StairPlansModel" ⟨"StairPlansModel", "noWinders", "()Z"⟩ ⟨"StairPlansModel", "noWinders", "()Z"⟩ ∈ gT := List.mem_filter.mpr ⟨List.mem_append_left _ (List.mem_of_getElem? (i := 27) (by rfl) : Cond.selects "StairPlansModel" ⟨"StairPlansModel", "noWinders", "()Z"⟩ ⟨"StairPlansModel", "noWinders", "()Z"⟩ ∈ k2_sels lw_privs), by rfl⟩
theorem inP : ∀ w ∈ u_ws RP TP 10, w ∈ gT := List.forall_mem_cons.mpr ⟨gw_109, List.forall_mem_cons.mpr ⟨gw_110, List.forall_mem_cons.mpr ⟨gw_111, List.forall_mem_cons.mpr ⟨gw_112, List.forall_mem_cons.mpr ⟨gw_113, List.forall_mem_cons.mpr ⟨gw_114, List.forall_mem_cons.mpr ⟨gw_115, List.forall_mem_cons.mpr ⟨gw_116, List.forall_mem_cons.mpr ⟨gw_117, List.forall_mem_cons.mpr ⟨gw_118, fun _ h => absurd h List.not_mem_nil⟩⟩⟩⟩⟩⟩⟩⟩⟩⟩
theorem inT : ∀ w ∈ u_ws RT TT 3, w ∈ gT := List.forall_mem_cons.mpr ⟨gw_34, List.forall_mem_cons.mpr ⟨gw_35, List.forall_mem_cons.mpr ⟨gw_36, fun _ h => absurd h List.not_mem_nil⟩⟩⟩
theorem inS : ∀ w ∈ u_ws RS TS 4, w ∈ gT := List.forall_mem_cons.mpr ⟨gw_47, List.forall_mem_cons.mpr ⟨gw_48, List.forall_mem_cons.mpr ⟨gw_49, List.forall_mem_cons.mpr ⟨gw_50, fun _ h => absurd h List.not_mem_nil⟩⟩⟩⟩
theorem inF : ∀ w ∈ u_ws RF TF 6, w ∈ gT := List.forall_mem_cons.mpr ⟨gw_63, List.forall_mem_cons.mpr ⟨gw_64, List.forall_mem_cons.mpr ⟨gw_65, List.forall_mem_cons.mpr ⟨gw_66, List.forall_mem_cons.mpr ⟨gw_67, List.forall_mem_cons.mpr ⟨gw_68, fun _ h => absurd h List.not_mem_nil⟩⟩⟩⟩⟩⟩
theorem inA : ∀ w ∈ u_ws RA TA 7, w ∈ gT := List.forall_mem_cons.mpr ⟨gw_82, List.forall_mem_cons.mpr ⟨gw_83, List.forall_mem_cons.mpr ⟨gw_84, List.forall_mem_cons.mpr ⟨gw_85, List.forall_mem_cons.mpr ⟨gw_86, List.forall_mem_cons.mpr ⟨gw_87, List.forall_mem_cons.mpr ⟨gw_88, fun _ h => absurd h List.not_mem_nil⟩⟩⟩⟩⟩⟩⟩
theorem inQ : ∀ w ∈ u_ws RQ TQ 2, w ∈ gT := List.forall_mem_cons.mpr ⟨gw_96, List.forall_mem_cons.mpr ⟨gw_97, fun _ h => absurd h List.not_mem_nil⟩⟩
theorem inM : ∀ w ∈ u_ws RM TM 19, w ∈ gT := List.forall_mem_cons.mpr ⟨gw_593, List.forall_mem_cons.mpr ⟨gw_594, List.forall_mem_cons.mpr ⟨gw_595, List.forall_mem_cons.mpr ⟨gw_596, List.forall_mem_cons.mpr ⟨gw_597, List.forall_mem_cons.mpr ⟨gw_598, List.forall_mem_cons.mpr ⟨gw_599, List.forall_mem_cons.mpr ⟨gw_600, List.forall_mem_cons.mpr ⟨gw_601, List.forall_mem_cons.mpr ⟨gw_602, List.forall_mem_cons.mpr ⟨gw_603, List.forall_mem_cons.mpr ⟨gw_604, List.forall_mem_cons.mpr ⟨gw_605, List.forall_mem_cons.mpr ⟨gw_606, List.forall_mem_cons.mpr ⟨gw_607, List.forall_mem_cons.mpr ⟨gw_608, List.forall_mem_cons.mpr ⟨gw_609, List.forall_mem_cons.mpr ⟨gw_610, List.forall_mem_cons.mpr ⟨gw_611, fun _ h => absurd h List.not_mem_nil⟩⟩⟩⟩⟩⟩⟩⟩⟩⟩⟩⟩⟩⟩⟩⟩⟩⟩⟩
end
section
theorem dA_init_0 : decode bA_init 0 = .ok (.aload_n 0, 1) := by decide +kernel
theorem dA_init_1 : decode bA_init 1 = .ok (.invokespecial 3, 3) := by decide +kernel
theorem dA_init_4 : decode bA_init 4 = .ok (.aload_n 0, 1) := by decide +kernel
theorem dA_init_5 : decode bA_init 5 = .ok (.iconst 0, 1) := by decide +kernel
theorem dA_init_6 : decode bA_init 6 = .ok (.putfield 9, 3) := by decide +kernel
theorem dA_init_9 : decode bA_init 9 = .ok (.aload_n 0, 1) := by decide +kernel
theorem dA_init_10 : decode bA_init 10 = .ok (.iconst 1, 1) := by decide +kernel
theorem dA_init_11 : decode bA_init 11 = .ok (.putfield 15, 3) := by decide +kernel
theorem dA_init_14 : decode bA_init 14 = .ok (.aload_n 0, 1) := by decide +kernel
theorem dA_init_15 : decode bA_init 15 = .ok (.lconst 1, 1) := by decide +kernel
theorem dA_init_16 : decode bA_init 16 = .ok (.putfield 18, 3) := by decide +kernel
theorem dA_init_19 : decode bA_init 19 = .ok (.aload_n 0, 1) := by decide +kernel
theorem dA_init_20 : decode bA_init 20 = .ok (.lconst 1, 1) := by decide +kernel
theorem dA_init_21 : decode bA_init 21 = .ok (.putfield 22, 3) := by decide +kernel
theorem dA_init_24 : decode bA_init 24 = .ok (.aload_n 0, 1) := by decide +kernel
theorem dA_init_25 : decode bA_init 25 = .ok (.lconst 1, 1) := by decide +kernel
theorem dA_init_26 : decode bA_init 26 = .ok (.putfield 25, 3) := by decide +kernel
theorem dA_init_29 : decode bA_init 29 = .ok (.aload_n 0, 1) := by decide +kernel
theorem dA_init_30 : decode bA_init 30 = .ok (.iconst 0, 1) := by decide +kernel
theorem dA_init_31 : decode bA_init 31 = .ok (.putfield 28, 3) := by decide +kernel
theorem dA_init_34 : decode bA_init 34 = .ok (.aload_n 0, 1) := by decide +kernel
theorem dA_init_35 : decode bA_init 35 = .ok (.iconst 0, 1) := by decide +kernel
theorem dA_init_36 : decode bA_init 36 = .ok (.putfield 31, 3) := by decide +kernel
theorem dA_init_39 : decode bA_init 39 = .ok (.return_, 1) := by decide +kernel
theorem dA_measure_0 : decode bA_measure 0 = .ok (.aload_n 0, 1) := by decide +kernel
theorem dA_measure_1 : decode bA_measure 1 = .ok (.iload_n 1, 1) := by decide +kernel
theorem dA_measure_2 : decode bA_measure 2 = .ok (.putfield 9, 3) := by decide +kernel
theorem dA_measure_5 : decode bA_measure 5 = .ok (.aload_n 0, 1) := by decide +kernel
theorem dA_measure_6 : decode bA_measure 6 = .ok (.lload_n 2, 1) := by decide +kernel
theorem dA_measure_7 : decode bA_measure 7 = .ok (.putfield 18, 3) := by decide +kernel
theorem dA_measure_10 : decode bA_measure 10 = .ok (.aload_n 0, 1) := by decide +kernel
theorem dA_measure_11 : decode bA_measure 11 = .ok (.lload 4, 2) := by decide +kernel
theorem dA_measure_13 : decode bA_measure 13 = .ok (.putfield 22, 3) := by decide +kernel
theorem dA_measure_16 : decode bA_measure 16 = .ok (.aload_n 0, 1) := by decide +kernel
theorem dA_measure_17 : decode bA_measure 17 = .ok (.lload 6, 2) := by decide +kernel
theorem dA_measure_19 : decode bA_measure 19 = .ok (.putfield 25, 3) := by decide +kernel
theorem dA_measure_22 : decode bA_measure 22 = .ok (.return_, 1) := by decide +kernel
theorem dA_divide_0 : decode bA_divide 0 = .ok (.aload_n 0, 1) := by decide +kernel
theorem dA_divide_1 : decode bA_divide 1 = .ok (.iload_n 1, 1) := by decide +kernel
theorem dA_divide_2 : decode bA_divide 2 = .ok (.putfield 15, 3) := by decide +kernel
theorem dA_divide_5 : decode bA_divide 5 = .ok (.aload_n 0, 1) := by decide +kernel
theorem dA_divide_6 : decode bA_divide 6 = .ok (.aload_n 0, 1) := by decide +kernel
theorem dA_divide_7 : decode bA_divide 7 = .ok (.getfield 9, 3) := by decide +kernel
theorem dA_divide_10 : decode bA_divide 10 = .ok (.ifCond .ne 10, 3) := by decide +kernel
theorem dA_divide_13 : decode bA_divide 13 = .ok (.aload_n 0, 1) := by decide +kernel
theorem dA_divide_14 : decode bA_divide 14 = .ok (.invokevirtual 34, 3) := by decide +kernel
theorem dA_divide_17 : decode bA_divide 17 = .ok (.goto 11, 3) := by decide +kernel
theorem dA_divide_20 : decode bA_divide 20 = .ok (.iload_n 1, 1) := by decide +kernel
theorem dA_divide_21 : decode bA_divide 21 = .ok (.aload_n 0, 1) := by decide +kernel
theorem dA_divide_22 : decode bA_divide 22 = .ok (.invokevirtual 38, 3) := by decide +kernel
theorem dA_divide_25 : decode bA_divide 25 = .ok (.isub, 1) := by decide +kernel
theorem dA_divide_26 : decode bA_divide 26 = .ok (.iconst 2, 1) := by decide +kernel
theorem dA_divide_27 : decode bA_divide 27 = .ok (.idiv, 1) := by decide +kernel
theorem dA_divide_28 : decode bA_divide 28 = .ok (.putfield 28, 3) := by decide +kernel
theorem dA_divide_31 : decode bA_divide 31 = .ok (.aload_n 0, 1) := by decide +kernel
theorem dA_divide_32 : decode bA_divide 32 = .ok (.aload_n 0, 1) := by decide +kernel
theorem dA_divide_33 : decode bA_divide 33 = .ok (.getfield 28, 3) := by decide +kernel
theorem dA_divide_36 : decode bA_divide 36 = .ok (.aload_n 0, 1) := by decide +kernel
theorem dA_divide_37 : decode bA_divide 37 = .ok (.invokevirtual 41, 3) := by decide +kernel
theorem dA_divide_40 : decode bA_divide 40 = .ok (.iadd, 1) := by decide +kernel
theorem dA_divide_41 : decode bA_divide 41 = .ok (.aload_n 0, 1) := by decide +kernel
theorem dA_divide_42 : decode bA_divide 42 = .ok (.invokevirtual 44, 3) := by decide +kernel
theorem dA_divide_45 : decode bA_divide 45 = .ok (.iadd, 1) := by decide +kernel
theorem dA_divide_46 : decode bA_divide 46 = .ok (.putfield 31, 3) := by decide +kernel
theorem dA_divide_49 : decode bA_divide 49 = .ok (.return_, 1) := by decide +kernel
theorem dA_fewestRises_0 : decode bA_fewestRises 0 = .ok (.aload_n 0, 1) := by decide +kernel
theorem dA_fewestRises_1 : decode bA_fewestRises 1 = .ok (.getfield 9, 3) := by decide +kernel
theorem dA_fewestRises_4 : decode bA_fewestRises 4 = .ok (.iconst 2, 1) := by decide +kernel
theorem dA_fewestRises_5 : decode bA_fewestRises 5 = .ok (.if_icmp .ne 7, 3) := by decide +kernel
theorem dA_fewestRises_8 : decode bA_fewestRises 8 = .ok (.iconst 4, 1) := by decide +kernel
theorem dA_fewestRises_9 : decode bA_fewestRises 9 = .ok (.goto 16, 3) := by decide +kernel
theorem dA_fewestRises_12 : decode bA_fewestRises 12 = .ok (.aload_n 0, 1) := by decide +kernel
theorem dA_fewestRises_13 : decode bA_fewestRises 13 = .ok (.getfield 9, 3) := by decide +kernel
theorem dA_fewestRises_16 : decode bA_fewestRises 16 = .ok (.iconst 1, 1) := by decide +kernel
theorem dA_fewestRises_17 : decode bA_fewestRises 17 = .ok (.if_icmp .ne 7, 3) := by decide +kernel
theorem dA_fewestRises_20 : decode bA_fewestRises 20 = .ok (.iconst 2, 1) := by decide +kernel
theorem dA_fewestRises_21 : decode bA_fewestRises 21 = .ok (.goto 4, 3) := by decide +kernel
theorem dA_fewestRises_24 : decode bA_fewestRises 24 = .ok (.iconst 1, 1) := by decide +kernel
theorem dA_fewestRises_25 : decode bA_fewestRises 25 = .ok (.ireturn, 1) := by decide +kernel
theorem dA_treads_0 : decode bA_treads 0 = .ok (.aload_n 0, 1) := by decide +kernel
theorem dA_treads_1 : decode bA_treads 1 = .ok (.getfield 15, 3) := by decide +kernel
theorem dA_treads_4 : decode bA_treads 4 = .ok (.iconst 1, 1) := by decide +kernel
theorem dA_treads_5 : decode bA_treads 5 = .ok (.isub, 1) := by decide +kernel
theorem dA_treads_6 : decode bA_treads 6 = .ok (.ireturn, 1) := by decide +kernel
theorem dA_landings_0 : decode bA_landings 0 = .ok (.aload_n 0, 1) := by decide +kernel
theorem dA_landings_1 : decode bA_landings 1 = .ok (.getfield 9, 3) := by decide +kernel
theorem dA_landings_4 : decode bA_landings 4 = .ok (.iconst 1, 1) := by decide +kernel
theorem dA_landings_5 : decode bA_landings 5 = .ok (.if_icmp .ne 7, 3) := by decide +kernel
theorem dA_landings_8 : decode bA_landings 8 = .ok (.iconst 1, 1) := by decide +kernel
theorem dA_landings_9 : decode bA_landings 9 = .ok (.goto 4, 3) := by decide +kernel
theorem dA_landings_12 : decode bA_landings 12 = .ok (.iconst 0, 1) := by decide +kernel
theorem dA_landings_13 : decode bA_landings 13 = .ok (.ireturn, 1) := by decide +kernel
theorem dA_winders_0 : decode bA_winders 0 = .ok (.aload_n 0, 1) := by decide +kernel
theorem dA_winders_1 : decode bA_winders 1 = .ok (.getfield 9, 3) := by decide +kernel
theorem dA_winders_4 : decode bA_winders 4 = .ok (.iconst 2, 1) := by decide +kernel
theorem dA_winders_5 : decode bA_winders 5 = .ok (.if_icmp .ne 7, 3) := by decide +kernel
theorem dA_winders_8 : decode bA_winders 8 = .ok (.iconst 3, 1) := by decide +kernel
theorem dA_winders_9 : decode bA_winders 9 = .ok (.goto 4, 3) := by decide +kernel
theorem dA_winders_12 : decode bA_winders 12 = .ok (.iconst 0, 1) := by decide +kernel
theorem dA_winders_13 : decode bA_winders 13 = .ok (.ireturn, 1) := by decide +kernel
theorem dA_cornerX_0 : decode bA_cornerX 0 = .ok (.aload_n 0, 1) := by decide +kernel
theorem dA_cornerX_1 : decode bA_cornerX 1 = .ok (.getfield 28, 3) := by decide +kernel
theorem dA_cornerX_4 : decode bA_cornerX 4 = .ok (.i2l, 1) := by decide +kernel
theorem dA_cornerX_5 : decode bA_cornerX 5 = .ok (.aload_n 0, 1) := by decide +kernel
theorem dA_cornerX_6 : decode bA_cornerX 6 = .ok (.getfield 22, 3) := by decide +kernel
theorem dA_cornerX_9 : decode bA_cornerX 9 = .ok (.lmul, 1) := by decide +kernel
theorem dA_cornerX_10 : decode bA_cornerX 10 = .ok (.lreturn, 1) := by decide +kernel
theorem dA_shape_0 : decode bA_shape 0 = .ok (.iload_n 1, 1) := by decide +kernel
theorem dA_shape_1 : decode bA_shape 1 = .ok (.aload_n 0, 1) := by decide +kernel
theorem dA_shape_2 : decode bA_shape 2 = .ok (.getfield 28, 3) := by decide +kernel
theorem dA_shape_5 : decode bA_shape 5 = .ok (.if_icmp .ge 5, 3) := by decide +kernel
theorem dA_shape_8 : decode bA_shape 8 = .ok (.iconst 0, 1) := by decide +kernel
theorem dA_shape_9 : decode bA_shape 9 = .ok (.ireturn, 1) := by decide +kernel
theorem dA_shape_10 : decode bA_shape 10 = .ok (.iload_n 1, 1) := by decide +kernel
theorem dA_shape_11 : decode bA_shape 11 = .ok (.aload_n 0, 1) := by decide +kernel
theorem dA_shape_12 : decode bA_shape 12 = .ok (.getfield 31, 3) := by decide +kernel
theorem dA_shape_15 : decode bA_shape 15 = .ok (.if_icmp .lt 5, 3) := by decide +kernel
theorem dA_shape_18 : decode bA_shape 18 = .ok (.iconst 1, 1) := by decide +kernel
theorem dA_shape_19 : decode bA_shape 19 = .ok (.ireturn, 1) := by decide +kernel
theorem dA_shape_20 : decode bA_shape 20 = .ok (.aload_n 0, 1) := by decide +kernel
theorem dA_shape_21 : decode bA_shape 21 = .ok (.getfield 9, 3) := by decide +kernel
theorem dA_shape_24 : decode bA_shape 24 = .ok (.iconst 1, 1) := by decide +kernel
theorem dA_shape_25 : decode bA_shape 25 = .ok (.if_icmp .ne 7, 3) := by decide +kernel
theorem dA_shape_28 : decode bA_shape 28 = .ok (.iconst 2, 1) := by decide +kernel
theorem dA_shape_29 : decode bA_shape 29 = .ok (.goto 4, 3) := by decide +kernel
theorem dA_shape_32 : decode bA_shape 32 = .ok (.iconst 3, 1) := by decide +kernel
theorem dA_shape_33 : decode bA_shape 33 = .ok (.ireturn, 1) := by decide +kernel
theorem dA_leastX_0 : decode bA_leastX 0 = .ok (.aload_n 0, 1) := by decide +kernel
theorem dA_leastX_1 : decode bA_leastX 1 = .ok (.iload_n 1, 1) := by decide +kernel
theorem dA_leastX_2 : decode bA_leastX 2 = .ok (.invokevirtual 47, 3) := by decide +kernel
theorem dA_leastX_5 : decode bA_leastX 5 = .ok (.ifCond .ne 13, 3) := by decide +kernel
theorem dA_leastX_8 : decode bA_leastX 8 = .ok (.iload_n 1, 1) := by decide +kernel
theorem dA_leastX_9 : decode bA_leastX 9 = .ok (.i2l, 1) := by decide +kernel
theorem dA_leastX_10 : decode bA_leastX 10 = .ok (.aload_n 0, 1) := by decide +kernel
theorem dA_leastX_11 : decode bA_leastX 11 = .ok (.getfield 22, 3) := by decide +kernel
theorem dA_leastX_14 : decode bA_leastX 14 = .ok (.lmul, 1) := by decide +kernel
theorem dA_leastX_15 : decode bA_leastX 15 = .ok (.goto 7, 3) := by decide +kernel
theorem dA_leastX_18 : decode bA_leastX 18 = .ok (.aload_n 0, 1) := by decide +kernel
theorem dA_leastX_19 : decode bA_leastX 19 = .ok (.invokevirtual 51, 3) := by decide +kernel
theorem dA_leastX_22 : decode bA_leastX 22 = .ok (.lreturn, 1) := by decide +kernel
theorem dA_greatestX_0 : decode bA_greatestX 0 = .ok (.aload_n 0, 1) := by decide +kernel
theorem dA_greatestX_1 : decode bA_greatestX 1 = .ok (.iload_n 1, 1) := by decide +kernel
theorem dA_greatestX_2 : decode bA_greatestX 2 = .ok (.invokevirtual 47, 3) := by decide +kernel
theorem dA_greatestX_5 : decode bA_greatestX 5 = .ok (.ifCond .ne 15, 3) := by decide +kernel
theorem dA_greatestX_8 : decode bA_greatestX 8 = .ok (.iload_n 1, 1) := by decide +kernel
theorem dA_greatestX_9 : decode bA_greatestX 9 = .ok (.iconst 1, 1) := by decide +kernel
theorem dA_greatestX_10 : decode bA_greatestX 10 = .ok (.iadd, 1) := by decide +kernel
theorem dA_greatestX_11 : decode bA_greatestX 11 = .ok (.i2l, 1) := by decide +kernel
theorem dA_greatestX_12 : decode bA_greatestX 12 = .ok (.aload_n 0, 1) := by decide +kernel
theorem dA_greatestX_13 : decode bA_greatestX 13 = .ok (.getfield 22, 3) := by decide +kernel
theorem dA_greatestX_16 : decode bA_greatestX 16 = .ok (.lmul, 1) := by decide +kernel
theorem dA_greatestX_17 : decode bA_greatestX 17 = .ok (.goto 12, 3) := by decide +kernel
theorem dA_greatestX_20 : decode bA_greatestX 20 = .ok (.aload_n 0, 1) := by decide +kernel
theorem dA_greatestX_21 : decode bA_greatestX 21 = .ok (.invokevirtual 51, 3) := by decide +kernel
theorem dA_greatestX_24 : decode bA_greatestX 24 = .ok (.aload_n 0, 1) := by decide +kernel
theorem dA_greatestX_25 : decode bA_greatestX 25 = .ok (.getfield 25, 3) := by decide +kernel
theorem dA_greatestX_28 : decode bA_greatestX 28 = .ok (.ladd, 1) := by decide +kernel
theorem dA_greatestX_29 : decode bA_greatestX 29 = .ok (.lreturn, 1) := by decide +kernel
theorem dA_leastY_0 : decode bA_leastY 0 = .ok (.aload_n 0, 1) := by decide +kernel
theorem dA_leastY_1 : decode bA_leastY 1 = .ok (.iload_n 1, 1) := by decide +kernel
theorem dA_leastY_2 : decode bA_leastY 2 = .ok (.invokevirtual 47, 3) := by decide +kernel
theorem dA_leastY_5 : decode bA_leastY 5 = .ok (.iconst 1, 1) := by decide +kernel
theorem dA_leastY_6 : decode bA_leastY 6 = .ok (.if_icmp .ne 23, 3) := by decide +kernel
theorem dA_leastY_9 : decode bA_leastY 9 = .ok (.aload_n 0, 1) := by decide +kernel
theorem dA_leastY_10 : decode bA_leastY 10 = .ok (.getfield 25, 3) := by decide +kernel
theorem dA_leastY_13 : decode bA_leastY 13 = .ok (.iload_n 1, 1) := by decide +kernel
theorem dA_leastY_14 : decode bA_leastY 14 = .ok (.aload_n 0, 1) := by decide +kernel
theorem dA_leastY_15 : decode bA_leastY 15 = .ok (.getfield 31, 3) := by decide +kernel
theorem dA_leastY_18 : decode bA_leastY 18 = .ok (.isub, 1) := by decide +kernel
theorem dA_leastY_19 : decode bA_leastY 19 = .ok (.i2l, 1) := by decide +kernel
theorem dA_leastY_20 : decode bA_leastY 20 = .ok (.aload_n 0, 1) := by decide +kernel
theorem dA_leastY_21 : decode bA_leastY 21 = .ok (.getfield 22, 3) := by decide +kernel
theorem dA_leastY_24 : decode bA_leastY 24 = .ok (.lmul, 1) := by decide +kernel
theorem dA_leastY_25 : decode bA_leastY 25 = .ok (.ladd, 1) := by decide +kernel
theorem dA_leastY_26 : decode bA_leastY 26 = .ok (.goto 4, 3) := by decide +kernel
theorem dA_leastY_29 : decode bA_leastY 29 = .ok (.lconst 0, 1) := by decide +kernel
theorem dA_leastY_30 : decode bA_leastY 30 = .ok (.lreturn, 1) := by decide +kernel
theorem dA_greatestY_0 : decode bA_greatestY 0 = .ok (.aload_n 0, 1) := by decide +kernel
theorem dA_greatestY_1 : decode bA_greatestY 1 = .ok (.iload_n 1, 1) := by decide +kernel
theorem dA_greatestY_2 : decode bA_greatestY 2 = .ok (.invokevirtual 47, 3) := by decide +kernel
theorem dA_greatestY_5 : decode bA_greatestY 5 = .ok (.iconst 1, 1) := by decide +kernel
theorem dA_greatestY_6 : decode bA_greatestY 6 = .ok (.if_icmp .ne 16, 3) := by decide +kernel
theorem dA_greatestY_9 : decode bA_greatestY 9 = .ok (.aload_n 0, 1) := by decide +kernel
theorem dA_greatestY_10 : decode bA_greatestY 10 = .ok (.iload_n 1, 1) := by decide +kernel
theorem dA_greatestY_11 : decode bA_greatestY 11 = .ok (.invokevirtual 55, 3) := by decide +kernel
theorem dA_greatestY_14 : decode bA_greatestY 14 = .ok (.aload_n 0, 1) := by decide +kernel
theorem dA_greatestY_15 : decode bA_greatestY 15 = .ok (.getfield 22, 3) := by decide +kernel
theorem dA_greatestY_18 : decode bA_greatestY 18 = .ok (.ladd, 1) := by decide +kernel
theorem dA_greatestY_19 : decode bA_greatestY 19 = .ok (.goto 7, 3) := by decide +kernel
theorem dA_greatestY_22 : decode bA_greatestY 22 = .ok (.aload_n 0, 1) := by decide +kernel
theorem dA_greatestY_23 : decode bA_greatestY 23 = .ok (.getfield 25, 3) := by decide +kernel
theorem dA_greatestY_26 : decode bA_greatestY 26 = .ok (.lreturn, 1) := by decide +kernel
theorem dA_heightTimesRises_0 : decode bA_heightTimesRises 0 = .ok (.iload_n 1, 1) := by decide +kernel
theorem dA_heightTimesRises_1 : decode bA_heightTimesRises 1 = .ok (.iconst 1, 1) := by decide +kernel
theorem dA_heightTimesRises_2 : decode bA_heightTimesRises 2 = .ok (.iadd, 1) := by decide +kernel
theorem dA_heightTimesRises_3 : decode bA_heightTimesRises 3 = .ok (.i2l, 1) := by decide +kernel
theorem dA_heightTimesRises_4 : decode bA_heightTimesRises 4 = .ok (.aload_n 0, 1) := by decide +kernel
theorem dA_heightTimesRises_5 : decode bA_heightTimesRises 5 = .ok (.getfield 18, 3) := by decide +kernel
theorem dA_heightTimesRises_8 : decode bA_heightTimesRises 8 = .ok (.lmul, 1) := by decide +kernel
theorem dA_heightTimesRises_9 : decode bA_heightTimesRises 9 = .ok (.lreturn, 1) := by decide +kernel
theorem dA_edgeXTimesThree_0 : decode bA_edgeXTimesThree 0 = .ok (.ldc2_w 59, 3) := by decide +kernel
theorem dA_edgeXTimesThree_3 : decode bA_edgeXTimesThree 3 = .ok (.aload_n 0, 1) := by decide +kernel
theorem dA_edgeXTimesThree_4 : decode bA_edgeXTimesThree 4 = .ok (.invokevirtual 51, 3) := by decide +kernel
theorem dA_edgeXTimesThree_7 : decode bA_edgeXTimesThree 7 = .ok (.lmul, 1) := by decide +kernel
theorem dA_edgeXTimesThree_8 : decode bA_edgeXTimesThree 8 = .ok (.iconst 2, 1) := by decide +kernel
theorem dA_edgeXTimesThree_9 : decode bA_edgeXTimesThree 9 = .ok (.iload_n 1, 1) := by decide +kernel
theorem dA_edgeXTimesThree_10 : decode bA_edgeXTimesThree 10 = .ok (.imul, 1) := by decide +kernel
theorem dA_edgeXTimesThree_11 : decode bA_edgeXTimesThree 11 = .ok (.i2l, 1) := by decide +kernel
theorem dA_edgeXTimesThree_12 : decode bA_edgeXTimesThree 12 = .ok (.aload_n 0, 1) := by decide +kernel
theorem dA_edgeXTimesThree_13 : decode bA_edgeXTimesThree 13 = .ok (.getfield 25, 3) := by decide +kernel
theorem dA_edgeXTimesThree_16 : decode bA_edgeXTimesThree 16 = .ok (.lmul, 1) := by decide +kernel
theorem dA_edgeXTimesThree_17 : decode bA_edgeXTimesThree 17 = .ok (.ldc2_w 59, 3) := by decide +kernel
theorem dA_edgeXTimesThree_20 : decode bA_edgeXTimesThree 20 = .ok (.aload_n 0, 1) := by decide +kernel
theorem dA_edgeXTimesThree_21 : decode bA_edgeXTimesThree 21 = .ok (.getfield 25, 3) := by decide +kernel
theorem dA_edgeXTimesThree_24 : decode bA_edgeXTimesThree 24 = .ok (.lmul, 1) := by decide +kernel
theorem dA_edgeXTimesThree_25 : decode bA_edgeXTimesThree 25 = .ok (.invokestatic 61, 3) := by decide +kernel
theorem dA_edgeXTimesThree_28 : decode bA_edgeXTimesThree 28 = .ok (.ladd, 1) := by decide +kernel
theorem dA_edgeXTimesThree_29 : decode bA_edgeXTimesThree 29 = .ok (.lreturn, 1) := by decide +kernel
theorem dA_edgeYTimesThree_0 : decode bA_edgeYTimesThree 0 = .ok (.iconst 2, 1) := by decide +kernel
theorem dA_edgeYTimesThree_1 : decode bA_edgeYTimesThree 1 = .ok (.iload_n 1, 1) := by decide +kernel
theorem dA_edgeYTimesThree_2 : decode bA_edgeYTimesThree 2 = .ok (.imul, 1) := by decide +kernel
theorem dA_edgeYTimesThree_3 : decode bA_edgeYTimesThree 3 = .ok (.i2l, 1) := by decide +kernel
theorem dA_edgeYTimesThree_4 : decode bA_edgeYTimesThree 4 = .ok (.aload_n 0, 1) := by decide +kernel
theorem dA_edgeYTimesThree_5 : decode bA_edgeYTimesThree 5 = .ok (.getfield 25, 3) := by decide +kernel
theorem dA_edgeYTimesThree_8 : decode bA_edgeYTimesThree 8 = .ok (.lmul, 1) := by decide +kernel
theorem dA_edgeYTimesThree_9 : decode bA_edgeYTimesThree 9 = .ok (.ldc2_w 59, 3) := by decide +kernel
theorem dA_edgeYTimesThree_12 : decode bA_edgeYTimesThree 12 = .ok (.aload_n 0, 1) := by decide +kernel
theorem dA_edgeYTimesThree_13 : decode bA_edgeYTimesThree 13 = .ok (.getfield 25, 3) := by decide +kernel
theorem dA_edgeYTimesThree_16 : decode bA_edgeYTimesThree 16 = .ok (.lmul, 1) := by decide +kernel
theorem dA_edgeYTimesThree_17 : decode bA_edgeYTimesThree 17 = .ok (.lsub, 1) := by decide +kernel
theorem dA_edgeYTimesThree_18 : decode bA_edgeYTimesThree 18 = .ok (.lconst 0, 1) := by decide +kernel
theorem dA_edgeYTimesThree_19 : decode bA_edgeYTimesThree 19 = .ok (.invokestatic 67, 3) := by decide +kernel
theorem dA_edgeYTimesThree_22 : decode bA_edgeYTimesThree 22 = .ok (.lreturn, 1) := by decide +kernel
theorem dA_sixTimesWinderArea_0 : decode bA_sixTimesWinderArea 0 = .ok (.ldc2_w 70, 3) := by decide +kernel
theorem dA_sixTimesWinderArea_3 : decode bA_sixTimesWinderArea 3 = .ok (.aload_n 0, 1) := by decide +kernel
theorem dA_sixTimesWinderArea_4 : decode bA_sixTimesWinderArea 4 = .ok (.getfield 25, 3) := by decide +kernel
theorem dA_sixTimesWinderArea_7 : decode bA_sixTimesWinderArea 7 = .ok (.lmul, 1) := by decide +kernel
theorem dA_sixTimesWinderArea_8 : decode bA_sixTimesWinderArea 8 = .ok (.aload_n 0, 1) := by decide +kernel
theorem dA_sixTimesWinderArea_9 : decode bA_sixTimesWinderArea 9 = .ok (.getfield 25, 3) := by decide +kernel
theorem dA_sixTimesWinderArea_12 : decode bA_sixTimesWinderArea 12 = .ok (.lmul, 1) := by decide +kernel
theorem dA_sixTimesWinderArea_13 : decode bA_sixTimesWinderArea 13 = .ok (.lreturn, 1) := by decide +kernel
theorem dA_along_0 : decode bA_along 0 = .ok (.aload_n 0, 1) := by decide +kernel
theorem dA_along_1 : decode bA_along 1 = .ok (.invokevirtual 34, 3) := by decide +kernel
theorem dA_along_4 : decode bA_along 4 = .ok (.i2l, 1) := by decide +kernel
theorem dA_along_5 : decode bA_along 5 = .ok (.aload_n 0, 1) := by decide +kernel
theorem dA_along_6 : decode bA_along 6 = .ok (.getfield 22, 3) := by decide +kernel
theorem dA_along_9 : decode bA_along 9 = .ok (.lmul, 1) := by decide +kernel
theorem dA_along_10 : decode bA_along 10 = .ok (.lreturn, 1) := by decide +kernel
theorem dA_scaledStringSquare_0 : decode bA_scaledStringSquare 0 = .ok (.aload_n 0, 1) := by decide +kernel
theorem dA_scaledStringSquare_1 : decode bA_scaledStringSquare 1 = .ok (.invokevirtual 72, 3) := by decide +kernel
theorem dA_scaledStringSquare_4 : decode bA_scaledStringSquare 4 = .ok (.aload_n 0, 1) := by decide +kernel
theorem dA_scaledStringSquare_5 : decode bA_scaledStringSquare 5 = .ok (.getfield 15, 3) := by decide +kernel
theorem dA_scaledStringSquare_8 : decode bA_scaledStringSquare 8 = .ok (.i2l, 1) := by decide +kernel
theorem dA_scaledStringSquare_9 : decode bA_scaledStringSquare 9 = .ok (.lmul, 1) := by decide +kernel
theorem dA_scaledStringSquare_10 : decode bA_scaledStringSquare 10 = .ok (.lstore_n 1, 1) := by decide +kernel
theorem dA_scaledStringSquare_11 : decode bA_scaledStringSquare 11 = .ok (.aload_n 0, 1) := by decide +kernel
theorem dA_scaledStringSquare_12 : decode bA_scaledStringSquare 12 = .ok (.invokevirtual 34, 3) := by decide +kernel
theorem dA_scaledStringSquare_15 : decode bA_scaledStringSquare 15 = .ok (.i2l, 1) := by decide +kernel
theorem dA_scaledStringSquare_16 : decode bA_scaledStringSquare 16 = .ok (.aload_n 0, 1) := by decide +kernel
theorem dA_scaledStringSquare_17 : decode bA_scaledStringSquare 17 = .ok (.getfield 18, 3) := by decide +kernel
theorem dA_scaledStringSquare_20 : decode bA_scaledStringSquare 20 = .ok (.lmul, 1) := by decide +kernel
theorem dA_scaledStringSquare_21 : decode bA_scaledStringSquare 21 = .ok (.lstore_n 3, 1) := by decide +kernel
theorem dA_scaledStringSquare_22 : decode bA_scaledStringSquare 22 = .ok (.lload_n 1, 1) := by decide +kernel
theorem dA_scaledStringSquare_23 : decode bA_scaledStringSquare 23 = .ok (.lload_n 1, 1) := by decide +kernel
theorem dA_scaledStringSquare_24 : decode bA_scaledStringSquare 24 = .ok (.lmul, 1) := by decide +kernel
theorem dA_scaledStringSquare_25 : decode bA_scaledStringSquare 25 = .ok (.lload_n 3, 1) := by decide +kernel
theorem dA_scaledStringSquare_26 : decode bA_scaledStringSquare 26 = .ok (.lload_n 3, 1) := by decide +kernel
theorem dA_scaledStringSquare_27 : decode bA_scaledStringSquare 27 = .ok (.lmul, 1) := by decide +kernel
theorem dA_scaledStringSquare_28 : decode bA_scaledStringSquare 28 = .ok (.ladd, 1) := by decide +kernel
theorem dA_scaledStringSquare_29 : decode bA_scaledStringSquare 29 = .ok (.lreturn, 1) := by decide +kernel
theorem dA_scaledSquare_0 : decode bA_scaledSquare 0 = .ok (.lload_n 1, 1) := by decide +kernel
theorem dA_scaledSquare_1 : decode bA_scaledSquare 1 = .ok (.aload_n 0, 1) := by decide +kernel
theorem dA_scaledSquare_2 : decode bA_scaledSquare 2 = .ok (.getfield 15, 3) := by decide +kernel
theorem dA_scaledSquare_5 : decode bA_scaledSquare 5 = .ok (.i2l, 1) := by decide +kernel
theorem dA_scaledSquare_6 : decode bA_scaledSquare 6 = .ok (.lmul, 1) := by decide +kernel
theorem dA_scaledSquare_7 : decode bA_scaledSquare 7 = .ok (.lload_n 1, 1) := by decide +kernel
theorem dA_scaledSquare_8 : decode bA_scaledSquare 8 = .ok (.lmul, 1) := by decide +kernel
theorem dA_scaledSquare_9 : decode bA_scaledSquare 9 = .ok (.aload_n 0, 1) := by decide +kernel
theorem dA_scaledSquare_10 : decode bA_scaledSquare 10 = .ok (.getfield 15, 3) := by decide +kernel
theorem dA_scaledSquare_13 : decode bA_scaledSquare 13 = .ok (.i2l, 1) := by decide +kernel
theorem dA_scaledSquare_14 : decode bA_scaledSquare 14 = .ok (.lmul, 1) := by decide +kernel
theorem dA_scaledSquare_15 : decode bA_scaledSquare 15 = .ok (.lreturn, 1) := by decide +kernel
theorem dA_stringCutOff_0 : decode bA_stringCutOff 0 = .ok (.aload_n 0, 1) := by decide +kernel
theorem dA_stringCutOff_1 : decode bA_stringCutOff 1 = .ok (.invokevirtual 75, 3) := by decide +kernel
theorem dA_stringCutOff_4 : decode bA_stringCutOff 4 = .ok (.lstore_n 1, 1) := by decide +kernel
theorem dA_stringCutOff_5 : decode bA_stringCutOff 5 = .ok (.lconst 0, 1) := by decide +kernel
theorem dA_stringCutOff_6 : decode bA_stringCutOff 6 = .ok (.lstore_n 3, 1) := by decide +kernel
theorem dA_stringCutOff_7 : decode bA_stringCutOff 7 = .ok (.bipush 19, 2) := by decide +kernel
theorem dA_stringCutOff_9 : decode bA_stringCutOff 9 = .ok (.istore 5, 2) := by decide +kernel
theorem dA_stringCutOff_11 : decode bA_stringCutOff 11 = .ok (.iload 5, 2) := by decide +kernel
theorem dA_stringCutOff_13 : decode bA_stringCutOff 13 = .ok (.ifCond .lt 31, 3) := by decide +kernel
theorem dA_stringCutOff_16 : decode bA_stringCutOff 16 = .ok (.lload_n 3, 1) := by decide +kernel
theorem dA_stringCutOff_17 : decode bA_stringCutOff 17 = .ok (.lconst 1, 1) := by decide +kernel
theorem dA_stringCutOff_18 : decode bA_stringCutOff 18 = .ok (.iload 5, 2) := by decide +kernel
theorem dA_stringCutOff_20 : decode bA_stringCutOff 20 = .ok (.lshl, 1) := by decide +kernel
theorem dA_stringCutOff_21 : decode bA_stringCutOff 21 = .ok (.ladd, 1) := by decide +kernel
theorem dA_stringCutOff_22 : decode bA_stringCutOff 22 = .ok (.lstore 6, 2) := by decide +kernel
theorem dA_stringCutOff_24 : decode bA_stringCutOff 24 = .ok (.aload_n 0, 1) := by decide +kernel
theorem dA_stringCutOff_25 : decode bA_stringCutOff 25 = .ok (.lload 6, 2) := by decide +kernel
theorem dA_stringCutOff_27 : decode bA_stringCutOff 27 = .ok (.invokevirtual 78, 3) := by decide +kernel
theorem dA_stringCutOff_30 : decode bA_stringCutOff 30 = .ok (.lload_n 1, 1) := by decide +kernel
theorem dA_stringCutOff_31 : decode bA_stringCutOff 31 = .ok (.lcmp, 1) := by decide +kernel
theorem dA_stringCutOff_32 : decode bA_stringCutOff 32 = .ok (.ifCond .gt 6, 3) := by decide +kernel
theorem dA_stringCutOff_35 : decode bA_stringCutOff 35 = .ok (.lload 6, 2) := by decide +kernel
theorem dA_stringCutOff_37 : decode bA_stringCutOff 37 = .ok (.lstore_n 3, 1) := by decide +kernel
theorem dA_stringCutOff_38 : decode bA_stringCutOff 38 = .ok (.iinc 5 (-1), 3) := by decide +kernel
theorem dA_stringCutOff_41 : decode bA_stringCutOff 41 = .ok (.goto (-30), 3) := by decide +kernel
theorem dA_stringCutOff_44 : decode bA_stringCutOff 44 = .ok (.lload_n 3, 1) := by decide +kernel
theorem dA_stringCutOff_45 : decode bA_stringCutOff 45 = .ok (.lreturn, 1) := by decide +kernel
theorem dA_isStringWhole_0 : decode bA_isStringWhole 0 = .ok (.aload_n 0, 1) := by decide +kernel
theorem dA_isStringWhole_1 : decode bA_isStringWhole 1 = .ok (.lload_n 1, 1) := by decide +kernel
theorem dA_isStringWhole_2 : decode bA_isStringWhole 2 = .ok (.invokevirtual 78, 3) := by decide +kernel
theorem dA_isStringWhole_5 : decode bA_isStringWhole 5 = .ok (.aload_n 0, 1) := by decide +kernel
theorem dA_isStringWhole_6 : decode bA_isStringWhole 6 = .ok (.invokevirtual 75, 3) := by decide +kernel
theorem dA_isStringWhole_9 : decode bA_isStringWhole 9 = .ok (.lcmp, 1) := by decide +kernel
theorem dA_isStringWhole_10 : decode bA_isStringWhole 10 = .ok (.ifCond .ne 7, 3) := by decide +kernel
theorem dA_isStringWhole_13 : decode bA_isStringWhole 13 = .ok (.iconst 1, 1) := by decide +kernel
theorem dA_isStringWhole_14 : decode bA_isStringWhole 14 = .ok (.goto 4, 3) := by decide +kernel
theorem dA_isStringWhole_17 : decode bA_isStringWhole 17 = .ok (.iconst 0, 1) := by decide +kernel
theorem dA_isStringWhole_18 : decode bA_isStringWhole 18 = .ok (.ireturn, 1) := by decide +kernel
theorem dQ_init_0 : decode bQ_init 0 = .ok (.aload_n 0, 1) := by decide +kernel
theorem dQ_init_1 : decode bQ_init 1 = .ok (.invokespecial 1, 3) := by decide +kernel
theorem dQ_init_4 : decode bQ_init 4 = .ok (.aload_n 0, 1) := by decide +kernel
theorem dQ_init_5 : decode bQ_init 5 = .ok (.lconst 0, 1) := by decide +kernel
theorem dQ_init_6 : decode bQ_init 6 = .ok (.putfield 7, 3) := by decide +kernel
theorem dQ_init_9 : decode bQ_init 9 = .ok (.aload_n 0, 1) := by decide +kernel
theorem dQ_init_10 : decode bQ_init 10 = .ok (.lconst 1, 1) := by decide +kernel
theorem dQ_init_11 : decode bQ_init 11 = .ok (.putfield 13, 3) := by decide +kernel
theorem dQ_init_14 : decode bQ_init 14 = .ok (.return_, 1) := by decide +kernel
theorem dQ_take_0 : decode bQ_take 0 = .ok (.lload_n 1, 1) := by decide +kernel
theorem dQ_take_1 : decode bQ_take 1 = .ok (.lload_n 3, 1) := by decide +kernel
theorem dQ_take_2 : decode bQ_take 2 = .ok (.invokestatic 16, 3) := by decide +kernel
theorem dQ_take_5 : decode bQ_take 5 = .ok (.lstore 5, 2) := by decide +kernel
theorem dQ_take_7 : decode bQ_take 7 = .ok (.lload 5, 2) := by decide +kernel
theorem dQ_take_9 : decode bQ_take 9 = .ok (.lconst 0, 1) := by decide +kernel
theorem dQ_take_10 : decode bQ_take 10 = .ok (.lcmp, 1) := by decide +kernel
theorem dQ_take_11 : decode bQ_take 11 = .ok (.ifCond .le 19, 3) := by decide +kernel
theorem dQ_take_14 : decode bQ_take 14 = .ok (.aload_n 0, 1) := by decide +kernel
theorem dQ_take_15 : decode bQ_take 15 = .ok (.lload_n 1, 1) := by decide +kernel
theorem dQ_take_16 : decode bQ_take 16 = .ok (.lload 5, 2) := by decide +kernel
theorem dQ_take_18 : decode bQ_take 18 = .ok (.ldiv, 1) := by decide +kernel
theorem dQ_take_19 : decode bQ_take 19 = .ok (.putfield 7, 3) := by decide +kernel
theorem dQ_take_22 : decode bQ_take 22 = .ok (.aload_n 0, 1) := by decide +kernel
theorem dQ_take_23 : decode bQ_take 23 = .ok (.lload_n 3, 1) := by decide +kernel
theorem dQ_take_24 : decode bQ_take 24 = .ok (.lload 5, 2) := by decide +kernel
theorem dQ_take_26 : decode bQ_take 26 = .ok (.ldiv, 1) := by decide +kernel
theorem dQ_take_27 : decode bQ_take 27 = .ok (.putfield 13, 3) := by decide +kernel
theorem dQ_take_30 : decode bQ_take 30 = .ok (.return_, 1) := by decide +kernel
theorem dQ_commonDivisor_0 : decode bQ_commonDivisor 0 = .ok (.lload_n 0, 1) := by decide +kernel
theorem dQ_commonDivisor_1 : decode bQ_commonDivisor 1 = .ok (.lstore 4, 2) := by decide +kernel
theorem dQ_commonDivisor_3 : decode bQ_commonDivisor 3 = .ok (.lload_n 2, 1) := by decide +kernel
theorem dQ_commonDivisor_4 : decode bQ_commonDivisor 4 = .ok (.lstore 6, 2) := by decide +kernel
theorem dQ_commonDivisor_6 : decode bQ_commonDivisor 6 = .ok (.iconst 0, 1) := by decide +kernel
theorem dQ_commonDivisor_7 : decode bQ_commonDivisor 7 = .ok (.istore 8, 2) := by decide +kernel
theorem dQ_commonDivisor_9 : decode bQ_commonDivisor 9 = .ok (.iload 8, 2) := by decide +kernel
theorem dQ_commonDivisor_11 : decode bQ_commonDivisor 11 = .ok (.bipush 100, 2) := by decide +kernel
theorem dQ_commonDivisor_13 : decode bQ_commonDivisor 13 = .ok (.if_icmp .ge 31, 3) := by decide +kernel
theorem dQ_commonDivisor_16 : decode bQ_commonDivisor 16 = .ok (.lload 6, 2) := by decide +kernel
theorem dQ_commonDivisor_18 : decode bQ_commonDivisor 18 = .ok (.lconst 0, 1) := by decide +kernel
theorem dQ_commonDivisor_19 : decode bQ_commonDivisor 19 = .ok (.lcmp, 1) := by decide +kernel
theorem dQ_commonDivisor_20 : decode bQ_commonDivisor 20 = .ok (.ifCond .eq 24, 3) := by decide +kernel
theorem dQ_commonDivisor_23 : decode bQ_commonDivisor 23 = .ok (.lload 4, 2) := by decide +kernel
theorem dQ_commonDivisor_25 : decode bQ_commonDivisor 25 = .ok (.lload 6, 2) := by decide +kernel
theorem dQ_commonDivisor_27 : decode bQ_commonDivisor 27 = .ok (.lrem, 1) := by decide +kernel
theorem dQ_commonDivisor_28 : decode bQ_commonDivisor 28 = .ok (.lstore 9, 2) := by decide +kernel
theorem dQ_commonDivisor_30 : decode bQ_commonDivisor 30 = .ok (.lload 6, 2) := by decide +kernel
theorem dQ_commonDivisor_32 : decode bQ_commonDivisor 32 = .ok (.lstore 4, 2) := by decide +kernel
theorem dQ_commonDivisor_34 : decode bQ_commonDivisor 34 = .ok (.lload 9, 2) := by decide +kernel
theorem dQ_commonDivisor_36 : decode bQ_commonDivisor 36 = .ok (.lstore 6, 2) := by decide +kernel
theorem dQ_commonDivisor_38 : decode bQ_commonDivisor 38 = .ok (.iinc 8 1, 3) := by decide +kernel
theorem dQ_commonDivisor_41 : decode bQ_commonDivisor 41 = .ok (.goto (-32), 3) := by decide +kernel
theorem dQ_commonDivisor_44 : decode bQ_commonDivisor 44 = .ok (.lload 4, 2) := by decide +kernel
theorem dQ_commonDivisor_46 : decode bQ_commonDivisor 46 = .ok (.lreturn, 1) := by decide +kernel
theorem dS_init_0 : decode bS_init 0 = .ok (.aload_n 0, 1) := by decide +kernel
theorem dS_init_1 : decode bS_init 1 = .ok (.invokespecial 1, 3) := by decide +kernel
theorem dS_init_4 : decode bS_init 4 = .ok (.aload_n 0, 1) := by decide +kernel
theorem dS_init_5 : decode bS_init 5 = .ok (.bipush 40, 2) := by decide +kernel
theorem dS_init_7 : decode bS_init 7 = .ok (.newarray .int, 2) := by decide +kernel
theorem dS_init_9 : decode bS_init 9 = .ok (.putfield 9, 3) := by decide +kernel
theorem dS_init_12 : decode bS_init 12 = .ok (.aload_n 0, 1) := by decide +kernel
theorem dS_init_13 : decode bS_init 13 = .ok (.bipush 8, 2) := by decide +kernel
theorem dS_init_15 : decode bS_init 15 = .ok (.newarray .char, 2) := by decide +kernel
theorem dS_init_17 : decode bS_init 17 = .ok (.putfield 13, 3) := by decide +kernel
theorem dS_init_20 : decode bS_init 20 = .ok (.aload_n 0, 1) := by decide +kernel
theorem dS_init_21 : decode bS_init 21 = .ok (.bipush 8, 2) := by decide +kernel
theorem dS_init_23 : decode bS_init 23 = .ok (.newarray .int, 2) := by decide +kernel
theorem dS_init_25 : decode bS_init 25 = .ok (.putfield 17, 3) := by decide +kernel
theorem dS_init_28 : decode bS_init 28 = .ok (.aload_n 0, 1) := by decide +kernel
theorem dS_init_29 : decode bS_init 29 = .ok (.iconst 0, 1) := by decide +kernel
theorem dS_init_30 : decode bS_init 30 = .ok (.putfield 20, 3) := by decide +kernel
theorem dS_init_33 : decode bS_init 33 = .ok (.return_, 1) := by decide +kernel
theorem dS_clear_0 : decode bS_clear 0 = .ok (.aload_n 0, 1) := by decide +kernel
theorem dS_clear_1 : decode bS_clear 1 = .ok (.iconst 0, 1) := by decide +kernel
theorem dS_clear_2 : decode bS_clear 2 = .ok (.putfield 20, 3) := by decide +kernel
theorem dS_clear_5 : decode bS_clear 5 = .ok (.iconst 0, 1) := by decide +kernel
theorem dS_clear_6 : decode bS_clear 6 = .ok (.istore_n 1, 1) := by decide +kernel
theorem dS_clear_7 : decode bS_clear 7 = .ok (.iload_n 1, 1) := by decide +kernel
theorem dS_clear_8 : decode bS_clear 8 = .ok (.aload_n 0, 1) := by decide +kernel
theorem dS_clear_9 : decode bS_clear 9 = .ok (.getfield 9, 3) := by decide +kernel
theorem dS_clear_12 : decode bS_clear 12 = .ok (.arraylength, 1) := by decide +kernel
theorem dS_clear_13 : decode bS_clear 13 = .ok (.if_icmp .ge 16, 3) := by decide +kernel
theorem dS_clear_16 : decode bS_clear 16 = .ok (.aload_n 0, 1) := by decide +kernel
theorem dS_clear_17 : decode bS_clear 17 = .ok (.getfield 9, 3) := by decide +kernel
theorem dS_clear_20 : decode bS_clear 20 = .ok (.iload_n 1, 1) := by decide +kernel
theorem dS_clear_21 : decode bS_clear 21 = .ok (.iconst 0, 1) := by decide +kernel
theorem dS_clear_22 : decode bS_clear 22 = .ok (.iastore, 1) := by decide +kernel
theorem dS_clear_23 : decode bS_clear 23 = .ok (.iinc 1 1, 3) := by decide +kernel
theorem dS_clear_26 : decode bS_clear 26 = .ok (.goto (-19), 3) := by decide +kernel
theorem dS_clear_29 : decode bS_clear 29 = .ok (.return_, 1) := by decide +kernel
theorem dS_addTerm_0 : decode bS_addTerm 0 = .ok (.aload_n 0, 1) := by decide +kernel
theorem dS_addTerm_1 : decode bS_addTerm 1 = .ok (.getfield 20, 3) := by decide +kernel
theorem dS_addTerm_4 : decode bS_addTerm 4 = .ok (.bipush 8, 2) := by decide +kernel
theorem dS_addTerm_6 : decode bS_addTerm 6 = .ok (.if_icmp .ge 29, 3) := by decide +kernel
theorem dS_addTerm_9 : decode bS_addTerm 9 = .ok (.iload_n 2, 1) := by decide +kernel
theorem dS_addTerm_10 : decode bS_addTerm 10 = .ok (.ifCond .lt 25, 3) := by decide +kernel
theorem dS_addTerm_13 : decode bS_addTerm 13 = .ok (.iload_n 2, 1) := by decide +kernel
theorem dS_addTerm_14 : decode bS_addTerm 14 = .ok (.iconst 5, 1) := by decide +kernel
theorem dS_addTerm_15 : decode bS_addTerm 15 = .ok (.if_icmp .ge 20, 3) := by decide +kernel
theorem dS_addTerm_18 : decode bS_addTerm 18 = .ok (.aload_n 0, 1) := by decide +kernel
theorem dS_addTerm_19 : decode bS_addTerm 19 = .ok (.getfield 9, 3) := by decide +kernel
theorem dS_addTerm_22 : decode bS_addTerm 22 = .ok (.aload_n 0, 1) := by decide +kernel
theorem dS_addTerm_23 : decode bS_addTerm 23 = .ok (.getfield 20, 3) := by decide +kernel
theorem dS_addTerm_26 : decode bS_addTerm 26 = .ok (.iconst 5, 1) := by decide +kernel
theorem dS_addTerm_27 : decode bS_addTerm 27 = .ok (.imul, 1) := by decide +kernel
theorem dS_addTerm_28 : decode bS_addTerm 28 = .ok (.iload_n 2, 1) := by decide +kernel
theorem dS_addTerm_29 : decode bS_addTerm 29 = .ok (.iadd, 1) := by decide +kernel
theorem dS_addTerm_30 : decode bS_addTerm 30 = .ok (.dup2, 1) := by decide +kernel
theorem dS_addTerm_31 : decode bS_addTerm 31 = .ok (.iaload, 1) := by decide +kernel
theorem dS_addTerm_32 : decode bS_addTerm 32 = .ok (.iload_n 1, 1) := by decide +kernel
theorem dS_addTerm_33 : decode bS_addTerm 33 = .ok (.iadd, 1) := by decide +kernel
theorem dS_addTerm_34 : decode bS_addTerm 34 = .ok (.iastore, 1) := by decide +kernel
theorem dS_addTerm_35 : decode bS_addTerm 35 = .ok (.return_, 1) := by decide +kernel
theorem dS_close_0 : decode bS_close 0 = .ok (.aload_n 0, 1) := by decide +kernel
theorem dS_close_1 : decode bS_close 1 = .ok (.getfield 20, 3) := by decide +kernel
theorem dS_close_4 : decode bS_close 4 = .ok (.bipush 8, 2) := by decide +kernel
theorem dS_close_6 : decode bS_close 6 = .ok (.if_icmp .ge 33, 3) := by decide +kernel
theorem dS_close_9 : decode bS_close 9 = .ok (.aload_n 0, 1) := by decide +kernel
theorem dS_close_10 : decode bS_close 10 = .ok (.getfield 13, 3) := by decide +kernel
theorem dS_close_13 : decode bS_close 13 = .ok (.aload_n 0, 1) := by decide +kernel
theorem dS_close_14 : decode bS_close 14 = .ok (.getfield 20, 3) := by decide +kernel
theorem dS_close_17 : decode bS_close 17 = .ok (.iload_n 1, 1) := by decide +kernel
theorem dS_close_18 : decode bS_close 18 = .ok (.castore, 1) := by decide +kernel
theorem dS_close_19 : decode bS_close 19 = .ok (.aload_n 0, 1) := by decide +kernel
theorem dS_close_20 : decode bS_close 20 = .ok (.getfield 17, 3) := by decide +kernel
theorem dS_close_23 : decode bS_close 23 = .ok (.aload_n 0, 1) := by decide +kernel
theorem dS_close_24 : decode bS_close 24 = .ok (.getfield 20, 3) := by decide +kernel
theorem dS_close_27 : decode bS_close 27 = .ok (.iload_n 2, 1) := by decide +kernel
theorem dS_close_28 : decode bS_close 28 = .ok (.iastore, 1) := by decide +kernel
theorem dS_close_29 : decode bS_close 29 = .ok (.aload_n 0, 1) := by decide +kernel
theorem dS_close_30 : decode bS_close 30 = .ok (.dup, 1) := by decide +kernel
theorem dS_close_31 : decode bS_close 31 = .ok (.getfield 20, 3) := by decide +kernel
theorem dS_close_34 : decode bS_close 34 = .ok (.iconst 1, 1) := by decide +kernel
theorem dS_close_35 : decode bS_close 35 = .ok (.iadd, 1) := by decide +kernel
theorem dS_close_36 : decode bS_close 36 = .ok (.putfield 20, 3) := by decide +kernel
theorem dS_close_39 : decode bS_close 39 = .ok (.return_, 1) := by decide +kernel
theorem dS_heldFromFirst_0 : decode bS_heldFromFirst 0 = .ok (.iconst 0, 1) := by decide +kernel
theorem dS_heldFromFirst_1 : decode bS_heldFromFirst 1 = .ok (.istore_n 2, 1) := by decide +kernel
theorem dS_heldFromFirst_2 : decode bS_heldFromFirst 2 = .ok (.iload_n 2, 1) := by decide +kernel
theorem dS_heldFromFirst_3 : decode bS_heldFromFirst 3 = .ok (.aload_n 0, 1) := by decide +kernel
theorem dS_heldFromFirst_4 : decode bS_heldFromFirst 4 = .ok (.getfield 20, 3) := by decide +kernel
theorem dS_heldFromFirst_7 : decode bS_heldFromFirst 7 = .ok (.if_icmp .ge 18, 3) := by decide +kernel
theorem dS_heldFromFirst_10 : decode bS_heldFromFirst 10 = .ok (.aload_n 0, 1) := by decide +kernel
theorem dS_heldFromFirst_11 : decode bS_heldFromFirst 11 = .ok (.iload_n 2, 1) := by decide +kernel
theorem dS_heldFromFirst_12 : decode bS_heldFromFirst 12 = .ok (.aload_n 1, 1) := by decide +kernel
theorem dS_heldFromFirst_13 : decode bS_heldFromFirst 13 = .ok (.invokevirtual 24, 3) := by decide +kernel
theorem dS_heldFromFirst_16 : decode bS_heldFromFirst 16 = .ok (.ifCond .eq 9, 3) := by decide +kernel
theorem dS_heldFromFirst_19 : decode bS_heldFromFirst 19 = .ok (.iinc 2 1, 3) := by decide +kernel
theorem dS_heldFromFirst_22 : decode bS_heldFromFirst 22 = .ok (.goto (-20), 3) := by decide +kernel
theorem dS_heldFromFirst_25 : decode bS_heldFromFirst 25 = .ok (.iload_n 2, 1) := by decide +kernel
theorem dS_heldFromFirst_26 : decode bS_heldFromFirst 26 = .ok (.ireturn, 1) := by decide +kernel
theorem dS_holds_0 : decode bS_holds 0 = .ok (.iload_n 1, 1) := by decide +kernel
theorem dS_holds_1 : decode bS_holds 1 = .ok (.ifCond .lt 17, 3) := by decide +kernel
theorem dS_holds_4 : decode bS_holds 4 = .ok (.iload_n 1, 1) := by decide +kernel
theorem dS_holds_5 : decode bS_holds 5 = .ok (.aload_n 0, 1) := by decide +kernel
theorem dS_holds_6 : decode bS_holds 6 = .ok (.getfield 20, 3) := by decide +kernel
theorem dS_holds_9 : decode bS_holds 9 = .ok (.if_icmp .ge 9, 3) := by decide +kernel
theorem dS_holds_12 : decode bS_holds 12 = .ok (.iload_n 1, 1) := by decide +kernel
theorem dS_holds_13 : decode bS_holds 13 = .ok (.bipush 8, 2) := by decide +kernel
theorem dS_holds_15 : decode bS_holds 15 = .ok (.if_icmp .lt 5, 3) := by decide +kernel
theorem dS_holds_18 : decode bS_holds 18 = .ok (.iconst 0, 1) := by decide +kernel
theorem dS_holds_19 : decode bS_holds 19 = .ok (.ireturn, 1) := by decide +kernel
theorem dS_holds_20 : decode bS_holds 20 = .ok (.aload_n 0, 1) := by decide +kernel
theorem dS_holds_21 : decode bS_holds 21 = .ok (.iload_n 1, 1) := by decide +kernel
theorem dS_holds_22 : decode bS_holds 22 = .ok (.iconst 5, 1) := by decide +kernel
theorem dS_holds_23 : decode bS_holds 23 = .ok (.imul, 1) := by decide +kernel
theorem dS_holds_24 : decode bS_holds 24 = .ok (.aload_n 2, 1) := by decide +kernel
theorem dS_holds_25 : decode bS_holds 25 = .ok (.invokevirtual 28, 3) := by decide +kernel
theorem dS_holds_28 : decode bS_holds 28 = .ok (.lstore_n 3, 1) := by decide +kernel
theorem dS_holds_29 : decode bS_holds 29 = .ok (.aload_n 0, 1) := by decide +kernel
theorem dS_holds_30 : decode bS_holds 30 = .ok (.getfield 17, 3) := by decide +kernel
theorem dS_holds_33 : decode bS_holds 33 = .ok (.iload_n 1, 1) := by decide +kernel
theorem dS_holds_34 : decode bS_holds 34 = .ok (.iaload, 1) := by decide +kernel
theorem dS_holds_35 : decode bS_holds 35 = .ok (.i2l, 1) := by decide +kernel
theorem dS_holds_36 : decode bS_holds 36 = .ok (.aload_n 2, 1) := by decide +kernel
theorem dS_holds_37 : decode bS_holds 37 = .ok (.getfield 32, 3) := by decide +kernel
theorem dS_holds_40 : decode bS_holds 40 = .ok (.i2l, 1) := by decide +kernel
theorem dS_holds_41 : decode bS_holds 41 = .ok (.lmul, 1) := by decide +kernel
theorem dS_holds_42 : decode bS_holds 42 = .ok (.lstore 5, 2) := by decide +kernel
theorem dS_holds_44 : decode bS_holds 44 = .ok (.aload_n 0, 1) := by decide +kernel
theorem dS_holds_45 : decode bS_holds 45 = .ok (.getfield 13, 3) := by decide +kernel
theorem dS_holds_48 : decode bS_holds 48 = .ok (.iload_n 1, 1) := by decide +kernel
theorem dS_holds_49 : decode bS_holds 49 = .ok (.caload, 1) := by decide +kernel
theorem dS_holds_50 : decode bS_holds 50 = .ok (.bipush 60, 2) := by decide +kernel
theorem dS_holds_52 : decode bS_holds 52 = .ok (.if_icmp .ne 16, 3) := by decide +kernel
theorem dS_holds_55 : decode bS_holds 55 = .ok (.lload_n 3, 1) := by decide +kernel
theorem dS_holds_56 : decode bS_holds 56 = .ok (.lload 5, 2) := by decide +kernel
theorem dS_holds_58 : decode bS_holds 58 = .ok (.lcmp, 1) := by decide +kernel
theorem dS_holds_59 : decode bS_holds 59 = .ok (.ifCond .ge 7, 3) := by decide +kernel
theorem dS_holds_62 : decode bS_holds 62 = .ok (.iconst 1, 1) := by decide +kernel
theorem dS_holds_63 : decode bS_holds 63 = .ok (.goto 4, 3) := by decide +kernel
theorem dS_holds_66 : decode bS_holds 66 = .ok (.iconst 0, 1) := by decide +kernel
theorem dS_holds_67 : decode bS_holds 67 = .ok (.ireturn, 1) := by decide +kernel
theorem dS_holds_68 : decode bS_holds 68 = .ok (.aload_n 0, 1) := by decide +kernel
theorem dS_holds_69 : decode bS_holds 69 = .ok (.getfield 13, 3) := by decide +kernel
theorem dS_holds_72 : decode bS_holds 72 = .ok (.iload_n 1, 1) := by decide +kernel
theorem dS_holds_73 : decode bS_holds 73 = .ok (.caload, 1) := by decide +kernel
theorem dS_holds_74 : decode bS_holds 74 = .ok (.bipush 62, 2) := by decide +kernel
theorem dS_holds_76 : decode bS_holds 76 = .ok (.if_icmp .ne 16, 3) := by decide +kernel
theorem dS_holds_79 : decode bS_holds 79 = .ok (.lload_n 3, 1) := by decide +kernel
theorem dS_holds_80 : decode bS_holds 80 = .ok (.lload 5, 2) := by decide +kernel
theorem dS_holds_82 : decode bS_holds 82 = .ok (.lcmp, 1) := by decide +kernel
theorem dS_holds_83 : decode bS_holds 83 = .ok (.ifCond .le 7, 3) := by decide +kernel
theorem dS_holds_86 : decode bS_holds 86 = .ok (.iconst 1, 1) := by decide +kernel
theorem dS_holds_87 : decode bS_holds 87 = .ok (.goto 4, 3) := by decide +kernel
theorem dS_holds_90 : decode bS_holds 90 = .ok (.iconst 0, 1) := by decide +kernel
theorem dS_holds_91 : decode bS_holds 91 = .ok (.ireturn, 1) := by decide +kernel
theorem dS_holds_92 : decode bS_holds 92 = .ok (.lload_n 3, 1) := by decide +kernel
theorem dS_holds_93 : decode bS_holds 93 = .ok (.lload 5, 2) := by decide +kernel
theorem dS_holds_95 : decode bS_holds 95 = .ok (.lcmp, 1) := by decide +kernel
theorem dS_holds_96 : decode bS_holds 96 = .ok (.ifCond .ne 7, 3) := by decide +kernel
theorem dS_holds_99 : decode bS_holds 99 = .ok (.iconst 1, 1) := by decide +kernel
theorem dS_holds_100 : decode bS_holds 100 = .ok (.goto 4, 3) := by decide +kernel
theorem dS_holds_103 : decode bS_holds 103 = .ok (.iconst 0, 1) := by decide +kernel
theorem dS_holds_104 : decode bS_holds 104 = .ok (.ireturn, 1) := by decide +kernel
theorem dS_sumTimesRises_0 : decode bS_sumTimesRises 0 = .ok (.iload_n 1, 1) := by decide +kernel
theorem dS_sumTimesRises_1 : decode bS_sumTimesRises 1 = .ok (.ifCond .lt 14, 3) := by decide +kernel
theorem dS_sumTimesRises_4 : decode bS_sumTimesRises 4 = .ok (.iload_n 1, 1) := by decide +kernel
theorem dS_sumTimesRises_5 : decode bS_sumTimesRises 5 = .ok (.aload_n 0, 1) := by decide +kernel
theorem dS_sumTimesRises_6 : decode bS_sumTimesRises 6 = .ok (.getfield 9, 3) := by decide +kernel
theorem dS_sumTimesRises_9 : decode bS_sumTimesRises 9 = .ok (.arraylength, 1) := by decide +kernel
theorem dS_sumTimesRises_10 : decode bS_sumTimesRises 10 = .ok (.iconst 5, 1) := by decide +kernel
theorem dS_sumTimesRises_11 : decode bS_sumTimesRises 11 = .ok (.isub, 1) := by decide +kernel
theorem dS_sumTimesRises_12 : decode bS_sumTimesRises 12 = .ok (.if_icmp .le 5, 3) := by decide +kernel
theorem dS_sumTimesRises_15 : decode bS_sumTimesRises 15 = .ok (.lconst 0, 1) := by decide +kernel
theorem dS_sumTimesRises_16 : decode bS_sumTimesRises 16 = .ok (.lreturn, 1) := by decide +kernel
theorem dS_sumTimesRises_17 : decode bS_sumTimesRises 17 = .ok (.aload_n 0, 1) := by decide +kernel
theorem dS_sumTimesRises_18 : decode bS_sumTimesRises 18 = .ok (.getfield 9, 3) := by decide +kernel
theorem dS_sumTimesRises_21 : decode bS_sumTimesRises 21 = .ok (.iload_n 1, 1) := by decide +kernel
theorem dS_sumTimesRises_22 : decode bS_sumTimesRises 22 = .ok (.iconst 1, 1) := by decide +kernel
theorem dS_sumTimesRises_23 : decode bS_sumTimesRises 23 = .ok (.iadd, 1) := by decide +kernel
theorem dS_sumTimesRises_24 : decode bS_sumTimesRises 24 = .ok (.iaload, 1) := by decide +kernel
theorem dS_sumTimesRises_25 : decode bS_sumTimesRises 25 = .ok (.i2l, 1) := by decide +kernel
theorem dS_sumTimesRises_26 : decode bS_sumTimesRises 26 = .ok (.aload_n 2, 1) := by decide +kernel
theorem dS_sumTimesRises_27 : decode bS_sumTimesRises 27 = .ok (.getfield 37, 3) := by decide +kernel
theorem dS_sumTimesRises_30 : decode bS_sumTimesRises 30 = .ok (.lmul, 1) := by decide +kernel
theorem dS_sumTimesRises_31 : decode bS_sumTimesRises 31 = .ok (.aload_n 0, 1) := by decide +kernel
theorem dS_sumTimesRises_32 : decode bS_sumTimesRises 32 = .ok (.getfield 9, 3) := by decide +kernel
theorem dS_sumTimesRises_35 : decode bS_sumTimesRises 35 = .ok (.iload_n 1, 1) := by decide +kernel
theorem dS_sumTimesRises_36 : decode bS_sumTimesRises 36 = .ok (.iconst 2, 1) := by decide +kernel
theorem dS_sumTimesRises_37 : decode bS_sumTimesRises 37 = .ok (.iadd, 1) := by decide +kernel
theorem dS_sumTimesRises_38 : decode bS_sumTimesRises 38 = .ok (.iaload, 1) := by decide +kernel
theorem dS_sumTimesRises_39 : decode bS_sumTimesRises 39 = .ok (.i2l, 1) := by decide +kernel
theorem dS_sumTimesRises_40 : decode bS_sumTimesRises 40 = .ok (.aload_n 2, 1) := by decide +kernel
theorem dS_sumTimesRises_41 : decode bS_sumTimesRises 41 = .ok (.getfield 32, 3) := by decide +kernel
theorem dS_sumTimesRises_44 : decode bS_sumTimesRises 44 = .ok (.i2l, 1) := by decide +kernel
theorem dS_sumTimesRises_45 : decode bS_sumTimesRises 45 = .ok (.lmul, 1) := by decide +kernel
theorem dS_sumTimesRises_46 : decode bS_sumTimesRises 46 = .ok (.ladd, 1) := by decide +kernel
theorem dS_sumTimesRises_47 : decode bS_sumTimesRises 47 = .ok (.aload_n 0, 1) := by decide +kernel
theorem dS_sumTimesRises_48 : decode bS_sumTimesRises 48 = .ok (.getfield 9, 3) := by decide +kernel
theorem dS_sumTimesRises_51 : decode bS_sumTimesRises 51 = .ok (.iload_n 1, 1) := by decide +kernel
theorem dS_sumTimesRises_52 : decode bS_sumTimesRises 52 = .ok (.iconst 3, 1) := by decide +kernel
theorem dS_sumTimesRises_53 : decode bS_sumTimesRises 53 = .ok (.iadd, 1) := by decide +kernel
theorem dS_sumTimesRises_54 : decode bS_sumTimesRises 54 = .ok (.iaload, 1) := by decide +kernel
theorem dS_sumTimesRises_55 : decode bS_sumTimesRises 55 = .ok (.i2l, 1) := by decide +kernel
theorem dS_sumTimesRises_56 : decode bS_sumTimesRises 56 = .ok (.aload_n 2, 1) := by decide +kernel
theorem dS_sumTimesRises_57 : decode bS_sumTimesRises 57 = .ok (.getfield 41, 3) := by decide +kernel
theorem dS_sumTimesRises_60 : decode bS_sumTimesRises 60 = .ok (.lmul, 1) := by decide +kernel
theorem dS_sumTimesRises_61 : decode bS_sumTimesRises 61 = .ok (.ladd, 1) := by decide +kernel
theorem dS_sumTimesRises_62 : decode bS_sumTimesRises 62 = .ok (.aload_n 0, 1) := by decide +kernel
theorem dS_sumTimesRises_63 : decode bS_sumTimesRises 63 = .ok (.getfield 9, 3) := by decide +kernel
theorem dS_sumTimesRises_66 : decode bS_sumTimesRises 66 = .ok (.iload_n 1, 1) := by decide +kernel
theorem dS_sumTimesRises_67 : decode bS_sumTimesRises 67 = .ok (.iconst 4, 1) := by decide +kernel
theorem dS_sumTimesRises_68 : decode bS_sumTimesRises 68 = .ok (.iadd, 1) := by decide +kernel
theorem dS_sumTimesRises_69 : decode bS_sumTimesRises 69 = .ok (.iaload, 1) := by decide +kernel
theorem dS_sumTimesRises_70 : decode bS_sumTimesRises 70 = .ok (.i2l, 1) := by decide +kernel
theorem dS_sumTimesRises_71 : decode bS_sumTimesRises 71 = .ok (.aload_n 2, 1) := by decide +kernel
theorem dS_sumTimesRises_72 : decode bS_sumTimesRises 72 = .ok (.getfield 44, 3) := by decide +kernel
theorem dS_sumTimesRises_75 : decode bS_sumTimesRises 75 = .ok (.lmul, 1) := by decide +kernel
theorem dS_sumTimesRises_76 : decode bS_sumTimesRises 76 = .ok (.ladd, 1) := by decide +kernel
theorem dS_sumTimesRises_77 : decode bS_sumTimesRises 77 = .ok (.lstore_n 3, 1) := by decide +kernel
theorem dS_sumTimesRises_78 : decode bS_sumTimesRises 78 = .ok (.aload_n 0, 1) := by decide +kernel
theorem dS_sumTimesRises_79 : decode bS_sumTimesRises 79 = .ok (.getfield 9, 3) := by decide +kernel
theorem dS_sumTimesRises_82 : decode bS_sumTimesRises 82 = .ok (.iload_n 1, 1) := by decide +kernel
theorem dS_sumTimesRises_83 : decode bS_sumTimesRises 83 = .ok (.iaload, 1) := by decide +kernel
theorem dS_sumTimesRises_84 : decode bS_sumTimesRises 84 = .ok (.i2l, 1) := by decide +kernel
theorem dS_sumTimesRises_85 : decode bS_sumTimesRises 85 = .ok (.aload_n 2, 1) := by decide +kernel
theorem dS_sumTimesRises_86 : decode bS_sumTimesRises 86 = .ok (.getfield 44, 3) := by decide +kernel
theorem dS_sumTimesRises_89 : decode bS_sumTimesRises 89 = .ok (.lmul, 1) := by decide +kernel
theorem dS_sumTimesRises_90 : decode bS_sumTimesRises 90 = .ok (.lload_n 3, 1) := by decide +kernel
theorem dS_sumTimesRises_91 : decode bS_sumTimesRises 91 = .ok (.aload_n 2, 1) := by decide +kernel
theorem dS_sumTimesRises_92 : decode bS_sumTimesRises 92 = .ok (.getfield 32, 3) := by decide +kernel
theorem dS_sumTimesRises_95 : decode bS_sumTimesRises 95 = .ok (.i2l, 1) := by decide +kernel
theorem dS_sumTimesRises_96 : decode bS_sumTimesRises 96 = .ok (.lmul, 1) := by decide +kernel
theorem dS_sumTimesRises_97 : decode bS_sumTimesRises 97 = .ok (.ladd, 1) := by decide +kernel
theorem dS_sumTimesRises_98 : decode bS_sumTimesRises 98 = .ok (.lreturn, 1) := by decide +kernel
end
section
theorem dT_init_0 : decode bT_init 0 = .ok (.aload_n 0, 1) := by decide +kernel
theorem dT_init_1 : decode bT_init 1 = .ok (.invokespecial 3, 3) := by decide +kernel
theorem dT_init_4 : decode bT_init 4 = .ok (.aload_n 0, 1) := by decide +kernel
theorem dT_init_5 : decode bT_init 5 = .ok (.bipush 120, 2) := by decide +kernel
theorem dT_init_7 : decode bT_init 7 = .ok (.newarray .char, 2) := by decide +kernel
theorem dT_init_9 : decode bT_init 9 = .ok (.putfield 11, 3) := by decide +kernel
theorem dT_init_12 : decode bT_init 12 = .ok (.aload_n 0, 1) := by decide +kernel
theorem dT_init_13 : decode bT_init 13 = .ok (.iconst 0, 1) := by decide +kernel
theorem dT_init_14 : decode bT_init 14 = .ok (.putfield 15, 3) := by decide +kernel
theorem dT_init_17 : decode bT_init 17 = .ok (.aload_n 0, 1) := by decide +kernel
theorem dT_init_18 : decode bT_init 18 = .ok (.iconst 0, 1) := by decide +kernel
theorem dT_init_19 : decode bT_init 19 = .ok (.putfield 19, 3) := by decide +kernel
theorem dT_init_22 : decode bT_init 22 = .ok (.return_, 1) := by decide +kernel
theorem dT_append_0 : decode bT_append 0 = .ok (.iload_n 1, 1) := by decide +kernel
theorem dT_append_1 : decode bT_append 1 = .ok (.bipush 33, 2) := by decide +kernel
theorem dT_append_3 : decode bT_append 3 = .ok (.if_icmp .lt 18, 3) := by decide +kernel
theorem dT_append_6 : decode bT_append 6 = .ok (.iload_n 1, 1) := by decide +kernel
theorem dT_append_7 : decode bT_append 7 = .ok (.bipush 126, 2) := by decide +kernel
theorem dT_append_9 : decode bT_append 9 = .ok (.if_icmp .gt 12, 3) := by decide +kernel
theorem dT_append_12 : decode bT_append 12 = .ok (.aload_n 0, 1) := by decide +kernel
theorem dT_append_13 : decode bT_append 13 = .ok (.getfield 15, 3) := by decide +kernel
theorem dT_append_16 : decode bT_append 16 = .ok (.bipush 120, 2) := by decide +kernel
theorem dT_append_18 : decode bT_append 18 = .ok (.if_icmp .lt 5, 3) := by decide +kernel
theorem dT_append_21 : decode bT_append 21 = .ok (.iconst 0, 1) := by decide +kernel
theorem dT_append_22 : decode bT_append 22 = .ok (.ireturn, 1) := by decide +kernel
theorem dT_append_23 : decode bT_append 23 = .ok (.aload_n 0, 1) := by decide +kernel
theorem dT_append_24 : decode bT_append 24 = .ok (.getfield 11, 3) := by decide +kernel
theorem dT_append_27 : decode bT_append 27 = .ok (.aload_n 0, 1) := by decide +kernel
theorem dT_append_28 : decode bT_append 28 = .ok (.getfield 15, 3) := by decide +kernel
theorem dT_append_31 : decode bT_append 31 = .ok (.iload_n 1, 1) := by decide +kernel
theorem dT_append_32 : decode bT_append 32 = .ok (.i2c, 1) := by decide +kernel
theorem dT_append_33 : decode bT_append 33 = .ok (.castore, 1) := by decide +kernel
theorem dT_append_34 : decode bT_append 34 = .ok (.aload_n 0, 1) := by decide +kernel
theorem dT_append_35 : decode bT_append 35 = .ok (.dup, 1) := by decide +kernel
theorem dT_append_36 : decode bT_append 36 = .ok (.getfield 15, 3) := by decide +kernel
theorem dT_append_39 : decode bT_append 39 = .ok (.iconst 1, 1) := by decide +kernel
theorem dT_append_40 : decode bT_append 40 = .ok (.iadd, 1) := by decide +kernel
theorem dT_append_41 : decode bT_append 41 = .ok (.putfield 15, 3) := by decide +kernel
theorem dT_append_44 : decode bT_append 44 = .ok (.iconst 1, 1) := by decide +kernel
theorem dT_append_45 : decode bT_append 45 = .ok (.ireturn, 1) := by decide +kernel
theorem dT_clear_0 : decode bT_clear 0 = .ok (.aload_n 0, 1) := by decide +kernel
theorem dT_clear_1 : decode bT_clear 1 = .ok (.iconst 0, 1) := by decide +kernel
theorem dT_clear_2 : decode bT_clear 2 = .ok (.putfield 15, 3) := by decide +kernel
theorem dT_clear_5 : decode bT_clear 5 = .ok (.return_, 1) := by decide +kernel
theorem dT_readInto_0 : decode bT_readInto 0 = .ok (.aload_n 1, 1) := by decide +kernel
theorem dT_readInto_1 : decode bT_readInto 1 = .ok (.invokevirtual 22, 3) := by decide +kernel
theorem dT_readInto_4 : decode bT_readInto 4 = .ok (.aload_n 0, 1) := by decide +kernel
theorem dT_readInto_5 : decode bT_readInto 5 = .ok (.iconst 0, 1) := by decide +kernel
theorem dT_readInto_6 : decode bT_readInto 6 = .ok (.putfield 19, 3) := by decide +kernel
theorem dT_readInto_9 : decode bT_readInto 9 = .ok (.iconst 0, 1) := by decide +kernel
theorem dT_readInto_10 : decode bT_readInto 10 = .ok (.istore_n 2, 1) := by decide +kernel
theorem dT_readInto_11 : decode bT_readInto 11 = .ok (.iload_n 2, 1) := by decide +kernel
theorem dT_readInto_12 : decode bT_readInto 12 = .ok (.bipush 8, 2) := by decide +kernel
theorem dT_readInto_14 : decode bT_readInto 14 = .ok (.if_icmp .ge 59, 3) := by decide +kernel
theorem dT_readInto_17 : decode bT_readInto 17 = .ok (.aload_n 0, 1) := by decide +kernel
theorem dT_readInto_18 : decode bT_readInto 18 = .ok (.aload_n 1, 1) := by decide +kernel
theorem dT_readInto_19 : decode bT_readInto 19 = .ok (.invokevirtual 27, 3) := by decide +kernel
theorem dT_readInto_22 : decode bT_readInto 22 = .ok (.ifCond .ne 5, 3) := by decide +kernel
theorem dT_readInto_25 : decode bT_readInto 25 = .ok (.iconst 0, 1) := by decide +kernel
theorem dT_readInto_26 : decode bT_readInto 26 = .ok (.ireturn, 1) := by decide +kernel
theorem dT_readInto_27 : decode bT_readInto 27 = .ok (.aload_n 0, 1) := by decide +kernel
theorem dT_readInto_28 : decode bT_readInto 28 = .ok (.getfield 19, 3) := by decide +kernel
theorem dT_readInto_31 : decode bT_readInto 31 = .ok (.aload_n 0, 1) := by decide +kernel
theorem dT_readInto_32 : decode bT_readInto 32 = .ok (.getfield 15, 3) := by decide +kernel
theorem dT_readInto_35 : decode bT_readInto 35 = .ok (.if_icmp .ne 5, 3) := by decide +kernel
theorem dT_readInto_38 : decode bT_readInto 38 = .ok (.iconst 1, 1) := by decide +kernel
theorem dT_readInto_39 : decode bT_readInto 39 = .ok (.ireturn, 1) := by decide +kernel
theorem dT_readInto_40 : decode bT_readInto 40 = .ok (.aload_n 0, 1) := by decide +kernel
theorem dT_readInto_41 : decode bT_readInto 41 = .ok (.invokevirtual 31, 3) := by decide +kernel
theorem dT_readInto_44 : decode bT_readInto 44 = .ok (.bipush 59, 2) := by decide +kernel
theorem dT_readInto_46 : decode bT_readInto 46 = .ok (.if_icmp .ne 9, 3) := by decide +kernel
theorem dT_readInto_49 : decode bT_readInto 49 = .ok (.iload_n 2, 1) := by decide +kernel
theorem dT_readInto_50 : decode bT_readInto 50 = .ok (.bipush 7, 2) := by decide +kernel
theorem dT_readInto_52 : decode bT_readInto 52 = .ok (.if_icmp .ne 5, 3) := by decide +kernel
theorem dT_readInto_55 : decode bT_readInto 55 = .ok (.iconst 0, 1) := by decide +kernel
theorem dT_readInto_56 : decode bT_readInto 56 = .ok (.ireturn, 1) := by decide +kernel
theorem dT_readInto_57 : decode bT_readInto 57 = .ok (.aload_n 0, 1) := by decide +kernel
theorem dT_readInto_58 : decode bT_readInto 58 = .ok (.dup, 1) := by decide +kernel
theorem dT_readInto_59 : decode bT_readInto 59 = .ok (.getfield 19, 3) := by decide +kernel
theorem dT_readInto_62 : decode bT_readInto 62 = .ok (.iconst 1, 1) := by decide +kernel
theorem dT_readInto_63 : decode bT_readInto 63 = .ok (.iadd, 1) := by decide +kernel
theorem dT_readInto_64 : decode bT_readInto 64 = .ok (.putfield 19, 3) := by decide +kernel
theorem dT_readInto_67 : decode bT_readInto 67 = .ok (.iinc 2 1, 3) := by decide +kernel
theorem dT_readInto_70 : decode bT_readInto 70 = .ok (.goto (-59), 3) := by decide +kernel
theorem dT_readInto_73 : decode bT_readInto 73 = .ok (.iconst 0, 1) := by decide +kernel
theorem dT_readInto_74 : decode bT_readInto 74 = .ok (.ireturn, 1) := by decide +kernel
theorem dT_readRule_0 : decode bT_readRule 0 = .ok (.aload_n 0, 1) := by decide +kernel
theorem dT_readRule_1 : decode bT_readRule 1 = .ok (.aload_n 1, 1) := by decide +kernel
theorem dT_readRule_2 : decode bT_readRule 2 = .ok (.invokevirtual 35, 3) := by decide +kernel
theorem dT_readRule_5 : decode bT_readRule 5 = .ok (.ifCond .ne 5, 3) := by decide +kernel
theorem dT_readRule_8 : decode bT_readRule 8 = .ok (.iconst 0, 1) := by decide +kernel
theorem dT_readRule_9 : decode bT_readRule 9 = .ok (.ireturn, 1) := by decide +kernel
theorem dT_readRule_10 : decode bT_readRule 10 = .ok (.aload_n 0, 1) := by decide +kernel
theorem dT_readRule_11 : decode bT_readRule 11 = .ok (.invokevirtual 31, 3) := by decide +kernel
theorem dT_readRule_14 : decode bT_readRule 14 = .ok (.istore_n 2, 1) := by decide +kernel
theorem dT_readRule_15 : decode bT_readRule 15 = .ok (.iload_n 2, 1) := by decide +kernel
theorem dT_readRule_16 : decode bT_readRule 16 = .ok (.bipush 60, 2) := by decide +kernel
theorem dT_readRule_18 : decode bT_readRule 18 = .ok (.if_icmp .eq 17, 3) := by decide +kernel
theorem dT_readRule_21 : decode bT_readRule 21 = .ok (.iload_n 2, 1) := by decide +kernel
theorem dT_readRule_22 : decode bT_readRule 22 = .ok (.bipush 62, 2) := by decide +kernel
theorem dT_readRule_24 : decode bT_readRule 24 = .ok (.if_icmp .eq 11, 3) := by decide +kernel
theorem dT_readRule_27 : decode bT_readRule 27 = .ok (.iload_n 2, 1) := by decide +kernel
theorem dT_readRule_28 : decode bT_readRule 28 = .ok (.bipush 61, 2) := by decide +kernel
theorem dT_readRule_30 : decode bT_readRule 30 = .ok (.if_icmp .eq 5, 3) := by decide +kernel
theorem dT_readRule_33 : decode bT_readRule 33 = .ok (.iconst 0, 1) := by decide +kernel
theorem dT_readRule_34 : decode bT_readRule 34 = .ok (.ireturn, 1) := by decide +kernel
theorem dT_readRule_35 : decode bT_readRule 35 = .ok (.aload_n 0, 1) := by decide +kernel
theorem dT_readRule_36 : decode bT_readRule 36 = .ok (.dup, 1) := by decide +kernel
theorem dT_readRule_37 : decode bT_readRule 37 = .ok (.getfield 19, 3) := by decide +kernel
theorem dT_readRule_40 : decode bT_readRule 40 = .ok (.iconst 1, 1) := by decide +kernel
theorem dT_readRule_41 : decode bT_readRule 41 = .ok (.iadd, 1) := by decide +kernel
theorem dT_readRule_42 : decode bT_readRule 42 = .ok (.putfield 19, 3) := by decide +kernel
theorem dT_readRule_45 : decode bT_readRule 45 = .ok (.aload_n 0, 1) := by decide +kernel
theorem dT_readRule_46 : decode bT_readRule 46 = .ok (.bipush 6, 2) := by decide +kernel
theorem dT_readRule_48 : decode bT_readRule 48 = .ok (.invokevirtual 38, 3) := by decide +kernel
theorem dT_readRule_51 : decode bT_readRule 51 = .ok (.istore_n 3, 1) := by decide +kernel
theorem dT_readRule_52 : decode bT_readRule 52 = .ok (.iload_n 3, 1) := by decide +kernel
theorem dT_readRule_53 : decode bT_readRule 53 = .ok (.iconst (-1), 1) := by decide +kernel
theorem dT_readRule_54 : decode bT_readRule 54 = .ok (.if_icmp .ne 5, 3) := by decide +kernel
theorem dT_readRule_57 : decode bT_readRule 57 = .ok (.iconst 0, 1) := by decide +kernel
theorem dT_readRule_58 : decode bT_readRule 58 = .ok (.ireturn, 1) := by decide +kernel
theorem dT_readRule_59 : decode bT_readRule 59 = .ok (.aload_n 1, 1) := by decide +kernel
theorem dT_readRule_60 : decode bT_readRule 60 = .ok (.iload_n 2, 1) := by decide +kernel
theorem dT_readRule_61 : decode bT_readRule 61 = .ok (.iload_n 3, 1) := by decide +kernel
theorem dT_readRule_62 : decode bT_readRule 62 = .ok (.invokevirtual 42, 3) := by decide +kernel
theorem dT_readRule_65 : decode bT_readRule 65 = .ok (.iconst 1, 1) := by decide +kernel
theorem dT_readRule_66 : decode bT_readRule 66 = .ok (.ireturn, 1) := by decide +kernel
theorem dT_readSum_0 : decode bT_readSum 0 = .ok (.iconst 0, 1) := by decide +kernel
theorem dT_readSum_1 : decode bT_readSum 1 = .ok (.istore_n 2, 1) := by decide +kernel
theorem dT_readSum_2 : decode bT_readSum 2 = .ok (.iload_n 2, 1) := by decide +kernel
theorem dT_readSum_3 : decode bT_readSum 3 = .ok (.iconst 4, 1) := by decide +kernel
theorem dT_readSum_4 : decode bT_readSum 4 = .ok (.if_icmp .ge 45, 3) := by decide +kernel
theorem dT_readSum_7 : decode bT_readSum 7 = .ok (.aload_n 0, 1) := by decide +kernel
theorem dT_readSum_8 : decode bT_readSum 8 = .ok (.aload_n 1, 1) := by decide +kernel
theorem dT_readSum_9 : decode bT_readSum 9 = .ok (.invokevirtual 46, 3) := by decide +kernel
theorem dT_readSum_12 : decode bT_readSum 12 = .ok (.ifCond .ne 5, 3) := by decide +kernel
theorem dT_readSum_15 : decode bT_readSum 15 = .ok (.iconst 0, 1) := by decide +kernel
theorem dT_readSum_16 : decode bT_readSum 16 = .ok (.ireturn, 1) := by decide +kernel
theorem dT_readSum_17 : decode bT_readSum 17 = .ok (.aload_n 0, 1) := by decide +kernel
theorem dT_readSum_18 : decode bT_readSum 18 = .ok (.invokevirtual 31, 3) := by decide +kernel
theorem dT_readSum_21 : decode bT_readSum 21 = .ok (.bipush 43, 2) := by decide +kernel
theorem dT_readSum_23 : decode bT_readSum 23 = .ok (.if_icmp .ne 8, 3) := by decide +kernel
theorem dT_readSum_26 : decode bT_readSum 26 = .ok (.iload_n 2, 1) := by decide +kernel
theorem dT_readSum_27 : decode bT_readSum 27 = .ok (.iconst 3, 1) := by decide +kernel
theorem dT_readSum_28 : decode bT_readSum 28 = .ok (.if_icmp .ne 5, 3) := by decide +kernel
theorem dT_readSum_31 : decode bT_readSum 31 = .ok (.iconst 1, 1) := by decide +kernel
theorem dT_readSum_32 : decode bT_readSum 32 = .ok (.ireturn, 1) := by decide +kernel
theorem dT_readSum_33 : decode bT_readSum 33 = .ok (.aload_n 0, 1) := by decide +kernel
theorem dT_readSum_34 : decode bT_readSum 34 = .ok (.dup, 1) := by decide +kernel
theorem dT_readSum_35 : decode bT_readSum 35 = .ok (.getfield 19, 3) := by decide +kernel
theorem dT_readSum_38 : decode bT_readSum 38 = .ok (.iconst 1, 1) := by decide +kernel
theorem dT_readSum_39 : decode bT_readSum 39 = .ok (.iadd, 1) := by decide +kernel
theorem dT_readSum_40 : decode bT_readSum 40 = .ok (.putfield 19, 3) := by decide +kernel
theorem dT_readSum_43 : decode bT_readSum 43 = .ok (.iinc 2 1, 3) := by decide +kernel
theorem dT_readSum_46 : decode bT_readSum 46 = .ok (.goto (-44), 3) := by decide +kernel
theorem dT_readSum_49 : decode bT_readSum 49 = .ok (.iconst 1, 1) := by decide +kernel
theorem dT_readSum_50 : decode bT_readSum 50 = .ok (.ireturn, 1) := by decide +kernel
theorem dT_readTerm_0 : decode bT_readTerm 0 = .ok (.aload_n 0, 1) := by decide +kernel
theorem dT_readTerm_1 : decode bT_readTerm 1 = .ok (.iconst 2, 1) := by decide +kernel
theorem dT_readTerm_2 : decode bT_readTerm 2 = .ok (.invokevirtual 38, 3) := by decide +kernel
theorem dT_readTerm_5 : decode bT_readTerm 5 = .ok (.istore_n 2, 1) := by decide +kernel
theorem dT_readTerm_6 : decode bT_readTerm 6 = .ok (.ldc 49, 2) := by decide +kernel
theorem dT_readTerm_8 : decode bT_readTerm 8 = .ok (.aload_n 0, 1) := by decide +kernel
theorem dT_readTerm_9 : decode bT_readTerm 9 = .ok (.invokevirtual 31, 3) := by decide +kernel
theorem dT_readTerm_12 : decode bT_readTerm 12 = .ok (.invokevirtual 51, 3) := by decide +kernel
theorem dT_readTerm_15 : decode bT_readTerm 15 = .ok (.istore_n 3, 1) := by decide +kernel
theorem dT_readTerm_16 : decode bT_readTerm 16 = .ok (.iload_n 3, 1) := by decide +kernel
theorem dT_readTerm_17 : decode bT_readTerm 17 = .ok (.ifCond .ge 5, 3) := by decide +kernel
theorem dT_readTerm_20 : decode bT_readTerm 20 = .ok (.iconst 0, 1) := by decide +kernel
theorem dT_readTerm_21 : decode bT_readTerm 21 = .ok (.ireturn, 1) := by decide +kernel
theorem dT_readTerm_22 : decode bT_readTerm 22 = .ok (.aload_n 0, 1) := by decide +kernel
theorem dT_readTerm_23 : decode bT_readTerm 23 = .ok (.dup, 1) := by decide +kernel
theorem dT_readTerm_24 : decode bT_readTerm 24 = .ok (.getfield 19, 3) := by decide +kernel
theorem dT_readTerm_27 : decode bT_readTerm 27 = .ok (.iconst 1, 1) := by decide +kernel
theorem dT_readTerm_28 : decode bT_readTerm 28 = .ok (.iadd, 1) := by decide +kernel
theorem dT_readTerm_29 : decode bT_readTerm 29 = .ok (.putfield 19, 3) := by decide +kernel
theorem dT_readTerm_32 : decode bT_readTerm 32 = .ok (.aload_n 1, 1) := by decide +kernel
theorem dT_readTerm_33 : decode bT_readTerm 33 = .ok (.iload_n 2, 1) := by decide +kernel
theorem dT_readTerm_34 : decode bT_readTerm 34 = .ok (.iconst (-1), 1) := by decide +kernel
theorem dT_readTerm_35 : decode bT_readTerm 35 = .ok (.if_icmp .ne 7, 3) := by decide +kernel
theorem dT_readTerm_38 : decode bT_readTerm 38 = .ok (.iconst 1, 1) := by decide +kernel
theorem dT_readTerm_39 : decode bT_readTerm 39 = .ok (.goto 4, 3) := by decide +kernel
theorem dT_readTerm_42 : decode bT_readTerm 42 = .ok (.iload_n 2, 1) := by decide +kernel
theorem dT_readTerm_43 : decode bT_readTerm 43 = .ok (.iload_n 3, 1) := by decide +kernel
theorem dT_readTerm_44 : decode bT_readTerm 44 = .ok (.invokevirtual 56, 3) := by decide +kernel
theorem dT_readTerm_47 : decode bT_readTerm 47 = .ok (.iconst 1, 1) := by decide +kernel
theorem dT_readTerm_48 : decode bT_readTerm 48 = .ok (.ireturn, 1) := by decide +kernel
theorem dT_readNumber_0 : decode bT_readNumber 0 = .ok (.iconst (-1), 1) := by decide +kernel
theorem dT_readNumber_1 : decode bT_readNumber 1 = .ok (.istore_n 2, 1) := by decide +kernel
theorem dT_readNumber_2 : decode bT_readNumber 2 = .ok (.iconst 0, 1) := by decide +kernel
theorem dT_readNumber_3 : decode bT_readNumber 3 = .ok (.istore_n 3, 1) := by decide +kernel
theorem dT_readNumber_4 : decode bT_readNumber 4 = .ok (.iload_n 3, 1) := by decide +kernel
theorem dT_readNumber_5 : decode bT_readNumber 5 = .ok (.iload_n 1, 1) := by decide +kernel
theorem dT_readNumber_6 : decode bT_readNumber 6 = .ok (.if_icmp .ge 63, 3) := by decide +kernel
theorem dT_readNumber_9 : decode bT_readNumber 9 = .ok (.aload_n 0, 1) := by decide +kernel
theorem dT_readNumber_10 : decode bT_readNumber 10 = .ok (.invokevirtual 31, 3) := by decide +kernel
theorem dT_readNumber_13 : decode bT_readNumber 13 = .ok (.bipush 48, 2) := by decide +kernel
theorem dT_readNumber_15 : decode bT_readNumber 15 = .ok (.if_icmp .lt 54, 3) := by decide +kernel
theorem dT_readNumber_18 : decode bT_readNumber 18 = .ok (.aload_n 0, 1) := by decide +kernel
theorem dT_readNumber_19 : decode bT_readNumber 19 = .ok (.invokevirtual 31, 3) := by decide +kernel
theorem dT_readNumber_22 : decode bT_readNumber 22 = .ok (.bipush 57, 2) := by decide +kernel
theorem dT_readNumber_24 : decode bT_readNumber 24 = .ok (.if_icmp .gt 45, 3) := by decide +kernel
theorem dT_readNumber_27 : decode bT_readNumber 27 = .ok (.aload_n 0, 1) := by decide +kernel
theorem dT_readNumber_28 : decode bT_readNumber 28 = .ok (.invokevirtual 31, 3) := by decide +kernel
theorem dT_readNumber_31 : decode bT_readNumber 31 = .ok (.bipush 48, 2) := by decide +kernel
theorem dT_readNumber_33 : decode bT_readNumber 33 = .ok (.isub, 1) := by decide +kernel
theorem dT_readNumber_34 : decode bT_readNumber 34 = .ok (.istore 4, 2) := by decide +kernel
theorem dT_readNumber_36 : decode bT_readNumber 36 = .ok (.iload_n 3, 1) := by decide +kernel
theorem dT_readNumber_37 : decode bT_readNumber 37 = .ok (.ifCond .ne 8, 3) := by decide +kernel
theorem dT_readNumber_40 : decode bT_readNumber 40 = .ok (.iload 4, 2) := by decide +kernel
theorem dT_readNumber_42 : decode bT_readNumber 42 = .ok (.goto 10, 3) := by decide +kernel
theorem dT_readNumber_45 : decode bT_readNumber 45 = .ok (.iload_n 2, 1) := by decide +kernel
theorem dT_readNumber_46 : decode bT_readNumber 46 = .ok (.bipush 10, 2) := by decide +kernel
theorem dT_readNumber_48 : decode bT_readNumber 48 = .ok (.imul, 1) := by decide +kernel
theorem dT_readNumber_49 : decode bT_readNumber 49 = .ok (.iload 4, 2) := by decide +kernel
theorem dT_readNumber_51 : decode bT_readNumber 51 = .ok (.iadd, 1) := by decide +kernel
theorem dT_readNumber_52 : decode bT_readNumber 52 = .ok (.istore_n 2, 1) := by decide +kernel
theorem dT_readNumber_53 : decode bT_readNumber 53 = .ok (.aload_n 0, 1) := by decide +kernel
theorem dT_readNumber_54 : decode bT_readNumber 54 = .ok (.dup, 1) := by decide +kernel
theorem dT_readNumber_55 : decode bT_readNumber 55 = .ok (.getfield 19, 3) := by decide +kernel
theorem dT_readNumber_58 : decode bT_readNumber 58 = .ok (.iconst 1, 1) := by decide +kernel
theorem dT_readNumber_59 : decode bT_readNumber 59 = .ok (.iadd, 1) := by decide +kernel
theorem dT_readNumber_60 : decode bT_readNumber 60 = .ok (.putfield 19, 3) := by decide +kernel
theorem dT_readNumber_63 : decode bT_readNumber 63 = .ok (.iinc 3 1, 3) := by decide +kernel
theorem dT_readNumber_66 : decode bT_readNumber 66 = .ok (.goto (-62), 3) := by decide +kernel
theorem dT_readNumber_69 : decode bT_readNumber 69 = .ok (.iload_n 2, 1) := by decide +kernel
theorem dT_readNumber_70 : decode bT_readNumber 70 = .ok (.ireturn, 1) := by decide +kernel
theorem dT_next_0 : decode bT_next 0 = .ok (.aload_n 0, 1) := by decide +kernel
theorem dT_next_1 : decode bT_next 1 = .ok (.getfield 19, 3) := by decide +kernel
theorem dT_next_4 : decode bT_next 4 = .ok (.ifCond .lt 35, 3) := by decide +kernel
theorem dT_next_7 : decode bT_next 7 = .ok (.aload_n 0, 1) := by decide +kernel
theorem dT_next_8 : decode bT_next 8 = .ok (.getfield 19, 3) := by decide +kernel
theorem dT_next_11 : decode bT_next 11 = .ok (.aload_n 0, 1) := by decide +kernel
theorem dT_next_12 : decode bT_next 12 = .ok (.getfield 15, 3) := by decide +kernel
theorem dT_next_15 : decode bT_next 15 = .ok (.if_icmp .ge 24, 3) := by decide +kernel
theorem dT_next_18 : decode bT_next 18 = .ok (.aload_n 0, 1) := by decide +kernel
theorem dT_next_19 : decode bT_next 19 = .ok (.getfield 19, 3) := by decide +kernel
theorem dT_next_22 : decode bT_next 22 = .ok (.bipush 120, 2) := by decide +kernel
theorem dT_next_24 : decode bT_next 24 = .ok (.if_icmp .ge 15, 3) := by decide +kernel
theorem dT_next_27 : decode bT_next 27 = .ok (.aload_n 0, 1) := by decide +kernel
theorem dT_next_28 : decode bT_next 28 = .ok (.getfield 11, 3) := by decide +kernel
theorem dT_next_31 : decode bT_next 31 = .ok (.aload_n 0, 1) := by decide +kernel
theorem dT_next_32 : decode bT_next 32 = .ok (.getfield 19, 3) := by decide +kernel
theorem dT_next_35 : decode bT_next 35 = .ok (.caload, 1) := by decide +kernel
theorem dT_next_36 : decode bT_next 36 = .ok (.goto 4, 3) := by decide +kernel
theorem dT_next_39 : decode bT_next 39 = .ok (.iconst 0, 1) := by decide +kernel
theorem dT_next_40 : decode bT_next 40 = .ok (.ireturn, 1) := by decide +kernel
theorem dF_init_0 : decode bF_init 0 = .ok (.aload_n 0, 1) := by decide +kernel
theorem dF_init_1 : decode bF_init 1 = .ok (.invokespecial 1, 3) := by decide +kernel
theorem dF_init_4 : decode bF_init 4 = .ok (.aload_n 0, 1) := by decide +kernel
theorem dF_init_5 : decode bF_init 5 = .ok (.bipush 8, 2) := by decide +kernel
theorem dF_init_7 : decode bF_init 7 = .ok (.newarray .long, 2) := by decide +kernel
theorem dF_init_9 : decode bF_init 9 = .ok (.putfield 9, 3) := by decide +kernel
theorem dF_init_12 : decode bF_init 12 = .ok (.aload_n 0, 1) := by decide +kernel
theorem dF_init_13 : decode bF_init 13 = .ok (.bipush 8, 2) := by decide +kernel
theorem dF_init_15 : decode bF_init 15 = .ok (.newarray .long, 2) := by decide +kernel
theorem dF_init_17 : decode bF_init 17 = .ok (.putfield 13, 3) := by decide +kernel
theorem dF_init_20 : decode bF_init 20 = .ok (.aload_n 0, 1) := by decide +kernel
theorem dF_init_21 : decode bF_init 21 = .ok (.bipush 8, 2) := by decide +kernel
theorem dF_init_23 : decode bF_init 23 = .ok (.newarray .long, 2) := by decide +kernel
theorem dF_init_25 : decode bF_init 25 = .ok (.putfield 16, 3) := by decide +kernel
theorem dF_init_28 : decode bF_init 28 = .ok (.aload_n 0, 1) := by decide +kernel
theorem dF_init_29 : decode bF_init 29 = .ok (.bipush 8, 2) := by decide +kernel
theorem dF_init_31 : decode bF_init 31 = .ok (.newarray .long, 2) := by decide +kernel
theorem dF_init_33 : decode bF_init 33 = .ok (.putfield 19, 3) := by decide +kernel
theorem dF_init_36 : decode bF_init 36 = .ok (.aload_n 0, 1) := by decide +kernel
theorem dF_init_37 : decode bF_init 37 = .ok (.bipush 8, 2) := by decide +kernel
theorem dF_init_39 : decode bF_init 39 = .ok (.newarray .long, 2) := by decide +kernel
theorem dF_init_41 : decode bF_init 41 = .ok (.putfield 22, 3) := by decide +kernel
theorem dF_init_44 : decode bF_init 44 = .ok (.aload_n 0, 1) := by decide +kernel
theorem dF_init_45 : decode bF_init 45 = .ok (.iconst 0, 1) := by decide +kernel
theorem dF_init_46 : decode bF_init 46 = .ok (.putfield 25, 3) := by decide +kernel
theorem dF_init_49 : decode bF_init 49 = .ok (.return_, 1) := by decide +kernel
theorem dF_isPlace_0 : decode bF_isPlace 0 = .ok (.lload_n 0, 1) := by decide +kernel
theorem dF_isPlace_1 : decode bF_isPlace 1 = .ok (.ldc2_w 29, 3) := by decide +kernel
theorem dF_isPlace_4 : decode bF_isPlace 4 = .ok (.lcmp, 1) := by decide +kernel
theorem dF_isPlace_5 : decode bF_isPlace 5 = .ok (.ifCond .lt 15, 3) := by decide +kernel
theorem dF_isPlace_8 : decode bF_isPlace 8 = .ok (.lload_n 0, 1) := by decide +kernel
theorem dF_isPlace_9 : decode bF_isPlace 9 = .ok (.ldc2_w 31, 3) := by decide +kernel
theorem dF_isPlace_12 : decode bF_isPlace 12 = .ok (.lcmp, 1) := by decide +kernel
theorem dF_isPlace_13 : decode bF_isPlace 13 = .ok (.ifCond .gt 7, 3) := by decide +kernel
theorem dF_isPlace_16 : decode bF_isPlace 16 = .ok (.iconst 1, 1) := by decide +kernel
theorem dF_isPlace_17 : decode bF_isPlace 17 = .ok (.goto 4, 3) := by decide +kernel
theorem dF_isPlace_20 : decode bF_isPlace 20 = .ok (.iconst 0, 1) := by decide +kernel
theorem dF_isPlace_21 : decode bF_isPlace 21 = .ok (.ireturn, 1) := by decide +kernel
theorem dF_isHeight_0 : decode bF_isHeight 0 = .ok (.lload_n 0, 1) := by decide +kernel
theorem dF_isHeight_1 : decode bF_isHeight 1 = .ok (.lconst 0, 1) := by decide +kernel
theorem dF_isHeight_2 : decode bF_isHeight 2 = .ok (.lcmp, 1) := by decide +kernel
theorem dF_isHeight_3 : decode bF_isHeight 3 = .ok (.ifCond .lt 15, 3) := by decide +kernel
theorem dF_isHeight_6 : decode bF_isHeight 6 = .ok (.lload_n 0, 1) := by decide +kernel
theorem dF_isHeight_7 : decode bF_isHeight 7 = .ok (.ldc2_w 31, 3) := by decide +kernel
theorem dF_isHeight_10 : decode bF_isHeight 10 = .ok (.lcmp, 1) := by decide +kernel
theorem dF_isHeight_11 : decode bF_isHeight 11 = .ok (.ifCond .gt 7, 3) := by decide +kernel
theorem dF_isHeight_14 : decode bF_isHeight 14 = .ok (.iconst 1, 1) := by decide +kernel
theorem dF_isHeight_15 : decode bF_isHeight 15 = .ok (.goto 4, 3) := by decide +kernel
theorem dF_isHeight_18 : decode bF_isHeight 18 = .ok (.iconst 0, 1) := by decide +kernel
theorem dF_isHeight_19 : decode bF_isHeight 19 = .ok (.ireturn, 1) := by decide +kernel
theorem dF_append_0 : decode bF_append 0 = .ok (.aload_n 0, 1) := by decide +kernel
theorem dF_append_1 : decode bF_append 1 = .ok (.getfield 25, 3) := by decide +kernel
theorem dF_append_4 : decode bF_append 4 = .ok (.bipush 8, 2) := by decide +kernel
theorem dF_append_6 : decode bF_append 6 = .ok (.if_icmp .lt 5, 3) := by decide +kernel
theorem dF_append_9 : decode bF_append 9 = .ok (.iconst 0, 1) := by decide +kernel
theorem dF_append_10 : decode bF_append 10 = .ok (.ireturn, 1) := by decide +kernel
theorem dF_append_11 : decode bF_append 11 = .ok (.aload_n 0, 1) := by decide +kernel
theorem dF_append_12 : decode bF_append 12 = .ok (.getfield 9, 3) := by decide +kernel
theorem dF_append_15 : decode bF_append 15 = .ok (.aload_n 0, 1) := by decide +kernel
theorem dF_append_16 : decode bF_append 16 = .ok (.getfield 25, 3) := by decide +kernel
theorem dF_append_19 : decode bF_append 19 = .ok (.lload_n 1, 1) := by decide +kernel
theorem dF_append_20 : decode bF_append 20 = .ok (.lastore, 1) := by decide +kernel
theorem dF_append_21 : decode bF_append 21 = .ok (.aload_n 0, 1) := by decide +kernel
theorem dF_append_22 : decode bF_append 22 = .ok (.getfield 13, 3) := by decide +kernel
theorem dF_append_25 : decode bF_append 25 = .ok (.aload_n 0, 1) := by decide +kernel
theorem dF_append_26 : decode bF_append 26 = .ok (.getfield 25, 3) := by decide +kernel
theorem dF_append_29 : decode bF_append 29 = .ok (.lload_n 3, 1) := by decide +kernel
theorem dF_append_30 : decode bF_append 30 = .ok (.lastore, 1) := by decide +kernel
theorem dF_append_31 : decode bF_append 31 = .ok (.aload_n 0, 1) := by decide +kernel
theorem dF_append_32 : decode bF_append 32 = .ok (.getfield 16, 3) := by decide +kernel
theorem dF_append_35 : decode bF_append 35 = .ok (.aload_n 0, 1) := by decide +kernel
theorem dF_append_36 : decode bF_append 36 = .ok (.getfield 25, 3) := by decide +kernel
theorem dF_append_39 : decode bF_append 39 = .ok (.lload 5, 2) := by decide +kernel
theorem dF_append_41 : decode bF_append 41 = .ok (.lastore, 1) := by decide +kernel
theorem dF_append_42 : decode bF_append 42 = .ok (.aload_n 0, 1) := by decide +kernel
theorem dF_append_43 : decode bF_append 43 = .ok (.getfield 19, 3) := by decide +kernel
theorem dF_append_46 : decode bF_append 46 = .ok (.aload_n 0, 1) := by decide +kernel
theorem dF_append_47 : decode bF_append 47 = .ok (.getfield 25, 3) := by decide +kernel
theorem dF_append_50 : decode bF_append 50 = .ok (.lload 7, 2) := by decide +kernel
theorem dF_append_52 : decode bF_append 52 = .ok (.lastore, 1) := by decide +kernel
theorem dF_append_53 : decode bF_append 53 = .ok (.aload_n 0, 1) := by decide +kernel
theorem dF_append_54 : decode bF_append 54 = .ok (.getfield 22, 3) := by decide +kernel
theorem dF_append_57 : decode bF_append 57 = .ok (.aload_n 0, 1) := by decide +kernel
theorem dF_append_58 : decode bF_append 58 = .ok (.getfield 25, 3) := by decide +kernel
theorem dF_append_61 : decode bF_append 61 = .ok (.lload 9, 2) := by decide +kernel
theorem dF_append_63 : decode bF_append 63 = .ok (.lastore, 1) := by decide +kernel
theorem dF_append_64 : decode bF_append 64 = .ok (.aload_n 0, 1) := by decide +kernel
theorem dF_append_65 : decode bF_append 65 = .ok (.dup, 1) := by decide +kernel
theorem dF_append_66 : decode bF_append 66 = .ok (.getfield 25, 3) := by decide +kernel
theorem dF_append_69 : decode bF_append 69 = .ok (.iconst 1, 1) := by decide +kernel
theorem dF_append_70 : decode bF_append 70 = .ok (.iadd, 1) := by decide +kernel
theorem dF_append_71 : decode bF_append 71 = .ok (.putfield 25, 3) := by decide +kernel
theorem dF_append_74 : decode bF_append 74 = .ok (.iconst 1, 1) := by decide +kernel
theorem dF_append_75 : decode bF_append 75 = .ok (.ireturn, 1) := by decide +kernel
theorem dF_leastRoomTimesRises_0 : decode bF_leastRoomTimesRises 0 = .ok (.ldc2_w 33, 3) := by decide +kernel
theorem dF_leastRoomTimesRises_3 : decode bF_leastRoomTimesRises 3 = .ok (.lstore_n 2, 1) := by decide +kernel
theorem dF_leastRoomTimesRises_4 : decode bF_leastRoomTimesRises 4 = .ok (.iconst 0, 1) := by decide +kernel
theorem dF_leastRoomTimesRises_5 : decode bF_leastRoomTimesRises 5 = .ok (.istore 4, 2) := by decide +kernel
theorem dF_leastRoomTimesRises_7 : decode bF_leastRoomTimesRises 7 = .ok (.iload 4, 2) := by decide +kernel
theorem dF_leastRoomTimesRises_9 : decode bF_leastRoomTimesRises 9 = .ok (.aload_n 0, 1) := by decide +kernel
theorem dF_leastRoomTimesRises_10 : decode bF_leastRoomTimesRises 10 = .ok (.getfield 25, 3) := by decide +kernel
theorem dF_leastRoomTimesRises_13 : decode bF_leastRoomTimesRises 13 = .ok (.if_icmp .ge 71, 3) := by decide +kernel
theorem dF_leastRoomTimesRises_16 : decode bF_leastRoomTimesRises 16 = .ok (.iload 4, 2) := by decide +kernel
theorem dF_leastRoomTimesRises_18 : decode bF_leastRoomTimesRises 18 = .ok (.bipush 8, 2) := by decide +kernel
theorem dF_leastRoomTimesRises_20 : decode bF_leastRoomTimesRises 20 = .ok (.if_icmp .ge 64, 3) := by decide +kernel
theorem dF_leastRoomTimesRises_23 : decode bF_leastRoomTimesRises 23 = .ok (.iconst 0, 1) := by decide +kernel
theorem dF_leastRoomTimesRises_24 : decode bF_leastRoomTimesRises 24 = .ok (.istore 5, 2) := by decide +kernel
theorem dF_leastRoomTimesRises_26 : decode bF_leastRoomTimesRises 26 = .ok (.iload 5, 2) := by decide +kernel
theorem dF_leastRoomTimesRises_28 : decode bF_leastRoomTimesRises 28 = .ok (.aload_n 1, 1) := by decide +kernel
theorem dF_leastRoomTimesRises_29 : decode bF_leastRoomTimesRises 29 = .ok (.invokevirtual 35, 3) := by decide +kernel
theorem dF_leastRoomTimesRises_32 : decode bF_leastRoomTimesRises 32 = .ok (.if_icmp .ge 46, 3) := by decide +kernel
theorem dF_leastRoomTimesRises_35 : decode bF_leastRoomTimesRises 35 = .ok (.aload_n 0, 1) := by decide +kernel
theorem dF_leastRoomTimesRises_36 : decode bF_leastRoomTimesRises 36 = .ok (.iload 4, 2) := by decide +kernel
theorem dF_leastRoomTimesRises_38 : decode bF_leastRoomTimesRises 38 = .ok (.aload_n 1, 1) := by decide +kernel
theorem dF_leastRoomTimesRises_39 : decode bF_leastRoomTimesRises 39 = .ok (.iload 5, 2) := by decide +kernel
theorem dF_leastRoomTimesRises_41 : decode bF_leastRoomTimesRises 41 = .ok (.invokevirtual 41, 3) := by decide +kernel
theorem dF_leastRoomTimesRises_44 : decode bF_leastRoomTimesRises 44 = .ok (.ifCond .eq 28, 3) := by decide +kernel
theorem dF_leastRoomTimesRises_47 : decode bF_leastRoomTimesRises 47 = .ok (.lload_n 2, 1) := by decide +kernel
theorem dF_leastRoomTimesRises_48 : decode bF_leastRoomTimesRises 48 = .ok (.aload_n 0, 1) := by decide +kernel
theorem dF_leastRoomTimesRises_49 : decode bF_leastRoomTimesRises 49 = .ok (.getfield 22, 3) := by decide +kernel
theorem dF_leastRoomTimesRises_52 : decode bF_leastRoomTimesRises 52 = .ok (.iload 4, 2) := by decide +kernel
theorem dF_leastRoomTimesRises_54 : decode bF_leastRoomTimesRises 54 = .ok (.laload, 1) := by decide +kernel
theorem dF_leastRoomTimesRises_55 : decode bF_leastRoomTimesRises 55 = .ok (.aload_n 1, 1) := by decide +kernel
theorem dF_leastRoomTimesRises_56 : decode bF_leastRoomTimesRises 56 = .ok (.getfield 45, 3) := by decide +kernel
theorem dF_leastRoomTimesRises_59 : decode bF_leastRoomTimesRises 59 = .ok (.i2l, 1) := by decide +kernel
theorem dF_leastRoomTimesRises_60 : decode bF_leastRoomTimesRises 60 = .ok (.lmul, 1) := by decide +kernel
theorem dF_leastRoomTimesRises_61 : decode bF_leastRoomTimesRises 61 = .ok (.aload_n 1, 1) := by decide +kernel
theorem dF_leastRoomTimesRises_62 : decode bF_leastRoomTimesRises 62 = .ok (.iload 5, 2) := by decide +kernel
theorem dF_leastRoomTimesRises_64 : decode bF_leastRoomTimesRises 64 = .ok (.invokevirtual 48, 3) := by decide +kernel
theorem dF_leastRoomTimesRises_67 : decode bF_leastRoomTimesRises 67 = .ok (.lsub, 1) := by decide +kernel
theorem dF_leastRoomTimesRises_68 : decode bF_leastRoomTimesRises 68 = .ok (.invokestatic 52, 3) := by decide +kernel
theorem dF_leastRoomTimesRises_71 : decode bF_leastRoomTimesRises 71 = .ok (.lstore_n 2, 1) := by decide +kernel
theorem dF_leastRoomTimesRises_72 : decode bF_leastRoomTimesRises 72 = .ok (.iinc 5 1, 3) := by decide +kernel
theorem dF_leastRoomTimesRises_75 : decode bF_leastRoomTimesRises 75 = .ok (.goto (-49), 3) := by decide +kernel
theorem dF_leastRoomTimesRises_78 : decode bF_leastRoomTimesRises 78 = .ok (.iinc 4 1, 3) := by decide +kernel
theorem dF_leastRoomTimesRises_81 : decode bF_leastRoomTimesRises 81 = .ok (.goto (-74), 3) := by decide +kernel
theorem dF_leastRoomTimesRises_84 : decode bF_leastRoomTimesRises 84 = .ok (.lload_n 2, 1) := by decide +kernel
theorem dF_leastRoomTimesRises_85 : decode bF_leastRoomTimesRises 85 = .ok (.lreturn, 1) := by decide +kernel
theorem dF_isOver_0 : decode bF_isOver 0 = .ok (.iload_n 1, 1) := by decide +kernel
theorem dF_isOver_1 : decode bF_isOver 1 = .ok (.ifCond .lt 73, 3) := by decide +kernel
theorem dF_isOver_4 : decode bF_isOver 4 = .ok (.iload_n 1, 1) := by decide +kernel
theorem dF_isOver_5 : decode bF_isOver 5 = .ok (.bipush 8, 2) := by decide +kernel
theorem dF_isOver_7 : decode bF_isOver 7 = .ok (.if_icmp .ge 67, 3) := by decide +kernel
theorem dF_isOver_10 : decode bF_isOver 10 = .ok (.aload_n 0, 1) := by decide +kernel
theorem dF_isOver_11 : decode bF_isOver 11 = .ok (.getfield 9, 3) := by decide +kernel
theorem dF_isOver_14 : decode bF_isOver 14 = .ok (.iload_n 1, 1) := by decide +kernel
theorem dF_isOver_15 : decode bF_isOver 15 = .ok (.laload, 1) := by decide +kernel
theorem dF_isOver_16 : decode bF_isOver 16 = .ok (.aload_n 2, 1) := by decide +kernel
theorem dF_isOver_17 : decode bF_isOver 17 = .ok (.iload_n 3, 1) := by decide +kernel
theorem dF_isOver_18 : decode bF_isOver 18 = .ok (.invokevirtual 58, 3) := by decide +kernel
theorem dF_isOver_21 : decode bF_isOver 21 = .ok (.lcmp, 1) := by decide +kernel
theorem dF_isOver_22 : decode bF_isOver 22 = .ok (.ifCond .ge 52, 3) := by decide +kernel
theorem dF_isOver_25 : decode bF_isOver 25 = .ok (.aload_n 2, 1) := by decide +kernel
theorem dF_isOver_26 : decode bF_isOver 26 = .ok (.iload_n 3, 1) := by decide +kernel
theorem dF_isOver_27 : decode bF_isOver 27 = .ok (.invokevirtual 61, 3) := by decide +kernel
theorem dF_isOver_30 : decode bF_isOver 30 = .ok (.aload_n 0, 1) := by decide +kernel
theorem dF_isOver_31 : decode bF_isOver 31 = .ok (.getfield 16, 3) := by decide +kernel
theorem dF_isOver_34 : decode bF_isOver 34 = .ok (.iload_n 1, 1) := by decide +kernel
theorem dF_isOver_35 : decode bF_isOver 35 = .ok (.laload, 1) := by decide +kernel
theorem dF_isOver_36 : decode bF_isOver 36 = .ok (.lcmp, 1) := by decide +kernel
theorem dF_isOver_37 : decode bF_isOver 37 = .ok (.ifCond .ge 37, 3) := by decide +kernel
theorem dF_isOver_40 : decode bF_isOver 40 = .ok (.aload_n 0, 1) := by decide +kernel
theorem dF_isOver_41 : decode bF_isOver 41 = .ok (.getfield 13, 3) := by decide +kernel
theorem dF_isOver_44 : decode bF_isOver 44 = .ok (.iload_n 1, 1) := by decide +kernel
theorem dF_isOver_45 : decode bF_isOver 45 = .ok (.laload, 1) := by decide +kernel
theorem dF_isOver_46 : decode bF_isOver 46 = .ok (.aload_n 2, 1) := by decide +kernel
theorem dF_isOver_47 : decode bF_isOver 47 = .ok (.iload_n 3, 1) := by decide +kernel
theorem dF_isOver_48 : decode bF_isOver 48 = .ok (.invokevirtual 64, 3) := by decide +kernel
theorem dF_isOver_51 : decode bF_isOver 51 = .ok (.lcmp, 1) := by decide +kernel
theorem dF_isOver_52 : decode bF_isOver 52 = .ok (.ifCond .ge 22, 3) := by decide +kernel
theorem dF_isOver_55 : decode bF_isOver 55 = .ok (.aload_n 2, 1) := by decide +kernel
theorem dF_isOver_56 : decode bF_isOver 56 = .ok (.iload_n 3, 1) := by decide +kernel
theorem dF_isOver_57 : decode bF_isOver 57 = .ok (.invokevirtual 67, 3) := by decide +kernel
theorem dF_isOver_60 : decode bF_isOver 60 = .ok (.aload_n 0, 1) := by decide +kernel
theorem dF_isOver_61 : decode bF_isOver 61 = .ok (.getfield 19, 3) := by decide +kernel
theorem dF_isOver_64 : decode bF_isOver 64 = .ok (.iload_n 1, 1) := by decide +kernel
theorem dF_isOver_65 : decode bF_isOver 65 = .ok (.laload, 1) := by decide +kernel
theorem dF_isOver_66 : decode bF_isOver 66 = .ok (.lcmp, 1) := by decide +kernel
theorem dF_isOver_67 : decode bF_isOver 67 = .ok (.ifCond .ge 7, 3) := by decide +kernel
theorem dF_isOver_70 : decode bF_isOver 70 = .ok (.iconst 1, 1) := by decide +kernel
theorem dF_isOver_71 : decode bF_isOver 71 = .ok (.goto 4, 3) := by decide +kernel
theorem dF_isOver_74 : decode bF_isOver 74 = .ok (.iconst 0, 1) := by decide +kernel
theorem dF_isOver_75 : decode bF_isOver 75 = .ok (.ireturn, 1) := by decide +kernel
end
section
theorem dP_init_0 : decode bP_init 0 = .ok (.aload_n 0, 1) := by decide +kernel
theorem dP_init_1 : decode bP_init 1 = .ok (.invokespecial 1, 3) := by decide +kernel
theorem dP_init_4 : decode bP_init 4 = .ok (.aload_n 0, 1) := by decide +kernel
theorem dP_init_5 : decode bP_init 5 = .ok (.new 7, 3) := by decide +kernel
theorem dP_init_8 : decode bP_init 8 = .ok (.dup, 1) := by decide +kernel
theorem dP_init_9 : decode bP_init 9 = .ok (.invokespecial 9, 3) := by decide +kernel
theorem dP_init_12 : decode bP_init 12 = .ok (.putfield 10, 3) := by decide +kernel
theorem dP_init_15 : decode bP_init 15 = .ok (.aload_n 0, 1) := by decide +kernel
theorem dP_init_16 : decode bP_init 16 = .ok (.new 16, 3) := by decide +kernel
theorem dP_init_19 : decode bP_init 19 = .ok (.dup, 1) := by decide +kernel
theorem dP_init_20 : decode bP_init 20 = .ok (.invokespecial 18, 3) := by decide +kernel
theorem dP_init_23 : decode bP_init 23 = .ok (.putfield 19, 3) := by decide +kernel
theorem dP_init_26 : decode bP_init 26 = .ok (.aload_n 0, 1) := by decide +kernel
theorem dP_init_27 : decode bP_init 27 = .ok (.new 16, 3) := by decide +kernel
theorem dP_init_30 : decode bP_init 30 = .ok (.dup, 1) := by decide +kernel
theorem dP_init_31 : decode bP_init 31 = .ok (.invokespecial 18, 3) := by decide +kernel
theorem dP_init_34 : decode bP_init 34 = .ok (.putfield 23, 3) := by decide +kernel
theorem dP_init_37 : decode bP_init 37 = .ok (.aload_n 0, 1) := by decide +kernel
theorem dP_init_38 : decode bP_init 38 = .ok (.new 26, 3) := by decide +kernel
theorem dP_init_41 : decode bP_init 41 = .ok (.dup, 1) := by decide +kernel
theorem dP_init_42 : decode bP_init 42 = .ok (.invokespecial 28, 3) := by decide +kernel
theorem dP_init_45 : decode bP_init 45 = .ok (.putfield 29, 3) := by decide +kernel
theorem dP_init_48 : decode bP_init 48 = .ok (.aload_n 0, 1) := by decide +kernel
theorem dP_init_49 : decode bP_init 49 = .ok (.new 33, 3) := by decide +kernel
theorem dP_init_52 : decode bP_init 52 = .ok (.dup, 1) := by decide +kernel
theorem dP_init_53 : decode bP_init 53 = .ok (.invokespecial 35, 3) := by decide +kernel
theorem dP_init_56 : decode bP_init 56 = .ok (.putfield 36, 3) := by decide +kernel
theorem dP_init_59 : decode bP_init 59 = .ok (.aload_n 0, 1) := by decide +kernel
theorem dP_init_60 : decode bP_init 60 = .ok (.new 40, 3) := by decide +kernel
theorem dP_init_63 : decode bP_init 63 = .ok (.dup, 1) := by decide +kernel
theorem dP_init_64 : decode bP_init 64 = .ok (.invokespecial 42, 3) := by decide +kernel
theorem dP_init_67 : decode bP_init 67 = .ok (.putfield 43, 3) := by decide +kernel
theorem dP_init_70 : decode bP_init 70 = .ok (.aload_n 0, 1) := by decide +kernel
theorem dP_init_71 : decode bP_init 71 = .ok (.new 40, 3) := by decide +kernel
theorem dP_init_74 : decode bP_init 74 = .ok (.dup, 1) := by decide +kernel
theorem dP_init_75 : decode bP_init 75 = .ok (.invokespecial 42, 3) := by decide +kernel
theorem dP_init_78 : decode bP_init 78 = .ok (.putfield 47, 3) := by decide +kernel
theorem dP_init_81 : decode bP_init 81 = .ok (.aload_n 0, 1) := by decide +kernel
theorem dP_init_82 : decode bP_init 82 = .ok (.ldc2_w 50, 3) := by decide +kernel
theorem dP_init_85 : decode bP_init 85 = .ok (.putfield 52, 3) := by decide +kernel
theorem dP_init_88 : decode bP_init 88 = .ok (.aload_n 0, 1) := by decide +kernel
theorem dP_init_89 : decode bP_init 89 = .ok (.iconst 0, 1) := by decide +kernel
theorem dP_init_90 : decode bP_init 90 = .ok (.putfield 56, 3) := by decide +kernel
theorem dP_init_93 : decode bP_init 93 = .ok (.aload_n 0, 1) := by decide +kernel
theorem dP_init_94 : decode bP_init 94 = .ok (.iconst 0, 1) := by decide +kernel
theorem dP_init_95 : decode bP_init 95 = .ok (.putfield 60, 3) := by decide +kernel
theorem dP_init_98 : decode bP_init 98 = .ok (.return_, 1) := by decide +kernel
theorem dP_heights_0 : decode bP_heights 0 = .ok (.lload_n 1, 1) := by decide +kernel
theorem dP_heights_1 : decode bP_heights 1 = .ok (.lconst 1, 1) := by decide +kernel
theorem dP_heights_2 : decode bP_heights 2 = .ok (.lcmp, 1) := by decide +kernel
theorem dP_heights_3 : decode bP_heights 3 = .ok (.ifCond .lt 11, 3) := by decide +kernel
theorem dP_heights_6 : decode bP_heights 6 = .ok (.lload_n 1, 1) := by decide +kernel
theorem dP_heights_7 : decode bP_heights 7 = .ok (.ldc2_w 63, 3) := by decide +kernel
theorem dP_heights_10 : decode bP_heights 10 = .ok (.lcmp, 1) := by decide +kernel
theorem dP_heights_11 : decode bP_heights 11 = .ok (.ifCond .le 13, 3) := by decide +kernel
theorem dP_heights_14 : decode bP_heights 14 = .ok (.new 65, 3) := by decide +kernel
theorem dP_heights_17 : decode bP_heights 17 = .ok (.dup, 1) := by decide +kernel
theorem dP_heights_18 : decode bP_heights 18 = .ok (.ldc 67, 2) := by decide +kernel
theorem dP_heights_20 : decode bP_heights 20 = .ok (.invokespecial 69, 3) := by decide +kernel
theorem dP_heights_23 : decode bP_heights 23 = .ok (.athrow, 1) := by decide +kernel
theorem dP_heights_24 : decode bP_heights 24 = .ok (.lload_n 1, 1) := by decide +kernel
theorem dP_heights_25 : decode bP_heights 25 = .ok (.aload_n 0, 1) := by decide +kernel
theorem dP_heights_26 : decode bP_heights 26 = .ok (.getfield 52, 3) := by decide +kernel
theorem dP_heights_29 : decode bP_heights 29 = .ok (.lcmp, 1) := by decide +kernel
theorem dP_heights_30 : decode bP_heights 30 = .ok (.ifCond .ne 5, 3) := by decide +kernel
theorem dP_heights_33 : decode bP_heights 33 = .ok (.iconst 0, 1) := by decide +kernel
theorem dP_heights_34 : decode bP_heights 34 = .ok (.ireturn, 1) := by decide +kernel
theorem dP_heights_35 : decode bP_heights 35 = .ok (.aload_n 0, 1) := by decide +kernel
theorem dP_heights_36 : decode bP_heights 36 = .ok (.lload_n 1, 1) := by decide +kernel
theorem dP_heights_37 : decode bP_heights 37 = .ok (.putfield 52, 3) := by decide +kernel
theorem dP_heights_40 : decode bP_heights 40 = .ok (.aload_n 0, 1) := by decide +kernel
theorem dP_heights_41 : decode bP_heights 41 = .ok (.invokevirtual 72, 3) := by decide +kernel
theorem dP_heights_44 : decode bP_heights 44 = .ok (.iconst 1, 1) := by decide +kernel
theorem dP_heights_45 : decode bP_heights 45 = .ok (.ireturn, 1) := by decide +kernel
theorem dP_unit_0 : decode bP_unit 0 = .ok (.aload_n 0, 1) := by decide +kernel
theorem dP_unit_1 : decode bP_unit 1 = .ok (.getfield 10, 3) := by decide +kernel
theorem dP_unit_4 : decode bP_unit 4 = .ok (.iload_n 1, 1) := by decide +kernel
theorem dP_unit_5 : decode bP_unit 5 = .ok (.invokevirtual 75, 3) := by decide +kernel
theorem dP_unit_8 : decode bP_unit 8 = .ok (.ireturn, 1) := by decide +kernel
theorem dP_rules_0 : decode bP_rules 0 = .ok (.aload_n 0, 1) := by decide +kernel
theorem dP_rules_1 : decode bP_rules 1 = .ok (.getfield 10, 3) := by decide +kernel
theorem dP_rules_4 : decode bP_rules 4 = .ok (.aload_n 0, 1) := by decide +kernel
theorem dP_rules_5 : decode bP_rules 5 = .ok (.getfield 23, 3) := by decide +kernel
theorem dP_rules_8 : decode bP_rules 8 = .ok (.invokevirtual 79, 3) := by decide +kernel
theorem dP_rules_11 : decode bP_rules 11 = .ok (.istore_n 1, 1) := by decide +kernel
theorem dP_rules_12 : decode bP_rules 12 = .ok (.aload_n 0, 1) := by decide +kernel
theorem dP_rules_13 : decode bP_rules 13 = .ok (.getfield 10, 3) := by decide +kernel
theorem dP_rules_16 : decode bP_rules 16 = .ok (.getfield 83, 3) := by decide +kernel
theorem dP_rules_19 : decode bP_rules 19 = .ok (.istore_n 2, 1) := by decide +kernel
theorem dP_rules_20 : decode bP_rules 20 = .ok (.aload_n 0, 1) := by decide +kernel
theorem dP_rules_21 : decode bP_rules 21 = .ok (.getfield 10, 3) := by decide +kernel
theorem dP_rules_24 : decode bP_rules 24 = .ok (.invokevirtual 87, 3) := by decide +kernel
theorem dP_rules_27 : decode bP_rules 27 = .ok (.iload_n 1, 1) := by decide +kernel
theorem dP_rules_28 : decode bP_rules 28 = .ok (.ifCond .ne 7, 3) := by decide +kernel
theorem dP_rules_31 : decode bP_rules 31 = .ok (.iconst (-1), 1) := by decide +kernel
theorem dP_rules_32 : decode bP_rules 32 = .ok (.iload_n 2, 1) := by decide +kernel
theorem dP_rules_33 : decode bP_rules 33 = .ok (.isub, 1) := by decide +kernel
theorem dP_rules_34 : decode bP_rules 34 = .ok (.ireturn, 1) := by decide +kernel
theorem dP_rules_35 : decode bP_rules 35 = .ok (.aload_n 0, 1) := by decide +kernel
theorem dP_rules_36 : decode bP_rules 36 = .ok (.getfield 23, 3) := by decide +kernel
theorem dP_rules_39 : decode bP_rules 39 = .ok (.astore_n 3, 1) := by decide +kernel
theorem dP_rules_40 : decode bP_rules 40 = .ok (.aload_n 0, 1) := by decide +kernel
theorem dP_rules_41 : decode bP_rules 41 = .ok (.aload_n 0, 1) := by decide +kernel
theorem dP_rules_42 : decode bP_rules 42 = .ok (.getfield 19, 3) := by decide +kernel
theorem dP_rules_45 : decode bP_rules 45 = .ok (.putfield 23, 3) := by decide +kernel
theorem dP_rules_48 : decode bP_rules 48 = .ok (.aload_n 0, 1) := by decide +kernel
theorem dP_rules_49 : decode bP_rules 49 = .ok (.aload_n 3, 1) := by decide +kernel
theorem dP_rules_50 : decode bP_rules 50 = .ok (.putfield 19, 3) := by decide +kernel
theorem dP_rules_53 : decode bP_rules 53 = .ok (.aload_n 0, 1) := by decide +kernel
theorem dP_rules_54 : decode bP_rules 54 = .ok (.invokevirtual 72, 3) := by decide +kernel
theorem dP_rules_57 : decode bP_rules 57 = .ok (.aload_n 0, 1) := by decide +kernel
theorem dP_rules_58 : decode bP_rules 58 = .ok (.getfield 19, 3) := by decide +kernel
theorem dP_rules_61 : decode bP_rules 61 = .ok (.getfield 90, 3) := by decide +kernel
theorem dP_rules_64 : decode bP_rules 64 = .ok (.ireturn, 1) := by decide +kernel
theorem dP_run_0 : decode bP_run 0 = .ok (.aload_n 0, 1) := by decide +kernel
theorem dP_run_1 : decode bP_run 1 = .ok (.getfield 19, 3) := by decide +kernel
theorem dP_run_4 : decode bP_run 4 = .ok (.getfield 90, 3) := by decide +kernel
theorem dP_run_7 : decode bP_run 7 = .ok (.ifCond .ne 13, 3) := by decide +kernel
theorem dP_run_10 : decode bP_run 10 = .ok (.new 93, 3) := by decide +kernel
theorem dP_run_13 : decode bP_run 13 = .ok (.dup, 1) := by decide +kernel
theorem dP_run_14 : decode bP_run 14 = .ok (.ldc 95, 2) := by decide +kernel
theorem dP_run_16 : decode bP_run 16 = .ok (.invokespecial 97, 3) := by decide +kernel
theorem dP_run_19 : decode bP_run 19 = .ok (.athrow, 1) := by decide +kernel
theorem dP_run_20 : decode bP_run 20 = .ok (.iload_n 1, 1) := by decide +kernel
theorem dP_run_21 : decode bP_run 21 = .ok (.ifCond .lt 8, 3) := by decide +kernel
theorem dP_run_24 : decode bP_run 24 = .ok (.iload_n 1, 1) := by decide +kernel
theorem dP_run_25 : decode bP_run 25 = .ok (.iconst 2, 1) := by decide +kernel
theorem dP_run_26 : decode bP_run 26 = .ok (.if_icmp .le 13, 3) := by decide +kernel
theorem dP_run_29 : decode bP_run 29 = .ok (.new 65, 3) := by decide +kernel
theorem dP_run_32 : decode bP_run 32 = .ok (.dup, 1) := by decide +kernel
theorem dP_run_33 : decode bP_run 33 = .ok (.ldc 98, 2) := by decide +kernel
theorem dP_run_35 : decode bP_run 35 = .ok (.invokespecial 69, 3) := by decide +kernel
theorem dP_run_38 : decode bP_run 38 = .ok (.athrow, 1) := by decide +kernel
theorem dP_run_39 : decode bP_run 39 = .ok (.lload_n 2, 1) := by decide +kernel
theorem dP_run_40 : decode bP_run 40 = .ok (.lconst 1, 1) := by decide +kernel
theorem dP_run_41 : decode bP_run 41 = .ok (.lcmp, 1) := by decide +kernel
theorem dP_run_42 : decode bP_run 42 = .ok (.ifCond .lt 27, 3) := by decide +kernel
theorem dP_run_45 : decode bP_run 45 = .ok (.lload_n 2, 1) := by decide +kernel
theorem dP_run_46 : decode bP_run 46 = .ok (.ldc2_w 100, 3) := by decide +kernel
theorem dP_run_49 : decode bP_run 49 = .ok (.lcmp, 1) := by decide +kernel
theorem dP_run_50 : decode bP_run 50 = .ok (.ifCond .gt 19, 3) := by decide +kernel
theorem dP_run_53 : decode bP_run 53 = .ok (.lload 4, 2) := by decide +kernel
theorem dP_run_55 : decode bP_run 55 = .ok (.lconst 1, 1) := by decide +kernel
theorem dP_run_56 : decode bP_run 56 = .ok (.lcmp, 1) := by decide +kernel
theorem dP_run_57 : decode bP_run 57 = .ok (.ifCond .lt 12, 3) := by decide +kernel
theorem dP_run_60 : decode bP_run 60 = .ok (.lload 4, 2) := by decide +kernel
theorem dP_run_62 : decode bP_run 62 = .ok (.ldc2_w 100, 3) := by decide +kernel
theorem dP_run_65 : decode bP_run 65 = .ok (.lcmp, 1) := by decide +kernel
theorem dP_run_66 : decode bP_run 66 = .ok (.ifCond .le 13, 3) := by decide +kernel
theorem dP_run_69 : decode bP_run 69 = .ok (.new 65, 3) := by decide +kernel
theorem dP_run_72 : decode bP_run 72 = .ok (.dup, 1) := by decide +kernel
theorem dP_run_73 : decode bP_run 73 = .ok (.ldc 102, 2) := by decide +kernel
theorem dP_run_75 : decode bP_run 75 = .ok (.invokespecial 69, 3) := by decide +kernel
theorem dP_run_78 : decode bP_run 78 = .ok (.athrow, 1) := by decide +kernel
theorem dP_run_79 : decode bP_run 79 = .ok (.aload_n 0, 1) := by decide +kernel
theorem dP_run_80 : decode bP_run 80 = .ok (.invokevirtual 72, 3) := by decide +kernel
theorem dP_run_83 : decode bP_run 83 = .ok (.aload_n 0, 1) := by decide +kernel
theorem dP_run_84 : decode bP_run 84 = .ok (.getfield 36, 3) := by decide +kernel
theorem dP_run_87 : decode bP_run 87 = .ok (.iload_n 1, 1) := by decide +kernel
theorem dP_run_88 : decode bP_run 88 = .ok (.aload_n 0, 1) := by decide +kernel
theorem dP_run_89 : decode bP_run 89 = .ok (.getfield 52, 3) := by decide +kernel
theorem dP_run_92 : decode bP_run 92 = .ok (.lload_n 2, 1) := by decide +kernel
theorem dP_run_93 : decode bP_run 93 = .ok (.lload 4, 2) := by decide +kernel
theorem dP_run_95 : decode bP_run 95 = .ok (.invokevirtual 104, 3) := by decide +kernel
theorem dP_run_98 : decode bP_run 98 = .ok (.iconst 0, 1) := by decide +kernel
theorem dP_run_99 : decode bP_run 99 = .ok (.istore 6, 2) := by decide +kernel
theorem dP_run_101 : decode bP_run 101 = .ok (.aload_n 0, 1) := by decide +kernel
theorem dP_run_102 : decode bP_run 102 = .ok (.getfield 36, 3) := by decide +kernel
theorem dP_run_105 : decode bP_run 105 = .ok (.invokevirtual 108, 3) := by decide +kernel
theorem dP_run_108 : decode bP_run 108 = .ok (.istore 7, 2) := by decide +kernel
theorem dP_run_110 : decode bP_run 110 = .ok (.iload 7, 2) := by decide +kernel
theorem dP_run_112 : decode bP_run 112 = .ok (.bipush 60, 2) := by decide +kernel
theorem dP_run_114 : decode bP_run 114 = .ok (.if_icmp .gt 74, 3) := by decide +kernel
theorem dP_run_117 : decode bP_run 117 = .ok (.aload_n 0, 1) := by decide +kernel
theorem dP_run_118 : decode bP_run 118 = .ok (.getfield 36, 3) := by decide +kernel
theorem dP_run_121 : decode bP_run 121 = .ok (.iload 7, 2) := by decide +kernel
theorem dP_run_123 : decode bP_run 123 = .ok (.invokevirtual 112, 3) := by decide +kernel
theorem dP_run_126 : decode bP_run 126 = .ok (.aload_n 0, 1) := by decide +kernel
theorem dP_run_127 : decode bP_run 127 = .ok (.getfield 19, 3) := by decide +kernel
theorem dP_run_130 : decode bP_run 130 = .ok (.aload_n 0, 1) := by decide +kernel
theorem dP_run_131 : decode bP_run 131 = .ok (.getfield 36, 3) := by decide +kernel
theorem dP_run_134 : decode bP_run 134 = .ok (.invokevirtual 116, 3) := by decide +kernel
theorem dP_run_137 : decode bP_run 137 = .ok (.istore 8, 2) := by decide +kernel
theorem dP_run_139 : decode bP_run 139 = .ok (.iload 8, 2) := by decide +kernel
theorem dP_run_141 : decode bP_run 141 = .ok (.aload_n 0, 1) := by decide +kernel
theorem dP_run_142 : decode bP_run 142 = .ok (.getfield 19, 3) := by decide +kernel
theorem dP_run_145 : decode bP_run 145 = .ok (.getfield 90, 3) := by decide +kernel
theorem dP_run_148 : decode bP_run 148 = .ok (.if_icmp .ne 25, 3) := by decide +kernel
theorem dP_run_151 : decode bP_run 151 = .ok (.aload_n 0, 1) := by decide +kernel
theorem dP_run_152 : decode bP_run 152 = .ok (.iconst 1, 1) := by decide +kernel
theorem dP_run_153 : decode bP_run 153 = .ok (.putfield 56, 3) := by decide +kernel
theorem dP_run_156 : decode bP_run 156 = .ok (.aload_n 0, 1) := by decide +kernel
theorem dP_run_157 : decode bP_run 157 = .ok (.getfield 43, 3) := by decide +kernel
theorem dP_run_160 : decode bP_run 160 = .ok (.aload_n 0, 1) := by decide +kernel
theorem dP_run_161 : decode bP_run 161 = .ok (.getfield 52, 3) := by decide +kernel
theorem dP_run_164 : decode bP_run 164 = .ok (.iload 7, 2) := by decide +kernel
theorem dP_run_166 : decode bP_run 166 = .ok (.i2l, 1) := by decide +kernel
theorem dP_run_167 : decode bP_run 167 = .ok (.invokevirtual 120, 3) := by decide +kernel
theorem dP_run_170 : decode bP_run 170 = .ok (.iload 7, 2) := by decide +kernel
theorem dP_run_172 : decode bP_run 172 = .ok (.ireturn, 1) := by decide +kernel
theorem dP_run_173 : decode bP_run 173 = .ok (.iload 6, 2) := by decide +kernel
theorem dP_run_175 : decode bP_run 175 = .ok (.iload 8, 2) := by decide +kernel
theorem dP_run_177 : decode bP_run 177 = .ok (.invokestatic 124, 3) := by decide +kernel
theorem dP_run_180 : decode bP_run 180 = .ok (.istore 6, 2) := by decide +kernel
theorem dP_run_182 : decode bP_run 182 = .ok (.iinc 7 1, 3) := by decide +kernel
theorem dP_run_185 : decode bP_run 185 = .ok (.goto (-75), 3) := by decide +kernel
theorem dP_run_188 : decode bP_run 188 = .ok (.iconst (-1), 1) := by decide +kernel
theorem dP_run_189 : decode bP_run 189 = .ok (.iload 6, 2) := by decide +kernel
theorem dP_run_191 : decode bP_run 191 = .ok (.isub, 1) := by decide +kernel
theorem dP_run_192 : decode bP_run 192 = .ok (.ireturn, 1) := by decide +kernel
theorem dP_rise_0 : decode bP_rise 0 = .ok (.aload_n 0, 1) := by decide +kernel
theorem dP_rise_1 : decode bP_rise 1 = .ok (.invokevirtual 130, 3) := by decide +kernel
theorem dP_rise_4 : decode bP_rise 4 = .ok (.iload_n 1, 1) := by decide +kernel
theorem dP_rise_5 : decode bP_rise 5 = .ok (.iconst 2, 1) := by decide +kernel
theorem dP_rise_6 : decode bP_rise 6 = .ok (.invokestatic 133, 3) := by decide +kernel
theorem dP_rise_9 : decode bP_rise 9 = .ok (.iload_n 1, 1) := by decide +kernel
theorem dP_rise_10 : decode bP_rise 10 = .ok (.ifCond .ne 13, 3) := by decide +kernel
theorem dP_rise_13 : decode bP_rise 13 = .ok (.aload_n 0, 1) := by decide +kernel
theorem dP_rise_14 : decode bP_rise 14 = .ok (.getfield 43, 3) := by decide +kernel
theorem dP_rise_17 : decode bP_rise 17 = .ok (.getfield 137, 3) := by decide +kernel
theorem dP_rise_20 : decode bP_rise 20 = .ok (.goto 10, 3) := by decide +kernel
theorem dP_rise_23 : decode bP_rise 23 = .ok (.aload_n 0, 1) := by decide +kernel
theorem dP_rise_24 : decode bP_rise 24 = .ok (.getfield 43, 3) := by decide +kernel
theorem dP_rise_27 : decode bP_rise 27 = .ok (.getfield 140, 3) := by decide +kernel
theorem dP_rise_30 : decode bP_rise 30 = .ok (.lreturn, 1) := by decide +kernel
theorem dP_step_0 : decode bP_step 0 = .ok (.aload_n 0, 1) := by decide +kernel
theorem dP_step_1 : decode bP_step 1 = .ok (.invokevirtual 130, 3) := by decide +kernel
theorem dP_step_4 : decode bP_step 4 = .ok (.iload_n 1, 1) := by decide +kernel
theorem dP_step_5 : decode bP_step 5 = .ok (.aload_n 0, 1) := by decide +kernel
theorem dP_step_6 : decode bP_step 6 = .ok (.getfield 36, 3) := by decide +kernel
theorem dP_step_9 : decode bP_step 9 = .ok (.invokevirtual 143, 3) := by decide +kernel
theorem dP_step_12 : decode bP_step 12 = .ok (.invokestatic 133, 3) := by decide +kernel
theorem dP_step_15 : decode bP_step 15 = .ok (.iload_n 2, 1) := by decide +kernel
theorem dP_step_16 : decode bP_step 16 = .ok (.tableswitch 95 0 5 #[40, 49, 58, 67, 76, 86], 40) := by decide +kernel
theorem dP_step_56 : decode bP_step 56 = .ok (.aload_n 0, 1) := by decide +kernel
theorem dP_step_57 : decode bP_step 57 = .ok (.getfield 36, 3) := by decide +kernel
theorem dP_step_60 : decode bP_step 60 = .ok (.iload_n 1, 1) := by decide +kernel
theorem dP_step_61 : decode bP_step 61 = .ok (.invokevirtual 146, 3) := by decide +kernel
theorem dP_step_64 : decode bP_step 64 = .ok (.lreturn, 1) := by decide +kernel
theorem dP_step_65 : decode bP_step 65 = .ok (.aload_n 0, 1) := by decide +kernel
theorem dP_step_66 : decode bP_step 66 = .ok (.getfield 36, 3) := by decide +kernel
theorem dP_step_69 : decode bP_step 69 = .ok (.iload_n 1, 1) := by decide +kernel
theorem dP_step_70 : decode bP_step 70 = .ok (.invokevirtual 150, 3) := by decide +kernel
theorem dP_step_73 : decode bP_step 73 = .ok (.lreturn, 1) := by decide +kernel
theorem dP_step_74 : decode bP_step 74 = .ok (.aload_n 0, 1) := by decide +kernel
theorem dP_step_75 : decode bP_step 75 = .ok (.getfield 36, 3) := by decide +kernel
theorem dP_step_78 : decode bP_step 78 = .ok (.iload_n 1, 1) := by decide +kernel
theorem dP_step_79 : decode bP_step 79 = .ok (.invokevirtual 153, 3) := by decide +kernel
theorem dP_step_82 : decode bP_step 82 = .ok (.lreturn, 1) := by decide +kernel
theorem dP_step_83 : decode bP_step 83 = .ok (.aload_n 0, 1) := by decide +kernel
theorem dP_step_84 : decode bP_step 84 = .ok (.getfield 36, 3) := by decide +kernel
theorem dP_step_87 : decode bP_step 87 = .ok (.iload_n 1, 1) := by decide +kernel
theorem dP_step_88 : decode bP_step 88 = .ok (.invokevirtual 156, 3) := by decide +kernel
theorem dP_step_91 : decode bP_step 91 = .ok (.lreturn, 1) := by decide +kernel
theorem dP_step_92 : decode bP_step 92 = .ok (.aload_n 0, 1) := by decide +kernel
theorem dP_step_93 : decode bP_step 93 = .ok (.getfield 36, 3) := by decide +kernel
theorem dP_step_96 : decode bP_step 96 = .ok (.iload_n 1, 1) := by decide +kernel
theorem dP_step_97 : decode bP_step 97 = .ok (.invokevirtual 159, 3) := by decide +kernel
theorem dP_step_100 : decode bP_step 100 = .ok (.i2l, 1) := by decide +kernel
theorem dP_step_101 : decode bP_step 101 = .ok (.lreturn, 1) := by decide +kernel
theorem dP_step_102 : decode bP_step 102 = .ok (.aload_n 0, 1) := by decide +kernel
theorem dP_step_103 : decode bP_step 103 = .ok (.getfield 36, 3) := by decide +kernel
theorem dP_step_106 : decode bP_step 106 = .ok (.iload_n 1, 1) := by decide +kernel
theorem dP_step_107 : decode bP_step 107 = .ok (.invokevirtual 163, 3) := by decide +kernel
theorem dP_step_110 : decode bP_step 110 = .ok (.lreturn, 1) := by decide +kernel
theorem dP_step_111 : decode bP_step 111 = .ok (.new 65, 3) := by decide +kernel
theorem dP_step_114 : decode bP_step 114 = .ok (.dup, 1) := by decide +kernel
theorem dP_step_115 : decode bP_step 115 = .ok (.ldc 166, 2) := by decide +kernel
theorem dP_step_117 : decode bP_step 117 = .ok (.invokespecial 69, 3) := by decide +kernel
theorem dP_step_120 : decode bP_step 120 = .ok (.athrow, 1) := by decide +kernel
theorem dP_winder_0 : decode bP_winder 0 = .ok (.aload_n 0, 1) := by decide +kernel
theorem dP_winder_1 : decode bP_winder 1 = .ok (.invokevirtual 168, 3) := by decide +kernel
theorem dP_winder_4 : decode bP_winder 4 = .ok (.iload_n 1, 1) := by decide +kernel
theorem dP_winder_5 : decode bP_winder 5 = .ok (.iconst 4, 1) := by decide +kernel
theorem dP_winder_6 : decode bP_winder 6 = .ok (.invokestatic 133, 3) := by decide +kernel
theorem dP_winder_9 : decode bP_winder 9 = .ok (.iload_n 2, 1) := by decide +kernel
theorem dP_winder_10 : decode bP_winder 10 = .ok (.iconst 2, 1) := by decide +kernel
theorem dP_winder_11 : decode bP_winder 11 = .ok (.invokestatic 133, 3) := by decide +kernel
theorem dP_winder_14 : decode bP_winder 14 = .ok (.iload_n 2, 1) := by decide +kernel
theorem dP_winder_15 : decode bP_winder 15 = .ok (.ifCond .ne 14, 3) := by decide +kernel
theorem dP_winder_18 : decode bP_winder 18 = .ok (.aload_n 0, 1) := by decide +kernel
theorem dP_winder_19 : decode bP_winder 19 = .ok (.getfield 36, 3) := by decide +kernel
theorem dP_winder_22 : decode bP_winder 22 = .ok (.iload_n 1, 1) := by decide +kernel
theorem dP_winder_23 : decode bP_winder 23 = .ok (.invokevirtual 171, 3) := by decide +kernel
theorem dP_winder_26 : decode bP_winder 26 = .ok (.goto 11, 3) := by decide +kernel
theorem dP_winder_29 : decode bP_winder 29 = .ok (.aload_n 0, 1) := by decide +kernel
theorem dP_winder_30 : decode bP_winder 30 = .ok (.getfield 36, 3) := by decide +kernel
theorem dP_winder_33 : decode bP_winder 33 = .ok (.iload_n 1, 1) := by decide +kernel
theorem dP_winder_34 : decode bP_winder 34 = .ok (.invokevirtual 174, 3) := by decide +kernel
theorem dP_winder_37 : decode bP_winder 37 = .ok (.lreturn, 1) := by decide +kernel
theorem dP_area_0 : decode bP_area 0 = .ok (.aload_n 0, 1) := by decide +kernel
theorem dP_area_1 : decode bP_area 1 = .ok (.invokevirtual 168, 3) := by decide +kernel
theorem dP_area_4 : decode bP_area 4 = .ok (.iload_n 1, 1) := by decide +kernel
theorem dP_area_5 : decode bP_area 5 = .ok (.iconst 3, 1) := by decide +kernel
theorem dP_area_6 : decode bP_area 6 = .ok (.invokestatic 133, 3) := by decide +kernel
theorem dP_area_9 : decode bP_area 9 = .ok (.aload_n 0, 1) := by decide +kernel
theorem dP_area_10 : decode bP_area 10 = .ok (.getfield 36, 3) := by decide +kernel
theorem dP_area_13 : decode bP_area 13 = .ok (.invokevirtual 177, 3) := by decide +kernel
theorem dP_area_16 : decode bP_area 16 = .ok (.lreturn, 1) := by decide +kernel
theorem dP_meets_0 : decode bP_meets 0 = .ok (.aload_n 0, 1) := by decide +kernel
theorem dP_meets_1 : decode bP_meets 1 = .ok (.invokevirtual 130, 3) := by decide +kernel
theorem dP_meets_4 : decode bP_meets 4 = .ok (.iload_n 1, 1) := by decide +kernel
theorem dP_meets_5 : decode bP_meets 5 = .ok (.aload_n 0, 1) := by decide +kernel
theorem dP_meets_6 : decode bP_meets 6 = .ok (.getfield 19, 3) := by decide +kernel
theorem dP_meets_9 : decode bP_meets 9 = .ok (.getfield 90, 3) := by decide +kernel
theorem dP_meets_12 : decode bP_meets 12 = .ok (.invokestatic 133, 3) := by decide +kernel
theorem dP_meets_15 : decode bP_meets 15 = .ok (.aload_n 0, 1) := by decide +kernel
theorem dP_meets_16 : decode bP_meets 16 = .ok (.getfield 19, 3) := by decide +kernel
theorem dP_meets_19 : decode bP_meets 19 = .ok (.iload_n 1, 1) := by decide +kernel
theorem dP_meets_20 : decode bP_meets 20 = .ok (.aload_n 0, 1) := by decide +kernel
theorem dP_meets_21 : decode bP_meets 21 = .ok (.getfield 36, 3) := by decide +kernel
theorem dP_meets_24 : decode bP_meets 24 = .ok (.invokevirtual 181, 3) := by decide +kernel
theorem dP_meets_27 : decode bP_meets 27 = .ok (.ireturn, 1) := by decide +kernel
theorem dP_floor_0 : decode bP_floor 0 = .ok (.lload_n 1, 1) := by decide +kernel
theorem dP_floor_1 : decode bP_floor 1 = .ok (.invokestatic 185, 3) := by decide +kernel
theorem dP_floor_4 : decode bP_floor 4 = .ok (.ifCond .eq 26, 3) := by decide +kernel
theorem dP_floor_7 : decode bP_floor 7 = .ok (.lload_n 3, 1) := by decide +kernel
theorem dP_floor_8 : decode bP_floor 8 = .ok (.invokestatic 185, 3) := by decide +kernel
theorem dP_floor_11 : decode bP_floor 11 = .ok (.ifCond .eq 19, 3) := by decide +kernel
theorem dP_floor_14 : decode bP_floor 14 = .ok (.lload 5, 2) := by decide +kernel
theorem dP_floor_16 : decode bP_floor 16 = .ok (.invokestatic 185, 3) := by decide +kernel
theorem dP_floor_19 : decode bP_floor 19 = .ok (.ifCond .eq 11, 3) := by decide +kernel
theorem dP_floor_22 : decode bP_floor 22 = .ok (.lload 7, 2) := by decide +kernel
theorem dP_floor_24 : decode bP_floor 24 = .ok (.invokestatic 185, 3) := by decide +kernel
theorem dP_floor_27 : decode bP_floor 27 = .ok (.ifCond .ne 13, 3) := by decide +kernel
theorem dP_floor_30 : decode bP_floor 30 = .ok (.new 65, 3) := by decide +kernel
theorem dP_floor_33 : decode bP_floor 33 = .ok (.dup, 1) := by decide +kernel
theorem dP_floor_34 : decode bP_floor 34 = .ok (.ldc 189, 2) := by decide +kernel
theorem dP_floor_36 : decode bP_floor 36 = .ok (.invokespecial 69, 3) := by decide +kernel
theorem dP_floor_39 : decode bP_floor 39 = .ok (.athrow, 1) := by decide +kernel
theorem dP_floor_40 : decode bP_floor 40 = .ok (.lload 5, 2) := by decide +kernel
theorem dP_floor_42 : decode bP_floor 42 = .ok (.lload_n 1, 1) := by decide +kernel
theorem dP_floor_43 : decode bP_floor 43 = .ok (.lcmp, 1) := by decide +kernel
theorem dP_floor_44 : decode bP_floor 44 = .ok (.ifCond .le 10, 3) := by decide +kernel
theorem dP_floor_47 : decode bP_floor 47 = .ok (.lload 7, 2) := by decide +kernel
theorem dP_floor_49 : decode bP_floor 49 = .ok (.lload_n 3, 1) := by decide +kernel
theorem dP_floor_50 : decode bP_floor 50 = .ok (.lcmp, 1) := by decide +kernel
theorem dP_floor_51 : decode bP_floor 51 = .ok (.ifCond .gt 13, 3) := by decide +kernel
theorem dP_floor_54 : decode bP_floor 54 = .ok (.new 65, 3) := by decide +kernel
theorem dP_floor_57 : decode bP_floor 57 = .ok (.dup, 1) := by decide +kernel
theorem dP_floor_58 : decode bP_floor 58 = .ok (.ldc 191, 2) := by decide +kernel
theorem dP_floor_60 : decode bP_floor 60 = .ok (.invokespecial 69, 3) := by decide +kernel
theorem dP_floor_63 : decode bP_floor 63 = .ok (.athrow, 1) := by decide +kernel
theorem dP_floor_64 : decode bP_floor 64 = .ok (.lload 9, 2) := by decide +kernel
theorem dP_floor_66 : decode bP_floor 66 = .ok (.invokestatic 193, 3) := by decide +kernel
theorem dP_floor_69 : decode bP_floor 69 = .ok (.ifCond .ne 13, 3) := by decide +kernel
theorem dP_floor_72 : decode bP_floor 72 = .ok (.new 65, 3) := by decide +kernel
theorem dP_floor_75 : decode bP_floor 75 = .ok (.dup, 1) := by decide +kernel
theorem dP_floor_76 : decode bP_floor 76 = .ok (.ldc 196, 2) := by decide +kernel
theorem dP_floor_78 : decode bP_floor 78 = .ok (.invokespecial 69, 3) := by decide +kernel
theorem dP_floor_81 : decode bP_floor 81 = .ok (.athrow, 1) := by decide +kernel
theorem dP_floor_82 : decode bP_floor 82 = .ok (.aload_n 0, 1) := by decide +kernel
theorem dP_floor_83 : decode bP_floor 83 = .ok (.getfield 29, 3) := by decide +kernel
theorem dP_floor_86 : decode bP_floor 86 = .ok (.lload_n 1, 1) := by decide +kernel
theorem dP_floor_87 : decode bP_floor 87 = .ok (.lload_n 3, 1) := by decide +kernel
theorem dP_floor_88 : decode bP_floor 88 = .ok (.lload 5, 2) := by decide +kernel
theorem dP_floor_90 : decode bP_floor 90 = .ok (.lload 7, 2) := by decide +kernel
theorem dP_floor_92 : decode bP_floor 92 = .ok (.lload 9, 2) := by decide +kernel
theorem dP_floor_94 : decode bP_floor 94 = .ok (.invokevirtual 198, 3) := by decide +kernel
theorem dP_floor_97 : decode bP_floor 97 = .ok (.ireturn, 1) := by decide +kernel
theorem dP_headRoom_0 : decode bP_headRoom 0 = .ok (.aload_n 0, 1) := by decide +kernel
theorem dP_headRoom_1 : decode bP_headRoom 1 = .ok (.invokevirtual 130, 3) := by decide +kernel
theorem dP_headRoom_4 : decode bP_headRoom 4 = .ok (.aload_n 0, 1) := by decide +kernel
theorem dP_headRoom_5 : decode bP_headRoom 5 = .ok (.getfield 29, 3) := by decide +kernel
theorem dP_headRoom_8 : decode bP_headRoom 8 = .ok (.aload_n 0, 1) := by decide +kernel
theorem dP_headRoom_9 : decode bP_headRoom 9 = .ok (.getfield 36, 3) := by decide +kernel
theorem dP_headRoom_12 : decode bP_headRoom 12 = .ok (.invokevirtual 201, 3) := by decide +kernel
theorem dP_headRoom_15 : decode bP_headRoom 15 = .ok (.lreturn, 1) := by decide +kernel
theorem dP_string_0 : decode bP_string 0 = .ok (.aload_n 0, 1) := by decide +kernel
theorem dP_string_1 : decode bP_string 1 = .ok (.invokevirtual 130, 3) := by decide +kernel
theorem dP_string_4 : decode bP_string 4 = .ok (.iload_n 1, 1) := by decide +kernel
theorem dP_string_5 : decode bP_string 5 = .ok (.iconst 2, 1) := by decide +kernel
theorem dP_string_6 : decode bP_string 6 = .ok (.invokestatic 133, 3) := by decide +kernel
theorem dP_string_9 : decode bP_string 9 = .ok (.aload_n 0, 1) := by decide +kernel
theorem dP_string_10 : decode bP_string 10 = .ok (.getfield 36, 3) := by decide +kernel
theorem dP_string_13 : decode bP_string 13 = .ok (.invokevirtual 205, 3) := by decide +kernel
theorem dP_string_16 : decode bP_string 16 = .ok (.lstore_n 2, 1) := by decide +kernel
theorem dP_string_17 : decode bP_string 17 = .ok (.iload_n 1, 1) := by decide +kernel
theorem dP_string_18 : decode bP_string 18 = .ok (.ifCond .eq 14, 3) := by decide +kernel
theorem dP_string_21 : decode bP_string 21 = .ok (.aload_n 0, 1) := by decide +kernel
theorem dP_string_22 : decode bP_string 22 = .ok (.getfield 36, 3) := by decide +kernel
theorem dP_string_25 : decode bP_string 25 = .ok (.lload_n 2, 1) := by decide +kernel
theorem dP_string_26 : decode bP_string 26 = .ok (.invokevirtual 208, 3) := by decide +kernel
theorem dP_string_29 : decode bP_string 29 = .ok (.ifCond .eq 7, 3) := by decide +kernel
theorem dP_string_32 : decode bP_string 32 = .ok (.lload_n 2, 1) := by decide +kernel
theorem dP_string_33 : decode bP_string 33 = .ok (.goto 6, 3) := by decide +kernel
theorem dP_string_36 : decode bP_string 36 = .ok (.lload_n 2, 1) := by decide +kernel
theorem dP_string_37 : decode bP_string 37 = .ok (.lconst 1, 1) := by decide +kernel
theorem dP_string_38 : decode bP_string 38 = .ok (.ladd, 1) := by decide +kernel
theorem dP_string_39 : decode bP_string 39 = .ok (.lreturn, 1) := by decide +kernel
theorem dP_balusters_0 : decode bP_balusters 0 = .ok (.aload_n 0, 1) := by decide +kernel
theorem dP_balusters_1 : decode bP_balusters 1 = .ok (.invokevirtual 130, 3) := by decide +kernel
theorem dP_balusters_4 : decode bP_balusters 4 = .ok (.lload_n 1, 1) := by decide +kernel
theorem dP_balusters_5 : decode bP_balusters 5 = .ok (.lconst 1, 1) := by decide +kernel
theorem dP_balusters_6 : decode bP_balusters 6 = .ok (.lcmp, 1) := by decide +kernel
theorem dP_balusters_7 : decode bP_balusters 7 = .ok (.ifCond .lt 11, 3) := by decide +kernel
theorem dP_balusters_10 : decode bP_balusters 10 = .ok (.lload_n 1, 1) := by decide +kernel
theorem dP_balusters_11 : decode bP_balusters 11 = .ok (.ldc2_w 211, 3) := by decide +kernel
theorem dP_balusters_14 : decode bP_balusters 14 = .ok (.lcmp, 1) := by decide +kernel
theorem dP_balusters_15 : decode bP_balusters 15 = .ok (.ifCond .le 13, 3) := by decide +kernel
theorem dP_balusters_18 : decode bP_balusters 18 = .ok (.new 65, 3) := by decide +kernel
theorem dP_balusters_21 : decode bP_balusters 21 = .ok (.dup, 1) := by decide +kernel
theorem dP_balusters_22 : decode bP_balusters 22 = .ok (.ldc 213, 2) := by decide +kernel
theorem dP_balusters_24 : decode bP_balusters 24 = .ok (.invokespecial 69, 3) := by decide +kernel
theorem dP_balusters_27 : decode bP_balusters 27 = .ok (.athrow, 1) := by decide +kernel
theorem dP_balusters_28 : decode bP_balusters 28 = .ok (.lload_n 3, 1) := by decide +kernel
theorem dP_balusters_29 : decode bP_balusters 29 = .ok (.lconst 0, 1) := by decide +kernel
theorem dP_balusters_30 : decode bP_balusters 30 = .ok (.lcmp, 1) := by decide +kernel
theorem dP_balusters_31 : decode bP_balusters 31 = .ok (.ifCond .ge 13, 3) := by decide +kernel
theorem dP_balusters_34 : decode bP_balusters 34 = .ok (.new 65, 3) := by decide +kernel
theorem dP_balusters_37 : decode bP_balusters 37 = .ok (.dup, 1) := by decide +kernel
theorem dP_balusters_38 : decode bP_balusters 38 = .ok (.ldc 215, 2) := by decide +kernel
theorem dP_balusters_40 : decode bP_balusters 40 = .ok (.invokespecial 69, 3) := by decide +kernel
theorem dP_balusters_43 : decode bP_balusters 43 = .ok (.athrow, 1) := by decide +kernel
theorem dP_balusters_44 : decode bP_balusters 44 = .ok (.aload_n 0, 1) := by decide +kernel
theorem dP_balusters_45 : decode bP_balusters 45 = .ok (.getfield 36, 3) := by decide +kernel
theorem dP_balusters_48 : decode bP_balusters 48 = .ok (.invokevirtual 217, 3) := by decide +kernel
theorem dP_balusters_51 : decode bP_balusters 51 = .ok (.lstore 5, 2) := by decide +kernel
theorem dP_balusters_53 : decode bP_balusters 53 = .ok (.lload 5, 2) := by decide +kernel
theorem dP_balusters_55 : decode bP_balusters 55 = .ok (.lload_n 1, 1) := by decide +kernel
theorem dP_balusters_56 : decode bP_balusters 56 = .ok (.lload_n 3, 1) := by decide +kernel
theorem dP_balusters_57 : decode bP_balusters 57 = .ok (.invokestatic 220, 3) := by decide +kernel
theorem dP_balusters_60 : decode bP_balusters 60 = .ok (.istore 7, 2) := by decide +kernel
theorem dP_balusters_62 : decode bP_balusters 62 = .ok (.aload_n 0, 1) := by decide +kernel
theorem dP_balusters_63 : decode bP_balusters 63 = .ok (.iload 7, 2) := by decide +kernel
theorem dP_balusters_65 : decode bP_balusters 65 = .ok (.iconst (-1), 1) := by decide +kernel
theorem dP_balusters_66 : decode bP_balusters 66 = .ok (.if_icmp .eq 7, 3) := by decide +kernel
theorem dP_balusters_69 : decode bP_balusters 69 = .ok (.iconst 1, 1) := by decide +kernel
theorem dP_balusters_70 : decode bP_balusters 70 = .ok (.goto 4, 3) := by decide +kernel
theorem dP_balusters_73 : decode bP_balusters 73 = .ok (.iconst 0, 1) := by decide +kernel
theorem dP_balusters_74 : decode bP_balusters 74 = .ok (.putfield 60, 3) := by decide +kernel
theorem dP_balusters_77 : decode bP_balusters 77 = .ok (.aload_n 0, 1) := by decide +kernel
theorem dP_balusters_78 : decode bP_balusters 78 = .ok (.getfield 60, 3) := by decide +kernel
theorem dP_balusters_81 : decode bP_balusters 81 = .ok (.ifCond .eq 23, 3) := by decide +kernel
theorem dP_balusters_84 : decode bP_balusters 84 = .ok (.aload_n 0, 1) := by decide +kernel
theorem dP_balusters_85 : decode bP_balusters 85 = .ok (.getfield 47, 3) := by decide +kernel
theorem dP_balusters_88 : decode bP_balusters 88 = .ok (.lload 5, 2) := by decide +kernel
theorem dP_balusters_90 : decode bP_balusters 90 = .ok (.iload 7, 2) := by decide +kernel
theorem dP_balusters_92 : decode bP_balusters 92 = .ok (.i2l, 1) := by decide +kernel
theorem dP_balusters_93 : decode bP_balusters 93 = .ok (.lload_n 1, 1) := by decide +kernel
theorem dP_balusters_94 : decode bP_balusters 94 = .ok (.lmul, 1) := by decide +kernel
theorem dP_balusters_95 : decode bP_balusters 95 = .ok (.lsub, 1) := by decide +kernel
theorem dP_balusters_96 : decode bP_balusters 96 = .ok (.iload 7, 2) := by decide +kernel
theorem dP_balusters_98 : decode bP_balusters 98 = .ok (.iconst 1, 1) := by decide +kernel
theorem dP_balusters_99 : decode bP_balusters 99 = .ok (.iadd, 1) := by decide +kernel
theorem dP_balusters_100 : decode bP_balusters 100 = .ok (.i2l, 1) := by decide +kernel
theorem dP_balusters_101 : decode bP_balusters 101 = .ok (.invokevirtual 120, 3) := by decide +kernel
theorem dP_balusters_104 : decode bP_balusters 104 = .ok (.iload 7, 2) := by decide +kernel
theorem dP_balusters_106 : decode bP_balusters 106 = .ok (.ireturn, 1) := by decide +kernel
theorem dP_gap_0 : decode bP_gap 0 = .ok (.aload_n 0, 1) := by decide +kernel
theorem dP_gap_1 : decode bP_gap 1 = .ok (.getfield 60, 3) := by decide +kernel
theorem dP_gap_4 : decode bP_gap 4 = .ok (.ifCond .ne 13, 3) := by decide +kernel
theorem dP_gap_7 : decode bP_gap 7 = .ok (.new 93, 3) := by decide +kernel
theorem dP_gap_10 : decode bP_gap 10 = .ok (.dup, 1) := by decide +kernel
theorem dP_gap_11 : decode bP_gap 11 = .ok (.ldc 224, 2) := by decide +kernel
theorem dP_gap_13 : decode bP_gap 13 = .ok (.invokespecial 97, 3) := by decide +kernel
theorem dP_gap_16 : decode bP_gap 16 = .ok (.athrow, 1) := by decide +kernel
theorem dP_gap_17 : decode bP_gap 17 = .ok (.iload_n 1, 1) := by decide +kernel
theorem dP_gap_18 : decode bP_gap 18 = .ok (.iconst 2, 1) := by decide +kernel
theorem dP_gap_19 : decode bP_gap 19 = .ok (.invokestatic 133, 3) := by decide +kernel
theorem dP_gap_22 : decode bP_gap 22 = .ok (.iload_n 1, 1) := by decide +kernel
theorem dP_gap_23 : decode bP_gap 23 = .ok (.ifCond .ne 13, 3) := by decide +kernel
theorem dP_gap_26 : decode bP_gap 26 = .ok (.aload_n 0, 1) := by decide +kernel
theorem dP_gap_27 : decode bP_gap 27 = .ok (.getfield 47, 3) := by decide +kernel
theorem dP_gap_30 : decode bP_gap 30 = .ok (.getfield 137, 3) := by decide +kernel
theorem dP_gap_33 : decode bP_gap 33 = .ok (.goto 10, 3) := by decide +kernel
theorem dP_gap_36 : decode bP_gap 36 = .ok (.aload_n 0, 1) := by decide +kernel
theorem dP_gap_37 : decode bP_gap 37 = .ok (.getfield 47, 3) := by decide +kernel
theorem dP_gap_40 : decode bP_gap 40 = .ok (.getfield 140, 3) := by decide +kernel
theorem dP_gap_43 : decode bP_gap 43 = .ok (.lreturn, 1) := by decide +kernel
theorem dP_list_0 : decode bP_list 0 = .ok (.aload_n 0, 1) := by decide +kernel
theorem dP_list_1 : decode bP_list 1 = .ok (.invokevirtual 130, 3) := by decide +kernel
theorem dP_list_4 : decode bP_list 4 = .ok (.iload_n 1, 1) := by decide +kernel
theorem dP_list_5 : decode bP_list 5 = .ok (.iconst 4, 1) := by decide +kernel
theorem dP_list_6 : decode bP_list 6 = .ok (.invokestatic 133, 3) := by decide +kernel
theorem dP_list_9 : decode bP_list 9 = .ok (.iload_n 1, 1) := by decide +kernel
theorem dP_list_10 : decode bP_list 10 = .ok (.tableswitch 66 0 2 #[26, 50, 58], 26) := by decide +kernel
theorem dP_list_36 : decode bP_list 36 = .ok (.aload_n 0, 1) := by decide +kernel
theorem dP_list_37 : decode bP_list 37 = .ok (.getfield 36, 3) := by decide +kernel
theorem dP_list_40 : decode bP_list 40 = .ok (.invokevirtual 143, 3) := by decide +kernel
theorem dP_list_43 : decode bP_list 43 = .ok (.aload_n 0, 1) := by decide +kernel
theorem dP_list_44 : decode bP_list 44 = .ok (.getfield 36, 3) := by decide +kernel
theorem dP_list_47 : decode bP_list 47 = .ok (.invokevirtual 226, 3) := by decide +kernel
theorem dP_list_50 : decode bP_list 50 = .ok (.isub, 1) := by decide +kernel
theorem dP_list_51 : decode bP_list 51 = .ok (.aload_n 0, 1) := by decide +kernel
theorem dP_list_52 : decode bP_list 52 = .ok (.getfield 36, 3) := by decide +kernel
theorem dP_list_55 : decode bP_list 55 = .ok (.invokevirtual 229, 3) := by decide +kernel
theorem dP_list_58 : decode bP_list 58 = .ok (.isub, 1) := by decide +kernel
theorem dP_list_59 : decode bP_list 59 = .ok (.ireturn, 1) := by decide +kernel
theorem dP_list_60 : decode bP_list 60 = .ok (.aload_n 0, 1) := by decide +kernel
theorem dP_list_61 : decode bP_list 61 = .ok (.getfield 36, 3) := by decide +kernel
theorem dP_list_64 : decode bP_list 64 = .ok (.invokevirtual 226, 3) := by decide +kernel
theorem dP_list_67 : decode bP_list 67 = .ok (.ireturn, 1) := by decide +kernel
theorem dP_list_68 : decode bP_list 68 = .ok (.aload_n 0, 1) := by decide +kernel
theorem dP_list_69 : decode bP_list 69 = .ok (.getfield 36, 3) := by decide +kernel
theorem dP_list_72 : decode bP_list 72 = .ok (.invokevirtual 229, 3) := by decide +kernel
theorem dP_list_75 : decode bP_list 75 = .ok (.ireturn, 1) := by decide +kernel
theorem dP_list_76 : decode bP_list 76 = .ok (.aload_n 0, 1) := by decide +kernel
theorem dP_list_77 : decode bP_list 77 = .ok (.getfield 36, 3) := by decide +kernel
theorem dP_list_80 : decode bP_list 80 = .ok (.getfield 232, 3) := by decide +kernel
theorem dP_list_83 : decode bP_list 83 = .ok (.ireturn, 1) := by decide +kernel
theorem dP_forgetPlan_0 : decode bP_forgetPlan 0 = .ok (.aload_n 0, 1) := by decide +kernel
theorem dP_forgetPlan_1 : decode bP_forgetPlan 1 = .ok (.iconst 0, 1) := by decide +kernel
theorem dP_forgetPlan_2 : decode bP_forgetPlan 2 = .ok (.putfield 56, 3) := by decide +kernel
theorem dP_forgetPlan_5 : decode bP_forgetPlan 5 = .ok (.aload_n 0, 1) := by decide +kernel
theorem dP_forgetPlan_6 : decode bP_forgetPlan 6 = .ok (.iconst 0, 1) := by decide +kernel
theorem dP_forgetPlan_7 : decode bP_forgetPlan 7 = .ok (.putfield 60, 3) := by decide +kernel
theorem dP_forgetPlan_10 : decode bP_forgetPlan 10 = .ok (.return_, 1) := by decide +kernel
theorem dP_requirePlan_0 : decode bP_requirePlan 0 = .ok (.aload_n 0, 1) := by decide +kernel
theorem dP_requirePlan_1 : decode bP_requirePlan 1 = .ok (.getfield 56, 3) := by decide +kernel
theorem dP_requirePlan_4 : decode bP_requirePlan 4 = .ok (.ifCond .ne 13, 3) := by decide +kernel
theorem dP_requirePlan_7 : decode bP_requirePlan 7 = .ok (.new 93, 3) := by decide +kernel
theorem dP_requirePlan_10 : decode bP_requirePlan 10 = .ok (.dup, 1) := by decide +kernel
theorem dP_requirePlan_11 : decode bP_requirePlan 11 = .ok (.ldc 235, 2) := by decide +kernel
theorem dP_requirePlan_13 : decode bP_requirePlan 13 = .ok (.invokespecial 97, 3) := by decide +kernel
theorem dP_requirePlan_16 : decode bP_requirePlan 16 = .ok (.athrow, 1) := by decide +kernel
theorem dP_requirePlan_17 : decode bP_requirePlan 17 = .ok (.return_, 1) := by decide +kernel
theorem dP_requireWinders_0 : decode bP_requireWinders 0 = .ok (.aload_n 0, 1) := by decide +kernel
theorem dP_requireWinders_1 : decode bP_requireWinders 1 = .ok (.invokevirtual 130, 3) := by decide +kernel
theorem dP_requireWinders_4 : decode bP_requireWinders 4 = .ok (.aload_n 0, 1) := by decide +kernel
theorem dP_requireWinders_5 : decode bP_requireWinders 5 = .ok (.getfield 36, 3) := by decide +kernel
theorem dP_requireWinders_8 : decode bP_requireWinders 8 = .ok (.invokevirtual 229, 3) := by decide +kernel
theorem dP_requireWinders_11 : decode bP_requireWinders 11 = .ok (.ifCond .ne 13, 3) := by decide +kernel
theorem dP_requireWinders_14 : decode bP_requireWinders 14 = .ok (.new 93, 3) := by decide +kernel
theorem dP_requireWinders_17 : decode bP_requireWinders 17 = .ok (.dup, 1) := by decide +kernel
theorem dP_requireWinders_18 : decode bP_requireWinders 18 = .ok (.ldc 237, 2) := by decide +kernel
theorem dP_requireWinders_20 : decode bP_requireWinders 20 = .ok (.invokespecial 97, 3) := by decide +kernel
theorem dP_requireWinders_23 : decode bP_requireWinders 23 = .ok (.athrow, 1) := by decide +kernel
theorem dP_requireWinders_24 : decode bP_requireWinders 24 = .ok (.return_, 1) := by decide +kernel
theorem dP_requireIndex_0 : decode bP_requireIndex 0 = .ok (.iload_n 0, 1) := by decide +kernel
theorem dP_requireIndex_1 : decode bP_requireIndex 1 = .ok (.ifCond .lt 8, 3) := by decide +kernel
theorem dP_requireIndex_4 : decode bP_requireIndex 4 = .ok (.iload_n 0, 1) := by decide +kernel
theorem dP_requireIndex_5 : decode bP_requireIndex 5 = .ok (.iload_n 1, 1) := by decide +kernel
theorem dP_requireIndex_6 : decode bP_requireIndex 6 = .ok (.if_icmp .lt 13, 3) := by decide +kernel
theorem dP_requireIndex_9 : decode bP_requireIndex 9 = .ok (.new 239, 3) := by decide +kernel
theorem dP_requireIndex_12 : decode bP_requireIndex 12 = .ok (.dup, 1) := by decide +kernel
theorem dP_requireIndex_13 : decode bP_requireIndex 13 = .ok (.ldc 241, 2) := by decide +kernel
theorem dP_requireIndex_15 : decode bP_requireIndex 15 = .ok (.invokespecial 243, 3) := by decide +kernel
theorem dP_requireIndex_18 : decode bP_requireIndex 18 = .ok (.athrow, 1) := by decide +kernel
theorem dP_requireIndex_19 : decode bP_requireIndex 19 = .ok (.return_, 1) := by decide +kernel
theorem dP_fewestBalusters_0 : decode bP_fewestBalusters 0 = .ok (.lload 4, 2) := by decide +kernel
theorem dP_fewestBalusters_2 : decode bP_fewestBalusters 2 = .ok (.lload_n 0, 1) := by decide +kernel
theorem dP_fewestBalusters_3 : decode bP_fewestBalusters 3 = .ok (.invokestatic 244, 3) := by decide +kernel
theorem dP_fewestBalusters_6 : decode bP_fewestBalusters 6 = .ok (.lstore 6, 2) := by decide +kernel
theorem dP_fewestBalusters_8 : decode bP_fewestBalusters 8 = .ok (.iconst 0, 1) := by decide +kernel
theorem dP_fewestBalusters_9 : decode bP_fewestBalusters 9 = .ok (.istore 8, 2) := by decide +kernel
theorem dP_fewestBalusters_11 : decode bP_fewestBalusters 11 = .ok (.iload 8, 2) := by decide +kernel
theorem dP_fewestBalusters_13 : decode bP_fewestBalusters 13 = .ok (.sipush 1000, 3) := by decide +kernel
theorem dP_fewestBalusters_16 : decode bP_fewestBalusters 16 = .ok (.if_icmp .gt 44, 3) := by decide +kernel
theorem dP_fewestBalusters_19 : decode bP_fewestBalusters 19 = .ok (.lload_n 0, 1) := by decide +kernel
theorem dP_fewestBalusters_20 : decode bP_fewestBalusters 20 = .ok (.iload 8, 2) := by decide +kernel
theorem dP_fewestBalusters_22 : decode bP_fewestBalusters 22 = .ok (.i2l, 1) := by decide +kernel
theorem dP_fewestBalusters_23 : decode bP_fewestBalusters 23 = .ok (.lload_n 2, 1) := by decide +kernel
theorem dP_fewestBalusters_24 : decode bP_fewestBalusters 24 = .ok (.lmul, 1) := by decide +kernel
theorem dP_fewestBalusters_25 : decode bP_fewestBalusters 25 = .ok (.lsub, 1) := by decide +kernel
theorem dP_fewestBalusters_26 : decode bP_fewestBalusters 26 = .ok (.lstore 9, 2) := by decide +kernel
theorem dP_fewestBalusters_28 : decode bP_fewestBalusters 28 = .ok (.lload 9, 2) := by decide +kernel
theorem dP_fewestBalusters_30 : decode bP_fewestBalusters 30 = .ok (.lconst 0, 1) := by decide +kernel
theorem dP_fewestBalusters_31 : decode bP_fewestBalusters 31 = .ok (.lcmp, 1) := by decide +kernel
theorem dP_fewestBalusters_32 : decode bP_fewestBalusters 32 = .ok (.ifCond .ge 5, 3) := by decide +kernel
theorem dP_fewestBalusters_35 : decode bP_fewestBalusters 35 = .ok (.iconst (-1), 1) := by decide +kernel
theorem dP_fewestBalusters_36 : decode bP_fewestBalusters 36 = .ok (.ireturn, 1) := by decide +kernel
theorem dP_fewestBalusters_37 : decode bP_fewestBalusters 37 = .ok (.lload 9, 2) := by decide +kernel
theorem dP_fewestBalusters_39 : decode bP_fewestBalusters 39 = .ok (.lload 6, 2) := by decide +kernel
theorem dP_fewestBalusters_41 : decode bP_fewestBalusters 41 = .ok (.iload 8, 2) := by decide +kernel
theorem dP_fewestBalusters_43 : decode bP_fewestBalusters 43 = .ok (.iconst 1, 1) := by decide +kernel
theorem dP_fewestBalusters_44 : decode bP_fewestBalusters 44 = .ok (.iadd, 1) := by decide +kernel
theorem dP_fewestBalusters_45 : decode bP_fewestBalusters 45 = .ok (.i2l, 1) := by decide +kernel
theorem dP_fewestBalusters_46 : decode bP_fewestBalusters 46 = .ok (.lmul, 1) := by decide +kernel
theorem dP_fewestBalusters_47 : decode bP_fewestBalusters 47 = .ok (.lcmp, 1) := by decide +kernel
theorem dP_fewestBalusters_48 : decode bP_fewestBalusters 48 = .ok (.ifCond .gt 6, 3) := by decide +kernel
theorem dP_fewestBalusters_51 : decode bP_fewestBalusters 51 = .ok (.iload 8, 2) := by decide +kernel
theorem dP_fewestBalusters_53 : decode bP_fewestBalusters 53 = .ok (.ireturn, 1) := by decide +kernel
theorem dP_fewestBalusters_54 : decode bP_fewestBalusters 54 = .ok (.iinc 8 1, 3) := by decide +kernel
theorem dP_fewestBalusters_57 : decode bP_fewestBalusters 57 = .ok (.goto (-46), 3) := by decide +kernel
theorem dP_fewestBalusters_60 : decode bP_fewestBalusters 60 = .ok (.iconst (-1), 1) := by decide +kernel
theorem dP_fewestBalusters_61 : decode bP_fewestBalusters 61 = .ok (.ireturn, 1) := by decide +kernel
end
section
theorem dM_init_0 : decode bM_init 0 = .ok (.aload_n 0, 1) := by decide +kernel
theorem dM_init_1 : decode bM_init 1 = .ok (.invokespecial 1, 3) := by decide +kernel
theorem dM_init_4 : decode bM_init 4 = .ok (.aload_n 0, 1) := by decide +kernel
theorem dM_init_5 : decode bM_init 5 = .ok (.ldc2_w 7, 3) := by decide +kernel
theorem dM_init_8 : decode bM_init 8 = .ok (.putfield 9, 3) := by decide +kernel
theorem dM_init_11 : decode bM_init 11 = .ok (.aload_n 0, 1) := by decide +kernel
theorem dM_init_12 : decode bM_init 12 = .ok (.bipush 120, 2) := by decide +kernel
theorem dM_init_14 : decode bM_init 14 = .ok (.newarray .int, 2) := by decide +kernel
theorem dM_init_16 : decode bM_init 16 = .ok (.putfield 15, 3) := by decide +kernel
theorem dM_init_19 : decode bM_init 19 = .ok (.aload_n 0, 1) := by decide +kernel
theorem dM_init_20 : decode bM_init 20 = .ok (.bipush 56, 2) := by decide +kernel
theorem dM_init_22 : decode bM_init 22 = .ok (.newarray .int, 2) := by decide +kernel
theorem dM_init_24 : decode bM_init 24 = .ok (.putfield 19, 3) := by decide +kernel
theorem dM_init_27 : decode bM_init 27 = .ok (.aload_n 0, 1) := by decide +kernel
theorem dM_init_28 : decode bM_init 28 = .ok (.bipush 56, 2) := by decide +kernel
theorem dM_init_30 : decode bM_init 30 = .ok (.newarray .int, 2) := by decide +kernel
theorem dM_init_32 : decode bM_init 32 = .ok (.putfield 22, 3) := by decide +kernel
theorem dM_init_35 : decode bM_init 35 = .ok (.aload_n 0, 1) := by decide +kernel
theorem dM_init_36 : decode bM_init 36 = .ok (.bipush 40, 2) := by decide +kernel
theorem dM_init_38 : decode bM_init 38 = .ok (.newarray .long, 2) := by decide +kernel
theorem dM_init_40 : decode bM_init 40 = .ok (.putfield 25, 3) := by decide +kernel
theorem dM_init_43 : decode bM_init 43 = .ok (.return_, 1) := by decide +kernel
theorem dM_thrown_0 : decode bM_thrown 0 = .ok (.aload_n 0, 1) := by decide +kernel
theorem dM_thrown_1 : decode bM_thrown 1 = .ok (.getfield 29, 3) := by decide +kernel
theorem dM_thrown_4 : decode bM_thrown 4 = .ok (.ireturn, 1) := by decide +kernel
theorem dM_isIn_0 : decode bM_isIn 0 = .ok (.lload_n 0, 1) := by decide +kernel
theorem dM_isIn_1 : decode bM_isIn 1 = .ok (.lload_n 2, 1) := by decide +kernel
theorem dM_isIn_2 : decode bM_isIn 2 = .ok (.lcmp, 1) := by decide +kernel
theorem dM_isIn_3 : decode bM_isIn 3 = .ok (.ifCond .lt 14, 3) := by decide +kernel
theorem dM_isIn_6 : decode bM_isIn 6 = .ok (.lload_n 0, 1) := by decide +kernel
theorem dM_isIn_7 : decode bM_isIn 7 = .ok (.lload 4, 2) := by decide +kernel
theorem dM_isIn_9 : decode bM_isIn 9 = .ok (.lcmp, 1) := by decide +kernel
theorem dM_isIn_10 : decode bM_isIn 10 = .ok (.ifCond .gt 7, 3) := by decide +kernel
theorem dM_isIn_13 : decode bM_isIn 13 = .ok (.iconst 1, 1) := by decide +kernel
theorem dM_isIn_14 : decode bM_isIn 14 = .ok (.goto 4, 3) := by decide +kernel
theorem dM_isIn_17 : decode bM_isIn 17 = .ok (.iconst 0, 1) := by decide +kernel
theorem dM_isIn_18 : decode bM_isIn 18 = .ok (.ireturn, 1) := by decide +kernel
theorem dM_heights_0 : decode bM_heights 0 = .ok (.aload_n 0, 1) := by decide +kernel
theorem dM_heights_1 : decode bM_heights 1 = .ok (.lload_n 1, 1) := by decide +kernel
theorem dM_heights_2 : decode bM_heights 2 = .ok (.lconst 1, 1) := by decide +kernel
theorem dM_heights_3 : decode bM_heights 3 = .ok (.ldc2_w 33, 3) := by decide +kernel
theorem dM_heights_6 : decode bM_heights 6 = .ok (.invokestatic 35, 3) := by decide +kernel
theorem dM_heights_9 : decode bM_heights 9 = .ok (.ifCond .eq 7, 3) := by decide +kernel
theorem dM_heights_12 : decode bM_heights 12 = .ok (.iconst 0, 1) := by decide +kernel
theorem dM_heights_13 : decode bM_heights 13 = .ok (.goto 4, 3) := by decide +kernel
theorem dM_heights_16 : decode bM_heights 16 = .ok (.iconst 1, 1) := by decide +kernel
theorem dM_heights_17 : decode bM_heights 17 = .ok (.putfield 29, 3) := by decide +kernel
theorem dM_heights_20 : decode bM_heights 20 = .ok (.aload_n 0, 1) := by decide +kernel
theorem dM_heights_21 : decode bM_heights 21 = .ok (.getfield 29, 3) := by decide +kernel
theorem dM_heights_24 : decode bM_heights 24 = .ok (.ifCond .gt 12, 3) := by decide +kernel
theorem dM_heights_27 : decode bM_heights 27 = .ok (.lload_n 1, 1) := by decide +kernel
theorem dM_heights_28 : decode bM_heights 28 = .ok (.aload_n 0, 1) := by decide +kernel
theorem dM_heights_29 : decode bM_heights 29 = .ok (.getfield 9, 3) := by decide +kernel
theorem dM_heights_32 : decode bM_heights 32 = .ok (.lcmp, 1) := by decide +kernel
theorem dM_heights_33 : decode bM_heights 33 = .ok (.ifCond .ne 5, 3) := by decide +kernel
theorem dM_heights_36 : decode bM_heights 36 = .ok (.iconst 0, 1) := by decide +kernel
theorem dM_heights_37 : decode bM_heights 37 = .ok (.ireturn, 1) := by decide +kernel
theorem dM_heights_38 : decode bM_heights 38 = .ok (.aload_n 0, 1) := by decide +kernel
theorem dM_heights_39 : decode bM_heights 39 = .ok (.lload_n 1, 1) := by decide +kernel
theorem dM_heights_40 : decode bM_heights 40 = .ok (.putfield 9, 3) := by decide +kernel
theorem dM_heights_43 : decode bM_heights 43 = .ok (.aload_n 0, 1) := by decide +kernel
theorem dM_heights_44 : decode bM_heights 44 = .ok (.iconst 0, 1) := by decide +kernel
theorem dM_heights_45 : decode bM_heights 45 = .ok (.putfield 39, 3) := by decide +kernel
theorem dM_heights_48 : decode bM_heights 48 = .ok (.iconst 1, 1) := by decide +kernel
theorem dM_heights_49 : decode bM_heights 49 = .ok (.ireturn, 1) := by decide +kernel
theorem dM_unit_0 : decode bM_unit 0 = .ok (.aload_n 0, 1) := by decide +kernel
theorem dM_unit_1 : decode bM_unit 1 = .ok (.iconst 0, 1) := by decide +kernel
theorem dM_unit_2 : decode bM_unit 2 = .ok (.putfield 29, 3) := by decide +kernel
theorem dM_unit_5 : decode bM_unit 5 = .ok (.aload_n 0, 1) := by decide +kernel
theorem dM_unit_6 : decode bM_unit 6 = .ok (.getfield 43, 3) := by decide +kernel
theorem dM_unit_9 : decode bM_unit 9 = .ok (.bipush 120, 2) := by decide +kernel
theorem dM_unit_11 : decode bM_unit 11 = .ok (.if_icmp .ge 19, 3) := by decide +kernel
theorem dM_unit_14 : decode bM_unit 14 = .ok (.iload_n 1, 1) := by decide +kernel
theorem dM_unit_15 : decode bM_unit 15 = .ok (.bipush 33, 2) := by decide +kernel
theorem dM_unit_17 : decode bM_unit 17 = .ok (.if_icmp .lt 13, 3) := by decide +kernel
theorem dM_unit_20 : decode bM_unit 20 = .ok (.iload_n 1, 1) := by decide +kernel
theorem dM_unit_21 : decode bM_unit 21 = .ok (.bipush 126, 2) := by decide +kernel
theorem dM_unit_23 : decode bM_unit 23 = .ok (.if_icmp .gt 7, 3) := by decide +kernel
theorem dM_unit_26 : decode bM_unit 26 = .ok (.iconst 1, 1) := by decide +kernel
theorem dM_unit_27 : decode bM_unit 27 = .ok (.goto 4, 3) := by decide +kernel
theorem dM_unit_30 : decode bM_unit 30 = .ok (.iconst 0, 1) := by decide +kernel
theorem dM_unit_31 : decode bM_unit 31 = .ok (.istore_n 2, 1) := by decide +kernel
theorem dM_unit_32 : decode bM_unit 32 = .ok (.iload_n 2, 1) := by decide +kernel
theorem dM_unit_33 : decode bM_unit 33 = .ok (.ifCond .eq 23, 3) := by decide +kernel
theorem dM_unit_36 : decode bM_unit 36 = .ok (.aload_n 0, 1) := by decide +kernel
theorem dM_unit_37 : decode bM_unit 37 = .ok (.getfield 15, 3) := by decide +kernel
theorem dM_unit_40 : decode bM_unit 40 = .ok (.aload_n 0, 1) := by decide +kernel
theorem dM_unit_41 : decode bM_unit 41 = .ok (.getfield 43, 3) := by decide +kernel
theorem dM_unit_44 : decode bM_unit 44 = .ok (.iload_n 1, 1) := by decide +kernel
theorem dM_unit_45 : decode bM_unit 45 = .ok (.iastore, 1) := by decide +kernel
theorem dM_unit_46 : decode bM_unit 46 = .ok (.aload_n 0, 1) := by decide +kernel
theorem dM_unit_47 : decode bM_unit 47 = .ok (.dup, 1) := by decide +kernel
theorem dM_unit_48 : decode bM_unit 48 = .ok (.getfield 43, 3) := by decide +kernel
theorem dM_unit_51 : decode bM_unit 51 = .ok (.iconst 1, 1) := by decide +kernel
theorem dM_unit_52 : decode bM_unit 52 = .ok (.iadd, 1) := by decide +kernel
theorem dM_unit_53 : decode bM_unit 53 = .ok (.putfield 43, 3) := by decide +kernel
theorem dM_unit_56 : decode bM_unit 56 = .ok (.iload_n 2, 1) := by decide +kernel
theorem dM_unit_57 : decode bM_unit 57 = .ok (.ireturn, 1) := by decide +kernel
theorem dM_here_0 : decode bM_here 0 = .ok (.aload_n 0, 1) := by decide +kernel
theorem dM_here_1 : decode bM_here 1 = .ok (.getfield 46, 3) := by decide +kernel
theorem dM_here_4 : decode bM_here 4 = .ok (.aload_n 0, 1) := by decide +kernel
theorem dM_here_5 : decode bM_here 5 = .ok (.getfield 43, 3) := by decide +kernel
theorem dM_here_8 : decode bM_here 8 = .ok (.if_icmp .ge 15, 3) := by decide +kernel
theorem dM_here_11 : decode bM_here 11 = .ok (.aload_n 0, 1) := by decide +kernel
theorem dM_here_12 : decode bM_here 12 = .ok (.getfield 15, 3) := by decide +kernel
theorem dM_here_15 : decode bM_here 15 = .ok (.aload_n 0, 1) := by decide +kernel
theorem dM_here_16 : decode bM_here 16 = .ok (.getfield 46, 3) := by decide +kernel
theorem dM_here_19 : decode bM_here 19 = .ok (.iaload, 1) := by decide +kernel
theorem dM_here_20 : decode bM_here 20 = .ok (.goto 4, 3) := by decide +kernel
theorem dM_here_23 : decode bM_here 23 = .ok (.iconst (-1), 1) := by decide +kernel
theorem dM_here_24 : decode bM_here 24 = .ok (.ireturn, 1) := by decide +kernel
theorem dM_fail_0 : decode bM_fail 0 = .ok (.aload_n 0, 1) := by decide +kernel
theorem dM_fail_1 : decode bM_fail 1 = .ok (.aload_n 0, 1) := by decide +kernel
theorem dM_fail_2 : decode bM_fail 2 = .ok (.getfield 49, 3) := by decide +kernel
theorem dM_fail_5 : decode bM_fail 5 = .ok (.ifCond .ge 10, 3) := by decide +kernel
theorem dM_fail_8 : decode bM_fail 8 = .ok (.aload_n 0, 1) := by decide +kernel
theorem dM_fail_9 : decode bM_fail 9 = .ok (.getfield 46, 3) := by decide +kernel
theorem dM_fail_12 : decode bM_fail 12 = .ok (.goto 7, 3) := by decide +kernel
theorem dM_fail_15 : decode bM_fail 15 = .ok (.aload_n 0, 1) := by decide +kernel
theorem dM_fail_16 : decode bM_fail 16 = .ok (.getfield 49, 3) := by decide +kernel
theorem dM_fail_19 : decode bM_fail 19 = .ok (.putfield 49, 3) := by decide +kernel
theorem dM_fail_22 : decode bM_fail 22 = .ok (.return_, 1) := by decide +kernel
theorem dM_isDigit_0 : decode bM_isDigit 0 = .ok (.aload_n 0, 1) := by decide +kernel
theorem dM_isDigit_1 : decode bM_isDigit 1 = .ok (.invokevirtual 52, 3) := by decide +kernel
theorem dM_isDigit_4 : decode bM_isDigit 4 = .ok (.bipush 48, 2) := by decide +kernel
theorem dM_isDigit_6 : decode bM_isDigit 6 = .ok (.if_icmp .lt 16, 3) := by decide +kernel
theorem dM_isDigit_9 : decode bM_isDigit 9 = .ok (.aload_n 0, 1) := by decide +kernel
theorem dM_isDigit_10 : decode bM_isDigit 10 = .ok (.invokevirtual 52, 3) := by decide +kernel
theorem dM_isDigit_13 : decode bM_isDigit 13 = .ok (.bipush 57, 2) := by decide +kernel
theorem dM_isDigit_15 : decode bM_isDigit 15 = .ok (.if_icmp .gt 7, 3) := by decide +kernel
theorem dM_isDigit_18 : decode bM_isDigit 18 = .ok (.iconst 1, 1) := by decide +kernel
theorem dM_isDigit_19 : decode bM_isDigit 19 = .ok (.goto 4, 3) := by decide +kernel
theorem dM_isDigit_22 : decode bM_isDigit 22 = .ok (.iconst 0, 1) := by decide +kernel
theorem dM_isDigit_23 : decode bM_isDigit 23 = .ok (.ireturn, 1) := by decide +kernel
theorem dM_readDigits_0 : decode bM_readDigits 0 = .ok (.iconst 0, 1) := by decide +kernel
theorem dM_readDigits_1 : decode bM_readDigits 1 = .ok (.istore_n 2, 1) := by decide +kernel
theorem dM_readDigits_2 : decode bM_readDigits 2 = .ok (.iconst 0, 1) := by decide +kernel
theorem dM_readDigits_3 : decode bM_readDigits 3 = .ok (.istore_n 3, 1) := by decide +kernel
theorem dM_readDigits_4 : decode bM_readDigits 4 = .ok (.iload_n 3, 1) := by decide +kernel
theorem dM_readDigits_5 : decode bM_readDigits 5 = .ok (.iload_n 1, 1) := by decide +kernel
theorem dM_readDigits_6 : decode bM_readDigits 6 = .ok (.if_icmp .ge 39, 3) := by decide +kernel
theorem dM_readDigits_9 : decode bM_readDigits 9 = .ok (.aload_n 0, 1) := by decide +kernel
theorem dM_readDigits_10 : decode bM_readDigits 10 = .ok (.invokevirtual 56, 3) := by decide +kernel
theorem dM_readDigits_13 : decode bM_readDigits 13 = .ok (.ifCond .eq 32, 3) := by decide +kernel
theorem dM_readDigits_16 : decode bM_readDigits 16 = .ok (.bipush 10, 2) := by decide +kernel
theorem dM_readDigits_18 : decode bM_readDigits 18 = .ok (.iload_n 2, 1) := by decide +kernel
theorem dM_readDigits_19 : decode bM_readDigits 19 = .ok (.imul, 1) := by decide +kernel
theorem dM_readDigits_20 : decode bM_readDigits 20 = .ok (.aload_n 0, 1) := by decide +kernel
theorem dM_readDigits_21 : decode bM_readDigits 21 = .ok (.invokevirtual 52, 3) := by decide +kernel
theorem dM_readDigits_24 : decode bM_readDigits 24 = .ok (.iadd, 1) := by decide +kernel
theorem dM_readDigits_25 : decode bM_readDigits 25 = .ok (.bipush 48, 2) := by decide +kernel
theorem dM_readDigits_27 : decode bM_readDigits 27 = .ok (.isub, 1) := by decide +kernel
theorem dM_readDigits_28 : decode bM_readDigits 28 = .ok (.istore_n 2, 1) := by decide +kernel
theorem dM_readDigits_29 : decode bM_readDigits 29 = .ok (.iinc 3 1, 3) := by decide +kernel
theorem dM_readDigits_32 : decode bM_readDigits 32 = .ok (.aload_n 0, 1) := by decide +kernel
theorem dM_readDigits_33 : decode bM_readDigits 33 = .ok (.dup, 1) := by decide +kernel
theorem dM_readDigits_34 : decode bM_readDigits 34 = .ok (.getfield 46, 3) := by decide +kernel
theorem dM_readDigits_37 : decode bM_readDigits 37 = .ok (.iconst 1, 1) := by decide +kernel
theorem dM_readDigits_38 : decode bM_readDigits 38 = .ok (.iadd, 1) := by decide +kernel
theorem dM_readDigits_39 : decode bM_readDigits 39 = .ok (.putfield 46, 3) := by decide +kernel
theorem dM_readDigits_42 : decode bM_readDigits 42 = .ok (.goto (-38), 3) := by decide +kernel
theorem dM_readDigits_45 : decode bM_readDigits 45 = .ok (.iload_n 3, 1) := by decide +kernel
theorem dM_readDigits_46 : decode bM_readDigits 46 = .ok (.ifCond .ne 7, 3) := by decide +kernel
theorem dM_readDigits_49 : decode bM_readDigits 49 = .ok (.iconst (-1), 1) := by decide +kernel
theorem dM_readDigits_50 : decode bM_readDigits 50 = .ok (.goto 4, 3) := by decide +kernel
theorem dM_readDigits_53 : decode bM_readDigits 53 = .ok (.iload_n 2, 1) := by decide +kernel
theorem dM_readDigits_54 : decode bM_readDigits 54 = .ok (.ireturn, 1) := by decide +kernel
theorem dM_letterOf_0 : decode bM_letterOf 0 = .ok (.iload_n 0, 1) := by decide +kernel
theorem dM_letterOf_1 : decode bM_letterOf 1 = .ok (.bipush 114, 2) := by decide +kernel
theorem dM_letterOf_3 : decode bM_letterOf 3 = .ok (.if_icmp .ne 7, 3) := by decide +kernel
theorem dM_letterOf_6 : decode bM_letterOf 6 = .ok (.iconst 0, 1) := by decide +kernel
theorem dM_letterOf_7 : decode bM_letterOf 7 = .ok (.goto 44, 3) := by decide +kernel
theorem dM_letterOf_10 : decode bM_letterOf 10 = .ok (.iload_n 0, 1) := by decide +kernel
theorem dM_letterOf_11 : decode bM_letterOf 11 = .ok (.bipush 103, 2) := by decide +kernel
theorem dM_letterOf_13 : decode bM_letterOf 13 = .ok (.if_icmp .ne 7, 3) := by decide +kernel
theorem dM_letterOf_16 : decode bM_letterOf 16 = .ok (.iconst 1, 1) := by decide +kernel
theorem dM_letterOf_17 : decode bM_letterOf 17 = .ok (.goto 34, 3) := by decide +kernel
theorem dM_letterOf_20 : decode bM_letterOf 20 = .ok (.iload_n 0, 1) := by decide +kernel
theorem dM_letterOf_21 : decode bM_letterOf 21 = .ok (.bipush 110, 2) := by decide +kernel
theorem dM_letterOf_23 : decode bM_letterOf 23 = .ok (.if_icmp .ne 7, 3) := by decide +kernel
theorem dM_letterOf_26 : decode bM_letterOf 26 = .ok (.iconst 2, 1) := by decide +kernel
theorem dM_letterOf_27 : decode bM_letterOf 27 = .ok (.goto 24, 3) := by decide +kernel
theorem dM_letterOf_30 : decode bM_letterOf 30 = .ok (.iload_n 0, 1) := by decide +kernel
theorem dM_letterOf_31 : decode bM_letterOf 31 = .ok (.bipush 119, 2) := by decide +kernel
theorem dM_letterOf_33 : decode bM_letterOf 33 = .ok (.if_icmp .ne 7, 3) := by decide +kernel
theorem dM_letterOf_36 : decode bM_letterOf 36 = .ok (.iconst 3, 1) := by decide +kernel
theorem dM_letterOf_37 : decode bM_letterOf 37 = .ok (.goto 14, 3) := by decide +kernel
theorem dM_letterOf_40 : decode bM_letterOf 40 = .ok (.iload_n 0, 1) := by decide +kernel
theorem dM_letterOf_41 : decode bM_letterOf 41 = .ok (.bipush 116, 2) := by decide +kernel
theorem dM_letterOf_43 : decode bM_letterOf 43 = .ok (.if_icmp .ne 7, 3) := by decide +kernel
theorem dM_letterOf_46 : decode bM_letterOf 46 = .ok (.iconst 4, 1) := by decide +kernel
theorem dM_letterOf_47 : decode bM_letterOf 47 = .ok (.goto 4, 3) := by decide +kernel
theorem dM_letterOf_50 : decode bM_letterOf 50 = .ok (.iconst (-1), 1) := by decide +kernel
theorem dM_letterOf_51 : decode bM_letterOf 51 = .ok (.ireturn, 1) := by decide +kernel
theorem dM_readTerm_0 : decode bM_readTerm 0 = .ok (.aload_n 0, 1) := by decide +kernel
theorem dM_readTerm_1 : decode bM_readTerm 1 = .ok (.iconst 2, 1) := by decide +kernel
theorem dM_readTerm_2 : decode bM_readTerm 2 = .ok (.invokevirtual 60, 3) := by decide +kernel
theorem dM_readTerm_5 : decode bM_readTerm 5 = .ok (.istore_n 2, 1) := by decide +kernel
theorem dM_readTerm_6 : decode bM_readTerm 6 = .ok (.aload_n 0, 1) := by decide +kernel
theorem dM_readTerm_7 : decode bM_readTerm 7 = .ok (.invokevirtual 52, 3) := by decide +kernel
theorem dM_readTerm_10 : decode bM_readTerm 10 = .ok (.invokestatic 64, 3) := by decide +kernel
theorem dM_readTerm_13 : decode bM_readTerm 13 = .ok (.istore_n 3, 1) := by decide +kernel
theorem dM_readTerm_14 : decode bM_readTerm 14 = .ok (.iload_n 3, 1) := by decide +kernel
theorem dM_readTerm_15 : decode bM_readTerm 15 = .ok (.ifCond .ge 8, 3) := by decide +kernel
theorem dM_readTerm_18 : decode bM_readTerm 18 = .ok (.aload_n 0, 1) := by decide +kernel
theorem dM_readTerm_19 : decode bM_readTerm 19 = .ok (.invokevirtual 67, 3) := by decide +kernel
theorem dM_readTerm_22 : decode bM_readTerm 22 = .ok (.return_, 1) := by decide +kernel
theorem dM_readTerm_23 : decode bM_readTerm 23 = .ok (.aload_n 0, 1) := by decide +kernel
theorem dM_readTerm_24 : decode bM_readTerm 24 = .ok (.getfield 22, 3) := by decide +kernel
theorem dM_readTerm_27 : decode bM_readTerm 27 = .ok (.bipush 7, 2) := by decide +kernel
theorem dM_readTerm_29 : decode bM_readTerm 29 = .ok (.iload_n 1, 1) := by decide +kernel
theorem dM_readTerm_30 : decode bM_readTerm 30 = .ok (.imul, 1) := by decide +kernel
theorem dM_readTerm_31 : decode bM_readTerm 31 = .ok (.iload_n 3, 1) := by decide +kernel
theorem dM_readTerm_32 : decode bM_readTerm 32 = .ok (.iadd, 1) := by decide +kernel
theorem dM_readTerm_33 : decode bM_readTerm 33 = .ok (.aload_n 0, 1) := by decide +kernel
theorem dM_readTerm_34 : decode bM_readTerm 34 = .ok (.getfield 22, 3) := by decide +kernel
theorem dM_readTerm_37 : decode bM_readTerm 37 = .ok (.bipush 7, 2) := by decide +kernel
theorem dM_readTerm_39 : decode bM_readTerm 39 = .ok (.iload_n 1, 1) := by decide +kernel
theorem dM_readTerm_40 : decode bM_readTerm 40 = .ok (.imul, 1) := by decide +kernel
theorem dM_readTerm_41 : decode bM_readTerm 41 = .ok (.iload_n 3, 1) := by decide +kernel
theorem dM_readTerm_42 : decode bM_readTerm 42 = .ok (.iadd, 1) := by decide +kernel
theorem dM_readTerm_43 : decode bM_readTerm 43 = .ok (.iaload, 1) := by decide +kernel
theorem dM_readTerm_44 : decode bM_readTerm 44 = .ok (.iload_n 2, 1) := by decide +kernel
theorem dM_readTerm_45 : decode bM_readTerm 45 = .ok (.ifCond .ge 7, 3) := by decide +kernel
theorem dM_readTerm_48 : decode bM_readTerm 48 = .ok (.iconst 1, 1) := by decide +kernel
theorem dM_readTerm_49 : decode bM_readTerm 49 = .ok (.goto 4, 3) := by decide +kernel
theorem dM_readTerm_52 : decode bM_readTerm 52 = .ok (.iload_n 2, 1) := by decide +kernel
theorem dM_readTerm_53 : decode bM_readTerm 53 = .ok (.iadd, 1) := by decide +kernel
theorem dM_readTerm_54 : decode bM_readTerm 54 = .ok (.iastore, 1) := by decide +kernel
theorem dM_readTerm_55 : decode bM_readTerm 55 = .ok (.aload_n 0, 1) := by decide +kernel
theorem dM_readTerm_56 : decode bM_readTerm 56 = .ok (.dup, 1) := by decide +kernel
theorem dM_readTerm_57 : decode bM_readTerm 57 = .ok (.getfield 46, 3) := by decide +kernel
theorem dM_readTerm_60 : decode bM_readTerm 60 = .ok (.iconst 1, 1) := by decide +kernel
theorem dM_readTerm_61 : decode bM_readTerm 61 = .ok (.iadd, 1) := by decide +kernel
theorem dM_readTerm_62 : decode bM_readTerm 62 = .ok (.putfield 46, 3) := by decide +kernel
theorem dM_readTerm_65 : decode bM_readTerm 65 = .ok (.return_, 1) := by decide +kernel
theorem dM_readRule_0 : decode bM_readRule 0 = .ok (.iconst 0, 1) := by decide +kernel
theorem dM_readRule_1 : decode bM_readRule 1 = .ok (.istore_n 2, 1) := by decide +kernel
theorem dM_readRule_2 : decode bM_readRule 2 = .ok (.iload_n 2, 1) := by decide +kernel
theorem dM_readRule_3 : decode bM_readRule 3 = .ok (.bipush 7, 2) := by decide +kernel
theorem dM_readRule_5 : decode bM_readRule 5 = .ok (.if_icmp .ge 21, 3) := by decide +kernel
theorem dM_readRule_8 : decode bM_readRule 8 = .ok (.aload_n 0, 1) := by decide +kernel
theorem dM_readRule_9 : decode bM_readRule 9 = .ok (.getfield 22, 3) := by decide +kernel
theorem dM_readRule_12 : decode bM_readRule 12 = .ok (.bipush 7, 2) := by decide +kernel
theorem dM_readRule_14 : decode bM_readRule 14 = .ok (.iload_n 1, 1) := by decide +kernel
theorem dM_readRule_15 : decode bM_readRule 15 = .ok (.imul, 1) := by decide +kernel
theorem dM_readRule_16 : decode bM_readRule 16 = .ok (.iload_n 2, 1) := by decide +kernel
theorem dM_readRule_17 : decode bM_readRule 17 = .ok (.iadd, 1) := by decide +kernel
theorem dM_readRule_18 : decode bM_readRule 18 = .ok (.iconst 0, 1) := by decide +kernel
theorem dM_readRule_19 : decode bM_readRule 19 = .ok (.iastore, 1) := by decide +kernel
theorem dM_readRule_20 : decode bM_readRule 20 = .ok (.iinc 2 1, 3) := by decide +kernel
theorem dM_readRule_23 : decode bM_readRule 23 = .ok (.goto (-21), 3) := by decide +kernel
theorem dM_readRule_26 : decode bM_readRule 26 = .ok (.aload_n 0, 1) := by decide +kernel
theorem dM_readRule_27 : decode bM_readRule 27 = .ok (.iload_n 1, 1) := by decide +kernel
theorem dM_readRule_28 : decode bM_readRule 28 = .ok (.invokevirtual 70, 3) := by decide +kernel
theorem dM_readRule_31 : decode bM_readRule 31 = .ok (.iconst 1, 1) := by decide +kernel
theorem dM_readRule_32 : decode bM_readRule 32 = .ok (.istore_n 2, 1) := by decide +kernel
theorem dM_readRule_33 : decode bM_readRule 33 = .ok (.aload_n 0, 1) := by decide +kernel
theorem dM_readRule_34 : decode bM_readRule 34 = .ok (.getfield 49, 3) := by decide +kernel
theorem dM_readRule_37 : decode bM_readRule 37 = .ok (.ifCond .ge 38, 3) := by decide +kernel
theorem dM_readRule_40 : decode bM_readRule 40 = .ok (.aload_n 0, 1) := by decide +kernel
theorem dM_readRule_41 : decode bM_readRule 41 = .ok (.invokevirtual 52, 3) := by decide +kernel
theorem dM_readRule_44 : decode bM_readRule 44 = .ok (.bipush 43, 2) := by decide +kernel
theorem dM_readRule_46 : decode bM_readRule 46 = .ok (.if_icmp .ne 29, 3) := by decide +kernel
theorem dM_readRule_49 : decode bM_readRule 49 = .ok (.iload_n 2, 1) := by decide +kernel
theorem dM_readRule_50 : decode bM_readRule 50 = .ok (.iconst 4, 1) := by decide +kernel
theorem dM_readRule_51 : decode bM_readRule 51 = .ok (.if_icmp .ge 24, 3) := by decide +kernel
theorem dM_readRule_54 : decode bM_readRule 54 = .ok (.aload_n 0, 1) := by decide +kernel
theorem dM_readRule_55 : decode bM_readRule 55 = .ok (.dup, 1) := by decide +kernel
theorem dM_readRule_56 : decode bM_readRule 56 = .ok (.getfield 46, 3) := by decide +kernel
theorem dM_readRule_59 : decode bM_readRule 59 = .ok (.iconst 1, 1) := by decide +kernel
theorem dM_readRule_60 : decode bM_readRule 60 = .ok (.iadd, 1) := by decide +kernel
theorem dM_readRule_61 : decode bM_readRule 61 = .ok (.putfield 46, 3) := by decide +kernel
theorem dM_readRule_64 : decode bM_readRule 64 = .ok (.aload_n 0, 1) := by decide +kernel
theorem dM_readRule_65 : decode bM_readRule 65 = .ok (.iload_n 1, 1) := by decide +kernel
theorem dM_readRule_66 : decode bM_readRule 66 = .ok (.invokevirtual 70, 3) := by decide +kernel
theorem dM_readRule_69 : decode bM_readRule 69 = .ok (.iinc 2 1, 3) := by decide +kernel
theorem dM_readRule_72 : decode bM_readRule 72 = .ok (.goto (-39), 3) := by decide +kernel
theorem dM_readRule_75 : decode bM_readRule 75 = .ok (.aload_n 0, 1) := by decide +kernel
theorem dM_readRule_76 : decode bM_readRule 76 = .ok (.invokevirtual 52, 3) := by decide +kernel
theorem dM_readRule_79 : decode bM_readRule 79 = .ok (.istore_n 3, 1) := by decide +kernel
theorem dM_readRule_80 : decode bM_readRule 80 = .ok (.iload_n 3, 1) := by decide +kernel
theorem dM_readRule_81 : decode bM_readRule 81 = .ok (.bipush 60, 2) := by decide +kernel
theorem dM_readRule_83 : decode bM_readRule 83 = .ok (.if_icmp .eq 19, 3) := by decide +kernel
theorem dM_readRule_86 : decode bM_readRule 86 = .ok (.iload_n 3, 1) := by decide +kernel
theorem dM_readRule_87 : decode bM_readRule 87 = .ok (.bipush 62, 2) := by decide +kernel
theorem dM_readRule_89 : decode bM_readRule 89 = .ok (.if_icmp .eq 13, 3) := by decide +kernel
theorem dM_readRule_92 : decode bM_readRule 92 = .ok (.iload_n 3, 1) := by decide +kernel
theorem dM_readRule_93 : decode bM_readRule 93 = .ok (.bipush 61, 2) := by decide +kernel
theorem dM_readRule_95 : decode bM_readRule 95 = .ok (.if_icmp .eq 7, 3) := by decide +kernel
theorem dM_readRule_98 : decode bM_readRule 98 = .ok (.aload_n 0, 1) := by decide +kernel
theorem dM_readRule_99 : decode bM_readRule 99 = .ok (.invokevirtual 67, 3) := by decide +kernel
theorem dM_readRule_102 : decode bM_readRule 102 = .ok (.aload_n 0, 1) := by decide +kernel
theorem dM_readRule_103 : decode bM_readRule 103 = .ok (.dup, 1) := by decide +kernel
theorem dM_readRule_104 : decode bM_readRule 104 = .ok (.getfield 46, 3) := by decide +kernel
theorem dM_readRule_107 : decode bM_readRule 107 = .ok (.iconst 1, 1) := by decide +kernel
theorem dM_readRule_108 : decode bM_readRule 108 = .ok (.iadd, 1) := by decide +kernel
theorem dM_readRule_109 : decode bM_readRule 109 = .ok (.putfield 46, 3) := by decide +kernel
theorem dM_readRule_112 : decode bM_readRule 112 = .ok (.aload_n 0, 1) := by decide +kernel
theorem dM_readRule_113 : decode bM_readRule 113 = .ok (.getfield 49, 3) := by decide +kernel
theorem dM_readRule_116 : decode bM_readRule 116 = .ok (.ifCond .ge 52, 3) := by decide +kernel
theorem dM_readRule_119 : decode bM_readRule 119 = .ok (.aload_n 0, 1) := by decide +kernel
theorem dM_readRule_120 : decode bM_readRule 120 = .ok (.getfield 22, 3) := by decide +kernel
theorem dM_readRule_123 : decode bM_readRule 123 = .ok (.bipush 7, 2) := by decide +kernel
theorem dM_readRule_125 : decode bM_readRule 125 = .ok (.iload_n 1, 1) := by decide +kernel
theorem dM_readRule_126 : decode bM_readRule 126 = .ok (.imul, 1) := by decide +kernel
theorem dM_readRule_127 : decode bM_readRule 127 = .ok (.iconst 5, 1) := by decide +kernel
theorem dM_readRule_128 : decode bM_readRule 128 = .ok (.iadd, 1) := by decide +kernel
theorem dM_readRule_129 : decode bM_readRule 129 = .ok (.iload_n 3, 1) := by decide +kernel
theorem dM_readRule_130 : decode bM_readRule 130 = .ok (.iastore, 1) := by decide +kernel
theorem dM_readRule_131 : decode bM_readRule 131 = .ok (.aload_n 0, 1) := by decide +kernel
theorem dM_readRule_132 : decode bM_readRule 132 = .ok (.getfield 22, 3) := by decide +kernel
theorem dM_readRule_135 : decode bM_readRule 135 = .ok (.bipush 7, 2) := by decide +kernel
theorem dM_readRule_137 : decode bM_readRule 137 = .ok (.iload_n 1, 1) := by decide +kernel
theorem dM_readRule_138 : decode bM_readRule 138 = .ok (.imul, 1) := by decide +kernel
theorem dM_readRule_139 : decode bM_readRule 139 = .ok (.bipush 6, 2) := by decide +kernel
theorem dM_readRule_141 : decode bM_readRule 141 = .ok (.iadd, 1) := by decide +kernel
theorem dM_readRule_142 : decode bM_readRule 142 = .ok (.aload_n 0, 1) := by decide +kernel
theorem dM_readRule_143 : decode bM_readRule 143 = .ok (.bipush 6, 2) := by decide +kernel
theorem dM_readRule_145 : decode bM_readRule 145 = .ok (.invokevirtual 60, 3) := by decide +kernel
theorem dM_readRule_148 : decode bM_readRule 148 = .ok (.iastore, 1) := by decide +kernel
theorem dM_readRule_149 : decode bM_readRule 149 = .ok (.aload_n 0, 1) := by decide +kernel
theorem dM_readRule_150 : decode bM_readRule 150 = .ok (.getfield 22, 3) := by decide +kernel
theorem dM_readRule_153 : decode bM_readRule 153 = .ok (.bipush 7, 2) := by decide +kernel
theorem dM_readRule_155 : decode bM_readRule 155 = .ok (.iload_n 1, 1) := by decide +kernel
theorem dM_readRule_156 : decode bM_readRule 156 = .ok (.imul, 1) := by decide +kernel
theorem dM_readRule_157 : decode bM_readRule 157 = .ok (.bipush 6, 2) := by decide +kernel
theorem dM_readRule_159 : decode bM_readRule 159 = .ok (.iadd, 1) := by decide +kernel
theorem dM_readRule_160 : decode bM_readRule 160 = .ok (.iaload, 1) := by decide +kernel
theorem dM_readRule_161 : decode bM_readRule 161 = .ok (.ifCond .ge 7, 3) := by decide +kernel
theorem dM_readRule_164 : decode bM_readRule 164 = .ok (.aload_n 0, 1) := by decide +kernel
theorem dM_readRule_165 : decode bM_readRule 165 = .ok (.invokevirtual 67, 3) := by decide +kernel
theorem dM_readRule_168 : decode bM_readRule 168 = .ok (.return_, 1) := by decide +kernel
theorem dM_rules_0 : decode bM_rules 0 = .ok (.aload_n 0, 1) := by decide +kernel
theorem dM_rules_1 : decode bM_rules 1 = .ok (.iconst 0, 1) := by decide +kernel
theorem dM_rules_2 : decode bM_rules 2 = .ok (.putfield 29, 3) := by decide +kernel
theorem dM_rules_5 : decode bM_rules 5 = .ok (.aload_n 0, 1) := by decide +kernel
theorem dM_rules_6 : decode bM_rules 6 = .ok (.iconst 0, 1) := by decide +kernel
theorem dM_rules_7 : decode bM_rules 7 = .ok (.putfield 46, 3) := by decide +kernel
theorem dM_rules_10 : decode bM_rules 10 = .ok (.aload_n 0, 1) := by decide +kernel
theorem dM_rules_11 : decode bM_rules 11 = .ok (.iconst (-1), 1) := by decide +kernel
theorem dM_rules_12 : decode bM_rules 12 = .ok (.putfield 49, 3) := by decide +kernel
theorem dM_rules_15 : decode bM_rules 15 = .ok (.aload_n 0, 1) := by decide +kernel
theorem dM_rules_16 : decode bM_rules 16 = .ok (.iconst 0, 1) := by decide +kernel
theorem dM_rules_17 : decode bM_rules 17 = .ok (.invokevirtual 74, 3) := by decide +kernel
theorem dM_rules_20 : decode bM_rules 20 = .ok (.iconst 1, 1) := by decide +kernel
theorem dM_rules_21 : decode bM_rules 21 = .ok (.istore_n 1, 1) := by decide +kernel
theorem dM_rules_22 : decode bM_rules 22 = .ok (.aload_n 0, 1) := by decide +kernel
theorem dM_rules_23 : decode bM_rules 23 = .ok (.getfield 49, 3) := by decide +kernel
theorem dM_rules_26 : decode bM_rules 26 = .ok (.ifCond .ge 61, 3) := by decide +kernel
theorem dM_rules_29 : decode bM_rules 29 = .ok (.aload_n 0, 1) := by decide +kernel
theorem dM_rules_30 : decode bM_rules 30 = .ok (.getfield 46, 3) := by decide +kernel
theorem dM_rules_33 : decode bM_rules 33 = .ok (.aload_n 0, 1) := by decide +kernel
theorem dM_rules_34 : decode bM_rules 34 = .ok (.getfield 43, 3) := by decide +kernel
theorem dM_rules_37 : decode bM_rules 37 = .ok (.if_icmp .ge 50, 3) := by decide +kernel
theorem dM_rules_40 : decode bM_rules 40 = .ok (.aload_n 0, 1) := by decide +kernel
theorem dM_rules_41 : decode bM_rules 41 = .ok (.invokevirtual 52, 3) := by decide +kernel
theorem dM_rules_44 : decode bM_rules 44 = .ok (.bipush 59, 2) := by decide +kernel
theorem dM_rules_46 : decode bM_rules 46 = .ok (.if_icmp .ne 9, 3) := by decide +kernel
theorem dM_rules_49 : decode bM_rules 49 = .ok (.iload_n 1, 1) := by decide +kernel
theorem dM_rules_50 : decode bM_rules 50 = .ok (.bipush 8, 2) := by decide +kernel
theorem dM_rules_52 : decode bM_rules 52 = .ok (.if_icmp .ne 7, 3) := by decide +kernel
theorem dM_rules_55 : decode bM_rules 55 = .ok (.aload_n 0, 1) := by decide +kernel
theorem dM_rules_56 : decode bM_rules 56 = .ok (.invokevirtual 67, 3) := by decide +kernel
theorem dM_rules_59 : decode bM_rules 59 = .ok (.aload_n 0, 1) := by decide +kernel
theorem dM_rules_60 : decode bM_rules 60 = .ok (.dup, 1) := by decide +kernel
theorem dM_rules_61 : decode bM_rules 61 = .ok (.getfield 46, 3) := by decide +kernel
theorem dM_rules_64 : decode bM_rules 64 = .ok (.iconst 1, 1) := by decide +kernel
theorem dM_rules_65 : decode bM_rules 65 = .ok (.iadd, 1) := by decide +kernel
theorem dM_rules_66 : decode bM_rules 66 = .ok (.putfield 46, 3) := by decide +kernel
theorem dM_rules_69 : decode bM_rules 69 = .ok (.aload_n 0, 1) := by decide +kernel
theorem dM_rules_70 : decode bM_rules 70 = .ok (.getfield 49, 3) := by decide +kernel
theorem dM_rules_73 : decode bM_rules 73 = .ok (.ifCond .ge (-51), 3) := by decide +kernel
theorem dM_rules_76 : decode bM_rules 76 = .ok (.aload_n 0, 1) := by decide +kernel
theorem dM_rules_77 : decode bM_rules 77 = .ok (.iload_n 1, 1) := by decide +kernel
theorem dM_rules_78 : decode bM_rules 78 = .ok (.invokevirtual 74, 3) := by decide +kernel
theorem dM_rules_81 : decode bM_rules 81 = .ok (.iinc 1 1, 3) := by decide +kernel
theorem dM_rules_84 : decode bM_rules 84 = .ok (.goto (-62), 3) := by decide +kernel
theorem dM_rules_87 : decode bM_rules 87 = .ok (.aload_n 0, 1) := by decide +kernel
theorem dM_rules_88 : decode bM_rules 88 = .ok (.iconst 0, 1) := by decide +kernel
theorem dM_rules_89 : decode bM_rules 89 = .ok (.putfield 43, 3) := by decide +kernel
theorem dM_rules_92 : decode bM_rules 92 = .ok (.aload_n 0, 1) := by decide +kernel
theorem dM_rules_93 : decode bM_rules 93 = .ok (.getfield 49, 3) := by decide +kernel
theorem dM_rules_96 : decode bM_rules 96 = .ok (.ifCond .lt 10, 3) := by decide +kernel
theorem dM_rules_99 : decode bM_rules 99 = .ok (.iconst (-1), 1) := by decide +kernel
theorem dM_rules_100 : decode bM_rules 100 = .ok (.aload_n 0, 1) := by decide +kernel
theorem dM_rules_101 : decode bM_rules 101 = .ok (.getfield 49, 3) := by decide +kernel
theorem dM_rules_104 : decode bM_rules 104 = .ok (.isub, 1) := by decide +kernel
theorem dM_rules_105 : decode bM_rules 105 = .ok (.ireturn, 1) := by decide +kernel
theorem dM_rules_106 : decode bM_rules 106 = .ok (.aload_n 0, 1) := by decide +kernel
theorem dM_rules_107 : decode bM_rules 107 = .ok (.iload_n 1, 1) := by decide +kernel
theorem dM_rules_108 : decode bM_rules 108 = .ok (.putfield 77, 3) := by decide +kernel
theorem dM_rules_111 : decode bM_rules 111 = .ok (.iconst 0, 1) := by decide +kernel
theorem dM_rules_112 : decode bM_rules 112 = .ok (.istore_n 2, 1) := by decide +kernel
theorem dM_rules_113 : decode bM_rules 113 = .ok (.iload_n 2, 1) := by decide +kernel
theorem dM_rules_114 : decode bM_rules 114 = .ok (.bipush 7, 2) := by decide +kernel
theorem dM_rules_116 : decode bM_rules 116 = .ok (.iload_n 1, 1) := by decide +kernel
theorem dM_rules_117 : decode bM_rules 117 = .ok (.imul, 1) := by decide +kernel
theorem dM_rules_118 : decode bM_rules 118 = .ok (.if_icmp .ge 21, 3) := by decide +kernel
theorem dM_rules_121 : decode bM_rules 121 = .ok (.aload_n 0, 1) := by decide +kernel
theorem dM_rules_122 : decode bM_rules 122 = .ok (.getfield 19, 3) := by decide +kernel
theorem dM_rules_125 : decode bM_rules 125 = .ok (.iload_n 2, 1) := by decide +kernel
theorem dM_rules_126 : decode bM_rules 126 = .ok (.aload_n 0, 1) := by decide +kernel
theorem dM_rules_127 : decode bM_rules 127 = .ok (.getfield 22, 3) := by decide +kernel
theorem dM_rules_130 : decode bM_rules 130 = .ok (.iload_n 2, 1) := by decide +kernel
theorem dM_rules_131 : decode bM_rules 131 = .ok (.iaload, 1) := by decide +kernel
theorem dM_rules_132 : decode bM_rules 132 = .ok (.iastore, 1) := by decide +kernel
theorem dM_rules_133 : decode bM_rules 133 = .ok (.iinc 2 1, 3) := by decide +kernel
theorem dM_rules_136 : decode bM_rules 136 = .ok (.goto (-23), 3) := by decide +kernel
theorem dM_rules_139 : decode bM_rules 139 = .ok (.aload_n 0, 1) := by decide +kernel
theorem dM_rules_140 : decode bM_rules 140 = .ok (.iconst 0, 1) := by decide +kernel
theorem dM_rules_141 : decode bM_rules 141 = .ok (.putfield 39, 3) := by decide +kernel
theorem dM_rules_144 : decode bM_rules 144 = .ok (.iload_n 1, 1) := by decide +kernel
theorem dM_rules_145 : decode bM_rules 145 = .ok (.ireturn, 1) := by decide +kernel
theorem dM_holds_0 : decode bM_holds 0 = .ok (.aload_n 0, 1) := by decide +kernel
theorem dM_holds_1 : decode bM_holds 1 = .ok (.getfield 19, 3) := by decide +kernel
theorem dM_holds_4 : decode bM_holds 4 = .ok (.bipush 7, 2) := by decide +kernel
theorem dM_holds_6 : decode bM_holds 6 = .ok (.iload_n 1, 1) := by decide +kernel
theorem dM_holds_7 : decode bM_holds 7 = .ok (.imul, 1) := by decide +kernel
theorem dM_holds_8 : decode bM_holds 8 = .ok (.iaload, 1) := by decide +kernel
theorem dM_holds_9 : decode bM_holds 9 = .ok (.i2l, 1) := by decide +kernel
theorem dM_holds_10 : decode bM_holds 10 = .ok (.aload_n 0, 1) := by decide +kernel
theorem dM_holds_11 : decode bM_holds 11 = .ok (.getfield 9, 3) := by decide +kernel
theorem dM_holds_14 : decode bM_holds 14 = .ok (.lmul, 1) := by decide +kernel
theorem dM_holds_15 : decode bM_holds 15 = .ok (.iload 6, 2) := by decide +kernel
theorem dM_holds_17 : decode bM_holds 17 = .ok (.i2l, 1) := by decide +kernel
theorem dM_holds_18 : decode bM_holds 18 = .ok (.aload_n 0, 1) := by decide +kernel
theorem dM_holds_19 : decode bM_holds 19 = .ok (.getfield 19, 3) := by decide +kernel
theorem dM_holds_22 : decode bM_holds 22 = .ok (.bipush 7, 2) := by decide +kernel
theorem dM_holds_24 : decode bM_holds 24 = .ok (.iload_n 1, 1) := by decide +kernel
theorem dM_holds_25 : decode bM_holds 25 = .ok (.imul, 1) := by decide +kernel
theorem dM_holds_26 : decode bM_holds 26 = .ok (.iconst 1, 1) := by decide +kernel
theorem dM_holds_27 : decode bM_holds 27 = .ok (.iadd, 1) := by decide +kernel
theorem dM_holds_28 : decode bM_holds 28 = .ok (.iaload, 1) := by decide +kernel
theorem dM_holds_29 : decode bM_holds 29 = .ok (.i2l, 1) := by decide +kernel
theorem dM_holds_30 : decode bM_holds 30 = .ok (.lload_n 2, 1) := by decide +kernel
theorem dM_holds_31 : decode bM_holds 31 = .ok (.lmul, 1) := by decide +kernel
theorem dM_holds_32 : decode bM_holds 32 = .ok (.aload_n 0, 1) := by decide +kernel
theorem dM_holds_33 : decode bM_holds 33 = .ok (.getfield 19, 3) := by decide +kernel
theorem dM_holds_36 : decode bM_holds 36 = .ok (.bipush 7, 2) := by decide +kernel
theorem dM_holds_38 : decode bM_holds 38 = .ok (.iload_n 1, 1) := by decide +kernel
theorem dM_holds_39 : decode bM_holds 39 = .ok (.imul, 1) := by decide +kernel
theorem dM_holds_40 : decode bM_holds 40 = .ok (.iconst 2, 1) := by decide +kernel
theorem dM_holds_41 : decode bM_holds 41 = .ok (.iadd, 1) := by decide +kernel
theorem dM_holds_42 : decode bM_holds 42 = .ok (.iaload, 1) := by decide +kernel
theorem dM_holds_43 : decode bM_holds 43 = .ok (.iload 6, 2) := by decide +kernel
theorem dM_holds_45 : decode bM_holds 45 = .ok (.imul, 1) := by decide +kernel
theorem dM_holds_46 : decode bM_holds 46 = .ok (.i2l, 1) := by decide +kernel
theorem dM_holds_47 : decode bM_holds 47 = .ok (.ladd, 1) := by decide +kernel
theorem dM_holds_48 : decode bM_holds 48 = .ok (.aload_n 0, 1) := by decide +kernel
theorem dM_holds_49 : decode bM_holds 49 = .ok (.getfield 19, 3) := by decide +kernel
theorem dM_holds_52 : decode bM_holds 52 = .ok (.bipush 7, 2) := by decide +kernel
theorem dM_holds_54 : decode bM_holds 54 = .ok (.iload_n 1, 1) := by decide +kernel
theorem dM_holds_55 : decode bM_holds 55 = .ok (.imul, 1) := by decide +kernel
theorem dM_holds_56 : decode bM_holds 56 = .ok (.iconst 3, 1) := by decide +kernel
theorem dM_holds_57 : decode bM_holds 57 = .ok (.iadd, 1) := by decide +kernel
theorem dM_holds_58 : decode bM_holds 58 = .ok (.iaload, 1) := by decide +kernel
theorem dM_holds_59 : decode bM_holds 59 = .ok (.i2l, 1) := by decide +kernel
theorem dM_holds_60 : decode bM_holds 60 = .ok (.lload 4, 2) := by decide +kernel
theorem dM_holds_62 : decode bM_holds 62 = .ok (.lmul, 1) := by decide +kernel
theorem dM_holds_63 : decode bM_holds 63 = .ok (.ladd, 1) := by decide +kernel
theorem dM_holds_64 : decode bM_holds 64 = .ok (.aload_n 0, 1) := by decide +kernel
theorem dM_holds_65 : decode bM_holds 65 = .ok (.getfield 19, 3) := by decide +kernel
theorem dM_holds_68 : decode bM_holds 68 = .ok (.bipush 7, 2) := by decide +kernel
theorem dM_holds_70 : decode bM_holds 70 = .ok (.iload_n 1, 1) := by decide +kernel
theorem dM_holds_71 : decode bM_holds 71 = .ok (.imul, 1) := by decide +kernel
theorem dM_holds_72 : decode bM_holds 72 = .ok (.iconst 4, 1) := by decide +kernel
theorem dM_holds_73 : decode bM_holds 73 = .ok (.iadd, 1) := by decide +kernel
theorem dM_holds_74 : decode bM_holds 74 = .ok (.iaload, 1) := by decide +kernel
theorem dM_holds_75 : decode bM_holds 75 = .ok (.i2l, 1) := by decide +kernel
theorem dM_holds_76 : decode bM_holds 76 = .ok (.aload_n 0, 1) := by decide +kernel
theorem dM_holds_77 : decode bM_holds 77 = .ok (.getfield 9, 3) := by decide +kernel
theorem dM_holds_80 : decode bM_holds 80 = .ok (.lmul, 1) := by decide +kernel
theorem dM_holds_81 : decode bM_holds 81 = .ok (.ladd, 1) := by decide +kernel
theorem dM_holds_82 : decode bM_holds 82 = .ok (.lmul, 1) := by decide +kernel
theorem dM_holds_83 : decode bM_holds 83 = .ok (.ladd, 1) := by decide +kernel
theorem dM_holds_84 : decode bM_holds 84 = .ok (.lstore 7, 2) := by decide +kernel
theorem dM_holds_86 : decode bM_holds 86 = .ok (.aload_n 0, 1) := by decide +kernel
theorem dM_holds_87 : decode bM_holds 87 = .ok (.getfield 19, 3) := by decide +kernel
theorem dM_holds_90 : decode bM_holds 90 = .ok (.bipush 7, 2) := by decide +kernel
theorem dM_holds_92 : decode bM_holds 92 = .ok (.iload_n 1, 1) := by decide +kernel
theorem dM_holds_93 : decode bM_holds 93 = .ok (.imul, 1) := by decide +kernel
theorem dM_holds_94 : decode bM_holds 94 = .ok (.bipush 6, 2) := by decide +kernel
theorem dM_holds_96 : decode bM_holds 96 = .ok (.iadd, 1) := by decide +kernel
theorem dM_holds_97 : decode bM_holds 97 = .ok (.iaload, 1) := by decide +kernel
theorem dM_holds_98 : decode bM_holds 98 = .ok (.i2l, 1) := by decide +kernel
theorem dM_holds_99 : decode bM_holds 99 = .ok (.iload 6, 2) := by decide +kernel
theorem dM_holds_101 : decode bM_holds 101 = .ok (.i2l, 1) := by decide +kernel
theorem dM_holds_102 : decode bM_holds 102 = .ok (.lmul, 1) := by decide +kernel
theorem dM_holds_103 : decode bM_holds 103 = .ok (.lstore 9, 2) := by decide +kernel
theorem dM_holds_105 : decode bM_holds 105 = .ok (.aload_n 0, 1) := by decide +kernel
theorem dM_holds_106 : decode bM_holds 106 = .ok (.getfield 19, 3) := by decide +kernel
theorem dM_holds_109 : decode bM_holds 109 = .ok (.bipush 7, 2) := by decide +kernel
theorem dM_holds_111 : decode bM_holds 111 = .ok (.iload_n 1, 1) := by decide +kernel
theorem dM_holds_112 : decode bM_holds 112 = .ok (.imul, 1) := by decide +kernel
theorem dM_holds_113 : decode bM_holds 113 = .ok (.iconst 5, 1) := by decide +kernel
theorem dM_holds_114 : decode bM_holds 114 = .ok (.iadd, 1) := by decide +kernel
theorem dM_holds_115 : decode bM_holds 115 = .ok (.iaload, 1) := by decide +kernel
theorem dM_holds_116 : decode bM_holds 116 = .ok (.istore 11, 2) := by decide +kernel
theorem dM_holds_118 : decode bM_holds 118 = .ok (.iload 11, 2) := by decide +kernel
theorem dM_holds_120 : decode bM_holds 120 = .ok (.bipush 60, 2) := by decide +kernel
theorem dM_holds_122 : decode bM_holds 122 = .ok (.if_icmp .ne 19, 3) := by decide +kernel
theorem dM_holds_125 : decode bM_holds 125 = .ok (.lload 7, 2) := by decide +kernel
theorem dM_holds_127 : decode bM_holds 127 = .ok (.lload 9, 2) := by decide +kernel
theorem dM_holds_129 : decode bM_holds 129 = .ok (.lcmp, 1) := by decide +kernel
theorem dM_holds_130 : decode bM_holds 130 = .ok (.ifCond .ge 7, 3) := by decide +kernel
theorem dM_holds_133 : decode bM_holds 133 = .ok (.iconst 1, 1) := by decide +kernel
theorem dM_holds_134 : decode bM_holds 134 = .ok (.goto 43, 3) := by decide +kernel
theorem dM_holds_137 : decode bM_holds 137 = .ok (.iconst 0, 1) := by decide +kernel
theorem dM_holds_138 : decode bM_holds 138 = .ok (.goto 39, 3) := by decide +kernel
theorem dM_holds_141 : decode bM_holds 141 = .ok (.iload 11, 2) := by decide +kernel
theorem dM_holds_143 : decode bM_holds 143 = .ok (.bipush 62, 2) := by decide +kernel
theorem dM_holds_145 : decode bM_holds 145 = .ok (.if_icmp .ne 19, 3) := by decide +kernel
theorem dM_holds_148 : decode bM_holds 148 = .ok (.lload 7, 2) := by decide +kernel
theorem dM_holds_150 : decode bM_holds 150 = .ok (.lload 9, 2) := by decide +kernel
theorem dM_holds_152 : decode bM_holds 152 = .ok (.lcmp, 1) := by decide +kernel
theorem dM_holds_153 : decode bM_holds 153 = .ok (.ifCond .le 7, 3) := by decide +kernel
theorem dM_holds_156 : decode bM_holds 156 = .ok (.iconst 1, 1) := by decide +kernel
theorem dM_holds_157 : decode bM_holds 157 = .ok (.goto 20, 3) := by decide +kernel
theorem dM_holds_160 : decode bM_holds 160 = .ok (.iconst 0, 1) := by decide +kernel
theorem dM_holds_161 : decode bM_holds 161 = .ok (.goto 16, 3) := by decide +kernel
theorem dM_holds_164 : decode bM_holds 164 = .ok (.lload 7, 2) := by decide +kernel
theorem dM_holds_166 : decode bM_holds 166 = .ok (.lload 9, 2) := by decide +kernel
theorem dM_holds_168 : decode bM_holds 168 = .ok (.lcmp, 1) := by decide +kernel
theorem dM_holds_169 : decode bM_holds 169 = .ok (.ifCond .ne 7, 3) := by decide +kernel
theorem dM_holds_172 : decode bM_holds 172 = .ok (.iconst 1, 1) := by decide +kernel
theorem dM_holds_173 : decode bM_holds 173 = .ok (.goto 4, 3) := by decide +kernel
theorem dM_holds_176 : decode bM_holds 176 = .ok (.iconst 0, 1) := by decide +kernel
theorem dM_holds_177 : decode bM_holds 177 = .ok (.ireturn, 1) := by decide +kernel
theorem dM_holding_0 : decode bM_holding 0 = .ok (.iconst 0, 1) := by decide +kernel
theorem dM_holding_1 : decode bM_holding 1 = .ok (.istore 6, 2) := by decide +kernel
theorem dM_holding_3 : decode bM_holding 3 = .ok (.iload 6, 2) := by decide +kernel
theorem dM_holding_5 : decode bM_holding 5 = .ok (.aload_n 0, 1) := by decide +kernel
theorem dM_holding_6 : decode bM_holding 6 = .ok (.getfield 77, 3) := by decide +kernel
theorem dM_holding_9 : decode bM_holding 9 = .ok (.if_icmp .ge 22, 3) := by decide +kernel
theorem dM_holding_12 : decode bM_holding 12 = .ok (.aload_n 0, 1) := by decide +kernel
theorem dM_holding_13 : decode bM_holding 13 = .ok (.iload 6, 2) := by decide +kernel
theorem dM_holding_15 : decode bM_holding 15 = .ok (.lload_n 1, 1) := by decide +kernel
theorem dM_holding_16 : decode bM_holding 16 = .ok (.lload_n 3, 1) := by decide +kernel
theorem dM_holding_17 : decode bM_holding 17 = .ok (.iload 5, 2) := by decide +kernel
theorem dM_holding_19 : decode bM_holding 19 = .ok (.invokevirtual 80, 3) := by decide +kernel
theorem dM_holding_22 : decode bM_holding 22 = .ok (.ifCond .eq 9, 3) := by decide +kernel
theorem dM_holding_25 : decode bM_holding 25 = .ok (.iinc 6 1, 3) := by decide +kernel
theorem dM_holding_28 : decode bM_holding 28 = .ok (.goto (-25), 3) := by decide +kernel
theorem dM_holding_31 : decode bM_holding 31 = .ok (.iload 6, 2) := by decide +kernel
theorem dM_holding_33 : decode bM_holding 33 = .ok (.ireturn, 1) := by decide +kernel
theorem dM_run_0 : decode bM_run 0 = .ok (.aload_n 0, 1) := by decide +kernel
theorem dM_run_1 : decode bM_run 1 = .ok (.aload_n 0, 1) := by decide +kernel
theorem dM_run_2 : decode bM_run 2 = .ok (.getfield 77, 3) := by decide +kernel
theorem dM_run_5 : decode bM_run 5 = .ok (.ifCond .ne 7, 3) := by decide +kernel
theorem dM_run_8 : decode bM_run 8 = .ok (.iconst 1, 1) := by decide +kernel
theorem dM_run_9 : decode bM_run 9 = .ok (.goto 43, 3) := by decide +kernel
theorem dM_run_12 : decode bM_run 12 = .ok (.iload_n 1, 1) := by decide +kernel
theorem dM_run_13 : decode bM_run 13 = .ok (.i2l, 1) := by decide +kernel
theorem dM_run_14 : decode bM_run 14 = .ok (.lconst 0, 1) := by decide +kernel
theorem dM_run_15 : decode bM_run 15 = .ok (.ldc2_w 84, 3) := by decide +kernel
theorem dM_run_18 : decode bM_run 18 = .ok (.invokestatic 35, 3) := by decide +kernel
theorem dM_run_21 : decode bM_run 21 = .ok (.ifCond .eq 30, 3) := by decide +kernel
theorem dM_run_24 : decode bM_run 24 = .ok (.lload_n 2, 1) := by decide +kernel
theorem dM_run_25 : decode bM_run 25 = .ok (.lconst 1, 1) := by decide +kernel
theorem dM_run_26 : decode bM_run 26 = .ok (.ldc2_w 86, 3) := by decide +kernel
theorem dM_run_29 : decode bM_run 29 = .ok (.invokestatic 35, 3) := by decide +kernel
theorem dM_run_32 : decode bM_run 32 = .ok (.ifCond .eq 19, 3) := by decide +kernel
theorem dM_run_35 : decode bM_run 35 = .ok (.lload 4, 2) := by decide +kernel
theorem dM_run_37 : decode bM_run 37 = .ok (.lconst 1, 1) := by decide +kernel
theorem dM_run_38 : decode bM_run 38 = .ok (.ldc2_w 86, 3) := by decide +kernel
theorem dM_run_41 : decode bM_run 41 = .ok (.invokestatic 35, 3) := by decide +kernel
theorem dM_run_44 : decode bM_run 44 = .ok (.ifCond .eq 7, 3) := by decide +kernel
theorem dM_run_47 : decode bM_run 47 = .ok (.iconst 0, 1) := by decide +kernel
theorem dM_run_48 : decode bM_run 48 = .ok (.goto 4, 3) := by decide +kernel
theorem dM_run_51 : decode bM_run 51 = .ok (.iconst 2, 1) := by decide +kernel
theorem dM_run_52 : decode bM_run 52 = .ok (.putfield 29, 3) := by decide +kernel
theorem dM_run_55 : decode bM_run 55 = .ok (.aload_n 0, 1) := by decide +kernel
theorem dM_run_56 : decode bM_run 56 = .ok (.getfield 29, 3) := by decide +kernel
theorem dM_run_59 : decode bM_run 59 = .ok (.ifCond .le 5, 3) := by decide +kernel
theorem dM_run_62 : decode bM_run 62 = .ok (.iconst 0, 1) := by decide +kernel
theorem dM_run_63 : decode bM_run 63 = .ok (.ireturn, 1) := by decide +kernel
theorem dM_run_64 : decode bM_run 64 = .ok (.iconst 0, 1) := by decide +kernel
theorem dM_run_65 : decode bM_run 65 = .ok (.istore 6, 2) := by decide +kernel
theorem dM_run_67 : decode bM_run 67 = .ok (.iconst (-1), 1) := by decide +kernel
theorem dM_run_68 : decode bM_run 68 = .ok (.istore 7, 2) := by decide +kernel
theorem dM_run_70 : decode bM_run 70 = .ok (.bipush 60, 2) := by decide +kernel
theorem dM_run_72 : decode bM_run 72 = .ok (.istore 8, 2) := by decide +kernel
theorem dM_run_74 : decode bM_run 74 = .ok (.iload 8, 2) := by decide +kernel
theorem dM_run_76 : decode bM_run 76 = .ok (.iload_n 1, 1) := by decide +kernel
theorem dM_run_77 : decode bM_run 77 = .ok (.iconst 2, 1) := by decide +kernel
theorem dM_run_78 : decode bM_run 78 = .ok (.if_icmp .ne 7, 3) := by decide +kernel
theorem dM_run_81 : decode bM_run 81 = .ok (.iconst 4, 1) := by decide +kernel
theorem dM_run_82 : decode bM_run 82 = .ok (.goto 13, 3) := by decide +kernel
theorem dM_run_85 : decode bM_run 85 = .ok (.iload_n 1, 1) := by decide +kernel
theorem dM_run_86 : decode bM_run 86 = .ok (.iconst 1, 1) := by decide +kernel
theorem dM_run_87 : decode bM_run 87 = .ok (.if_icmp .ne 7, 3) := by decide +kernel
theorem dM_run_90 : decode bM_run 90 = .ok (.iconst 2, 1) := by decide +kernel
theorem dM_run_91 : decode bM_run 91 = .ok (.goto 4, 3) := by decide +kernel
theorem dM_run_94 : decode bM_run 94 = .ok (.iconst 1, 1) := by decide +kernel
theorem dM_run_95 : decode bM_run 95 = .ok (.if_icmp .lt 54, 3) := by decide +kernel
theorem dM_run_98 : decode bM_run 98 = .ok (.aload_n 0, 1) := by decide +kernel
theorem dM_run_99 : decode bM_run 99 = .ok (.lload_n 2, 1) := by decide +kernel
theorem dM_run_100 : decode bM_run 100 = .ok (.lload 4, 2) := by decide +kernel
theorem dM_run_102 : decode bM_run 102 = .ok (.iload 8, 2) := by decide +kernel
theorem dM_run_104 : decode bM_run 104 = .ok (.invokevirtual 88, 3) := by decide +kernel
theorem dM_run_107 : decode bM_run 107 = .ok (.istore 9, 2) := by decide +kernel
theorem dM_run_109 : decode bM_run 109 = .ok (.iload 9, 2) := by decide +kernel
theorem dM_run_111 : decode bM_run 111 = .ok (.aload_n 0, 1) := by decide +kernel
theorem dM_run_112 : decode bM_run 112 = .ok (.getfield 77, 3) := by decide +kernel
theorem dM_run_115 : decode bM_run 115 = .ok (.if_icmp .ne 8, 3) := by decide +kernel
theorem dM_run_118 : decode bM_run 118 = .ok (.iload 8, 2) := by decide +kernel
theorem dM_run_120 : decode bM_run 120 = .ok (.goto 5, 3) := by decide +kernel
theorem dM_run_123 : decode bM_run 123 = .ok (.iload 7, 2) := by decide +kernel
theorem dM_run_125 : decode bM_run 125 = .ok (.istore 7, 2) := by decide +kernel
theorem dM_run_127 : decode bM_run 127 = .ok (.iload 9, 2) := by decide +kernel
theorem dM_run_129 : decode bM_run 129 = .ok (.iload 6, 2) := by decide +kernel
theorem dM_run_131 : decode bM_run 131 = .ok (.if_icmp .le 8, 3) := by decide +kernel
theorem dM_run_134 : decode bM_run 134 = .ok (.iload 9, 2) := by decide +kernel
theorem dM_run_136 : decode bM_run 136 = .ok (.goto 5, 3) := by decide +kernel
theorem dM_run_139 : decode bM_run 139 = .ok (.iload 6, 2) := by decide +kernel
theorem dM_run_141 : decode bM_run 141 = .ok (.istore 6, 2) := by decide +kernel
theorem dM_run_143 : decode bM_run 143 = .ok (.iinc 8 (-1), 3) := by decide +kernel
theorem dM_run_146 : decode bM_run 146 = .ok (.goto (-72), 3) := by decide +kernel
theorem dM_run_149 : decode bM_run 149 = .ok (.aload_n 0, 1) := by decide +kernel
theorem dM_run_150 : decode bM_run 150 = .ok (.iload 7, 2) := by decide +kernel
theorem dM_run_152 : decode bM_run 152 = .ok (.ifCond .le 7, 3) := by decide +kernel
theorem dM_run_155 : decode bM_run 155 = .ok (.iconst 1, 1) := by decide +kernel
theorem dM_run_156 : decode bM_run 156 = .ok (.goto 4, 3) := by decide +kernel
theorem dM_run_159 : decode bM_run 159 = .ok (.iconst 0, 1) := by decide +kernel
theorem dM_run_160 : decode bM_run 160 = .ok (.putfield 39, 3) := by decide +kernel
theorem dM_run_163 : decode bM_run 163 = .ok (.aload_n 0, 1) := by decide +kernel
theorem dM_run_164 : decode bM_run 164 = .ok (.getfield 39, 3) := by decide +kernel
theorem dM_run_167 : decode bM_run 167 = .ok (.ifCond .ne 8, 3) := by decide +kernel
theorem dM_run_170 : decode bM_run 170 = .ok (.iconst (-1), 1) := by decide +kernel
theorem dM_run_171 : decode bM_run 171 = .ok (.iload 6, 2) := by decide +kernel
theorem dM_run_173 : decode bM_run 173 = .ok (.isub, 1) := by decide +kernel
theorem dM_run_174 : decode bM_run 174 = .ok (.ireturn, 1) := by decide +kernel
theorem dM_run_175 : decode bM_run 175 = .ok (.aload_n 0, 1) := by decide +kernel
theorem dM_run_176 : decode bM_run 176 = .ok (.iload_n 1, 1) := by decide +kernel
theorem dM_run_177 : decode bM_run 177 = .ok (.putfield 92, 3) := by decide +kernel
theorem dM_run_180 : decode bM_run 180 = .ok (.aload_n 0, 1) := by decide +kernel
theorem dM_run_181 : decode bM_run 181 = .ok (.lload_n 2, 1) := by decide +kernel
theorem dM_run_182 : decode bM_run 182 = .ok (.putfield 95, 3) := by decide +kernel
theorem dM_run_185 : decode bM_run 185 = .ok (.aload_n 0, 1) := by decide +kernel
theorem dM_run_186 : decode bM_run 186 = .ok (.lload 4, 2) := by decide +kernel
theorem dM_run_188 : decode bM_run 188 = .ok (.putfield 98, 3) := by decide +kernel
theorem dM_run_191 : decode bM_run 191 = .ok (.aload_n 0, 1) := by decide +kernel
theorem dM_run_192 : decode bM_run 192 = .ok (.iload 7, 2) := by decide +kernel
theorem dM_run_194 : decode bM_run 194 = .ok (.putfield 101, 3) := by decide +kernel
theorem dM_run_197 : decode bM_run 197 = .ok (.aload_n 0, 1) := by decide +kernel
theorem dM_run_198 : decode bM_run 198 = .ok (.iconst 0, 1) := by decide +kernel
theorem dM_run_199 : decode bM_run 199 = .ok (.putfield 104, 3) := by decide +kernel
theorem dM_run_202 : decode bM_run 202 = .ok (.aload_n 0, 1) := by decide +kernel
theorem dM_run_203 : decode bM_run 203 = .ok (.getfield 101, 3) := by decide +kernel
theorem dM_run_206 : decode bM_run 206 = .ok (.ireturn, 1) := by decide +kernel
theorem dM_none_0 : decode bM_none 0 = .ok (.aload_n 0, 1) := by decide +kernel
theorem dM_none_1 : decode bM_none 1 = .ok (.aload_n 0, 1) := by decide +kernel
theorem dM_none_2 : decode bM_none 2 = .ok (.getfield 39, 3) := by decide +kernel
theorem dM_none_5 : decode bM_none 5 = .ok (.ifCond .eq 7, 3) := by decide +kernel
theorem dM_none_8 : decode bM_none 8 = .ok (.iconst 0, 1) := by decide +kernel
theorem dM_none_9 : decode bM_none 9 = .ok (.goto 4, 3) := by decide +kernel
theorem dM_none_12 : decode bM_none 12 = .ok (.iconst 1, 1) := by decide +kernel
theorem dM_none_13 : decode bM_none 13 = .ok (.putfield 29, 3) := by decide +kernel
theorem dM_none_16 : decode bM_none 16 = .ok (.aload_n 0, 1) := by decide +kernel
theorem dM_none_17 : decode bM_none 17 = .ok (.getfield 29, 3) := by decide +kernel
theorem dM_none_20 : decode bM_none 20 = .ok (.ifCond .le 7, 3) := by decide +kernel
theorem dM_none_23 : decode bM_none 23 = .ok (.iconst 1, 1) := by decide +kernel
theorem dM_none_24 : decode bM_none 24 = .ok (.goto 4, 3) := by decide +kernel
theorem dM_none_27 : decode bM_none 27 = .ok (.iconst 0, 1) := by decide +kernel
theorem dM_none_28 : decode bM_none 28 = .ok (.ireturn, 1) := by decide +kernel
theorem dM_common_0 : decode bM_common 0 = .ok (.lload_n 0, 1) := by decide +kernel
theorem dM_common_1 : decode bM_common 1 = .ok (.lstore 4, 2) := by decide +kernel
theorem dM_common_3 : decode bM_common 3 = .ok (.lload_n 2, 1) := by decide +kernel
theorem dM_common_4 : decode bM_common 4 = .ok (.lstore 6, 2) := by decide +kernel
theorem dM_common_6 : decode bM_common 6 = .ok (.lload 6, 2) := by decide +kernel
theorem dM_common_8 : decode bM_common 8 = .ok (.lconst 0, 1) := by decide +kernel
theorem dM_common_9 : decode bM_common 9 = .ok (.lcmp, 1) := by decide +kernel
theorem dM_common_10 : decode bM_common 10 = .ok (.ifCond .eq 21, 3) := by decide +kernel
theorem dM_common_13 : decode bM_common 13 = .ok (.lload 4, 2) := by decide +kernel
theorem dM_common_15 : decode bM_common 15 = .ok (.lload 6, 2) := by decide +kernel
theorem dM_common_17 : decode bM_common 17 = .ok (.lrem, 1) := by decide +kernel
theorem dM_common_18 : decode bM_common 18 = .ok (.lstore 8, 2) := by decide +kernel
theorem dM_common_20 : decode bM_common 20 = .ok (.lload 6, 2) := by decide +kernel
theorem dM_common_22 : decode bM_common 22 = .ok (.lstore 4, 2) := by decide +kernel
theorem dM_common_24 : decode bM_common 24 = .ok (.lload 8, 2) := by decide +kernel
theorem dM_common_26 : decode bM_common 26 = .ok (.lstore 6, 2) := by decide +kernel
theorem dM_common_28 : decode bM_common 28 = .ok (.goto (-22), 3) := by decide +kernel
theorem dM_common_31 : decode bM_common 31 = .ok (.lload 4, 2) := by decide +kernel
theorem dM_common_33 : decode bM_common 33 = .ok (.lreturn, 1) := by decide +kernel
theorem dM_rise_0 : decode bM_rise 0 = .ok (.aload_n 0, 1) := by decide +kernel
theorem dM_rise_1 : decode bM_rise 1 = .ok (.invokevirtual 107, 3) := by decide +kernel
theorem dM_rise_4 : decode bM_rise 4 = .ok (.ifCond .eq 5, 3) := by decide +kernel
theorem dM_rise_7 : decode bM_rise 7 = .ok (.lconst 0, 1) := by decide +kernel
theorem dM_rise_8 : decode bM_rise 8 = .ok (.lreturn, 1) := by decide +kernel
theorem dM_rise_9 : decode bM_rise 9 = .ok (.aload_n 0, 1) := by decide +kernel
theorem dM_rise_10 : decode bM_rise 10 = .ok (.iload_n 1, 1) := by decide +kernel
theorem dM_rise_11 : decode bM_rise 11 = .ok (.i2l, 1) := by decide +kernel
theorem dM_rise_12 : decode bM_rise 12 = .ok (.lconst 0, 1) := by decide +kernel
theorem dM_rise_13 : decode bM_rise 13 = .ok (.lconst 1, 1) := by decide +kernel
theorem dM_rise_14 : decode bM_rise 14 = .ok (.invokestatic 35, 3) := by decide +kernel
theorem dM_rise_17 : decode bM_rise 17 = .ok (.ifCond .eq 7, 3) := by decide +kernel
theorem dM_rise_20 : decode bM_rise 20 = .ok (.iconst 0, 1) := by decide +kernel
theorem dM_rise_21 : decode bM_rise 21 = .ok (.goto 4, 3) := by decide +kernel
theorem dM_rise_24 : decode bM_rise 24 = .ok (.iconst 2, 1) := by decide +kernel
theorem dM_rise_25 : decode bM_rise 25 = .ok (.putfield 29, 3) := by decide +kernel
theorem dM_rise_28 : decode bM_rise 28 = .ok (.aload_n 0, 1) := by decide +kernel
theorem dM_rise_29 : decode bM_rise 29 = .ok (.getfield 29, 3) := by decide +kernel
theorem dM_rise_32 : decode bM_rise 32 = .ok (.ifCond .le 7, 3) := by decide +kernel
theorem dM_rise_35 : decode bM_rise 35 = .ok (.lconst 0, 1) := by decide +kernel
theorem dM_rise_36 : decode bM_rise 36 = .ok (.goto 32, 3) := by decide +kernel
theorem dM_rise_39 : decode bM_rise 39 = .ok (.iload_n 1, 1) := by decide +kernel
theorem dM_rise_40 : decode bM_rise 40 = .ok (.ifCond .ne 10, 3) := by decide +kernel
theorem dM_rise_43 : decode bM_rise 43 = .ok (.aload_n 0, 1) := by decide +kernel
theorem dM_rise_44 : decode bM_rise 44 = .ok (.getfield 9, 3) := by decide +kernel
theorem dM_rise_47 : decode bM_rise 47 = .ok (.goto 8, 3) := by decide +kernel
theorem dM_rise_50 : decode bM_rise 50 = .ok (.aload_n 0, 1) := by decide +kernel
theorem dM_rise_51 : decode bM_rise 51 = .ok (.getfield 101, 3) := by decide +kernel
theorem dM_rise_54 : decode bM_rise 54 = .ok (.i2l, 1) := by decide +kernel
theorem dM_rise_55 : decode bM_rise 55 = .ok (.aload_n 0, 1) := by decide +kernel
theorem dM_rise_56 : decode bM_rise 56 = .ok (.getfield 9, 3) := by decide +kernel
theorem dM_rise_59 : decode bM_rise 59 = .ok (.aload_n 0, 1) := by decide +kernel
theorem dM_rise_60 : decode bM_rise 60 = .ok (.getfield 101, 3) := by decide +kernel
theorem dM_rise_63 : decode bM_rise 63 = .ok (.i2l, 1) := by decide +kernel
theorem dM_rise_64 : decode bM_rise 64 = .ok (.invokestatic 110, 3) := by decide +kernel
theorem dM_rise_67 : decode bM_rise 67 = .ok (.ldiv, 1) := by decide +kernel
theorem dM_rise_68 : decode bM_rise 68 = .ok (.lreturn, 1) := by decide +kernel
theorem dM_before_0 : decode bM_before 0 = .ok (.aload_n 0, 1) := by decide +kernel
theorem dM_before_1 : decode bM_before 1 = .ok (.getfield 92, 3) := by decide +kernel
theorem dM_before_4 : decode bM_before 4 = .ok (.ifCond .ne 10, 3) := by decide +kernel
theorem dM_before_7 : decode bM_before 7 = .ok (.aload_n 0, 1) := by decide +kernel
theorem dM_before_8 : decode bM_before 8 = .ok (.getfield 101, 3) := by decide +kernel
theorem dM_before_11 : decode bM_before 11 = .ok (.goto 30, 3) := by decide +kernel
theorem dM_before_14 : decode bM_before 14 = .ok (.aload_n 0, 1) := by decide +kernel
theorem dM_before_15 : decode bM_before 15 = .ok (.getfield 92, 3) := by decide +kernel
theorem dM_before_18 : decode bM_before 18 = .ok (.iconst 1, 1) := by decide +kernel
theorem dM_before_19 : decode bM_before 19 = .ok (.if_icmp .ne 14, 3) := by decide +kernel
theorem dM_before_22 : decode bM_before 22 = .ok (.aload_n 0, 1) := by decide +kernel
theorem dM_before_23 : decode bM_before 23 = .ok (.getfield 101, 3) := by decide +kernel
theorem dM_before_26 : decode bM_before 26 = .ok (.iconst 2, 1) := by decide +kernel
theorem dM_before_27 : decode bM_before 27 = .ok (.isub, 1) := by decide +kernel
theorem dM_before_28 : decode bM_before 28 = .ok (.iconst 2, 1) := by decide +kernel
theorem dM_before_29 : decode bM_before 29 = .ok (.idiv, 1) := by decide +kernel
theorem dM_before_30 : decode bM_before 30 = .ok (.goto 11, 3) := by decide +kernel
theorem dM_before_33 : decode bM_before 33 = .ok (.aload_n 0, 1) := by decide +kernel
theorem dM_before_34 : decode bM_before 34 = .ok (.getfield 101, 3) := by decide +kernel
theorem dM_before_37 : decode bM_before 37 = .ok (.iconst 4, 1) := by decide +kernel
theorem dM_before_38 : decode bM_before 38 = .ok (.isub, 1) := by decide +kernel
theorem dM_before_39 : decode bM_before 39 = .ok (.iconst 2, 1) := by decide +kernel
theorem dM_before_40 : decode bM_before 40 = .ok (.idiv, 1) := by decide +kernel
theorem dM_before_41 : decode bM_before 41 = .ok (.ireturn, 1) := by decide +kernel
theorem dM_inSquare_0 : decode bM_inSquare 0 = .ok (.aload_n 0, 1) := by decide +kernel
theorem dM_inSquare_1 : decode bM_inSquare 1 = .ok (.getfield 92, 3) := by decide +kernel
theorem dM_inSquare_4 : decode bM_inSquare 4 = .ok (.ifCond .ne 7, 3) := by decide +kernel
theorem dM_inSquare_7 : decode bM_inSquare 7 = .ok (.iconst 0, 1) := by decide +kernel
theorem dM_inSquare_8 : decode bM_inSquare 8 = .ok (.goto 16, 3) := by decide +kernel
theorem dM_inSquare_11 : decode bM_inSquare 11 = .ok (.aload_n 0, 1) := by decide +kernel
theorem dM_inSquare_12 : decode bM_inSquare 12 = .ok (.getfield 92, 3) := by decide +kernel
theorem dM_inSquare_15 : decode bM_inSquare 15 = .ok (.iconst 1, 1) := by decide +kernel
theorem dM_inSquare_16 : decode bM_inSquare 16 = .ok (.if_icmp .ne 7, 3) := by decide +kernel
theorem dM_inSquare_19 : decode bM_inSquare 19 = .ok (.iconst 1, 1) := by decide +kernel
theorem dM_inSquare_20 : decode bM_inSquare 20 = .ok (.goto 4, 3) := by decide +kernel
theorem dM_inSquare_23 : decode bM_inSquare 23 = .ok (.iconst 3, 1) := by decide +kernel
theorem dM_inSquare_24 : decode bM_inSquare 24 = .ok (.ireturn, 1) := by decide +kernel
theorem dM_sort_0 : decode bM_sort 0 = .ok (.aload_n 0, 1) := by decide +kernel
theorem dM_sort_1 : decode bM_sort 1 = .ok (.invokevirtual 114, 3) := by decide +kernel
theorem dM_sort_4 : decode bM_sort 4 = .ok (.istore_n 2, 1) := by decide +kernel
theorem dM_sort_5 : decode bM_sort 5 = .ok (.iload_n 1, 1) := by decide +kernel
theorem dM_sort_6 : decode bM_sort 6 = .ok (.iload_n 2, 1) := by decide +kernel
theorem dM_sort_7 : decode bM_sort 7 = .ok (.if_icmp .ge 7, 3) := by decide +kernel
theorem dM_sort_10 : decode bM_sort 10 = .ok (.iconst 0, 1) := by decide +kernel
theorem dM_sort_11 : decode bM_sort 11 = .ok (.goto 23, 3) := by decide +kernel
theorem dM_sort_14 : decode bM_sort 14 = .ok (.iload_n 1, 1) := by decide +kernel
theorem dM_sort_15 : decode bM_sort 15 = .ok (.iload_n 2, 1) := by decide +kernel
theorem dM_sort_16 : decode bM_sort 16 = .ok (.aload_n 0, 1) := by decide +kernel
theorem dM_sort_17 : decode bM_sort 17 = .ok (.invokevirtual 117, 3) := by decide +kernel
theorem dM_sort_20 : decode bM_sort 20 = .ok (.iadd, 1) := by decide +kernel
theorem dM_sort_21 : decode bM_sort 21 = .ok (.if_icmp .ge 12, 3) := by decide +kernel
theorem dM_sort_24 : decode bM_sort 24 = .ok (.aload_n 0, 1) := by decide +kernel
theorem dM_sort_25 : decode bM_sort 25 = .ok (.getfield 92, 3) := by decide +kernel
theorem dM_sort_28 : decode bM_sort 28 = .ok (.iconst 1, 1) := by decide +kernel
theorem dM_sort_29 : decode bM_sort 29 = .ok (.iadd, 1) := by decide +kernel
theorem dM_sort_30 : decode bM_sort 30 = .ok (.goto 4, 3) := by decide +kernel
theorem dM_sort_33 : decode bM_sort 33 = .ok (.iconst 1, 1) := by decide +kernel
theorem dM_sort_34 : decode bM_sort 34 = .ok (.ireturn, 1) := by decide +kernel
theorem dM_side_0 : decode bM_side 0 = .ok (.aload_n 0, 1) := by decide +kernel
theorem dM_side_1 : decode bM_side 1 = .ok (.invokevirtual 114, 3) := by decide +kernel
theorem dM_side_4 : decode bM_side 4 = .ok (.i2l, 1) := by decide +kernel
theorem dM_side_5 : decode bM_side 5 = .ok (.aload_n 0, 1) := by decide +kernel
theorem dM_side_6 : decode bM_side 6 = .ok (.getfield 95, 3) := by decide +kernel
theorem dM_side_9 : decode bM_side 9 = .ok (.lmul, 1) := by decide +kernel
theorem dM_side_10 : decode bM_side 10 = .ok (.lstore_n 3, 1) := by decide +kernel
theorem dM_side_11 : decode bM_side 11 = .ok (.aload_n 0, 1) := by decide +kernel
theorem dM_side_12 : decode bM_side 12 = .ok (.iload_n 1, 1) := by decide +kernel
theorem dM_side_13 : decode bM_side 13 = .ok (.invokevirtual 120, 3) := by decide +kernel
theorem dM_side_16 : decode bM_side 16 = .ok (.istore 5, 2) := by decide +kernel
theorem dM_side_18 : decode bM_side 18 = .ok (.iload 5, 2) := by decide +kernel
theorem dM_side_20 : decode bM_side 20 = .ok (.ifCond .ne 48, 3) := by decide +kernel
theorem dM_side_23 : decode bM_side 23 = .ok (.iload_n 2, 1) := by decide +kernel
theorem dM_side_24 : decode bM_side 24 = .ok (.ifCond .ne 13, 3) := by decide +kernel
theorem dM_side_27 : decode bM_side 27 = .ok (.iload_n 1, 1) := by decide +kernel
theorem dM_side_28 : decode bM_side 28 = .ok (.i2l, 1) := by decide +kernel
theorem dM_side_29 : decode bM_side 29 = .ok (.aload_n 0, 1) := by decide +kernel
theorem dM_side_30 : decode bM_side 30 = .ok (.getfield 95, 3) := by decide +kernel
theorem dM_side_33 : decode bM_side 33 = .ok (.lmul, 1) := by decide +kernel
theorem dM_side_34 : decode bM_side 34 = .ok (.goto 33, 3) := by decide +kernel
theorem dM_side_37 : decode bM_side 37 = .ok (.iload_n 2, 1) := by decide +kernel
theorem dM_side_38 : decode bM_side 38 = .ok (.iconst 1, 1) := by decide +kernel
theorem dM_side_39 : decode bM_side 39 = .ok (.if_icmp .ne 7, 3) := by decide +kernel
theorem dM_side_42 : decode bM_side 42 = .ok (.lconst 0, 1) := by decide +kernel
theorem dM_side_43 : decode bM_side 43 = .ok (.goto 24, 3) := by decide +kernel
theorem dM_side_46 : decode bM_side 46 = .ok (.iload_n 2, 1) := by decide +kernel
theorem dM_side_47 : decode bM_side 47 = .ok (.iconst 2, 1) := by decide +kernel
theorem dM_side_48 : decode bM_side 48 = .ok (.if_icmp .ne 15, 3) := by decide +kernel
theorem dM_side_51 : decode bM_side 51 = .ok (.iload_n 1, 1) := by decide +kernel
theorem dM_side_52 : decode bM_side 52 = .ok (.iconst 1, 1) := by decide +kernel
theorem dM_side_53 : decode bM_side 53 = .ok (.iadd, 1) := by decide +kernel
theorem dM_side_54 : decode bM_side 54 = .ok (.i2l, 1) := by decide +kernel
theorem dM_side_55 : decode bM_side 55 = .ok (.aload_n 0, 1) := by decide +kernel
theorem dM_side_56 : decode bM_side 56 = .ok (.getfield 95, 3) := by decide +kernel
theorem dM_side_59 : decode bM_side 59 = .ok (.lmul, 1) := by decide +kernel
theorem dM_side_60 : decode bM_side 60 = .ok (.goto 7, 3) := by decide +kernel
theorem dM_side_63 : decode bM_side 63 = .ok (.aload_n 0, 1) := by decide +kernel
theorem dM_side_64 : decode bM_side 64 = .ok (.getfield 98, 3) := by decide +kernel
theorem dM_side_67 : decode bM_side 67 = .ok (.lreturn, 1) := by decide +kernel
theorem dM_side_68 : decode bM_side 68 = .ok (.iload 5, 2) := by decide +kernel
theorem dM_side_70 : decode bM_side 70 = .ok (.iconst 1, 1) := by decide +kernel
theorem dM_side_71 : decode bM_side 71 = .ok (.if_icmp .le 39, 3) := by decide +kernel
theorem dM_side_74 : decode bM_side 74 = .ok (.iload_n 2, 1) := by decide +kernel
theorem dM_side_75 : decode bM_side 75 = .ok (.ifCond .ne 7, 3) := by decide +kernel
theorem dM_side_78 : decode bM_side 78 = .ok (.lload_n 3, 1) := by decide +kernel
theorem dM_side_79 : decode bM_side 79 = .ok (.goto 30, 3) := by decide +kernel
theorem dM_side_82 : decode bM_side 82 = .ok (.iload_n 2, 1) := by decide +kernel
theorem dM_side_83 : decode bM_side 83 = .ok (.iconst 1, 1) := by decide +kernel
theorem dM_side_84 : decode bM_side 84 = .ok (.if_icmp .ne 7, 3) := by decide +kernel
theorem dM_side_87 : decode bM_side 87 = .ok (.lconst 0, 1) := by decide +kernel
theorem dM_side_88 : decode bM_side 88 = .ok (.goto 21, 3) := by decide +kernel
theorem dM_side_91 : decode bM_side 91 = .ok (.iload_n 2, 1) := by decide +kernel
theorem dM_side_92 : decode bM_side 92 = .ok (.iconst 2, 1) := by decide +kernel
theorem dM_side_93 : decode bM_side 93 = .ok (.if_icmp .ne 12, 3) := by decide +kernel
theorem dM_side_96 : decode bM_side 96 = .ok (.lload_n 3, 1) := by decide +kernel
theorem dM_side_97 : decode bM_side 97 = .ok (.aload_n 0, 1) := by decide +kernel
theorem dM_side_98 : decode bM_side 98 = .ok (.getfield 98, 3) := by decide +kernel
theorem dM_side_101 : decode bM_side 101 = .ok (.ladd, 1) := by decide +kernel
theorem dM_side_102 : decode bM_side 102 = .ok (.goto 7, 3) := by decide +kernel
theorem dM_side_105 : decode bM_side 105 = .ok (.aload_n 0, 1) := by decide +kernel
theorem dM_side_106 : decode bM_side 106 = .ok (.getfield 98, 3) := by decide +kernel
theorem dM_side_109 : decode bM_side 109 = .ok (.lreturn, 1) := by decide +kernel
theorem dM_side_110 : decode bM_side 110 = .ok (.aload_n 0, 1) := by decide +kernel
theorem dM_side_111 : decode bM_side 111 = .ok (.getfield 98, 3) := by decide +kernel
theorem dM_side_114 : decode bM_side 114 = .ok (.iload_n 1, 1) := by decide +kernel
theorem dM_side_115 : decode bM_side 115 = .ok (.aload_n 0, 1) := by decide +kernel
theorem dM_side_116 : decode bM_side 116 = .ok (.invokevirtual 114, 3) := by decide +kernel
theorem dM_side_119 : decode bM_side 119 = .ok (.isub, 1) := by decide +kernel
theorem dM_side_120 : decode bM_side 120 = .ok (.aload_n 0, 1) := by decide +kernel
theorem dM_side_121 : decode bM_side 121 = .ok (.invokevirtual 117, 3) := by decide +kernel
theorem dM_side_124 : decode bM_side 124 = .ok (.isub, 1) := by decide +kernel
theorem dM_side_125 : decode bM_side 125 = .ok (.i2l, 1) := by decide +kernel
theorem dM_side_126 : decode bM_side 126 = .ok (.aload_n 0, 1) := by decide +kernel
theorem dM_side_127 : decode bM_side 127 = .ok (.getfield 95, 3) := by decide +kernel
theorem dM_side_130 : decode bM_side 130 = .ok (.lmul, 1) := by decide +kernel
theorem dM_side_131 : decode bM_side 131 = .ok (.ladd, 1) := by decide +kernel
theorem dM_side_132 : decode bM_side 132 = .ok (.lstore 6, 2) := by decide +kernel
theorem dM_side_134 : decode bM_side 134 = .ok (.iload_n 2, 1) := by decide +kernel
theorem dM_side_135 : decode bM_side 135 = .ok (.ifCond .ne 7, 3) := by decide +kernel
theorem dM_side_138 : decode bM_side 138 = .ok (.lload_n 3, 1) := by decide +kernel
theorem dM_side_139 : decode bM_side 139 = .ok (.goto 34, 3) := by decide +kernel
theorem dM_side_142 : decode bM_side 142 = .ok (.iload_n 2, 1) := by decide +kernel
theorem dM_side_143 : decode bM_side 143 = .ok (.iconst 1, 1) := by decide +kernel
theorem dM_side_144 : decode bM_side 144 = .ok (.if_icmp .ne 8, 3) := by decide +kernel
theorem dM_side_147 : decode bM_side 147 = .ok (.lload 6, 2) := by decide +kernel
theorem dM_side_149 : decode bM_side 149 = .ok (.goto 24, 3) := by decide +kernel
theorem dM_side_152 : decode bM_side 152 = .ok (.iload_n 2, 1) := by decide +kernel
theorem dM_side_153 : decode bM_side 153 = .ok (.iconst 2, 1) := by decide +kernel
theorem dM_side_154 : decode bM_side 154 = .ok (.if_icmp .ne 12, 3) := by decide +kernel
theorem dM_side_157 : decode bM_side 157 = .ok (.lload_n 3, 1) := by decide +kernel
theorem dM_side_158 : decode bM_side 158 = .ok (.aload_n 0, 1) := by decide +kernel
theorem dM_side_159 : decode bM_side 159 = .ok (.getfield 98, 3) := by decide +kernel
theorem dM_side_162 : decode bM_side 162 = .ok (.ladd, 1) := by decide +kernel
theorem dM_side_163 : decode bM_side 163 = .ok (.goto 10, 3) := by decide +kernel
theorem dM_side_166 : decode bM_side 166 = .ok (.lload 6, 2) := by decide +kernel
theorem dM_side_168 : decode bM_side 168 = .ok (.aload_n 0, 1) := by decide +kernel
theorem dM_side_169 : decode bM_side 169 = .ok (.getfield 95, 3) := by decide +kernel
theorem dM_side_172 : decode bM_side 172 = .ok (.ladd, 1) := by decide +kernel
theorem dM_side_173 : decode bM_side 173 = .ok (.lreturn, 1) := by decide +kernel
theorem dM_step_0 : decode bM_step 0 = .ok (.aload_n 0, 1) := by decide +kernel
theorem dM_step_1 : decode bM_step 1 = .ok (.invokevirtual 107, 3) := by decide +kernel
theorem dM_step_4 : decode bM_step 4 = .ok (.ifCond .eq 5, 3) := by decide +kernel
theorem dM_step_7 : decode bM_step 7 = .ok (.lconst 0, 1) := by decide +kernel
theorem dM_step_8 : decode bM_step 8 = .ok (.lreturn, 1) := by decide +kernel
theorem dM_step_9 : decode bM_step 9 = .ok (.aload_n 0, 1) := by decide +kernel
theorem dM_step_10 : decode bM_step 10 = .ok (.iload_n 1, 1) := by decide +kernel
theorem dM_step_11 : decode bM_step 11 = .ok (.ifCond .lt 13, 3) := by decide +kernel
theorem dM_step_14 : decode bM_step 14 = .ok (.iload_n 1, 1) := by decide +kernel
theorem dM_step_15 : decode bM_step 15 = .ok (.aload_n 0, 1) := by decide +kernel
theorem dM_step_16 : decode bM_step 16 = .ok (.getfield 101, 3) := by decide +kernel
theorem dM_step_19 : decode bM_step 19 = .ok (.iconst 1, 1) := by decide +kernel
theorem dM_step_20 : decode bM_step 20 = .ok (.isub, 1) := by decide +kernel
theorem dM_step_21 : decode bM_step 21 = .ok (.if_icmp .lt 7, 3) := by decide +kernel
theorem dM_step_24 : decode bM_step 24 = .ok (.iconst 2, 1) := by decide +kernel
theorem dM_step_25 : decode bM_step 25 = .ok (.goto 20, 3) := by decide +kernel
theorem dM_step_28 : decode bM_step 28 = .ok (.iload_n 2, 1) := by decide +kernel
theorem dM_step_29 : decode bM_step 29 = .ok (.i2l, 1) := by decide +kernel
theorem dM_step_30 : decode bM_step 30 = .ok (.lconst 0, 1) := by decide +kernel
theorem dM_step_31 : decode bM_step 31 = .ok (.ldc2_w 123, 3) := by decide +kernel
theorem dM_step_34 : decode bM_step 34 = .ok (.invokestatic 35, 3) := by decide +kernel
theorem dM_step_37 : decode bM_step 37 = .ok (.ifCond .eq 7, 3) := by decide +kernel
theorem dM_step_40 : decode bM_step 40 = .ok (.iconst 0, 1) := by decide +kernel
theorem dM_step_41 : decode bM_step 41 = .ok (.goto 4, 3) := by decide +kernel
theorem dM_step_44 : decode bM_step 44 = .ok (.iconst 3, 1) := by decide +kernel
theorem dM_step_45 : decode bM_step 45 = .ok (.putfield 29, 3) := by decide +kernel
theorem dM_step_48 : decode bM_step 48 = .ok (.aload_n 0, 1) := by decide +kernel
theorem dM_step_49 : decode bM_step 49 = .ok (.getfield 29, 3) := by decide +kernel
theorem dM_step_52 : decode bM_step 52 = .ok (.ifCond .le 5, 3) := by decide +kernel
theorem dM_step_55 : decode bM_step 55 = .ok (.lconst 0, 1) := by decide +kernel
theorem dM_step_56 : decode bM_step 56 = .ok (.lreturn, 1) := by decide +kernel
theorem dM_step_57 : decode bM_step 57 = .ok (.iload_n 2, 1) := by decide +kernel
theorem dM_step_58 : decode bM_step 58 = .ok (.iconst 4, 1) := by decide +kernel
theorem dM_step_59 : decode bM_step 59 = .ok (.if_icmp .ne 12, 3) := by decide +kernel
theorem dM_step_62 : decode bM_step 62 = .ok (.aload_n 0, 1) := by decide +kernel
theorem dM_step_63 : decode bM_step 63 = .ok (.iload_n 1, 1) := by decide +kernel
theorem dM_step_64 : decode bM_step 64 = .ok (.invokevirtual 120, 3) := by decide +kernel
theorem dM_step_67 : decode bM_step 67 = .ok (.i2l, 1) := by decide +kernel
theorem dM_step_68 : decode bM_step 68 = .ok (.goto 26, 3) := by decide +kernel
theorem dM_step_71 : decode bM_step 71 = .ok (.iload_n 2, 1) := by decide +kernel
theorem dM_step_72 : decode bM_step 72 = .ok (.iconst 5, 1) := by decide +kernel
theorem dM_step_73 : decode bM_step 73 = .ok (.if_icmp .ne 15, 3) := by decide +kernel
theorem dM_step_76 : decode bM_step 76 = .ok (.iload_n 1, 1) := by decide +kernel
theorem dM_step_77 : decode bM_step 77 = .ok (.iconst 1, 1) := by decide +kernel
theorem dM_step_78 : decode bM_step 78 = .ok (.iadd, 1) := by decide +kernel
theorem dM_step_79 : decode bM_step 79 = .ok (.i2l, 1) := by decide +kernel
theorem dM_step_80 : decode bM_step 80 = .ok (.aload_n 0, 1) := by decide +kernel
theorem dM_step_81 : decode bM_step 81 = .ok (.getfield 9, 3) := by decide +kernel
theorem dM_step_84 : decode bM_step 84 = .ok (.lmul, 1) := by decide +kernel
theorem dM_step_85 : decode bM_step 85 = .ok (.goto 9, 3) := by decide +kernel
theorem dM_step_88 : decode bM_step 88 = .ok (.aload_n 0, 1) := by decide +kernel
theorem dM_step_89 : decode bM_step 89 = .ok (.iload_n 1, 1) := by decide +kernel
theorem dM_step_90 : decode bM_step 90 = .ok (.iload_n 2, 1) := by decide +kernel
theorem dM_step_91 : decode bM_step 91 = .ok (.invokevirtual 125, 3) := by decide +kernel
theorem dM_step_94 : decode bM_step 94 = .ok (.lreturn, 1) := by decide +kernel
theorem dM_noWinders_0 : decode bM_noWinders 0 = .ok (.aload_n 0, 1) := by decide +kernel
theorem dM_noWinders_1 : decode bM_noWinders 1 = .ok (.aload_n 0, 1) := by decide +kernel
theorem dM_noWinders_2 : decode bM_noWinders 2 = .ok (.getfield 39, 3) := by decide +kernel
theorem dM_noWinders_5 : decode bM_noWinders 5 = .ok (.ifCond .eq 15, 3) := by decide +kernel
theorem dM_noWinders_8 : decode bM_noWinders 8 = .ok (.aload_n 0, 1) := by decide +kernel
theorem dM_noWinders_9 : decode bM_noWinders 9 = .ok (.getfield 92, 3) := by decide +kernel
theorem dM_noWinders_12 : decode bM_noWinders 12 = .ok (.iconst 2, 1) := by decide +kernel
theorem dM_noWinders_13 : decode bM_noWinders 13 = .ok (.if_icmp .ne 7, 3) := by decide +kernel
theorem dM_noWinders_16 : decode bM_noWinders 16 = .ok (.iconst 0, 1) := by decide +kernel
theorem dM_noWinders_17 : decode bM_noWinders 17 = .ok (.goto 4, 3) := by decide +kernel
theorem dM_noWinders_20 : decode bM_noWinders 20 = .ok (.iconst 1, 1) := by decide +kernel
theorem dM_noWinders_21 : decode bM_noWinders 21 = .ok (.putfield 29, 3) := by decide +kernel
theorem dM_noWinders_24 : decode bM_noWinders 24 = .ok (.aload_n 0, 1) := by decide +kernel
theorem dM_noWinders_25 : decode bM_noWinders 25 = .ok (.getfield 29, 3) := by decide +kernel
theorem dM_noWinders_28 : decode bM_noWinders 28 = .ok (.ifCond .le 7, 3) := by decide +kernel
theorem dM_noWinders_31 : decode bM_noWinders 31 = .ok (.iconst 1, 1) := by decide +kernel
theorem dM_noWinders_32 : decode bM_noWinders 32 = .ok (.goto 4, 3) := by decide +kernel
theorem dM_noWinders_35 : decode bM_noWinders 35 = .ok (.iconst 0, 1) := by decide +kernel
theorem dM_noWinders_36 : decode bM_noWinders 36 = .ok (.ireturn, 1) := by decide +kernel
theorem dM_winder_0 : decode bM_winder 0 = .ok (.aload_n 0, 1) := by decide +kernel
theorem dM_winder_1 : decode bM_winder 1 = .ok (.invokevirtual 129, 3) := by decide +kernel
theorem dM_winder_4 : decode bM_winder 4 = .ok (.ifCond .eq 5, 3) := by decide +kernel
theorem dM_winder_7 : decode bM_winder 7 = .ok (.lconst 0, 1) := by decide +kernel
theorem dM_winder_8 : decode bM_winder 8 = .ok (.lreturn, 1) := by decide +kernel
theorem dM_winder_9 : decode bM_winder 9 = .ok (.aload_n 0, 1) := by decide +kernel
theorem dM_winder_10 : decode bM_winder 10 = .ok (.iload_n 1, 1) := by decide +kernel
theorem dM_winder_11 : decode bM_winder 11 = .ok (.i2l, 1) := by decide +kernel
theorem dM_winder_12 : decode bM_winder 12 = .ok (.lconst 0, 1) := by decide +kernel
theorem dM_winder_13 : decode bM_winder 13 = .ok (.ldc2_w 132, 3) := by decide +kernel
theorem dM_winder_16 : decode bM_winder 16 = .ok (.invokestatic 35, 3) := by decide +kernel
theorem dM_winder_19 : decode bM_winder 19 = .ok (.ifCond .eq 17, 3) := by decide +kernel
theorem dM_winder_22 : decode bM_winder 22 = .ok (.iload_n 2, 1) := by decide +kernel
theorem dM_winder_23 : decode bM_winder 23 = .ok (.i2l, 1) := by decide +kernel
theorem dM_winder_24 : decode bM_winder 24 = .ok (.lconst 0, 1) := by decide +kernel
theorem dM_winder_25 : decode bM_winder 25 = .ok (.lconst 1, 1) := by decide +kernel
theorem dM_winder_26 : decode bM_winder 26 = .ok (.invokestatic 35, 3) := by decide +kernel
theorem dM_winder_29 : decode bM_winder 29 = .ok (.ifCond .eq 7, 3) := by decide +kernel
theorem dM_winder_32 : decode bM_winder 32 = .ok (.iconst 0, 1) := by decide +kernel
theorem dM_winder_33 : decode bM_winder 33 = .ok (.goto 4, 3) := by decide +kernel
theorem dM_winder_36 : decode bM_winder 36 = .ok (.iconst 2, 1) := by decide +kernel
theorem dM_winder_37 : decode bM_winder 37 = .ok (.putfield 29, 3) := by decide +kernel
theorem dM_winder_40 : decode bM_winder 40 = .ok (.aload_n 0, 1) := by decide +kernel
theorem dM_winder_41 : decode bM_winder 41 = .ok (.getfield 29, 3) := by decide +kernel
theorem dM_winder_44 : decode bM_winder 44 = .ok (.ifCond .le 5, 3) := by decide +kernel
theorem dM_winder_47 : decode bM_winder 47 = .ok (.lconst 0, 1) := by decide +kernel
theorem dM_winder_48 : decode bM_winder 48 = .ok (.lreturn, 1) := by decide +kernel
theorem dM_winder_49 : decode bM_winder 49 = .ok (.ldc2_w 84, 3) := by decide +kernel
theorem dM_winder_52 : decode bM_winder 52 = .ok (.iload_n 1, 1) := by decide +kernel
theorem dM_winder_53 : decode bM_winder 53 = .ok (.i2l, 1) := by decide +kernel
theorem dM_winder_54 : decode bM_winder 54 = .ok (.lmul, 1) := by decide +kernel
theorem dM_winder_55 : decode bM_winder 55 = .ok (.aload_n 0, 1) := by decide +kernel
theorem dM_winder_56 : decode bM_winder 56 = .ok (.getfield 98, 3) := by decide +kernel
theorem dM_winder_59 : decode bM_winder 59 = .ok (.lmul, 1) := by decide +kernel
theorem dM_winder_60 : decode bM_winder 60 = .ok (.lstore_n 3, 1) := by decide +kernel
theorem dM_winder_61 : decode bM_winder 61 = .ok (.ldc2_w 132, 3) := by decide +kernel
theorem dM_winder_64 : decode bM_winder 64 = .ok (.aload_n 0, 1) := by decide +kernel
theorem dM_winder_65 : decode bM_winder 65 = .ok (.getfield 98, 3) := by decide +kernel
theorem dM_winder_68 : decode bM_winder 68 = .ok (.lmul, 1) := by decide +kernel
theorem dM_winder_69 : decode bM_winder 69 = .ok (.lstore 5, 2) := by decide +kernel
theorem dM_winder_71 : decode bM_winder 71 = .ok (.iload_n 2, 1) := by decide +kernel
theorem dM_winder_72 : decode bM_winder 72 = .ok (.iconst 1, 1) := by decide +kernel
theorem dM_winder_73 : decode bM_winder 73 = .ok (.if_icmp .ne 21, 3) := by decide +kernel
theorem dM_winder_76 : decode bM_winder 76 = .ok (.lload_n 3, 1) := by decide +kernel
theorem dM_winder_77 : decode bM_winder 77 = .ok (.lload 5, 2) := by decide +kernel
theorem dM_winder_79 : decode bM_winder 79 = .ok (.lcmp, 1) := by decide +kernel
theorem dM_winder_80 : decode bM_winder 80 = .ok (.ifCond .le 10, 3) := by decide +kernel
theorem dM_winder_83 : decode bM_winder 83 = .ok (.lload_n 3, 1) := by decide +kernel
theorem dM_winder_84 : decode bM_winder 84 = .ok (.lload 5, 2) := by decide +kernel
theorem dM_winder_86 : decode bM_winder 86 = .ok (.lsub, 1) := by decide +kernel
theorem dM_winder_87 : decode bM_winder 87 = .ok (.goto 35, 3) := by decide +kernel
theorem dM_winder_90 : decode bM_winder 90 = .ok (.lconst 0, 1) := by decide +kernel
theorem dM_winder_91 : decode bM_winder 91 = .ok (.goto 31, 3) := by decide +kernel
theorem dM_winder_94 : decode bM_winder 94 = .ok (.ldc2_w 132, 3) := by decide +kernel
theorem dM_winder_97 : decode bM_winder 97 = .ok (.aload_n 0, 1) := by decide +kernel
theorem dM_winder_98 : decode bM_winder 98 = .ok (.invokevirtual 114, 3) := by decide +kernel
theorem dM_winder_101 : decode bM_winder 101 = .ok (.i2l, 1) := by decide +kernel
theorem dM_winder_102 : decode bM_winder 102 = .ok (.lmul, 1) := by decide +kernel
theorem dM_winder_103 : decode bM_winder 103 = .ok (.aload_n 0, 1) := by decide +kernel
theorem dM_winder_104 : decode bM_winder 104 = .ok (.getfield 95, 3) := by decide +kernel
theorem dM_winder_107 : decode bM_winder 107 = .ok (.lmul, 1) := by decide +kernel
theorem dM_winder_108 : decode bM_winder 108 = .ok (.lload_n 3, 1) := by decide +kernel
theorem dM_winder_109 : decode bM_winder 109 = .ok (.lload 5, 2) := by decide +kernel
theorem dM_winder_111 : decode bM_winder 111 = .ok (.lcmp, 1) := by decide +kernel
theorem dM_winder_112 : decode bM_winder 112 = .ok (.ifCond .le 8, 3) := by decide +kernel
theorem dM_winder_115 : decode bM_winder 115 = .ok (.lload 5, 2) := by decide +kernel
theorem dM_winder_117 : decode bM_winder 117 = .ok (.goto 4, 3) := by decide +kernel
theorem dM_winder_120 : decode bM_winder 120 = .ok (.lload_n 3, 1) := by decide +kernel
theorem dM_winder_121 : decode bM_winder 121 = .ok (.ladd, 1) := by decide +kernel
theorem dM_winder_122 : decode bM_winder 122 = .ok (.lreturn, 1) := by decide +kernel
theorem dM_area_0 : decode bM_area 0 = .ok (.aload_n 0, 1) := by decide +kernel
theorem dM_area_1 : decode bM_area 1 = .ok (.invokevirtual 129, 3) := by decide +kernel
theorem dM_area_4 : decode bM_area 4 = .ok (.ifCond .eq 5, 3) := by decide +kernel
theorem dM_area_7 : decode bM_area 7 = .ok (.lconst 0, 1) := by decide +kernel
theorem dM_area_8 : decode bM_area 8 = .ok (.lreturn, 1) := by decide +kernel
theorem dM_area_9 : decode bM_area 9 = .ok (.aload_n 0, 1) := by decide +kernel
theorem dM_area_10 : decode bM_area 10 = .ok (.iload_n 1, 1) := by decide +kernel
theorem dM_area_11 : decode bM_area 11 = .ok (.i2l, 1) := by decide +kernel
theorem dM_area_12 : decode bM_area 12 = .ok (.lconst 0, 1) := by decide +kernel
theorem dM_area_13 : decode bM_area 13 = .ok (.ldc2_w 84, 3) := by decide +kernel
theorem dM_area_16 : decode bM_area 16 = .ok (.invokestatic 35, 3) := by decide +kernel
theorem dM_area_19 : decode bM_area 19 = .ok (.ifCond .eq 7, 3) := by decide +kernel
theorem dM_area_22 : decode bM_area 22 = .ok (.iconst 0, 1) := by decide +kernel
theorem dM_area_23 : decode bM_area 23 = .ok (.goto 4, 3) := by decide +kernel
theorem dM_area_26 : decode bM_area 26 = .ok (.iconst 2, 1) := by decide +kernel
theorem dM_area_27 : decode bM_area 27 = .ok (.putfield 29, 3) := by decide +kernel
theorem dM_area_30 : decode bM_area 30 = .ok (.aload_n 0, 1) := by decide +kernel
theorem dM_area_31 : decode bM_area 31 = .ok (.getfield 29, 3) := by decide +kernel
theorem dM_area_34 : decode bM_area 34 = .ok (.ifCond .le 7, 3) := by decide +kernel
theorem dM_area_37 : decode bM_area 37 = .ok (.lconst 0, 1) := by decide +kernel
theorem dM_area_38 : decode bM_area 38 = .ok (.goto 16, 3) := by decide +kernel
theorem dM_area_41 : decode bM_area 41 = .ok (.ldc2_w 84, 3) := by decide +kernel
theorem dM_area_44 : decode bM_area 44 = .ok (.aload_n 0, 1) := by decide +kernel
theorem dM_area_45 : decode bM_area 45 = .ok (.getfield 98, 3) := by decide +kernel
theorem dM_area_48 : decode bM_area 48 = .ok (.lmul, 1) := by decide +kernel
theorem dM_area_49 : decode bM_area 49 = .ok (.aload_n 0, 1) := by decide +kernel
theorem dM_area_50 : decode bM_area 50 = .ok (.getfield 98, 3) := by decide +kernel
theorem dM_area_53 : decode bM_area 53 = .ok (.lmul, 1) := by decide +kernel
theorem dM_area_54 : decode bM_area 54 = .ok (.lreturn, 1) := by decide +kernel
theorem dM_meets_0 : decode bM_meets 0 = .ok (.aload_n 0, 1) := by decide +kernel
theorem dM_meets_1 : decode bM_meets 1 = .ok (.invokevirtual 107, 3) := by decide +kernel
theorem dM_meets_4 : decode bM_meets 4 = .ok (.ifCond .eq 5, 3) := by decide +kernel
theorem dM_meets_7 : decode bM_meets 7 = .ok (.iconst 0, 1) := by decide +kernel
theorem dM_meets_8 : decode bM_meets 8 = .ok (.ireturn, 1) := by decide +kernel
theorem dM_meets_9 : decode bM_meets 9 = .ok (.aload_n 0, 1) := by decide +kernel
theorem dM_meets_10 : decode bM_meets 10 = .ok (.iload_n 1, 1) := by decide +kernel
theorem dM_meets_11 : decode bM_meets 11 = .ok (.i2l, 1) := by decide +kernel
theorem dM_meets_12 : decode bM_meets 12 = .ok (.lconst 0, 1) := by decide +kernel
theorem dM_meets_13 : decode bM_meets 13 = .ok (.aload_n 0, 1) := by decide +kernel
theorem dM_meets_14 : decode bM_meets 14 = .ok (.getfield 77, 3) := by decide +kernel
theorem dM_meets_17 : decode bM_meets 17 = .ok (.iconst 1, 1) := by decide +kernel
theorem dM_meets_18 : decode bM_meets 18 = .ok (.isub, 1) := by decide +kernel
theorem dM_meets_19 : decode bM_meets 19 = .ok (.i2l, 1) := by decide +kernel
theorem dM_meets_20 : decode bM_meets 20 = .ok (.invokestatic 35, 3) := by decide +kernel
theorem dM_meets_23 : decode bM_meets 23 = .ok (.ifCond .eq 7, 3) := by decide +kernel
theorem dM_meets_26 : decode bM_meets 26 = .ok (.iconst 0, 1) := by decide +kernel
theorem dM_meets_27 : decode bM_meets 27 = .ok (.goto 4, 3) := by decide +kernel
theorem dM_meets_30 : decode bM_meets 30 = .ok (.iconst 2, 1) := by decide +kernel
theorem dM_meets_31 : decode bM_meets 31 = .ok (.putfield 29, 3) := by decide +kernel
theorem dM_meets_34 : decode bM_meets 34 = .ok (.aload_n 0, 1) := by decide +kernel
theorem dM_meets_35 : decode bM_meets 35 = .ok (.getfield 29, 3) := by decide +kernel
theorem dM_meets_38 : decode bM_meets 38 = .ok (.ifCond .ne 27, 3) := by decide +kernel
theorem dM_meets_41 : decode bM_meets 41 = .ok (.aload_n 0, 1) := by decide +kernel
theorem dM_meets_42 : decode bM_meets 42 = .ok (.iload_n 1, 1) := by decide +kernel
theorem dM_meets_43 : decode bM_meets 43 = .ok (.aload_n 0, 1) := by decide +kernel
theorem dM_meets_44 : decode bM_meets 44 = .ok (.getfield 95, 3) := by decide +kernel
theorem dM_meets_47 : decode bM_meets 47 = .ok (.aload_n 0, 1) := by decide +kernel
theorem dM_meets_48 : decode bM_meets 48 = .ok (.getfield 98, 3) := by decide +kernel
theorem dM_meets_51 : decode bM_meets 51 = .ok (.aload_n 0, 1) := by decide +kernel
theorem dM_meets_52 : decode bM_meets 52 = .ok (.getfield 101, 3) := by decide +kernel
theorem dM_meets_55 : decode bM_meets 55 = .ok (.invokevirtual 80, 3) := by decide +kernel
theorem dM_meets_58 : decode bM_meets 58 = .ok (.ifCond .eq 7, 3) := by decide +kernel
theorem dM_meets_61 : decode bM_meets 61 = .ok (.iconst 1, 1) := by decide +kernel
theorem dM_meets_62 : decode bM_meets 62 = .ok (.goto 4, 3) := by decide +kernel
theorem dM_meets_65 : decode bM_meets 65 = .ok (.iconst 0, 1) := by decide +kernel
theorem dM_meets_66 : decode bM_meets 66 = .ok (.ireturn, 1) := by decide +kernel
theorem dM_isPlace_0 : decode bM_isPlace 0 = .ok (.lload_n 0, 1) := by decide +kernel
theorem dM_isPlace_1 : decode bM_isPlace 1 = .ok (.ldc2_w 134, 3) := by decide +kernel
theorem dM_isPlace_4 : decode bM_isPlace 4 = .ok (.lcmp, 1) := by decide +kernel
theorem dM_isPlace_5 : decode bM_isPlace 5 = .ok (.ifCond .lt 15, 3) := by decide +kernel
theorem dM_isPlace_8 : decode bM_isPlace 8 = .ok (.lload_n 0, 1) := by decide +kernel
theorem dM_isPlace_9 : decode bM_isPlace 9 = .ok (.ldc2_w 136, 3) := by decide +kernel
theorem dM_isPlace_12 : decode bM_isPlace 12 = .ok (.lcmp, 1) := by decide +kernel
theorem dM_isPlace_13 : decode bM_isPlace 13 = .ok (.ifCond .gt 7, 3) := by decide +kernel
theorem dM_isPlace_16 : decode bM_isPlace 16 = .ok (.iconst 1, 1) := by decide +kernel
theorem dM_isPlace_17 : decode bM_isPlace 17 = .ok (.goto 4, 3) := by decide +kernel
theorem dM_isPlace_20 : decode bM_isPlace 20 = .ok (.iconst 0, 1) := by decide +kernel
theorem dM_isPlace_21 : decode bM_isPlace 21 = .ok (.ireturn, 1) := by decide +kernel
theorem dM_floor_0 : decode bM_floor 0 = .ok (.lload_n 1, 1) := by decide +kernel
theorem dM_floor_1 : decode bM_floor 1 = .ok (.invokestatic 138, 3) := by decide +kernel
theorem dM_floor_4 : decode bM_floor 4 = .ok (.ifCond .eq 56, 3) := by decide +kernel
theorem dM_floor_7 : decode bM_floor 7 = .ok (.lload_n 3, 1) := by decide +kernel
theorem dM_floor_8 : decode bM_floor 8 = .ok (.invokestatic 138, 3) := by decide +kernel
theorem dM_floor_11 : decode bM_floor 11 = .ok (.ifCond .eq 49, 3) := by decide +kernel
theorem dM_floor_14 : decode bM_floor 14 = .ok (.lload 5, 2) := by decide +kernel
theorem dM_floor_16 : decode bM_floor 16 = .ok (.invokestatic 138, 3) := by decide +kernel
theorem dM_floor_19 : decode bM_floor 19 = .ok (.ifCond .eq 41, 3) := by decide +kernel
theorem dM_floor_22 : decode bM_floor 22 = .ok (.lload 7, 2) := by decide +kernel
theorem dM_floor_24 : decode bM_floor 24 = .ok (.invokestatic 138, 3) := by decide +kernel
theorem dM_floor_27 : decode bM_floor 27 = .ok (.ifCond .eq 33, 3) := by decide +kernel
theorem dM_floor_30 : decode bM_floor 30 = .ok (.lload 5, 2) := by decide +kernel
theorem dM_floor_32 : decode bM_floor 32 = .ok (.lload_n 1, 1) := by decide +kernel
theorem dM_floor_33 : decode bM_floor 33 = .ok (.lcmp, 1) := by decide +kernel
theorem dM_floor_34 : decode bM_floor 34 = .ok (.ifCond .le 26, 3) := by decide +kernel
theorem dM_floor_37 : decode bM_floor 37 = .ok (.lload 7, 2) := by decide +kernel
theorem dM_floor_39 : decode bM_floor 39 = .ok (.lload_n 3, 1) := by decide +kernel
theorem dM_floor_40 : decode bM_floor 40 = .ok (.lcmp, 1) := by decide +kernel
theorem dM_floor_41 : decode bM_floor 41 = .ok (.ifCond .le 19, 3) := by decide +kernel
theorem dM_floor_44 : decode bM_floor 44 = .ok (.lload 9, 2) := by decide +kernel
theorem dM_floor_46 : decode bM_floor 46 = .ok (.lconst 0, 1) := by decide +kernel
theorem dM_floor_47 : decode bM_floor 47 = .ok (.ldc2_w 136, 3) := by decide +kernel
theorem dM_floor_50 : decode bM_floor 50 = .ok (.invokestatic 35, 3) := by decide +kernel
theorem dM_floor_53 : decode bM_floor 53 = .ok (.ifCond .eq 7, 3) := by decide +kernel
theorem dM_floor_56 : decode bM_floor 56 = .ok (.iconst 1, 1) := by decide +kernel
theorem dM_floor_57 : decode bM_floor 57 = .ok (.goto 4, 3) := by decide +kernel
theorem dM_floor_60 : decode bM_floor 60 = .ok (.iconst 0, 1) := by decide +kernel
theorem dM_floor_61 : decode bM_floor 61 = .ok (.istore 11, 2) := by decide +kernel
theorem dM_floor_63 : decode bM_floor 63 = .ok (.aload_n 0, 1) := by decide +kernel
theorem dM_floor_64 : decode bM_floor 64 = .ok (.iload 11, 2) := by decide +kernel
theorem dM_floor_66 : decode bM_floor 66 = .ok (.ifCond .eq 7, 3) := by decide +kernel
theorem dM_floor_69 : decode bM_floor 69 = .ok (.iconst 0, 1) := by decide +kernel
theorem dM_floor_70 : decode bM_floor 70 = .ok (.goto 4, 3) := by decide +kernel
theorem dM_floor_73 : decode bM_floor 73 = .ok (.iconst 1, 1) := by decide +kernel
theorem dM_floor_74 : decode bM_floor 74 = .ok (.putfield 29, 3) := by decide +kernel
theorem dM_floor_77 : decode bM_floor 77 = .ok (.aload_n 0, 1) := by decide +kernel
theorem dM_floor_78 : decode bM_floor 78 = .ok (.getfield 29, 3) := by decide +kernel
theorem dM_floor_81 : decode bM_floor 81 = .ok (.ifCond .gt 12, 3) := by decide +kernel
theorem dM_floor_84 : decode bM_floor 84 = .ok (.aload_n 0, 1) := by decide +kernel
theorem dM_floor_85 : decode bM_floor 85 = .ok (.getfield 142, 3) := by decide +kernel
theorem dM_floor_88 : decode bM_floor 88 = .ok (.bipush 8, 2) := by decide +kernel
theorem dM_floor_90 : decode bM_floor 90 = .ok (.if_icmp .ne 5, 3) := by decide +kernel
theorem dM_floor_93 : decode bM_floor 93 = .ok (.iconst 0, 1) := by decide +kernel
theorem dM_floor_94 : decode bM_floor 94 = .ok (.ireturn, 1) := by decide +kernel
theorem dM_floor_95 : decode bM_floor 95 = .ok (.aload_n 0, 1) := by decide +kernel
theorem dM_floor_96 : decode bM_floor 96 = .ok (.getfield 25, 3) := by decide +kernel
theorem dM_floor_99 : decode bM_floor 99 = .ok (.iconst 5, 1) := by decide +kernel
theorem dM_floor_100 : decode bM_floor 100 = .ok (.aload_n 0, 1) := by decide +kernel
theorem dM_floor_101 : decode bM_floor 101 = .ok (.getfield 142, 3) := by decide +kernel
theorem dM_floor_104 : decode bM_floor 104 = .ok (.imul, 1) := by decide +kernel
theorem dM_floor_105 : decode bM_floor 105 = .ok (.lload_n 1, 1) := by decide +kernel
theorem dM_floor_106 : decode bM_floor 106 = .ok (.lastore, 1) := by decide +kernel
theorem dM_floor_107 : decode bM_floor 107 = .ok (.aload_n 0, 1) := by decide +kernel
theorem dM_floor_108 : decode bM_floor 108 = .ok (.getfield 25, 3) := by decide +kernel
theorem dM_floor_111 : decode bM_floor 111 = .ok (.iconst 5, 1) := by decide +kernel
theorem dM_floor_112 : decode bM_floor 112 = .ok (.aload_n 0, 1) := by decide +kernel
theorem dM_floor_113 : decode bM_floor 113 = .ok (.getfield 142, 3) := by decide +kernel
theorem dM_floor_116 : decode bM_floor 116 = .ok (.imul, 1) := by decide +kernel
theorem dM_floor_117 : decode bM_floor 117 = .ok (.iconst 1, 1) := by decide +kernel
theorem dM_floor_118 : decode bM_floor 118 = .ok (.iadd, 1) := by decide +kernel
theorem dM_floor_119 : decode bM_floor 119 = .ok (.lload_n 3, 1) := by decide +kernel
theorem dM_floor_120 : decode bM_floor 120 = .ok (.lastore, 1) := by decide +kernel
theorem dM_floor_121 : decode bM_floor 121 = .ok (.aload_n 0, 1) := by decide +kernel
theorem dM_floor_122 : decode bM_floor 122 = .ok (.getfield 25, 3) := by decide +kernel
theorem dM_floor_125 : decode bM_floor 125 = .ok (.iconst 5, 1) := by decide +kernel
theorem dM_floor_126 : decode bM_floor 126 = .ok (.aload_n 0, 1) := by decide +kernel
theorem dM_floor_127 : decode bM_floor 127 = .ok (.getfield 142, 3) := by decide +kernel
theorem dM_floor_130 : decode bM_floor 130 = .ok (.imul, 1) := by decide +kernel
theorem dM_floor_131 : decode bM_floor 131 = .ok (.iconst 2, 1) := by decide +kernel
theorem dM_floor_132 : decode bM_floor 132 = .ok (.iadd, 1) := by decide +kernel
theorem dM_floor_133 : decode bM_floor 133 = .ok (.lload 5, 2) := by decide +kernel
theorem dM_floor_135 : decode bM_floor 135 = .ok (.lastore, 1) := by decide +kernel
theorem dM_floor_136 : decode bM_floor 136 = .ok (.aload_n 0, 1) := by decide +kernel
theorem dM_floor_137 : decode bM_floor 137 = .ok (.getfield 25, 3) := by decide +kernel
theorem dM_floor_140 : decode bM_floor 140 = .ok (.iconst 5, 1) := by decide +kernel
theorem dM_floor_141 : decode bM_floor 141 = .ok (.aload_n 0, 1) := by decide +kernel
theorem dM_floor_142 : decode bM_floor 142 = .ok (.getfield 142, 3) := by decide +kernel
theorem dM_floor_145 : decode bM_floor 145 = .ok (.imul, 1) := by decide +kernel
theorem dM_floor_146 : decode bM_floor 146 = .ok (.iconst 3, 1) := by decide +kernel
theorem dM_floor_147 : decode bM_floor 147 = .ok (.iadd, 1) := by decide +kernel
theorem dM_floor_148 : decode bM_floor 148 = .ok (.lload 7, 2) := by decide +kernel
theorem dM_floor_150 : decode bM_floor 150 = .ok (.lastore, 1) := by decide +kernel
theorem dM_floor_151 : decode bM_floor 151 = .ok (.aload_n 0, 1) := by decide +kernel
theorem dM_floor_152 : decode bM_floor 152 = .ok (.getfield 25, 3) := by decide +kernel
theorem dM_floor_155 : decode bM_floor 155 = .ok (.iconst 5, 1) := by decide +kernel
theorem dM_floor_156 : decode bM_floor 156 = .ok (.aload_n 0, 1) := by decide +kernel
theorem dM_floor_157 : decode bM_floor 157 = .ok (.getfield 142, 3) := by decide +kernel
theorem dM_floor_160 : decode bM_floor 160 = .ok (.imul, 1) := by decide +kernel
theorem dM_floor_161 : decode bM_floor 161 = .ok (.iconst 4, 1) := by decide +kernel
theorem dM_floor_162 : decode bM_floor 162 = .ok (.iadd, 1) := by decide +kernel
theorem dM_floor_163 : decode bM_floor 163 = .ok (.lload 9, 2) := by decide +kernel
theorem dM_floor_165 : decode bM_floor 165 = .ok (.lastore, 1) := by decide +kernel
theorem dM_floor_166 : decode bM_floor 166 = .ok (.aload_n 0, 1) := by decide +kernel
theorem dM_floor_167 : decode bM_floor 167 = .ok (.dup, 1) := by decide +kernel
theorem dM_floor_168 : decode bM_floor 168 = .ok (.getfield 142, 3) := by decide +kernel
theorem dM_floor_171 : decode bM_floor 171 = .ok (.iconst 1, 1) := by decide +kernel
theorem dM_floor_172 : decode bM_floor 172 = .ok (.iadd, 1) := by decide +kernel
theorem dM_floor_173 : decode bM_floor 173 = .ok (.putfield 142, 3) := by decide +kernel
theorem dM_floor_176 : decode bM_floor 176 = .ok (.iconst 1, 1) := by decide +kernel
theorem dM_floor_177 : decode bM_floor 177 = .ok (.ireturn, 1) := by decide +kernel
theorem dM_headRoom_0 : decode bM_headRoom 0 = .ok (.aload_n 0, 1) := by decide +kernel
theorem dM_headRoom_1 : decode bM_headRoom 1 = .ok (.invokevirtual 107, 3) := by decide +kernel
theorem dM_headRoom_4 : decode bM_headRoom 4 = .ok (.ifCond .eq 5, 3) := by decide +kernel
theorem dM_headRoom_7 : decode bM_headRoom 7 = .ok (.lconst 0, 1) := by decide +kernel
theorem dM_headRoom_8 : decode bM_headRoom 8 = .ok (.lreturn, 1) := by decide +kernel
theorem dM_headRoom_9 : decode bM_headRoom 9 = .ok (.ldc2_w 145, 3) := by decide +kernel
theorem dM_headRoom_12 : decode bM_headRoom 12 = .ok (.lstore_n 1, 1) := by decide +kernel
theorem dM_headRoom_13 : decode bM_headRoom 13 = .ok (.iconst 0, 1) := by decide +kernel
theorem dM_headRoom_14 : decode bM_headRoom 14 = .ok (.istore_n 3, 1) := by decide +kernel
theorem dM_headRoom_15 : decode bM_headRoom 15 = .ok (.iload_n 3, 1) := by decide +kernel
theorem dM_headRoom_16 : decode bM_headRoom 16 = .ok (.iconst 5, 1) := by decide +kernel
theorem dM_headRoom_17 : decode bM_headRoom 17 = .ok (.aload_n 0, 1) := by decide +kernel
theorem dM_headRoom_18 : decode bM_headRoom 18 = .ok (.getfield 142, 3) := by decide +kernel
theorem dM_headRoom_21 : decode bM_headRoom 21 = .ok (.imul, 1) := by decide +kernel
theorem dM_headRoom_22 : decode bM_headRoom 22 = .ok (.if_icmp .ge 156, 3) := by decide +kernel
theorem dM_headRoom_25 : decode bM_headRoom 25 = .ok (.iconst 0, 1) := by decide +kernel
theorem dM_headRoom_26 : decode bM_headRoom 26 = .ok (.istore 4, 2) := by decide +kernel
theorem dM_headRoom_28 : decode bM_headRoom 28 = .ok (.iload 4, 2) := by decide +kernel
theorem dM_headRoom_30 : decode bM_headRoom 30 = .ok (.aload_n 0, 1) := by decide +kernel
theorem dM_headRoom_31 : decode bM_headRoom 31 = .ok (.getfield 101, 3) := by decide +kernel
theorem dM_headRoom_34 : decode bM_headRoom 34 = .ok (.iconst 1, 1) := by decide +kernel
theorem dM_headRoom_35 : decode bM_headRoom 35 = .ok (.isub, 1) := by decide +kernel
theorem dM_headRoom_36 : decode bM_headRoom 36 = .ok (.if_icmp .ge 136, 3) := by decide +kernel
theorem dM_headRoom_39 : decode bM_headRoom 39 = .ok (.aload_n 0, 1) := by decide +kernel
theorem dM_headRoom_40 : decode bM_headRoom 40 = .ok (.iload 4, 2) := by decide +kernel
theorem dM_headRoom_42 : decode bM_headRoom 42 = .ok (.iconst 0, 1) := by decide +kernel
theorem dM_headRoom_43 : decode bM_headRoom 43 = .ok (.invokevirtual 125, 3) := by decide +kernel
theorem dM_headRoom_46 : decode bM_headRoom 46 = .ok (.aload_n 0, 1) := by decide +kernel
theorem dM_headRoom_47 : decode bM_headRoom 47 = .ok (.getfield 25, 3) := by decide +kernel
theorem dM_headRoom_50 : decode bM_headRoom 50 = .ok (.iload_n 3, 1) := by decide +kernel
theorem dM_headRoom_51 : decode bM_headRoom 51 = .ok (.iconst 2, 1) := by decide +kernel
theorem dM_headRoom_52 : decode bM_headRoom 52 = .ok (.iadd, 1) := by decide +kernel
theorem dM_headRoom_53 : decode bM_headRoom 53 = .ok (.laload, 1) := by decide +kernel
theorem dM_headRoom_54 : decode bM_headRoom 54 = .ok (.lcmp, 1) := by decide +kernel
theorem dM_headRoom_55 : decode bM_headRoom 55 = .ok (.ifCond .ge 62, 3) := by decide +kernel
theorem dM_headRoom_58 : decode bM_headRoom 58 = .ok (.aload_n 0, 1) := by decide +kernel
theorem dM_headRoom_59 : decode bM_headRoom 59 = .ok (.iload 4, 2) := by decide +kernel
theorem dM_headRoom_61 : decode bM_headRoom 61 = .ok (.iconst 2, 1) := by decide +kernel
theorem dM_headRoom_62 : decode bM_headRoom 62 = .ok (.invokevirtual 125, 3) := by decide +kernel
theorem dM_headRoom_65 : decode bM_headRoom 65 = .ok (.aload_n 0, 1) := by decide +kernel
theorem dM_headRoom_66 : decode bM_headRoom 66 = .ok (.getfield 25, 3) := by decide +kernel
theorem dM_headRoom_69 : decode bM_headRoom 69 = .ok (.iload_n 3, 1) := by decide +kernel
theorem dM_headRoom_70 : decode bM_headRoom 70 = .ok (.laload, 1) := by decide +kernel
theorem dM_headRoom_71 : decode bM_headRoom 71 = .ok (.lcmp, 1) := by decide +kernel
theorem dM_headRoom_72 : decode bM_headRoom 72 = .ok (.ifCond .le 45, 3) := by decide +kernel
theorem dM_headRoom_75 : decode bM_headRoom 75 = .ok (.aload_n 0, 1) := by decide +kernel
theorem dM_headRoom_76 : decode bM_headRoom 76 = .ok (.iload 4, 2) := by decide +kernel
theorem dM_headRoom_78 : decode bM_headRoom 78 = .ok (.iconst 1, 1) := by decide +kernel
theorem dM_headRoom_79 : decode bM_headRoom 79 = .ok (.invokevirtual 125, 3) := by decide +kernel
theorem dM_headRoom_82 : decode bM_headRoom 82 = .ok (.aload_n 0, 1) := by decide +kernel
theorem dM_headRoom_83 : decode bM_headRoom 83 = .ok (.getfield 25, 3) := by decide +kernel
theorem dM_headRoom_86 : decode bM_headRoom 86 = .ok (.iload_n 3, 1) := by decide +kernel
theorem dM_headRoom_87 : decode bM_headRoom 87 = .ok (.iconst 3, 1) := by decide +kernel
theorem dM_headRoom_88 : decode bM_headRoom 88 = .ok (.iadd, 1) := by decide +kernel
theorem dM_headRoom_89 : decode bM_headRoom 89 = .ok (.laload, 1) := by decide +kernel
theorem dM_headRoom_90 : decode bM_headRoom 90 = .ok (.lcmp, 1) := by decide +kernel
theorem dM_headRoom_91 : decode bM_headRoom 91 = .ok (.ifCond .ge 26, 3) := by decide +kernel
theorem dM_headRoom_94 : decode bM_headRoom 94 = .ok (.aload_n 0, 1) := by decide +kernel
theorem dM_headRoom_95 : decode bM_headRoom 95 = .ok (.iload 4, 2) := by decide +kernel
theorem dM_headRoom_97 : decode bM_headRoom 97 = .ok (.iconst 3, 1) := by decide +kernel
theorem dM_headRoom_98 : decode bM_headRoom 98 = .ok (.invokevirtual 125, 3) := by decide +kernel
theorem dM_headRoom_101 : decode bM_headRoom 101 = .ok (.aload_n 0, 1) := by decide +kernel
theorem dM_headRoom_102 : decode bM_headRoom 102 = .ok (.getfield 25, 3) := by decide +kernel
theorem dM_headRoom_105 : decode bM_headRoom 105 = .ok (.iload_n 3, 1) := by decide +kernel
theorem dM_headRoom_106 : decode bM_headRoom 106 = .ok (.iconst 1, 1) := by decide +kernel
theorem dM_headRoom_107 : decode bM_headRoom 107 = .ok (.iadd, 1) := by decide +kernel
theorem dM_headRoom_108 : decode bM_headRoom 108 = .ok (.laload, 1) := by decide +kernel
theorem dM_headRoom_109 : decode bM_headRoom 109 = .ok (.lcmp, 1) := by decide +kernel
theorem dM_headRoom_110 : decode bM_headRoom 110 = .ok (.ifCond .le 7, 3) := by decide +kernel
theorem dM_headRoom_113 : decode bM_headRoom 113 = .ok (.iconst 1, 1) := by decide +kernel
theorem dM_headRoom_114 : decode bM_headRoom 114 = .ok (.goto 4, 3) := by decide +kernel
theorem dM_headRoom_117 : decode bM_headRoom 117 = .ok (.iconst 0, 1) := by decide +kernel
theorem dM_headRoom_118 : decode bM_headRoom 118 = .ok (.istore 5, 2) := by decide +kernel
theorem dM_headRoom_120 : decode bM_headRoom 120 = .ok (.aload_n 0, 1) := by decide +kernel
theorem dM_headRoom_121 : decode bM_headRoom 121 = .ok (.getfield 25, 3) := by decide +kernel
theorem dM_headRoom_124 : decode bM_headRoom 124 = .ok (.iload_n 3, 1) := by decide +kernel
theorem dM_headRoom_125 : decode bM_headRoom 125 = .ok (.iconst 4, 1) := by decide +kernel
theorem dM_headRoom_126 : decode bM_headRoom 126 = .ok (.iadd, 1) := by decide +kernel
theorem dM_headRoom_127 : decode bM_headRoom 127 = .ok (.laload, 1) := by decide +kernel
theorem dM_headRoom_128 : decode bM_headRoom 128 = .ok (.aload_n 0, 1) := by decide +kernel
theorem dM_headRoom_129 : decode bM_headRoom 129 = .ok (.getfield 101, 3) := by decide +kernel
theorem dM_headRoom_132 : decode bM_headRoom 132 = .ok (.i2l, 1) := by decide +kernel
theorem dM_headRoom_133 : decode bM_headRoom 133 = .ok (.lmul, 1) := by decide +kernel
theorem dM_headRoom_134 : decode bM_headRoom 134 = .ok (.iload 4, 2) := by decide +kernel
theorem dM_headRoom_136 : decode bM_headRoom 136 = .ok (.iconst 1, 1) := by decide +kernel
theorem dM_headRoom_137 : decode bM_headRoom 137 = .ok (.iadd, 1) := by decide +kernel
theorem dM_headRoom_138 : decode bM_headRoom 138 = .ok (.i2l, 1) := by decide +kernel
theorem dM_headRoom_139 : decode bM_headRoom 139 = .ok (.aload_n 0, 1) := by decide +kernel
theorem dM_headRoom_140 : decode bM_headRoom 140 = .ok (.getfield 9, 3) := by decide +kernel
theorem dM_headRoom_143 : decode bM_headRoom 143 = .ok (.lmul, 1) := by decide +kernel
theorem dM_headRoom_144 : decode bM_headRoom 144 = .ok (.lsub, 1) := by decide +kernel
theorem dM_headRoom_145 : decode bM_headRoom 145 = .ok (.lstore 6, 2) := by decide +kernel
theorem dM_headRoom_147 : decode bM_headRoom 147 = .ok (.iload 5, 2) := by decide +kernel
theorem dM_headRoom_149 : decode bM_headRoom 149 = .ok (.ifCond .eq 15, 3) := by decide +kernel
theorem dM_headRoom_152 : decode bM_headRoom 152 = .ok (.lload 6, 2) := by decide +kernel
theorem dM_headRoom_154 : decode bM_headRoom 154 = .ok (.lload_n 1, 1) := by decide +kernel
theorem dM_headRoom_155 : decode bM_headRoom 155 = .ok (.lcmp, 1) := by decide +kernel
theorem dM_headRoom_156 : decode bM_headRoom 156 = .ok (.ifCond .ge 8, 3) := by decide +kernel
theorem dM_headRoom_159 : decode bM_headRoom 159 = .ok (.lload 6, 2) := by decide +kernel
theorem dM_headRoom_161 : decode bM_headRoom 161 = .ok (.goto 4, 3) := by decide +kernel
theorem dM_headRoom_164 : decode bM_headRoom 164 = .ok (.lload_n 1, 1) := by decide +kernel
theorem dM_headRoom_165 : decode bM_headRoom 165 = .ok (.lstore_n 1, 1) := by decide +kernel
theorem dM_headRoom_166 : decode bM_headRoom 166 = .ok (.iinc 4 1, 3) := by decide +kernel
theorem dM_headRoom_169 : decode bM_headRoom 169 = .ok (.goto (-141), 3) := by decide +kernel
theorem dM_headRoom_172 : decode bM_headRoom 172 = .ok (.iinc 3 5, 3) := by decide +kernel
theorem dM_headRoom_175 : decode bM_headRoom 175 = .ok (.goto (-160), 3) := by decide +kernel
theorem dM_headRoom_178 : decode bM_headRoom 178 = .ok (.lload_n 1, 1) := by decide +kernel
theorem dM_headRoom_179 : decode bM_headRoom 179 = .ok (.lreturn, 1) := by decide +kernel
theorem dM_string_0 : decode bM_string 0 = .ok (.aload_n 0, 1) := by decide +kernel
theorem dM_string_1 : decode bM_string 1 = .ok (.invokevirtual 107, 3) := by decide +kernel
theorem dM_string_4 : decode bM_string 4 = .ok (.ifCond .eq 5, 3) := by decide +kernel
theorem dM_string_7 : decode bM_string 7 = .ok (.lconst 0, 1) := by decide +kernel
theorem dM_string_8 : decode bM_string 8 = .ok (.lreturn, 1) := by decide +kernel
theorem dM_string_9 : decode bM_string 9 = .ok (.aload_n 0, 1) := by decide +kernel
theorem dM_string_10 : decode bM_string 10 = .ok (.iload_n 1, 1) := by decide +kernel
theorem dM_string_11 : decode bM_string 11 = .ok (.i2l, 1) := by decide +kernel
theorem dM_string_12 : decode bM_string 12 = .ok (.lconst 0, 1) := by decide +kernel
theorem dM_string_13 : decode bM_string 13 = .ok (.lconst 1, 1) := by decide +kernel
theorem dM_string_14 : decode bM_string 14 = .ok (.invokestatic 35, 3) := by decide +kernel
theorem dM_string_17 : decode bM_string 17 = .ok (.ifCond .eq 7, 3) := by decide +kernel
theorem dM_string_20 : decode bM_string 20 = .ok (.iconst 0, 1) := by decide +kernel
theorem dM_string_21 : decode bM_string 21 = .ok (.goto 4, 3) := by decide +kernel
theorem dM_string_24 : decode bM_string 24 = .ok (.iconst 2, 1) := by decide +kernel
theorem dM_string_25 : decode bM_string 25 = .ok (.putfield 29, 3) := by decide +kernel
theorem dM_string_28 : decode bM_string 28 = .ok (.aload_n 0, 1) := by decide +kernel
theorem dM_string_29 : decode bM_string 29 = .ok (.getfield 29, 3) := by decide +kernel
theorem dM_string_32 : decode bM_string 32 = .ok (.ifCond .le 5, 3) := by decide +kernel
theorem dM_string_35 : decode bM_string 35 = .ok (.lconst 0, 1) := by decide +kernel
theorem dM_string_36 : decode bM_string 36 = .ok (.lreturn, 1) := by decide +kernel
theorem dM_string_37 : decode bM_string 37 = .ok (.aload_n 0, 1) := by decide +kernel
theorem dM_string_38 : decode bM_string 38 = .ok (.getfield 101, 3) := by decide +kernel
theorem dM_string_41 : decode bM_string 41 = .ok (.i2l, 1) := by decide +kernel
theorem dM_string_42 : decode bM_string 42 = .ok (.lconst 1, 1) := by decide +kernel
theorem dM_string_43 : decode bM_string 43 = .ok (.lsub, 1) := by decide +kernel
theorem dM_string_44 : decode bM_string 44 = .ok (.aload_n 0, 1) := by decide +kernel
theorem dM_string_45 : decode bM_string 45 = .ok (.getfield 95, 3) := by decide +kernel
theorem dM_string_48 : decode bM_string 48 = .ok (.lmul, 1) := by decide +kernel
theorem dM_string_49 : decode bM_string 49 = .ok (.aload_n 0, 1) := by decide +kernel
theorem dM_string_50 : decode bM_string 50 = .ok (.getfield 101, 3) := by decide +kernel
theorem dM_string_53 : decode bM_string 53 = .ok (.i2l, 1) := by decide +kernel
theorem dM_string_54 : decode bM_string 54 = .ok (.lmul, 1) := by decide +kernel
theorem dM_string_55 : decode bM_string 55 = .ok (.lstore_n 2, 1) := by decide +kernel
theorem dM_string_56 : decode bM_string 56 = .ok (.aload_n 0, 1) := by decide +kernel
theorem dM_string_57 : decode bM_string 57 = .ok (.getfield 101, 3) := by decide +kernel
theorem dM_string_60 : decode bM_string 60 = .ok (.i2l, 1) := by decide +kernel
theorem dM_string_61 : decode bM_string 61 = .ok (.lconst 1, 1) := by decide +kernel
theorem dM_string_62 : decode bM_string 62 = .ok (.lsub, 1) := by decide +kernel
theorem dM_string_63 : decode bM_string 63 = .ok (.aload_n 0, 1) := by decide +kernel
theorem dM_string_64 : decode bM_string 64 = .ok (.getfield 9, 3) := by decide +kernel
theorem dM_string_67 : decode bM_string 67 = .ok (.lmul, 1) := by decide +kernel
theorem dM_string_68 : decode bM_string 68 = .ok (.lstore 4, 2) := by decide +kernel
theorem dM_string_70 : decode bM_string 70 = .ok (.lload_n 2, 1) := by decide +kernel
theorem dM_string_71 : decode bM_string 71 = .ok (.lload_n 2, 1) := by decide +kernel
theorem dM_string_72 : decode bM_string 72 = .ok (.lmul, 1) := by decide +kernel
theorem dM_string_73 : decode bM_string 73 = .ok (.lload 4, 2) := by decide +kernel
theorem dM_string_75 : decode bM_string 75 = .ok (.lload 4, 2) := by decide +kernel
theorem dM_string_77 : decode bM_string 77 = .ok (.lmul, 1) := by decide +kernel
theorem dM_string_78 : decode bM_string 78 = .ok (.ladd, 1) := by decide +kernel
theorem dM_string_79 : decode bM_string 79 = .ok (.lstore 6, 2) := by decide +kernel
theorem dM_string_81 : decode bM_string 81 = .ok (.lconst 0, 1) := by decide +kernel
theorem dM_string_82 : decode bM_string 82 = .ok (.lstore 8, 2) := by decide +kernel
theorem dM_string_84 : decode bM_string 84 = .ok (.bipush 25, 2) := by decide +kernel
theorem dM_string_86 : decode bM_string 86 = .ok (.istore 10, 2) := by decide +kernel
theorem dM_string_88 : decode bM_string 88 = .ok (.iload 10, 2) := by decide +kernel
theorem dM_string_90 : decode bM_string 90 = .ok (.ifCond .lt 50, 3) := by decide +kernel
theorem dM_string_93 : decode bM_string 93 = .ok (.lload 8, 2) := by decide +kernel
theorem dM_string_95 : decode bM_string 95 = .ok (.lconst 1, 1) := by decide +kernel
theorem dM_string_96 : decode bM_string 96 = .ok (.iload 10, 2) := by decide +kernel
theorem dM_string_98 : decode bM_string 98 = .ok (.lshl, 1) := by decide +kernel
theorem dM_string_99 : decode bM_string 99 = .ok (.lor, 1) := by decide +kernel
theorem dM_string_100 : decode bM_string 100 = .ok (.lstore 11, 2) := by decide +kernel
theorem dM_string_102 : decode bM_string 102 = .ok (.lload 11, 2) := by decide +kernel
theorem dM_string_104 : decode bM_string 104 = .ok (.lload 11, 2) := by decide +kernel
theorem dM_string_106 : decode bM_string 106 = .ok (.lmul, 1) := by decide +kernel
theorem dM_string_107 : decode bM_string 107 = .ok (.aload_n 0, 1) := by decide +kernel
theorem dM_string_108 : decode bM_string 108 = .ok (.getfield 101, 3) := by decide +kernel
theorem dM_string_111 : decode bM_string 111 = .ok (.i2l, 1) := by decide +kernel
theorem dM_string_112 : decode bM_string 112 = .ok (.lmul, 1) := by decide +kernel
theorem dM_string_113 : decode bM_string 113 = .ok (.aload_n 0, 1) := by decide +kernel
theorem dM_string_114 : decode bM_string 114 = .ok (.getfield 101, 3) := by decide +kernel
theorem dM_string_117 : decode bM_string 117 = .ok (.i2l, 1) := by decide +kernel
theorem dM_string_118 : decode bM_string 118 = .ok (.lmul, 1) := by decide +kernel
theorem dM_string_119 : decode bM_string 119 = .ok (.lload 6, 2) := by decide +kernel
theorem dM_string_121 : decode bM_string 121 = .ok (.lcmp, 1) := by decide +kernel
theorem dM_string_122 : decode bM_string 122 = .ok (.ifCond .gt 8, 3) := by decide +kernel
theorem dM_string_125 : decode bM_string 125 = .ok (.lload 11, 2) := by decide +kernel
theorem dM_string_127 : decode bM_string 127 = .ok (.goto 5, 3) := by decide +kernel
theorem dM_string_130 : decode bM_string 130 = .ok (.lload 8, 2) := by decide +kernel
theorem dM_string_132 : decode bM_string 132 = .ok (.lstore 8, 2) := by decide +kernel
theorem dM_string_134 : decode bM_string 134 = .ok (.iinc 10 (-1), 3) := by decide +kernel
theorem dM_string_137 : decode bM_string 137 = .ok (.goto (-49), 3) := by decide +kernel
theorem dM_string_140 : decode bM_string 140 = .ok (.iload_n 1, 1) := by decide +kernel
theorem dM_string_141 : decode bM_string 141 = .ok (.ifCond .eq 26, 3) := by decide +kernel
theorem dM_string_144 : decode bM_string 144 = .ok (.lload 8, 2) := by decide +kernel
theorem dM_string_146 : decode bM_string 146 = .ok (.lload 8, 2) := by decide +kernel
theorem dM_string_148 : decode bM_string 148 = .ok (.lmul, 1) := by decide +kernel
theorem dM_string_149 : decode bM_string 149 = .ok (.aload_n 0, 1) := by decide +kernel
theorem dM_string_150 : decode bM_string 150 = .ok (.getfield 101, 3) := by decide +kernel
theorem dM_string_153 : decode bM_string 153 = .ok (.i2l, 1) := by decide +kernel
theorem dM_string_154 : decode bM_string 154 = .ok (.lmul, 1) := by decide +kernel
theorem dM_string_155 : decode bM_string 155 = .ok (.aload_n 0, 1) := by decide +kernel
theorem dM_string_156 : decode bM_string 156 = .ok (.getfield 101, 3) := by decide +kernel
theorem dM_string_159 : decode bM_string 159 = .ok (.i2l, 1) := by decide +kernel
theorem dM_string_160 : decode bM_string 160 = .ok (.lmul, 1) := by decide +kernel
theorem dM_string_161 : decode bM_string 161 = .ok (.lload 6, 2) := by decide +kernel
theorem dM_string_163 : decode bM_string 163 = .ok (.lcmp, 1) := by decide +kernel
theorem dM_string_164 : decode bM_string 164 = .ok (.ifCond .ne 8, 3) := by decide +kernel
theorem dM_string_167 : decode bM_string 167 = .ok (.lload 8, 2) := by decide +kernel
theorem dM_string_169 : decode bM_string 169 = .ok (.goto 7, 3) := by decide +kernel
theorem dM_string_172 : decode bM_string 172 = .ok (.lload 8, 2) := by decide +kernel
theorem dM_string_174 : decode bM_string 174 = .ok (.lconst 1, 1) := by decide +kernel
theorem dM_string_175 : decode bM_string 175 = .ok (.ladd, 1) := by decide +kernel
theorem dM_string_176 : decode bM_string 176 = .ok (.lreturn, 1) := by decide +kernel
theorem dM_balusters_0 : decode bM_balusters 0 = .ok (.aload_n 0, 1) := by decide +kernel
theorem dM_balusters_1 : decode bM_balusters 1 = .ok (.invokevirtual 107, 3) := by decide +kernel
theorem dM_balusters_4 : decode bM_balusters 4 = .ok (.ifCond .eq 5, 3) := by decide +kernel
theorem dM_balusters_7 : decode bM_balusters 7 = .ok (.iconst 0, 1) := by decide +kernel
theorem dM_balusters_8 : decode bM_balusters 8 = .ok (.ireturn, 1) := by decide +kernel
theorem dM_balusters_9 : decode bM_balusters 9 = .ok (.aload_n 0, 1) := by decide +kernel
theorem dM_balusters_10 : decode bM_balusters 10 = .ok (.lload_n 1, 1) := by decide +kernel
theorem dM_balusters_11 : decode bM_balusters 11 = .ok (.lconst 1, 1) := by decide +kernel
theorem dM_balusters_12 : decode bM_balusters 12 = .ok (.ldc2_w 147, 3) := by decide +kernel
theorem dM_balusters_15 : decode bM_balusters 15 = .ok (.invokestatic 35, 3) := by decide +kernel
theorem dM_balusters_18 : decode bM_balusters 18 = .ok (.ifCond .eq 13, 3) := by decide +kernel
theorem dM_balusters_21 : decode bM_balusters 21 = .ok (.lload_n 3, 1) := by decide +kernel
theorem dM_balusters_22 : decode bM_balusters 22 = .ok (.lconst 0, 1) := by decide +kernel
theorem dM_balusters_23 : decode bM_balusters 23 = .ok (.lcmp, 1) := by decide +kernel
theorem dM_balusters_24 : decode bM_balusters 24 = .ok (.ifCond .lt 7, 3) := by decide +kernel
theorem dM_balusters_27 : decode bM_balusters 27 = .ok (.iconst 0, 1) := by decide +kernel
theorem dM_balusters_28 : decode bM_balusters 28 = .ok (.goto 4, 3) := by decide +kernel
theorem dM_balusters_31 : decode bM_balusters 31 = .ok (.iconst 2, 1) := by decide +kernel
theorem dM_balusters_32 : decode bM_balusters 32 = .ok (.putfield 29, 3) := by decide +kernel
theorem dM_balusters_35 : decode bM_balusters 35 = .ok (.aload_n 0, 1) := by decide +kernel
theorem dM_balusters_36 : decode bM_balusters 36 = .ok (.getfield 29, 3) := by decide +kernel
theorem dM_balusters_39 : decode bM_balusters 39 = .ok (.ifCond .le 5, 3) := by decide +kernel
theorem dM_balusters_42 : decode bM_balusters 42 = .ok (.iconst 0, 1) := by decide +kernel
theorem dM_balusters_43 : decode bM_balusters 43 = .ok (.ireturn, 1) := by decide +kernel
theorem dM_balusters_44 : decode bM_balusters 44 = .ok (.aload_n 0, 1) := by decide +kernel
theorem dM_balusters_45 : decode bM_balusters 45 = .ok (.iconst 0, 1) := by decide +kernel
theorem dM_balusters_46 : decode bM_balusters 46 = .ok (.putfield 104, 3) := by decide +kernel
theorem dM_balusters_49 : decode bM_balusters 49 = .ok (.aload_n 0, 1) := by decide +kernel
theorem dM_balusters_50 : decode bM_balusters 50 = .ok (.getfield 101, 3) := by decide +kernel
theorem dM_balusters_53 : decode bM_balusters 53 = .ok (.i2l, 1) := by decide +kernel
theorem dM_balusters_54 : decode bM_balusters 54 = .ok (.lconst 1, 1) := by decide +kernel
theorem dM_balusters_55 : decode bM_balusters 55 = .ok (.lsub, 1) := by decide +kernel
theorem dM_balusters_56 : decode bM_balusters 56 = .ok (.aload_n 0, 1) := by decide +kernel
theorem dM_balusters_57 : decode bM_balusters 57 = .ok (.getfield 95, 3) := by decide +kernel
theorem dM_balusters_60 : decode bM_balusters 60 = .ok (.lmul, 1) := by decide +kernel
theorem dM_balusters_61 : decode bM_balusters 61 = .ok (.lstore 5, 2) := by decide +kernel
theorem dM_balusters_63 : decode bM_balusters 63 = .ok (.iconst 0, 1) := by decide +kernel
theorem dM_balusters_64 : decode bM_balusters 64 = .ok (.istore 7, 2) := by decide +kernel
theorem dM_balusters_66 : decode bM_balusters 66 = .ok (.iload 7, 2) := by decide +kernel
theorem dM_balusters_68 : decode bM_balusters 68 = .ok (.sipush 1000, 3) := by decide +kernel
theorem dM_balusters_71 : decode bM_balusters 71 = .ok (.if_icmp .gt 118, 3) := by decide +kernel
theorem dM_balusters_74 : decode bM_balusters 74 = .ok (.lload 5, 2) := by decide +kernel
theorem dM_balusters_76 : decode bM_balusters 76 = .ok (.iload 7, 2) := by decide +kernel
theorem dM_balusters_78 : decode bM_balusters 78 = .ok (.i2l, 1) := by decide +kernel
theorem dM_balusters_79 : decode bM_balusters 79 = .ok (.lload_n 1, 1) := by decide +kernel
theorem dM_balusters_80 : decode bM_balusters 80 = .ok (.lmul, 1) := by decide +kernel
theorem dM_balusters_81 : decode bM_balusters 81 = .ok (.lsub, 1) := by decide +kernel
theorem dM_balusters_82 : decode bM_balusters 82 = .ok (.lstore 8, 2) := by decide +kernel
theorem dM_balusters_84 : decode bM_balusters 84 = .ok (.lload 8, 2) := by decide +kernel
theorem dM_balusters_86 : decode bM_balusters 86 = .ok (.lconst 0, 1) := by decide +kernel
theorem dM_balusters_87 : decode bM_balusters 87 = .ok (.lcmp, 1) := by decide +kernel
theorem dM_balusters_88 : decode bM_balusters 88 = .ok (.ifCond .lt 46, 3) := by decide +kernel
theorem dM_balusters_91 : decode bM_balusters 91 = .ok (.lload 8, 2) := by decide +kernel
theorem dM_balusters_93 : decode bM_balusters 93 = .ok (.iload 7, 2) := by decide +kernel
theorem dM_balusters_95 : decode bM_balusters 95 = .ok (.iconst 1, 1) := by decide +kernel
theorem dM_balusters_96 : decode bM_balusters 96 = .ok (.iadd, 1) := by decide +kernel
theorem dM_balusters_97 : decode bM_balusters 97 = .ok (.i2l, 1) := by decide +kernel
theorem dM_balusters_98 : decode bM_balusters 98 = .ok (.lrem, 1) := by decide +kernel
theorem dM_balusters_99 : decode bM_balusters 99 = .ok (.lconst 0, 1) := by decide +kernel
theorem dM_balusters_100 : decode bM_balusters 100 = .ok (.lcmp, 1) := by decide +kernel
theorem dM_balusters_101 : decode bM_balusters 101 = .ok (.ifCond .ne 14, 3) := by decide +kernel
theorem dM_balusters_104 : decode bM_balusters 104 = .ok (.lload 8, 2) := by decide +kernel
theorem dM_balusters_106 : decode bM_balusters 106 = .ok (.iload 7, 2) := by decide +kernel
theorem dM_balusters_108 : decode bM_balusters 108 = .ok (.iconst 1, 1) := by decide +kernel
theorem dM_balusters_109 : decode bM_balusters 109 = .ok (.iadd, 1) := by decide +kernel
theorem dM_balusters_110 : decode bM_balusters 110 = .ok (.i2l, 1) := by decide +kernel
theorem dM_balusters_111 : decode bM_balusters 111 = .ok (.ldiv, 1) := by decide +kernel
theorem dM_balusters_112 : decode bM_balusters 112 = .ok (.goto 13, 3) := by decide +kernel
theorem dM_balusters_115 : decode bM_balusters 115 = .ok (.lload 8, 2) := by decide +kernel
theorem dM_balusters_117 : decode bM_balusters 117 = .ok (.iload 7, 2) := by decide +kernel
theorem dM_balusters_119 : decode bM_balusters 119 = .ok (.iconst 1, 1) := by decide +kernel
theorem dM_balusters_120 : decode bM_balusters 120 = .ok (.iadd, 1) := by decide +kernel
theorem dM_balusters_121 : decode bM_balusters 121 = .ok (.i2l, 1) := by decide +kernel
theorem dM_balusters_122 : decode bM_balusters 122 = .ok (.ldiv, 1) := by decide +kernel
theorem dM_balusters_123 : decode bM_balusters 123 = .ok (.lconst 1, 1) := by decide +kernel
theorem dM_balusters_124 : decode bM_balusters 124 = .ok (.ladd, 1) := by decide +kernel
theorem dM_balusters_125 : decode bM_balusters 125 = .ok (.lload_n 3, 1) := by decide +kernel
theorem dM_balusters_126 : decode bM_balusters 126 = .ok (.lcmp, 1) := by decide +kernel
theorem dM_balusters_127 : decode bM_balusters 127 = .ok (.ifCond .gt 7, 3) := by decide +kernel
theorem dM_balusters_130 : decode bM_balusters 130 = .ok (.iconst 1, 1) := by decide +kernel
theorem dM_balusters_131 : decode bM_balusters 131 = .ok (.goto 4, 3) := by decide +kernel
theorem dM_balusters_134 : decode bM_balusters 134 = .ok (.iconst 0, 1) := by decide +kernel
theorem dM_balusters_135 : decode bM_balusters 135 = .ok (.istore 10, 2) := by decide +kernel
theorem dM_balusters_137 : decode bM_balusters 137 = .ok (.iload 10, 2) := by decide +kernel
theorem dM_balusters_139 : decode bM_balusters 139 = .ok (.ifCond .eq 44, 3) := by decide +kernel
theorem dM_balusters_142 : decode bM_balusters 142 = .ok (.aload_n 0, 1) := by decide +kernel
theorem dM_balusters_143 : decode bM_balusters 143 = .ok (.iconst 1, 1) := by decide +kernel
theorem dM_balusters_144 : decode bM_balusters 144 = .ok (.putfield 104, 3) := by decide +kernel
theorem dM_balusters_147 : decode bM_balusters 147 = .ok (.lload 8, 2) := by decide +kernel
theorem dM_balusters_149 : decode bM_balusters 149 = .ok (.iload 7, 2) := by decide +kernel
theorem dM_balusters_151 : decode bM_balusters 151 = .ok (.i2l, 1) := by decide +kernel
theorem dM_balusters_152 : decode bM_balusters 152 = .ok (.lconst 1, 1) := by decide +kernel
theorem dM_balusters_153 : decode bM_balusters 153 = .ok (.ladd, 1) := by decide +kernel
theorem dM_balusters_154 : decode bM_balusters 154 = .ok (.invokestatic 110, 3) := by decide +kernel
theorem dM_balusters_157 : decode bM_balusters 157 = .ok (.lstore 11, 2) := by decide +kernel
theorem dM_balusters_159 : decode bM_balusters 159 = .ok (.aload_n 0, 1) := by decide +kernel
theorem dM_balusters_160 : decode bM_balusters 160 = .ok (.lload 8, 2) := by decide +kernel
theorem dM_balusters_162 : decode bM_balusters 162 = .ok (.lload 11, 2) := by decide +kernel
theorem dM_balusters_164 : decode bM_balusters 164 = .ok (.ldiv, 1) := by decide +kernel
theorem dM_balusters_165 : decode bM_balusters 165 = .ok (.putfield 149, 3) := by decide +kernel
theorem dM_balusters_168 : decode bM_balusters 168 = .ok (.aload_n 0, 1) := by decide +kernel
theorem dM_balusters_169 : decode bM_balusters 169 = .ok (.iload 7, 2) := by decide +kernel
theorem dM_balusters_171 : decode bM_balusters 171 = .ok (.i2l, 1) := by decide +kernel
theorem dM_balusters_172 : decode bM_balusters 172 = .ok (.lconst 1, 1) := by decide +kernel
theorem dM_balusters_173 : decode bM_balusters 173 = .ok (.ladd, 1) := by decide +kernel
theorem dM_balusters_174 : decode bM_balusters 174 = .ok (.lload 11, 2) := by decide +kernel
theorem dM_balusters_176 : decode bM_balusters 176 = .ok (.ldiv, 1) := by decide +kernel
theorem dM_balusters_177 : decode bM_balusters 177 = .ok (.putfield 152, 3) := by decide +kernel
theorem dM_balusters_180 : decode bM_balusters 180 = .ok (.iload 7, 2) := by decide +kernel
theorem dM_balusters_182 : decode bM_balusters 182 = .ok (.ireturn, 1) := by decide +kernel
theorem dM_balusters_183 : decode bM_balusters 183 = .ok (.iinc 7 1, 3) := by decide +kernel
theorem dM_balusters_186 : decode bM_balusters 186 = .ok (.goto (-120), 3) := by decide +kernel
theorem dM_balusters_189 : decode bM_balusters 189 = .ok (.iconst (-1), 1) := by decide +kernel
theorem dM_balusters_190 : decode bM_balusters 190 = .ok (.ireturn, 1) := by decide +kernel
theorem dM_gap_0 : decode bM_gap 0 = .ok (.aload_n 0, 1) := by decide +kernel
theorem dM_gap_1 : decode bM_gap 1 = .ok (.aload_n 0, 1) := by decide +kernel
theorem dM_gap_2 : decode bM_gap 2 = .ok (.getfield 39, 3) := by decide +kernel
theorem dM_gap_5 : decode bM_gap 5 = .ok (.ifCond .eq 10, 3) := by decide +kernel
theorem dM_gap_8 : decode bM_gap 8 = .ok (.aload_n 0, 1) := by decide +kernel
theorem dM_gap_9 : decode bM_gap 9 = .ok (.getfield 104, 3) := by decide +kernel
theorem dM_gap_12 : decode bM_gap 12 = .ok (.ifCond .ne 7, 3) := by decide +kernel
theorem dM_gap_15 : decode bM_gap 15 = .ok (.iconst 1, 1) := by decide +kernel
theorem dM_gap_16 : decode bM_gap 16 = .ok (.goto 18, 3) := by decide +kernel
theorem dM_gap_19 : decode bM_gap 19 = .ok (.iload_n 1, 1) := by decide +kernel
theorem dM_gap_20 : decode bM_gap 20 = .ok (.i2l, 1) := by decide +kernel
theorem dM_gap_21 : decode bM_gap 21 = .ok (.lconst 0, 1) := by decide +kernel
theorem dM_gap_22 : decode bM_gap 22 = .ok (.lconst 1, 1) := by decide +kernel
theorem dM_gap_23 : decode bM_gap 23 = .ok (.invokestatic 35, 3) := by decide +kernel
theorem dM_gap_26 : decode bM_gap 26 = .ok (.ifCond .eq 7, 3) := by decide +kernel
theorem dM_gap_29 : decode bM_gap 29 = .ok (.iconst 0, 1) := by decide +kernel
theorem dM_gap_30 : decode bM_gap 30 = .ok (.goto 4, 3) := by decide +kernel
theorem dM_gap_33 : decode bM_gap 33 = .ok (.iconst 2, 1) := by decide +kernel
theorem dM_gap_34 : decode bM_gap 34 = .ok (.putfield 29, 3) := by decide +kernel
theorem dM_gap_37 : decode bM_gap 37 = .ok (.aload_n 0, 1) := by decide +kernel
theorem dM_gap_38 : decode bM_gap 38 = .ok (.getfield 29, 3) := by decide +kernel
theorem dM_gap_41 : decode bM_gap 41 = .ok (.ifCond .le 7, 3) := by decide +kernel
theorem dM_gap_44 : decode bM_gap 44 = .ok (.lconst 0, 1) := by decide +kernel
theorem dM_gap_45 : decode bM_gap 45 = .ok (.goto 18, 3) := by decide +kernel
theorem dM_gap_48 : decode bM_gap 48 = .ok (.iload_n 1, 1) := by decide +kernel
theorem dM_gap_49 : decode bM_gap 49 = .ok (.ifCond .ne 10, 3) := by decide +kernel
theorem dM_gap_52 : decode bM_gap 52 = .ok (.aload_n 0, 1) := by decide +kernel
theorem dM_gap_53 : decode bM_gap 53 = .ok (.getfield 149, 3) := by decide +kernel
theorem dM_gap_56 : decode bM_gap 56 = .ok (.goto 7, 3) := by decide +kernel
theorem dM_gap_59 : decode bM_gap 59 = .ok (.aload_n 0, 1) := by decide +kernel
theorem dM_gap_60 : decode bM_gap 60 = .ok (.getfield 152, 3) := by decide +kernel
theorem dM_gap_63 : decode bM_gap 63 = .ok (.lreturn, 1) := by decide +kernel
theorem dM_list_0 : decode bM_list 0 = .ok (.aload_n 0, 1) := by decide +kernel
theorem dM_list_1 : decode bM_list 1 = .ok (.invokevirtual 107, 3) := by decide +kernel
theorem dM_list_4 : decode bM_list 4 = .ok (.ifCond .eq 5, 3) := by decide +kernel
theorem dM_list_7 : decode bM_list 7 = .ok (.iconst 0, 1) := by decide +kernel
theorem dM_list_8 : decode bM_list 8 = .ok (.ireturn, 1) := by decide +kernel
theorem dM_list_9 : decode bM_list 9 = .ok (.aload_n 0, 1) := by decide +kernel
theorem dM_list_10 : decode bM_list 10 = .ok (.iload_n 1, 1) := by decide +kernel
theorem dM_list_11 : decode bM_list 11 = .ok (.i2l, 1) := by decide +kernel
theorem dM_list_12 : decode bM_list 12 = .ok (.lconst 0, 1) := by decide +kernel
theorem dM_list_13 : decode bM_list 13 = .ok (.ldc2_w 132, 3) := by decide +kernel
theorem dM_list_16 : decode bM_list 16 = .ok (.invokestatic 35, 3) := by decide +kernel
theorem dM_list_19 : decode bM_list 19 = .ok (.ifCond .eq 7, 3) := by decide +kernel
theorem dM_list_22 : decode bM_list 22 = .ok (.iconst 0, 1) := by decide +kernel
theorem dM_list_23 : decode bM_list 23 = .ok (.goto 4, 3) := by decide +kernel
theorem dM_list_26 : decode bM_list 26 = .ok (.iconst 2, 1) := by decide +kernel
theorem dM_list_27 : decode bM_list 27 = .ok (.putfield 29, 3) := by decide +kernel
theorem dM_list_30 : decode bM_list 30 = .ok (.aload_n 0, 1) := by decide +kernel
theorem dM_list_31 : decode bM_list 31 = .ok (.getfield 29, 3) := by decide +kernel
theorem dM_list_34 : decode bM_list 34 = .ok (.ifCond .le 5, 3) := by decide +kernel
theorem dM_list_37 : decode bM_list 37 = .ok (.iconst 0, 1) := by decide +kernel
theorem dM_list_38 : decode bM_list 38 = .ok (.ireturn, 1) := by decide +kernel
theorem dM_list_39 : decode bM_list 39 = .ok (.iload_n 1, 1) := by decide +kernel
theorem dM_list_40 : decode bM_list 40 = .ok (.ifCond .ne 17, 3) := by decide +kernel
theorem dM_list_43 : decode bM_list 43 = .ok (.aload_n 0, 1) := by decide +kernel
theorem dM_list_44 : decode bM_list 44 = .ok (.getfield 101, 3) := by decide +kernel
theorem dM_list_47 : decode bM_list 47 = .ok (.iconst 1, 1) := by decide +kernel
theorem dM_list_48 : decode bM_list 48 = .ok (.isub, 1) := by decide +kernel
theorem dM_list_49 : decode bM_list 49 = .ok (.aload_n 0, 1) := by decide +kernel
theorem dM_list_50 : decode bM_list 50 = .ok (.invokevirtual 117, 3) := by decide +kernel
theorem dM_list_53 : decode bM_list 53 = .ok (.isub, 1) := by decide +kernel
theorem dM_list_54 : decode bM_list 54 = .ok (.goto 49, 3) := by decide +kernel
theorem dM_list_57 : decode bM_list 57 = .ok (.iload_n 1, 1) := by decide +kernel
theorem dM_list_58 : decode bM_list 58 = .ok (.iconst 1, 1) := by decide +kernel
theorem dM_list_59 : decode bM_list 59 = .ok (.if_icmp .ne 19, 3) := by decide +kernel
theorem dM_list_62 : decode bM_list 62 = .ok (.aload_n 0, 1) := by decide +kernel
theorem dM_list_63 : decode bM_list 63 = .ok (.getfield 92, 3) := by decide +kernel
theorem dM_list_66 : decode bM_list 66 = .ok (.iconst 1, 1) := by decide +kernel
theorem dM_list_67 : decode bM_list 67 = .ok (.if_icmp .ne 7, 3) := by decide +kernel
theorem dM_list_70 : decode bM_list 70 = .ok (.iconst 1, 1) := by decide +kernel
theorem dM_list_71 : decode bM_list 71 = .ok (.goto 32, 3) := by decide +kernel
theorem dM_list_74 : decode bM_list 74 = .ok (.iconst 0, 1) := by decide +kernel
theorem dM_list_75 : decode bM_list 75 = .ok (.goto 28, 3) := by decide +kernel
theorem dM_list_78 : decode bM_list 78 = .ok (.iload_n 1, 1) := by decide +kernel
theorem dM_list_79 : decode bM_list 79 = .ok (.iconst 2, 1) := by decide +kernel
theorem dM_list_80 : decode bM_list 80 = .ok (.if_icmp .ne 19, 3) := by decide +kernel
theorem dM_list_83 : decode bM_list 83 = .ok (.aload_n 0, 1) := by decide +kernel
theorem dM_list_84 : decode bM_list 84 = .ok (.getfield 92, 3) := by decide +kernel
theorem dM_list_87 : decode bM_list 87 = .ok (.iconst 2, 1) := by decide +kernel
theorem dM_list_88 : decode bM_list 88 = .ok (.if_icmp .ne 7, 3) := by decide +kernel
theorem dM_list_91 : decode bM_list 91 = .ok (.iconst 3, 1) := by decide +kernel
theorem dM_list_92 : decode bM_list 92 = .ok (.goto 11, 3) := by decide +kernel
theorem dM_list_95 : decode bM_list 95 = .ok (.iconst 0, 1) := by decide +kernel
theorem dM_list_96 : decode bM_list 96 = .ok (.goto 7, 3) := by decide +kernel
theorem dM_list_99 : decode bM_list 99 = .ok (.aload_n 0, 1) := by decide +kernel
theorem dM_list_100 : decode bM_list 100 = .ok (.getfield 101, 3) := by decide +kernel
theorem dM_list_103 : decode bM_list 103 = .ok (.ireturn, 1) := by decide +kernel
end
section
theorem dL_heights_0 : decode bL_heights 0 = .ok (.aload_n 3, 1) := by decide +kernel
theorem dL_heights_1 : decode bL_heights 1 = .ok (.iconst 0, 1) := by decide +kernel
theorem dL_heights_2 : decode bL_heights 2 = .ok (.aload_n 0, 1) := by decide +kernel
theorem dL_heights_3 : decode bL_heights 3 = .ok (.lload_n 1, 1) := by decide +kernel
theorem dL_heights_4 : decode bL_heights 4 = .ok (.invokevirtual 7, 3) := by decide +kernel
theorem dL_heights_7 : decode bL_heights 7 = .ok (.ifCond .eq 7, 3) := by decide +kernel
theorem dL_heights_10 : decode bL_heights 10 = .ok (.lconst 1, 1) := by decide +kernel
theorem dL_heights_11 : decode bL_heights 11 = .ok (.goto 4, 3) := by decide +kernel
theorem dL_heights_14 : decode bL_heights 14 = .ok (.lconst 0, 1) := by decide +kernel
theorem dL_heights_15 : decode bL_heights 15 = .ok (.lastore, 1) := by decide +kernel
theorem dL_heights_16 : decode bL_heights 16 = .ok (.goto 7, 3) := by decide +kernel
theorem dL_heights_19 : decode bL_heights 19 = .ok (.astore 4, 2) := by decide +kernel
theorem dL_heights_21 : decode bL_heights 21 = .ok (.iconst 1, 1) := by decide +kernel
theorem dL_heights_22 : decode bL_heights 22 = .ok (.ireturn, 1) := by decide +kernel
theorem dL_heights_23 : decode bL_heights 23 = .ok (.iconst 0, 1) := by decide +kernel
theorem dL_heights_24 : decode bL_heights 24 = .ok (.ireturn, 1) := by decide +kernel
theorem dL_run_0 : decode bL_run 0 = .ok (.aload 6, 2) := by decide +kernel
theorem dL_run_2 : decode bL_run 2 = .ok (.iconst 0, 1) := by decide +kernel
theorem dL_run_3 : decode bL_run 3 = .ok (.aload_n 0, 1) := by decide +kernel
theorem dL_run_4 : decode bL_run 4 = .ok (.iload_n 1, 1) := by decide +kernel
theorem dL_run_5 : decode bL_run 5 = .ok (.lload_n 2, 1) := by decide +kernel
theorem dL_run_6 : decode bL_run 6 = .ok (.lload 4, 2) := by decide +kernel
theorem dL_run_8 : decode bL_run 8 = .ok (.invokevirtual 15, 3) := by decide +kernel
theorem dL_run_11 : decode bL_run 11 = .ok (.i2l, 1) := by decide +kernel
theorem dL_run_12 : decode bL_run 12 = .ok (.lastore, 1) := by decide +kernel
theorem dL_run_13 : decode bL_run 13 = .ok (.goto 11, 3) := by decide +kernel
theorem dL_run_16 : decode bL_run 16 = .ok (.astore 7, 2) := by decide +kernel
theorem dL_run_18 : decode bL_run 18 = .ok (.iconst 1, 1) := by decide +kernel
theorem dL_run_19 : decode bL_run 19 = .ok (.ireturn, 1) := by decide +kernel
theorem dL_run_20 : decode bL_run 20 = .ok (.astore 7, 2) := by decide +kernel
theorem dL_run_22 : decode bL_run 22 = .ok (.iconst 2, 1) := by decide +kernel
theorem dL_run_23 : decode bL_run 23 = .ok (.ireturn, 1) := by decide +kernel
theorem dL_run_24 : decode bL_run 24 = .ok (.iconst 0, 1) := by decide +kernel
theorem dL_run_25 : decode bL_run 25 = .ok (.ireturn, 1) := by decide +kernel
theorem dL_rise_0 : decode bL_rise 0 = .ok (.aload_n 2, 1) := by decide +kernel
theorem dL_rise_1 : decode bL_rise 1 = .ok (.iconst 0, 1) := by decide +kernel
theorem dL_rise_2 : decode bL_rise 2 = .ok (.aload_n 0, 1) := by decide +kernel
theorem dL_rise_3 : decode bL_rise 3 = .ok (.iload_n 1, 1) := by decide +kernel
theorem dL_rise_4 : decode bL_rise 4 = .ok (.invokevirtual 21, 3) := by decide +kernel
theorem dL_rise_7 : decode bL_rise 7 = .ok (.lastore, 1) := by decide +kernel
theorem dL_rise_8 : decode bL_rise 8 = .ok (.goto 9, 3) := by decide +kernel
theorem dL_rise_11 : decode bL_rise 11 = .ok (.astore_n 3, 1) := by decide +kernel
theorem dL_rise_12 : decode bL_rise 12 = .ok (.iconst 1, 1) := by decide +kernel
theorem dL_rise_13 : decode bL_rise 13 = .ok (.ireturn, 1) := by decide +kernel
theorem dL_rise_14 : decode bL_rise 14 = .ok (.astore_n 3, 1) := by decide +kernel
theorem dL_rise_15 : decode bL_rise 15 = .ok (.iconst 2, 1) := by decide +kernel
theorem dL_rise_16 : decode bL_rise 16 = .ok (.ireturn, 1) := by decide +kernel
theorem dL_rise_17 : decode bL_rise 17 = .ok (.iconst 0, 1) := by decide +kernel
theorem dL_rise_18 : decode bL_rise 18 = .ok (.ireturn, 1) := by decide +kernel
theorem dL_step_0 : decode bL_step 0 = .ok (.aload_n 3, 1) := by decide +kernel
theorem dL_step_1 : decode bL_step 1 = .ok (.iconst 0, 1) := by decide +kernel
theorem dL_step_2 : decode bL_step 2 = .ok (.aload_n 0, 1) := by decide +kernel
theorem dL_step_3 : decode bL_step 3 = .ok (.iload_n 1, 1) := by decide +kernel
theorem dL_step_4 : decode bL_step 4 = .ok (.iload_n 2, 1) := by decide +kernel
theorem dL_step_5 : decode bL_step 5 = .ok (.invokevirtual 27, 3) := by decide +kernel
theorem dL_step_8 : decode bL_step 8 = .ok (.lastore, 1) := by decide +kernel
theorem dL_step_9 : decode bL_step 9 = .ok (.goto 15, 3) := by decide +kernel
theorem dL_step_12 : decode bL_step 12 = .ok (.astore 4, 2) := by decide +kernel
theorem dL_step_14 : decode bL_step 14 = .ok (.iconst 1, 1) := by decide +kernel
theorem dL_step_15 : decode bL_step 15 = .ok (.ireturn, 1) := by decide +kernel
theorem dL_step_16 : decode bL_step 16 = .ok (.astore 4, 2) := by decide +kernel
theorem dL_step_18 : decode bL_step 18 = .ok (.iconst 2, 1) := by decide +kernel
theorem dL_step_19 : decode bL_step 19 = .ok (.ireturn, 1) := by decide +kernel
theorem dL_step_20 : decode bL_step 20 = .ok (.astore 4, 2) := by decide +kernel
theorem dL_step_22 : decode bL_step 22 = .ok (.iconst 3, 1) := by decide +kernel
theorem dL_step_23 : decode bL_step 23 = .ok (.ireturn, 1) := by decide +kernel
theorem dL_step_24 : decode bL_step 24 = .ok (.iconst 0, 1) := by decide +kernel
theorem dL_step_25 : decode bL_step 25 = .ok (.ireturn, 1) := by decide +kernel
theorem dL_winder_0 : decode bL_winder 0 = .ok (.aload_n 3, 1) := by decide +kernel
theorem dL_winder_1 : decode bL_winder 1 = .ok (.iconst 0, 1) := by decide +kernel
theorem dL_winder_2 : decode bL_winder 2 = .ok (.aload_n 0, 1) := by decide +kernel
theorem dL_winder_3 : decode bL_winder 3 = .ok (.iload_n 1, 1) := by decide +kernel
theorem dL_winder_4 : decode bL_winder 4 = .ok (.iload_n 2, 1) := by decide +kernel
theorem dL_winder_5 : decode bL_winder 5 = .ok (.invokevirtual 31, 3) := by decide +kernel
theorem dL_winder_8 : decode bL_winder 8 = .ok (.lastore, 1) := by decide +kernel
theorem dL_winder_9 : decode bL_winder 9 = .ok (.goto 11, 3) := by decide +kernel
theorem dL_winder_12 : decode bL_winder 12 = .ok (.astore 4, 2) := by decide +kernel
theorem dL_winder_14 : decode bL_winder 14 = .ok (.iconst 1, 1) := by decide +kernel
theorem dL_winder_15 : decode bL_winder 15 = .ok (.ireturn, 1) := by decide +kernel
theorem dL_winder_16 : decode bL_winder 16 = .ok (.astore 4, 2) := by decide +kernel
theorem dL_winder_18 : decode bL_winder 18 = .ok (.iconst 2, 1) := by decide +kernel
theorem dL_winder_19 : decode bL_winder 19 = .ok (.ireturn, 1) := by decide +kernel
theorem dL_winder_20 : decode bL_winder 20 = .ok (.iconst 0, 1) := by decide +kernel
theorem dL_winder_21 : decode bL_winder 21 = .ok (.ireturn, 1) := by decide +kernel
theorem dL_area_0 : decode bL_area 0 = .ok (.aload_n 2, 1) := by decide +kernel
theorem dL_area_1 : decode bL_area 1 = .ok (.iconst 0, 1) := by decide +kernel
theorem dL_area_2 : decode bL_area 2 = .ok (.aload_n 0, 1) := by decide +kernel
theorem dL_area_3 : decode bL_area 3 = .ok (.iload_n 1, 1) := by decide +kernel
theorem dL_area_4 : decode bL_area 4 = .ok (.invokevirtual 34, 3) := by decide +kernel
theorem dL_area_7 : decode bL_area 7 = .ok (.lastore, 1) := by decide +kernel
theorem dL_area_8 : decode bL_area 8 = .ok (.goto 9, 3) := by decide +kernel
theorem dL_area_11 : decode bL_area 11 = .ok (.astore_n 3, 1) := by decide +kernel
theorem dL_area_12 : decode bL_area 12 = .ok (.iconst 1, 1) := by decide +kernel
theorem dL_area_13 : decode bL_area 13 = .ok (.ireturn, 1) := by decide +kernel
theorem dL_area_14 : decode bL_area 14 = .ok (.astore_n 3, 1) := by decide +kernel
theorem dL_area_15 : decode bL_area 15 = .ok (.iconst 2, 1) := by decide +kernel
theorem dL_area_16 : decode bL_area 16 = .ok (.ireturn, 1) := by decide +kernel
theorem dL_area_17 : decode bL_area 17 = .ok (.iconst 0, 1) := by decide +kernel
theorem dL_area_18 : decode bL_area 18 = .ok (.ireturn, 1) := by decide +kernel
theorem dL_meets_0 : decode bL_meets 0 = .ok (.aload_n 2, 1) := by decide +kernel
theorem dL_meets_1 : decode bL_meets 1 = .ok (.iconst 0, 1) := by decide +kernel
theorem dL_meets_2 : decode bL_meets 2 = .ok (.aload_n 0, 1) := by decide +kernel
theorem dL_meets_3 : decode bL_meets 3 = .ok (.iload_n 1, 1) := by decide +kernel
theorem dL_meets_4 : decode bL_meets 4 = .ok (.invokevirtual 37, 3) := by decide +kernel
theorem dL_meets_7 : decode bL_meets 7 = .ok (.ifCond .eq 7, 3) := by decide +kernel
theorem dL_meets_10 : decode bL_meets 10 = .ok (.lconst 1, 1) := by decide +kernel
theorem dL_meets_11 : decode bL_meets 11 = .ok (.goto 4, 3) := by decide +kernel
theorem dL_meets_14 : decode bL_meets 14 = .ok (.lconst 0, 1) := by decide +kernel
theorem dL_meets_15 : decode bL_meets 15 = .ok (.lastore, 1) := by decide +kernel
theorem dL_meets_16 : decode bL_meets 16 = .ok (.goto 9, 3) := by decide +kernel
theorem dL_meets_19 : decode bL_meets 19 = .ok (.astore_n 3, 1) := by decide +kernel
theorem dL_meets_20 : decode bL_meets 20 = .ok (.iconst 1, 1) := by decide +kernel
theorem dL_meets_21 : decode bL_meets 21 = .ok (.ireturn, 1) := by decide +kernel
theorem dL_meets_22 : decode bL_meets 22 = .ok (.astore_n 3, 1) := by decide +kernel
theorem dL_meets_23 : decode bL_meets 23 = .ok (.iconst 2, 1) := by decide +kernel
theorem dL_meets_24 : decode bL_meets 24 = .ok (.ireturn, 1) := by decide +kernel
theorem dL_meets_25 : decode bL_meets 25 = .ok (.iconst 0, 1) := by decide +kernel
theorem dL_meets_26 : decode bL_meets 26 = .ok (.ireturn, 1) := by decide +kernel
theorem dL_floor_0 : decode bL_floor 0 = .ok (.aload 11, 2) := by decide +kernel
theorem dL_floor_2 : decode bL_floor 2 = .ok (.iconst 0, 1) := by decide +kernel
theorem dL_floor_3 : decode bL_floor 3 = .ok (.aload_n 0, 1) := by decide +kernel
theorem dL_floor_4 : decode bL_floor 4 = .ok (.lload_n 1, 1) := by decide +kernel
theorem dL_floor_5 : decode bL_floor 5 = .ok (.lload_n 3, 1) := by decide +kernel
theorem dL_floor_6 : decode bL_floor 6 = .ok (.lload 5, 2) := by decide +kernel
theorem dL_floor_8 : decode bL_floor 8 = .ok (.lload 7, 2) := by decide +kernel
theorem dL_floor_10 : decode bL_floor 10 = .ok (.lload 9, 2) := by decide +kernel
theorem dL_floor_12 : decode bL_floor 12 = .ok (.invokevirtual 41, 3) := by decide +kernel
theorem dL_floor_15 : decode bL_floor 15 = .ok (.ifCond .eq 7, 3) := by decide +kernel
theorem dL_floor_18 : decode bL_floor 18 = .ok (.lconst 1, 1) := by decide +kernel
theorem dL_floor_19 : decode bL_floor 19 = .ok (.goto 4, 3) := by decide +kernel
theorem dL_floor_22 : decode bL_floor 22 = .ok (.lconst 0, 1) := by decide +kernel
theorem dL_floor_23 : decode bL_floor 23 = .ok (.lastore, 1) := by decide +kernel
theorem dL_floor_24 : decode bL_floor 24 = .ok (.goto 7, 3) := by decide +kernel
theorem dL_floor_27 : decode bL_floor 27 = .ok (.astore 12, 2) := by decide +kernel
theorem dL_floor_29 : decode bL_floor 29 = .ok (.iconst 1, 1) := by decide +kernel
theorem dL_floor_30 : decode bL_floor 30 = .ok (.ireturn, 1) := by decide +kernel
theorem dL_floor_31 : decode bL_floor 31 = .ok (.iconst 0, 1) := by decide +kernel
theorem dL_floor_32 : decode bL_floor 32 = .ok (.ireturn, 1) := by decide +kernel
theorem dL_headRoom_0 : decode bL_headRoom 0 = .ok (.aload_n 1, 1) := by decide +kernel
theorem dL_headRoom_1 : decode bL_headRoom 1 = .ok (.iconst 0, 1) := by decide +kernel
theorem dL_headRoom_2 : decode bL_headRoom 2 = .ok (.aload_n 0, 1) := by decide +kernel
theorem dL_headRoom_3 : decode bL_headRoom 3 = .ok (.invokevirtual 45, 3) := by decide +kernel
theorem dL_headRoom_6 : decode bL_headRoom 6 = .ok (.lastore, 1) := by decide +kernel
theorem dL_headRoom_7 : decode bL_headRoom 7 = .ok (.goto 6, 3) := by decide +kernel
theorem dL_headRoom_10 : decode bL_headRoom 10 = .ok (.astore_n 2, 1) := by decide +kernel
theorem dL_headRoom_11 : decode bL_headRoom 11 = .ok (.iconst 1, 1) := by decide +kernel
theorem dL_headRoom_12 : decode bL_headRoom 12 = .ok (.ireturn, 1) := by decide +kernel
theorem dL_headRoom_13 : decode bL_headRoom 13 = .ok (.iconst 0, 1) := by decide +kernel
theorem dL_headRoom_14 : decode bL_headRoom 14 = .ok (.ireturn, 1) := by decide +kernel
theorem dL_string_0 : decode bL_string 0 = .ok (.aload_n 2, 1) := by decide +kernel
theorem dL_string_1 : decode bL_string 1 = .ok (.iconst 0, 1) := by decide +kernel
theorem dL_string_2 : decode bL_string 2 = .ok (.aload_n 0, 1) := by decide +kernel
theorem dL_string_3 : decode bL_string 3 = .ok (.iload_n 1, 1) := by decide +kernel
theorem dL_string_4 : decode bL_string 4 = .ok (.invokevirtual 49, 3) := by decide +kernel
theorem dL_string_7 : decode bL_string 7 = .ok (.lastore, 1) := by decide +kernel
theorem dL_string_8 : decode bL_string 8 = .ok (.goto 9, 3) := by decide +kernel
theorem dL_string_11 : decode bL_string 11 = .ok (.astore_n 3, 1) := by decide +kernel
theorem dL_string_12 : decode bL_string 12 = .ok (.iconst 1, 1) := by decide +kernel
theorem dL_string_13 : decode bL_string 13 = .ok (.ireturn, 1) := by decide +kernel
theorem dL_string_14 : decode bL_string 14 = .ok (.astore_n 3, 1) := by decide +kernel
theorem dL_string_15 : decode bL_string 15 = .ok (.iconst 2, 1) := by decide +kernel
theorem dL_string_16 : decode bL_string 16 = .ok (.ireturn, 1) := by decide +kernel
theorem dL_string_17 : decode bL_string 17 = .ok (.iconst 0, 1) := by decide +kernel
theorem dL_string_18 : decode bL_string 18 = .ok (.ireturn, 1) := by decide +kernel
theorem dL_balusters_0 : decode bL_balusters 0 = .ok (.aload 5, 2) := by decide +kernel
theorem dL_balusters_2 : decode bL_balusters 2 = .ok (.iconst 0, 1) := by decide +kernel
theorem dL_balusters_3 : decode bL_balusters 3 = .ok (.aload_n 0, 1) := by decide +kernel
theorem dL_balusters_4 : decode bL_balusters 4 = .ok (.lload_n 1, 1) := by decide +kernel
theorem dL_balusters_5 : decode bL_balusters 5 = .ok (.lload_n 3, 1) := by decide +kernel
theorem dL_balusters_6 : decode bL_balusters 6 = .ok (.invokevirtual 52, 3) := by decide +kernel
theorem dL_balusters_9 : decode bL_balusters 9 = .ok (.i2l, 1) := by decide +kernel
theorem dL_balusters_10 : decode bL_balusters 10 = .ok (.lastore, 1) := by decide +kernel
theorem dL_balusters_11 : decode bL_balusters 11 = .ok (.goto 11, 3) := by decide +kernel
theorem dL_balusters_14 : decode bL_balusters 14 = .ok (.astore 6, 2) := by decide +kernel
theorem dL_balusters_16 : decode bL_balusters 16 = .ok (.iconst 1, 1) := by decide +kernel
theorem dL_balusters_17 : decode bL_balusters 17 = .ok (.ireturn, 1) := by decide +kernel
theorem dL_balusters_18 : decode bL_balusters 18 = .ok (.astore 6, 2) := by decide +kernel
theorem dL_balusters_20 : decode bL_balusters 20 = .ok (.iconst 2, 1) := by decide +kernel
theorem dL_balusters_21 : decode bL_balusters 21 = .ok (.ireturn, 1) := by decide +kernel
theorem dL_balusters_22 : decode bL_balusters 22 = .ok (.iconst 0, 1) := by decide +kernel
theorem dL_balusters_23 : decode bL_balusters 23 = .ok (.ireturn, 1) := by decide +kernel
theorem dL_gap_0 : decode bL_gap 0 = .ok (.aload_n 2, 1) := by decide +kernel
theorem dL_gap_1 : decode bL_gap 1 = .ok (.iconst 0, 1) := by decide +kernel
theorem dL_gap_2 : decode bL_gap 2 = .ok (.aload_n 0, 1) := by decide +kernel
theorem dL_gap_3 : decode bL_gap 3 = .ok (.iload_n 1, 1) := by decide +kernel
theorem dL_gap_4 : decode bL_gap 4 = .ok (.invokevirtual 56, 3) := by decide +kernel
theorem dL_gap_7 : decode bL_gap 7 = .ok (.lastore, 1) := by decide +kernel
theorem dL_gap_8 : decode bL_gap 8 = .ok (.goto 9, 3) := by decide +kernel
theorem dL_gap_11 : decode bL_gap 11 = .ok (.astore_n 3, 1) := by decide +kernel
theorem dL_gap_12 : decode bL_gap 12 = .ok (.iconst 1, 1) := by decide +kernel
theorem dL_gap_13 : decode bL_gap 13 = .ok (.ireturn, 1) := by decide +kernel
theorem dL_gap_14 : decode bL_gap 14 = .ok (.astore_n 3, 1) := by decide +kernel
theorem dL_gap_15 : decode bL_gap 15 = .ok (.iconst 2, 1) := by decide +kernel
theorem dL_gap_16 : decode bL_gap 16 = .ok (.ireturn, 1) := by decide +kernel
theorem dL_gap_17 : decode bL_gap 17 = .ok (.iconst 0, 1) := by decide +kernel
theorem dL_gap_18 : decode bL_gap 18 = .ok (.ireturn, 1) := by decide +kernel
theorem dL_list_0 : decode bL_list 0 = .ok (.aload_n 2, 1) := by decide +kernel
theorem dL_list_1 : decode bL_list 1 = .ok (.iconst 0, 1) := by decide +kernel
theorem dL_list_2 : decode bL_list 2 = .ok (.aload_n 0, 1) := by decide +kernel
theorem dL_list_3 : decode bL_list 3 = .ok (.iload_n 1, 1) := by decide +kernel
theorem dL_list_4 : decode bL_list 4 = .ok (.invokevirtual 59, 3) := by decide +kernel
theorem dL_list_7 : decode bL_list 7 = .ok (.i2l, 1) := by decide +kernel
theorem dL_list_8 : decode bL_list 8 = .ok (.lastore, 1) := by decide +kernel
theorem dL_list_9 : decode bL_list 9 = .ok (.goto 9, 3) := by decide +kernel
theorem dL_list_12 : decode bL_list 12 = .ok (.astore_n 3, 1) := by decide +kernel
theorem dL_list_13 : decode bL_list 13 = .ok (.iconst 1, 1) := by decide +kernel
theorem dL_list_14 : decode bL_list 14 = .ok (.ireturn, 1) := by decide +kernel
theorem dL_list_15 : decode bL_list 15 = .ok (.astore_n 3, 1) := by decide +kernel
theorem dL_list_16 : decode bL_list 16 = .ok (.iconst 2, 1) := by decide +kernel
theorem dL_list_17 : decode bL_list 17 = .ok (.ireturn, 1) := by decide +kernel
theorem dL_list_18 : decode bL_list 18 = .ok (.iconst 0, 1) := by decide +kernel
theorem dL_list_19 : decode bL_list 19 = .ok (.ireturn, 1) := by decide +kernel
theorem dL_law_0 : decode code 0 = .ok (.new 8, 3) := by decide +kernel
theorem dL_law_3 : decode code 3 = .ok (.dup, 1) := by decide +kernel
theorem dL_law_4 : decode code 4 = .ok (.invokespecial 63, 3) := by decide +kernel
theorem dL_law_7 : decode code 7 = .ok (.astore_n 1, 1) := by decide +kernel
theorem dL_law_8 : decode code 8 = .ok (.new 64, 3) := by decide +kernel
theorem dL_law_11 : decode code 11 = .ok (.dup, 1) := by decide +kernel
theorem dL_law_12 : decode code 12 = .ok (.invokespecial 66, 3) := by decide +kernel
theorem dL_law_15 : decode code 15 = .ok (.astore_n 2, 1) := by decide +kernel
theorem dL_law_16 : decode code 16 = .ok (.iconst 1, 1) := by decide +kernel
theorem dL_law_17 : decode code 17 = .ok (.newarray .long, 2) := by decide +kernel
theorem dL_law_19 : decode code 19 = .ok (.astore_n 3, 1) := by decide +kernel
theorem dL_law_20 : decode code 20 = .ok (.iconst 0, 1) := by decide +kernel
theorem dL_law_21 : decode code 21 = .ok (.istore 4, 2) := by decide +kernel
theorem dL_law_23 : decode code 23 = .ok (.iload 4, 2) := by decide +kernel
theorem dL_law_25 : decode code 25 = .ok (.aload_n 0, 1) := by decide +kernel
theorem dL_law_26 : decode code 26 = .ok (.arraylength, 1) := by decide +kernel
theorem dL_law_27 : decode code 27 = .ok (.bipush 11, 2) := by decide +kernel
theorem dL_law_29 : decode code 29 = .ok (.isub, 1) := by decide +kernel
theorem dL_law_30 : decode code 30 = .ok (.if_icmp .gt 1298, 3) := by decide +kernel
theorem dL_law_33 : decode code 33 = .ok (.aload_n 0, 1) := by decide +kernel
theorem dL_law_34 : decode code 34 = .ok (.iload 4, 2) := by decide +kernel
theorem dL_law_36 : decode code 36 = .ok (.iaload, 1) := by decide +kernel
theorem dL_law_37 : decode code 37 = .ok (.bipush 15, 2) := by decide +kernel
theorem dL_law_39 : decode code 39 = .ok (.iand, 1) := by decide +kernel
theorem dL_law_40 : decode code 40 = .ok (.tableswitch 1282 0 14 #[76, 171, 196, 209, 353, 408, 475, 542, 597, 660, 941, 984, 1039, 1171, 1226], 76) := by decide +kernel
theorem dL_law_116 : decode code 116 = .ok (.aload_n 1, 1) := by decide +kernel
theorem dL_law_117 : decode code 117 = .ok (.aload_n 0, 1) := by decide +kernel
theorem dL_law_118 : decode code 118 = .ok (.iload 4, 2) := by decide +kernel
theorem dL_law_120 : decode code 120 = .ok (.iconst 1, 1) := by decide +kernel
theorem dL_law_121 : decode code 121 = .ok (.iadd, 1) := by decide +kernel
theorem dL_law_122 : decode code 122 = .ok (.iaload, 1) := by decide +kernel
theorem dL_law_123 : decode code 123 = .ok (.i2l, 1) := by decide +kernel
theorem dL_law_124 : decode code 124 = .ok (.bipush 32, 2) := by decide +kernel
theorem dL_law_126 : decode code 126 = .ok (.lshl, 1) := by decide +kernel
theorem dL_law_127 : decode code 127 = .ok (.aload_n 0, 1) := by decide +kernel
theorem dL_law_128 : decode code 128 = .ok (.iload 4, 2) := by decide +kernel
theorem dL_law_130 : decode code 130 = .ok (.iconst 2, 1) := by decide +kernel
theorem dL_law_131 : decode code 131 = .ok (.iadd, 1) := by decide +kernel
theorem dL_law_132 : decode code 132 = .ok (.iaload, 1) := by decide +kernel
theorem dL_law_133 : decode code 133 = .ok (.i2l, 1) := by decide +kernel
theorem dL_law_134 : decode code 134 = .ok (.ldc2_w 67, 3) := by decide +kernel
theorem dL_law_137 : decode code 137 = .ok (.land, 1) := by decide +kernel
theorem dL_law_138 : decode code 138 = .ok (.lor, 1) := by decide +kernel
theorem dL_law_139 : decode code 139 = .ok (.aload_n 3, 1) := by decide +kernel
theorem dL_law_140 : decode code 140 = .ok (.invokestatic 69, 3) := by decide +kernel
theorem dL_law_143 : decode code 143 = .ok (.istore 5, 2) := by decide +kernel
theorem dL_law_145 : decode code 145 = .ok (.aload_n 2, 1) := by decide +kernel
theorem dL_law_146 : decode code 146 = .ok (.aload_n 0, 1) := by decide +kernel
theorem dL_law_147 : decode code 147 = .ok (.iload 4, 2) := by decide +kernel
theorem dL_law_149 : decode code 149 = .ok (.iconst 1, 1) := by decide +kernel
theorem dL_law_150 : decode code 150 = .ok (.iadd, 1) := by decide +kernel
theorem dL_law_151 : decode code 151 = .ok (.iaload, 1) := by decide +kernel
theorem dL_law_152 : decode code 152 = .ok (.i2l, 1) := by decide +kernel
theorem dL_law_153 : decode code 153 = .ok (.bipush 32, 2) := by decide +kernel
theorem dL_law_155 : decode code 155 = .ok (.lshl, 1) := by decide +kernel
theorem dL_law_156 : decode code 156 = .ok (.aload_n 0, 1) := by decide +kernel
theorem dL_law_157 : decode code 157 = .ok (.iload 4, 2) := by decide +kernel
theorem dL_law_159 : decode code 159 = .ok (.iconst 2, 1) := by decide +kernel
theorem dL_law_160 : decode code 160 = .ok (.iadd, 1) := by decide +kernel
theorem dL_law_161 : decode code 161 = .ok (.iaload, 1) := by decide +kernel
theorem dL_law_162 : decode code 162 = .ok (.i2l, 1) := by decide +kernel
theorem dL_law_163 : decode code 163 = .ok (.ldc2_w 67, 3) := by decide +kernel
theorem dL_law_166 : decode code 166 = .ok (.land, 1) := by decide +kernel
theorem dL_law_167 : decode code 167 = .ok (.lor, 1) := by decide +kernel
theorem dL_law_168 : decode code 168 = .ok (.invokevirtual 74, 3) := by decide +kernel
theorem dL_law_171 : decode code 171 = .ok (.istore 6, 2) := by decide +kernel
theorem dL_law_173 : decode code 173 = .ok (.aload_n 2, 1) := by decide +kernel
theorem dL_law_174 : decode code 174 = .ok (.invokevirtual 75, 3) := by decide +kernel
theorem dL_law_177 : decode code 177 = .ok (.iload 5, 2) := by decide +kernel
theorem dL_law_179 : decode code 179 = .ok (.if_icmp .eq 5, 3) := by decide +kernel
theorem dL_law_182 : decode code 182 = .ok (.iconst 0, 1) := by decide +kernel
theorem dL_law_183 : decode code 183 = .ok (.ireturn, 1) := by decide +kernel
theorem dL_law_184 : decode code 184 = .ok (.iload 5, 2) := by decide +kernel
theorem dL_law_186 : decode code 186 = .ok (.ifCond .ne 22, 3) := by decide +kernel
theorem dL_law_189 : decode code 189 = .ok (.aload_n 3, 1) := by decide +kernel
theorem dL_law_190 : decode code 190 = .ok (.iconst 0, 1) := by decide +kernel
theorem dL_law_191 : decode code 191 = .ok (.laload, 1) := by decide +kernel
theorem dL_law_192 : decode code 192 = .ok (.iload 6, 2) := by decide +kernel
theorem dL_law_194 : decode code 194 = .ok (.ifCond .eq 7, 3) := by decide +kernel
theorem dL_law_197 : decode code 197 = .ok (.lconst 1, 1) := by decide +kernel
theorem dL_law_198 : decode code 198 = .ok (.goto 4, 3) := by decide +kernel
theorem dL_law_201 : decode code 201 = .ok (.lconst 0, 1) := by decide +kernel
theorem dL_law_202 : decode code 202 = .ok (.lcmp, 1) := by decide +kernel
theorem dL_law_203 : decode code 203 = .ok (.ifCond .eq 5, 3) := by decide +kernel
theorem dL_law_206 : decode code 206 = .ok (.iconst 0, 1) := by decide +kernel
theorem dL_law_207 : decode code 207 = .ok (.ireturn, 1) := by decide +kernel
theorem dL_law_208 : decode code 208 = .ok (.goto 1114, 3) := by decide +kernel
theorem dL_law_211 : decode code 211 = .ok (.aload_n 1, 1) := by decide +kernel
theorem dL_law_212 : decode code 212 = .ok (.aload_n 0, 1) := by decide +kernel
theorem dL_law_213 : decode code 213 = .ok (.iload 4, 2) := by decide +kernel
theorem dL_law_215 : decode code 215 = .ok (.iconst 1, 1) := by decide +kernel
theorem dL_law_216 : decode code 216 = .ok (.iadd, 1) := by decide +kernel
theorem dL_law_217 : decode code 217 = .ok (.iaload, 1) := by decide +kernel
theorem dL_law_218 : decode code 218 = .ok (.invokevirtual 79, 3) := by decide +kernel
theorem dL_law_221 : decode code 221 = .ok (.aload_n 2, 1) := by decide +kernel
theorem dL_law_222 : decode code 222 = .ok (.aload_n 0, 1) := by decide +kernel
theorem dL_law_223 : decode code 223 = .ok (.iload 4, 2) := by decide +kernel
theorem dL_law_225 : decode code 225 = .ok (.iconst 1, 1) := by decide +kernel
theorem dL_law_226 : decode code 226 = .ok (.iadd, 1) := by decide +kernel
theorem dL_law_227 : decode code 227 = .ok (.iaload, 1) := by decide +kernel
theorem dL_law_228 : decode code 228 = .ok (.invokevirtual 82, 3) := by decide +kernel
theorem dL_law_231 : decode code 231 = .ok (.if_icmp .eq 1091, 3) := by decide +kernel
theorem dL_law_234 : decode code 234 = .ok (.iconst 0, 1) := by decide +kernel
theorem dL_law_235 : decode code 235 = .ok (.ireturn, 1) := by decide +kernel
theorem dL_law_236 : decode code 236 = .ok (.aload_n 1, 1) := by decide +kernel
theorem dL_law_237 : decode code 237 = .ok (.invokevirtual 83, 3) := by decide +kernel
theorem dL_law_240 : decode code 240 = .ok (.aload_n 2, 1) := by decide +kernel
theorem dL_law_241 : decode code 241 = .ok (.invokevirtual 86, 3) := by decide +kernel
theorem dL_law_244 : decode code 244 = .ok (.if_icmp .eq 1078, 3) := by decide +kernel
theorem dL_law_247 : decode code 247 = .ok (.iconst 0, 1) := by decide +kernel
theorem dL_law_248 : decode code 248 = .ok (.ireturn, 1) := by decide +kernel
theorem dL_law_249 : decode code 249 = .ok (.aload_n 1, 1) := by decide +kernel
theorem dL_law_250 : decode code 250 = .ok (.aload_n 0, 1) := by decide +kernel
theorem dL_law_251 : decode code 251 = .ok (.iload 4, 2) := by decide +kernel
theorem dL_law_253 : decode code 253 = .ok (.iconst 1, 1) := by decide +kernel
theorem dL_law_254 : decode code 254 = .ok (.iadd, 1) := by decide +kernel
theorem dL_law_255 : decode code 255 = .ok (.iaload, 1) := by decide +kernel
theorem dL_law_256 : decode code 256 = .ok (.aload_n 0, 1) := by decide +kernel
theorem dL_law_257 : decode code 257 = .ok (.iload 4, 2) := by decide +kernel
theorem dL_law_259 : decode code 259 = .ok (.iconst 2, 1) := by decide +kernel
theorem dL_law_260 : decode code 260 = .ok (.iadd, 1) := by decide +kernel
theorem dL_law_261 : decode code 261 = .ok (.iaload, 1) := by decide +kernel
theorem dL_law_262 : decode code 262 = .ok (.i2l, 1) := by decide +kernel
theorem dL_law_263 : decode code 263 = .ok (.bipush 32, 2) := by decide +kernel
theorem dL_law_265 : decode code 265 = .ok (.lshl, 1) := by decide +kernel
theorem dL_law_266 : decode code 266 = .ok (.aload_n 0, 1) := by decide +kernel
theorem dL_law_267 : decode code 267 = .ok (.iload 4, 2) := by decide +kernel
theorem dL_law_269 : decode code 269 = .ok (.iconst 3, 1) := by decide +kernel
theorem dL_law_270 : decode code 270 = .ok (.iadd, 1) := by decide +kernel
theorem dL_law_271 : decode code 271 = .ok (.iaload, 1) := by decide +kernel
theorem dL_law_272 : decode code 272 = .ok (.i2l, 1) := by decide +kernel
theorem dL_law_273 : decode code 273 = .ok (.ldc2_w 67, 3) := by decide +kernel
theorem dL_law_276 : decode code 276 = .ok (.land, 1) := by decide +kernel
theorem dL_law_277 : decode code 277 = .ok (.lor, 1) := by decide +kernel
theorem dL_law_278 : decode code 278 = .ok (.aload_n 0, 1) := by decide +kernel
theorem dL_law_279 : decode code 279 = .ok (.iload 4, 2) := by decide +kernel
theorem dL_law_281 : decode code 281 = .ok (.iconst 4, 1) := by decide +kernel
theorem dL_law_282 : decode code 282 = .ok (.iadd, 1) := by decide +kernel
theorem dL_law_283 : decode code 283 = .ok (.iaload, 1) := by decide +kernel
theorem dL_law_284 : decode code 284 = .ok (.i2l, 1) := by decide +kernel
theorem dL_law_285 : decode code 285 = .ok (.bipush 32, 2) := by decide +kernel
theorem dL_law_287 : decode code 287 = .ok (.lshl, 1) := by decide +kernel
theorem dL_law_288 : decode code 288 = .ok (.aload_n 0, 1) := by decide +kernel
theorem dL_law_289 : decode code 289 = .ok (.iload 4, 2) := by decide +kernel
theorem dL_law_291 : decode code 291 = .ok (.iconst 5, 1) := by decide +kernel
theorem dL_law_292 : decode code 292 = .ok (.iadd, 1) := by decide +kernel
theorem dL_law_293 : decode code 293 = .ok (.iaload, 1) := by decide +kernel
theorem dL_law_294 : decode code 294 = .ok (.i2l, 1) := by decide +kernel
theorem dL_law_295 : decode code 295 = .ok (.ldc2_w 67, 3) := by decide +kernel
theorem dL_law_298 : decode code 298 = .ok (.land, 1) := by decide +kernel
theorem dL_law_299 : decode code 299 = .ok (.lor, 1) := by decide +kernel
theorem dL_law_300 : decode code 300 = .ok (.aload_n 3, 1) := by decide +kernel
theorem dL_law_301 : decode code 301 = .ok (.invokestatic 87, 3) := by decide +kernel
theorem dL_law_304 : decode code 304 = .ok (.istore 5, 2) := by decide +kernel
theorem dL_law_306 : decode code 306 = .ok (.aload_n 2, 1) := by decide +kernel
theorem dL_law_307 : decode code 307 = .ok (.aload_n 0, 1) := by decide +kernel
theorem dL_law_308 : decode code 308 = .ok (.iload 4, 2) := by decide +kernel
theorem dL_law_310 : decode code 310 = .ok (.iconst 1, 1) := by decide +kernel
theorem dL_law_311 : decode code 311 = .ok (.iadd, 1) := by decide +kernel
theorem dL_law_312 : decode code 312 = .ok (.iaload, 1) := by decide +kernel
theorem dL_law_313 : decode code 313 = .ok (.aload_n 0, 1) := by decide +kernel
theorem dL_law_314 : decode code 314 = .ok (.iload 4, 2) := by decide +kernel
theorem dL_law_316 : decode code 316 = .ok (.iconst 2, 1) := by decide +kernel
theorem dL_law_317 : decode code 317 = .ok (.iadd, 1) := by decide +kernel
theorem dL_law_318 : decode code 318 = .ok (.iaload, 1) := by decide +kernel
theorem dL_law_319 : decode code 319 = .ok (.i2l, 1) := by decide +kernel
theorem dL_law_320 : decode code 320 = .ok (.bipush 32, 2) := by decide +kernel
theorem dL_law_322 : decode code 322 = .ok (.lshl, 1) := by decide +kernel
theorem dL_law_323 : decode code 323 = .ok (.aload_n 0, 1) := by decide +kernel
theorem dL_law_324 : decode code 324 = .ok (.iload 4, 2) := by decide +kernel
theorem dL_law_326 : decode code 326 = .ok (.iconst 3, 1) := by decide +kernel
theorem dL_law_327 : decode code 327 = .ok (.iadd, 1) := by decide +kernel
theorem dL_law_328 : decode code 328 = .ok (.iaload, 1) := by decide +kernel
theorem dL_law_329 : decode code 329 = .ok (.i2l, 1) := by decide +kernel
theorem dL_law_330 : decode code 330 = .ok (.ldc2_w 67, 3) := by decide +kernel
theorem dL_law_333 : decode code 333 = .ok (.land, 1) := by decide +kernel
theorem dL_law_334 : decode code 334 = .ok (.lor, 1) := by decide +kernel
theorem dL_law_335 : decode code 335 = .ok (.aload_n 0, 1) := by decide +kernel
theorem dL_law_336 : decode code 336 = .ok (.iload 4, 2) := by decide +kernel
theorem dL_law_338 : decode code 338 = .ok (.iconst 4, 1) := by decide +kernel
theorem dL_law_339 : decode code 339 = .ok (.iadd, 1) := by decide +kernel
theorem dL_law_340 : decode code 340 = .ok (.iaload, 1) := by decide +kernel
theorem dL_law_341 : decode code 341 = .ok (.i2l, 1) := by decide +kernel
theorem dL_law_342 : decode code 342 = .ok (.bipush 32, 2) := by decide +kernel
theorem dL_law_344 : decode code 344 = .ok (.lshl, 1) := by decide +kernel
theorem dL_law_345 : decode code 345 = .ok (.aload_n 0, 1) := by decide +kernel
theorem dL_law_346 : decode code 346 = .ok (.iload 4, 2) := by decide +kernel
theorem dL_law_348 : decode code 348 = .ok (.iconst 5, 1) := by decide +kernel
theorem dL_law_349 : decode code 349 = .ok (.iadd, 1) := by decide +kernel
theorem dL_law_350 : decode code 350 = .ok (.iaload, 1) := by decide +kernel
theorem dL_law_351 : decode code 351 = .ok (.i2l, 1) := by decide +kernel
theorem dL_law_352 : decode code 352 = .ok (.ldc2_w 67, 3) := by decide +kernel
theorem dL_law_355 : decode code 355 = .ok (.land, 1) := by decide +kernel
theorem dL_law_356 : decode code 356 = .ok (.lor, 1) := by decide +kernel
theorem dL_law_357 : decode code 357 = .ok (.invokevirtual 90, 3) := by decide +kernel
theorem dL_law_360 : decode code 360 = .ok (.istore 6, 2) := by decide +kernel
theorem dL_law_362 : decode code 362 = .ok (.aload_n 2, 1) := by decide +kernel
theorem dL_law_363 : decode code 363 = .ok (.invokevirtual 75, 3) := by decide +kernel
theorem dL_law_366 : decode code 366 = .ok (.iload 5, 2) := by decide +kernel
theorem dL_law_368 : decode code 368 = .ok (.if_icmp .eq 5, 3) := by decide +kernel
theorem dL_law_371 : decode code 371 = .ok (.iconst 0, 1) := by decide +kernel
theorem dL_law_372 : decode code 372 = .ok (.ireturn, 1) := by decide +kernel
theorem dL_law_373 : decode code 373 = .ok (.iload 5, 2) := by decide +kernel
theorem dL_law_375 : decode code 375 = .ok (.ifCond .ne 15, 3) := by decide +kernel
theorem dL_law_378 : decode code 378 = .ok (.aload_n 3, 1) := by decide +kernel
theorem dL_law_379 : decode code 379 = .ok (.iconst 0, 1) := by decide +kernel
theorem dL_law_380 : decode code 380 = .ok (.laload, 1) := by decide +kernel
theorem dL_law_381 : decode code 381 = .ok (.iload 6, 2) := by decide +kernel
theorem dL_law_383 : decode code 383 = .ok (.i2l, 1) := by decide +kernel
theorem dL_law_384 : decode code 384 = .ok (.lcmp, 1) := by decide +kernel
theorem dL_law_385 : decode code 385 = .ok (.ifCond .eq 5, 3) := by decide +kernel
theorem dL_law_388 : decode code 388 = .ok (.iconst 0, 1) := by decide +kernel
theorem dL_law_389 : decode code 389 = .ok (.ireturn, 1) := by decide +kernel
theorem dL_law_390 : decode code 390 = .ok (.goto 932, 3) := by decide +kernel
theorem dL_law_393 : decode code 393 = .ok (.aload_n 1, 1) := by decide +kernel
theorem dL_law_394 : decode code 394 = .ok (.aload_n 0, 1) := by decide +kernel
theorem dL_law_395 : decode code 395 = .ok (.iload 4, 2) := by decide +kernel
theorem dL_law_397 : decode code 397 = .ok (.iconst 1, 1) := by decide +kernel
theorem dL_law_398 : decode code 398 = .ok (.iadd, 1) := by decide +kernel
theorem dL_law_399 : decode code 399 = .ok (.iaload, 1) := by decide +kernel
theorem dL_law_400 : decode code 400 = .ok (.aload_n 3, 1) := by decide +kernel
theorem dL_law_401 : decode code 401 = .ok (.invokestatic 91, 3) := by decide +kernel
theorem dL_law_404 : decode code 404 = .ok (.istore 5, 2) := by decide +kernel
theorem dL_law_406 : decode code 406 = .ok (.aload_n 2, 1) := by decide +kernel
theorem dL_law_407 : decode code 407 = .ok (.aload_n 0, 1) := by decide +kernel
theorem dL_law_408 : decode code 408 = .ok (.iload 4, 2) := by decide +kernel
theorem dL_law_410 : decode code 410 = .ok (.iconst 1, 1) := by decide +kernel
theorem dL_law_411 : decode code 411 = .ok (.iadd, 1) := by decide +kernel
theorem dL_law_412 : decode code 412 = .ok (.iaload, 1) := by decide +kernel
theorem dL_law_413 : decode code 413 = .ok (.invokevirtual 94, 3) := by decide +kernel
theorem dL_law_416 : decode code 416 = .ok (.lstore 6, 2) := by decide +kernel
theorem dL_law_418 : decode code 418 = .ok (.aload_n 2, 1) := by decide +kernel
theorem dL_law_419 : decode code 419 = .ok (.invokevirtual 75, 3) := by decide +kernel
theorem dL_law_422 : decode code 422 = .ok (.iload 5, 2) := by decide +kernel
theorem dL_law_424 : decode code 424 = .ok (.if_icmp .eq 5, 3) := by decide +kernel
theorem dL_law_427 : decode code 427 = .ok (.iconst 0, 1) := by decide +kernel
theorem dL_law_428 : decode code 428 = .ok (.ireturn, 1) := by decide +kernel
theorem dL_law_429 : decode code 429 = .ok (.iload 5, 2) := by decide +kernel
theorem dL_law_431 : decode code 431 = .ok (.ifCond .ne 14, 3) := by decide +kernel
theorem dL_law_434 : decode code 434 = .ok (.aload_n 3, 1) := by decide +kernel
theorem dL_law_435 : decode code 435 = .ok (.iconst 0, 1) := by decide +kernel
theorem dL_law_436 : decode code 436 = .ok (.laload, 1) := by decide +kernel
theorem dL_law_437 : decode code 437 = .ok (.lload 6, 2) := by decide +kernel
theorem dL_law_439 : decode code 439 = .ok (.lcmp, 1) := by decide +kernel
theorem dL_law_440 : decode code 440 = .ok (.ifCond .eq 5, 3) := by decide +kernel
theorem dL_law_443 : decode code 443 = .ok (.iconst 0, 1) := by decide +kernel
theorem dL_law_444 : decode code 444 = .ok (.ireturn, 1) := by decide +kernel
theorem dL_law_445 : decode code 445 = .ok (.goto 877, 3) := by decide +kernel
theorem dL_law_448 : decode code 448 = .ok (.aload_n 1, 1) := by decide +kernel
theorem dL_law_449 : decode code 449 = .ok (.aload_n 0, 1) := by decide +kernel
theorem dL_law_450 : decode code 450 = .ok (.iload 4, 2) := by decide +kernel
theorem dL_law_452 : decode code 452 = .ok (.iconst 1, 1) := by decide +kernel
theorem dL_law_453 : decode code 453 = .ok (.iadd, 1) := by decide +kernel
theorem dL_law_454 : decode code 454 = .ok (.iaload, 1) := by decide +kernel
theorem dL_law_455 : decode code 455 = .ok (.aload_n 0, 1) := by decide +kernel
theorem dL_law_456 : decode code 456 = .ok (.iload 4, 2) := by decide +kernel
theorem dL_law_458 : decode code 458 = .ok (.iconst 2, 1) := by decide +kernel
theorem dL_law_459 : decode code 459 = .ok (.iadd, 1) := by decide +kernel
theorem dL_law_460 : decode code 460 = .ok (.iaload, 1) := by decide +kernel
theorem dL_law_461 : decode code 461 = .ok (.aload_n 3, 1) := by decide +kernel
theorem dL_law_462 : decode code 462 = .ok (.invokestatic 95, 3) := by decide +kernel
theorem dL_law_465 : decode code 465 = .ok (.istore 5, 2) := by decide +kernel
theorem dL_law_467 : decode code 467 = .ok (.aload_n 2, 1) := by decide +kernel
theorem dL_law_468 : decode code 468 = .ok (.aload_n 0, 1) := by decide +kernel
theorem dL_law_469 : decode code 469 = .ok (.iload 4, 2) := by decide +kernel
theorem dL_law_471 : decode code 471 = .ok (.iconst 1, 1) := by decide +kernel
theorem dL_law_472 : decode code 472 = .ok (.iadd, 1) := by decide +kernel
theorem dL_law_473 : decode code 473 = .ok (.iaload, 1) := by decide +kernel
theorem dL_law_474 : decode code 474 = .ok (.aload_n 0, 1) := by decide +kernel
theorem dL_law_475 : decode code 475 = .ok (.iload 4, 2) := by decide +kernel
theorem dL_law_477 : decode code 477 = .ok (.iconst 2, 1) := by decide +kernel
theorem dL_law_478 : decode code 478 = .ok (.iadd, 1) := by decide +kernel
theorem dL_law_479 : decode code 479 = .ok (.iaload, 1) := by decide +kernel
theorem dL_law_480 : decode code 480 = .ok (.invokevirtual 98, 3) := by decide +kernel
theorem dL_law_483 : decode code 483 = .ok (.lstore 6, 2) := by decide +kernel
theorem dL_law_485 : decode code 485 = .ok (.aload_n 2, 1) := by decide +kernel
theorem dL_law_486 : decode code 486 = .ok (.invokevirtual 75, 3) := by decide +kernel
theorem dL_law_489 : decode code 489 = .ok (.iload 5, 2) := by decide +kernel
theorem dL_law_491 : decode code 491 = .ok (.if_icmp .eq 5, 3) := by decide +kernel
theorem dL_law_494 : decode code 494 = .ok (.iconst 0, 1) := by decide +kernel
theorem dL_law_495 : decode code 495 = .ok (.ireturn, 1) := by decide +kernel
theorem dL_law_496 : decode code 496 = .ok (.iload 5, 2) := by decide +kernel
theorem dL_law_498 : decode code 498 = .ok (.ifCond .ne 14, 3) := by decide +kernel
theorem dL_law_501 : decode code 501 = .ok (.aload_n 3, 1) := by decide +kernel
theorem dL_law_502 : decode code 502 = .ok (.iconst 0, 1) := by decide +kernel
theorem dL_law_503 : decode code 503 = .ok (.laload, 1) := by decide +kernel
theorem dL_law_504 : decode code 504 = .ok (.lload 6, 2) := by decide +kernel
theorem dL_law_506 : decode code 506 = .ok (.lcmp, 1) := by decide +kernel
theorem dL_law_507 : decode code 507 = .ok (.ifCond .eq 5, 3) := by decide +kernel
theorem dL_law_510 : decode code 510 = .ok (.iconst 0, 1) := by decide +kernel
theorem dL_law_511 : decode code 511 = .ok (.ireturn, 1) := by decide +kernel
theorem dL_law_512 : decode code 512 = .ok (.goto 810, 3) := by decide +kernel
theorem dL_law_515 : decode code 515 = .ok (.aload_n 1, 1) := by decide +kernel
theorem dL_law_516 : decode code 516 = .ok (.aload_n 0, 1) := by decide +kernel
theorem dL_law_517 : decode code 517 = .ok (.iload 4, 2) := by decide +kernel
theorem dL_law_519 : decode code 519 = .ok (.iconst 1, 1) := by decide +kernel
theorem dL_law_520 : decode code 520 = .ok (.iadd, 1) := by decide +kernel
theorem dL_law_521 : decode code 521 = .ok (.iaload, 1) := by decide +kernel
theorem dL_law_522 : decode code 522 = .ok (.aload_n 0, 1) := by decide +kernel
theorem dL_law_523 : decode code 523 = .ok (.iload 4, 2) := by decide +kernel
theorem dL_law_525 : decode code 525 = .ok (.iconst 2, 1) := by decide +kernel
theorem dL_law_526 : decode code 526 = .ok (.iadd, 1) := by decide +kernel
theorem dL_law_527 : decode code 527 = .ok (.iaload, 1) := by decide +kernel
theorem dL_law_528 : decode code 528 = .ok (.aload_n 3, 1) := by decide +kernel
theorem dL_law_529 : decode code 529 = .ok (.invokestatic 99, 3) := by decide +kernel
theorem dL_law_532 : decode code 532 = .ok (.istore 5, 2) := by decide +kernel
theorem dL_law_534 : decode code 534 = .ok (.aload_n 2, 1) := by decide +kernel
theorem dL_law_535 : decode code 535 = .ok (.aload_n 0, 1) := by decide +kernel
theorem dL_law_536 : decode code 536 = .ok (.iload 4, 2) := by decide +kernel
theorem dL_law_538 : decode code 538 = .ok (.iconst 1, 1) := by decide +kernel
theorem dL_law_539 : decode code 539 = .ok (.iadd, 1) := by decide +kernel
theorem dL_law_540 : decode code 540 = .ok (.iaload, 1) := by decide +kernel
theorem dL_law_541 : decode code 541 = .ok (.aload_n 0, 1) := by decide +kernel
theorem dL_law_542 : decode code 542 = .ok (.iload 4, 2) := by decide +kernel
theorem dL_law_544 : decode code 544 = .ok (.iconst 2, 1) := by decide +kernel
theorem dL_law_545 : decode code 545 = .ok (.iadd, 1) := by decide +kernel
theorem dL_law_546 : decode code 546 = .ok (.iaload, 1) := by decide +kernel
theorem dL_law_547 : decode code 547 = .ok (.invokevirtual 101, 3) := by decide +kernel
theorem dL_law_550 : decode code 550 = .ok (.lstore 6, 2) := by decide +kernel
theorem dL_law_552 : decode code 552 = .ok (.aload_n 2, 1) := by decide +kernel
theorem dL_law_553 : decode code 553 = .ok (.invokevirtual 75, 3) := by decide +kernel
theorem dL_law_556 : decode code 556 = .ok (.iload 5, 2) := by decide +kernel
theorem dL_law_558 : decode code 558 = .ok (.if_icmp .eq 5, 3) := by decide +kernel
theorem dL_law_561 : decode code 561 = .ok (.iconst 0, 1) := by decide +kernel
theorem dL_law_562 : decode code 562 = .ok (.ireturn, 1) := by decide +kernel
theorem dL_law_563 : decode code 563 = .ok (.iload 5, 2) := by decide +kernel
theorem dL_law_565 : decode code 565 = .ok (.ifCond .ne 14, 3) := by decide +kernel
theorem dL_law_568 : decode code 568 = .ok (.aload_n 3, 1) := by decide +kernel
theorem dL_law_569 : decode code 569 = .ok (.iconst 0, 1) := by decide +kernel
theorem dL_law_570 : decode code 570 = .ok (.laload, 1) := by decide +kernel
theorem dL_law_571 : decode code 571 = .ok (.lload 6, 2) := by decide +kernel
theorem dL_law_573 : decode code 573 = .ok (.lcmp, 1) := by decide +kernel
theorem dL_law_574 : decode code 574 = .ok (.ifCond .eq 5, 3) := by decide +kernel
theorem dL_law_577 : decode code 577 = .ok (.iconst 0, 1) := by decide +kernel
theorem dL_law_578 : decode code 578 = .ok (.ireturn, 1) := by decide +kernel
theorem dL_law_579 : decode code 579 = .ok (.goto 743, 3) := by decide +kernel
theorem dL_law_582 : decode code 582 = .ok (.aload_n 1, 1) := by decide +kernel
theorem dL_law_583 : decode code 583 = .ok (.aload_n 0, 1) := by decide +kernel
theorem dL_law_584 : decode code 584 = .ok (.iload 4, 2) := by decide +kernel
theorem dL_law_586 : decode code 586 = .ok (.iconst 1, 1) := by decide +kernel
theorem dL_law_587 : decode code 587 = .ok (.iadd, 1) := by decide +kernel
theorem dL_law_588 : decode code 588 = .ok (.iaload, 1) := by decide +kernel
theorem dL_law_589 : decode code 589 = .ok (.aload_n 3, 1) := by decide +kernel
theorem dL_law_590 : decode code 590 = .ok (.invokestatic 102, 3) := by decide +kernel
theorem dL_law_593 : decode code 593 = .ok (.istore 5, 2) := by decide +kernel
theorem dL_law_595 : decode code 595 = .ok (.aload_n 2, 1) := by decide +kernel
theorem dL_law_596 : decode code 596 = .ok (.aload_n 0, 1) := by decide +kernel
theorem dL_law_597 : decode code 597 = .ok (.iload 4, 2) := by decide +kernel
theorem dL_law_599 : decode code 599 = .ok (.iconst 1, 1) := by decide +kernel
theorem dL_law_600 : decode code 600 = .ok (.iadd, 1) := by decide +kernel
theorem dL_law_601 : decode code 601 = .ok (.iaload, 1) := by decide +kernel
theorem dL_law_602 : decode code 602 = .ok (.invokevirtual 104, 3) := by decide +kernel
theorem dL_law_605 : decode code 605 = .ok (.lstore 6, 2) := by decide +kernel
theorem dL_law_607 : decode code 607 = .ok (.aload_n 2, 1) := by decide +kernel
theorem dL_law_608 : decode code 608 = .ok (.invokevirtual 75, 3) := by decide +kernel
theorem dL_law_611 : decode code 611 = .ok (.iload 5, 2) := by decide +kernel
theorem dL_law_613 : decode code 613 = .ok (.if_icmp .eq 5, 3) := by decide +kernel
theorem dL_law_616 : decode code 616 = .ok (.iconst 0, 1) := by decide +kernel
theorem dL_law_617 : decode code 617 = .ok (.ireturn, 1) := by decide +kernel
theorem dL_law_618 : decode code 618 = .ok (.iload 5, 2) := by decide +kernel
theorem dL_law_620 : decode code 620 = .ok (.ifCond .ne 14, 3) := by decide +kernel
theorem dL_law_623 : decode code 623 = .ok (.aload_n 3, 1) := by decide +kernel
theorem dL_law_624 : decode code 624 = .ok (.iconst 0, 1) := by decide +kernel
theorem dL_law_625 : decode code 625 = .ok (.laload, 1) := by decide +kernel
theorem dL_law_626 : decode code 626 = .ok (.lload 6, 2) := by decide +kernel
theorem dL_law_628 : decode code 628 = .ok (.lcmp, 1) := by decide +kernel
theorem dL_law_629 : decode code 629 = .ok (.ifCond .eq 5, 3) := by decide +kernel
theorem dL_law_632 : decode code 632 = .ok (.iconst 0, 1) := by decide +kernel
theorem dL_law_633 : decode code 633 = .ok (.ireturn, 1) := by decide +kernel
theorem dL_law_634 : decode code 634 = .ok (.goto 688, 3) := by decide +kernel
theorem dL_law_637 : decode code 637 = .ok (.aload_n 1, 1) := by decide +kernel
theorem dL_law_638 : decode code 638 = .ok (.aload_n 0, 1) := by decide +kernel
theorem dL_law_639 : decode code 639 = .ok (.iload 4, 2) := by decide +kernel
theorem dL_law_641 : decode code 641 = .ok (.iconst 1, 1) := by decide +kernel
theorem dL_law_642 : decode code 642 = .ok (.iadd, 1) := by decide +kernel
theorem dL_law_643 : decode code 643 = .ok (.iaload, 1) := by decide +kernel
theorem dL_law_644 : decode code 644 = .ok (.aload_n 3, 1) := by decide +kernel
theorem dL_law_645 : decode code 645 = .ok (.invokestatic 105, 3) := by decide +kernel
theorem dL_law_648 : decode code 648 = .ok (.istore 5, 2) := by decide +kernel
theorem dL_law_650 : decode code 650 = .ok (.aload_n 2, 1) := by decide +kernel
theorem dL_law_651 : decode code 651 = .ok (.aload_n 0, 1) := by decide +kernel
theorem dL_law_652 : decode code 652 = .ok (.iload 4, 2) := by decide +kernel
theorem dL_law_654 : decode code 654 = .ok (.iconst 1, 1) := by decide +kernel
theorem dL_law_655 : decode code 655 = .ok (.iadd, 1) := by decide +kernel
theorem dL_law_656 : decode code 656 = .ok (.iaload, 1) := by decide +kernel
theorem dL_law_657 : decode code 657 = .ok (.invokevirtual 107, 3) := by decide +kernel
theorem dL_law_660 : decode code 660 = .ok (.istore 6, 2) := by decide +kernel
theorem dL_law_662 : decode code 662 = .ok (.aload_n 2, 1) := by decide +kernel
theorem dL_law_663 : decode code 663 = .ok (.invokevirtual 75, 3) := by decide +kernel
theorem dL_law_666 : decode code 666 = .ok (.iload 5, 2) := by decide +kernel
theorem dL_law_668 : decode code 668 = .ok (.if_icmp .eq 5, 3) := by decide +kernel
theorem dL_law_671 : decode code 671 = .ok (.iconst 0, 1) := by decide +kernel
theorem dL_law_672 : decode code 672 = .ok (.ireturn, 1) := by decide +kernel
theorem dL_law_673 : decode code 673 = .ok (.iload 5, 2) := by decide +kernel
theorem dL_law_675 : decode code 675 = .ok (.ifCond .ne 22, 3) := by decide +kernel
theorem dL_law_678 : decode code 678 = .ok (.aload_n 3, 1) := by decide +kernel
theorem dL_law_679 : decode code 679 = .ok (.iconst 0, 1) := by decide +kernel
theorem dL_law_680 : decode code 680 = .ok (.laload, 1) := by decide +kernel
theorem dL_law_681 : decode code 681 = .ok (.iload 6, 2) := by decide +kernel
theorem dL_law_683 : decode code 683 = .ok (.ifCond .eq 7, 3) := by decide +kernel
theorem dL_law_686 : decode code 686 = .ok (.lconst 1, 1) := by decide +kernel
theorem dL_law_687 : decode code 687 = .ok (.goto 4, 3) := by decide +kernel
theorem dL_law_690 : decode code 690 = .ok (.lconst 0, 1) := by decide +kernel
theorem dL_law_691 : decode code 691 = .ok (.lcmp, 1) := by decide +kernel
theorem dL_law_692 : decode code 692 = .ok (.ifCond .eq 5, 3) := by decide +kernel
theorem dL_law_695 : decode code 695 = .ok (.iconst 0, 1) := by decide +kernel
theorem dL_law_696 : decode code 696 = .ok (.ireturn, 1) := by decide +kernel
theorem dL_law_697 : decode code 697 = .ok (.goto 625, 3) := by decide +kernel
theorem dL_law_700 : decode code 700 = .ok (.aload_n 1, 1) := by decide +kernel
theorem dL_law_701 : decode code 701 = .ok (.aload_n 0, 1) := by decide +kernel
theorem dL_law_702 : decode code 702 = .ok (.iload 4, 2) := by decide +kernel
theorem dL_law_704 : decode code 704 = .ok (.iconst 1, 1) := by decide +kernel
theorem dL_law_705 : decode code 705 = .ok (.iadd, 1) := by decide +kernel
theorem dL_law_706 : decode code 706 = .ok (.iaload, 1) := by decide +kernel
theorem dL_law_707 : decode code 707 = .ok (.i2l, 1) := by decide +kernel
theorem dL_law_708 : decode code 708 = .ok (.bipush 32, 2) := by decide +kernel
theorem dL_law_710 : decode code 710 = .ok (.lshl, 1) := by decide +kernel
theorem dL_law_711 : decode code 711 = .ok (.aload_n 0, 1) := by decide +kernel
theorem dL_law_712 : decode code 712 = .ok (.iload 4, 2) := by decide +kernel
theorem dL_law_714 : decode code 714 = .ok (.iconst 2, 1) := by decide +kernel
theorem dL_law_715 : decode code 715 = .ok (.iadd, 1) := by decide +kernel
theorem dL_law_716 : decode code 716 = .ok (.iaload, 1) := by decide +kernel
theorem dL_law_717 : decode code 717 = .ok (.i2l, 1) := by decide +kernel
theorem dL_law_718 : decode code 718 = .ok (.ldc2_w 67, 3) := by decide +kernel
theorem dL_law_721 : decode code 721 = .ok (.land, 1) := by decide +kernel
theorem dL_law_722 : decode code 722 = .ok (.lor, 1) := by decide +kernel
theorem dL_law_723 : decode code 723 = .ok (.aload_n 0, 1) := by decide +kernel
theorem dL_law_724 : decode code 724 = .ok (.iload 4, 2) := by decide +kernel
theorem dL_law_726 : decode code 726 = .ok (.iconst 3, 1) := by decide +kernel
theorem dL_law_727 : decode code 727 = .ok (.iadd, 1) := by decide +kernel
theorem dL_law_728 : decode code 728 = .ok (.iaload, 1) := by decide +kernel
theorem dL_law_729 : decode code 729 = .ok (.i2l, 1) := by decide +kernel
theorem dL_law_730 : decode code 730 = .ok (.bipush 32, 2) := by decide +kernel
theorem dL_law_732 : decode code 732 = .ok (.lshl, 1) := by decide +kernel
theorem dL_law_733 : decode code 733 = .ok (.aload_n 0, 1) := by decide +kernel
theorem dL_law_734 : decode code 734 = .ok (.iload 4, 2) := by decide +kernel
theorem dL_law_736 : decode code 736 = .ok (.iconst 4, 1) := by decide +kernel
theorem dL_law_737 : decode code 737 = .ok (.iadd, 1) := by decide +kernel
theorem dL_law_738 : decode code 738 = .ok (.iaload, 1) := by decide +kernel
theorem dL_law_739 : decode code 739 = .ok (.i2l, 1) := by decide +kernel
theorem dL_law_740 : decode code 740 = .ok (.ldc2_w 67, 3) := by decide +kernel
theorem dL_law_743 : decode code 743 = .ok (.land, 1) := by decide +kernel
theorem dL_law_744 : decode code 744 = .ok (.lor, 1) := by decide +kernel
theorem dL_law_745 : decode code 745 = .ok (.aload_n 0, 1) := by decide +kernel
theorem dL_law_746 : decode code 746 = .ok (.iload 4, 2) := by decide +kernel
theorem dL_law_748 : decode code 748 = .ok (.iconst 5, 1) := by decide +kernel
theorem dL_law_749 : decode code 749 = .ok (.iadd, 1) := by decide +kernel
theorem dL_law_750 : decode code 750 = .ok (.iaload, 1) := by decide +kernel
theorem dL_law_751 : decode code 751 = .ok (.i2l, 1) := by decide +kernel
theorem dL_law_752 : decode code 752 = .ok (.bipush 32, 2) := by decide +kernel
theorem dL_law_754 : decode code 754 = .ok (.lshl, 1) := by decide +kernel
theorem dL_law_755 : decode code 755 = .ok (.aload_n 0, 1) := by decide +kernel
theorem dL_law_756 : decode code 756 = .ok (.iload 4, 2) := by decide +kernel
theorem dL_law_758 : decode code 758 = .ok (.bipush 6, 2) := by decide +kernel
theorem dL_law_760 : decode code 760 = .ok (.iadd, 1) := by decide +kernel
theorem dL_law_761 : decode code 761 = .ok (.iaload, 1) := by decide +kernel
theorem dL_law_762 : decode code 762 = .ok (.i2l, 1) := by decide +kernel
theorem dL_law_763 : decode code 763 = .ok (.ldc2_w 67, 3) := by decide +kernel
theorem dL_law_766 : decode code 766 = .ok (.land, 1) := by decide +kernel
theorem dL_law_767 : decode code 767 = .ok (.lor, 1) := by decide +kernel
theorem dL_law_768 : decode code 768 = .ok (.aload_n 0, 1) := by decide +kernel
theorem dL_law_769 : decode code 769 = .ok (.iload 4, 2) := by decide +kernel
theorem dL_law_771 : decode code 771 = .ok (.bipush 7, 2) := by decide +kernel
theorem dL_law_773 : decode code 773 = .ok (.iadd, 1) := by decide +kernel
theorem dL_law_774 : decode code 774 = .ok (.iaload, 1) := by decide +kernel
theorem dL_law_775 : decode code 775 = .ok (.i2l, 1) := by decide +kernel
theorem dL_law_776 : decode code 776 = .ok (.bipush 32, 2) := by decide +kernel
theorem dL_law_778 : decode code 778 = .ok (.lshl, 1) := by decide +kernel
theorem dL_law_779 : decode code 779 = .ok (.aload_n 0, 1) := by decide +kernel
theorem dL_law_780 : decode code 780 = .ok (.iload 4, 2) := by decide +kernel
theorem dL_law_782 : decode code 782 = .ok (.bipush 8, 2) := by decide +kernel
theorem dL_law_784 : decode code 784 = .ok (.iadd, 1) := by decide +kernel
theorem dL_law_785 : decode code 785 = .ok (.iaload, 1) := by decide +kernel
theorem dL_law_786 : decode code 786 = .ok (.i2l, 1) := by decide +kernel
theorem dL_law_787 : decode code 787 = .ok (.ldc2_w 67, 3) := by decide +kernel
theorem dL_law_790 : decode code 790 = .ok (.land, 1) := by decide +kernel
theorem dL_law_791 : decode code 791 = .ok (.lor, 1) := by decide +kernel
theorem dL_law_792 : decode code 792 = .ok (.aload_n 0, 1) := by decide +kernel
theorem dL_law_793 : decode code 793 = .ok (.iload 4, 2) := by decide +kernel
theorem dL_law_795 : decode code 795 = .ok (.bipush 9, 2) := by decide +kernel
theorem dL_law_797 : decode code 797 = .ok (.iadd, 1) := by decide +kernel
theorem dL_law_798 : decode code 798 = .ok (.iaload, 1) := by decide +kernel
theorem dL_law_799 : decode code 799 = .ok (.i2l, 1) := by decide +kernel
theorem dL_law_800 : decode code 800 = .ok (.bipush 32, 2) := by decide +kernel
theorem dL_law_802 : decode code 802 = .ok (.lshl, 1) := by decide +kernel
theorem dL_law_803 : decode code 803 = .ok (.aload_n 0, 1) := by decide +kernel
theorem dL_law_804 : decode code 804 = .ok (.iload 4, 2) := by decide +kernel
theorem dL_law_806 : decode code 806 = .ok (.bipush 10, 2) := by decide +kernel
theorem dL_law_808 : decode code 808 = .ok (.iadd, 1) := by decide +kernel
theorem dL_law_809 : decode code 809 = .ok (.iaload, 1) := by decide +kernel
theorem dL_law_810 : decode code 810 = .ok (.i2l, 1) := by decide +kernel
theorem dL_law_811 : decode code 811 = .ok (.ldc2_w 67, 3) := by decide +kernel
theorem dL_law_814 : decode code 814 = .ok (.land, 1) := by decide +kernel
theorem dL_law_815 : decode code 815 = .ok (.lor, 1) := by decide +kernel
theorem dL_law_816 : decode code 816 = .ok (.aload_n 3, 1) := by decide +kernel
theorem dL_law_817 : decode code 817 = .ok (.invokestatic 108, 3) := by decide +kernel
theorem dL_law_820 : decode code 820 = .ok (.istore 5, 2) := by decide +kernel
theorem dL_law_822 : decode code 822 = .ok (.aload_n 2, 1) := by decide +kernel
theorem dL_law_823 : decode code 823 = .ok (.aload_n 0, 1) := by decide +kernel
theorem dL_law_824 : decode code 824 = .ok (.iload 4, 2) := by decide +kernel
theorem dL_law_826 : decode code 826 = .ok (.iconst 1, 1) := by decide +kernel
theorem dL_law_827 : decode code 827 = .ok (.iadd, 1) := by decide +kernel
theorem dL_law_828 : decode code 828 = .ok (.iaload, 1) := by decide +kernel
theorem dL_law_829 : decode code 829 = .ok (.i2l, 1) := by decide +kernel
theorem dL_law_830 : decode code 830 = .ok (.bipush 32, 2) := by decide +kernel
theorem dL_law_832 : decode code 832 = .ok (.lshl, 1) := by decide +kernel
theorem dL_law_833 : decode code 833 = .ok (.aload_n 0, 1) := by decide +kernel
theorem dL_law_834 : decode code 834 = .ok (.iload 4, 2) := by decide +kernel
theorem dL_law_836 : decode code 836 = .ok (.iconst 2, 1) := by decide +kernel
theorem dL_law_837 : decode code 837 = .ok (.iadd, 1) := by decide +kernel
theorem dL_law_838 : decode code 838 = .ok (.iaload, 1) := by decide +kernel
theorem dL_law_839 : decode code 839 = .ok (.i2l, 1) := by decide +kernel
theorem dL_law_840 : decode code 840 = .ok (.ldc2_w 67, 3) := by decide +kernel
theorem dL_law_843 : decode code 843 = .ok (.land, 1) := by decide +kernel
theorem dL_law_844 : decode code 844 = .ok (.lor, 1) := by decide +kernel
theorem dL_law_845 : decode code 845 = .ok (.aload_n 0, 1) := by decide +kernel
theorem dL_law_846 : decode code 846 = .ok (.iload 4, 2) := by decide +kernel
theorem dL_law_848 : decode code 848 = .ok (.iconst 3, 1) := by decide +kernel
theorem dL_law_849 : decode code 849 = .ok (.iadd, 1) := by decide +kernel
theorem dL_law_850 : decode code 850 = .ok (.iaload, 1) := by decide +kernel
theorem dL_law_851 : decode code 851 = .ok (.i2l, 1) := by decide +kernel
theorem dL_law_852 : decode code 852 = .ok (.bipush 32, 2) := by decide +kernel
theorem dL_law_854 : decode code 854 = .ok (.lshl, 1) := by decide +kernel
theorem dL_law_855 : decode code 855 = .ok (.aload_n 0, 1) := by decide +kernel
theorem dL_law_856 : decode code 856 = .ok (.iload 4, 2) := by decide +kernel
theorem dL_law_858 : decode code 858 = .ok (.iconst 4, 1) := by decide +kernel
theorem dL_law_859 : decode code 859 = .ok (.iadd, 1) := by decide +kernel
theorem dL_law_860 : decode code 860 = .ok (.iaload, 1) := by decide +kernel
theorem dL_law_861 : decode code 861 = .ok (.i2l, 1) := by decide +kernel
theorem dL_law_862 : decode code 862 = .ok (.ldc2_w 67, 3) := by decide +kernel
theorem dL_law_865 : decode code 865 = .ok (.land, 1) := by decide +kernel
theorem dL_law_866 : decode code 866 = .ok (.lor, 1) := by decide +kernel
theorem dL_law_867 : decode code 867 = .ok (.aload_n 0, 1) := by decide +kernel
theorem dL_law_868 : decode code 868 = .ok (.iload 4, 2) := by decide +kernel
theorem dL_law_870 : decode code 870 = .ok (.iconst 5, 1) := by decide +kernel
theorem dL_law_871 : decode code 871 = .ok (.iadd, 1) := by decide +kernel
theorem dL_law_872 : decode code 872 = .ok (.iaload, 1) := by decide +kernel
theorem dL_law_873 : decode code 873 = .ok (.i2l, 1) := by decide +kernel
theorem dL_law_874 : decode code 874 = .ok (.bipush 32, 2) := by decide +kernel
theorem dL_law_876 : decode code 876 = .ok (.lshl, 1) := by decide +kernel
theorem dL_law_877 : decode code 877 = .ok (.aload_n 0, 1) := by decide +kernel
theorem dL_law_878 : decode code 878 = .ok (.iload 4, 2) := by decide +kernel
theorem dL_law_880 : decode code 880 = .ok (.bipush 6, 2) := by decide +kernel
theorem dL_law_882 : decode code 882 = .ok (.iadd, 1) := by decide +kernel
theorem dL_law_883 : decode code 883 = .ok (.iaload, 1) := by decide +kernel
theorem dL_law_884 : decode code 884 = .ok (.i2l, 1) := by decide +kernel
theorem dL_law_885 : decode code 885 = .ok (.ldc2_w 67, 3) := by decide +kernel
theorem dL_law_888 : decode code 888 = .ok (.land, 1) := by decide +kernel
theorem dL_law_889 : decode code 889 = .ok (.lor, 1) := by decide +kernel
theorem dL_law_890 : decode code 890 = .ok (.aload_n 0, 1) := by decide +kernel
theorem dL_law_891 : decode code 891 = .ok (.iload 4, 2) := by decide +kernel
theorem dL_law_893 : decode code 893 = .ok (.bipush 7, 2) := by decide +kernel
theorem dL_law_895 : decode code 895 = .ok (.iadd, 1) := by decide +kernel
theorem dL_law_896 : decode code 896 = .ok (.iaload, 1) := by decide +kernel
theorem dL_law_897 : decode code 897 = .ok (.i2l, 1) := by decide +kernel
theorem dL_law_898 : decode code 898 = .ok (.bipush 32, 2) := by decide +kernel
theorem dL_law_900 : decode code 900 = .ok (.lshl, 1) := by decide +kernel
theorem dL_law_901 : decode code 901 = .ok (.aload_n 0, 1) := by decide +kernel
theorem dL_law_902 : decode code 902 = .ok (.iload 4, 2) := by decide +kernel
theorem dL_law_904 : decode code 904 = .ok (.bipush 8, 2) := by decide +kernel
theorem dL_law_906 : decode code 906 = .ok (.iadd, 1) := by decide +kernel
theorem dL_law_907 : decode code 907 = .ok (.iaload, 1) := by decide +kernel
theorem dL_law_908 : decode code 908 = .ok (.i2l, 1) := by decide +kernel
theorem dL_law_909 : decode code 909 = .ok (.ldc2_w 67, 3) := by decide +kernel
theorem dL_law_912 : decode code 912 = .ok (.land, 1) := by decide +kernel
theorem dL_law_913 : decode code 913 = .ok (.lor, 1) := by decide +kernel
theorem dL_law_914 : decode code 914 = .ok (.aload_n 0, 1) := by decide +kernel
theorem dL_law_915 : decode code 915 = .ok (.iload 4, 2) := by decide +kernel
theorem dL_law_917 : decode code 917 = .ok (.bipush 9, 2) := by decide +kernel
theorem dL_law_919 : decode code 919 = .ok (.iadd, 1) := by decide +kernel
theorem dL_law_920 : decode code 920 = .ok (.iaload, 1) := by decide +kernel
theorem dL_law_921 : decode code 921 = .ok (.i2l, 1) := by decide +kernel
theorem dL_law_922 : decode code 922 = .ok (.bipush 32, 2) := by decide +kernel
theorem dL_law_924 : decode code 924 = .ok (.lshl, 1) := by decide +kernel
theorem dL_law_925 : decode code 925 = .ok (.aload_n 0, 1) := by decide +kernel
theorem dL_law_926 : decode code 926 = .ok (.iload 4, 2) := by decide +kernel
theorem dL_law_928 : decode code 928 = .ok (.bipush 10, 2) := by decide +kernel
theorem dL_law_930 : decode code 930 = .ok (.iadd, 1) := by decide +kernel
theorem dL_law_931 : decode code 931 = .ok (.iaload, 1) := by decide +kernel
theorem dL_law_932 : decode code 932 = .ok (.i2l, 1) := by decide +kernel
theorem dL_law_933 : decode code 933 = .ok (.ldc2_w 67, 3) := by decide +kernel
theorem dL_law_936 : decode code 936 = .ok (.land, 1) := by decide +kernel
theorem dL_law_937 : decode code 937 = .ok (.lor, 1) := by decide +kernel
theorem dL_law_938 : decode code 938 = .ok (.invokevirtual 111, 3) := by decide +kernel
theorem dL_law_941 : decode code 941 = .ok (.istore 6, 2) := by decide +kernel
theorem dL_law_943 : decode code 943 = .ok (.aload_n 2, 1) := by decide +kernel
theorem dL_law_944 : decode code 944 = .ok (.invokevirtual 75, 3) := by decide +kernel
theorem dL_law_947 : decode code 947 = .ok (.iload 5, 2) := by decide +kernel
theorem dL_law_949 : decode code 949 = .ok (.if_icmp .eq 5, 3) := by decide +kernel
theorem dL_law_952 : decode code 952 = .ok (.iconst 0, 1) := by decide +kernel
theorem dL_law_953 : decode code 953 = .ok (.ireturn, 1) := by decide +kernel
theorem dL_law_954 : decode code 954 = .ok (.iload 5, 2) := by decide +kernel
theorem dL_law_956 : decode code 956 = .ok (.ifCond .ne 22, 3) := by decide +kernel
theorem dL_law_959 : decode code 959 = .ok (.aload_n 3, 1) := by decide +kernel
theorem dL_law_960 : decode code 960 = .ok (.iconst 0, 1) := by decide +kernel
theorem dL_law_961 : decode code 961 = .ok (.laload, 1) := by decide +kernel
theorem dL_law_962 : decode code 962 = .ok (.iload 6, 2) := by decide +kernel
theorem dL_law_964 : decode code 964 = .ok (.ifCond .eq 7, 3) := by decide +kernel
theorem dL_law_967 : decode code 967 = .ok (.lconst 1, 1) := by decide +kernel
theorem dL_law_968 : decode code 968 = .ok (.goto 4, 3) := by decide +kernel
theorem dL_law_971 : decode code 971 = .ok (.lconst 0, 1) := by decide +kernel
theorem dL_law_972 : decode code 972 = .ok (.lcmp, 1) := by decide +kernel
theorem dL_law_973 : decode code 973 = .ok (.ifCond .eq 5, 3) := by decide +kernel
theorem dL_law_976 : decode code 976 = .ok (.iconst 0, 1) := by decide +kernel
theorem dL_law_977 : decode code 977 = .ok (.ireturn, 1) := by decide +kernel
theorem dL_law_978 : decode code 978 = .ok (.goto 344, 3) := by decide +kernel
theorem dL_law_981 : decode code 981 = .ok (.aload_n 1, 1) := by decide +kernel
theorem dL_law_982 : decode code 982 = .ok (.aload_n 3, 1) := by decide +kernel
theorem dL_law_983 : decode code 983 = .ok (.invokestatic 112, 3) := by decide +kernel
theorem dL_law_986 : decode code 986 = .ok (.istore 5, 2) := by decide +kernel
theorem dL_law_988 : decode code 988 = .ok (.aload_n 2, 1) := by decide +kernel
theorem dL_law_989 : decode code 989 = .ok (.invokevirtual 115, 3) := by decide +kernel
theorem dL_law_992 : decode code 992 = .ok (.lstore 6, 2) := by decide +kernel
theorem dL_law_994 : decode code 994 = .ok (.aload_n 2, 1) := by decide +kernel
theorem dL_law_995 : decode code 995 = .ok (.invokevirtual 75, 3) := by decide +kernel
theorem dL_law_998 : decode code 998 = .ok (.iload 5, 2) := by decide +kernel
theorem dL_law_1000 : decode code 1000 = .ok (.if_icmp .eq 5, 3) := by decide +kernel
theorem dL_law_1003 : decode code 1003 = .ok (.iconst 0, 1) := by decide +kernel
theorem dL_law_1004 : decode code 1004 = .ok (.ireturn, 1) := by decide +kernel
theorem dL_law_1005 : decode code 1005 = .ok (.iload 5, 2) := by decide +kernel
theorem dL_law_1007 : decode code 1007 = .ok (.ifCond .ne 14, 3) := by decide +kernel
theorem dL_law_1010 : decode code 1010 = .ok (.aload_n 3, 1) := by decide +kernel
theorem dL_law_1011 : decode code 1011 = .ok (.iconst 0, 1) := by decide +kernel
theorem dL_law_1012 : decode code 1012 = .ok (.laload, 1) := by decide +kernel
theorem dL_law_1013 : decode code 1013 = .ok (.lload 6, 2) := by decide +kernel
theorem dL_law_1015 : decode code 1015 = .ok (.lcmp, 1) := by decide +kernel
theorem dL_law_1016 : decode code 1016 = .ok (.ifCond .eq 5, 3) := by decide +kernel
theorem dL_law_1019 : decode code 1019 = .ok (.iconst 0, 1) := by decide +kernel
theorem dL_law_1020 : decode code 1020 = .ok (.ireturn, 1) := by decide +kernel
theorem dL_law_1021 : decode code 1021 = .ok (.goto 301, 3) := by decide +kernel
theorem dL_law_1024 : decode code 1024 = .ok (.aload_n 1, 1) := by decide +kernel
theorem dL_law_1025 : decode code 1025 = .ok (.aload_n 0, 1) := by decide +kernel
theorem dL_law_1026 : decode code 1026 = .ok (.iload 4, 2) := by decide +kernel
theorem dL_law_1028 : decode code 1028 = .ok (.iconst 1, 1) := by decide +kernel
theorem dL_law_1029 : decode code 1029 = .ok (.iadd, 1) := by decide +kernel
theorem dL_law_1030 : decode code 1030 = .ok (.iaload, 1) := by decide +kernel
theorem dL_law_1031 : decode code 1031 = .ok (.aload_n 3, 1) := by decide +kernel
theorem dL_law_1032 : decode code 1032 = .ok (.invokestatic 116, 3) := by decide +kernel
theorem dL_law_1035 : decode code 1035 = .ok (.istore 5, 2) := by decide +kernel
theorem dL_law_1037 : decode code 1037 = .ok (.aload_n 2, 1) := by decide +kernel
theorem dL_law_1038 : decode code 1038 = .ok (.aload_n 0, 1) := by decide +kernel
theorem dL_law_1039 : decode code 1039 = .ok (.iload 4, 2) := by decide +kernel
theorem dL_law_1041 : decode code 1041 = .ok (.iconst 1, 1) := by decide +kernel
theorem dL_law_1042 : decode code 1042 = .ok (.iadd, 1) := by decide +kernel
theorem dL_law_1043 : decode code 1043 = .ok (.iaload, 1) := by decide +kernel
theorem dL_law_1044 : decode code 1044 = .ok (.invokevirtual 118, 3) := by decide +kernel
theorem dL_law_1047 : decode code 1047 = .ok (.lstore 6, 2) := by decide +kernel
theorem dL_law_1049 : decode code 1049 = .ok (.aload_n 2, 1) := by decide +kernel
theorem dL_law_1050 : decode code 1050 = .ok (.invokevirtual 75, 3) := by decide +kernel
theorem dL_law_1053 : decode code 1053 = .ok (.iload 5, 2) := by decide +kernel
theorem dL_law_1055 : decode code 1055 = .ok (.if_icmp .eq 5, 3) := by decide +kernel
theorem dL_law_1058 : decode code 1058 = .ok (.iconst 0, 1) := by decide +kernel
theorem dL_law_1059 : decode code 1059 = .ok (.ireturn, 1) := by decide +kernel
theorem dL_law_1060 : decode code 1060 = .ok (.iload 5, 2) := by decide +kernel
theorem dL_law_1062 : decode code 1062 = .ok (.ifCond .ne 14, 3) := by decide +kernel
theorem dL_law_1065 : decode code 1065 = .ok (.aload_n 3, 1) := by decide +kernel
theorem dL_law_1066 : decode code 1066 = .ok (.iconst 0, 1) := by decide +kernel
theorem dL_law_1067 : decode code 1067 = .ok (.laload, 1) := by decide +kernel
theorem dL_law_1068 : decode code 1068 = .ok (.lload 6, 2) := by decide +kernel
theorem dL_law_1070 : decode code 1070 = .ok (.lcmp, 1) := by decide +kernel
theorem dL_law_1071 : decode code 1071 = .ok (.ifCond .eq 5, 3) := by decide +kernel
theorem dL_law_1074 : decode code 1074 = .ok (.iconst 0, 1) := by decide +kernel
theorem dL_law_1075 : decode code 1075 = .ok (.ireturn, 1) := by decide +kernel
theorem dL_law_1076 : decode code 1076 = .ok (.goto 246, 3) := by decide +kernel
theorem dL_law_1079 : decode code 1079 = .ok (.aload_n 1, 1) := by decide +kernel
theorem dL_law_1080 : decode code 1080 = .ok (.aload_n 0, 1) := by decide +kernel
theorem dL_law_1081 : decode code 1081 = .ok (.iload 4, 2) := by decide +kernel
theorem dL_law_1083 : decode code 1083 = .ok (.iconst 1, 1) := by decide +kernel
theorem dL_law_1084 : decode code 1084 = .ok (.iadd, 1) := by decide +kernel
theorem dL_law_1085 : decode code 1085 = .ok (.iaload, 1) := by decide +kernel
theorem dL_law_1086 : decode code 1086 = .ok (.i2l, 1) := by decide +kernel
theorem dL_law_1087 : decode code 1087 = .ok (.bipush 32, 2) := by decide +kernel
theorem dL_law_1089 : decode code 1089 = .ok (.lshl, 1) := by decide +kernel
theorem dL_law_1090 : decode code 1090 = .ok (.aload_n 0, 1) := by decide +kernel
theorem dL_law_1091 : decode code 1091 = .ok (.iload 4, 2) := by decide +kernel
theorem dL_law_1093 : decode code 1093 = .ok (.iconst 2, 1) := by decide +kernel
theorem dL_law_1094 : decode code 1094 = .ok (.iadd, 1) := by decide +kernel
theorem dL_law_1095 : decode code 1095 = .ok (.iaload, 1) := by decide +kernel
theorem dL_law_1096 : decode code 1096 = .ok (.i2l, 1) := by decide +kernel
theorem dL_law_1097 : decode code 1097 = .ok (.ldc2_w 67, 3) := by decide +kernel
theorem dL_law_1100 : decode code 1100 = .ok (.land, 1) := by decide +kernel
theorem dL_law_1101 : decode code 1101 = .ok (.lor, 1) := by decide +kernel
theorem dL_law_1102 : decode code 1102 = .ok (.aload_n 0, 1) := by decide +kernel
theorem dL_law_1103 : decode code 1103 = .ok (.iload 4, 2) := by decide +kernel
theorem dL_law_1105 : decode code 1105 = .ok (.iconst 3, 1) := by decide +kernel
theorem dL_law_1106 : decode code 1106 = .ok (.iadd, 1) := by decide +kernel
theorem dL_law_1107 : decode code 1107 = .ok (.iaload, 1) := by decide +kernel
theorem dL_law_1108 : decode code 1108 = .ok (.i2l, 1) := by decide +kernel
theorem dL_law_1109 : decode code 1109 = .ok (.bipush 32, 2) := by decide +kernel
theorem dL_law_1111 : decode code 1111 = .ok (.lshl, 1) := by decide +kernel
theorem dL_law_1112 : decode code 1112 = .ok (.aload_n 0, 1) := by decide +kernel
theorem dL_law_1113 : decode code 1113 = .ok (.iload 4, 2) := by decide +kernel
theorem dL_law_1115 : decode code 1115 = .ok (.iconst 4, 1) := by decide +kernel
theorem dL_law_1116 : decode code 1116 = .ok (.iadd, 1) := by decide +kernel
theorem dL_law_1117 : decode code 1117 = .ok (.iaload, 1) := by decide +kernel
theorem dL_law_1118 : decode code 1118 = .ok (.i2l, 1) := by decide +kernel
theorem dL_law_1119 : decode code 1119 = .ok (.ldc2_w 67, 3) := by decide +kernel
theorem dL_law_1122 : decode code 1122 = .ok (.land, 1) := by decide +kernel
theorem dL_law_1123 : decode code 1123 = .ok (.lor, 1) := by decide +kernel
theorem dL_law_1124 : decode code 1124 = .ok (.aload_n 3, 1) := by decide +kernel
theorem dL_law_1125 : decode code 1125 = .ok (.invokestatic 119, 3) := by decide +kernel
theorem dL_law_1128 : decode code 1128 = .ok (.istore 5, 2) := by decide +kernel
theorem dL_law_1130 : decode code 1130 = .ok (.aload_n 2, 1) := by decide +kernel
theorem dL_law_1131 : decode code 1131 = .ok (.aload_n 0, 1) := by decide +kernel
theorem dL_law_1132 : decode code 1132 = .ok (.iload 4, 2) := by decide +kernel
theorem dL_law_1134 : decode code 1134 = .ok (.iconst 1, 1) := by decide +kernel
theorem dL_law_1135 : decode code 1135 = .ok (.iadd, 1) := by decide +kernel
theorem dL_law_1136 : decode code 1136 = .ok (.iaload, 1) := by decide +kernel
theorem dL_law_1137 : decode code 1137 = .ok (.i2l, 1) := by decide +kernel
theorem dL_law_1138 : decode code 1138 = .ok (.bipush 32, 2) := by decide +kernel
theorem dL_law_1140 : decode code 1140 = .ok (.lshl, 1) := by decide +kernel
theorem dL_law_1141 : decode code 1141 = .ok (.aload_n 0, 1) := by decide +kernel
theorem dL_law_1142 : decode code 1142 = .ok (.iload 4, 2) := by decide +kernel
theorem dL_law_1144 : decode code 1144 = .ok (.iconst 2, 1) := by decide +kernel
theorem dL_law_1145 : decode code 1145 = .ok (.iadd, 1) := by decide +kernel
theorem dL_law_1146 : decode code 1146 = .ok (.iaload, 1) := by decide +kernel
theorem dL_law_1147 : decode code 1147 = .ok (.i2l, 1) := by decide +kernel
theorem dL_law_1148 : decode code 1148 = .ok (.ldc2_w 67, 3) := by decide +kernel
theorem dL_law_1151 : decode code 1151 = .ok (.land, 1) := by decide +kernel
theorem dL_law_1152 : decode code 1152 = .ok (.lor, 1) := by decide +kernel
theorem dL_law_1153 : decode code 1153 = .ok (.aload_n 0, 1) := by decide +kernel
theorem dL_law_1154 : decode code 1154 = .ok (.iload 4, 2) := by decide +kernel
theorem dL_law_1156 : decode code 1156 = .ok (.iconst 3, 1) := by decide +kernel
theorem dL_law_1157 : decode code 1157 = .ok (.iadd, 1) := by decide +kernel
theorem dL_law_1158 : decode code 1158 = .ok (.iaload, 1) := by decide +kernel
theorem dL_law_1159 : decode code 1159 = .ok (.i2l, 1) := by decide +kernel
theorem dL_law_1160 : decode code 1160 = .ok (.bipush 32, 2) := by decide +kernel
theorem dL_law_1162 : decode code 1162 = .ok (.lshl, 1) := by decide +kernel
theorem dL_law_1163 : decode code 1163 = .ok (.aload_n 0, 1) := by decide +kernel
theorem dL_law_1164 : decode code 1164 = .ok (.iload 4, 2) := by decide +kernel
theorem dL_law_1166 : decode code 1166 = .ok (.iconst 4, 1) := by decide +kernel
theorem dL_law_1167 : decode code 1167 = .ok (.iadd, 1) := by decide +kernel
theorem dL_law_1168 : decode code 1168 = .ok (.iaload, 1) := by decide +kernel
theorem dL_law_1169 : decode code 1169 = .ok (.i2l, 1) := by decide +kernel
theorem dL_law_1170 : decode code 1170 = .ok (.ldc2_w 67, 3) := by decide +kernel
theorem dL_law_1173 : decode code 1173 = .ok (.land, 1) := by decide +kernel
theorem dL_law_1174 : decode code 1174 = .ok (.lor, 1) := by decide +kernel
theorem dL_law_1175 : decode code 1175 = .ok (.invokevirtual 122, 3) := by decide +kernel
theorem dL_law_1178 : decode code 1178 = .ok (.istore 6, 2) := by decide +kernel
theorem dL_law_1180 : decode code 1180 = .ok (.aload_n 2, 1) := by decide +kernel
theorem dL_law_1181 : decode code 1181 = .ok (.invokevirtual 75, 3) := by decide +kernel
theorem dL_law_1184 : decode code 1184 = .ok (.iload 5, 2) := by decide +kernel
theorem dL_law_1186 : decode code 1186 = .ok (.if_icmp .eq 5, 3) := by decide +kernel
theorem dL_law_1189 : decode code 1189 = .ok (.iconst 0, 1) := by decide +kernel
theorem dL_law_1190 : decode code 1190 = .ok (.ireturn, 1) := by decide +kernel
theorem dL_law_1191 : decode code 1191 = .ok (.iload 5, 2) := by decide +kernel
theorem dL_law_1193 : decode code 1193 = .ok (.ifCond .ne 15, 3) := by decide +kernel
theorem dL_law_1196 : decode code 1196 = .ok (.aload_n 3, 1) := by decide +kernel
theorem dL_law_1197 : decode code 1197 = .ok (.iconst 0, 1) := by decide +kernel
theorem dL_law_1198 : decode code 1198 = .ok (.laload, 1) := by decide +kernel
theorem dL_law_1199 : decode code 1199 = .ok (.iload 6, 2) := by decide +kernel
theorem dL_law_1201 : decode code 1201 = .ok (.i2l, 1) := by decide +kernel
theorem dL_law_1202 : decode code 1202 = .ok (.lcmp, 1) := by decide +kernel
theorem dL_law_1203 : decode code 1203 = .ok (.ifCond .eq 5, 3) := by decide +kernel
theorem dL_law_1206 : decode code 1206 = .ok (.iconst 0, 1) := by decide +kernel
theorem dL_law_1207 : decode code 1207 = .ok (.ireturn, 1) := by decide +kernel
theorem dL_law_1208 : decode code 1208 = .ok (.goto 114, 3) := by decide +kernel
theorem dL_law_1211 : decode code 1211 = .ok (.aload_n 1, 1) := by decide +kernel
theorem dL_law_1212 : decode code 1212 = .ok (.aload_n 0, 1) := by decide +kernel
theorem dL_law_1213 : decode code 1213 = .ok (.iload 4, 2) := by decide +kernel
theorem dL_law_1215 : decode code 1215 = .ok (.iconst 1, 1) := by decide +kernel
theorem dL_law_1216 : decode code 1216 = .ok (.iadd, 1) := by decide +kernel
theorem dL_law_1217 : decode code 1217 = .ok (.iaload, 1) := by decide +kernel
theorem dL_law_1218 : decode code 1218 = .ok (.aload_n 3, 1) := by decide +kernel
theorem dL_law_1219 : decode code 1219 = .ok (.invokestatic 123, 3) := by decide +kernel
theorem dL_law_1222 : decode code 1222 = .ok (.istore 5, 2) := by decide +kernel
theorem dL_law_1224 : decode code 1224 = .ok (.aload_n 2, 1) := by decide +kernel
theorem dL_law_1225 : decode code 1225 = .ok (.aload_n 0, 1) := by decide +kernel
theorem dL_law_1226 : decode code 1226 = .ok (.iload 4, 2) := by decide +kernel
theorem dL_law_1228 : decode code 1228 = .ok (.iconst 1, 1) := by decide +kernel
theorem dL_law_1229 : decode code 1229 = .ok (.iadd, 1) := by decide +kernel
theorem dL_law_1230 : decode code 1230 = .ok (.iaload, 1) := by decide +kernel
theorem dL_law_1231 : decode code 1231 = .ok (.invokevirtual 125, 3) := by decide +kernel
theorem dL_law_1234 : decode code 1234 = .ok (.lstore 6, 2) := by decide +kernel
theorem dL_law_1236 : decode code 1236 = .ok (.aload_n 2, 1) := by decide +kernel
theorem dL_law_1237 : decode code 1237 = .ok (.invokevirtual 75, 3) := by decide +kernel
theorem dL_law_1240 : decode code 1240 = .ok (.iload 5, 2) := by decide +kernel
theorem dL_law_1242 : decode code 1242 = .ok (.if_icmp .eq 5, 3) := by decide +kernel
theorem dL_law_1245 : decode code 1245 = .ok (.iconst 0, 1) := by decide +kernel
theorem dL_law_1246 : decode code 1246 = .ok (.ireturn, 1) := by decide +kernel
theorem dL_law_1247 : decode code 1247 = .ok (.iload 5, 2) := by decide +kernel
theorem dL_law_1249 : decode code 1249 = .ok (.ifCond .ne 14, 3) := by decide +kernel
theorem dL_law_1252 : decode code 1252 = .ok (.aload_n 3, 1) := by decide +kernel
theorem dL_law_1253 : decode code 1253 = .ok (.iconst 0, 1) := by decide +kernel
theorem dL_law_1254 : decode code 1254 = .ok (.laload, 1) := by decide +kernel
theorem dL_law_1255 : decode code 1255 = .ok (.lload 6, 2) := by decide +kernel
theorem dL_law_1257 : decode code 1257 = .ok (.lcmp, 1) := by decide +kernel
theorem dL_law_1258 : decode code 1258 = .ok (.ifCond .eq 5, 3) := by decide +kernel
theorem dL_law_1261 : decode code 1261 = .ok (.iconst 0, 1) := by decide +kernel
theorem dL_law_1262 : decode code 1262 = .ok (.ireturn, 1) := by decide +kernel
theorem dL_law_1263 : decode code 1263 = .ok (.goto 59, 3) := by decide +kernel
theorem dL_law_1266 : decode code 1266 = .ok (.aload_n 1, 1) := by decide +kernel
theorem dL_law_1267 : decode code 1267 = .ok (.aload_n 0, 1) := by decide +kernel
theorem dL_law_1268 : decode code 1268 = .ok (.iload 4, 2) := by decide +kernel
theorem dL_law_1270 : decode code 1270 = .ok (.iconst 1, 1) := by decide +kernel
theorem dL_law_1271 : decode code 1271 = .ok (.iadd, 1) := by decide +kernel
theorem dL_law_1272 : decode code 1272 = .ok (.iaload, 1) := by decide +kernel
theorem dL_law_1273 : decode code 1273 = .ok (.aload_n 3, 1) := by decide +kernel
theorem dL_law_1274 : decode code 1274 = .ok (.invokestatic 126, 3) := by decide +kernel
theorem dL_law_1277 : decode code 1277 = .ok (.istore 5, 2) := by decide +kernel
theorem dL_law_1279 : decode code 1279 = .ok (.aload_n 2, 1) := by decide +kernel
theorem dL_law_1280 : decode code 1280 = .ok (.aload_n 0, 1) := by decide +kernel
theorem dL_law_1281 : decode code 1281 = .ok (.iload 4, 2) := by decide +kernel
theorem dL_law_1283 : decode code 1283 = .ok (.iconst 1, 1) := by decide +kernel
theorem dL_law_1284 : decode code 1284 = .ok (.iadd, 1) := by decide +kernel
theorem dL_law_1285 : decode code 1285 = .ok (.iaload, 1) := by decide +kernel
theorem dL_law_1286 : decode code 1286 = .ok (.invokevirtual 128, 3) := by decide +kernel
theorem dL_law_1289 : decode code 1289 = .ok (.istore 6, 2) := by decide +kernel
theorem dL_law_1291 : decode code 1291 = .ok (.aload_n 2, 1) := by decide +kernel
theorem dL_law_1292 : decode code 1292 = .ok (.invokevirtual 75, 3) := by decide +kernel
theorem dL_law_1295 : decode code 1295 = .ok (.iload 5, 2) := by decide +kernel
theorem dL_law_1297 : decode code 1297 = .ok (.if_icmp .eq 5, 3) := by decide +kernel
theorem dL_law_1300 : decode code 1300 = .ok (.iconst 0, 1) := by decide +kernel
theorem dL_law_1301 : decode code 1301 = .ok (.ireturn, 1) := by decide +kernel
theorem dL_law_1302 : decode code 1302 = .ok (.iload 5, 2) := by decide +kernel
theorem dL_law_1304 : decode code 1304 = .ok (.ifCond .ne 15, 3) := by decide +kernel
theorem dL_law_1307 : decode code 1307 = .ok (.aload_n 3, 1) := by decide +kernel
theorem dL_law_1308 : decode code 1308 = .ok (.iconst 0, 1) := by decide +kernel
theorem dL_law_1309 : decode code 1309 = .ok (.laload, 1) := by decide +kernel
theorem dL_law_1310 : decode code 1310 = .ok (.iload 6, 2) := by decide +kernel
theorem dL_law_1312 : decode code 1312 = .ok (.i2l, 1) := by decide +kernel
theorem dL_law_1313 : decode code 1313 = .ok (.lcmp, 1) := by decide +kernel
theorem dL_law_1314 : decode code 1314 = .ok (.ifCond .eq 5, 3) := by decide +kernel
theorem dL_law_1317 : decode code 1317 = .ok (.iconst 0, 1) := by decide +kernel
theorem dL_law_1318 : decode code 1318 = .ok (.ireturn, 1) := by decide +kernel
theorem dL_law_1319 : decode code 1319 = .ok (.goto 3, 3) := by decide +kernel
theorem dL_law_1322 : decode code 1322 = .ok (.iinc 4 11, 3) := by decide +kernel
theorem dL_law_1325 : decode code 1325 = .ok (.goto (-1302), 3) := by decide +kernel
theorem dL_law_1328 : decode code 1328 = .ok (.iconst 1, 1) := by decide +kernel
theorem dL_law_1329 : decode code 1329 = .ok (.ireturn, 1) := by decide +kernel
end
section
theorem gw_770 : Cond.superclass "java/lang/Throwable" "java/lang/Object" ∈ gT := List.mem_filter.mpr ⟨List.mem_append_right _ (List.mem_append_right _ (List.mem_append_left _ (List.mem_of_getElem? (i := 109) (by rfl))) : Cond.superclass "java/lang/Throwable" "java/lang/Object" ∈ tables_1), by rfl⟩
/-! what throwing asks of the state: the texts of the literals, two statics of Throwable -/
def tzB : Cond → Bool
  | .stringRef .. => true
  | _ => false
def tz (U : State) : Prop := (∀ w ∈ tables_1, tzB w = true → va_Nw w U) ∧ va_Zq Bundle.tN "UNASSIGNED_STACK" Bundle.steD (fun _ => False) U U.heap ∧ va_Zq Bundle.tN "SUPPRESSED_SENTINEL" Bundle.listD (fun _ => False) U U.heap ∧ (Cond.laysStatic Bundle.tN "UNASSIGNED_STACK" Bundle.steD).before #[] U = true ∧ (Cond.laysStatic Bundle.tN "SUPPRESSED_SENTINEL" Bundle.listD).before #[] U = true
theorem tz_ls {C n d : String} {s U : State} {args args' : Array Value} (hW : s.WarmedH U.vm) (hH : ∀ q : Nat, q < s.heap.size → U.heap[q]? = s.heap[q]?) (h : (Cond.laysStatic C n d).before args s = true) : (Cond.laysStatic C n d).before args' U = true := by
  obtain ⟨c, k, i, f, a, cell, h1, h2, h3, h4, h5, h6, h7, h8, h9⟩ := Cond.laysStatic_spec h
  obtain ⟨k', hi', he⟩ := State.fieldFound?_setVm hW.alike h2
  show (Cond.laysStatic C n d).holds args' U none U [] = true
  exact Cond.laysStatic_of (by rw [hW.alike.findClass]; exact h1) hi' h3 (by rw [he]; exact h4) (by rw [hH a (Array.getElem?_eq_some_iff.mp h5).1]; exact h5) h6 h7 h8 (by rw [he]; exact h9)
theorem tz_step {s U : State} (hW : s.WarmedH U.vm) (hH : ∀ q : Nat, q < s.heap.size → U.heap[q]? = s.heap[q]?) (h : tz s) : tz U := by
  refine ⟨fun w hw hb => ?_, ((va_Zq.moved hW.alike h.2.1).kept (fun a ha _ => hH a ha)), ((va_Zq.moved hW.alike h.2.2.1).kept (fun a ha _ => hH a ha)), tz_ls hW hH h.2.2.2.1, tz_ls hW hH h.2.2.2.2⟩
  have h1 := h.1 w hw hb
  cases w <;> first | (cases hb; done) | skip
  have h2 := Cond.stringRef_warmed hW h1
  exact h2
theorem tz_ref {C n d : String} {U : State} {args : Array Value} (h : va_Zq C n d (fun _ => False) U U.heap) : (Cond.isRef (.static C n d)).before args U = true := by
  rcases h with ⟨cf, kf, fi, f, a, cell, h1, h2, h3, h4, h5, h6, h7, -⟩ | ⟨t, cf, kf, fi, f, a, cell, h1, h2, h3, h4, h5, h6, h7, -⟩
  · simp [Cond.before, Cond.holds, Cond.value, Term.eval, State.fieldNamed?, h1, h2, h4, h5, h6, h7]
  · simp [Cond.before, Cond.holds, Cond.value, Term.eval, State.fieldNamed?, h1, h2, h4, h5, h6, h7]
theorem tz_lit {own tx : String} {k : Nat} {U : State} {args : Array Value} (h : va_Nw (.stringRef own k tx) U) : (Cond.stringRef own k tx).before args U = true := by
  simpa [va_Nw, Cond.before, Cond.holds, Cond.value] using h
def tp_T (D : va_G) (cl : List vw_C) (av : List Value) (w : va_W) (tys : List (ClassId × FieldType)) : Array Value → State → Prop := va_Pc av (fun U => va_P D cl w U.heap ∧ va_K D cl tys U ∧ tn U ∧ tz U)
theorem tp_Ts {s : State} {H : Heap} {D : va_G} {cl : List vw_C} {ws w : va_W} {tys tys' : List (ClassId × FieldType)} {av : List Value} (hZ : tz s) (hH : ∀ q : Nat, q < s.heap.size → H[q]? = s.heap[q]?) (hN : tn s) (hK : va_K D cl tys s) (hP : va_P D cl ws H) (is ts : List Nat) (hw : is.filterMap (fun i => ws[i]?) = w) (ht : ts.filterMap (fun i => tys[i]?) = tys') : PreS s H (tp_T D cl av w tys') av :=
  ⟨fun a U g mk q => ⟨q.1, q.2.1, va_K.moved (u := U) (U := U.calling g mk a) (Vm.Alike.refl U.vm) q.2.2.1, tn_same (s := U) rfl q.2.2.2.1, tz_step (s := U) (State.WarmedH.refl U) (fun _ _ => rfl) q.2.2.2.2⟩, fun U hU hW => ⟨rfl, by rw [hU]; exact hP.sub is hw, va_K.moved hW.alike (hK.sub ts ht), tn_warm hW hN, tz_step hW (fun q h => by rw [hU]; exact hH q h) hZ⟩⟩
theorem tp_Tv {s : State} {H : Heap} {D : va_G} {cl : List vw_C} {ws w : va_W} {tys tys' : List (ClassId × FieldType)} {b q0 ci : Nat} {cq : vw_C} {fs : List Value} {As : List Value} (hZ : tz s) (hH : ∀ q : Nat, q < s.heap.size → H[q]? = s.heap[q]?) (hN : tn s) (hK : va_K D cl tys s) (hP : va_P D cl ws H) (is ts : List Nat) (hw : is.filterMap (fun i => ws[i]?) = w) (ht : ts.filterMap (fun i => tys[i]?) = tys') (he : ws[q0]? = some (b, .inr (ci, fs))) (hc : cl[ci]? = some cq) : PreV s H cq.1 b (tp_T D cl (.ref b :: As) w tys') As :=
  ⟨(tp_Ts (av := .ref b :: As) hZ hH hN hK hP is ts hw ht).1, va_recv hK hP hc he, (tp_Ts (av := .ref b :: As) hZ hH hN hK hP is ts hw ht).2⟩
set_option maxRecDepth 100000 in
theorem own_ISE {args : Array Value} {s : State} (hts : ∀ w ∈ gT, w.before args s = true) (hN : tn s) (hZ : tz s) : ∀ a ∈ Bundle.ownAtoms "StairPlans" 97 "java/lang/IllegalStateException" ["java/lang/RuntimeException", "java/lang/Exception"], a.before args s = true :=
  List.forall_mem_append.mpr ⟨List.forall_mem_append.mpr ⟨List.forall_mem_append.mpr ⟨List.forall_mem_cons.mpr ⟨hts _ gw_8, List.forall_mem_cons.mpr ⟨hts _ gw_770, List.forall_mem_cons.mpr ⟨hts _ gw_271, List.forall_mem_cons.mpr ⟨hts _ gw_275, List.forall_mem_cons.mpr ⟨hts _ gw_277, List.forall_mem_cons.mpr ⟨hts _ gw_279, List.forall_mem_cons.mpr ⟨hts _ gw_265, List.forall_mem_cons.mpr ⟨hts _ gw_266, List.forall_mem_cons.mpr ⟨hts _ gw_24, List.forall_mem_cons.mpr ⟨hts _ gw_25, List.forall_mem_cons.mpr ⟨hts _ gw_267, List.forall_mem_cons.mpr ⟨hts _ gw_270, List.forall_mem_cons.mpr ⟨hts _ gw_276, List.forall_mem_cons.mpr ⟨hts _ gw_293, List.forall_mem_cons.mpr ⟨hts _ gw_255, List.forall_mem_cons.mpr ⟨hts _ gw_294, List.forall_mem_cons.mpr ⟨hts _ gw_257, List.forall_mem_cons.mpr ⟨hts _ gw_295, List.forall_mem_cons.mpr ⟨hts _ gw_259, List.forall_mem_cons.mpr ⟨hts _ gw_268, List.forall_mem_cons.mpr ⟨tz_ls (State.WarmedH.refl s) (fun _ _ => rfl) hZ.2.2.2.1, List.forall_mem_cons.mpr ⟨hts _ gw_269, List.forall_mem_cons.mpr ⟨tz_ls (State.WarmedH.refl s) (fun _ _ => rfl) hZ.2.2.2.2, List.forall_mem_cons.mpr ⟨hts _ gw_261, List.forall_mem_nil _⟩⟩⟩⟩⟩⟩⟩⟩⟩⟩⟩⟩⟩⟩⟩⟩⟩⟩⟩⟩⟩⟩⟩⟩, List.forall_mem_cons.mpr ⟨hts _ gw_290, List.forall_mem_cons.mpr ⟨hts _ gw_291, List.forall_mem_cons.mpr ⟨hts _ gw_292, List.forall_mem_cons.mpr ⟨hts _ gw_261, List.forall_mem_nil _⟩⟩⟩⟩⟩, List.forall_mem_append.mpr ⟨(List.forall_mem_cons.mpr ⟨hts _ gw_314, List.forall_mem_cons.mpr ⟨hts _ gw_315, List.forall_mem_cons.mpr ⟨hts _ gw_316, List.forall_mem_cons.mpr ⟨hts _ gw_284, List.forall_mem_cons.mpr ⟨va_Nw.use rfl (hN _ nw_17 rfl), List.forall_mem_nil _⟩⟩⟩⟩⟩), List.forall_mem_append.mpr ⟨(List.forall_mem_cons.mpr ⟨hts _ gw_284, List.forall_mem_cons.mpr ⟨hts _ gw_285, List.forall_mem_cons.mpr ⟨hts _ gw_286, List.forall_mem_cons.mpr ⟨hts _ gw_287, List.forall_mem_cons.mpr ⟨va_Nw.use rfl (hN _ nw_19 rfl), List.forall_mem_nil _⟩⟩⟩⟩⟩), (List.forall_mem_cons.mpr ⟨hts _ gw_287, List.forall_mem_cons.mpr ⟨hts _ gw_288, List.forall_mem_cons.mpr ⟨hts _ gw_289, List.forall_mem_cons.mpr ⟨hts _ gw_290, List.forall_mem_cons.mpr ⟨va_Nw.use rfl (hN _ nw_21 rfl), List.forall_mem_nil _⟩⟩⟩⟩⟩)⟩⟩⟩, List.forall_mem_cons.mpr ⟨hts _ gw_313, List.forall_mem_cons.mpr ⟨hts _ gw_306, List.forall_mem_cons.mpr ⟨va_Nw.use rfl (hN _ nw_22 rfl), List.forall_mem_cons.mpr ⟨hts _ gw_307, List.forall_mem_cons.mpr ⟨hts _ gw_273, List.forall_mem_cons.mpr ⟨hts _ gw_308, List.forall_mem_cons.mpr ⟨hts _ gw_309, List.forall_mem_cons.mpr ⟨hts _ gw_310, List.forall_mem_cons.mpr ⟨hts _ gw_311, List.forall_mem_cons.mpr ⟨tz_ref hZ.2.1, List.forall_mem_cons.mpr ⟨tz_ref hZ.2.2.1, List.forall_mem_cons.mpr ⟨hts _ gw_264, List.forall_mem_cons.mpr ⟨hts _ gw_263, List.forall_mem_cons.mpr ⟨hts _ gw_312, List.forall_mem_nil _⟩⟩⟩⟩⟩⟩⟩⟩⟩⟩⟩⟩⟩⟩⟩
set_option maxRecDepth 100000 in
theorem own_IAE {args : Array Value} {s : State} (hts : ∀ w ∈ gT, w.before args s = true) (hN : tn s) (hZ : tz s) : ∀ a ∈ Bundle.ownAtoms "StairPlans" 69 "java/lang/IllegalArgumentException" ["java/lang/RuntimeException", "java/lang/Exception"], a.before args s = true :=
  List.forall_mem_append.mpr ⟨List.forall_mem_append.mpr ⟨List.forall_mem_append.mpr ⟨List.forall_mem_cons.mpr ⟨hts _ gw_8, List.forall_mem_cons.mpr ⟨hts _ gw_770, List.forall_mem_cons.mpr ⟨hts _ gw_271, List.forall_mem_cons.mpr ⟨hts _ gw_275, List.forall_mem_cons.mpr ⟨hts _ gw_277, List.forall_mem_cons.mpr ⟨hts _ gw_279, List.forall_mem_cons.mpr ⟨hts _ gw_265, List.forall_mem_cons.mpr ⟨hts _ gw_266, List.forall_mem_cons.mpr ⟨hts _ gw_24, List.forall_mem_cons.mpr ⟨hts _ gw_25, List.forall_mem_cons.mpr ⟨hts _ gw_267, List.forall_mem_cons.mpr ⟨hts _ gw_270, List.forall_mem_cons.mpr ⟨hts _ gw_276, List.forall_mem_cons.mpr ⟨hts _ gw_293, List.forall_mem_cons.mpr ⟨hts _ gw_255, List.forall_mem_cons.mpr ⟨hts _ gw_294, List.forall_mem_cons.mpr ⟨hts _ gw_257, List.forall_mem_cons.mpr ⟨hts _ gw_295, List.forall_mem_cons.mpr ⟨hts _ gw_259, List.forall_mem_cons.mpr ⟨hts _ gw_268, List.forall_mem_cons.mpr ⟨tz_ls (State.WarmedH.refl s) (fun _ _ => rfl) hZ.2.2.2.1, List.forall_mem_cons.mpr ⟨hts _ gw_269, List.forall_mem_cons.mpr ⟨tz_ls (State.WarmedH.refl s) (fun _ _ => rfl) hZ.2.2.2.2, List.forall_mem_cons.mpr ⟨hts _ gw_261, List.forall_mem_nil _⟩⟩⟩⟩⟩⟩⟩⟩⟩⟩⟩⟩⟩⟩⟩⟩⟩⟩⟩⟩⟩⟩⟩⟩, List.forall_mem_cons.mpr ⟨hts _ gw_290, List.forall_mem_cons.mpr ⟨hts _ gw_291, List.forall_mem_cons.mpr ⟨hts _ gw_292, List.forall_mem_cons.mpr ⟨hts _ gw_261, List.forall_mem_nil _⟩⟩⟩⟩⟩, List.forall_mem_append.mpr ⟨(List.forall_mem_cons.mpr ⟨hts _ gw_281, List.forall_mem_cons.mpr ⟨hts _ gw_282, List.forall_mem_cons.mpr ⟨hts _ gw_283, List.forall_mem_cons.mpr ⟨hts _ gw_284, List.forall_mem_cons.mpr ⟨va_Nw.use rfl (hN _ nw_17 rfl), List.forall_mem_nil _⟩⟩⟩⟩⟩), List.forall_mem_append.mpr ⟨(List.forall_mem_cons.mpr ⟨hts _ gw_284, List.forall_mem_cons.mpr ⟨hts _ gw_285, List.forall_mem_cons.mpr ⟨hts _ gw_286, List.forall_mem_cons.mpr ⟨hts _ gw_287, List.forall_mem_cons.mpr ⟨va_Nw.use rfl (hN _ nw_19 rfl), List.forall_mem_nil _⟩⟩⟩⟩⟩), (List.forall_mem_cons.mpr ⟨hts _ gw_287, List.forall_mem_cons.mpr ⟨hts _ gw_288, List.forall_mem_cons.mpr ⟨hts _ gw_289, List.forall_mem_cons.mpr ⟨hts _ gw_290, List.forall_mem_cons.mpr ⟨va_Nw.use rfl (hN _ nw_21 rfl), List.forall_mem_nil _⟩⟩⟩⟩⟩)⟩⟩⟩, List.forall_mem_cons.mpr ⟨hts _ gw_280, List.forall_mem_cons.mpr ⟨hts _ gw_251, List.forall_mem_cons.mpr ⟨va_Nw.use rfl (hN _ nw_15 rfl), List.forall_mem_cons.mpr ⟨hts _ gw_252, List.forall_mem_cons.mpr ⟨hts _ gw_253, List.forall_mem_cons.mpr ⟨hts _ gw_254, List.forall_mem_cons.mpr ⟨hts _ gw_256, List.forall_mem_cons.mpr ⟨hts _ gw_258, List.forall_mem_cons.mpr ⟨hts _ gw_260, List.forall_mem_cons.mpr ⟨tz_ref hZ.2.1, List.forall_mem_cons.mpr ⟨tz_ref hZ.2.2.1, List.forall_mem_cons.mpr ⟨hts _ gw_264, List.forall_mem_cons.mpr ⟨hts _ gw_263, List.forall_mem_cons.mpr ⟨hts _ gw_262, List.forall_mem_nil _⟩⟩⟩⟩⟩⟩⟩⟩⟩⟩⟩⟩⟩⟩⟩
set_option maxRecDepth 100000 in
theorem own_IOB {args : Array Value} {s : State} (hts : ∀ w ∈ gT, w.before args s = true) (hN : tn s) (hZ : tz s) : ∀ a ∈ Bundle.ownAtoms "StairPlans" 243 "java/lang/IndexOutOfBoundsException" ["java/lang/RuntimeException", "java/lang/Exception"], a.before args s = true :=
  List.forall_mem_append.mpr ⟨List.forall_mem_append.mpr ⟨List.forall_mem_append.mpr ⟨List.forall_mem_cons.mpr ⟨hts _ gw_8, List.forall_mem_cons.mpr ⟨hts _ gw_770, List.forall_mem_cons.mpr ⟨hts _ gw_271, List.forall_mem_cons.mpr ⟨hts _ gw_275, List.forall_mem_cons.mpr ⟨hts _ gw_277, List.forall_mem_cons.mpr ⟨hts _ gw_279, List.forall_mem_cons.mpr ⟨hts _ gw_265, List.forall_mem_cons.mpr ⟨hts _ gw_266, List.forall_mem_cons.mpr ⟨hts _ gw_24, List.forall_mem_cons.mpr ⟨hts _ gw_25, List.forall_mem_cons.mpr ⟨hts _ gw_267, List.forall_mem_cons.mpr ⟨hts _ gw_270, List.forall_mem_cons.mpr ⟨hts _ gw_276, List.forall_mem_cons.mpr ⟨hts _ gw_293, List.forall_mem_cons.mpr ⟨hts _ gw_255, List.forall_mem_cons.mpr ⟨hts _ gw_294, List.forall_mem_cons.mpr ⟨hts _ gw_257, List.forall_mem_cons.mpr ⟨hts _ gw_295, List.forall_mem_cons.mpr ⟨hts _ gw_259, List.forall_mem_cons.mpr ⟨hts _ gw_268, List.forall_mem_cons.mpr ⟨tz_ls (State.WarmedH.refl s) (fun _ _ => rfl) hZ.2.2.2.1, List.forall_mem_cons.mpr ⟨hts _ gw_269, List.forall_mem_cons.mpr ⟨tz_ls (State.WarmedH.refl s) (fun _ _ => rfl) hZ.2.2.2.2, List.forall_mem_cons.mpr ⟨hts _ gw_261, List.forall_mem_nil _⟩⟩⟩⟩⟩⟩⟩⟩⟩⟩⟩⟩⟩⟩⟩⟩⟩⟩⟩⟩⟩⟩⟩⟩, List.forall_mem_cons.mpr ⟨hts _ gw_290, List.forall_mem_cons.mpr ⟨hts _ gw_291, List.forall_mem_cons.mpr ⟨hts _ gw_292, List.forall_mem_cons.mpr ⟨hts _ gw_261, List.forall_mem_nil _⟩⟩⟩⟩⟩, List.forall_mem_append.mpr ⟨(List.forall_mem_cons.mpr ⟨hts _ gw_386, List.forall_mem_cons.mpr ⟨hts _ gw_387, List.forall_mem_cons.mpr ⟨hts _ gw_388, List.forall_mem_cons.mpr ⟨hts _ gw_284, List.forall_mem_cons.mpr ⟨va_Nw.use rfl (hN _ nw_17 rfl), List.forall_mem_nil _⟩⟩⟩⟩⟩), List.forall_mem_append.mpr ⟨(List.forall_mem_cons.mpr ⟨hts _ gw_284, List.forall_mem_cons.mpr ⟨hts _ gw_285, List.forall_mem_cons.mpr ⟨hts _ gw_286, List.forall_mem_cons.mpr ⟨hts _ gw_287, List.forall_mem_cons.mpr ⟨va_Nw.use rfl (hN _ nw_19 rfl), List.forall_mem_nil _⟩⟩⟩⟩⟩), (List.forall_mem_cons.mpr ⟨hts _ gw_287, List.forall_mem_cons.mpr ⟨hts _ gw_288, List.forall_mem_cons.mpr ⟨hts _ gw_289, List.forall_mem_cons.mpr ⟨hts _ gw_290, List.forall_mem_cons.mpr ⟨va_Nw.use rfl (hN _ nw_21 rfl), List.forall_mem_nil _⟩⟩⟩⟩⟩)⟩⟩⟩, List.forall_mem_cons.mpr ⟨hts _ gw_385, List.forall_mem_cons.mpr ⟨hts _ gw_378, List.forall_mem_cons.mpr ⟨va_Nw.use rfl (hN _ nw_23 rfl), List.forall_mem_cons.mpr ⟨hts _ gw_379, List.forall_mem_cons.mpr ⟨hts _ gw_274, List.forall_mem_cons.mpr ⟨hts _ gw_380, List.forall_mem_cons.mpr ⟨hts _ gw_381, List.forall_mem_cons.mpr ⟨hts _ gw_382, List.forall_mem_cons.mpr ⟨hts _ gw_383, List.forall_mem_cons.mpr ⟨tz_ref hZ.2.1, List.forall_mem_cons.mpr ⟨tz_ref hZ.2.2.1, List.forall_mem_cons.mpr ⟨hts _ gw_264, List.forall_mem_cons.mpr ⟨hts _ gw_263, List.forall_mem_cons.mpr ⟨hts _ gw_384, List.forall_mem_nil _⟩⟩⟩⟩⟩⟩⟩⟩⟩⟩⟩⟩⟩⟩⟩
theorem sw_0 : Cond.stringRef "StairPlans$RuleText" 49 "rgnwt" ∈ tables_1 := List.mem_append_left _ (List.mem_of_getElem? (i := 214) (by rfl))
theorem sw_1 : Cond.stringRef "StairPlans" 67 "total is not 1 .. 100000" ∈ tables_1 := List.mem_append_right _ (List.mem_append_left _ (List.mem_of_getElem? (i := 128) (by rfl)))
theorem sw_2 : Cond.stringRef "StairPlans" 95 "no rules were read" ∈ tables_1 := List.mem_append_right _ (List.mem_append_left _ (List.mem_of_getElem? (i := 171) (by rfl)))
theorem sw_3 : Cond.stringRef "StairPlans" 98 "kind is not 0 .. 2" ∈ tables_1 := List.mem_append_right _ (List.mem_append_left _ (List.mem_of_getElem? (i := 178) (by rfl)))
theorem sw_4 : Cond.stringRef "StairPlans" 102 "going or width is not 1 .. 10000" ∈ tables_1 := List.mem_append_right _ (List.mem_append_left _ (List.mem_of_getElem? (i := 180) (by rfl)))
theorem sw_5 : Cond.stringRef "StairPlans" 235 "no stair is planned" ∈ tables_1 := List.mem_append_right _ (List.mem_append_left _ (List.mem_of_getElem? (i := 238) (by rfl)))
theorem sw_6 : Cond.stringRef "StairPlans" 241 "there is none of that number" ∈ tables_1 := List.mem_append_right _ (List.mem_append_right _ (List.mem_append_left _ (List.mem_of_getElem? (i := 11) (by rfl))))
theorem sw_7 : Cond.stringRef "StairPlans" 166 "what is not 0 .. 5" ∈ tables_1 := List.mem_append_right _ (List.mem_append_right _ (List.mem_append_left _ (List.mem_of_getElem? (i := 56) (by rfl))))
theorem sw_8 : Cond.stringRef "StairPlans" 237 "the stair has no winders" ∈ tables_1 := List.mem_append_right _ (List.mem_append_right _ (List.mem_append_left _ (List.mem_of_getElem? (i := 69) (by rfl))))
theorem sw_9 : Cond.stringRef "StairPlans" 189 "a place is not -1000000 .. 1000000" ∈ tables_1 := List.mem_append_right _ (List.mem_append_right _ (List.mem_append_left _ (List.mem_of_getElem? (i := 117) (by rfl))))
theorem sw_10 : Cond.stringRef "StairPlans" 191 "x1 is not above x0, or y1 not above y0" ∈ tables_1 := List.mem_append_right _ (List.mem_append_right _ (List.mem_append_left _ (List.mem_of_getElem? (i := 118) (by rfl))))
theorem sw_11 : Cond.stringRef "StairPlans" 196 "height is not 0 .. 1000000" ∈ tables_1 := List.mem_append_right _ (List.mem_append_right _ (List.mem_append_left _ (List.mem_of_getElem? (i := 122) (by rfl))))
theorem sw_12 : Cond.stringRef "StairPlans" 213 "thick is not 1 .. 1000" ∈ tables_1 := List.mem_append_right _ (List.mem_append_right _ (List.mem_append_left _ (List.mem_of_getElem? (i := 185) (by rfl))))
theorem sw_13 : Cond.stringRef "StairPlans" 215 "most is below 0" ∈ tables_1 := List.mem_append_right _ (List.mem_append_right _ (List.mem_append_left _ (List.mem_of_getElem? (i := 186) (by rfl))))
theorem sw_14 : Cond.stringRef "StairPlans" 224 "no balusters were found for this stair" ∈ tables_1 := List.mem_append_right _ (List.mem_append_right _ (List.mem_append_left _ (List.mem_of_getElem? (i := 199) (by rfl))))
end
