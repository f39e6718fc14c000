/-! the law's wrappers: an exception caught -/
def tcl (U : State) : Prop := ∃ cS cA cB : ClassId, U.vm.findClass "java/lang/IllegalStateException" = some cS ∧ U.vm.findClass "java/lang/IllegalArgumentException" = some cA ∧ U.vm.findClass "java/lang/IndexOutOfBoundsException" = some cB ∧ U.vm.assignable cA cS = false ∧ U.vm.assignable cB cS = false ∧ U.vm.assignable cA cB = false
theorem tcl.moved {u U : State} (hv : u.vm.Alike U.vm) (h : tcl u) : tcl U := by
  obtain ⟨cS, cA, cB, h1, h2, h3, h4, h5, h6⟩ := h
  exact ⟨cS, cA, cB, by rw [hv.findClass]; exact h1, by rw [hv.findClass]; exact h2, by rw [hv.findClass]; exact h3, by rw [hv.assignable]; exact h4, by rw [hv.assignable]; exact h5, by rw [hv.assignable]; exact h6⟩
theorem tcl_S {U : State} {k : Nat} (hl : (Cond.classLink "StairPlansLaw" k "java/lang/IllegalStateException").before #[] U = true) (h : tcl U) : tw_cls "StairPlansLaw" k "java/lang/IllegalStateException" "java/lang/IllegalStateException" true U := by
  obtain ⟨cS, cA, cB, h1, h2, h3, h4, h5, h6⟩ := h
  exact ⟨hl, cS, cS, h1, h1, va_asg _ _⟩
theorem tcl_A {U : State} {k : Nat} (hl : (Cond.classLink "StairPlansLaw" k "java/lang/IllegalArgumentException").before #[] U = true) (h : tcl U) : tw_cls "StairPlansLaw" k "java/lang/IllegalArgumentException" "java/lang/IllegalArgumentException" true U := by
  obtain ⟨cS, cA, cB, h1, h2, h3, h4, h5, h6⟩ := h
  exact ⟨hl, cA, cA, h2, h2, va_asg _ _⟩
theorem tcl_B {U : State} {k : Nat} (hl : (Cond.classLink "StairPlansLaw" k "java/lang/IndexOutOfBoundsException").before #[] U = true) (h : tcl U) : tw_cls "StairPlansLaw" k "java/lang/IndexOutOfBoundsException" "java/lang/IndexOutOfBoundsException" true U := by
  obtain ⟨cS, cA, cB, h1, h2, h3, h4, h5, h6⟩ := h
  exact ⟨hl, cB, cB, h3, h3, va_asg _ _⟩
theorem tcl_AS {U : State} {k : Nat} (hl : (Cond.classLink "StairPlansLaw" k "java/lang/IllegalStateException").before #[] U = true) (h : tcl U) : tw_cls "StairPlansLaw" k "java/lang/IllegalStateException" "java/lang/IllegalArgumentException" false U := by
  obtain ⟨cS, cA, cB, h1, h2, h3, h4, h5, h6⟩ := h
  exact ⟨hl, cA, cS, h2, h1, h4⟩
theorem tcl_BS {U : State} {k : Nat} (hl : (Cond.classLink "StairPlansLaw" k "java/lang/IllegalStateException").before #[] U = true) (h : tcl U) : tw_cls "StairPlansLaw" k "java/lang/IllegalStateException" "java/lang/IndexOutOfBoundsException" false U := by
  obtain ⟨cS, cA, cB, h1, h2, h3, h4, h5, h6⟩ := h
  exact ⟨hl, cB, cS, h3, h1, h5⟩
theorem tcl_AB {U : State} {k : Nat} (hl : (Cond.classLink "StairPlansLaw" k "java/lang/IndexOutOfBoundsException").before #[] U = true) (h : tcl U) : tw_cls "StairPlansLaw" k "java/lang/IndexOutOfBoundsException" "java/lang/IllegalArgumentException" false U := by
  obtain ⟨cS, cA, cB, h1, h2, h3, h4, h5, h6⟩ := h
  exact ⟨hl, cA, cB, h2, h3, h6⟩
theorem tL_tab {p : Program} {l : Launch} {y : MethodName} {ws : List Cond} {rm : Room} {cc : ByteArray} {maxL : Nat} {ret : Option FieldType} {hh : List (Nat × Nat × Nat × Nat)} {e : Env} {s : State} {m : MethodId} {args : Array Value} {below : List Frame} {meth : Method} {c : Code} {s₁ : State}
    (B : BodyLoose p l y (headSpec ws rm) cc maxL ret e s m args below meth c s₁) (hw : Cond.codeWith y cc maxL ret hh ∈ ws) : c.exceptionTable.toList = hh.map (fun q => (⟨q.1, q.2.1, q.2.2.1, q.2.2.2⟩ : ExceptionTableEntry)) := by
  obtain ⟨m9, me9, c9, hn9, h1, h2, -, -, h5, -⟩ := Cond.codeWith_spec (atoms_spec (ws := ws) B.pre _ hw)
  cases B.named.symm.trans hn9
  cases B.method.symm.trans h1
  cases (Stand.of_body B).code.symm.trans h2
  exact tw_tab h5
def tp_E (D : va_G) (cl : List vw_C) (av : List Value) (w : va_W) (tys : List (ClassId × FieldType)) : Array Value → State → Prop := va_Pc av (fun U => va_P D cl w U.heap ∧ va_K D cl tys U ∧ tn U ∧ tz U ∧ tcl U)
def tq_E (ov : Option Value) : Array Value → State → Outcome → State → Prop := fun _ st o t => o = .returned ov ∧ st.heap.size ≤ t.heap.size ∧ ∀ q : Nat, q < st.heap.size → t.heap[q]? = st.heap[q]?
section TLW
variable {p : Program} {l : Launch} {e : Env} {R : Room} {s : State} {m : MethodId} {args : Array Value} {below : List Frame} {meth : Method} {c : Code} {H : Heap} {locs : List Loc} {cells slots : Nat} {Q : State → Prop}
theorem tL_wide {k n : Nat} {g : JFrame} (h1 : cells ≤ k) (h2 : slots ≤ n) (kk : W p l e R s m args below meth c H locs k n Q g) : W p l e R s m args below meth c H locs cells slots Q g := fun T hT X => kk T hT (stand_widen X h1 h2)
end TLW
