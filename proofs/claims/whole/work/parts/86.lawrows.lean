/-! the law: its wrappers' calls, what stands while it runs -/
theorem nd_len {d : String} {n : Nat} (h : (parseMethodDescriptor d).map (fun d => d.parameters.length) = some n) : ∀ sig, parseMethodDescriptor d = some sig → n = sig.parameters.length := fun sig e => by
  rw [e] at h
  exact (Option.some.inj h).symm
theorem updL_at (f : Nat → Int64) (k : Nat) (x : Int64) : vp_updL f k x k = x := if_pos rfl
section TLG
variable {p : Program} {l : Launch} {e : Env} {R : Room} {s : State} {m : MethodId} {args : Array Value} {below : List Frame} {meth : Method} {c : Code} {H : Heap} {locs : List Loc} {cells slots : Nat} {Q : State → Prop}
variable {y : MethodName} {bytes cc : ByteArray} {maxL nL mc ms n index : Nat} {ret : Option FieldType} {hh : List (Nat × Nat × Nat × Nat)} {rm : Room} {Pc : Array Value → State → Prop} {Qc : Array Value → State → Outcome → State → Prop} {free : Addr → Prop} {own : String} {As rest : List Value} {g : JFrame}
theorem tL_runS (S : CallFix p m c cc nL s args gT own) (hM : Met l y (Cond.codeWith y bytes maxL ret hh :: gT) rm Pc Qc mc ms free) (hc : Cond.codeWith y bytes maxL ret hh ∈ gT) (hi : Cond.initialized y.cls ∈ gT) (hlk : Cond.methodLink own index y ∈ gT) (hst : Cond.static y ∈ gT)
    (hd : y.cls ≠ "java/lang/invoke/MethodHandle" ∧ y.cls ≠ "java/lang/invoke/VarHandle" ∧ (parseMethodDescriptor y.desc).map (fun d => d.parameters.length) = some n) (hrc : rm.cells = mc) (hrs : rm.slots = ms) (hfr : rm.frames + 1 ≤ R.frames) (hlo : 8 + (maxL + 11) + rm.locals ≤ R.locals) (hp : PreS s H Pc As)
    (hg : g.method = m) (hn : As.length = n) (hsize : g.locals.size = nL) (hstack : g.stack = As.reverse ++ rest) (hW : 2 * g.monitorRoom + (rest.map fun v => v.category).sum ≤ 8) (hdg : decode cc g.pc = .ok (.invokestatic index, 3)) (hf : cells + mc ≤ R.cells ∧ slots + ms ≤ R.slots) :
    va_Run p l e R s m args below meth c H locs cells slots mc ms g rest (Qc As.toArray) free := by
  have hts := S.2.2.2.2
  exact tx_runS S hM hrc hrs hfr hlo (fun w hw a' U hW => by
    rcases List.mem_cons.mp hw with rfl | h
    · exact word_at hW (gT_good _ hc) (hts _ hc)
    · exact word_at hW (gT_good _ h) (hts _ h)) List.mem_cons_self (hts _ hi) ⟨hd.1, hd.2.1⟩ (nd_len hd.2.2) (hts _ hlk) (hts _ hst) hp hg hn hsize hstack hW hdg hf
variable {pc : Nat} {ls : Array Slot} {st0 st1 : List Value} {a : Array Value} {D : va_G} {cl : List vw_C} {A0 : Nat → Prop} {H0 : Heap} {ws : va_W} {ov : Option Value}
/-- behind a wrapper that caught -/
theorem tE_go (hr : va_Run p l e R s m args below meth c H locs cells slots 1 6 (F0 m pc ls st0) rest (tq_E ov a) (fun _ => False)) (hs : ov.toList ++ rest = st1) (hP : va_P D cl ws H) (hS : va_S A0 H0 H locs)
    (kk : ∀ H1 : Heap, va_P D cl ws H1 → va_S A0 H0 H1 locs → W p l e R s m args below meth c H1 locs (cells + 1) (slots + 6) Q (F0 m (pc + 3) ls st1)) : W p l e R s m args below meth c H locs cells slots Q (F0 m pc ls st0) := by
  intro T hT X
  obtain ⟨v, st₀, t, T', L, h0, X', hL, e1, e2, ⟨hv, hz, hh⟩, st⟩ := hr T hT X
  cases hv
  subst hs
  rw [h0] at hz hh
  have hk : ∀ q : Nat, q < H.size → T'.heap[q]? = H[q]? := fun q hq => by rw [e1]; exact hh q hq
  obtain ⟨t2, a1, b1⟩ := kk T'.heap (hP.kept (fun k x hx => hk x.1 ((hP k x hx).lt))) ⟨Nat.le_trans hS.1 (by rw [e1]; exact hz), fun q h1 h2 => (hk q (Nat.lt_of_lt_of_le h1 hS.1)).trans (hS.2.1 q h1 h2), hS.2.2⟩ T' rfl (Stand.forget X' (fun q h => (hL q h).elim))
  exact ⟨t2, st t2 a1, b1⟩
end TLG
theorem tp_Es {s : State} {H : Heap} {D : va_G} {cl : List vw_C} {ws w : va_W} {tys tys' : List (ClassId × FieldType)} {av : List Value} (hC : tcl s) (hZ : tz s) (hH : ∀ q : Nat, q < s.heap.size → H[q]? = s.heap[q]?) (hN : tn s) (hK : va_K D cl tys s) (hP : va_P D cl ws H) (is ts : List Nat) (hw : is.filterMap (fun i => ws[i]?) = w) (ht : ts.filterMap (fun i => tys[i]?) = tys') : PreS s H (tp_E D cl av w tys') av :=
  ⟨fun a U g mk q => ⟨q.1, q.2.1, va_K.moved (u := U) (U := U.calling g mk a) (Vm.Alike.refl U.vm) q.2.2.1, tn_same (s := U) rfl q.2.2.2.1, tz_step (s := U) (State.WarmedH.refl U) (fun _ _ => rfl) q.2.2.2.2.1, tcl.moved (u := U) (U := U.calling g mk a) (Vm.Alike.refl U.vm) q.2.2.2.2.2⟩, fun U hU hW => ⟨rfl, by rw [hU]; exact hP.sub is hw, va_K.moved hW.alike (hK.sub ts ht), tn_warm hW hN, tz_step hW (fun q h => by rw [hU]; exact hH q h) hZ, tcl.moved hW.alike hC⟩⟩
/-- what the law's walk stands on -/
def lk (l : Launch) (p : Program) (s : State) (m : MethodId) (meth : Method) (c : Code) (A : Nat → Prop) (b L : Nat) (xs : Nat → Int32) : Prop :=
  p.tables.exec = Jvm.exec ∧ c.code = code ∧ meth.sig.returnType = ret ∧ c.maxLocals = 8 ∧ s.vm.findClass RL = some m.cls ∧ (∀ w ∈ gT, w.before #[Value.ref b] s = true) ∧ tn s ∧ tz s ∧ tcl s ∧ l.stackTraces = false ∧ va_X b L xs s s.heap ∧ b < s.heap.size ∧ (∀ q : Nat, q < s.heap.size → ¬ A q) ∧ ∃ qS vS : Nat, vk_R "StairPlans$RuleText" 49 "rgnwt" qS s ∧ zS A qS vS s s.heap
