/-! the literal "rgnwt": its cells stand outside every world; String.indexOf(I) of it -/
def RJ : String := "java/lang/String"
def RK : String := "java/lang/StringLatin1"
abbrev bJ_coder : ByteArray := prog_16_method_152_code
def mJ_coder : MethodName := ⟨RJ, "coder", "()B"⟩
abbrev wJ_coder : List Cond := .code mJ_coder bJ_coder 1 (some .byte) :: gT
theorem ndJ_coder : mJ_coder.cls ≠ "java/lang/invoke/MethodHandle" ∧ mJ_coder.cls ≠ "java/lang/invoke/VarHandle" ∧ (parseMethodDescriptor mJ_coder.desc).map (fun d => d.parameters.length) = some 0 := by decide +kernel
theorem dJ_coder_0 : decode bJ_coder 0 = .ok (.getstatic 38, 3) := by decide +kernel
theorem dJ_coder_3 : decode bJ_coder 3 = .ok (.ifCond .eq 10, 3) := by decide +kernel
theorem dJ_coder_6 : decode bJ_coder 6 = .ok (.aload_n 0, 1) := by decide +kernel
theorem dJ_coder_7 : decode bJ_coder 7 = .ok (.getfield 15, 3) := by decide +kernel
theorem dJ_coder_10 : decode bJ_coder 10 = .ok (.goto 4, 3) := by decide +kernel
theorem dJ_coder_13 : decode bJ_coder 13 = .ok (.iconst 1, 1) := by decide +kernel
theorem dJ_coder_14 : decode bJ_coder 14 = .ok (.ireturn, 1) := by decide +kernel
abbrev bJ_isLatin1 : ByteArray := prog_16_method_154_code
def mJ_isLatin1 : MethodName := ⟨RJ, "isLatin1", "()Z"⟩
abbrev wJ_isLatin1 : List Cond := .code mJ_isLatin1 bJ_isLatin1 1 (some .boolean) :: gT
theorem ndJ_isLatin1 : mJ_isLatin1.cls ≠ "java/lang/invoke/MethodHandle" ∧ mJ_isLatin1.cls ≠ "java/lang/invoke/VarHandle" ∧ (parseMethodDescriptor mJ_isLatin1.desc).map (fun d => d.parameters.length) = some 0 := by decide +kernel
theorem dJ_isLatin1_0 : decode bJ_isLatin1 0 = .ok (.getstatic 38, 3) := by decide +kernel
theorem dJ_isLatin1_3 : decode bJ_isLatin1 3 = .ok (.ifCond .eq 14, 3) := by decide +kernel
theorem dJ_isLatin1_6 : decode bJ_isLatin1 6 = .ok (.aload_n 0, 1) := by decide +kernel
theorem dJ_isLatin1_7 : decode bJ_isLatin1 7 = .ok (.getfield 15, 3) := by decide +kernel
theorem dJ_isLatin1_10 : decode bJ_isLatin1 10 = .ok (.ifCond .ne 7, 3) := by decide +kernel
theorem dJ_isLatin1_13 : decode bJ_isLatin1 13 = .ok (.iconst 1, 1) := by decide +kernel
theorem dJ_isLatin1_14 : decode bJ_isLatin1 14 = .ok (.goto 4, 3) := by decide +kernel
theorem dJ_isLatin1_17 : decode bJ_isLatin1 17 = .ok (.iconst 0, 1) := by decide +kernel
theorem dJ_isLatin1_18 : decode bJ_isLatin1 18 = .ok (.ireturn, 1) := by decide +kernel
abbrev bJ_length : ByteArray := prog_16_method_54_code
def mJ_length : MethodName := ⟨RJ, "length", "()I"⟩
abbrev wJ_length : List Cond := .code mJ_length bJ_length 1 (some .int) :: gT
theorem ndJ_length : mJ_length.cls ≠ "java/lang/invoke/MethodHandle" ∧ mJ_length.cls ≠ "java/lang/invoke/VarHandle" ∧ (parseMethodDescriptor mJ_length.desc).map (fun d => d.parameters.length) = some 0 := by decide +kernel
theorem dJ_length_0 : decode bJ_length 0 = .ok (.aload_n 0, 1) := by decide +kernel
theorem dJ_length_1 : decode bJ_length 1 = .ok (.getfield 9, 3) := by decide +kernel
theorem dJ_length_4 : decode bJ_length 4 = .ok (.arraylength, 1) := by decide +kernel
theorem dJ_length_5 : decode bJ_length 5 = .ok (.aload_n 0, 1) := by decide +kernel
theorem dJ_length_6 : decode bJ_length 6 = .ok (.invokevirtual 335, 3) := by decide +kernel
theorem dJ_length_9 : decode bJ_length 9 = .ok (.ishr, 1) := by decide +kernel
theorem dJ_length_10 : decode bJ_length 10 = .ok (.ireturn, 1) := by decide +kernel
abbrev bK_canEncode : ByteArray := prog_17_method_4_code
def mK_canEncode : MethodName := ⟨RK, "canEncode", "(I)Z"⟩
abbrev wK_canEncode : List Cond := .code mK_canEncode bK_canEncode 1 (some .boolean) :: gT
theorem ndK_canEncode : mK_canEncode.cls ≠ "java/lang/invoke/MethodHandle" ∧ mK_canEncode.cls ≠ "java/lang/invoke/VarHandle" ∧ (parseMethodDescriptor mK_canEncode.desc).map (fun d => d.parameters.length) = some 1 := by decide +kernel
theorem dK_canEncode_0 : decode bK_canEncode 0 = .ok (.iload_n 0, 1) := by decide +kernel
theorem dK_canEncode_1 : decode bK_canEncode 1 = .ok (.ifCond .lt 14, 3) := by decide +kernel
theorem dK_canEncode_4 : decode bK_canEncode 4 = .ok (.iload_n 0, 1) := by decide +kernel
theorem dK_canEncode_5 : decode bK_canEncode 5 = .ok (.sipush 255, 3) := by decide +kernel
theorem dK_canEncode_8 : decode bK_canEncode 8 = .ok (.if_icmp .gt 7, 3) := by decide +kernel
theorem dK_canEncode_11 : decode bK_canEncode 11 = .ok (.iconst 1, 1) := by decide +kernel
theorem dK_canEncode_12 : decode bK_canEncode 12 = .ok (.goto 4, 3) := by decide +kernel
theorem dK_canEncode_15 : decode bK_canEncode 15 = .ok (.iconst 0, 1) := by decide +kernel
theorem dK_canEncode_16 : decode bK_canEncode 16 = .ok (.ireturn, 1) := by decide +kernel
abbrev bK_indexOfChar : ByteArray := prog_17_method_23_code
def mK_indexOfChar : MethodName := ⟨RK, "indexOfChar", "([BIII)I"⟩
abbrev wK_indexOfChar : List Cond := .code mK_indexOfChar bK_indexOfChar 6 (some .int) :: gT
theorem ndK_indexOfChar : mK_indexOfChar.cls ≠ "java/lang/invoke/MethodHandle" ∧ mK_indexOfChar.cls ≠ "java/lang/invoke/VarHandle" ∧ (parseMethodDescriptor mK_indexOfChar.desc).map (fun d => d.parameters.length) = some 4 := by decide +kernel
theorem dK_indexOfChar_0 : decode bK_indexOfChar 0 = .ok (.iload_n 1, 1) := by decide +kernel
theorem dK_indexOfChar_1 : decode bK_indexOfChar 1 = .ok (.i2b, 1) := by decide +kernel
theorem dK_indexOfChar_2 : decode bK_indexOfChar 2 = .ok (.istore 4, 2) := by decide +kernel
theorem dK_indexOfChar_4 : decode bK_indexOfChar 4 = .ok (.iload_n 2, 1) := by decide +kernel
theorem dK_indexOfChar_5 : decode bK_indexOfChar 5 = .ok (.istore 5, 2) := by decide +kernel
theorem dK_indexOfChar_7 : decode bK_indexOfChar 7 = .ok (.iload 5, 2) := by decide +kernel
theorem dK_indexOfChar_9 : decode bK_indexOfChar 9 = .ok (.iload_n 3, 1) := by decide +kernel
theorem dK_indexOfChar_10 : decode bK_indexOfChar 10 = .ok (.if_icmp .ge 21, 3) := by decide +kernel
theorem dK_indexOfChar_13 : decode bK_indexOfChar 13 = .ok (.aload_n 0, 1) := by decide +kernel
theorem dK_indexOfChar_14 : decode bK_indexOfChar 14 = .ok (.iload 5, 2) := by decide +kernel
theorem dK_indexOfChar_16 : decode bK_indexOfChar 16 = .ok (.baload, 1) := by decide +kernel
theorem dK_indexOfChar_17 : decode bK_indexOfChar 17 = .ok (.iload 4, 2) := by decide +kernel
theorem dK_indexOfChar_19 : decode bK_indexOfChar 19 = .ok (.if_icmp .ne 6, 3) := by decide +kernel
theorem dK_indexOfChar_22 : decode bK_indexOfChar 22 = .ok (.iload 5, 2) := by decide +kernel
theorem dK_indexOfChar_24 : decode bK_indexOfChar 24 = .ok (.ireturn, 1) := by decide +kernel
theorem dK_indexOfChar_25 : decode bK_indexOfChar 25 = .ok (.iinc 5 1, 3) := by decide +kernel
theorem dK_indexOfChar_28 : decode bK_indexOfChar 28 = .ok (.goto (-21), 3) := by decide +kernel
theorem dK_indexOfChar_31 : decode bK_indexOfChar 31 = .ok (.iconst (-1), 1) := by decide +kernel
theorem dK_indexOfChar_32 : decode bK_indexOfChar 32 = .ok (.ireturn, 1) := by decide +kernel
abbrev bK_indexOf : ByteArray := prog_17_method_22_code
def mK_indexOf : MethodName := ⟨RK, "indexOf", "([BIII)I"⟩
abbrev wK_indexOf : List Cond := .code mK_indexOf bK_indexOf 4 (some .int) :: gT
theorem ndK_indexOf : mK_indexOf.cls ≠ "java/lang/invoke/MethodHandle" ∧ mK_indexOf.cls ≠ "java/lang/invoke/VarHandle" ∧ (parseMethodDescriptor mK_indexOf.desc).map (fun d => d.parameters.length) = some 4 := by decide +kernel
theorem dK_indexOf_0 : decode bK_indexOf 0 = .ok (.iload_n 1, 1) := by decide +kernel
theorem dK_indexOf_1 : decode bK_indexOf 1 = .ok (.invokestatic 88, 3) := by decide +kernel
theorem dK_indexOf_4 : decode bK_indexOf 4 = .ok (.ifCond .ne 5, 3) := by decide +kernel
theorem dK_indexOf_7 : decode bK_indexOf 7 = .ok (.iconst (-1), 1) := by decide +kernel
theorem dK_indexOf_8 : decode bK_indexOf 8 = .ok (.ireturn, 1) := by decide +kernel
theorem dK_indexOf_9 : decode bK_indexOf 9 = .ok (.iload_n 2, 1) := by decide +kernel
theorem dK_indexOf_10 : decode bK_indexOf 10 = .ok (.iconst 0, 1) := by decide +kernel
theorem dK_indexOf_11 : decode bK_indexOf 11 = .ok (.invokestatic 92, 3) := by decide +kernel
theorem dK_indexOf_14 : decode bK_indexOf 14 = .ok (.istore_n 2, 1) := by decide +kernel
theorem dK_indexOf_15 : decode bK_indexOf 15 = .ok (.iload_n 3, 1) := by decide +kernel
theorem dK_indexOf_16 : decode bK_indexOf 16 = .ok (.aload_n 0, 1) := by decide +kernel
theorem dK_indexOf_17 : decode bK_indexOf 17 = .ok (.arraylength, 1) := by decide +kernel
theorem dK_indexOf_18 : decode bK_indexOf 18 = .ok (.invokestatic 38, 3) := by decide +kernel
theorem dK_indexOf_21 : decode bK_indexOf 21 = .ok (.istore_n 3, 1) := by decide +kernel
theorem dK_indexOf_22 : decode bK_indexOf 22 = .ok (.iload_n 2, 1) := by decide +kernel
theorem dK_indexOf_23 : decode bK_indexOf 23 = .ok (.iload_n 3, 1) := by decide +kernel
theorem dK_indexOf_24 : decode bK_indexOf 24 = .ok (.if_icmp .lt 5, 3) := by decide +kernel
theorem dK_indexOf_27 : decode bK_indexOf 27 = .ok (.iconst (-1), 1) := by decide +kernel
theorem dK_indexOf_28 : decode bK_indexOf 28 = .ok (.ireturn, 1) := by decide +kernel
theorem dK_indexOf_29 : decode bK_indexOf 29 = .ok (.aload_n 0, 1) := by decide +kernel
theorem dK_indexOf_30 : decode bK_indexOf 30 = .ok (.iload_n 1, 1) := by decide +kernel
theorem dK_indexOf_31 : decode bK_indexOf 31 = .ok (.iload_n 2, 1) := by decide +kernel
theorem dK_indexOf_32 : decode bK_indexOf 32 = .ok (.iload_n 3, 1) := by decide +kernel
theorem dK_indexOf_33 : decode bK_indexOf 33 = .ok (.invokestatic 95, 3) := by decide +kernel
theorem dK_indexOf_36 : decode bK_indexOf 36 = .ok (.ireturn, 1) := by decide +kernel
abbrev bJ_indexOf2 : ByteArray := prog_16_method_80_code
def mJ_indexOf2 : MethodName := ⟨RJ, "indexOf", "(II)I"⟩
abbrev wJ_indexOf2 : List Cond := .code mJ_indexOf2 bJ_indexOf2 3 (some .int) :: gT
theorem ndJ_indexOf2 : mJ_indexOf2.cls ≠ "java/lang/invoke/MethodHandle" ∧ mJ_indexOf2.cls ≠ "java/lang/invoke/VarHandle" ∧ (parseMethodDescriptor mJ_indexOf2.desc).map (fun d => d.parameters.length) = some 2 := by decide +kernel
theorem dJ_indexOf2_0 : decode bJ_indexOf2 0 = .ok (.aload_n 0, 1) := by decide +kernel
theorem dJ_indexOf2_1 : decode bJ_indexOf2 1 = .ok (.invokevirtual 492, 3) := by decide +kernel
theorem dJ_indexOf2_4 : decode bJ_indexOf2 4 = .ok (.ifCond .eq 19, 3) := by decide +kernel
theorem dJ_indexOf2_7 : decode bJ_indexOf2 7 = .ok (.aload_n 0, 1) := by decide +kernel
theorem dJ_indexOf2_8 : decode bJ_indexOf2 8 = .ok (.getfield 9, 3) := by decide +kernel
theorem dJ_indexOf2_11 : decode bJ_indexOf2 11 = .ok (.iload_n 1, 1) := by decide +kernel
theorem dJ_indexOf2_12 : decode bJ_indexOf2 12 = .ok (.iload_n 2, 1) := by decide +kernel
theorem dJ_indexOf2_13 : decode bJ_indexOf2 13 = .ok (.aload_n 0, 1) := by decide +kernel
theorem dJ_indexOf2_14 : decode bJ_indexOf2 14 = .ok (.invokevirtual 505, 3) := by decide +kernel
theorem dJ_indexOf2_17 : decode bJ_indexOf2 17 = .ok (.invokestatic 637, 3) := by decide +kernel
theorem dJ_indexOf2_20 : decode bJ_indexOf2 20 = .ok (.goto 16, 3) := by decide +kernel
theorem dJ_indexOf2_36 : decode bJ_indexOf2 36 = .ok (.ireturn, 1) := by decide +kernel
abbrev bJ_indexOf : ByteArray := prog_16_method_79_code
def mJ_indexOf : MethodName := ⟨RJ, "indexOf", "(I)I"⟩
abbrev wJ_indexOf : List Cond := .code mJ_indexOf bJ_indexOf 2 (some .int) :: gT
theorem ndJ_indexOf : mJ_indexOf.cls ≠ "java/lang/invoke/MethodHandle" ∧ mJ_indexOf.cls ≠ "java/lang/invoke/VarHandle" ∧ (parseMethodDescriptor mJ_indexOf.desc).map (fun d => d.parameters.length) = some 1 := by decide +kernel
theorem dJ_indexOf_0 : decode bJ_indexOf 0 = .ok (.aload_n 0, 1) := by decide +kernel
theorem dJ_indexOf_1 : decode bJ_indexOf 1 = .ok (.iload_n 1, 1) := by decide +kernel
theorem dJ_indexOf_2 : decode bJ_indexOf 2 = .ok (.iconst 0, 1) := by decide +kernel
theorem dJ_indexOf_3 : decode bJ_indexOf 3 = .ok (.invokevirtual 633, 3) := by decide +kernel
theorem dJ_indexOf_6 : decode bJ_indexOf 6 = .ok (.ireturn, 1) := by decide +kernel
def rgB : List Int32 := [114, 103, 110, 119, 116]
def zS (A : Nat → Prop) (q v : Nat) (U : State) (H : Heap) : Prop := va_O "java/lang/String" q A U H ∧ va_OF "java/lang/String" "coder" "B" (.int 0) q A U H ∧ va_OF "java/lang/String" "value" "[B" (.ref v) q A U H ∧ va_T .byte v 5 (fun j => .int (rgB.getD j 0)) A U H ∧ va_Z "java/lang/String" "COMPACT_STRINGS" "Z" (.int 1) A U H
theorem zS.moved {A : Nat → Prop} {q v : Nat} {u U : State} {H : Heap} (hv : u.vm.Alike U.vm) (h : zS A q v u H) : zS A q v U H := ⟨va_O.moved hv h.1, va_OF.moved hv h.2.1, va_OF.moved hv h.2.2.1, va_T.moved hv h.2.2.2.1, va_Z.moved hv h.2.2.2.2⟩
theorem zS.kept {A : Nat → Prop} {q v : Nat} {U : State} {H H1 : Heap} (h : zS A q v U H) (hq : ∀ a : Nat, a < H.size → ¬ A a → H1[a]? = H[a]?) : zS A q v U H1 := ⟨h.1.kept hq, h.2.1.kept hq, h.2.2.1.kept hq, h.2.2.2.1.kept hq, h.2.2.2.2.kept hq⟩
theorem zS.narrow {A B : Nat → Prop} {q v : Nat} {U : State} {H : Heap} (h : zS A q v U H) (hAB : ∀ q, B q → A q) : zS B q v U H := ⟨h.1.narrow hAB, h.2.1.narrow hAB, h.2.2.1.narrow hAB, h.2.2.2.1.narrow hAB, h.2.2.2.2.narrow hAB⟩
theorem zS.there {A B : Nat → Prop} {q v : Nat} {s U : State} {H : Heap} {locs : List Loc} (hG : zS A q v s s.heap) (hS : va_S A s.heap H locs) (hAB : ∀ q, B q → A q) (hU : U.heap = H) (hW : s.WarmedH U.vm) : zS B q v U U.heap := by
  rw [hU]
  exact ((hG.kept hS.2.1).moved hW.alike).narrow hAB
def tp_G (q v : Nat) (av : List Value) : Array Value → State → Prop := va_Pc av (fun U => zS (fun _ => False) q v U U.heap)
theorem tp_Gs {s : State} {H : Heap} {locs : List Loc} {A : Nat → Prop} {q v : Nat} {av : List Value} (hG : zS A q v s s.heap) (hS : va_S A s.heap H locs) : PreS s H (tp_G q v av) av :=
  ⟨fun a U g mk h => ⟨h.1, zS.moved (u := U) (U := U.calling g mk a) (Vm.Alike.refl U.vm) h.2⟩, fun U hU hW => ⟨rfl, hG.there hS (fun _ h => False.elim h) hU hW⟩⟩
theorem tp_Gv {s : State} {H : Heap} {locs : List Loc} {A : Nat → Prop} {q v : Nat} {As : List Value} (hG : zS A q v s s.heap) (hS : va_S A s.heap H locs) : PreV s H "java/lang/String" q (tp_G q v (.ref q :: As)) As :=
  ⟨(tp_Gs (av := .ref q :: As) hG hS).1, by
    obtain ⟨cell, h1, h2, h3, -⟩ := hG.1.kept hS.2.1
    exact ⟨cell, h1, h2, h3⟩, (tp_Gs (av := .ref q :: As) hG hS).2⟩
/-- what a method asks that writes its world and reads the literal -/
def tp_X (D : va_G) (cl : List vw_C) (av : List Value) (w : va_W) (tys : List (ClassId × FieldType)) : Array Value → State → Prop := va_Pc av (fun U => va_P D cl w U.heap ∧ va_K D cl tys U ∧ tn U ∧ va_D (fun _ => True) w ∧ ∃ q v : Nat, vk_R "StairPlans$RuleText" 49 "rgnwt" q U ∧ zS (tA w) q v U U.heap)
theorem tA_in {A : Nat → Prop} {ws w : va_W} (hD : va_D A ws) (is : List Nat) (hC : is.map (fun i => ws[i]?) = w.map some) : ∀ q, tA w q → A q := by
  rintro q ⟨j, e, hj⟩
  have hjl : j < is.length := by
    have : is.length = w.length := by simpa using congrArg List.length hC
    rw [this]; exact (List.getElem?_eq_some_iff.mp hj).1
  have h2 : (is.map fun i => ws[i]?)[j]? = some (some (q, e)) := by rw [hC, List.getElem?_map, hj]; rfl
  rw [List.getElem?_map, List.getElem?_eq_getElem hjl] at h2
  exact hD.2 is[j] (q, e) (Option.some.inj h2)
section TXX
variable {s : State} {H : Heap} {locs : List Loc} {D : va_G} {cl : List vw_C} {ws w : va_W} {tys tys' : List (ClassId × FieldType)} {A : Nat → Prop} {qS vS : Nat}
theorem tp_Xs {av : List Value} (hN : tn s) (hK : va_K D cl tys s) (hP : va_P D cl ws H) (hD : va_D A ws) (hS : va_S A s.heap H locs) (hR9 : vk_R "StairPlans$RuleText" 49 "rgnwt" qS s) (hG : zS A qS vS s s.heap) (is ts : List Nat) (hw : is.map (fun i => ws[i]?) = w.map some) (hn : va_nd is = true) (ht : ts.filterMap (fun i => tys[i]?) = tys') : PreS s H (tp_X D cl av w tys') av := by
  have b := tp_Ws (av := av) hN hK hP hD is ts hw hn ht
  refine ⟨fun a U g mk h => ?_, fun U hU hW => ?_⟩
  · obtain ⟨h1, h2, h3, h4, h5, q, v, h6, h7⟩ := h
    exact ⟨h1, h2, va_K.moved (u := U) (U := U.calling g mk a) (Vm.Alike.refl U.vm) h3, tn_same (s := U) rfl h4, h5, q, v, vk_R.same (u := U) rfl h6, zS.moved (u := U) (U := U.calling g mk a) (Vm.Alike.refl U.vm) h7⟩
  · obtain ⟨h1, h2, h3, h4, h5⟩ := b.2 U hU hW
    exact ⟨h1, h2, h3, h4, h5, qS, vS, hR9.warm hW, hG.there hS (tA_in hD is hw) hU hW⟩
theorem tp_Xv {b q0 ci : Nat} {cq : vw_C} {fs : List Value} {As : List Value} (hN : tn s) (hK : va_K D cl tys s) (hP : va_P D cl ws H) (hD : va_D A ws) (hS : va_S A s.heap H locs) (hR9 : vk_R "StairPlans$RuleText" 49 "rgnwt" qS s) (hG : zS A qS vS s s.heap) (is ts : List Nat) (hw : is.map (fun i => ws[i]?) = w.map some) (hn : va_nd is = true) (ht : ts.filterMap (fun i => tys[i]?) = tys') (he : ws[q0]? = some (b, .inr (ci, fs))) (hc : cl[ci]? = some cq) : PreV s H cq.1 b (tp_X D cl (.ref b :: As) w tys') As :=
  ⟨(tp_Xs (av := .ref b :: As) hN hK hP hD hS hR9 hG is ts hw hn ht).1, va_recv hK hP hc he, (tp_Xs (av := .ref b :: As) hN hK hP hD hS hR9 hG is ts hw hn ht).2⟩
end TXX
def rgIx (t : Int32) : Nat → Nat → Int32
  | 0, _ => (-1)
  | n + 1, k => if (rgB.getD (nI k).toNatClampNeg 0) = t then nI k else rgIx t n (k + 1)

def fJ_coder  : Int32 := 0
set_option maxHeartbeats 4000000 in
set_option maxRecDepth 100000 in
theorem c_J_coder (l : Launch) (dC : Nat → ClassId) (dI : Nat → Nat → Nat) (qS : Nat) (vS : Nat) : Met l mJ_coder wJ_coder ({ frames := 0, cells := 0, slots := 0, locals := 0 }) (tp_G qS vS [.ref qS]) (tq_R (some (.int fJ_coder))) 0 0 (fun _ => False) := by
  refine Met.ofW (cc := bJ_coder) (maxL := 1) (ret := (some .byte)) (by decide) rfl ?_
  intro p e s m args below meth c s₁ B hml hv
  obtain ⟨rfl, hG⟩ := hv
  have hx := B.exec
  have hb := B.bytes
  have hr := B.returns
  have hts : ∀ w ∈ gT, w.before _ s = true := fun w h => atoms_spec (ws := wJ_coder) B.pre w (List.mem_cons_of_mem _ h)
  have hown : s.vm.findClass RJ = some m.cls := findClass_of_methodNamed B.named
  have hlocks := B.notSynchronized
  have hS : va_S (fun _ => False) s.heap s.heap [] := va_S.rf
  have hl := lv_entry ([.ref qS]) (n := 1) (Nat.le_of_ble_eq_true rfl)
  rw [lg_entry_eq]
  generalize (lg_sl ([.ref qS]) ++ List.replicate (1 - (lg_sl ([.ref qS])).length) Slot.unset).toArray = ls at hl ⊢
  have hl : lv_has ls 1 [(0, .ref qS)] := hl
  refine va_gets hx hb hG.2.2.2.2 hS hown (hts _ gw_166) (fun _ h9 => h9) dJ_coder_0 ?_
  refine lv_if_eq (tgt := 13) hx hb dJ_coder_3 (by decide) (fun c_1 => absurd c_1 (by decide)) (fun c_1 => ?_)
  refine lv_aload_n hx hb dJ_coder_6 rfl (lv_at hl 0 rfl) ?_
  refine vk_getf hx hb hG.2.1 hS hown (hts _ gw_741) (fun _ h9 => h9) dJ_coder_7 ?_
  refine lv_goto (tgt := 14) hx hb dJ_coder_10 (by decide) ?_
  exact W.zret (v := 0) hx hb hr (rfl) (fun t ht hW => ⟨by rw [show fJ_coder = 0 from by unfold fJ_coder; rfl], ht⟩) (fun q h => by cases h) dJ_coder_14

def fJ_isL  : Bool := true
set_option maxHeartbeats 4000000 in
set_option maxRecDepth 100000 in
theorem c_J_isL (l : Launch) (dC : Nat → ClassId) (dI : Nat → Nat → Nat) (qS : Nat) (vS : Nat) : Met l mJ_isLatin1 wJ_isLatin1 ({ frames := 0, cells := 0, slots := 0, locals := 0 }) (tp_G qS vS [.ref qS]) (tq_R (some (.int (bI fJ_isL)))) 0 0 (fun _ => False) := by
  refine Met.ofW (cc := bJ_isLatin1) (maxL := 1) (ret := (some .boolean)) (by decide) rfl ?_
  intro p e s m args below meth c s₁ B hml hv
  obtain ⟨rfl, hG⟩ := hv
  have hx := B.exec
  have hb := B.bytes
  have hr := B.returns
  have hts : ∀ w ∈ gT, w.before _ s = true := fun w h => atoms_spec (ws := wJ_isLatin1) B.pre w (List.mem_cons_of_mem _ h)
  have hown : s.vm.findClass RJ = some m.cls := findClass_of_methodNamed B.named
  have hlocks := B.notSynchronized
  have hS : va_S (fun _ => False) s.heap s.heap [] := va_S.rf
  have hl := lv_entry ([.ref qS]) (n := 1) (Nat.le_of_ble_eq_true rfl)
  rw [lg_entry_eq]
  generalize (lg_sl ([.ref qS]) ++ List.replicate (1 - (lg_sl ([.ref qS])).length) Slot.unset).toArray = ls at hl ⊢
  have hl : lv_has ls 1 [(0, .ref qS)] := hl
  refine va_gets hx hb hG.2.2.2.2 hS hown (hts _ gw_166) (fun _ h9 => h9) dJ_isLatin1_0 ?_
  refine lv_if_eq (tgt := 17) hx hb dJ_isLatin1_3 (by decide) (fun c_1 => absurd c_1 (by decide)) (fun c_1 => ?_)
  refine lv_aload_n hx hb dJ_isLatin1_6 rfl (lv_at hl 0 rfl) ?_
  refine vk_getf hx hb hG.2.1 hS hown (hts _ gw_741) (fun _ h9 => h9) dJ_isLatin1_7 ?_
  refine lv_if_ne (tgt := 17) hx hb dJ_isLatin1_10 (by decide) (fun c_2 => absurd (by decide) c_2) (fun c_2 => ?_)
  refine lv_iconst (v := 1) hx hb dJ_isLatin1_13 (by decide) ?_
  refine lv_goto (tgt := 18) hx hb dJ_isLatin1_14 (by decide) ?_
  exact W.zret (v := 1) hx hb hr (rfl) (fun t ht hW => ⟨by rw [show fJ_isL = true from by unfold fJ_isL; rfl]; rfl, ht⟩) (fun q h => by cases h) dJ_isLatin1_18

def fJ_len  : Int32 := (5 : Int32) >>> ((0 : Int32) &&& 31)
set_option maxHeartbeats 4000000 in
set_option maxRecDepth 100000 in
theorem c_J_len (l : Launch) (dC : Nat → ClassId) (dI : Nat → Nat → Nat) (qS : Nat) (vS : Nat) : Met l mJ_length wJ_length ({ frames := 1, cells := 0, slots := 0, locals := 20 }) (tp_G qS vS [.ref qS]) (tq_R (some (.int fJ_len))) 0 0 (fun _ => False) := by
  refine Met.ofW (cc := bJ_length) (maxL := 1) (ret := (some .int)) (by decide) rfl ?_
  intro p e s m args below meth c s₁ B hml hv
  obtain ⟨rfl, hG⟩ := hv
  have hx := B.exec
  have hb := B.bytes
  have hr := B.returns
  have hts : ∀ w ∈ gT, w.before _ s = true := fun w h => atoms_spec (ws := wJ_length) B.pre w (List.mem_cons_of_mem _ h)
  have hown : s.vm.findClass RJ = some m.cls := findClass_of_methodNamed B.named
  have hlocks := B.notSynchronized
  have hS : va_S (fun _ => False) s.heap s.heap [] := va_S.rf
  have hl := lv_entry ([.ref qS]) (n := 1) (Nat.le_of_ble_eq_true rfl)
  rw [lg_entry_eq]
  generalize (lg_sl ([.ref qS]) ++ List.replicate (1 - (lg_sl ([.ref qS])).length) Slot.unset).toArray = ls at hl ⊢
  have hl : lv_has ls 1 [(0, .ref qS)] := hl
  refine lv_aload_n hx hb dJ_length_0 rfl (lv_at hl 0 rfl) ?_
  refine vk_getf hx hb hG.2.2.1 hS hown (hts _ gw_742) (fun _ h9 => h9) dJ_length_1 ?_
  refine va_tlen (v := 5) hx hb hG.2.2.2.1 hS rfl dJ_length_4 ?_
  refine lv_aload_n hx hb dJ_length_5 rfl (lv_at hl 0 rfl) ?_
  refine tr_go (st1 := [.int 0, .int 5]) (va_runV (As := []) (rest := [.int 5]) (C := RJ) ⟨hx, hb, hml, hown, hts⟩ (c_J_coder l dC dI qS vS) ⟨cB 0 hts gw_174 gw_12 gw_171 ndJ_coder rfl rfl ⟨Nat.le_of_ble_eq_true rfl, Nat.le_of_ble_eq_true rfl⟩, hts _ gw_172, hts _ gw_173⟩ (tp_Gv hG hS) rfl rfl hl.1 rfl (lv_room (Nat.le_of_ble_eq_true rfl)) dJ_length_6 ⟨Nat.le_of_ble_eq_true rfl, Nat.le_of_ble_eq_true rfl⟩) rfl ?_
  refine lv_ishr hx hb dJ_length_9 ?_
  exact W.iret (v := (5 : Int32) >>> ((0 : Int32) &&& 31)) hx hb hr (fun t ht hW => ⟨by rw [show fJ_len = (5 : Int32) >>> ((0 : Int32) &&& 31) from by unfold fJ_len; rfl], ht⟩) (fun q h => by cases h) dJ_length_10

def fK_can (ch : Int32) : Bool := if ch < 0 then false else (if 255 < ch then false else true)
set_option maxHeartbeats 4000000 in
set_option maxRecDepth 100000 in
theorem c_K_can (l : Launch) (dC : Nat → ClassId) (dI : Nat → Nat → Nat) (qS : Nat) (vS : Nat) (ch : Int32) : Met l mK_canEncode wK_canEncode ({ frames := 0, cells := 0, slots := 0, locals := 0 }) (tp_G qS vS [.int ch]) (tq_R (some (.int (bI (fK_can ch))))) 0 0 (fun _ => False) := by
  refine Met.ofW (cc := bK_canEncode) (maxL := 1) (ret := (some .boolean)) (by decide) rfl ?_
  intro p e s m args below meth c s₁ B hml hv
  obtain ⟨rfl, hG⟩ := hv
  have hx := B.exec
  have hb := B.bytes
  have hr := B.returns
  have hts : ∀ w ∈ gT, w.before _ s = true := fun w h => atoms_spec (ws := wK_canEncode) B.pre w (List.mem_cons_of_mem _ h)
  have hown : s.vm.findClass RK = some m.cls := findClass_of_methodNamed B.named
  have hlocks := B.notSynchronized
  have hS : va_S (fun _ => False) s.heap s.heap [] := va_S.rf
  have hl := lv_entry ([.int ch]) (n := 1) (Nat.le_of_ble_eq_true rfl)
  rw [lg_entry_eq]
  generalize (lg_sl ([.int ch]) ++ List.replicate (1 - (lg_sl ([.int ch])).length) Slot.unset).toArray = ls at hl ⊢
  have hl : lv_has ls 1 [(0, .int ch)] := hl
  refine lv_iload_n hx hb dK_canEncode_0 rfl (lv_at hl 0 rfl) ?_
  refine lv_if_lt (tgt := 15) hx hb dK_canEncode_1 (by decide) (fun c_1 => ?_) (fun c_1 => ?_)
  · skip
    refine lv_iconst (v := 0) hx hb dK_canEncode_15 (by decide) ?_
    exact W.zret (v := 0) hx hb hr (rfl) (fun t ht hW => ⟨by rw [show fK_can ch = false from by unfold fK_can; rw [if_pos c_1]]; rfl, ht⟩) (fun q h => by cases h) dK_canEncode_16
  · skip
    refine lv_iload_n hx hb dK_canEncode_4 rfl (lv_at hl 0 rfl) ?_
    refine lv_sipush (v := 255) hx hb dK_canEncode_5 (by decide) ?_
    refine lv_icmp_gt (tgt := 15) hx hb dK_canEncode_8 (by decide) (fun c_2 => ?_) (fun c_2 => ?_)
    · skip
      refine lv_iconst (v := 0) hx hb dK_canEncode_15 (by decide) ?_
      exact W.zret (v := 0) hx hb hr (rfl) (fun t ht hW => ⟨by rw [show fK_can ch = false from by unfold fK_can; rw [if_neg c_1, if_pos c_2]]; rfl, ht⟩) (fun q h => by cases h) dK_canEncode_16
    · skip
      refine lv_iconst (v := 1) hx hb dK_canEncode_11 (by decide) ?_
      refine lv_goto (tgt := 16) hx hb dK_canEncode_12 (by decide) ?_
      exact W.zret (v := 1) hx hb hr (rfl) (fun t ht hW => ⟨by rw [show fK_can ch = true from by unfold fK_can; rw [if_neg c_1, if_neg c_2]]; rfl, ht⟩) (fun q h => by cases h) dK_canEncode_16

def fK_ixc (ch : Int32) : Int32 := rgIx ch.toInt8.toInt32 5 0

set_option maxHeartbeats 4000000 in
set_option maxRecDepth 100000 in
theorem c_K_ixc (l : Launch) (dC : Nat → ClassId) (dI : Nat → Nat → Nat) (qS : Nat) (vS : Nat) (ch : Int32) : Met l mK_indexOfChar wK_indexOfChar ({ frames := 0, cells := 0, slots := 0, locals := 0 }) (tp_G qS vS [.ref vS, .int ch, .int 0, .int 5]) (tq_R (some (.int (fK_ixc ch)))) 0 0 (fun _ => False) := by
  refine Met.ofW (cc := bK_indexOfChar) (maxL := 6) (ret := (some .int)) (by decide) rfl ?_
  intro p e s m args below meth c s₁ B hml hv
  obtain ⟨rfl, hG⟩ := hv
  have hx := B.exec
  have hb := B.bytes
  have hr := B.returns
  have hts : ∀ w ∈ gT, w.before _ s = true := fun w h => atoms_spec (ws := wK_indexOfChar) B.pre w (List.mem_cons_of_mem _ h)
  have hown : s.vm.findClass RK = some m.cls := findClass_of_methodNamed B.named
  have hlocks := B.notSynchronized
  have hS : va_S (fun _ => False) s.heap s.heap [] := va_S.rf
  have hl := lv_entry ([.ref vS, .int ch, .int 0, .int 5]) (n := 6) (Nat.le_of_ble_eq_true rfl)
  rw [lg_entry_eq]
  generalize (lg_sl ([.ref vS, .int ch, .int 0, .int 5]) ++ List.replicate (6 - (lg_sl ([.ref vS, .int ch, .int 0, .int 5])).length) Slot.unset).toArray = ls at hl ⊢
  have hl : lv_has ls 6 [(0, .ref vS), (1, .int ch), (2, .int 0), (3, .int 5)] := hl
  have loop : ∀ (n : Nat) (k : Nat) (hk : n + k = 5) (hR : rgIx ch.toInt8.toInt32 n k = fK_ixc ch) (ls : Array Slot), lv_has ls 6 [(5, .int (nI k)), (4, .int ch.toInt8.toInt32), (3, .int 5), (2, .int 0), (1, .int ch), (0, .ref vS)] → W p l e (headSpec wK_indexOfChar ({ frames := 0, cells := 0, slots := 0, locals := 0 })).room s m ([.ref vS, .int ch, .int 0, .int 5] : List Value).toArray below meth c s.heap [] 0 0 (MQ below (tq_R (some (.int (fK_ixc ch)))) ([.ref vS, .int ch, .int 0, .int 5] : List Value).toArray s 0 0 (fun _ => False)) (F0 m 7 ls []) := by
    intro n
    induction n with
    | zero =>
      intro k hk hR ls hl
      refine lv_iload hx hb dK_indexOfChar_7 (lv_at hl 0 rfl) ?_
      refine lv_iload_n hx hb dK_indexOfChar_9 rfl (lv_at hl 2 rfl) ?_
      refine lv_icmp_ge (tgt := 31) hx hb dK_indexOfChar_10 (by decide) (fun c_1 => ?_) (fun c_1 => absurd (by rw [show k = 5 by omega]; decide) c_1)
      refine lv_iconst (v := (-1)) hx hb dK_indexOfChar_31 (by decide) ?_
      exact W.iret (v := (-1)) hx hb hr (fun t ht hW => ⟨by rw [← hR, rgIx], ht⟩) (fun q h => by cases h) dK_indexOfChar_32
    | succ n ih =>
      intro k hk hR ls hl
      refine lv_iload hx hb dK_indexOfChar_7 (lv_at hl 0 rfl) ?_
      refine lv_iload_n hx hb dK_indexOfChar_9 rfl (lv_at hl 2 rfl) ?_
      refine lv_icmp_ge (tgt := 31) hx hb dK_indexOfChar_10 (by decide) (fun c_2 => absurd c_2 ((nI_ge (by omega) (by decide) : ¬ nI 5 ≤ nI k))) (fun c_2 => ?_)
      refine lv_aload_n hx hb dK_indexOfChar_13 rfl (lv_at hl 5 rfl) ?_
      refine lv_iload hx hb dK_indexOfChar_14 (lv_at hl 0 rfl) ?_
      have b_3 : vp_in (nI k) 5 := vp_in_nI (by omega) (by decide)
      refine va_tb hx hb hG.2.2.2.1 hS b_3 (v := .int (rgB.getD (nI k).toNatClampNeg 0)) rfl dK_indexOfChar_16 ?_
      refine lv_iload hx hb dK_indexOfChar_17 (lv_at hl 1 rfl) ?_
      refine lv_icmp_ne (tgt := 25) hx hb dK_indexOfChar_19 (by decide) (fun c_4 => ?_) (fun c_4 => ?_)
      · skip
        refine lv_iinc (v := nI (k + 1)) (lv' := [(5, .int (nI (k + 1))), (4, .int ch.toInt8.toInt32), (3, .int 5), (2, .int 0), (1, .int ch), (0, .ref vS)]) hx hb dK_indexOfChar_25 hl (k := 0) rfl (by rw [nI_succ]; rfl) (by decide) rfl (fun ls hl => ?_)
        refine lv_goto (tgt := 7) hx hb dK_indexOfChar_28 (by decide) ?_
        exact ih (k + 1) (by omega) (by rw [rgIx, if_neg c_4] at hR; exact hR) ls (lv_sub hl [0, 1, 2, 3, 4, 5] rfl)
      · skip
        refine lv_iload hx hb dK_indexOfChar_22 (lv_at hl 0 rfl) ?_
        exact W.iret (v := nI k) hx hb hr (fun t ht hW => ⟨by rw [← hR, rgIx, if_pos c_4], ht⟩) (fun q h => by cases h) dK_indexOfChar_24
  refine lv_iload_n hx hb dK_indexOfChar_0 rfl (lv_at hl 1 rfl) ?_
  refine lv_i2b (v := ch.toInt8.toInt32) hx hb dK_indexOfChar_1 rfl ?_
  refine lv_istore (lv' := [(4, .int ch.toInt8.toInt32), (0, .ref vS), (1, .int ch), (2, .int 0), (3, .int 5)]) hx hb dK_indexOfChar_2 hl (by decide) rfl (fun ls hl => ?_)
  refine lv_iload_n hx hb dK_indexOfChar_4 rfl (lv_at hl 3 rfl) ?_
  refine lv_istore (lv' := [(5, .int 0), (4, .int ch.toInt8.toInt32), (0, .ref vS), (1, .int ch), (2, .int 0), (3, .int 5)]) hx hb dK_indexOfChar_5 hl (by decide) rfl (fun ls hl => ?_)
  exact loop 5 0 rfl rfl ls (lv_sub hl [0, 1, 5, 4, 3, 2] rfl)

def fK_ixl (ch : Int32) : Int32 := if (fK_can ch) = true then (fK_ixc ch) else (-1)
set_option maxHeartbeats 4000000 in
set_option maxRecDepth 100000 in
theorem c_K_ixl (l : Launch) (dC : Nat → ClassId) (dI : Nat → Nat → Nat) (qS : Nat) (vS : Nat) (ch : Int32) : Met l mK_indexOf wK_indexOf ({ frames := 1, cells := 0, slots := 0, locals := 25 }) (tp_G qS vS [.ref vS, .int ch, .int 0, .int 5]) (tq_R (some (.int (fK_ixl ch)))) 0 0 (fun _ => False) := by
  refine Met.ofW (cc := bK_indexOf) (maxL := 4) (ret := (some .int)) (by decide) rfl ?_
  intro p e s m args below meth c s₁ B hml hv
  obtain ⟨rfl, hG⟩ := hv
  have hx := B.exec
  have hb := B.bytes
  have hr := B.returns
  have hts : ∀ w ∈ gT, w.before _ s = true := fun w h => atoms_spec (ws := wK_indexOf) B.pre w (List.mem_cons_of_mem _ h)
  have hown : s.vm.findClass RK = some m.cls := findClass_of_methodNamed B.named
  have hlocks := B.notSynchronized
  have hS : va_S (fun _ => False) s.heap s.heap [] := va_S.rf
  have hl := lv_entry ([.ref vS, .int ch, .int 0, .int 5]) (n := 4) (Nat.le_of_ble_eq_true rfl)
  rw [lg_entry_eq]
  generalize (lg_sl ([.ref vS, .int ch, .int 0, .int 5]) ++ List.replicate (4 - (lg_sl ([.ref vS, .int ch, .int 0, .int 5])).length) Slot.unset).toArray = ls at hl ⊢
  have hl : lv_has ls 4 [(0, .ref vS), (1, .int ch), (2, .int 0), (3, .int 5)] := hl
  refine lv_iload_n hx hb dK_indexOf_0 rfl (lv_at hl 1 rfl) ?_
  refine tr_go (st1 := [.int (bI (fK_can ch))]) (va_runS (As := [.int ch]) (rest := []) ⟨hx, hb, hml, hown, hts⟩ (c_K_can l dC dI qS vS ch) ⟨cB 1 hts gw_180 gw_13 gw_178 ndK_canEncode rfl rfl ⟨Nat.le_of_ble_eq_true rfl, Nat.le_of_ble_eq_true rfl⟩, hts _ gw_179⟩ (tp_Gs hG hS) rfl rfl hl.1 rfl (lv_room (Nat.le_of_ble_eq_true rfl)) dK_indexOf_1 ⟨Nat.le_of_ble_eq_true rfl, Nat.le_of_ble_eq_true rfl⟩) rfl ?_
  refine tb_ifne (tgt := 9) hx hb dK_indexOf_4 (by decide) (fun c_1 => ?_) (fun c_1 => ?_)
  · skip
    refine lv_iload_n hx hb dK_indexOf_9 rfl (lv_at hl 2 rfl) ?_
    refine lv_iconst (v := 0) hx hb dK_indexOf_10 (by decide) ?_
    refine va_mmax hx hb (hml.trans hl.1.symm) hown (hts _ gw_181) (hts _ gw_182) (hts _ gw_14) (hts _ gw_183) (Nat.le_of_ble_eq_true rfl) (Nat.le_of_ble_eq_true rfl) (Nat.le_of_ble_eq_true rfl) (Nat.le_of_ble_eq_true rfl) dK_indexOf_11 ?_
    refine lv_istore_n (lv' := [(2, .int 0), (0, .ref vS), (1, .int ch), (3, .int 5)]) hx hb dK_indexOf_14 rfl hl (by decide) rfl (fun ls hl => ?_)
    refine lv_iload_n hx hb dK_indexOf_15 rfl (lv_at hl 3 rfl) ?_
    refine lv_aload_n hx hb dK_indexOf_16 rfl (lv_at hl 1 rfl) ?_
    refine va_tlen (v := 5) hx hb hG.2.2.2.1 hS rfl dK_indexOf_17 ?_
    refine va_mmin hx hb (hml.trans hl.1.symm) hown (hts _ gw_184) (hts _ gw_185) (hts _ gw_14) (hts _ gw_186) (Nat.le_of_ble_eq_true rfl) (Nat.le_of_ble_eq_true rfl) (Nat.le_of_ble_eq_true rfl) (Nat.le_of_ble_eq_true rfl) dK_indexOf_18 ?_
    refine lv_istore_n (lv' := [(3, .int 5), (2, .int 0), (0, .ref vS), (1, .int ch)]) hx hb dK_indexOf_21 rfl hl (by decide) rfl (fun ls hl => ?_)
    refine lv_iload_n hx hb dK_indexOf_22 rfl (lv_at hl 1 rfl) ?_
    refine lv_iload_n hx hb dK_indexOf_23 rfl (lv_at hl 0 rfl) ?_
    refine lv_icmp_lt (tgt := 29) hx hb dK_indexOf_24 (by decide) (fun c_2 => ?_) (fun c_2 => absurd (by decide) c_2)
    refine lv_aload_n hx hb dK_indexOf_29 rfl (lv_at hl 2 rfl) ?_
    refine lv_iload_n hx hb dK_indexOf_30 rfl (lv_at hl 3 rfl) ?_
    refine lv_iload_n hx hb dK_indexOf_31 rfl (lv_at hl 1 rfl) ?_
    refine lv_iload_n hx hb dK_indexOf_32 rfl (lv_at hl 0 rfl) ?_
    refine tr_go (st1 := [.int (fK_ixc ch)]) (va_runS (As := [.ref vS, .int ch, .int 0, .int 5]) (rest := []) ⟨hx, hb, hml, hown, hts⟩ (c_K_ixc l dC dI qS vS ch) ⟨cB 4 hts gw_189 gw_13 gw_187 ndK_indexOfChar rfl rfl ⟨Nat.le_of_ble_eq_true rfl, Nat.le_of_ble_eq_true rfl⟩, hts _ gw_188⟩ (tp_Gs hG hS) rfl rfl hl.1 rfl (lv_room (Nat.le_of_ble_eq_true rfl)) dK_indexOf_33 ⟨Nat.le_of_ble_eq_true rfl, Nat.le_of_ble_eq_true rfl⟩) rfl ?_
    exact W.iret (v := fK_ixc ch) hx hb hr (fun t ht hW => ⟨by rw [show fK_ixl ch = fK_ixc ch from by unfold fK_ixl; rw [if_pos c_1]], ht⟩) (fun q h => by cases h) dK_indexOf_36
  · skip
    refine lv_iconst (v := (-1)) hx hb dK_indexOf_7 (by decide) ?_
    exact W.iret (v := (-1)) hx hb hr (fun t ht hW => ⟨by rw [show fK_ixl ch = (-1) from by unfold fK_ixl; rw [if_neg (Bool.eq_false_iff.mp c_1)]], ht⟩) (fun q h => by cases h) dK_indexOf_8

def fJ_ix2 (ch : Int32) : Int32 := fK_ixl ch
set_option maxHeartbeats 4000000 in
set_option maxRecDepth 100000 in
theorem c_J_ix2 (l : Launch) (dC : Nat → ClassId) (dI : Nat → Nat → Nat) (qS : Nat) (vS : Nat) (ch : Int32) : Met l mJ_indexOf2 wJ_indexOf2 ({ frames := 2, cells := 0, slots := 0, locals := 48 }) (tp_G qS vS [.ref qS, .int ch, .int 0]) (tq_R (some (.int (fJ_ix2 ch)))) 0 0 (fun _ => False) := by
  refine Met.ofW (cc := bJ_indexOf2) (maxL := 3) (ret := (some .int)) (by decide) rfl ?_
  intro p e s m args below meth c s₁ B hml hv
  obtain ⟨rfl, hG⟩ := hv
  have hx := B.exec
  have hb := B.bytes
  have hr := B.returns
  have hts : ∀ w ∈ gT, w.before _ s = true := fun w h => atoms_spec (ws := wJ_indexOf2) B.pre w (List.mem_cons_of_mem _ h)
  have hown : s.vm.findClass RJ = some m.cls := findClass_of_methodNamed B.named
  have hlocks := B.notSynchronized
  have hS : va_S (fun _ => False) s.heap s.heap [] := va_S.rf
  have hl := lv_entry ([.ref qS, .int ch, .int 0]) (n := 3) (Nat.le_of_ble_eq_true rfl)
  rw [lg_entry_eq]
  generalize (lg_sl ([.ref qS, .int ch, .int 0]) ++ List.replicate (3 - (lg_sl ([.ref qS, .int ch, .int 0])).length) Slot.unset).toArray = ls at hl ⊢
  have hl : lv_has ls 3 [(0, .ref qS), (1, .int ch), (2, .int 0)] := hl
  refine lv_aload_n hx hb dJ_indexOf2_0 rfl (lv_at hl 0 rfl) ?_
  refine tr_go (st1 := [.int 1]) (va_runV (As := []) (rest := []) (C := RJ) ⟨hx, hb, hml, hown, hts⟩ (c_J_isL l dC dI qS vS) ⟨cB 0 hts gw_165 gw_12 gw_162 ndJ_isLatin1 rfl rfl ⟨Nat.le_of_ble_eq_true rfl, Nat.le_of_ble_eq_true rfl⟩, hts _ gw_163, hts _ gw_164⟩ (tp_Gv hG hS) rfl rfl hl.1 rfl (lv_room (Nat.le_of_ble_eq_true rfl)) dJ_indexOf2_1 ⟨Nat.le_of_ble_eq_true rfl, Nat.le_of_ble_eq_true rfl⟩) rfl ?_
  refine lv_if_eq (tgt := 23) hx hb dJ_indexOf2_4 (by decide) (fun c_1 => absurd c_1 (by decide)) (fun c_1 => ?_)
  refine lv_aload_n hx hb dJ_indexOf2_7 rfl (lv_at hl 0 rfl) ?_
  refine vk_getf hx hb hG.2.2.1 hS hown (hts _ gw_742) (fun _ h9 => h9) dJ_indexOf2_8 ?_
  refine lv_iload_n hx hb dJ_indexOf2_11 rfl (lv_at hl 1 rfl) ?_
  refine lv_iload_n hx hb dJ_indexOf2_12 rfl (lv_at hl 2 rfl) ?_
  refine lv_aload_n hx hb dJ_indexOf2_13 rfl (lv_at hl 0 rfl) ?_
  refine tr_go (st1 := [.int 5, .int 0, .int ch, .ref vS]) (va_runV (As := []) (rest := [.int 0, .int ch, .ref vS]) (C := RJ) ⟨hx, hb, hml, hown, hts⟩ (c_J_len l dC dI qS vS) ⟨cB 0 hts gw_170 gw_12 gw_167 ndJ_length rfl rfl ⟨Nat.le_of_ble_eq_true rfl, Nat.le_of_ble_eq_true rfl⟩, hts _ gw_168, hts _ gw_169⟩ (tp_Gv hG hS) rfl rfl hl.1 rfl (lv_room (Nat.le_of_ble_eq_true rfl)) dJ_indexOf2_14 ⟨Nat.le_of_ble_eq_true rfl, Nat.le_of_ble_eq_true rfl⟩) rfl ?_
  refine tr_go (st1 := [.int (fK_ixl ch)]) (va_runS (As := [.ref vS, .int ch, .int 0, .int 5]) (rest := []) ⟨hx, hb, hml, hown, hts⟩ (c_K_ixl l dC dI qS vS ch) ⟨cB 4 hts gw_177 gw_13 gw_175 ndK_indexOf rfl rfl ⟨Nat.le_of_ble_eq_true rfl, Nat.le_of_ble_eq_true rfl⟩, hts _ gw_176⟩ (tp_Gs hG hS) rfl rfl hl.1 rfl (lv_room (Nat.le_of_ble_eq_true rfl)) dJ_indexOf2_17 ⟨Nat.le_of_ble_eq_true rfl, Nat.le_of_ble_eq_true rfl⟩) rfl ?_
  refine lv_goto (tgt := 36) hx hb dJ_indexOf2_20 (by decide) ?_
  exact W.iret (v := fK_ixl ch) hx hb hr (fun t ht hW => ⟨by rw [show fJ_ix2 ch = fK_ixl ch from by unfold fJ_ix2; rfl], ht⟩) (fun q h => by cases h) dJ_indexOf2_36

def fJ_ix (ch : Int32) : Int32 := fJ_ix2 ch
set_option maxHeartbeats 4000000 in
set_option maxRecDepth 100000 in
theorem c_J_ix (l : Launch) (dC : Nat → ClassId) (dI : Nat → Nat → Nat) (qS : Nat) (vS : Nat) (ch : Int32) : Met l mJ_indexOf wJ_indexOf ({ frames := 3, cells := 0, slots := 0, locals := 70 }) (tp_G qS vS [.ref qS, .int ch]) (tq_R (some (.int (fJ_ix ch)))) 0 0 (fun _ => False) := by
  refine Met.ofW (cc := bJ_indexOf) (maxL := 2) (ret := (some .int)) (by decide) rfl ?_
  intro p e s m args below meth c s₁ B hml hv
  obtain ⟨rfl, hG⟩ := hv
  have hx := B.exec
  have hb := B.bytes
  have hr := B.returns
  have hts : ∀ w ∈ gT, w.before _ s = true := fun w h => atoms_spec (ws := wJ_indexOf) B.pre w (List.mem_cons_of_mem _ h)
  have hown : s.vm.findClass RJ = some m.cls := findClass_of_methodNamed B.named
  have hlocks := B.notSynchronized
  have hS : va_S (fun _ => False) s.heap s.heap [] := va_S.rf
  have hl := lv_entry ([.ref qS, .int ch]) (n := 2) (Nat.le_of_ble_eq_true rfl)
  rw [lg_entry_eq]
  generalize (lg_sl ([.ref qS, .int ch]) ++ List.replicate (2 - (lg_sl ([.ref qS, .int ch])).length) Slot.unset).toArray = ls at hl ⊢
  have hl : lv_has ls 2 [(0, .ref qS), (1, .int ch)] := hl
  refine lv_aload_n hx hb dJ_indexOf_0 rfl (lv_at hl 0 rfl) ?_
  refine lv_iload_n hx hb dJ_indexOf_1 rfl (lv_at hl 1 rfl) ?_
  refine lv_iconst (v := 0) hx hb dJ_indexOf_2 (by decide) ?_
  refine tr_go (st1 := [.int (fJ_ix2 ch)]) (va_runV (As := [.int ch, .int 0]) (rest := []) (C := RJ) ⟨hx, hb, hml, hown, hts⟩ (c_J_ix2 l dC dI qS vS ch) ⟨cB 2 hts gw_161 gw_12 gw_158 ndJ_indexOf2 rfl rfl ⟨Nat.le_of_ble_eq_true rfl, Nat.le_of_ble_eq_true rfl⟩, hts _ gw_159, hts _ gw_160⟩ (tp_Gv hG hS) rfl rfl hl.1 rfl (lv_room (Nat.le_of_ble_eq_true rfl)) dJ_indexOf_3 ⟨Nat.le_of_ble_eq_true rfl, Nat.le_of_ble_eq_true rfl⟩) rfl ?_
  exact W.iret (v := fJ_ix2 ch) hx hb hr (fun t ht hW => ⟨by rw [show fJ_ix ch = fJ_ix2 ch from by unfold fJ_ix; rfl], ht⟩) (fun q h => by cases h) dJ_indexOf_6
