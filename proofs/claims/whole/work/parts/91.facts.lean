/-! what the Statement gives of the start -/
theorem st_tn {b : Nat} {s : State} (hts : ∀ w ∈ lw_tbl, w.before #[Value.ref b] s = true) : tn s := fun w hw hb => va_Nw.of (by cases w <;> first | rfl | (cases hb)) (hts w (List.mem_append_right _ hw))
theorem st_tz {b : Nat} {s : State} (hts : ∀ w ∈ lw_tbl, w.before #[Value.ref b] s = true) (hgv : (Jvm.Cond.and given_1 narrow_1).before #[Value.ref b] s = true) : tz s := by
  have hs := flat_of_before _ hgv
  have l1 : (Cond.laysStatic "java/lang/Throwable" "UNASSIGNED_STACK" "[Ljava/lang/StackTraceElement;").before #[Value.ref b] s = true := hts _ (List.mem_append_right _ (List.mem_append_right _ (List.mem_append_left _ (List.mem_of_getElem? (i := 114) (by rfl))) : Cond.laysStatic "java/lang/Throwable" "UNASSIGNED_STACK" "[Ljava/lang/StackTraceElement;" ∈ tables_1))
  have l2 : (Cond.laysStatic "java/lang/Throwable" "SUPPRESSED_SENTINEL" "Ljava/util/List;").before #[Value.ref b] s = true := hts _ (List.mem_append_right _ (List.mem_append_right _ (List.mem_append_left _ (List.mem_of_getElem? (i := 116) (by rfl))) : Cond.laysStatic "java/lang/Throwable" "SUPPRESSED_SENTINEL" "Ljava/util/List;" ∈ tables_1))
  have i1 : (Cond.initialized "java/lang/Throwable").before #[Value.ref b] s = true := hts _ (gT_tbl _ gw_8)
  have r1 : (Cond.isRef (.static "java/lang/Throwable" "UNASSIGNED_STACK" "[Ljava/lang/StackTraceElement;")).before #[Value.ref b] s = true := hs _ (by decide +kernel)
  have r2 : (Cond.isRef (.static "java/lang/Throwable" "SUPPRESSED_SENTINEL" "Ljava/util/List;")).before #[Value.ref b] s = true := hs _ (by decide +kernel)
  refine ⟨fun w hw hb => ?_, va_Zqof l1 i1 r1 (fun _ _ h => h), va_Zqof l2 i1 r2 (fun _ _ h => h), tz_ls (State.WarmedH.refl s) (fun _ _ => rfl) l1, tz_ls (State.WarmedH.refl s) (fun _ _ => rfl) l2⟩
  have h1 := hts w (List.mem_append_right _ hw)
  cases w <;> first | (cases hb; done) | skip
  simpa [va_Nw, Cond.before, Cond.holds, Cond.value] using h1
theorem st_nc {X Y : String} {args : Array Value} {s : State} (h : (Cond.not (Cond.castable X Y)).before args s = true) : ∃ x y : ClassId, s.vm.findClass X = some x ∧ s.vm.findClass Y = some y ∧ s.vm.assignable x y = false := by
  cases ha : s.vm.findClass X with
  | none => simp [Cond.before, Cond.holds, Cond.value, ha] at h
  | some x =>
    cases hb : s.vm.findClass Y with
    | none => simp [Cond.before, Cond.holds, Cond.value, ha, hb] at h
    | some y => exact ⟨x, y, rfl, rfl, by simpa [Cond.before, Cond.holds, Cond.value, ha, hb] using h⟩
theorem st_tcl {b : Nat} {s : State} (hgv : (Jvm.Cond.and given_1 narrow_1).before #[Value.ref b] s = true) : tcl s := by
  have hs := flat_of_before _ hgv
  obtain ⟨cA, cS, a1, a2, a3⟩ := st_nc (hs (Cond.not (Cond.castable "java/lang/IllegalArgumentException" "java/lang/IllegalStateException")) (by decide +kernel))
  obtain ⟨cB, cS2, b1, b2, b3⟩ := st_nc (hs (Cond.not (Cond.castable "java/lang/IndexOutOfBoundsException" "java/lang/IllegalStateException")) (by decide +kernel))
  obtain ⟨cA2, cB2, d1, d2, d3⟩ := st_nc (hs (Cond.not (Cond.castable "java/lang/IllegalArgumentException" "java/lang/IndexOutOfBoundsException")) (by decide +kernel))
  cases a2.symm.trans b2
  cases a1.symm.trans d1
  cases b1.symm.trans d2
  exact ⟨cS, cA, cB, a2, a1, b1, a3, b3, d3⟩
theorem st_zS {b : Nat} {s : State} {A : Nat → Prop} (hts : ∀ w ∈ lw_tbl, w.before #[Value.ref b] s = true) (hgv : (Jvm.Cond.and given_1 narrow_1).before #[Value.ref b] s = true) (hA0 : ∀ q : Nat, q < s.heap.size → ¬ A q) : ∃ qS vS : Nat, vk_R "StairPlans$RuleText" 49 "rgnwt" qS s ∧ zS A qS vS s s.heap := by
  have hs := flat_of_before _ hgv
  have h0 : (Cond.exactly (Term.string "StairPlans$RuleText" 49) "java/lang/String").before #[Value.ref b] s = true := hs _ (by decide +kernel)
  have h1 : (Cond.eq (Term.field (Term.string "StairPlans$RuleText" 49) "java/lang/String" "coder" "B") (.int 0)).before #[Value.ref b] s = true := hs _ (by decide +kernel)
  have h2 : (Cond.arrayOf (Term.field (Term.string "StairPlans$RuleText" 49) "java/lang/String" "value" "[B") .byte).before #[Value.ref b] s = true := hs _ (by decide +kernel)
  have h3 : (Cond.eq (.length (Term.field (Term.string "StairPlans$RuleText" 49) "java/lang/String" "value" "[B")) (.int 5)).before #[Value.ref b] s = true := hs _ (by decide +kernel)
  have e0 : (Cond.eq (.elem (Term.field (Term.string "StairPlans$RuleText" 49) "java/lang/String" "value" "[B") (.int 0)) (.int 114)).before #[Value.ref b] s = true := hs _ (by decide +kernel)
  have e1 : (Cond.eq (.elem (Term.field (Term.string "StairPlans$RuleText" 49) "java/lang/String" "value" "[B") (.int 1)) (.int 103)).before #[Value.ref b] s = true := hs _ (by decide +kernel)
  have e2 : (Cond.eq (.elem (Term.field (Term.string "StairPlans$RuleText" 49) "java/lang/String" "value" "[B") (.int 2)) (.int 110)).before #[Value.ref b] s = true := hs _ (by decide +kernel)
  have e3 : (Cond.eq (.elem (Term.field (Term.string "StairPlans$RuleText" 49) "java/lang/String" "value" "[B") (.int 3)) (.int 119)).before #[Value.ref b] s = true := hs _ (by decide +kernel)
  have e4 : (Cond.eq (.elem (Term.field (Term.string "StairPlans$RuleText" 49) "java/lang/String" "value" "[B") (.int 4)) (.int 116)).before #[Value.ref b] s = true := hs _ (by decide +kernel)
  obtain ⟨adK, adV, hK, hE⟩ := vk_Sof (args := #[Value.ref b]) (s := s) (N := 1) (tm := fun _ => (Term.string "StairPlans$RuleText" 49)) (len := [5]) (byt := [rgB]) (A := A)
    (fun i hi => by obtain rfl := Nat.lt_one_iff.mp hi; decide) (fun i hi => h0) (fun i hi => h1) (fun i hi => h2) (fun i hi => by obtain rfl := Nat.lt_one_iff.mp hi; exact h3)
    (fun i hi j hj => by
      obtain rfl := Nat.lt_one_iff.mp hi
      have hj : j < 5 := hj
      rcases (show j = 0 ∨ j = 1 ∨ j = 2 ∨ j = 3 ∨ j = 4 by omega) with rfl | rfl | rfl | rfl | rfl
      · exact e0
      · exact e1
      · exact e2
      · exact e3
      · exact e4)
    (fun i j hi hj h => absurd ((Nat.lt_one_iff.mp hi).trans (Nat.lt_one_iff.mp hj).symm) h) hA0
  obtain ⟨k1, k2, k3, k4⟩ := hK.1 0 (by decide)
  exact ⟨adK 0, adV 0, vk_R.of (A := #[Value.ref b]) (hts _ (List.mem_append_right _ (List.mem_append_left _ (List.mem_of_getElem? (i := 214) (by rfl)) : Cond.stringRef "StairPlans$RuleText" 49 "rgnwt" ∈ tables_1))) (hE 0 (by decide)), k1, k2, k3, k4, va_Zof (hts (Cond.laysStatic "java/lang/String" "COMPACT_STRINGS" "Z") (List.mem_append_right _ (List.mem_append_left _ (List.mem_of_getElem? (i := 228) (by rfl)) : Cond.laysStatic "java/lang/String" "COMPACT_STRINGS" "Z" ∈ tables_1))) (hts _ (gT_tbl _ gw_12)) (va_eqi (hs (Cond.eq (.static "java/lang/String" "COMPACT_STRINGS" "Z") (.int 1)) (by decide +kernel))) hA0⟩
theorem st_K {b : Nat} {s : State} (hts : ∀ w ∈ gT, w.before #[Value.ref b] s = true) : ∃ (dC : Nat → ClassId) (dI : Nat → Nat → Nat), va_K (dC, dI) vCl [] s := by
  obtain ⟨c0, i0, k0⟩ := u_known (C := RP) (T := TP) (N := 10) (n := 10) hts inP (hts _ gw_19)
  obtain ⟨c1, i1, k1⟩ := u_known (C := RT) (T := TT) (N := 3) (n := 3) hts inT (hts _ gw_27)
  obtain ⟨c2, i2, k2⟩ := u_known (C := RS) (T := TS) (N := 4) (n := 4) hts inS (hts _ gw_39)
  obtain ⟨c3, i3, k3⟩ := u_known (C := RF) (T := TF) (N := 6) (n := 6) hts inF (hts _ gw_53)
  obtain ⟨c4, i4, k4⟩ := u_known (C := RA) (T := TA) (N := 7) (n := 7) hts inA (hts _ gw_71)
  obtain ⟨c5, i5, k5⟩ := u_known (C := RQ) (T := TQ) (N := 2) (n := 2) hts inQ (hts _ gw_90)
  obtain ⟨c6, i6, k6⟩ := u_known (C := RM) (T := TM) (N := 19) (n := 19) hts inM (hts _ gw_568)
  refine ⟨fun k => [c0, c1, c2, c3, c4, c5, c6].getD k c0, fun k => [i0, i1, i2, i3, i4, i5, i6].getD k i0, fun c q hq => ?_, fun k q hk => by cases hk⟩
  have hc : c < 7 := (List.getElem?_eq_some_iff.mp hq).1
  rcases (show c = 0 ∨ c = 1 ∨ c = 2 ∨ c = 3 ∨ c = 4 ∨ c = 5 ∨ c = 6 by omega) with rfl | rfl | rfl | rfl | rfl | rfl | rfl
  · cases hq; exact k0
  · cases hq; exact k1
  · cases hq; exact k2
  · cases hq; exact k3
  · cases hq; exact k4
  · cases hq; exact k5
  · cases hq; exact k6
