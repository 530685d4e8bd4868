/-! the law's start: what the statement gives of it -/
abbrev lw_nw : List Cond := flatC (Jvm.Cond.and given_1 narrow_1)
theorem vkR_of {own tx : String} {k : Nat} {A : Array Value} {s : State} (h1 : (Cond.stringRef own k tx).before A s = true) (h2 : (Cond.exactly (.string own k) "java/lang/String").before A s = true) : ∃ a : Nat, vk_R own k tx a s := by
  obtain ⟨a, c, cA, kA, q1, -⟩ := Cond.exactly_spec (args := A) (first := s) (o := none) (s := s) (idx := []) (t := .string own k) (cls := "java/lang/String") h2
  exact ⟨a, vk_R.of h1 q1⟩
theorem st_nest : ∀ w ∈ xNest, w ∈ tables_1 := by decide +kernel
theorem st_str1 : ∀ q ∈ tStr, Cond.stringRef "TwinOrchard" q.1 q.2 ∈ tables_1 := by decide +kernel
theorem st_str2 : ∀ q ∈ tStr, Cond.exactly (.string "TwinOrchard" q.1) "java/lang/String" ∈ lw_nw := by decide +kernel
theorem st_tB : ∀ w ∈ tB eI ++ (tB eA ++ tB eS), w ∈ tables_1 := by decide +kernel
theorem st_w1 : ∀ w ∈ [Cond.laysStatic Bundle.tN "UNASSIGNED_STACK" Bundle.steD, .laysStatic Bundle.tN "SUPPRESSED_SENTINEL" Bundle.listD, .initialized Bundle.tN, .laysStatic "TwinOrchardModel" "COSTS" "[I", .initialized "TwinOrchardModel", .arrayOver (.array .int), .castable "[I" "java/lang/Cloneable", .arrayClass .int, .arrayClass .boolean], w ∈ tables_1 := by decide +kernel
abbrev lw_co : Term := .static "TwinOrchardModel" "COSTS" "[I"
theorem st_w2 : ∀ w ∈ [Cond.isRef (.static Bundle.tN "UNASSIGNED_STACK" Bundle.steD), .isRef (.static Bundle.tN "SUPPRESSED_SENTINEL" Bundle.listD), .not (.castable eA eI), .not (.castable eS eI), .not (.castable eS eA), .not (.castable eI eA), .arrayOf lw_co .int, .eq (.length lw_co) (.int 4), .eq (.elem lw_co (.int 0)) (.int 5), .eq (.elem lw_co (.int 1)) (.int 2), .eq (.elem lw_co (.int 2)) (.int 4), .eq (.elem lw_co (.int 3)) (.int 6)], w ∈ lw_nw := by decide +kernel
section ST
variable {A : Array Value} {s : State}
theorem st_ao (h : (Cond.arrayOver (.array .int)).before A s = true) : (Cond.arrayOver (.array .int)).before #[] s = true := by
  first
    | exact h
    | (simp only [Cond.before, Cond.holds, Cond.value] at h ⊢; exact h)
theorem st_T (ht : ∀ w ∈ tables_1, w.before A s = true) (hs : ∀ w ∈ lw_nw, w.before A s = true) : tExA (lA s) s := by
  have hA : ∀ a : Nat, a < s.heap.size → ¬ lA s a := fun a h => Nat.not_le.mpr h
  have t1 : ∀ (i : Nat) (w : Cond), _ → w.before A s = true := fun i w (h : [Cond.laysStatic Bundle.tN "UNASSIGNED_STACK" Bundle.steD, .laysStatic Bundle.tN "SUPPRESSED_SENTINEL" Bundle.listD, .initialized Bundle.tN, .laysStatic "TwinOrchardModel" "COSTS" "[I", .initialized "TwinOrchardModel", .arrayOver (.array .int), .castable "[I" "java/lang/Cloneable", .arrayClass .int, .arrayClass .boolean][i]? = some w) => ht w (st_w1 w (List.mem_of_getElem? h))
  refine ⟨fun w hw => ?_, fun q hq => vkR_of (ht _ (st_str1 q hq)) (hs _ (st_str2 q hq)), fun E w hw hE => ?_, ?_, ?_⟩
  · have h1 := ht w (st_nest w hw)
    have h2 : w.onTables = true := by
      simp only [xNest, List.mem_cons, List.not_mem_nil, or_false] at hw
      rcases hw with rfl | rfl | rfl | rfl | rfl | rfl | rfl | rfl <;> rfl
    exact va_Nw.of h2 h1
  · refine va_Nw.of (tB_t w hw) (ht w (st_tB w ?_))
    rcases hE with rfl | rfl | rfl
    · exact List.mem_append_left _ hw
    · exact List.mem_append_right _ (List.mem_append_left _ hw)
    · exact List.mem_append_right _ (List.mem_append_right _ hw)
  · exact vx_Zqof (t1 0 _ rfl) (t1 2 _ rfl) (hs _ (st_w2 _ (List.mem_of_getElem? (i := 0) rfl))) hA
  · exact vx_Zqof (t1 1 _ rfl) (t1 2 _ rfl) (hs _ (st_w2 _ (List.mem_of_getElem? (i := 1) rfl))) hA
theorem st_N (hs : ∀ w ∈ lw_nw, w.before A s = true) : nCa s :=
  ⟨va_Nc.of (hs _ (st_w2 _ (List.mem_of_getElem? (i := 2) rfl))), va_Nc.of (hs _ (st_w2 _ (List.mem_of_getElem? (i := 3) rfl))), va_Nc.of (hs _ (st_w2 _ (List.mem_of_getElem? (i := 4) rfl))), va_Nc.of (hs _ (st_w2 _ (List.mem_of_getElem? (i := 5) rfl)))⟩
theorem st_M (ht : ∀ w ∈ tables_1, w.before A s = true) (hs : ∀ w ∈ lw_nw, w.before A s = true) : mExA (lA s) s := by
  have hA : ∀ a : Nat, a < s.heap.size → ¬ lA s a := fun a h => Nat.not_le.mpr h
  refine ⟨?_, ?_, ?_⟩
  · obtain ⟨t, h1, h2⟩ := va_Tof (tm := lw_co) (ty := .int) (N := 4) (f := fun j => .int (iI (cst (j : Int)))) (A := lA s) (by decide) (hs _ (st_w2 _ (List.mem_of_getElem? (i := 6) rfl))) (va_eqt (hs _ (st_w2 _ (List.mem_of_getElem? (i := 7) rfl)))) (fun j hj => by
      rcases (show j = 0 ∨ j = 1 ∨ j = 2 ∨ j = 3 by omega) with rfl | rfl | rfl | rfl
      · exact va_eqt (hs _ (st_w2 _ (List.mem_of_getElem? (i := 8) rfl)))
      · exact va_eqt (hs _ (st_w2 _ (List.mem_of_getElem? (i := 9) rfl)))
      · exact va_eqt (hs _ (st_w2 _ (List.mem_of_getElem? (i := 10) rfl)))
      · exact va_eqt (hs _ (st_w2 _ (List.mem_of_getElem? (i := 11) rfl)))) hA
    exact ⟨t, va_Zof (ht _ (st_w1 _ (List.mem_of_getElem? (i := 3) rfl))) (ht _ (st_w1 _ (List.mem_of_getElem? (i := 4) rfl))) h1 hA, h2⟩
  · exact st_ao (ht _ (st_w1 _ (List.mem_of_getElem? (i := 5) rfl)))
  · exact va_Nw.of (w := .castable "[I" "java/lang/Cloneable") rfl (ht _ (st_w1 _ (List.mem_of_getElem? (i := 6) rfl)))
theorem st_ac {ty : FieldType} (h : (Cond.arrayClass ty).before A s = true) : ∃ cA : ClassId, ArrOfT s cA ty ∧ s.vm.findClass ("[" ++ ty.toString) = some cA := by
  obtain ⟨cA, kA, comp, h1, h2, h3⟩ := Cond.arrayClass_spec h
  exact ⟨cA, fun n z => ⟨(fun k h => by cases h), kA, h2, comp, h3⟩, h1⟩
theorem st_tys (ht : ∀ w ∈ tables_1, w.before A s = true) : ∃ cI cZ cQ : ClassId, ∀ (k : Nat) (q : ClassId × FieldType), (tyMs cI cZ cQ)[k]? = some q → ArrOfT s q.1 q.2 ∧ va_RA s q.1 q.2 := by
  obtain ⟨cI, i1, i2⟩ := st_ac (ht _ (st_w1 _ (List.mem_of_getElem? (i := 7) rfl)))
  obtain ⟨cZ, z1, z2⟩ := st_ac (ht _ (st_w1 _ (List.mem_of_getElem? (i := 8) rfl)))
  obtain ⟨comp, cQ, kQ, h1, h2, h3, h4, h5⟩ := arrayOverA_spec (ht _ (st_w1 _ (List.mem_of_getElem? (i := 5) rfl)))
  refine ⟨cI, cZ, cQ, fun k q hq => ?_⟩
  match k, hq with
  | 0, hq => cases hq; exact ⟨i1, i2⟩
  | 1, hq => cases hq; exact ⟨z1, z2⟩
  | 2, hq => cases hq; exact ⟨fun n z => ⟨(fun k h => by cases h), kQ, h3, comp, h4⟩, h5⟩
  | k + 3, hq => simp [tyMs] at hq
end ST
theorem dfX1 : ∀ j, j < 13 → defaultValue (tyX1 j) = vp_V [.null, .null, .null, .null, .null, .null, .null, .null, .null, .int 0, .int 0, .null, .null] j := by
  intro j hj
  rcases (show j = 0 ∨ j = 1 ∨ j = 2 ∨ j = 3 ∨ j = 4 ∨ j = 5 ∨ j = 6 ∨ j = 7 ∨ j = 8 ∨ j = 9 ∨ j = 10 ∨ j = 11 ∨ j = 12 by omega) with rfl | rfl | rfl | rfl | rfl | rfl | rfl | rfl | rfl | rfl | rfl | rfl | rfl <;> rfl
theorem dfX2 : ∀ j, j < 8 → defaultValue (tyX2 j) = vp_V [.int 0, .null, .null, .null, .null, .null, .null, .int 0] j := by
  intro j hj
  rcases (show j = 0 ∨ j = 1 ∨ j = 2 ∨ j = 3 ∨ j = 4 ∨ j = 5 ∨ j = 6 ∨ j = 7 by omega) with rfl | rfl | rfl | rfl | rfl | rfl | rfl | rfl <;> rfl
