/-! the law's start: what the statement gives of it -/
abbrev lA (s : State) : Nat → Prop := fun q => s.heap.size ≤ q
abbrev lw_nw : List Cond := flatC (Jvm.Cond.and given_1 narrow_1)
theorem vkR_of {own tx : String} {k : Nat} {A : Array Value} {s : State} (h1 : (Cond.stringRef own k tx).before A s = true) (h2 : (Cond.exactly (.string own k) "java/lang/String").before A s = true) : ∃ a : Nat, vk_R own k tx a s := by
  obtain ⟨a, c, cA, kA, q1, -⟩ := Cond.exactly_spec (args := A) (first := s) (o := none) (s := s) (idx := []) (t := .string own k) (cls := "java/lang/String") h2
  exact ⟨a, vk_R.of h1 q1⟩
theorem st_nest : ∀ w ∈ xNest, w ∈ tables_1 := by decide +kernel
theorem st_str1 : ∀ q ∈ tStr, Cond.stringRef "TwinOrchard" q.1 q.2 ∈ tables_1 := by decide +kernel
theorem st_str2 : ∀ q ∈ tStr, Cond.exactly (.string "TwinOrchard" q.1) "java/lang/String" ∈ lw_nw := by decide +kernel
theorem st_tB : ∀ w ∈ tB eI ++ (tB eA ++ tB eS), w ∈ tables_1 := by decide +kernel
abbrev st_ws : List Cond := [.laysStatic Bundle.tN "UNASSIGNED_STACK" Bundle.steD, .laysStatic Bundle.tN "SUPPRESSED_SENTINEL" Bundle.listD, .initialized Bundle.tN, .arrayOver (.array .int), .arrayOver (.object RX3), .arrayOver (.array (.object RX3)), .arrayClass .int, .arrayClass .boolean, .methodLinkNest RL 11 yX2_init RL, .methodLinkNest RX2 47 yX3_init RL, cl7]
theorem st_w1 : ∀ w ∈ st_ws, w ∈ tables_1 := by decide +kernel
theorem st_w2 : ∀ w ∈ [Cond.isRef (.static Bundle.tN "UNASSIGNED_STACK" Bundle.steD), .isRef (.static Bundle.tN "SUPPRESSED_SENTINEL" Bundle.listD)], w ∈ lw_nw := by decide +kernel
section ST
variable {A : Array Value} {s : State}
theorem st_ao {ty : FieldType} (h : (Cond.arrayOver (.array ty)).before A s = true) : va_AOA ty s := by
  unfold va_AOA
  first
    | exact h
    | (simp only [Cond.before, Cond.holds, Cond.value] at h ⊢; exact h)
theorem st_T (ht : ∀ w ∈ tables_1, w.before A s = true) (hs : ∀ w ∈ lw_nw, w.before A s = true) : tExA (lA s) s := by
  have hA : ∀ a : Nat, a < s.heap.size → ¬ lA s a := fun a h => Nat.not_le.mpr h
  have t1 : ∀ (i : Nat) (w : Cond), st_ws[i]? = some w → w.before A s = true := fun i w h => ht w (st_w1 w (List.mem_of_getElem? h))
  refine ⟨fun w hw => ?_, fun q hq => vkR_of (ht _ (st_str1 q hq)) (hs _ (st_str2 q hq)), fun E w hw hE => ?_, ?_, ?_⟩
  · have h1 := ht w (st_nest w hw)
    have h2 : w.onTables = true := by
      simp only [xNest, List.mem_cons, List.not_mem_nil, or_false] at hw
      rcases hw with rfl | rfl | rfl | rfl | rfl | rfl | rfl | rfl <;> rfl
    exact va_Nw.of h2 h1
  · refine va_Nw.of (tB_t w hw) (ht w (st_tB w ?_))
    rcases hE with rfl | rfl | rfl
    · exact List.mem_append_left _ hw
    · exact List.mem_append_right _ (List.mem_append_left _ hw)
    · exact List.mem_append_right _ (List.mem_append_right _ hw)
  · exact vx_Zqof (t1 0 _ rfl) (t1 2 _ rfl) (hs _ (st_w2 _ (List.mem_of_getElem? (i := 0) rfl))) hA
  · exact vx_Zqof (t1 1 _ rfl) (t1 2 _ rfl) (hs _ (st_w2 _ (List.mem_of_getElem? (i := 1) rfl))) hA
theorem st_t (ht : ∀ w ∈ tables_1, w.before A s = true) (i : Nat) {w : Cond} (h : st_ws[i]? = some w) : w.before A s = true := ht w (st_w1 w (List.mem_of_getElem? h))
theorem st_N (ht : ∀ w ∈ tables_1, w.before A s = true) : nst s :=
  ⟨va_Nw.of (w := .methodLinkNest RL 11 yX2_init RL) rfl (st_t ht 8 rfl), va_Nw.of (w := .methodLinkNest RX2 47 yX3_init RL) rfl (st_t ht 9 rfl), st_ao (ty := .int) (st_t ht 3 rfl), st_ao (ty := .object RX3) (st_t ht 5 rfl), va_Nw.of (w := cl7) rfl (st_t ht 10 rfl)⟩
theorem st_ac {ty : FieldType} (h : (Cond.arrayClass ty).before A s = true) : ∃ cA : ClassId, ArrOfT s cA ty ∧ s.vm.findClass ("[" ++ ty.toString) = some cA := by
  obtain ⟨cA, kA, comp, h1, h2, h3⟩ := Cond.arrayClass_spec h
  exact ⟨cA, fun n z => ⟨(fun k h => by cases h), kA, h2, comp, h3⟩, h1⟩
theorem st_aa {ty : FieldType} (h : (Cond.arrayOver (.array ty)).before A s = true) : ∃ cA : ClassId, ArrOfT s cA (.array ty) ∧ s.vm.findClass ("[" ++ (FieldType.array ty).toString) = some cA := by
  obtain ⟨comp, cQ, kQ, h1, h2, h3, h4, h5⟩ := arrayOverA_spec h
  exact ⟨cQ, fun n z => ⟨(fun k h => by cases h), kQ, h3, comp, h4⟩, h5⟩
theorem st_oo {n : String} (h : (Cond.arrayOver (.object n)).before A s = true) : ∃ cA : ClassId, ArrOfT s cA (.object n) ∧ va_RA s cA (.object n) := by
  obtain ⟨comp, cQ, kQ, h1, -, h3, h4, h5⟩ := Cond.arrayOver_spec h
  exact ⟨cQ, fun n z => ⟨(fun k h => by cases h), kQ, h3, comp, h4⟩, kQ, comp, h3, h4, h1, h5⟩
theorem st_tys (ht : ∀ w ∈ tables_1, w.before A s = true) : ∃ cI cZ cT cU cQ : ClassId, ∀ (k : Nat) (q : ClassId × FieldType), (tyA cI cZ cT cU cQ)[k]? = some q → ArrOfT s q.1 q.2 ∧ va_RA s q.1 q.2 := by
  obtain ⟨cI, i1, i2⟩ := st_ac (ty := .int) (st_t ht 6 rfl)
  obtain ⟨cZ, z1, z2⟩ := st_ac (ty := .boolean) (st_t ht 7 rfl)
  obtain ⟨cT, o1, o2⟩ := st_oo (n := RX3) (st_t ht 4 rfl)
  obtain ⟨cU, u1, u2⟩ := st_aa (ty := .object RX3) (st_t ht 5 rfl)
  obtain ⟨cQ, q1, q2⟩ := st_aa (ty := .int) (st_t ht 3 rfl)
  refine ⟨cI, cZ, cT, cU, cQ, fun k q hq => ?_⟩
  match k, hq with
  | 0, hq => cases hq; exact ⟨i1, i2⟩
  | 1, hq => cases hq; exact ⟨z1, z2⟩
  | 2, hq => cases hq; exact ⟨o1, o2⟩
  | 3, hq => cases hq; exact ⟨u1, u2⟩
  | 4, hq => cases hq; exact ⟨q1, q2⟩
  | k + 5, hq => simp [tyA] at hq
end ST
theorem dfX1 : ∀ j, j < 13 → defaultValue (tyX1 j) = vp_V [.null, .null, .null, .null, .null, .null, .null, .null, .null, .int 0, .int 0, .null, .null] j := by
  intro j hj
  rcases (show j = 0 ∨ j = 1 ∨ j = 2 ∨ j = 3 ∨ j = 4 ∨ j = 5 ∨ j = 6 ∨ j = 7 ∨ j = 8 ∨ j = 9 ∨ j = 10 ∨ j = 11 ∨ j = 12 by omega) with rfl | rfl | rfl | rfl | rfl | rfl | rfl | rfl | rfl | rfl | rfl | rfl | rfl <;> rfl
