/-! the law's helpers: what they carry, how they start -/
def nCa (U : State) : Prop := va_Nc eA eI U ∧ va_Nc eS eI U ∧ va_Nc eS eA U ∧ va_Nc eI eA U
def lEx (wi : va_W) (U : State) : Prop := tEx wi U ∧ nCa U
theorem nCa_m {u U : State} (hvm : u.vm.Alike U.vm) (h : nCa u) : nCa U := ⟨va_Nc.moved hvm h.1, va_Nc.moved hvm h.2.1, va_Nc.moved hvm h.2.2.1, va_Nc.moved hvm h.2.2.2⟩
theorem lEx_g (wi : va_W) : gEx (lEx wi) := fun a U g mk h => ⟨tEx_g wi a U g mk h.1, nCa_m (u := U) (U := U.calling g mk a) (Vm.Alike.refl U.vm) h.2⟩
theorem g_startH {l : Launch} {cc : ByteArray} {D : va_G} {tys : List (ClassId × FieldType)} {wi : va_W} {wo : St → va_W} {rv : St → Option Value} {kr : St → Prop} {y : MethodName} {ws0 ws' : List Cond} {rm : Room} {av : List Value} {maxL : Nat} {ret : Option FieldType} {hh : List (Nat × Nat × Nat × Nat)} (hy : plainName y.cls = true) (hw : ws0 = Cond.codeWith y cc maxL ret hh :: ws') (hn : (lg_sl av).length ≤ maxL)
    (body : ∀ (p : Program) (e : Env) (s : State) (m : MethodId) (args : Array Value) (below : List Frame) (meth : Method) (c : Code) (A : Nat → Prop) (ls : Array Slot) (H : Heap) (locs : List Loc), CallFix p m c cc maxL s args ws0 y.cls → meth.sig.returnType = ret → meth.locks = false → c.exceptionTable.toList = tableOf hh → va_P D vwCl wi H → va_K D vwCl tys s → va_D A wi → (∀ q : Nat, s.heap.size ≤ q → A q) → va_S A s.heap H locs → tExA A s → nCa s → lv_has ls maxL (lv_args 0 av) →
      W p l e rm s m args below meth c H locs 0 0 (MQ below (gQ D tys wo A rv kr) args s rm.cells rm.slots A) (F0 m 0 ls [])) : gMet l y ws0 rm D tys wi av (lEx wi) rv kr wo := by
  intro sz
  refine MetFree.of_bodyS (code := cc) (maxLocals := maxL) (ret := ret) hy ?_ ?_
  · intro args s m h hn
    obtain ⟨m9, meth, c, hn9, h1, h2, h3, h4, -, h5, h6, -⟩ := Cond.codeWith_spec (atoms_spec (ws := ws0) h _ (by rw [hw]; exact List.mem_cons_self))
    cases hn.symm.trans hn9
    exact ⟨meth, c, h1, h2, h3, h4, h5, h6⟩
  · intro p e s m args below meth c s₁ B hml hP _
    have hh0 : s₁.heap = s.heap := by rw [B.state]; rfl
    have ht := vx_table (x := y) B (atoms_spec (ws := ws0) B.pre (Cond.codeWith y cc maxL ret hh) (by rw [hw]; exact List.mem_cons_self))
    obtain ⟨rfl, hsz, hP, hK, hD0, hE, hE2⟩ := hP
    subst hsz
    have hl := lv_entry av (n := maxL) hn
    have hb := body p e s m _ below meth c (va_A wi s.heap.size) _ s.heap [] ⟨B.exec, B.bytes, hml, findClass_of_methodNamed B.named, atoms_spec (ws := ws0) B.pre⟩ B.returns B.notSynchronized ht hP hK hD0.self (fun q h => Or.inr h) va_S.rf hE hE2 hl
    rw [← lg_entry_eq] at hb
    obtain ⟨t, a1, o, b1, b2, b3⟩ := hb s₁ hh0 (Stand.of_body B)
    exact ⟨t, o, a1, b1, b2, b3⟩
abbrev tyLs (cI cZ cJ : ClassId) : List (ClassId × FieldType) := [(cI, .int), (cZ, .boolean), (cJ, .long)]
def LJ (cJ : ClassId) (g : Nat → Int64) : va_E := .inl (cJ, (1, .inr (.inl g)))
def pk {α : Type} (t : Int) (a b : α) : α := if t = 0 then a else b
theorem pk_y {α : Type} {t : Int} {a b : α} (h : t = 0) : pk t a b = a := if_pos h
theorem pk_n {α : Type} {t : Int} {a b : α} (h : ¬ t = 0) : pk t a b = b := if_neg h
theorem vp0 : vp_in (iI 0) 1 := by
  unfold vp_in
  decide
