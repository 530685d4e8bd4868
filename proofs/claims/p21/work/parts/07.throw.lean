/-! methods that may throw: what is carried for a throw, the shape of their contracts -/
def eI : String := "java/lang/IndexOutOfBoundsException"
def eA : String := "java/lang/IllegalArgumentException"
def eS : String := "java/lang/IllegalStateException"
def eNs : List String := ["java/lang/RuntimeException", "java/lang/Exception"]
def tStr : List (Nat × String) := [(67, "no such sort"), (78, "weight or frost borne out of bounds"), (81, "no such year of the table"), (83, "frost out of bounds"), (89, "no such place"), (91, "sort or vigour out of bounds"), (108, "branches out of bounds"), (119, "no such place or question"), (127, "no such sort or question"), (132, "no such question"), (150, "no such row"), (152, "apples out of bounds"), (156, "not so many apples"), (165, "years out of bounds")]
def tB (E : String) : List Cond := [.castable E E, .declares (Bundle.initS "java/lang/RuntimeException"), .declares (Bundle.initS "java/lang/Exception"), .declares (Bundle.initS Bundle.tN)]
def tExA (A : Nat → Prop) (U : State) : Prop := xEx U ∧ (∀ q ∈ tStr, ∃ a : Nat, vk_R "TwinOrchard" q.1 q.2 a U) ∧ (∀ E, ∀ w ∈ tB E, (E = eI ∨ E = eA ∨ E = eS) → va_Nw w U) ∧ vx_Zq Bundle.tN "UNASSIGNED_STACK" Bundle.steD A U U.heap ∧ vx_Zq Bundle.tN "SUPPRESSED_SENTINEL" Bundle.listD A U U.heap
theorem tB_s {E : String} {u U : State} (hv : u.vm = U.vm) {w : Cond} (hw : w ∈ tB E) (h : va_Nw w u) : va_Nw w U := by
  simp only [tB, List.mem_cons, List.not_mem_nil, or_false] at hw
  rcases hw with rfl | rfl | rfl | rfl <;> exact va_Nw.same rfl hv h
theorem tB_w {E : String} {s U : State} (hW : s.WarmedH U.vm) {w : Cond} (hw : w ∈ tB E) (h : va_Nw w s) : va_Nw w U := by
  simp only [tB, List.mem_cons, List.not_mem_nil, or_false] at hw
  rcases hw with rfl | rfl | rfl | rfl
  · exact va_Nw.warmC hW h
  · exact va_Nw.warmD hW h
  · exact va_Nw.warmD hW h
  · exact va_Nw.warmD hW h
theorem tB_t {E : String} : ∀ w ∈ tB E, w.onTables = true := by
  intro w hw
  simp only [tB, List.mem_cons, List.not_mem_nil, or_false] at hw
  rcases hw with rfl | rfl | rfl | rfl <;> rfl
def tEx (wi : va_W) (U : State) : Prop := tExA (va_A wi U.heap.size) U
theorem tEx_g (wi : va_W) : gEx (tEx wi) := by
  intro a U g mk h
  obtain ⟨h1, h2, h3, h6, h7⟩ := h
  exact ⟨xEx_g a U g mk h1, fun q hq => (h2 q hq).elim (fun b hb => ⟨b, vk_R.same (u := U) (U := U.calling g mk a) rfl hb⟩), fun E w hw he => tB_s (u := U) (U := U.calling g mk a) rfl hw (h3 E w hw he), vx_Zq.moved (u := U) (U := U.calling g mk a) (Vm.Alike.refl U.vm) h6, vx_Zq.moved (u := U) (U := U.calling g mk a) (Vm.Alike.refl U.vm) h7⟩
theorem tExA_w {A B : Nat → Prop} {s U : State} {H : Heap} {locs : List Loc} (h : tExA A s) (hS : va_S A s.heap H locs) (hB : ∀ q, B q → A q) (hU : U.heap = H) (hW : s.WarmedH U.vm) : tExA B U := by
  obtain ⟨h1, h2, h3, h6, h7⟩ := h
  have key : ∀ a : Nat, a < s.heap.size → ¬ A a → U.heap[a]? = s.heap[a]? := fun a h8 h9 => by rw [hU]; exact hS.2.1 a h8 h9
  exact ⟨xEx_w hW h1, fun q hq => (h2 q hq).elim (fun b hb => ⟨b, vk_R.warm hW hb⟩), fun E w hw he => tB_w hW hw (h3 E w hw he), ((vx_Zq.moved hW.alike h6).kept key).narrow hB, ((vx_Zq.moved hW.alike h7).kept key).narrow hB⟩
theorem tEx_w {wi wr : va_W} {A : Nat → Prop} {s U : State} {H : Heap} {locs : List Loc} (h : tExA A s) (hD : va_D A (wi ++ wr)) (hS : va_S A s.heap H locs) (hA : ∀ q, s.heap.size ≤ q → A q) (hU : U.heap = H) (hW : s.WarmedH U.vm) : tEx wi U := by
  subst hU
  exact tExA_w h hS (g_free hD hS hA) rfl hW
def gX (D : va_G) (tys : List (ClassId × FieldType)) (wx : va_W) (A : Nat → Prop) (xc : String → Prop) : String → State → State → Prop := fun E st t => xc E ∧ va_P D vwCl wx t.heap ∧ va_K D vwCl tys t ∧ va_D A wx ∧ va_F A st t
def hMet (l : Launch) (y : MethodName) (ws : List Cond) (rm : Room) (D : va_G) (tys : List (ClassId × FieldType)) (wi : va_W) (av : List Value) (rv : St → Option Value) (kr : St → Prop) (wo : St → va_W) (xc : String → Prop) : Prop :=
  ∀ sz : Nat, vx_Met l y ws rm (va_Pc av (gU D tys wi (tEx wi) sz)) (gQ D tys wo (va_A wi sz) rv kr) (gX D tys wi (va_A wi sz) xc) rm.cells rm.slots (va_A wi sz)
theorem h_nI : ∀ w ∈ (vx_atS RX1 69 eI eNs).filter (fun w => !goodWord w), w ∈ tB eI := by decide +kernel
theorem h_nA : ∀ w ∈ (vx_atS RX1 80 eA eNs).filter (fun w => !goodWord w), w ∈ tB eA := by decide +kernel
theorem h_nS : ∀ w ∈ (vx_atS RX1 158 eS eNs).filter (fun w => !goodWord w), w ∈ tB eS := by decide +kernel
theorem h_gI : ∀ w ∈ Cond.classLink RX1 65 eI :: Cond.initialized eI :: vx_atS RX1 69 eI eNs, vx_ot w = true := by decide +kernel
theorem h_gS : ∀ w ∈ Cond.classLink RX1 154 eS :: Cond.initialized eS :: vx_atS RX1 158 eS eNs, vx_ot w = true := by decide +kernel
theorem h_gA : ∀ w ∈ Cond.classLink RX1 76 eA :: Cond.initialized eA :: vx_atS RX1 80 eA eNs, vx_ot w = true := by decide +kernel
section HS
variable {l : Launch} {cc : ByteArray} {D : va_G} {tys : List (ClassId × FieldType)} {wi : va_W} {wo : St → va_W} {rv : St → Option Value} {kr : St → Prop} {xc : String → Prop}
theorem h_start {y : MethodName} {ws0 ws' : List Cond} {rm : Room} {av : List Value} {maxL : Nat} {ret : Option FieldType} (hy : plainName y.cls = true) (hw : ws0 = Cond.code y cc maxL ret :: ws') (hn : (lg_sl av).length ≤ maxL)
    (body : ∀ (p : Program) (e : Env) (s : State) (m : MethodId) (args : Array Value) (below : List Frame) (meth : Method) (c : Code) (A : Nat → Prop) (ls : Array Slot) (H : Heap) (locs : List Loc), CallFix p m c cc maxL s args ws0 y.cls → meth.sig.returnType = ret → meth.locks = false → (∀ x ∈ c.exceptionTable.toList, False) → va_P D vwCl wi H → va_K D vwCl tys s → va_D A wi → (∀ q : Nat, s.heap.size ≤ q → A q) → va_S A s.heap H locs → tExA A s → lv_has ls maxL (lv_args 0 av) →
      W p l e rm s m args below meth c H locs 0 0 (vx_MQ below (gQ D tys wo A rv kr) (gX D tys wi A xc) args s rm.cells rm.slots A) (F0 m 0 ls [])) : hMet l y ws0 rm D tys wi av rv kr wo xc := by
  intro sz
  refine vx_ofW (cc := cc) (maxL := maxL) (ret := ret) hy hw ?_
  intro p e s m args below meth c s₁ B hml ht hv
  obtain ⟨rfl, hsz, hP, hK, hD0, hE⟩ := hv
  subst hsz
  have hl := lv_entry av (n := maxL) hn
  rw [lg_entry_eq]
  exact body p e s m _ below meth c _ _ _ _ ⟨B.exec, B.bytes, hml, findClass_of_methodNamed B.named, atoms_spec (ws := ws0) B.pre⟩ B.returns B.notSynchronized ht hP hK hD0.self (fun q h => Or.inr h) va_S.rf hE hl
end HS
section HT
variable {p : Program} {l : Launch} {e : Env} {R : Room} {s : State} {m : MethodId} {args : Array Value} {below : List Frame} {meth : Method} {c : Code} {H : Heap} {locs : List Loc} {cells slots : Nat}
variable {cc : ByteArray} {pc : Nat} {ls : Array Slot} {rest : List Value} {D : va_G} {A : Nat → Prop} {tys : List (ClassId × FieldType)} {wx : va_W} {xc : String → Prop} {Qc : Array Value → State → Outcome → State → Prop}
/-- new E(text), thrown -/
theorem h_throw {cls text : String} {ik is ic mc ms : Nat} (hx : p.tables.exec = Jvm.exec) (hb : c.code = cc) (hl : l.stackTraces = false) (hown : s.vm.findClass RX1 = some m.cls) (hE : tExA A s) (htx : (is, text) ∈ tStr) (hcls : Bundle.fit cls = true)
    (hk : (Cond.classLink RX1 ik cls).before args s = true) (hini : (Cond.initialized cls).before args s = true) (h3 : cls = eI ∨ cls = eA ∨ cls = eS) (h2 : ∀ w ∈ (vx_atS RX1 ic cls eNs).filter (fun w => !goodWord w), w ∈ tB cls) (h1 : ∀ w ∈ (vx_atS RX1 ic cls eNs).filter goodWord, w.before args s = true) (hgood : ∀ w ∈ Cond.classLink RX1 ik cls :: Cond.initialized cls :: vx_atS RX1 ic cls eNs, vx_ot w = true)
    (hS : va_S A s.heap H locs) (hsize : ls.size = c.maxLocals) (hT : ∀ x ∈ c.exceptionTable.toList, False) (hlocks : meth.locks = false) (hP : va_P D vwCl wx H) (hK : va_K D vwCl tys s) (hD : va_D A wx) (hxc : xc cls)
    (d0 : decode cc pc = .ok (.new ik, 3)) (d3 : decode cc (pc + 3) = .ok (.dup, 1)) (d4 : decode cc (pc + 4) = .ok (.ldc is, 2)) (d6 : decode cc (pc + 6) = .ok (.invokespecial ic, 3)) (d9 : decode cc (pc + 9) = .ok (.athrow, 1))
    (hRf : 5 < R.frames) (hRl : (rest.map fun v => v.category).sum + 82 ≤ R.locals) (hRc : cells + 1 ≤ R.cells) (hRs : slots + 6 ≤ R.slots) (hc : cells + 1 ≤ mc) (hs : slots + 6 ≤ ms) :
    W p l e R s m args below meth c H locs cells slots (vx_MQ below Qc (gX D tys wx A xc) args s mc ms A) (F0 m pc ls rest) := by
  obtain ⟨-, hs1, hB, hU, hN⟩ := hE
  obtain ⟨sa, hstr⟩ := hs1 (is, text) htx
  refine vx_throwS hx hb hl (own := RX1) (cls := cls) (text := text) (names := eNs) (ik := ik) (is := is) (ic := ic) (mc := mc) (ms := ms) (sa := sa) (A := A) hown hcls (by decide +kernel) hk hini hstr (vx_hat h1 h2 (fun w hw => va_Nw.use (tB_t w hw) (hB cls w hw h3))) hgood hU hN hS hsize d0 d3 d4 d6 d9 (fun x hx => (hT x hx).elim) hRf hRl hRc hRs hlocks ?_ hS.2.2 hc hs
  intro t hvm hz hq
  refine ⟨hxc, hP.kept (fun k q hk => hq q.1 ((hP k q hk).lt)), va_K.moved hvm hK, hD, ⟨Nat.le_trans hS.1 hz, fun q h1 h2 => by rw [hq q (Nat.lt_of_lt_of_le h1 hS.1)]; exact hS.2.1 q h1 h2⟩⟩
end HT
