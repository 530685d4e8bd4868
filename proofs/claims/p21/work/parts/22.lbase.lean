/-! what the law's own methods carry and how they start; what a number chooses -/
abbrev tyA (cI cZ cT cU cQ : ClassId) : List (ClassId × FieldType) := [(cI, .int), (cZ, .boolean), (cT, .object RX3), (cU, .array (.object RX3)), (cQ, .array .int)]
abbrev cl7 : Cond := .classLink RX2 7 "[[LTwinOrchardLaw$Tree;"
def nst (U : State) : Prop := va_Nw (.methodLinkNest RL 11 yX2_init RL) U ∧ va_Nw (.methodLinkNest RX2 47 yX3_init RL) U ∧ va_AOA .int U ∧ va_AOA (.object RX3) U ∧ va_Nw cl7 U
theorem nst_g : gEx nst := fun a U g mk h => ⟨va_Nw.same (u := U) (U := U.calling g mk a) rfl rfl h.1, va_Nw.same (u := U) (U := U.calling g mk a) rfl rfl h.2.1, va_AOA.moved (u := U) (U := U.calling g mk a) (Vm.Alike.refl U.vm) h.2.2.1, va_AOA.moved (u := U) (U := U.calling g mk a) (Vm.Alike.refl U.vm) h.2.2.2.1, va_Nw.same (u := U) (U := U.calling g mk a) rfl rfl h.2.2.2.2⟩
theorem nst_w {s U : State} (hW : s.WarmedH U.vm) (h : nst s) : nst U := ⟨va_Nw.warmM hW h.1, va_Nw.warmM hW h.2.1, va_AOA.moved hW.alike h.2.2.1, va_AOA.moved hW.alike h.2.2.2.1, word_at hW (Or.inl rfl) h.2.2.2.2⟩
def lEx (wi : va_W) (U : State) : Prop := tEx wi U ∧ nst U
theorem lEx_g (wi : va_W) : gEx (lEx wi) := fun a U g mk h => ⟨tEx_g wi a U g mk h.1, nst_g a U g mk h.2⟩
theorem lEx_w {wi wr : va_W} {A : Nat → Prop} {s U : State} {H : Heap} {locs : List Loc} (h : tExA A s) (hn : nst s) (hD : va_D A (wi ++ wr)) (hS : va_S A s.heap H locs) (hA : ∀ q, s.heap.size ≤ q → A q) (hU : U.heap = H) (hW : s.WarmedH U.vm) : lEx wi U := ⟨tEx_w h hD hS hA hU hW, nst_w hW hn⟩
/-- the script: L ints xs at the cell b, which isn't one of those that may change -/
def scrA (b L : Nat) (xs : Nat → Int32) (A : Nat → Prop) (U : State) : Prop := va_X b L xs U U.heap ∧ b < U.heap.size ∧ ¬ A b
def bEx (b L : Nat) (xs : Nat → Int32) (wi : va_W) (U : State) : Prop := lEx wi U ∧ scrA b L xs (va_A wi U.heap.size) U
def sEx (b L : Nat) (xs : Nat → Int32) (wi : va_W) (U : State) : Prop := scrA b L xs (va_A wi U.heap.size) U
theorem sEx_g (b L : Nat) (xs : Nat → Int32) (wi : va_W) : gEx (sEx b L xs wi) := fun a U g mk h => ⟨va_X.moved (u := U) (U := U.calling g mk a) (Vm.Alike.refl U.vm) h.1, h.2⟩
theorem bEx_g (b L : Nat) (xs : Nat → Int32) (wi : va_W) : gEx (bEx b L xs wi) := fun a U g mk h => ⟨lEx_g wi a U g mk h.1, va_X.moved (u := U) (U := U.calling g mk a) (Vm.Alike.refl U.vm) h.2.1, h.2.2⟩
theorem scr_w {b L : Nat} {xs : Nat → Int32} {A : Nat → Prop} {s U : State} {H : Heap} {locs : List Loc} (h : scrA b L xs A s) (hS : va_S A s.heap H locs) (hU : U.heap = H) (hW : s.WarmedH U.vm) : va_X b L xs U U.heap ∧ b < U.heap.size := by
  obtain ⟨h1, h2, h3⟩ := h
  subst hU
  exact ⟨va_X.moved hW.alike (va_X.kept h1 (hS.2.1 b h2 h3)), Nat.lt_of_lt_of_le h2 hS.1⟩
theorem sEx_w {b L : Nat} {xs : Nat → Int32} {A : Nat → Prop} {s U : State} {H : Heap} {locs : List Loc} (h : scrA b L xs A s) (hS : va_S A s.heap H locs) (hU : U.heap = H) (hW : s.WarmedH U.vm) : sEx b L xs [] U := by
  obtain ⟨c1, c2⟩ := scr_w h hS hU hW
  refine ⟨c1, c2, fun q => ?_⟩
  rcases q with ⟨k, e, q⟩ | q
  · simp at q
  · omega
theorem bEx_w {b L : Nat} {xs : Nat → Int32} {wi wr : va_W} {A : Nat → Prop} {s U : State} {H : Heap} {locs : List Loc} (h : tExA A s) (hn : nst s) (hx : scrA b L xs A s) (hD : va_D A (wi ++ wr)) (hS : va_S A s.heap H locs) (hA : ∀ q, s.heap.size ≤ q → A q) (hU : U.heap = H) (hW : s.WarmedH U.vm) : bEx b L xs wi U := by
  obtain ⟨c1, c2⟩ := scr_w hx hS hU hW
  subst hU
  exact ⟨lEx_w h hn hD hS hA rfl hW, c1, c2, fun q => hx.2.2 (g_free hD hS hA b q)⟩
theorem g_startL {l : Launch} {cc : ByteArray} {D : va_G} {tys : List (ClassId × FieldType)} {wi : va_W} {wo : St → va_W} {rv : St → Option Value} {kr : St → Prop} {y : MethodName} {ws0 ws' : List Cond} {rm : Room} {av : List Value} {maxL : Nat} {ret : Option FieldType} (hy : plainName y.cls = true) (hw : ws0 = Cond.code y cc maxL ret :: ws') (hn : (lg_sl av).length ≤ maxL)
    (body : ∀ (p : Program) (e : Env) (s : State) (m : MethodId) (args : Array Value) (below : List Frame) (meth : Method) (c : Code) (A : Nat → Prop) (ls : Array Slot) (H : Heap) (locs : List Loc), CallFix p m c cc maxL s args ws0 y.cls → meth.sig.returnType = ret → meth.locks = false → va_P D vwCl wi H → va_K D vwCl tys s → va_D A wi → (∀ q : Nat, s.heap.size ≤ q → A q) → va_S A s.heap H locs → tExA A s → nst s → lv_has ls maxL (lv_args 0 av) →
      W p l e rm s m args below meth c H locs 0 0 (MQ below (gQ D tys wo A rv kr) args s rm.cells rm.slots A) (F0 m 0 ls [])) : gMet l y ws0 rm D tys wi av (lEx wi) rv kr wo := by
  intro sz
  refine Met.ofW (cc := cc) (maxL := maxL) (ret := ret) hy hw ?_
  intro p e s m args below meth c s₁ B hml hv
  obtain ⟨rfl, hsz, hP, hK, hD0, hE, hE2⟩ := hv
  subst hsz
  have hl := lv_entry av (n := maxL) hn
  rw [lg_entry_eq]
  exact body p e s m _ below meth c _ _ _ _ ⟨B.exec, B.bytes, hml, findClass_of_methodNamed B.named, atoms_spec (ws := ws0) B.pre⟩ B.returns B.notSynchronized hP hK hD0.self (fun q h => Or.inr h) va_S.rf hE hE2 hl
theorem g_startB {l : Launch} {cc : ByteArray} {b L : Nat} {xs : Nat → Int32} {D : va_G} {tys : List (ClassId × FieldType)} {wi : va_W} {wo : St → va_W} {rv : St → Option Value} {kr : St → Prop} {y : MethodName} {ws0 ws' : List Cond} {rm : Room} {av : List Value} {maxL : Nat} {ret : Option FieldType} (hy : plainName y.cls = true) (hw : ws0 = Cond.code y cc maxL ret :: ws') (hn : (lg_sl av).length ≤ maxL)
    (body : ∀ (p : Program) (e : Env) (s : State) (m : MethodId) (args : Array Value) (below : List Frame) (meth : Method) (c : Code) (A : Nat → Prop) (ls : Array Slot) (H : Heap) (locs : List Loc), CallFix p m c cc maxL s args ws0 y.cls → meth.sig.returnType = ret → meth.locks = false → va_P D vwCl wi H → va_K D vwCl tys s → va_D A wi → (∀ q : Nat, s.heap.size ≤ q → A q) → va_S A s.heap H locs → tExA A s → nst s → scrA b L xs A s → lv_has ls maxL (lv_args 0 av) →
      W p l e rm s m args below meth c H locs 0 0 (MQ below (gQ D tys wo A rv kr) args s rm.cells rm.slots A) (F0 m 0 ls [])) : gMet l y ws0 rm D tys wi av (bEx b L xs wi) rv kr wo := by
  intro sz
  refine Met.ofW (cc := cc) (maxL := maxL) (ret := ret) hy hw ?_
  intro p e s m args below meth c s₁ B hml hv
  obtain ⟨rfl, hsz, hP, hK, hD0, ⟨hE, hE2⟩, hE3⟩ := hv
  subst hsz
  have hl := lv_entry av (n := maxL) hn
  rw [lg_entry_eq]
  exact body p e s m _ below meth c _ _ _ _ ⟨B.exec, B.bytes, hml, findClass_of_methodNamed B.named, atoms_spec (ws := ws0) B.pre⟩ B.returns B.notSynchronized hP hK hD0.self (fun q h => Or.inr h) va_S.rf hE hE2 hE3 hl
theorem g_startC {l : Launch} {cc : ByteArray} {b L : Nat} {xs : Nat → Int32} {D : va_G} {tys : List (ClassId × FieldType)} {wi : va_W} {wo : St → va_W} {rv : St → Option Value} {kr : St → Prop} {y : MethodName} {ws0 ws' : List Cond} {rm : Room} {av : List Value} {maxL : Nat} {ret : Option FieldType} (hy : plainName y.cls = true) (hw : ws0 = Cond.code y cc maxL ret :: ws') (hn : (lg_sl av).length ≤ maxL)
    (body : ∀ (p : Program) (e : Env) (s : State) (m : MethodId) (args : Array Value) (below : List Frame) (meth : Method) (c : Code) (A : Nat → Prop) (ls : Array Slot) (H : Heap) (locs : List Loc), CallFix p m c cc maxL s args ws0 y.cls → meth.sig.returnType = ret → meth.locks = false → va_P D vwCl wi H → va_K D vwCl tys s → va_D A wi → (∀ q : Nat, s.heap.size ≤ q → A q) → va_S A s.heap H locs → scrA b L xs A s → lv_has ls maxL (lv_args 0 av) →
      W p l e rm s m args below meth c H locs 0 0 (MQ below (gQ D tys wo A rv kr) args s rm.cells rm.slots A) (F0 m 0 ls [])) : gMet l y ws0 rm D tys wi av (sEx b L xs wi) rv kr wo := by
  intro sz
  refine Met.ofW (cc := cc) (maxL := maxL) (ret := ret) hy hw ?_
  intro p e s m args below meth c s₁ B hml hv
  obtain ⟨rfl, hsz, hP, hK, hD0, hE⟩ := hv
  subst hsz
  have hl := lv_entry av (n := maxL) hn
  rw [lg_entry_eq]
  exact body p e s m _ below meth c _ _ _ _ ⟨B.exec, B.bytes, hml, findClass_of_methodNamed B.named, atoms_spec (ws := ws0) B.pre⟩ B.returns B.notSynchronized hP hK hD0.self (fun q h => Or.inr h) va_S.rf hE hl
/-- the words of a number -/
def ian (v w : Int) : Int := ((iI v) &&& (iI w)).toInt
def shr (v w : Int) : Int := ((iI v) >>> ((iI w) &&& 31)).toInt
def blw (v n : Int) : Int := ian v 2147483647 % n
theorem ian_nn (v : Int) : 0 ≤ ian v 2147483647 ∧ ian v 2147483647 ≤ 2147483647 := by
  have key : ((iI v) &&& (iI 2147483647)).toBitVec.msb = false := by
    rw [Int32.toBitVec_and, BitVec.msb_and]
    have : (iI 2147483647).toBitVec.msb = false := by decide
    rw [this, Bool.and_false]
  refine ⟨?_, iI_hi _⟩
  show (0 : Int) ≤ ((iI v) &&& (iI 2147483647)).toBitVec.toInt
  exact BitVec.toInt_nonneg_of_msb_false key
theorem blw_in (v : Int) {n : Int} (h : 0 < n) : 0 ≤ blw v n ∧ blw v n < n := ⟨Int.emod_nonneg _ (by omega), Int.emod_lt_of_pos _ h⟩
/-- a number out of the script, or one made up behind its end -/
def cel (L : Nat) (xs : Nat → Int32) (k : Int) : Int := if k < (L : Int) then (xs k.toNat).toInt else 790386105 * (k + 3)
section LBR
variable {p : Program} {l : Launch} {e : Env} {R : Room} {s : State} {m : MethodId} {args : Array Value} {below : List Frame} {meth : Method} {c : Code} {H : Heap} {locs : List Loc} {cells slots : Nat} {Q : State → Prop}
variable {cc : ByteArray} {pc : Nat} {ls : Array Slot} {rest : List Value}
theorem gi_and (hx : p.tables.exec = Jvm.exec) (hb : c.code = cc) {x y : Int} (hdg : decode cc pc = .ok (.iand, 1))
    (k : W p l e R s m args below meth c H locs cells slots Q (F0 m (pc + 1) ls (.int (iI (ian x y)) :: rest))) : W p l e R s m args below meth c H locs cells slots Q (F0 m pc ls (.int (iI y) :: .int (iI x) :: rest)) := lv_iand hx hb hdg (by
  have e : iI (ian x y) = (iI x) &&& (iI y) := (iI_of _).symm
  rw [← e]; exact k)
theorem gi_shr (hx : p.tables.exec = Jvm.exec) (hb : c.code = cc) {x y : Int} (hdg : decode cc pc = .ok (.ishr, 1))
    (k : W p l e R s m args below meth c H locs cells slots Q (F0 m (pc + 1) ls (.int (iI (shr x y)) :: rest))) : W p l e R s m args below meth c H locs cells slots Q (F0 m pc ls (.int (iI y) :: .int (iI x) :: rest)) := lv_ishr hx hb hdg (by
  have e : iI (shr x y) = (iI x) >>> ((iI y) &&& 31) := (iI_of _).symm
  rw [← e]; exact k)
theorem g_oret {D : va_G} {tys : List (ClassId × FieldType)} {wo : St → va_W} {rv : St → Option Value} {kr : St → Prop} {mc ms : Nat} {A : Nat → Prop} {C : String} (hx : p.tables.exec = Jvm.exec) (hb : c.code = cc) (hr : meth.sig.returnType = some (.object C)) (hlocks : meth.locks = false) (κ : St) {z : Nat} (hP : va_P D vwCl (wo κ) H) (hK : va_K D vwCl tys s) (hD : va_D A (wo κ)) (hS : va_S A s.heap H locs) (hk : kr κ) (hv : rv κ = some (.ref z)) (hc : cells ≤ mc) (hs : slots ≤ ms) (hdg : decode cc pc = .ok (.areturn, 1)) :
    W p l e R s m args below meth c H locs cells slots (MQ below (gQ D tys wo A rv kr) args s mc ms A) (F0 m pc ls [.ref z]) := by
  refine W.widen hc hs ?_
  exact W.aret hx hb hr (Or.inl ⟨_, rfl⟩) (Or.inr ⟨_, rfl⟩) (fun t ht hW => ⟨⟨κ, by rw [hv], hk, by rw [ht]; exact hP, va_K.moved hW.alike hK, hD⟩, hS.F ht⟩) hS.2.2 hdg hlocks
theorem g_aret {D : va_G} {tys : List (ClassId × FieldType)} {wo : St → va_W} {rv : St → Option Value} {kr : St → Prop} {mc ms : Nat} {A : Nat → Prop} {t0 : FieldType} (hx : p.tables.exec = Jvm.exec) (hb : c.code = cc) (hr : meth.sig.returnType = some (.array t0)) (hlocks : meth.locks = false) (κ : St) {z : Nat} (hP : va_P D vwCl (wo κ) H) (hK : va_K D vwCl tys s) (hD : va_D A (wo κ)) (hS : va_S A s.heap H locs) (hk : kr κ) (hv : rv κ = some (.ref z)) (hc : cells ≤ mc) (hs : slots ≤ ms) (hdg : decode cc pc = .ok (.areturn, 1)) :
    W p l e R s m args below meth c H locs cells slots (MQ below (gQ D tys wo A rv kr) args s mc ms A) (F0 m pc ls [.ref z]) := by
  refine W.widen hc hs ?_
  exact W.aret hx hb hr (Or.inr ⟨_, rfl⟩) (Or.inr ⟨_, rfl⟩) (fun t ht hW => ⟨⟨κ, by rw [hv], hk, by rw [ht]; exact hP, va_K.moved hW.alike hK, hD⟩, hS.F ht⟩) hS.2.2 hdg hlocks
/-- a row of a world may be said otherwise outside its places -/
theorem g_row {D : va_G} {cl : List vw_C} {ws : va_W} {H : Heap} {A : Nat → Prop} (q0 : Nat) {a : Nat} {cI : ClassId} {n : Nat} {f g : Int → Int} (h0 : ws[q0]? = some (a, aI cI n f)) (hfg : ∀ j : Int, 0 ≤ j → j < (n : Int) → f j = g j) (hP : va_P D cl ws H) (hD : va_D A ws) : va_P D cl (ws.set q0 (a, aI cI n g)) H ∧ va_D A (ws.set q0 (a, aI cI n g)) :=
  ⟨hP.set hD h0 (aI_congr cI hfg D cl a H (hP q0 _ h0)) (fun _ _ => rfl), hD.set h0⟩
end LBR
theorem set_same {ws : va_W} {q0 : Nat} {x : Nat × va_E} (h : ws[q0]? = some x) : ws.set q0 x = ws := by
  apply List.ext_getElem?
  intro j
  by_cases hj : j = q0
  · subst hj
    rw [List.getElem?_set_self (List.getElem?_eq_some_iff.mp h).1, h]
  · rw [List.getElem?_set_ne (Ne.symm hj)]
