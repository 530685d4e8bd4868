/-! what the reference's methods carry (the costs' table, the array classes), rows for its arrays of arrays, arraycopy and clone -/
abbrev tyMs (cI cZ cQ : ClassId) : List (ClassId × FieldType) := [(cI, .int), (cZ, .boolean), (cQ, .array .int)]
def cst (j : Int) : Int := if j = 0 then 5 else if j = 1 then 2 else if j = 2 then 4 else 6
def mAO (U : State) : Prop := (Cond.arrayOver (.array .int)).before #[] U = true
theorem mAO_m {u U : State} (hvm : u.vm.Alike U.vm) (h : mAO u) : mAO U := by
  obtain ⟨comp, c, k, h1, h2, h3, h4, h5⟩ := arrayOverA_spec h
  obtain ⟨k', hk', he⟩ := hvm.2.2 _ _ h3
  have hi : (U.vm.classes.findIdx? fun (x : Class) => match x.kind with | .array component _ => component == comp | _ => false) = some c := by
    have b1 := va_idx_bare U.vm comp
    have b2 := va_idx_bare u.vm comp
    first | rw [hvm.bare_eq] at b2 | rw [← hvm.bare_eq] at b2
    exact (b1.symm.trans b2).trans h2
  have hkind : k'.kind = .array comp (.array .int) := by rw [he]; exact h4
  have f1 : U.vm.findClass (FieldType.array .int).toString = some comp := by rw [hvm.findClass]; exact h1
  have f2 : U.vm.findClass ("[" ++ (FieldType.array .int).toString) = some c := by rw [hvm.findClass]; exact h5
  unfold mAO Cond.before Cond.holds
  simp only [Cond.value]
  rw [f1, Option.bind_some]
  refine (congrArg (fun o : Option Nat => (o.bind (fun c => (U.vm.classes[c]?).map fun (k : Class) => match k.kind with | .array _ ty => decide (ty = FieldType.array .int) && decide (U.vm.findClass ("[" ++ (FieldType.array .int).toString) = some c) | _ => false) == some true)) hi).trans ?_
  simp [hk', hkind, f2]
def mExA (A : Nat → Prop) (U : State) : Prop := (∃ t : Nat, va_Z "TwinOrchardModel" "COSTS" "[I" (.ref t) A U U.heap ∧ va_T .int t 4 (fun j => .int (iI (cst (j : Int)))) A U U.heap) ∧ mAO U ∧ va_Nw (.castable "[I" "java/lang/Cloneable") U
def mEx (wi : va_W) (U : State) : Prop := mExA (va_A wi U.heap.size) U
theorem mEx_g (wi : va_W) : gEx (mEx wi) := by
  intro a U g mk h
  obtain ⟨⟨t, h1, h2⟩, h3, h4⟩ := h
  exact ⟨⟨t, va_Z.moved (u := U) (U := U.calling g mk a) (Vm.Alike.refl U.vm) h1, va_T.moved (u := U) (U := U.calling g mk a) (Vm.Alike.refl U.vm) h2⟩, mAO_m (u := U) (U := U.calling g mk a) (Vm.Alike.refl U.vm) h3, va_Nw.same (u := U) (U := U.calling g mk a) rfl rfl h4⟩
theorem mExA_w {A B : Nat → Prop} {s U : State} {H : Heap} {locs : List Loc} (h : mExA A s) (hS : va_S A s.heap H locs) (hB : ∀ q, B q → A q) (hU : U.heap = H) (hW : s.WarmedH U.vm) : mExA B U := by
  obtain ⟨⟨t, h1, h2⟩, h3, h4⟩ := h
  have key : ∀ a : Nat, a < s.heap.size → ¬ A a → U.heap[a]? = s.heap[a]? := fun a h8 h9 => by rw [hU]; exact hS.2.1 a h8 h9
  exact ⟨⟨t, ((va_Z.moved hW.alike h1).kept key).narrow hB, ((va_T.moved hW.alike h2).kept key).narrow hB⟩, mAO_m hW.alike h3, va_Nw.warmC hW h4⟩
theorem mEx_w {wi wr : va_W} {A : Nat → Prop} {s U : State} {H : Heap} {locs : List Loc} (h : mExA A s) (hD : va_D A (wi ++ wr)) (hS : va_S A s.heap H locs) (hA : ∀ q, s.heap.size ≤ q → A q) (hU : U.heap = H) (hW : s.WarmedH U.vm) : mEx wi U := by
  subst hU
  exact mExA_w h hS (g_free hD hS hA) rfl hW
/-- as g_start, what is carried said of the cells that the method may change -/
theorem g_startM {l : Launch} {cc : ByteArray} {D : va_G} {tys : List (ClassId × FieldType)} {wi : va_W} {wo : St → va_W} {rv : St → Option Value} {kr : St → Prop} {y : MethodName} {ws0 ws' : List Cond} {rm : Room} {av : List Value} {maxL : Nat} {ret : Option FieldType} (hy : plainName y.cls = true) (hw : ws0 = Cond.code y cc maxL ret :: ws') (hn : (lg_sl av).length ≤ maxL)
    (body : ∀ (p : Program) (e : Env) (s : State) (m : MethodId) (args : Array Value) (below : List Frame) (meth : Method) (c : Code) (A : Nat → Prop) (ls : Array Slot) (H : Heap) (locs : List Loc), CallFix p m c cc maxL s args ws0 y.cls → meth.sig.returnType = ret → meth.locks = false → meth.name = y.name → va_P D vwCl wi H → va_K D vwCl tys s → va_D A wi → (∀ q : Nat, s.heap.size ≤ q → A q) → va_S A s.heap H locs → mExA A s → lv_has ls maxL (lv_args 0 av) →
      W p l e rm s m args below meth c H locs 0 0 (MQ below (gQ D tys wo A rv kr) args s rm.cells rm.slots A) (F0 m 0 ls [])) : gMet l y ws0 rm D tys wi av (mEx wi) rv kr wo := by
  intro sz
  refine Met.ofW (cc := cc) (maxL := maxL) (ret := ret) hy hw ?_
  intro p e s m args below meth c s₁ B hml hv
  obtain ⟨rfl, hsz, hP, hK, hD0, hE⟩ := hv
  subst hsz
  have hl := lv_entry av (n := maxL) hn
  rw [lg_entry_eq]
  exact body p e s m _ below meth c _ _ _ _ ⟨B.exec, B.bytes, hml, findClass_of_methodNamed B.named, atoms_spec (ws := ws0) B.pre⟩ B.returns B.notSynchronized (name_of_methodNamed B.named B.method).1 hP hK hD0.self (fun q h => Or.inr h) va_S.rf hE hl
theorem g_clsI {D : va_G} {cl : List vw_C} {tys : List (ClassId × FieldType)} {s : State} (hK : va_K D cl tys s) (i j : Nat) {c1 c2 : ClassId} (h1 : tys[i]? = some (c1, .int)) (h2 : tys[j]? = some (c2, .int)) : c1 = c2 :=
  Option.some.inj ((hK.2 i _ h1).2.symm.trans (hK.2 j _ h2).2)
theorem g_clsZ {D : va_G} {cl : List vw_C} {tys : List (ClassId × FieldType)} {s : State} (hK : va_K D cl tys s) (i j : Nat) {c1 c2 : ClassId} (h1 : tys[i]? = some (c1, .boolean)) (h2 : tys[j]? = some (c2, .boolean)) : c1 = c2 :=
  Option.some.inj ((hK.2 i _ h1).2.symm.trans (hK.2 j _ h2).2)
theorem g_clsQ {D : va_G} {cl : List vw_C} {tys : List (ClassId × FieldType)} {s : State} (hK : va_K D cl tys s) (i j : Nat) {c1 c2 : ClassId} (h1 : tys[i]? = some (c1, .array .int)) (h2 : tys[j]? = some (c2, .array .int)) : c1 = c2 :=
  Option.some.inj ((hK.2 i _ h1).2.symm.trans (hK.2 j _ h2).2)
def icpy (f g : Int → Int) (sp dp n : Int) : Int → Int := fun j => if dp ≤ j ∧ j < dp + n then f (sp + (j - dp)) else g j
theorem iI_nn {z : Int} (h0 : 0 ≤ z) (h1 : z ≤ 2147483647) : ¬ iI z < 0 ∧ ((iI z).toNatClampNeg : Int) = z := by
  have e1 : (iI z).toInt = z := iI_toInt (by omega) h1
  refine ⟨?_, ?_⟩
  · rw [← iI_0, iI_lt ⟨by omega, by omega⟩ ⟨by omega, by omega⟩]
    omega
  · show (((iI z).toInt.toNat : Nat) : Int) = z
    rw [e1]
    omega
theorem iI_cpy (f g : Int → Int) (sp dp n : Nat) : va_cpy (fun j : Nat => iI (f (j : Int))) (fun j : Nat => iI (g (j : Int))) sp dp n = fun j : Nat => iI (icpy f g (sp : Int) (dp : Int) (n : Int) (j : Int)) := by
  funext j
  unfold va_cpy icpy
  by_cases h : dp ≤ j ∧ j < dp + n
  · have h2 : (dp : Int) ≤ (j : Int) ∧ (j : Int) < (dp : Int) + (n : Int) := by omega
    rw [if_pos h, if_pos h2]
    show iI (f ((sp + (j - dp) : Nat) : Int)) = iI (f ((sp : Int) + ((j : Int) - (dp : Int))))
    rw [show ((sp + (j - dp) : Nat) : Int) = (sp : Int) + ((j : Int) - (dp : Int)) by omega]
  · have h2 : ¬ ((dp : Int) ≤ (j : Int) ∧ (j : Int) < (dp : Int) + (n : Int)) := by omega
    rw [if_neg h, if_neg h2]
section GA
variable {p : Program} {l : Launch} {e : Env} {R : Room} {s : State} {m : MethodId} {args : Array Value} {below : List Frame} {meth : Method} {c : Code} {H : Heap} {locs : List Loc} {cells slots : Nat} {Q : State → Prop}
variable {cc : ByteArray} {pc : Nat} {ls : Array Slot} {rest : List Value} {D : va_G} {cl : List vw_C} {A : Nat → Prop} {a : Nat} {tys : List (ClassId × FieldType)} {ws : va_W} {H0 : Heap}
theorem gi_copyi (hx : p.tables.exec = Jvm.exec) (hb : c.code = cc) (hml : c.maxLocals = ls.size) {own : String} {index : Nat} (hown : s.vm.findClass own = some m.cls) (hlink : (Cond.methodLink own index arraycopyName).before args s = true) (hnat : (Cond.native arraycopyName).before args s = true) (hstat : (Cond.static arraycopyName).before args s = true) (hini : (Cond.initialized "java/lang/System").before args s = true)
    (hK : va_K D cl tys s) (hP : va_P D cl ws H) (hD : va_D A ws) (hS : va_S A H0 H locs) (q0 q1 t0 t1 : Nat) {a0 : Nat} {c0 c1 : ClassId} {n0 n1 : Nat} {f g : Int → Int} (ha0 : ws[q0]? = some (a0, aI c0 n0 f)) (ha1 : ws[q1]? = some (a, aI c1 n1 g)) (ht0 : tys[t0]? = some (c0, .int)) (ht1 : tys[t1]? = some (c1, .int))
    {sp dp n : Int} (h1 : 0 ≤ sp) (h2 : 0 ≤ dp) (h3 : 0 ≤ n) (h4 : sp + n ≤ (n0 : Int)) (h5 : dp + n ≤ (n1 : Int)) (h6 : n0 ≤ 100000 ∧ n1 ≤ 100000)
    (hframes : 1 ≤ R.frames) (hlocals : (rest.map fun v => v.category).sum + (nativeFrameWords "java/lang/System" "arraycopy" 5 + 11) ≤ R.locals) (hdg : decode cc pc = .ok (.invokestatic index, 3))
    (kk : ∀ (H1 : Heap) (locs1 : List Loc), va_P D cl (ws.set q1 (a, aI c1 n1 (icpy f g sp dp n))) H1 → va_D A (ws.set q1 (a, aI c1 n1 (icpy f g sp dp n))) → va_S A H0 H1 locs1 → W p l e R s m args below meth c H1 locs1 cells slots Q (F0 m (pc + 3) ls rest)) : W p l e R s m args below meth c H locs cells slots Q (F0 m pc ls (.int (iI n) :: .int (iI dp) :: .ref a :: .int (iI sp) :: .ref a0 :: rest)) := by
  have e1 := iI_nn h1 (by omega)
  have e2 := iI_nn h2 (by omega)
  have e3 := iI_nn h3 (by omega)
  refine va_copyi hx hb hml hown hlink hnat hstat hini hK hP hD hS q0 q1 t0 t1 (f := fun j : Nat => iI (f (j : Int))) (g := fun j : Nat => iI (g (j : Int))) (n0 := n0) (n1 := n1) (c0 := c0) (c1 := c1) (ty := .int) ha0 ha1 ht0 ht1 rfl e1.1 e2.1 e3.1 (by omega) (by omega) (fun _ _ => rfl) hframes hlocals hdg ?_
  intro H1 locs1 hP1 hD1 hS1
  have ec : va_cpy (fun j : Nat => iI (f (j : Int))) (fun j : Nat => iI (g (j : Int))) (iI sp).toNatClampNeg (iI dp).toNatClampNeg (iI n).toNatClampNeg = fun j : Nat => iI (icpy f g sp dp n (j : Int)) := by
    rw [iI_cpy, e1.2, e2.2, e3.2]
  rw [ec] at hP1 hD1
  exact kk H1 locs1 hP1 hD1 hS1
theorem g_newA (hexec : p.tables.exec = Jvm.exec) (hb : c.code = cc) {own : String} {index : Nat} (hown : s.vm.findClass own = some m.cls) (hclink : (Cond.classLink own index "[I").before args s = true) (hover : mAO s) (hK : va_K D cl tys s) (hP : va_P D cl ws H) (hD : va_D A ws) (hS : va_S A H0 H locs) (hA : ∀ q, H0.size ≤ q → A q)
    (hcells : cells + 1 ≤ R.cells) (hslots : slots + 3 ≤ R.slots) (hdg : decode cc pc = .ok (.anewarray index, 3))
    (kk : ∀ (q : Nat) (cA : ClassId) (H1 : Heap), (∃ (kA : Class) (comp : ClassId), s.vm.classes[cA]? = some kA ∧ kA.kind = .array comp (.array .int) ∧ s.vm.findClass "[I" = some comp) → va_K D cl (tys ++ [(cA, .array .int)]) s → va_P D cl (ws ++ [(q, .inl (cA, 3, .inr (.inr (.inr (.inr (fun _ => none))))))]) H1 → va_D A (ws ++ [(q, .inl (cA, 3, .inr (.inr (.inr (.inr (fun _ => none))))))]) → va_S A H0 H1 locs →
      W p l e R s m args below meth c H1 locs (cells + 1) (slots + 3) Q (F0 m (pc + 3) ls (.ref q :: rest))) : W p l e R s m args below meth c H locs cells slots Q (F0 m pc ls (.int (iI 3) :: rest)) := by
  have eN : (iI 3).toNatClampNeg = 3 := rfl
  have eS : (FieldType.array .int).toString = "[I" := by decide +kernel
  have hcl : (Cond.classLink own index (FieldType.array .int).toString).before args s = true := by rw [eS]; exact hclink
  have hnn : ¬ iI 3 < 0 := by decide
  have hby : (iI 3).toNatClampNeg * 4 ≤ 536870912 := by rw [eN]; exact Nat.le_of_ble_eq_true rfl
  have hsl : slots + (iI 3).toNatClampNeg ≤ R.slots := by rw [eN]; exact hslots
  refine W.anewA (t := .int) (n := iI 3) (rest := rest) (g := F0 m pc ls (.int (iI 3) :: rest)) hexec hb hown hcl hover rfl hdg rfl hnn hby hcells hsl (fun cA kA comp f1 f2 f3 f4 => ?_)
  rw [eS] at f4
  rw [eN]
  generalize hH1 : H.push ({ cls := cA, slots := Array.replicate 3 .null, vm := .none } : Cell) = H1
  have z1 : H1.size = H.size + 1 := by rw [← hH1, Array.size_push]
  have e1 : H1[H.size]? = some (arrV cA 3 (fun _ => .null)) := by rw [← hH1, Array.getElem?_push_size, ← arrV_new]
  have o1 : ∀ q : Nat, q < H.size → H1[q]? = H[q]? := fun q hq => by rw [← hH1, Array.getElem?_push, if_neg (Nat.ne_of_lt hq)]
  have hAr : ArrOfT s cA (.array .int) := fun N z => ⟨(fun k h => by cases h), kA, f2, comp, f3⟩
  have hk : ∀ (k : Nat) (x : Nat × va_E), ws[k]? = some x → H1[x.1]? = H[x.1]? := fun k x hx => o1 x.1 ((hP k x hx).lt)
  refine kk H.size cA H1 ⟨kA, comp, f2, f3, f4⟩ ⟨hK.1, fun k x hx => ?_⟩ ((hP.kept hk).app (fun k x hx => ?_)) (hD.push hP rfl (hA _ hS.1)) ⟨Nat.le_trans hS.1 (by omega), fun x h1 h2 => (o1 x (Nat.lt_of_lt_of_le h1 hS.1)).trans (hS.2.1 x h1 h2), hS.2.2⟩
  · by_cases hl : k < tys.length
    · rw [List.getElem?_append_left hl] at hx
      exact hK.2 k x hx
    · rw [List.getElem?_append_right (by omega)] at hx
      have hz : k - tys.length < 1 := (List.getElem?_eq_some_iff.mp hx).1
      rw [show k - tys.length = 0 by omega] at hx
      cases hx
      exact ⟨hAr, f1⟩
  · have hz : k < 1 := (List.getElem?_eq_some_iff.mp hx).1
    rw [show k = 0 by omega] at hx
    cases hx
    show H1[H.size]? = some (vp_cell _ _)
    exact e1
theorem g_aast (hexec : p.tables.exec = Jvm.exec) (hb : c.code = cc) (hK : va_K D cl tys s) (hP : va_P D cl ws H) (hD : va_D A ws) (hS : va_S A H0 H locs) (q0 qk tk : Nat) {cA cI : ClassId} {v nk : Nat} {fk : Int → Int} {f : Nat → Option Nat} (hQ : ∃ (kA : Class) (comp : ClassId), s.vm.classes[cA]? = some kA ∧ kA.kind = .array comp (.array .int) ∧ s.vm.findClass "[I" = some comp)
    (ha : ws[q0]? = some (a, .inl (cA, 3, .inr (.inr (.inr (.inr f)))))) (hv : ws[qk]? = some (v, aI cI nk fk)) (ht : tys[tk]? = some (cI, .int)) {i : Int} (j : Nat) (hi : i = (j : Int)) (hj : j < 3) (hdg : decode cc pc = .ok (.aastore, 1))
    (kk : ∀ (H1 : Heap) (locs1 : List Loc), va_P D cl (ws.set q0 (a, .inl (cA, 3, .inr (.inr (.inr (.inr (va_up f j (some v)))))))) H1 → va_D A (ws.set q0 (a, .inl (cA, 3, .inr (.inr (.inr (.inr (va_up f j (some v)))))))) → va_S A H0 H1 locs1 → W p l e R s m args below meth c H1 locs1 cells slots Q (F0 m (pc + 1) ls rest)) : W p l e R s m args below meth c H locs cells slots Q (F0 m pc ls (.ref v :: .int (iI i) :: .ref a :: rest)) := by
  obtain ⟨kA, comp, k1, k2, k3⟩ := hQ
  have hcomp : comp = cI := Option.some.inj (k3.symm.trans (va_nm_int (hK.2 tk _ ht).2))
  subst hcomp
  obtain ⟨kC, hkC, -⟩ := Vm.findClass_spec k3
  have e1 := iI_nn (z := i) (by omega) (by omega)
  have e2 : (iI i).toNatClampNeg = j := by omega
  have g1 : H[v]? = some (vp_cell comp (nk, .inl (fun q : Nat => iI (fk (q : Int))))) := hP qk _ hv
  refine W.aast hexec hb (hP q0 _ ha) (fun q h => by cases h) (fun h => by cases h) k1 k2 rfl hkC ⟨e1.1, by show _ < (arrV _ _ _).slots.size; rw [arrV_size, e2]; exact hj⟩ g1 (fun q h => by cases h) hkC (va_asg _ _) rfl rfl hdg fun H1 e z oq => ?_
  rw [e2] at e
  refine kk H1 _ (hP.set hD ha ?_ oq) (hD.set ha) (hS.put z oq (hD.2 q0 _ ha))
  show H1[a]? = some (vp_cell _ _)
  rw [e]
  rw [vp_cell_q, vp_cell_q, arrV_store]
  congr 2
  funext q
  by_cases hq : q = j
  · subst hq
    simp [updV, va_up, va_rf]
  · simp [updV, va_up, hq]
theorem g_aald (hexec : p.tables.exec = Jvm.exec) (hb : c.code = cc) (hK : va_K D cl tys s) (hP : va_P D cl ws H) (q0 t0 : Nat) {cA : ClassId} {f : Nat → Option Nat} (ha : ws[q0]? = some (a, .inl (cA, 3, .inr (.inr (.inr (.inr f)))))) (ht : tys[t0]? = some (cA, .array .int)) {i : Int} (j : Nat) (hi : i = (j : Int)) (hj : j < 3) {v : Nat} (hv : f j = some v) (hdg : decode cc pc = .ok (.aaload, 1))
    (kk : W p l e R s m args below meth c H locs cells slots Q (F0 m (pc + 1) ls (.ref v :: rest))) : W p l e R s m args below meth c H locs cells slots Q (F0 m pc ls (.int (iI i) :: .ref a :: rest)) := by
  have e1 := iI_nn (z := i) (by omega) (by omega)
  have e2 : (iI i).toNatClampNeg = j := by omega
  exact W.aald (v := .ref v) (ty := .array .int) hexec hb (hP q0 _ ha) ((hK.2 t0 _ ht).1 3 (fun j => va_rf (f j))) rfl (fun q => by cases q) (by show ¬ (iI i < 0 ∨ (arrV _ _ _).slots.size ≤ _); rw [arrV_size, e2]; exact fun h => h.elim e1.1 (fun g => by have g3 : 3 ≤ j := g; omega)) (by show (arrV _ _ _).slots[_]? = _; rw [e2, arrV_read _ _ hj, hv]; rfl) rfl rfl hdg kk
end GA
