/-! base: one shape of contract for all methods: a world goes in, a world comes out -/
/-- what a method's start gives -/
def gU (D : va_G) (tys : List (ClassId × FieldType)) (wi : va_W) (ex : State → Prop) (sz : Nat) : State → Prop := fun U => U.heap.size = sz ∧ va_P D vwCl wi U.heap ∧ va_K D vwCl tys U ∧ va_D (fun _ => True) wi ∧ ex U
/-- what a method's end gives: an answer, a world, both by a number of things κ of which kr is known -/
def gQ (D : va_G) (tys : List (ClassId × FieldType)) (wo : St → va_W) (A : Nat → Prop) (rv : St → Option Value) (kr : St → Prop) : Array Value → State → Outcome → State → Prop := fun _ st oc t =>
  (∃ κ : St, oc = .returned (rv κ) ∧ kr κ ∧ va_P D vwCl (wo κ) t.heap ∧ va_K D vwCl tys t ∧ va_D A (wo κ)) ∧ va_F A st t
def gMet (l : Launch) (y : MethodName) (ws : List Cond) (rm : Room) (D : va_G) (tys : List (ClassId × FieldType)) (wi : va_W) (av : List Value) (ex : State → Prop) (rv : St → Option Value) (kr : St → Prop) (wo : St → va_W) : Prop :=
  ∀ sz : Nat, Met l y ws rm (va_Pc av (gU D tys wi ex sz)) (gQ D tys wo (va_A wi sz) rv kr) rm.cells rm.slots (va_A wi sz)
/-- what is said of a state besides its world may be carried along -/
def gEx (ex : State → Prop) : Prop := (∀ (a : Array Value) (U : State) (g : JFrame) (mk : MethodId), ex U → ex (U.calling g mk a))
theorem gEx_t : gEx (fun _ => True) := fun _ _ _ _ _ => trivial
theorem g_blind {D : va_G} {tys : List (ClassId × FieldType)} {wi : va_W} {av : List Value} {ex : State → Prop} {sz : Nat} (he : gEx ex) : FrameBlind (va_Pc av (gU D tys wi ex sz)) := by
  intro a U g mk q
  obtain ⟨q0, q1, qP, qK, qD, qE⟩ := q
  exact ⟨q0, q1, qP, va_K.moved (u := U) (U := U.calling g mk a) (Vm.Alike.refl U.vm) qK, qD, he a U g mk qE⟩
theorem g_left {D : va_G} {cl : List vw_C} {a b : va_W} {H : Heap} (h : va_P D cl (a ++ b) H) : va_P D cl a H := fun k q hk => h k q (by rw [List.getElem?_append_left (List.getElem?_eq_some_iff.mp hk).1]; exact hk)
theorem g_right {D : va_G} {cl : List vw_C} {a b : va_W} {H : Heap} (h : va_P D cl (a ++ b) H) : va_P D cl b H := fun k q hk => h (a.length + k) q (by rw [List.getElem?_append_right (by omega), Nat.add_sub_cancel_left]; exact hk)
theorem g_Dleft {A : Nat → Prop} {a b : va_W} (h : va_D A (a ++ b)) : va_D A a := by
  have key : ∀ (k : Nat) (q : Nat × va_E), a[k]? = some q → (a ++ b)[k]? = some q := fun k q hk => by rw [List.getElem?_append_left (List.getElem?_eq_some_iff.mp hk).1]; exact hk
  exact ⟨fun i j x y hi hj => h.1 i j x y (key i x hi) (key j y hj), fun k q hk => h.2 k q (key k q hk)⟩
theorem g_Dright {A : Nat → Prop} {a b : va_W} (h : va_D A (a ++ b)) : va_D A b := by
  have key : ∀ (k : Nat) (q : Nat × va_E), b[k]? = some q → (a ++ b)[a.length + k]? = some q := fun k q hk => by rw [List.getElem?_append_right (by omega), Nat.add_sub_cancel_left]; exact hk
  exact ⟨fun i j x y hi hj hxy => by have := h.1 _ _ x y (key i x hi) (key j y hj) hxy; omega, fun k q hk => h.2 _ q (key k q hk)⟩
theorem g_Dapart {A : Nat → Prop} {a b : va_W} (h : va_D A (a ++ b)) {i j : Nat} {x y : Nat × va_E} (hi : a[i]? = some x) (hj : b[j]? = some y) : x.1 ≠ y.1 := by
  intro hxy
  have hl := (List.getElem?_eq_some_iff.mp hi).1
  have := h.1 i (a.length + j) x y (by rw [List.getElem?_append_left hl]; exact hi) (by rw [List.getElem?_append_right (by omega), Nat.add_sub_cancel_left]; exact hj) hxy
  omega
theorem g_swap {D : va_G} {cl : List vw_C} {A : Nat → Prop} {a b : va_W} {H : Heap} (hP : va_P D cl (a ++ b) H) (hD : va_D A (a ++ b)) : va_P D cl (b ++ a) H ∧ va_D A (b ++ a) :=
  ⟨va_P.app (g_right hP) (g_left hP), va_D.app (g_Dright hD) (g_Dleft hD) (fun i j x y hi hj hxy => g_Dapart hD hj hi hxy.symm)⟩
theorem g_free {A0 : Nat → Prop} {wi wr : va_W} {H0 H : Heap} {locs : List Loc} (hD : va_D A0 (wi ++ wr)) (hS : va_S A0 H0 H locs) (hA : ∀ q, H0.size ≤ q → A0 q) : ∀ q, va_A wi H.size q → A0 q := by
  intro q h
  rcases h with ⟨k, e, h⟩ | h
  · exact (g_Dleft hD).2 k (q, e) h
  · exact hA q (Nat.le_trans hS.1 h)
theorem g_join {A0 : Nat → Prop} {D : va_G} {cl : List vw_C} {wi wr w1 : va_W} {H H1 : Heap} (hP : va_P D cl (wi ++ wr) H) (hD : va_D A0 (wi ++ wr))
    (hk : ∀ q : Nat, q < H.size → ¬ va_A wi H.size q → H1[q]? = H[q]?) (hF : ∀ q, va_A wi H.size q → A0 q) (hP1 : va_P D cl w1 H1) (hD1 : va_D (va_A wi H.size) w1) : va_P D cl (w1 ++ wr) H1 ∧ va_D A0 (w1 ++ wr) := by
  have hPr := g_right hP
  have apart : ∀ (k : Nat) (q : Nat × va_E), wr[k]? = some q → q.1 < H.size ∧ ¬ va_A wi H.size q.1 := by
    intro k q hq
    have hl := (hPr k q hq).lt
    refine ⟨hl, fun h => ?_⟩
    rcases h with ⟨k2, e, h⟩ | h
    · exact g_Dapart hD h hq rfl
    · omega
  refine ⟨va_P.app hP1 (fun k q hq => ?_), va_D.app (hD1.weaken (fun k q _ h => hF q.1 h)) (g_Dright hD) (fun i j x y hx hy hxy => ?_)⟩
  · obtain ⟨g1, g2⟩ := apart k q hq
    exact (hPr k q hq).kept (hk q.1 g1 g2)
  · exact (apart j y hy).2 (by rw [← hxy]; exact hD1.2 i x hx)
section GC
variable {p : Program} {l : Launch} {e : Env} {R : Room} {s : State} {m : MethodId} {args : Array Value} {below : List Frame} {meth : Method} {c : Code} {H : Heap} {locs : List Loc} {cells slots : Nat} {Q : State → Prop}
variable {cc : ByteArray} {pc : Nat} {ls : Array Slot} {rest st0 : List Value} {D : va_G} {A0 : Nat → Prop} {tys tys' : List (ClassId × FieldType)} {wi wr : va_W} {H0 : Heap} {wo : St → va_W} {rv : St → Option Value} {kr : St → Prop} {a : Array Value} {mc ms : Nat}
/-- a call of a method with such a contract -/
theorem g_call (hr : va_Run p l e R s m args below meth c H locs cells slots mc ms (F0 m pc ls st0) rest (gQ D tys' wo (va_A wi H.size) rv kr a) (va_A wi H.size)) (hP : va_P D vwCl (wi ++ wr) H) (hD : va_D A0 (wi ++ wr)) (hS : va_S A0 H0 H locs) (hA : ∀ q, H0.size ≤ q → A0 q)
    (kk : ∀ (κ : St) (H1 : Heap) (locs1 : List Loc), kr κ → va_P D vwCl (wo κ ++ wr) H1 → va_D A0 (wo κ ++ wr) → va_S A0 H0 H1 locs1 → W p l e R s m args below meth c H1 locs1 (cells + mc) (slots + ms) Q (F0 m (pc + 3) ls ((rv κ).toList ++ rest))) : W p l e R s m args below meth c H locs cells slots Q (F0 m pc ls st0) := by
  intro T hT X
  obtain ⟨v, st₀, t, T', L, h0, X', hL, e1, e2, ⟨⟨κ, hv, hp, hb, hk2, hd⟩, hz, hk⟩, st⟩ := hr T hT X
  cases hv
  rw [h0] at hz hk
  have hF := g_free hD hS hA
  obtain ⟨hP1, hD1⟩ := g_join (H1 := T'.heap) hP hD (fun q h1 h2 => by rw [e1]; exact hk q h1 h2) hF (by rw [e1]; exact hb) hd
  obtain ⟨t2, a1, b1⟩ := kk κ T'.heap (locs ++ L) hp hP1 hD1
    ⟨Nat.le_trans hS.1 (by rw [e1]; exact hz), fun q h1 h2 => by rw [e1, hk q (Nat.lt_of_lt_of_le h1 hS.1) (fun z => h2 (hF q z))]; exact hS.2.1 q h1 h2, fun q hq => by
      rcases List.mem_append.mp hq with h | h
      · exact hS.2.2 q h
      · exact hF _ (hL q h)⟩ T' rfl X'
  exact ⟨t2, st t2 a1, b1⟩
theorem g_preS {As : List Value} {ex : State → Prop} (he : gEx ex) (hK : va_K D vwCl tys s) (is : List Nat) (hty : is.filterMap (fun i => tys[i]?) = tys') (hP : va_P D vwCl (wi ++ wr) H) (hD : va_D A0 (wi ++ wr)) (hex : ∀ U : State, U.heap = H → s.WarmedH U.vm → ex U) : PreS s H (va_Pc As (gU D tys' wi ex H.size)) As :=
  ⟨g_blind he, fun U hU hW => ⟨rfl, by rw [hU], by rw [hU]; exact g_left hP, va_K.moved hW.alike (hK.sub is hty), (g_Dleft hD).weaken (fun _ _ _ _ => trivial), hex U hU hW⟩⟩
theorem g_preV {As : List Value} {ex : State → Prop} {b q0 ci : Nat} {q : vw_C} {fs : List Value} {C : String} (he : gEx ex) (hK : va_K D vwCl tys s) (is : List Nat) (hty : is.filterMap (fun i => tys[i]?) = tys') (hP : va_P D vwCl (wi ++ wr) H) (hD : va_D A0 (wi ++ wr)) (hex : ∀ U : State, U.heap = H → s.WarmedH U.vm → ex U) (h0 : wi[q0]? = some (b, .inr (ci, fs))) (hc : vwCl[ci]? = some q) (hC : q.1 = C) : PreV s H C b (va_Pc (.ref b :: As) (gU D tys' wi ex H.size)) As :=
  ⟨g_blind he, by rw [← hC]; exact va_recv hK (g_left hP) hc h0, (g_preS (As := .ref b :: As) he hK is hty hP hD hex).2⟩
/-- a method's start -/
theorem g_start {y : MethodName} {ws0 ws' : List Cond} {rm : Room} {av : List Value} {ex : State → Prop} {maxL : Nat} {ret : Option FieldType} (hy : plainName y.cls = true) (hw : ws0 = Cond.code y cc maxL ret :: ws') (hn : (lg_sl av).length ≤ maxL)
    (body : ∀ (p : Program) (e : Env) (s : State) (m : MethodId) (args : Array Value) (below : List Frame) (meth : Method) (c : Code) (A : Nat → Prop) (ls : Array Slot) (H : Heap) (locs : List Loc), CallFix p m c cc maxL s args ws0 y.cls → meth.sig.returnType = ret → meth.locks = false → meth.name = y.name → va_P D vwCl wi H → va_K D vwCl tys s → va_D A wi → (∀ q : Nat, s.heap.size ≤ q → A q) → va_S A s.heap H locs → ex s → lv_has ls maxL (lv_args 0 av) →
      W p l e rm s m args below meth c H locs 0 0 (MQ below (gQ D tys wo A rv kr) args s rm.cells rm.slots A) (F0 m 0 ls [])) : gMet l y ws0 rm D tys wi av ex rv kr wo := by
  intro sz
  refine Met.ofW (cc := cc) (maxL := maxL) (ret := ret) hy hw ?_
  intro p e s m args below meth c s₁ B hml hv
  obtain ⟨rfl, hsz, hP, hK, hD0, hE⟩ := hv
  subst hsz
  have hl := lv_entry av (n := maxL) hn
  rw [lg_entry_eq]
  exact body p e s m _ below meth c _ _ _ _ ⟨B.exec, B.bytes, hml, findClass_of_methodNamed B.named, atoms_spec (ws := ws0) B.pre⟩ B.returns B.notSynchronized (name_of_methodNamed B.named B.method).1 hP hK hD0.self (fun q h => Or.inr h) va_S.rf hE hl
section Ends
variable {A : Nat → Prop}
theorem g_iret (hx : p.tables.exec = Jvm.exec) (hb : c.code = cc) {ty : FieldType} (hr : meth.sig.returnType = some ty) (hlocks : meth.locks = false) (κ : St) {z : Int} (hn : narrow ty (.int (iI z)) = .int (iI z)) (hP : va_P D vwCl (wo κ) H) (hK : va_K D vwCl tys s) (hD : va_D A (wo κ)) (hS : va_S A s.heap H locs) (hk : kr κ) (hv : rv κ = some (.int (iI z))) (hc : cells ≤ mc) (hs : slots ≤ ms) (hdg : decode cc pc = .ok (.ireturn, 1)) :
    W p l e R s m args below meth c H locs cells slots (MQ below (gQ D tys wo A rv kr) args s mc ms A) (F0 m pc ls [.int (iI z)]) := by
  refine W.widen hc hs ?_
  exact W.zret hx hb hr hn (fun t ht hW => ⟨⟨κ, by rw [hv], hk, by rw [ht]; exact hP, va_K.moved hW.alike hK, hD⟩, hS.F ht⟩) hS.2.2 hdg hlocks
theorem g_vret (hx : p.tables.exec = Jvm.exec) (hb : c.code = cc) (hr : meth.sig.returnType = none) (hlocks : meth.locks = false) (κ : St) (hP : va_P D vwCl (wo κ) H) (hK : va_K D vwCl tys s) (hD : va_D A (wo κ)) (hS : va_S A s.heap H locs) (hk : kr κ) (hv : rv κ = none) (hc : cells ≤ mc) (hs : slots ≤ ms) (hdg : decode cc pc = .ok (.return_, 1)) :
    W p l e R s m args below meth c H locs cells slots (MQ below (gQ D tys wo A rv kr) args s mc ms A) (F0 m pc ls []) := by
  refine W.widen hc hs ?_
  exact W.vret hx hb hr (fun t ht hW => ⟨⟨κ, by rw [hv], hk, by rw [ht]; exact hP, va_K.moved hW.alike hK, hD⟩, hS.F ht⟩) hS.2.2 hdg hlocks
theorem g_lret (hx : p.tables.exec = Jvm.exec) (hb : c.code = cc) (hr : meth.sig.returnType = some .long) (hlocks : meth.locks = false) (κ : St) {z : Int64} (hP : va_P D vwCl (wo κ) H) (hK : va_K D vwCl tys s) (hD : va_D A (wo κ)) (hS : va_S A s.heap H locs) (hk : kr κ) (hv : rv κ = some (.long z)) (hc : cells ≤ mc) (hs : slots ≤ ms) (hdg : decode cc pc = .ok (.lreturn, 1)) :
    W p l e R s m args below meth c H locs cells slots (MQ below (gQ D tys wo A rv kr) args s mc ms A) (F0 m pc ls [.long z]) := by
  refine W.widen hc hs ?_
  exact W.lret hx hb hr (fun t ht hW => ⟨⟨κ, by rw [hv], hk, by rw [ht]; exact hP, va_K.moved hW.alike hK, hD⟩, hS.F ht⟩) hS.2.2 hdg hlocks
end Ends
end GC
theorem nar_i (z : Int) : narrow .int (.int (iI z)) = .int (iI z) := rfl
theorem nar_z {z : Int} (h : z = 0 ∨ z = 1) : narrow .boolean (.int (iI z)) = .int (iI z) := by
  rcases h with rfl | rfl <;> rfl
