/-! ===== BEGIN words of one list among another's, by their places ===== -/
theorem goodIn_r {big : List Cond} (ws : List Cond) (ps : List Nat) (hp : ws = ps.filterMap (fun i => big[i]?)) (h : ws.all goodWord = true) : GoodIn big ws := by
  intro w hw
  have h1 := List.all_eq_true.mp h w hw
  rw [hp] at hw
  obtain ⟨i, -, hi⟩ := List.mem_filterMap.mp hw
  have hm : w ∈ big := by first | exact List.mem_of_getElem? hi | exact List.getElem?_mem hi
  exact ⟨hm, good_of_word h1⟩
theorem goodIn_app {big a b : List Cond} (ha : GoodIn big a) (hb : GoodIn big b) : GoodIn big (a ++ b) := fun w h => (List.mem_append.mp h).elim (ha w) (hb w)
theorem goodIn_ca {big a b : List Cond} {c : Cond} (ha : GoodIn big (c :: a)) (hb : GoodIn big b) : GoodIn big (c :: (a ++ b)) := fun w h => (List.mem_cons.mp h).elim (fun e => ha w (List.mem_cons.mpr (Or.inl e))) (fun h => (List.mem_append.mp h).elim (fun h => ha w (List.mem_cons.mpr (Or.inr h))) (hb w))
theorem goodIn_sub {big ws : List Cond} (hm : ∀ w ∈ ws, w ∈ big) (h : ws.all goodWord = true) : GoodIn big ws := fun w hw => ⟨hm w hw, good_of_word (List.all_eq_true.mp h w hw)⟩
/-! ===== END ===== -/

/-! ===== BEGIN new T[n][m]: the outer array a place, the inner ones among the pooled ===== -/
/-- f, but v at every address of l -/
def vr_up {α : Type} (f : Nat → α) (l : List Nat) (v : α) : Nat → α := fun a => if a ∈ l then v else f a
theorem vr_up_in {α : Type} {f : Nat → α} {l : List Nat} {v : α} {a : Nat} (h : a ∈ l) : vr_up f l v a = v := if_pos h
theorem vr_up_ne {α : Type} {f : Nat → α} {l : List Nat} {v : α} {a : Nat} (h : a ∉ l) : vr_up f l v a = f a := if_neg h
theorem vr_rows {L l : List Nat} {f : Nat → va_E} {e : va_E} (h : ∀ a, a ∈ l → a ∉ L) : va_pl L f ++ l.map (fun a => (a, e)) = va_pl (L ++ l) (vr_up f l e) := by
  unfold va_pl
  rw [List.map_append]
  congr 1
  · apply List.map_congr_left
    intro a ha
    rw [vr_up_ne (fun q => h a q ha)]
  · apply List.map_congr_left
    intro a ha
    rw [vr_up_in ha]
theorem vr_lay {X rows : va_W} {x : Nat × va_E} {pl : va_W} {D : va_G} {cl : List vw_C} {H : Heap} (hP : va_P D cl (((X ++ pl) ++ [x]) ++ rows) H) : va_P D cl ((X ++ [x]) ++ (pl ++ rows)) H := by
  rw [List.append_assoc (X ++ pl)] at hP
  have h := va_P.swap hP
  rw [← List.append_assoc X] at h
  have h2 := va_P.swap h
  rw [List.append_assoc (X ++ [x])] at h2
  exact h2
theorem vr_layD {X rows : va_W} {x : Nat × va_E} {pl : va_W} {A : Nat → Prop} (hD : va_D A (((X ++ pl) ++ [x]) ++ rows)) : va_D A ((X ++ [x]) ++ (pl ++ rows)) := by
  rw [List.append_assoc (X ++ pl)] at hD
  have h := va_D.swap hD
  rw [← List.append_assoc X] at h
  have h2 := va_D.swap h
  rw [List.append_assoc (X ++ [x])] at h2
  exact h2
theorem vr_outer (c : ClassId) (N h0 : Nat) : ∀ i : Nat, Jvm.Free.Multi.outerC c N h0 i = arrV c N (fun j => va_rf (if j < i then some (h0 + 1 + j) else none))
  | 0 => by
    show ({ cls := c, slots := Array.replicate N .null, vm := .none } : Cell) = _
    rw [arrV_new]
    refine congrArg (arrV c N) (funext fun j => ?_)
    simp [va_rf]
  | i + 1 => by
    show (Jvm.Free.Multi.outerC c N h0 i).setSlot i (.ref (h0 + 1 + i)) = _
    rw [vr_outer c N h0 i, arrV_store]
    refine congrArg (arrV c N) (funext fun j => ?_)
    by_cases e : j = i
    · subst e
      simp [updV, va_rf]
    · by_cases h : j < i
      · simp [updV, e, h, Nat.lt_succ_of_lt h]
      · simp [updV, e, h, show ¬ j < i + 1 by omega]
section VGM
variable {p : Program} {l : Launch} {e : Env} {R : Room} {s : State} {m : MethodId} {args : Array Value} {below : List Frame} {meth : Method} {c : Code} {H : Heap} {locs : List Loc} {cells slots : Nat} {Q : State → Prop}
variable {cc : ByteArray} {pc : Nat} {ls : Array Slot} {rest : List Value} {D : va_G} {cl : List vw_C} {A : Nat → Prop} {a : Nat} {tys : List (ClassId × FieldType)} {ws : va_W} {H0 : Heap}
theorem va_mna {X : va_W} {L : List Nat} {f : Nat → va_E} {cc : ByteArray} (hexec : p.tables.exec = Jvm.exec) (hb : c.code = cc) {own : String} {index : Nat} {ty : FieldType} {cy : ClassId} (hown : s.vm.findClass own = some m.cls) (hclink : (Cond.classLink own index ("[" ++ (FieldType.array ty).toString)).before args s = true) (hover : va_AOA ty s) (harr : (Cond.arrayClass ty).before args s = true) (hcy : s.vm.findClass (FieldType.array ty).toString = some cy)
    (hK : va_K D cl tys s) (hP : va_P D cl (X ++ va_pl L f) H) (hD : va_D A (X ++ va_pl L f)) (hS : va_S A H0 H locs) (hA : ∀ q, H0.size ≤ q → A q) {n k : Int32} {N' K' : Nat} {z : vp_A} (hn : ¬ n < 0) (hk : ¬ k < 0) (hN : n.toNatClampNeg = N') (hM : k.toNatClampNeg = K')
    (hb1 : N' * 4 ≤ 536870912) (hb2 : K' * componentBytes ty ≤ 536870912) (hb3 : K' ≤ 536870912) (hdf : fits ty (defaultValue ty) = true) (hdd : (defaultValue ty).isDefault = true) (hcells : cells + (1 + N') ≤ R.cells) (hslots : slots + (N' + N' * K') ≤ R.slots) (hz : ∀ c : ClassId, Jvm.Free.Multi.innerC c K' (defaultValue ty) = vp_cell c z) (hdg : decode cc pc = .ok (.multianewarray index 2, 4))
    (kk : ∀ (q : Nat) (r : Nat → Nat) (cA : ClassId) (H1 : Heap), (∀ i j : Nat, i < N' → j < N' → r i = r j → i = j) → (∀ i : Nat, i < N' → r i ∉ L) → va_K D cl (tys ++ [(cA, .array ty)]) s →
      va_P D cl ((X ++ [(q, .inl (cA, N', .inr (.inr (.inr (.inr (fun i => if i < N' then some (r i) else none))))))]) ++ va_pl (L ++ (List.range N').map r) (vr_up f ((List.range N').map r) (.inl (cy, z)))) H1 → va_D A ((X ++ [(q, .inl (cA, N', .inr (.inr (.inr (.inr (fun i => if i < N' then some (r i) else none))))))]) ++ va_pl (L ++ (List.range N').map r) (vr_up f ((List.range N').map r) (.inl (cy, z)))) → va_S A H0 H1 locs →
      W p l e R s m args below meth c H1 locs (cells + 1 + N') (slots + N' + N' * K') Q (F0 m (pc + 4) ls (.ref q :: rest))) : W p l e R s m args below meth c H locs cells slots Q (F0 m pc ls (.int k :: .int n :: rest)) := by
  subst hN
  subst hM
  intro T hT Xs
  obtain ⟨vm₁, cA, comp, -, fA, fC, hO, -, X', step⟩ := Xs.multianewarray2F hexec hown hclink (va_AOA.use hover) harr (g := F0 m pc ls (.int k :: .int n :: rest)) rfl (by rw [hb]; exact hdg) rfl hn hk hb1 hb2 hb3 hdf hdd hcells hslots
  have ec : some cy = some comp := hcy.symm.trans fC
  cases ec
  generalize hF : Jvm.Free.Multi.fill (T.setVm vm₁) cA cy n.toNatClampNeg k.toNatClampNeg (defaultValue ty) n.toNatClampNeg = F at X' step
  have hTh : (T.setVm vm₁).heap = H := hT
  obtain ⟨f1, f2, -, -⟩ := Jvm.Free.Multi.fill_facts (T.setVm vm₁) cA cy n.toNatClampNeg k.toNatClampNeg (defaultValue ty) n.toNatClampNeg
  rw [hF, hTh] at f1 f2
  have hold : ∀ x : Nat, x < H.size → F.heap[x]? = H[x]? := fun x hx => by
    have := Jvm.Free.Multi.fill_old (T.setVm vm₁) cA cy n.toNatClampNeg k.toNatClampNeg (defaultValue ty) (a := x) (by rw [hTh]; exact hx) n.toNatClampNeg
    rw [hF, hTh] at this
    exact this
  have hrow : ∀ j : Nat, j < n.toNatClampNeg → F.heap[H.size + 1 + j]? = some (vp_cell cy z) := fun j hj => by
    have := Jvm.Free.Multi.fill_inner (T.setVm vm₁) cA cy n.toNatClampNeg k.toNatClampNeg (defaultValue ty) n.toNatClampNeg j hj
    rw [hF, hTh, hz] at this
    exact this
  have hout : Jvm.Free.Multi.outerC cA n.toNatClampNeg H.size n.toNatClampNeg = vp_cell cA (n.toNatClampNeg, .inr (.inr (.inr (.inr (fun i => if i < n.toNatClampNeg then some (H.size + 1 + i) else none))))) := by
    rw [vp_cell_q]
    exact vr_outer cA n.toNatClampNeg H.size n.toNatClampNeg
  rw [hout] at f2
  have hlt : ∀ a, a ∈ L → a < H.size := fun a ha => by
    obtain ⟨k9, hk9⟩ := va_pl_get (X := X) (f := f) ha
    exact (hP k9 _ hk9).lt
  have hnl : ∀ i : Nat, i < n.toNatClampNeg → H.size + 1 + i ∉ L := fun i _ h => by
    have := hlt _ h
    omega
  have hnm : ∀ a, a ∈ (List.range n.toNatClampNeg).map (fun i => H.size + 1 + i) → a ∉ L := fun a ha h => by
    obtain ⟨i, -, rfl⟩ := List.mem_map.mp ha
    have := hlt _ h
    omega
  have hP0 : va_P D cl (X ++ va_pl L f) F.heap := hP.kept (fun k9 x hx => hold x.1 ((hP k9 x hx).lt))
  have hP1 : va_P D cl ((X ++ va_pl L f) ++ [(H.size, .inl (cA, n.toNatClampNeg, .inr (.inr (.inr (.inr (fun i => if i < n.toNatClampNeg then some (H.size + 1 + i) else none))))))]) F.heap := hP0.app (fun k9 x hx => by
    have h0 : k9 < 1 := (List.getElem?_eq_some_iff.mp hx).1
    rw [show k9 = 0 by omega] at hx
    cases hx
    exact f2)
  have hP2 : va_P D cl (((X ++ va_pl L f) ++ [(H.size, .inl (cA, n.toNatClampNeg, .inr (.inr (.inr (.inr (fun i => if i < n.toNatClampNeg then some (H.size + 1 + i) else none))))))]) ++ ((List.range n.toNatClampNeg).map (fun i => H.size + 1 + i)).map (fun a => (a, .inl (cy, z)))) F.heap := hP1.app (fun k9 x hx => by
    obtain ⟨a, ha, rfl⟩ := List.mem_map.mp (List.mem_of_getElem? hx)
    obtain ⟨i, hi, rfl⟩ := List.mem_map.mp ha
    exact hrow i (List.mem_range.mp hi))
  have hD2 : va_D A (((X ++ va_pl L f) ++ [(H.size, .inl (cA, n.toNatClampNeg, .inr (.inr (.inr (.inr (fun i => if i < n.toNatClampNeg then some (H.size + 1 + i) else none))))))]) ++ ((List.range n.toNatClampNeg).map (fun i => H.size + 1 + i)).map (fun a => (a, .inl (cy, z)))) := by
    have hD1 := hD.push (e := .inl (cA, n.toNatClampNeg, .inr (.inr (.inr (.inr (fun i => if i < n.toNatClampNeg then some (H.size + 1 + i) else none)))))) hP rfl (hA _ hS.1)
    generalize hW1 : (X ++ va_pl L f) ++ [(H.size, .inl (cA, n.toNatClampNeg, .inr (.inr (.inr (.inr (fun i => if i < n.toNatClampNeg then some (H.size + 1 + i) else none))))))] = W1 at hD1 hP1 ⊢
    have hle : ∀ (k9 : Nat) (x : Nat × va_E), W1[k9]? = some x → x.1 ≤ H.size := fun k9 x hx => by
      rw [← hW1] at hx
      by_cases hl : k9 < (X ++ va_pl L f).length
      · rw [List.getElem?_append_left hl] at hx
        exact Nat.le_of_lt ((hP k9 x hx).lt)
      · rw [List.getElem?_append_right (by omega)] at hx
        have h0 : k9 - (X ++ va_pl L f).length < 1 := (List.getElem?_eq_some_iff.mp hx).1
        rw [show k9 - (X ++ va_pl L f).length = 0 by omega] at hx
        cases hx
        exact Nat.le_refl _
    have hr : ∀ (k9 : Nat) (x : Nat × va_E), (((List.range n.toNatClampNeg).map (fun i => H.size + 1 + i)).map (fun a => ((a, .inl (cy, z)) : Nat × va_E)))[k9]? = some x → x.1 = H.size + 1 + k9 := fun k9 x hx => by
      rw [List.getElem?_map, List.getElem?_map] at hx
      by_cases h9 : k9 < n.toNatClampNeg
      · rw [List.getElem?_range h9] at hx
        cases hx
        rfl
      · have hn0 : (List.range n.toNatClampNeg)[k9]? = none := List.getElem?_eq_none (by rw [List.length_range]; omega)
        rw [hn0] at hx
        cases hx
    refine ⟨fun i j x y hi hj hxy => ?_, fun k9 x hx => ?_⟩
    · by_cases h1 : i < W1.length <;> by_cases h2 : j < W1.length
      · rw [List.getElem?_append_left h1] at hi
        rw [List.getElem?_append_left h2] at hj
        exact hD1.1 i j x y hi hj hxy
      · rw [List.getElem?_append_left h1] at hi
        rw [List.getElem?_append_right (by omega)] at hj
        have := hle _ _ hi
        have := hr _ _ hj
        omega
      · rw [List.getElem?_append_right (by omega)] at hi
        rw [List.getElem?_append_left h2] at hj
        have := hle _ _ hj
        have := hr _ _ hi
        omega
      · rw [List.getElem?_append_right (by omega)] at hi hj
        have := hr _ _ hi
        have := hr _ _ hj
        omega
    · by_cases h1 : k9 < W1.length
      · rw [List.getElem?_append_left h1] at hx
        exact hD1.2 k9 x hx
      · rw [List.getElem?_append_right (by omega)] at hx
        have := hr _ _ hx
        exact hA _ (by have := hS.1; omega)
  have hAr : ArrOfT s cA (.array ty) := fun N9 z9 => by
    obtain ⟨-, k9, hk9, cm9, hkk9⟩ := (hO 0 0 0).1
    exact ⟨(fun q hq => by cases hq), k9, hk9, cm9, hkk9⟩
  have hK2 : va_K D cl (tys ++ [(cA, .array ty)]) s := ⟨hK.1, fun k9 x hx => by
    by_cases hl : k9 < tys.length
    · rw [List.getElem?_append_left hl] at hx
      exact hK.2 k9 x hx
    · rw [List.getElem?_append_right (by omega)] at hx
      have h0 : k9 - tys.length < 1 := (List.getElem?_eq_some_iff.mp hx).1
      rw [show k9 - tys.length = 0 by omega] at hx
      cases hx
      exact ⟨hAr, fA⟩⟩
  obtain ⟨t, a1, b1⟩ := kk H.size (fun i => H.size + 1 + i) cA F.heap (fun i j _ _ h => by have h9 : H.size + 1 + i = H.size + 1 + j := h; omega) hnl hK2 (by rw [← vr_rows hnm]; exact vr_lay hP2) (by rw [← vr_rows hnm]; exact vr_layD hD2) ⟨by rw [f1]; have := hS.1; omega, fun x h1 h2 => (hold x (Nat.lt_of_lt_of_le h1 hS.1)).trans (hS.2.1 x h1 h2), hS.2.2⟩ F rfl X'
  refine ⟨t, step t ?_, b1⟩
  have e : T.heap.size = H.size := by rw [hT]
  rw [e]
  exact a1
end VGM
/-! ===== END ===== -/

/-! ===== BEGIN exceptions that leave a method, and their catching by the caller (launches without stack traces) ===== -/
section VXA
/-! The laws vx_back, vx_callV, vx_callS, vx_callSW, vx_throw0, vx_throwS follow proofs of the library, with one case more: JvmDerived/Free/Laws.lean (Back.of_free), Shelf42/LK1.lean (callV, callS), Shelf/KitTraced.lean (throwNew0V, throwNewS). -/
/-- where a method has thrown q: the class by its name, the cell, what was written, the world -/
def vx_T (XC : String → State → State → Prop) (st : State) (q : Addr) (t : State) (mc ms : Nat) (free : Addr → Prop) : Prop :=
  ∃ (E : String) (ce : Cell) (L : List Loc), XC E st t ∧ t.heap[q]? = some ce ∧ ce.vm = .none ∧ st.vm.findClass E = some ce.cls ∧ st.WarmedH t.vm ∧ st.sameButNew ({ t with vm := st.vm } : State) L mc ms ∧ ∀ z ∈ L, free z.base
def vx_Q (Qc : Array Value → State → Outcome → State → Prop) (XC : String → State → State → Prop) (mc ms : Nat) (free : Addr → Prop) : Array Value → State → Outcome → State → Prop := fun a st o t =>
  (Qc a st o t ∧ ∃ L, FrameEnd st o t L mc ms ∧ ∀ q ∈ L, free q.base) ∨ ∃ q, o = .threw q ∧ vx_T XC st q t mc ms free
/-- a callee that returns or throws -/
def vx_Met (l : Launch) (y : MethodName) (ws : List Cond) (rm : Room) (Pc : Array Value → State → Prop) (Qc : Array Value → State → Outcome → State → Prop) (XC : String → State → State → Prop) (mc ms : Nat) (free : Addr → Prop) : Prop :=
  MetFree l y (headSpec ws rm) Pc (fun _ _ _ _ _ => True) (vx_Q Qc XC mc ms free)
def vx_Post (XC : String → State → State → Prop) (mc ms : Nat) (free : Addr → Prop) : Pt → Array Value → Addr → Pt → Prop := fun A a q B =>
  ∃ (g : JFrame) (mk : MethodId) (t : State) (L : List Loc) (E : String) (ce : Cell), B.U.heap = t.heap ∧ B.U.vm = t.vm ∧ XC E (A.U.calling g mk a) t ∧ t.heap[q]? = some ce ∧ ce.vm = .none ∧ A.U.vm.findClass E = some ce.cls ∧ B.locs = A.locs ++ L ∧ (∀ z ∈ L, free z.base) ∧ B.cells = A.cells + mc ∧ B.slots = A.slots + ms
def vx_Back (l : Launch) (R : Room) (p : Program) (e : Env) (below : List Frame) (s : State) (sargs : Array Value) (y : MethodName) (len W9 : Nat)
    (Pre : Pt → Array Value → Prop) (Post : Pt → Array Value → Option Value → Pt → Prop) (PostX : Pt → Array Value → Addr → Pt → Prop) : Prop :=
  ∀ (m : MethodId) (meth : Method) (c : Code) (A : Pt) (g : JFrame) (ig : Instr) (mk : MethodId) (a : Array Value),
    Stand p l e R s m sargs below meth c A.U A.locs A.cells A.slots → g.method = m → g.locals.size = c.maxLocals → decode c.code g.pc = .ok (ig, len) →
    2 * g.monitorRoom + (g.stack.map fun v => v.category).sum ≤ W9 → A.U.methodNamed? y = some mk → Pre A a →
    (∃ (v : Option Value) (B : Pt), Stand p l e R s m sargs below meth c B.U B.locs B.cells B.slots ∧ Post A a v B ∧
      Steps p.tables e below (doInvoke e (A.U.setTop g) [] mk a).1 (B.U.setTop { g with pc := g.pc + len, stack := v.toList ++ g.stack })) ∨
    (∃ (q : Addr) (B : Pt), Stand p l e R s m sargs below meth c B.U B.locs B.cells B.slots ∧ PostX A a q B ∧
      Steps p.tables e below (doInvoke e (A.U.setTop g) [] mk a).1 ((B.U.setTop g).pushFrame (.throwing q)))
section Payer
variable {l : Launch} {R : Room} {p : Program} {e : Env} {below : List Frame} {s : State} {sargs : Array Value} {y : MethodName} {len W9 : Nat}
theorem vx_back {ws : List Cond} {rm : Room} {Pc : Array Value → State → Prop} {Qc : Array Value → State → Outcome → State → Prop} {XC : String → State → State → Prop} {mc ms : Nat} {free : Addr → Prop} {bytes : ByteArray} {maxL : Nat} {ret : Option FieldType}
    (hM : vx_Met l y ws rm Pc Qc XC mc ms free) (hblind : FrameBlind Pc) (hrc : rm.cells = mc) (hrs : rm.slots = ms)
    (hframes : rm.frames + 1 ≤ R.frames) (hlocals : W9 + (maxL + 11) + rm.locals ≤ R.locals)
    (hws : ∀ w ∈ ws, ∀ a' U, s.WarmedH U.vm → w.before a' U = true) (hcode : Cond.code y bytes maxL ret ∈ ws) (hinit : ∀ a' U, s.WarmedH U.vm → (Cond.initialized y.cls).before a' U = true) :
    vx_Back l R p e below s sargs y len W9 (PreOf R mc ms Pc) (PostOf Qc mc ms free) (vx_Post XC mc ms free) := by
  intro m meth c A g ig mk a X hg hsize hdg hW hn hp
  have h1 : (headSpec ws rm).pre.before a A.U = true := atoms_intro fun w hw => hws w hw _ _ X.warmed
  have h2 : (Cond.code y bytes maxL ret).before a A.U = true := hws _ hcode _ _ X.warmed
  have h3 : (Cond.initialized y.cls).before a A.U = true := hinit _ _ X.warmed
  have h4 : A.cells + (headSpec ws rm).room.cells ≤ R.cells := by rw [show (headSpec ws rm).room.cells = mc from hrc]; exact hp.1
  have h5 : A.slots + (headSpec ws rm).room.slots ≤ R.slots := by rw [show (headSpec ws rm).room.slots = ms from hrs]; exact hp.2.1
  have hPc : Pc a (A.U.calling g mk a) := hblind _ _ _ _ hp.2.2
  obtain ⟨U, Ls, c0, s0⟩ := A
  dsimp only [Pt.U, Pt.locs, Pt.cells, Pt.slots] at h1 h2 h3 h4 h5 X hn hPc ⊢
  obtain ⟨methY, cY, hmY, hcY, -, hlY, -, -, -, -⟩ := Cond.code_spec hn h2
  obtain ⟨kY, hkY, -⟩ := className_of_methodNamed hn
  have hinitY : kY.init = .initialized := Cond.initialized_spec (findClass_of_methodNamed hn) hkY h3
  have h : At U g.method c below := by rw [hg]; exact X.here
  have hlocals9 : W9 + (maxL + 11) + (headSpec ws rm).room.locals ≤ R.locals := hlocals
  have happ : (headSpec ws rm).appliesLoose y e.platform (U.calling g mk a) = true :=
    Spec.appliesLoose_calling (g := g) h hdg hn hkY hinitY
      (X.room_calling (g := g) (R' := (headSpec ws rm).room) hsize hmY hcY hframes (by rw [hlY]; omega) h4 h5) h1
  obtain ⟨mid, hmid⟩ := h.above
  have hfr : (U.setTop g).frames = (.java g :: mid) ++ below := by rw [State.frames_setTop' g h.top, hmid]; rfl
  obtain ⟨o, s₂, hsteps, -, hend, hq⟩ := Steps.callFree hM p X.admits X.cas X.clock (acts := []) hfr happ hPc trivial
  have hq' : vx_Q Qc XC mc ms free a (U.calling g mk a) o s₂ := hq
  rw [State.frames_setTop' g h.top] at hend
  obtain ⟨g₀, hg0⟩ := Option.isSome_iff_exists.mp h.top
  obtain ⟨r, hr⟩ := State.topJava?_eq_some.mp hg0
  have hr' : (({ U with heap := s₂.heap, slotsUsed := s₂.slotsUsed } : State).setVm s₂.vm).frames = .java g₀ :: r := hr
  rcases hq' with ⟨hqc, L, hfe, hL⟩ | ⟨q, rfl, E, ce, L, hx, hce, hcv, hcl, hW₂, hsm, hL⟩
  · obtain ⟨⟨v, rfl⟩, hW₂, e2, q2, q3, q4, q5, q6⟩ := id hfe
    have e3 : s₂ = ({ (U.calling g mk a).setFrames s₂.frames with heap := s₂.heap, slotsUsed := s₂.slotsUsed } : State).setVm s₂.vm := by
      have : s₂ = ({ s₂ with vm := (U.calling g mk a).vm } : State).setVm s₂.vm := rfl
      rw [e2] at this
      exact this
    obtain ⟨c₂, i₂, len₂, hc₂, hd₂, hf₂⟩ := hend
    have hW' : U.WarmedH s₂.vm := hW₂
    have hcc : c₂ = c := by
      have h1 : s₂.code? g.method = U.code? g.method := by
        rw [State.code?_eq, State.code?_eq, hW'.alike.method?]
      exact Option.some.inj (hc₂.symm.trans (h1.trans h.code))
    subst hcc
    have hlen : len₂ = len := by rw [hdg] at hd₂; cases hd₂; rfl
    subst hlen
    have hs₂ : s₂ = (({ U with heap := s₂.heap, slotsUsed := s₂.slotsUsed } : State).setVm s₂.vm).setTop { g with pc := g.pc + len₂, stack := v.toList ++ g.stack } := by
      refine e3.trans ?_
      rw [hf₂, State.calling_eq h.top, State.setFrames_setFrames, State.setTop_of_frames _ hr', hr]
      rfl
    have hsame : U.sameButNew ({ U with heap := s₂.heap, slotsUsed := s₂.slotsUsed } : State) L mc ms := by
      refine ⟨?_, q2, q3, q4, q5, q6⟩
      obtain ⟨t, ht, -⟩ := State.frames_cons hr
      show ({ U with heap := s₂.heap, slotsUsed := s₂.slotsUsed } : State) = { U.setFrames U.frames with heap := s₂.heap, slotsUsed := s₂.slotsUsed }
      rw [State.setFrames_self ht]
    subst hg
    refine Or.inl ⟨v, ⟨(({ U with heap := s₂.heap, slotsUsed := s₂.slotsUsed } : State).setVm s₂.vm), Ls ++ L, c0 + mc, s0 + ms⟩,
      ⟨X.admits, X.cas, X.clock, X.frames, X.room, X.hears, X.method, X.code, (X.here.setHeapUsed s₂.heap s₂.slotsUsed).setVm hW'.alike, X.tail, State.WarmedH.trans X.warmed hW', X.limits, X.bytes, X.same.trans (hsame.setVm s.vm)⟩,
      ⟨g, mk, s₂, L, rfl, rfl, hqc, rfl, hL, rfl, rfl⟩, ?_⟩
    show Steps p.tables e below _ ((({ U with heap := s₂.heap, slotsUsed := s₂.slotsUsed } : State).setVm s₂.vm).setTop { g with pc := g.pc + len₂, stack := v.toList ++ g.stack })
    rw [← hs₂]
    exact hsteps
  · obtain ⟨e2, q2, q3, q4, q5, q6⟩ := id hsm
    have e3 : s₂ = ({ (U.calling g mk a).setFrames s₂.frames with heap := s₂.heap, slotsUsed := s₂.slotsUsed } : State).setVm s₂.vm := by
      have : s₂ = ({ s₂ with vm := (U.calling g mk a).vm } : State).setVm s₂.vm := rfl
      rw [e2] at this
      exact this
    have hf₂ : s₂.frames = .throwing q :: .java g :: U.frames.tail := hend
    have hW' : U.WarmedH s₂.vm := hW₂
    have hs₂ : s₂ = ((({ U with heap := s₂.heap, slotsUsed := s₂.slotsUsed } : State).setVm s₂.vm).setTop g).pushFrame (.throwing q) := by
      refine e3.trans ?_
      rw [hf₂, State.calling_eq h.top, State.setFrames_setFrames, State.pushFrame, State.frames_setTop _ hr', State.setTop_of_frames _ hr', State.setFrames_setFrames, hr]
      rfl
    have hsame : U.sameButNew ({ U with heap := s₂.heap, slotsUsed := s₂.slotsUsed } : State) L mc ms := by
      refine ⟨?_, q2, q3, q4, q5, q6⟩
      obtain ⟨t, ht, -⟩ := State.frames_cons hr
      show ({ U with heap := s₂.heap, slotsUsed := s₂.slotsUsed } : State) = { U.setFrames U.frames with heap := s₂.heap, slotsUsed := s₂.slotsUsed }
      rw [State.setFrames_self ht]
    subst hg
    refine Or.inr ⟨q, ⟨(({ U with heap := s₂.heap, slotsUsed := s₂.slotsUsed } : State).setVm s₂.vm), Ls ++ L, c0 + mc, s0 + ms⟩,
      ⟨X.admits, X.cas, X.clock, X.frames, X.room, X.hears, X.method, X.code, (X.here.setHeapUsed s₂.heap s₂.slotsUsed).setVm hW'.alike, X.tail, State.WarmedH.trans X.warmed hW', X.limits, X.bytes, X.same.trans (hsame.setVm s.vm)⟩,
      ⟨g, mk, s₂, L, E, ce, rfl, rfl, hx, hce, hcv, hcl, rfl, hL, rfl, rfl⟩, ?_⟩
    show Steps p.tables e below _ (((({ U with heap := s₂.heap, slotsUsed := s₂.slotsUsed } : State).setVm s₂.vm).setTop g).pushFrame (.throwing q))
    rw [← hs₂]
    exact hsteps
end Payer
section Calls
variable {p : Program} {l : Launch} {e : Env} {R : Room} {s : State} {m : MethodId} {args : Array Value} {below : List Frame} {meth : Method} {c : Code} {T : State} {locs : List Loc} {cells slots : Nat}
theorem vx_callV (X : Stand p l e R s m args below meth c T locs cells slots) (hexec : p.tables.exec = Jvm.exec) {own C : String} {index : Nat} {y : MethodName} {bytes : ByteArray} {maxL : Nat} {ret : Option FieldType}
    (hown : s.vm.findClass own = some m.cls) (hlink : (Cond.methodLink own index y).before args s = true) (hinst : (Cond.instanceMethod y).before args s = true) (hsel : (Cond.selects C y y).before args s = true)
    (hcode : (Cond.code y bytes maxL ret).before args s = true) (hy : y.cls ≠ "java/lang/invoke/MethodHandle" ∧ y.cls ≠ "java/lang/invoke/VarHandle")
    {W9 : Nat} {Pre : Pt → Array Value → Prop} {Post : Pt → Array Value → Option Value → Pt → Prop} {PostX : Pt → Array Value → Addr → Pt → Prop} (hK : vx_Back l R p e below s args y 3 W9 Pre Post PostX)
    {b : Addr} {cellB : Cell} (hcell : T.heap[b]? = some cellB) (hobj : cellB.vm.isStatics = false) (hcls : s.vm.findClass C = some cellB.cls)
    {g : JFrame} (hg : g.method = m) (hsize : g.locals.size = c.maxLocals) {argsL rest : List Value} (hlen : ∀ sig, parseMethodDescriptor y.desc = some sig → argsL.length = sig.parameters.length)
    (hstack : g.stack = argsL.reverse ++ .ref b :: rest) (hW : 2 * g.monitorRoom + (rest.map fun v => v.category).sum ≤ W9) (hdg : decode c.code g.pc = .ok (.invokevirtual index, 3))
    (hpre : ∀ vm₁, s.WarmedH vm₁ → Pre ⟨T.setVm vm₁, locs, cells, slots⟩ (Value.ref b :: argsL).toArray) :
    (∃ (v : Option Value) (vm₁ : Vm) (B : Pt), s.WarmedH vm₁ ∧ Stand p l e R s m args below meth c B.U B.locs B.cells B.slots ∧ Post ⟨T.setVm vm₁, locs, cells, slots⟩ (Value.ref b :: argsL).toArray v B ∧
      ∀ target, Steps p.tables e below (B.U.setTop { g with pc := g.pc + 3, stack := v.toList ++ rest }) target → Steps p.tables e below (T.setTop g) target) ∨
    (∃ (q : Addr) (vm₁ : Vm) (B : Pt), s.WarmedH vm₁ ∧ Stand p l e R s m args below meth c B.U B.locs B.cells B.slots ∧ PostX ⟨T.setVm vm₁, locs, cells, slots⟩ (Value.ref b :: argsL).toArray q B ∧
      Steps p.tables e below (T.setTop g) ((B.U.setTop { g with stack := rest }).pushFrame (.throwing q))) := by
  obtain ⟨mk, methM, hnamed, hmethM, hstM, habM⟩ := Cond.instanceMethod_spec hinst
  obtain ⟨methM', cM, hmethM', -, -, -, -, -, -, hsigM⟩ := Cond.code_spec hnamed hcode
  cases hmethM.symm.trans hmethM'
  obtain ⟨c2, r2, m2, q1, q2, q3, q4, kP, hkP, hkPi⟩ := Cond.selects_spec hsel
  cases hcls.symm.trans q1
  cases (State.methodFound?_of_named hnamed hy).symm.trans q2
  cases hnamed.symm.trans q3
  have hselP : selectMethod e.platform s.vm cellB.cls mk = .method mk := by rw [Launch.admits_selectMethod X.admits]; exact q4
  obtain ⟨vm₁, X₁, hstep₁⟩ := X.invokevirtual hexec hown hlink hnamed hmethM hstM hkP hkPi hy (a := b) (cell := cellB) hcell
    (fun z h => by rw [h] at hobj; cases hobj) hselP hmethM habM hkP hkPi (g := g) hg (argsL := argsL) (rest := rest) (hlen _ hsigM) hstack hdg
  rcases hK m meth c ⟨T.setVm vm₁, locs, cells, slots⟩ { g with stack := rest } (.invokevirtual index) mk (Value.ref b :: argsL).toArray X₁ hg hsize hdg hW (X₁.named hnamed) (hpre vm₁ X₁.warmed) with ⟨v, B, X', hpost, hsteps⟩ | ⟨q, B, X', hpost, hsteps⟩
  · exact Or.inl ⟨v, vm₁, B, X₁.warmed, X', hpost, fun target h => hstep₁ _ fun acts => by rw [doInvoke_state]; exact hsteps.trans h⟩
  · exact Or.inr ⟨q, vm₁, B, X₁.warmed, X', hpost, hstep₁ _ fun acts => by rw [doInvoke_state]; exact hsteps⟩
theorem vx_callS (X : Stand p l e R s m args below meth c T locs cells slots) (hexec : p.tables.exec = Jvm.exec) {own : String} {index : Nat} {y : MethodName} {bytes : ByteArray} {maxL : Nat} {ret : Option FieldType}
    (hown : s.vm.findClass own = some m.cls) (hlink : (Cond.methodLink own index y).before args s = true) (hstat : (Cond.static y).before args s = true) (hinit : (Cond.initialized y.cls).before args s = true)
    (hcode : (Cond.code y bytes maxL ret).before args s = true) (hy : y.cls ≠ "java/lang/invoke/MethodHandle" ∧ y.cls ≠ "java/lang/invoke/VarHandle")
    {W9 : Nat} {Pre : Pt → Array Value → Prop} {Post : Pt → Array Value → Option Value → Pt → Prop} {PostX : Pt → Array Value → Addr → Pt → Prop} (hK : vx_Back l R p e below s args y 3 W9 Pre Post PostX)
    {g : JFrame} (hg : g.method = m) (hsize : g.locals.size = c.maxLocals) {argsL rest : List Value} (hlen : ∀ sig, parseMethodDescriptor y.desc = some sig → argsL.length = sig.parameters.length)
    (hstack : g.stack = argsL.reverse ++ rest) (hW : 2 * g.monitorRoom + (rest.map fun v => v.category).sum ≤ W9) (hdg : decode c.code g.pc = .ok (.invokestatic index, 3))
    (hpre : ∀ vm₁, s.WarmedH vm₁ → Pre ⟨T.setVm vm₁, locs, cells, slots⟩ argsL.toArray) :
    (∃ (v : Option Value) (vm₁ : Vm) (B : Pt), s.WarmedH vm₁ ∧ Stand p l e R s m args below meth c B.U B.locs B.cells B.slots ∧ Post ⟨T.setVm vm₁, locs, cells, slots⟩ argsL.toArray v B ∧
      ∀ target, Steps p.tables e below (B.U.setTop { g with pc := g.pc + 3, stack := v.toList ++ rest }) target → Steps p.tables e below (T.setTop g) target) ∨
    (∃ (q : Addr) (vm₁ : Vm) (B : Pt), s.WarmedH vm₁ ∧ Stand p l e R s m args below meth c B.U B.locs B.cells B.slots ∧ PostX ⟨T.setVm vm₁, locs, cells, slots⟩ argsL.toArray q B ∧
      Steps p.tables e below (T.setTop g) ((B.U.setTop { g with stack := rest }).pushFrame (.throwing q))) := by
  obtain ⟨mk, hnamed⟩ := Cond.code_named hcode
  obtain ⟨methM, cM, hmethM, -, -, -, -, -, -, hsigM⟩ := Cond.code_spec hnamed hcode
  have hstatic : methM.isStatic = true := Cond.static_spec hnamed hmethM hstat
  obtain ⟨kP, hkP, -⟩ := className_of_methodNamed hnamed
  have hinitP : kP.init = .initialized := Cond.initialized_spec (findClass_of_methodNamed hnamed) hkP hinit
  obtain ⟨vm₁, X₁, hstep₁⟩ := X.invokestatic hexec hown hlink hnamed hmethM hstatic hkP hinitP hy (g := g) hg (argsL := argsL) (rest := rest) (hlen _ hsigM) hstack hdg
  rcases hK m meth c ⟨T.setVm vm₁, locs, cells, slots⟩ { g with stack := rest } (.invokestatic index) mk argsL.toArray X₁ hg hsize hdg hW (X₁.named hnamed) (hpre vm₁ X₁.warmed) with ⟨v, B, X', hpost, hsteps⟩ | ⟨q, B, X', hpost, hsteps⟩
  · exact Or.inl ⟨v, vm₁, B, X₁.warmed, X', hpost, fun target h => hstep₁ _ fun acts => by rw [doInvoke_state]; exact hsteps.trans h⟩
  · exact Or.inr ⟨q, vm₁, B, X₁.warmed, X', hpost, hstep₁ _ fun acts => by rw [doInvoke_state]; exact hsteps⟩
end Calls
theorem vx_cls {s : State} {T : State} {vm₁ : Vm} {E : String} {k : ClassId} (hW : s.WarmedH vm₁) (h : (T.setVm vm₁).vm.findClass E = some k) : s.vm.findClass E = some k := by
  have h1 : vm₁.findClass E = some k := h
  rw [hW.alike.findClass] at h1
  exact h1
/-- the method's frame g, with q thrown over it -/
def vx_W (p : Program) (l : Launch) (e : Env) (R : Room) (s : State) (m : MethodId) (args : Array Value) (below : List Frame) (meth : Method) (c : Code) (H : Heap) (locs : List Loc) (cells slots : Nat) (Q : State → Prop) (g : JFrame) (q : Addr) : Prop :=
  ∀ T : State, T.heap = H → Stand p l e R s m args below meth c T locs cells slots → ∃ t, Steps p.tables e below ((T.setTop g).pushFrame (.throwing q)) t ∧ Q t
def vx_Run (p : Program) (l : Launch) (e : Env) (R : Room) (s : State) (m : MethodId) (args : Array Value) (below : List Frame) (meth : Method) (c : Code) (H : Heap) (locs : List Loc) (cells slots mc ms : Nat) (g : JFrame) (rest : List Value) (Qa : State → Outcome → State → Prop) (XC : String → State → State → Prop) (free : Addr → Prop) : Prop :=
  ∀ T : State, T.heap = H → Stand p l e R s m args below meth c T locs cells slots →
    (∃ (v : Option Value) (st₀ t T' : State) (L : List Loc), st₀.heap = H ∧ Stand p l e R s m args below meth c T' (locs ++ L) (cells + mc) (slots + ms) ∧ (∀ q ∈ L, free q.base) ∧ T'.heap = t.heap ∧ T'.vm = t.vm ∧ Qa st₀ (.returned v) t ∧
      Goes p e below T g T' { g with pc := g.pc + 3, stack := v.toList ++ rest }) ∨
    (∃ (q : Addr) (st₀ t T' : State) (L : List Loc) (E : String) (ce : Cell), st₀.heap = H ∧ Stand p l e R s m args below meth c T' (locs ++ L) (cells + mc) (slots + ms) ∧ (∀ z ∈ L, free z.base) ∧ T'.heap = t.heap ∧ T'.vm = t.vm ∧ XC E st₀ t ∧ t.heap[q]? = some ce ∧ ce.vm = .none ∧ s.vm.findClass E = some ce.cls ∧
      Steps p.tables e below (T.setTop g) ((T'.setTop { g with stack := rest }).pushFrame (.throwing q)))
def vx_X {S : Type} (px : S → Prop) (B : String → S → State → Prop) (A : Nat → Prop) : String → State → State → Prop := fun E st t => ∃ u : S, px u ∧ B E u t ∧ va_F A st t
section Runs
variable {p : Program} {l : Launch} {e : Env} {R : Room} {s : State} {m : MethodId} {args : Array Value} {below : List Frame} {meth : Method} {c : Code} {H : Heap} {locs : List Loc} {cells slots : Nat}
variable {y : MethodName} {bytes cc : ByteArray} {maxL nL mc ms n index : Nat} {ret : Option FieldType} {ws : List Cond} {rm : Room} {Pc : Array Value → State → Prop} {Qc : Array Value → State → Outcome → State → Prop} {XC : String → State → State → Prop} {free : Addr → Prop} {Ts : List Cond} {own C : String} {b : Addr} {As rest : List Value} {g : JFrame}
theorem vx_callBack (cb : CallB R s args own index y bytes maxL ret ws rm mc ms n) (hM : vx_Met l y ws rm Pc Qc XC mc ms free) (hbl : FrameBlind Pc) : vx_Back l R p e below s args y 3 8 (PreOf R mc ms Pc) (PostOf Qc mc ms free) (vx_Post XC mc ms free) := by
  obtain ⟨hrc, hrs, hfr, hlo, hws, hcw, -, hini, -⟩ := cb
  exact vx_back (bytes := bytes) (maxL := maxL) (ret := ret) hM hbl hrc hrs hfr hlo hws hcw (fun a' U hW => word_at hW (Or.inl (by first | rfl | simp [Cond.onTables, Cond.keeps, Cond.steady])) hini)
theorem vx_runV (S : CallFix p m c cc nL s args Ts own) (hM : vx_Met l y ws rm Pc Qc XC mc ms free) (cw : CallW R s args own C index y bytes maxL ret ws rm mc ms n) (hp : PreV s H C b Pc As)
    (hg : g.method = m) (hn : As.length = n) (hsize : g.locals.size = nL) (hstack : g.stack = As.reverse ++ .ref b :: rest) (hW : 2 * g.monitorRoom + (rest.map fun v => v.category).sum ≤ 8) (hdg : decode cc g.pc = .ok (.invokevirtual index, 3)) (hf : cells + mc ≤ R.cells ∧ slots + ms ≤ R.slots) :
    vx_Run p l e R s m args below meth c H locs cells slots mc ms g rest (Qc (Value.ref b :: As).toArray) XC free := by
  have hK : vx_Back l R p e below s args y 3 8 (PreOf R mc ms Pc) (PostOf Qc mc ms free) (vx_Post XC mc ms free) := vx_callBack cw.1 hM hp.1
  obtain ⟨⟨-, -, -, -, -, -, hcode, -, hy, hlen, hl⟩, hin, hse⟩ := cw
  obtain ⟨hx, hb, hml, ho, -⟩ := S
  obtain ⟨-, ⟨cellB, hcB, hoB, hclB⟩, hPc⟩ := hp
  intro T hT X
  rcases vx_callV X hx (C := C) (bytes := bytes) (maxL := maxL) (ret := ret) ho hl hin hse hcode hy hK (by rw [hT]; exact hcB) hoB hclB hg (hsize.trans hml.symm) (argsL := As) (rest := rest) (fun sig h => hn.trans (hlen sig h)) hstack hW (by rw [hb]; exact hdg)
    (fun vm₁ hW₁ => ⟨hf.1, hf.2, hPc (T.setVm vm₁) hT hW₁⟩) with ⟨v, vm₁, ⟨U', l2, c2, s2⟩, hW₁, X', ⟨g', mk, t, L, e1, e2, hq, h1, hL, h2, h3⟩, st⟩ | ⟨q, vm₁, ⟨U', l2, c2, s2⟩, hW₁, X', ⟨g', mk, t, L, E, ce, e1, e2, hq, hce, hcv, hcl, h1, hL, h2, h3⟩, st⟩
  · dsimp only [Pt.U, Pt.locs, Pt.cells, Pt.slots] at X' e1 e2 h1 h2 h3 st
    subst h1; subst h2; subst h3
    exact Or.inl ⟨v, (T.setVm vm₁).calling g' mk (Value.ref b :: As).toArray, t, U', L, hT, X', hL, e1, e2, hq, st⟩
  · dsimp only [Pt.U, Pt.locs, Pt.cells, Pt.slots] at X' e1 e2 h1 h2 h3 st hcl
    subst h1; subst h2; subst h3
    exact Or.inr ⟨q, (T.setVm vm₁).calling g' mk (Value.ref b :: As).toArray, t, U', L, E, ce, hT, X', hL, e1, e2, hq, hce, hcv, vx_cls hW₁ hcl, st⟩
theorem vx_runS (S : CallFix p m c cc nL s args Ts own) (hM : vx_Met l y ws rm Pc Qc XC mc ms free) (cw : CallB R s args own index y bytes maxL ret ws rm mc ms n ∧ (Cond.static y).before args s = true) (hp : PreS s H Pc As)
    (hg : g.method = m) (hn : As.length = n) (hsize : g.locals.size = nL) (hstack : g.stack = As.reverse ++ rest) (hW : 2 * g.monitorRoom + (rest.map fun v => v.category).sum ≤ 8) (hdg : decode cc g.pc = .ok (.invokestatic index, 3)) (hf : cells + mc ≤ R.cells ∧ slots + ms ≤ R.slots) :
    vx_Run p l e R s m args below meth c H locs cells slots mc ms g rest (Qc As.toArray) XC free := by
  have hK : vx_Back l R p e below s args y 3 8 (PreOf R mc ms Pc) (PostOf Qc mc ms free) (vx_Post XC mc ms free) := vx_callBack cw.1 hM hp.1
  obtain ⟨⟨-, -, -, -, -, -, hcode, hini, hy, hlen, hl⟩, hstt⟩ := cw
  obtain ⟨hx, hb, hml, ho, -⟩ := S
  intro T hT X
  rcases vx_callS X hx (bytes := bytes) (maxL := maxL) (ret := ret) ho hl hstt hini hcode hy hK hg (hsize.trans hml.symm) (argsL := As) (rest := rest) (fun sig h => hn.trans (hlen sig h)) hstack hW (by rw [hb]; exact hdg)
    (fun vm₁ hW₁ => ⟨hf.1, hf.2, hp.2 (T.setVm vm₁) hT hW₁⟩) with ⟨v, vm₁, ⟨U', l2, c2, s2⟩, hW₁, X', ⟨g', mk, t, L, e1, e2, hq, h1, hL, h2, h3⟩, st⟩ | ⟨q, vm₁, ⟨U', l2, c2, s2⟩, hW₁, X', ⟨g', mk, t, L, E, ce, e1, e2, hq, hce, hcv, hcl, h1, hL, h2, h3⟩, st⟩
  · dsimp only [Pt.U, Pt.locs, Pt.cells, Pt.slots] at X' e1 e2 h1 h2 h3 st
    subst h1; subst h2; subst h3
    exact Or.inl ⟨v, (T.setVm vm₁).calling g' mk As.toArray, t, U', L, hT, X', hL, e1, e2, hq, st⟩
  · dsimp only [Pt.U, Pt.locs, Pt.cells, Pt.slots] at X' e1 e2 h1 h2 h3 st hcl
    subst h1; subst h2; subst h3
    exact Or.inr ⟨q, (T.setVm vm₁).calling g' mk As.toArray, t, U', L, E, ce, hT, X', hL, e1, e2, hq, hce, hcv, vx_cls hW₁ hcl, st⟩
end Runs
section Rows
variable {p : Program} {l : Launch} {e : Env} {R : Room} {s : State} {m : MethodId} {args : Array Value} {below : List Frame} {meth : Method} {c : Code} {H : Heap} {locs : List Loc} {cells slots : Nat} {Q : State → Prop}
variable {mc ms : Nat} {free : Addr → Prop} {A0 A1 : Nat → Prop} {H0 : Heap} {a : Array Value} {pc : Nat} {ls : Array Slot} {st0 rest : List Value}
theorem vx_keep {st₀ t T' : State} {L : List Loc} (h0 : st₀.heap = H) (e1 : T'.heap = t.heap) (hS : va_S A0 H0 H locs) (hA : ∀ q, q < H.size → A1 q → A0 q) (hf : ∀ q, free q → A0 q) (hL : ∀ q ∈ L, free q.base) (hF : va_F A1 st₀ t) :
    H.size ≤ T'.heap.size ∧ (∀ q : Nat, q < H.size → ¬ A1 q → T'.heap[q]? = H[q]?) ∧ va_S A0 H0 T'.heap (locs ++ L) := by
  obtain ⟨hz, hk⟩ := hF
  rw [h0] at hz hk
  exact ⟨by rw [e1]; exact hz, fun q h1 h2 => by rw [e1]; exact hk q h1 h2,
    ⟨Nat.le_trans hS.1 (by rw [e1]; exact hz), fun q h1 h2 => by rw [e1, hk q (Nat.lt_of_lt_of_le h1 hS.1) (fun z => h2 (hA q (Nat.lt_of_lt_of_le h1 hS.1) z))]; exact hS.2.1 q h1 h2, fun q hq => by
      rcases List.mem_append.mp hq with h | h
      · exact hS.2.2 q h
      · exact hf _ (hL q h)⟩⟩
theorem vx_calli {S SX : Type} {post : Int32 → S → Prop} {px : SX → Prop} {B : S → State → Prop} {BX : String → SX → State → Prop} {AX : Nat → Prop} (hr : vx_Run p l e R s m args below meth c H locs cells slots mc ms (F0 m pc ls st0) rest (va_Qi post B A1 a) (vx_X px BX AX) free) (hS : va_S A0 H0 H locs) (hA : ∀ q, q < H.size → A1 q → A0 q) (hf : ∀ q, free q → A0 q) (hAX : ∀ q, q < H.size → AX q → A0 q)
    (kx : ∀ (E : String) (ce : Cell) (q9 : Addr) (u : SX) (t : State) (H1 : Heap) (locs1 : List Loc), t.heap = H1 → s.vm.Alike t.vm → px u → BX E u t → H.size ≤ H1.size → (∀ q : Nat, q < H.size → ¬ AX q → H1[q]? = H[q]?) → va_S A0 H0 H1 locs1 → H1[q9]? = some ce → ce.vm = .none → s.vm.findClass E = some ce.cls → vx_W p l e R s m args below meth c H1 locs1 (cells + mc) (slots + ms) Q (F0 m pc ls rest) q9)
    (kk : ∀ (r : Int32) (u : S) (t : State) (H1 : Heap) (locs1 : List Loc), t.heap = H1 → s.vm.Alike t.vm → post r u → B u t → H.size ≤ H1.size → (∀ q : Nat, q < H.size → ¬ A1 q → H1[q]? = H[q]?) → va_S A0 H0 H1 locs1 → W p l e R s m args below meth c H1 locs1 (cells + mc) (slots + ms) Q (F0 m (pc + 3) ls (.int r :: rest))) : W p l e R s m args below meth c H locs cells slots Q (F0 m pc ls st0) := by
  intro T hT X
  rcases hr T hT X with ⟨v, st₀, t, T', L, h0, X', hL, e1, e2, ⟨⟨r, u, hv, hp, hb⟩, hF⟩, st⟩ | ⟨q, st₀, t, T', L, E, ce, h0, X', hL, e1, e2, ⟨u, hp, hb, hF⟩, hce, hcv, hcl, st⟩
  · cases hv
    obtain ⟨k1, k2, k3⟩ := vx_keep h0 e1 hS hA hf hL hF
    obtain ⟨t2, a1, b1⟩ := kk r u t T'.heap (locs ++ L) e1.symm (by rw [← e2]; exact X'.warmed.alike) hp hb k1 k2 k3 T' rfl X'
    exact ⟨t2, st t2 a1, b1⟩
  · obtain ⟨k1, k2, k3⟩ := vx_keep h0 e1 hS hAX hf hL hF
    obtain ⟨t2, a1, b1⟩ := kx E ce q u t T'.heap (locs ++ L) e1.symm (by rw [← e2]; exact X'.warmed.alike) hp hb k1 k2 k3 (by rw [e1]; exact hce) hcv hcl T' rfl X'
    exact ⟨t2, st.trans a1, b1⟩
theorem vx_calll {S SX : Type} {post : Int64 → S → Prop} {px : SX → Prop} {B : S → State → Prop} {BX : String → SX → State → Prop} {AX : Nat → Prop} (hr : vx_Run p l e R s m args below meth c H locs cells slots mc ms (F0 m pc ls st0) rest (va_Ql post B A1 a) (vx_X px BX AX) free) (hS : va_S A0 H0 H locs) (hA : ∀ q, q < H.size → A1 q → A0 q) (hf : ∀ q, free q → A0 q) (hAX : ∀ q, q < H.size → AX q → A0 q)
    (kx : ∀ (E : String) (ce : Cell) (q9 : Addr) (u : SX) (t : State) (H1 : Heap) (locs1 : List Loc), t.heap = H1 → s.vm.Alike t.vm → px u → BX E u t → H.size ≤ H1.size → (∀ q : Nat, q < H.size → ¬ AX q → H1[q]? = H[q]?) → va_S A0 H0 H1 locs1 → H1[q9]? = some ce → ce.vm = .none → s.vm.findClass E = some ce.cls → vx_W p l e R s m args below meth c H1 locs1 (cells + mc) (slots + ms) Q (F0 m pc ls rest) q9)
    (kk : ∀ (r : Int64) (u : S) (t : State) (H1 : Heap) (locs1 : List Loc), t.heap = H1 → s.vm.Alike t.vm → post r u → B u t → H.size ≤ H1.size → (∀ q : Nat, q < H.size → ¬ A1 q → H1[q]? = H[q]?) → va_S A0 H0 H1 locs1 → W p l e R s m args below meth c H1 locs1 (cells + mc) (slots + ms) Q (F0 m (pc + 3) ls (.long r :: rest))) : W p l e R s m args below meth c H locs cells slots Q (F0 m pc ls st0) := by
  intro T hT X
  rcases hr T hT X with ⟨v, st₀, t, T', L, h0, X', hL, e1, e2, ⟨⟨r, u, hv, hp, hb⟩, hF⟩, st⟩ | ⟨q, st₀, t, T', L, E, ce, h0, X', hL, e1, e2, ⟨u, hp, hb, hF⟩, hce, hcv, hcl, st⟩
  · cases hv
    obtain ⟨k1, k2, k3⟩ := vx_keep h0 e1 hS hA hf hL hF
    obtain ⟨t2, a1, b1⟩ := kk r u t T'.heap (locs ++ L) e1.symm (by rw [← e2]; exact X'.warmed.alike) hp hb k1 k2 k3 T' rfl X'
    exact ⟨t2, st t2 a1, b1⟩
  · obtain ⟨k1, k2, k3⟩ := vx_keep h0 e1 hS hAX hf hL hF
    obtain ⟨t2, a1, b1⟩ := kx E ce q u t T'.heap (locs ++ L) e1.symm (by rw [← e2]; exact X'.warmed.alike) hp hb k1 k2 k3 (by rw [e1]; exact hce) hcv hcl T' rfl X'
    exact ⟨t2, st.trans a1, b1⟩
theorem vx_callf {S SX : Type} {post : UInt32 → S → Prop} {px : SX → Prop} {B : S → State → Prop} {BX : String → SX → State → Prop} {AX : Nat → Prop} (hr : vx_Run p l e R s m args below meth c H locs cells slots mc ms (F0 m pc ls st0) rest (va_Qf post B A1 a) (vx_X px BX AX) free) (hS : va_S A0 H0 H locs) (hA : ∀ q, q < H.size → A1 q → A0 q) (hf : ∀ q, free q → A0 q) (hAX : ∀ q, q < H.size → AX q → A0 q)
    (kx : ∀ (E : String) (ce : Cell) (q9 : Addr) (u : SX) (t : State) (H1 : Heap) (locs1 : List Loc), t.heap = H1 → s.vm.Alike t.vm → px u → BX E u t → H.size ≤ H1.size → (∀ q : Nat, q < H.size → ¬ AX q → H1[q]? = H[q]?) → va_S A0 H0 H1 locs1 → H1[q9]? = some ce → ce.vm = .none → s.vm.findClass E = some ce.cls → vx_W p l e R s m args below meth c H1 locs1 (cells + mc) (slots + ms) Q (F0 m pc ls rest) q9)
    (kk : ∀ (r : UInt32) (u : S) (t : State) (H1 : Heap) (locs1 : List Loc), t.heap = H1 → s.vm.Alike t.vm → post r u → B u t → H.size ≤ H1.size → (∀ q : Nat, q < H.size → ¬ A1 q → H1[q]? = H[q]?) → va_S A0 H0 H1 locs1 → W p l e R s m args below meth c H1 locs1 (cells + mc) (slots + ms) Q (F0 m (pc + 3) ls (.float r :: rest))) : W p l e R s m args below meth c H locs cells slots Q (F0 m pc ls st0) := by
  intro T hT X
  rcases hr T hT X with ⟨v, st₀, t, T', L, h0, X', hL, e1, e2, ⟨⟨r, u, hv, hp, hb⟩, hF⟩, st⟩ | ⟨q, st₀, t, T', L, E, ce, h0, X', hL, e1, e2, ⟨u, hp, hb, hF⟩, hce, hcv, hcl, st⟩
  · cases hv
    obtain ⟨k1, k2, k3⟩ := vx_keep h0 e1 hS hA hf hL hF
    obtain ⟨t2, a1, b1⟩ := kk r u t T'.heap (locs ++ L) e1.symm (by rw [← e2]; exact X'.warmed.alike) hp hb k1 k2 k3 T' rfl X'
    exact ⟨t2, st t2 a1, b1⟩
  · obtain ⟨k1, k2, k3⟩ := vx_keep h0 e1 hS hAX hf hL hF
    obtain ⟨t2, a1, b1⟩ := kx E ce q u t T'.heap (locs ++ L) e1.symm (by rw [← e2]; exact X'.warmed.alike) hp hb k1 k2 k3 (by rw [e1]; exact hce) hcv hcl T' rfl X'
    exact ⟨t2, st.trans a1, b1⟩
theorem vx_calld {S SX : Type} {post : UInt64 → S → Prop} {px : SX → Prop} {B : S → State → Prop} {BX : String → SX → State → Prop} {AX : Nat → Prop} (hr : vx_Run p l e R s m args below meth c H locs cells slots mc ms (F0 m pc ls st0) rest (va_Qd post B A1 a) (vx_X px BX AX) free) (hS : va_S A0 H0 H locs) (hA : ∀ q, q < H.size → A1 q → A0 q) (hf : ∀ q, free q → A0 q) (hAX : ∀ q, q < H.size → AX q → A0 q)
    (kx : ∀ (E : String) (ce : Cell) (q9 : Addr) (u : SX) (t : State) (H1 : Heap) (locs1 : List Loc), t.heap = H1 → s.vm.Alike t.vm → px u → BX E u t → H.size ≤ H1.size → (∀ q : Nat, q < H.size → ¬ AX q → H1[q]? = H[q]?) → va_S A0 H0 H1 locs1 → H1[q9]? = some ce → ce.vm = .none → s.vm.findClass E = some ce.cls → vx_W p l e R s m args below meth c H1 locs1 (cells + mc) (slots + ms) Q (F0 m pc ls rest) q9)
    (kk : ∀ (r : UInt64) (u : S) (t : State) (H1 : Heap) (locs1 : List Loc), t.heap = H1 → s.vm.Alike t.vm → post r u → B u t → H.size ≤ H1.size → (∀ q : Nat, q < H.size → ¬ A1 q → H1[q]? = H[q]?) → va_S A0 H0 H1 locs1 → W p l e R s m args below meth c H1 locs1 (cells + mc) (slots + ms) Q (F0 m (pc + 3) ls (.double r :: rest))) : W p l e R s m args below meth c H locs cells slots Q (F0 m pc ls st0) := by
  intro T hT X
  rcases hr T hT X with ⟨v, st₀, t, T', L, h0, X', hL, e1, e2, ⟨⟨r, u, hv, hp, hb⟩, hF⟩, st⟩ | ⟨q, st₀, t, T', L, E, ce, h0, X', hL, e1, e2, ⟨u, hp, hb, hF⟩, hce, hcv, hcl, st⟩
  · cases hv
    obtain ⟨k1, k2, k3⟩ := vx_keep h0 e1 hS hA hf hL hF
    obtain ⟨t2, a1, b1⟩ := kk r u t T'.heap (locs ++ L) e1.symm (by rw [← e2]; exact X'.warmed.alike) hp hb k1 k2 k3 T' rfl X'
    exact ⟨t2, st t2 a1, b1⟩
  · obtain ⟨k1, k2, k3⟩ := vx_keep h0 e1 hS hAX hf hL hF
    obtain ⟨t2, a1, b1⟩ := kx E ce q u t T'.heap (locs ++ L) e1.symm (by rw [← e2]; exact X'.warmed.alike) hp hb k1 k2 k3 (by rw [e1]; exact hce) hcv hcl T' rfl X'
    exact ⟨t2, st.trans a1, b1⟩
theorem vx_callv {S SX : Type} {post : S → Prop} {px : SX → Prop} {B : S → State → Prop} {BX : String → SX → State → Prop} {AX : Nat → Prop} (hr : vx_Run p l e R s m args below meth c H locs cells slots mc ms (F0 m pc ls st0) rest (va_Qv post B A1 a) (vx_X px BX AX) free) (hS : va_S A0 H0 H locs) (hA : ∀ q, q < H.size → A1 q → A0 q) (hf : ∀ q, free q → A0 q) (hAX : ∀ q, q < H.size → AX q → A0 q)
    (kx : ∀ (E : String) (ce : Cell) (q9 : Addr) (u : SX) (t : State) (H1 : Heap) (locs1 : List Loc), t.heap = H1 → s.vm.Alike t.vm → px u → BX E u t → H.size ≤ H1.size → (∀ q : Nat, q < H.size → ¬ AX q → H1[q]? = H[q]?) → va_S A0 H0 H1 locs1 → H1[q9]? = some ce → ce.vm = .none → s.vm.findClass E = some ce.cls → vx_W p l e R s m args below meth c H1 locs1 (cells + mc) (slots + ms) Q (F0 m pc ls rest) q9)
    (kk : ∀ (u : S) (t : State) (H1 : Heap) (locs1 : List Loc), t.heap = H1 → s.vm.Alike t.vm → post u → B u t → H.size ≤ H1.size → (∀ q : Nat, q < H.size → ¬ A1 q → H1[q]? = H[q]?) → va_S A0 H0 H1 locs1 → W p l e R s m args below meth c H1 locs1 (cells + mc) (slots + ms) Q (F0 m (pc + 3) ls (rest))) : W p l e R s m args below meth c H locs cells slots Q (F0 m pc ls st0) := by
  intro T hT X
  rcases hr T hT X with ⟨v, st₀, t, T', L, h0, X', hL, e1, e2, ⟨⟨u, hv, hp, hb⟩, hF⟩, st⟩ | ⟨q, st₀, t, T', L, E, ce, h0, X', hL, e1, e2, ⟨u, hp, hb, hF⟩, hce, hcv, hcl, st⟩
  · cases hv
    obtain ⟨k1, k2, k3⟩ := vx_keep h0 e1 hS hA hf hL hF
    obtain ⟨t2, a1, b1⟩ := kk u t T'.heap (locs ++ L) e1.symm (by rw [← e2]; exact X'.warmed.alike) hp hb k1 k2 k3 T' rfl X'
    exact ⟨t2, st t2 a1, b1⟩
  · obtain ⟨k1, k2, k3⟩ := vx_keep h0 e1 hS hAX hf hL hF
    obtain ⟨t2, a1, b1⟩ := kx E ce q u t T'.heap (locs ++ L) e1.symm (by rw [← e2]; exact X'.warmed.alike) hp hb k1 k2 k3 (by rw [e1]; exact hce) hcv hcl T' rfl X'
    exact ⟨t2, st.trans a1, b1⟩
/-- caught by the row x of this method's table; the rows ahead don't take it -/
theorem vx_catch {own name : String} {E : String} {ce : Cell} {q : Addr} (hown : s.vm.findClass own = some m.cls) (pre : List ExceptionTableEntry) (x : ExceptionTableEntry) (suf : List ExceptionTableEntry) (hsplit : c.exceptionTable.toList = pre ++ x :: suf)
    (hpass : ∀ z ∈ pre, covers z pc = false ∨ (z.catchType ≠ 0 ∧ ∃ nm : String, (Cond.classLink own z.catchType nm).before args s = true ∧ va_Nc E nm s)) (hx : covers x pc = true) (h0 : x.catchType ≠ 0)
    (hlink : (Cond.classLink own x.catchType name).before args s = true) (hcast : (Cond.castable E name).before args s = true) (hcell : H[q]? = some ce) (hv : ce.vm = .none) (hcl : s.vm.findClass E = some ce.cls)
    (kk : W p l e R s m args below meth c H locs cells slots Q (F0 m x.handlerPc ls [.ref q])) : vx_W p l e R s m args below meth c H locs cells slots Q (F0 m pc ls rest) q := by
  intro T hT X
  have hpl : e.platform.magicAccessors = ({} : Platform).magicAccessors := by rw [X.admits.platform]
  obtain ⟨c3, c4, hc3, hc4, hasg⟩ := Cond.castable_spec hcast
  cases Option.some.inj (hc3.symm.trans hcl)
  obtain ⟨c5, hc5, hcl5⟩ := Cond.classLink_spec hown hlink e.platform hpl
  cases Option.some.inj (hc4.symm.trans hc5)
  obtain ⟨vm', X', st⟩ := X.thenCaughtThrough q (g := F0 m pc ls rest) rfl (Steps.refl _) (by rw [hT]; exact hcell) (by rw [hv]; rfl) (by obtain ⟨k9, h9, -⟩ := Vm.findClass_spec hcl; exact ⟨k9, h9⟩) pre x suf hsplit
    (fun z hz => by
      rcases hpass z hz with h | ⟨hz0, nm, hl1, hn1⟩
      · exact Or.inl h
      · obtain ⟨c6, hc6, hcl6⟩ := Cond.classLink_spec hown hl1 e.platform hpl
        obtain ⟨a8, b8, h1, h2, h3⟩ := hn1
        cases Option.some.inj (h1.symm.trans hcl)
        cases Option.some.inj (h2.symm.trans hc6)
        exact Or.inr ⟨hz0, _, hcl6, h3⟩) hx (Or.inr ⟨h0, c4, hcl5, hasg⟩)
  obtain ⟨t, a1, b1⟩ := kk (T.setVm vm') hT X'
  exact ⟨t, st.trans a1, b1⟩
end Rows
section Ends
variable {p : Program} {l : Launch} {e : Env} {R : Room} {s : State} {m : MethodId} {args : Array Value} {below : List Frame} {meth : Method} {c : Code} {H : Heap} {locs : List Loc} {cells slots : Nat} {Q : State → Prop}
variable {mc ms : Nat} {free : Addr → Prop} {A0 A1 : Nat → Prop} {H0 : Heap} {a : Array Value} {ls : Array Slot} {st0 rest : List Value}
variable {Qc : Array Value → State → Outcome → State → Prop} {XC : String → State → State → Prop}
/-- what a body that may throw owes at its end -/
def vx_MQ (below : List Frame) (Qc : Array Value → State → Outcome → State → Prop) (XC : String → State → State → Prop) (a : Array Value) (s : State) (mc ms : Nat) (free : Addr → Prop) : State → Prop := fun t =>
  ∃ o, t.status = .running ∧ Ended t below o ∧ vx_Q Qc XC mc ms free a s o t
theorem vx_ret {g : JFrame} {mc ms : Nat} (k : W p l e R s m args below meth c H locs cells slots (MQ below Qc args s mc ms free) g) : W p l e R s m args below meth c H locs cells slots (vx_MQ below Qc XC args s mc ms free) g := by
  intro T hT X
  obtain ⟨t, a1, o, b1, b2, b3, b4⟩ := k T hT X
  exact ⟨t, a1, o, b1, b2, Or.inl ⟨b3, b4⟩⟩
/-- not caught here: it goes on to the caller -/
theorem vx_widen {g : JFrame} {q : Addr} {k n : Nat} (h1 : cells ≤ k) (h2 : slots ≤ n) (kk : vx_W p l e R s m args below meth c H locs k n Q g q) : vx_W p l e R s m args below meth c H locs cells slots Q g q := fun T hT X => kk T hT (stand_widen X h1 h2)
theorem vx_out {pc : Nat} {E : String} {ce : Cell} {q : Addr} {mc ms : Nat} (hout : ∀ x ∈ c.exceptionTable.toList, covers x pc = false) (hlocks : meth.locks = false) (hcell : H[q]? = some ce) (hv : ce.vm = .none) (hcl : s.vm.findClass E = some ce.cls)
    (hx : ∀ t : State, t.heap = H → s.vm.Alike t.vm → XC E s t) (hf : ∀ z ∈ locs, free z.base) (hc : cells ≤ mc) (hs : slots ≤ ms) :
    vx_W p l e R s m args below meth c H locs cells slots (vx_MQ below Qc XC args s mc ms free) (F0 m pc ls rest) q := by
  intro T hT X
  obtain ⟨st1, hrun, hend, hW, hsm⟩ := X.leaveThrown q (g := F0 m pc ls rest) rfl rfl rfl hout hlocks
  have hcell9 : (T.setFrames (.throwing q :: below)).heap[q]? = some ce := by
    show T.heap[q]? = some ce
    rw [hT]; exact hcell
  exact ⟨_, st1, .threw q, hrun, hend, Or.inr ⟨q, rfl, E, ce, locs, hx _ hT hW.alike, hcell9, hv, hcl, hW, hsm.mono hc hs, hf⟩⟩
theorem vx_frame {U : State} {k n : Nat} (h : s.sameButNew ({ U with vm := s.vm } : State) locs k n) : s.heap.size ≤ U.heap.size ∧ ∀ q : Nat, q < s.heap.size → (∀ z ∈ locs, z.base ≠ q) → U.heap[q]? = s.heap[q]? := by
  obtain ⟨-, h2, -, -, -, h6⟩ := h
  refine ⟨h2, fun q hq hz => ?_⟩
  obtain ⟨c9, e1, e2, e3, e4⟩ := h6 q _ (Array.getElem?_eq_getElem hq)
  have hs : c9.slots = (s.heap[q]).slots := Array.ext_getElem? fun i => e4 i fun hm => hz _ hm rfl
  have h9 : c9 = s.heap[q] := by
    rw [hs] at e2
    exact e2
  have e5 : U.heap[q]? = some c9 := e1
  rw [e5, h9, Array.getElem?_eq_getElem hq]
/-- the words of a throw but the four that speak of the heap -/
def vx_no (w : Cond) : Bool := decide (w ≠ .isRef (.static Bundle.tN "UNASSIGNED_STACK" Bundle.steD)) && decide (w ≠ .isRef (.static Bundle.tN "SUPPRESSED_SENTINEL" Bundle.listD)) && decide (w ≠ .laysStatic Bundle.tN "UNASSIGNED_STACK" Bundle.steD) && decide (w ≠ .laysStatic Bundle.tN "SUPPRESSED_SENTINEL" Bundle.listD)
def vx_at0 (own : String) (ic : Nat) (X : String) (names : List String) : List Cond := (Bundle.ownAtoms0 own ic X names).filter vx_no
def vx_atS (own : String) (ic : Nat) (X : String) (names : List String) : List Cond := (Bundle.ownAtoms own ic X names).filter vx_no
/-- a word that the tables alone decide, or a good one -/
def vx_ot (w : Cond) : Bool := w.onTables || goodWord w
theorem vx_ot_at {args a' : Array Value} {s U : State} {w : Cond} (hW : s.WarmedH U.vm) (hvm : s.vm = U.vm) (hg : vx_ot w = true) (h : w.before args s = true) : w.before a' U = true := by
  simp only [vx_ot, Bool.or_eq_true] at hg
  rcases hg with hg | hg
  · exact va_tabs hg hvm h
  · exact word_at hW (good_of_word hg) h
/-- a list's words: the good ones out of the method's own list, the others by premises of their own -/
theorem vx_hat {args : Array Value} {s : State} {L B : List Cond} (h1 : ∀ w ∈ L.filter goodWord, w.before args s = true) (h2 : ∀ w ∈ L.filter (fun w => !goodWord w), w ∈ B) (h3 : ∀ w ∈ B, w.before args s = true) : ∀ w ∈ L, w.before args s = true := by
  intro w hw
  by_cases g : goodWord w = true
  · exact h1 w (List.mem_filter.mpr ⟨hw, g⟩)
  · refine h3 w (h2 w (List.mem_filter.mpr ⟨hw, ?_⟩))
    show (!goodWord w) = true
    cases hgw : goodWord w
    · rfl
    · exact absurd hgw g
theorem vx_c {args : Array Value} {s : State} {w : Cond} {B : List Cond} (h : w.before args s = true) (t : ∀ w ∈ B, w.before args s = true) : ∀ w' ∈ w :: B, w'.before args s = true := fun w' h' => (List.mem_cons.mp h').elim (fun e => by rw [e]; exact h) (t w')
theorem vx_n {args : Array Value} {s : State} : ∀ w ∈ ([] : List Cond), w.before args s = true := fun _ h => nomatch h
theorem vx_own {args : Array Value} {s : State} {L : List Cond} (h1 : ∀ w ∈ L.filter vx_no, w.before args s = true)
    (hU : (Cond.isRef (.static Bundle.tN "UNASSIGNED_STACK" Bundle.steD)).before args s = true) (hN : (Cond.isRef (.static Bundle.tN "SUPPRESSED_SENTINEL" Bundle.listD)).before args s = true)
    (lU : (Cond.laysStatic Bundle.tN "UNASSIGNED_STACK" Bundle.steD).before args s = true) (lN : (Cond.laysStatic Bundle.tN "SUPPRESSED_SENTINEL" Bundle.listD).before args s = true) : ∀ w ∈ L, w.before args s = true := by
  intro w hw
  by_cases e1 : w = .isRef (.static Bundle.tN "UNASSIGNED_STACK" Bundle.steD)
  · rw [e1]; exact hU
  · by_cases e2 : w = .isRef (.static Bundle.tN "SUPPRESSED_SENTINEL" Bundle.listD)
    · rw [e2]; exact hN
    · by_cases e3 : w = .laysStatic Bundle.tN "UNASSIGNED_STACK" Bundle.steD
      · rw [e3]; exact lU
      · by_cases e4 : w = .laysStatic Bundle.tN "SUPPRESSED_SENTINEL" Bundle.listD
        · rw [e4]; exact lN
        · exact h1 w (List.mem_filter.mpr ⟨hw, by unfold vx_no; rw [decide_eq_true e1, decide_eq_true e2, decide_eq_true e3, decide_eq_true e4]; rfl⟩)
/-- where a static field lies, its class's statics cell in H -/
def vx_L (C n d : String) (A : Nat → Prop) (U : State) (H : Heap) : Prop := ∃ (c : ClassId) (k : Class) (i : Nat) (f : Field) (a : Nat) (cell : Cell), U.vm.findClass C = some c ∧ U.fieldFound? C n d = some (c, k, i, f) ∧ f.isStatic = true ∧ k.statics = some a ∧ H[a]? = some cell ∧ cell.vm.isStatics = true ∧ cell.cls = c ∧ f.slot < cell.slots.size ∧ k.staticTypes[f.slot]? = some f.type ∧ ¬ A a
theorem vx_L.moved {C n d : String} {A : Nat → Prop} {u U : State} {H : Heap} (hvm : u.vm.Alike U.vm) (h : vx_L C n d A u H) : vx_L C n d A U H := by
  obtain ⟨c, k, i, f, a, cell, h1, h2, h3, h4, h5, h6, h7, h8, h9, h10⟩ := h
  obtain ⟨k', hi', he⟩ := State.fieldFound?_setVm hvm h2
  exact ⟨c, k', i, f, a, cell, by rw [hvm.findClass]; exact h1, hi', h3, by rw [he]; exact h4, h5, h6, h7, h8, by rw [he]; exact h9, h10⟩
theorem vx_L.kept {C n d : String} {A : Nat → Prop} {U : State} {H H1 : Heap} (h : vx_L C n d A U H) (hq : ∀ a : Nat, a < H.size → ¬ A a → H1[a]? = H[a]?) : vx_L C n d A U H1 := by
  obtain ⟨c, k, i, f, a, cell, h1, h2, h3, h4, h5, h6, h7, h8, h9, h10⟩ := h
  exact ⟨c, k, i, f, a, cell, h1, h2, h3, h4, by rw [hq a (Array.getElem?_eq_some_iff.mp h5).1 h10]; exact h5, h6, h7, h8, h9, h10⟩
theorem vx_L.narrow {C n d : String} {A B : Nat → Prop} {U : State} {H : Heap} (h : vx_L C n d A U H) (hAB : ∀ q, B q → A q) : vx_L C n d B U H := by
  obtain ⟨c, k, i, f, a, cell, h1, h2, h3, h4, h5, h6, h7, h8, h9, h10⟩ := h
  exact ⟨c, k, i, f, a, cell, h1, h2, h3, h4, h5, h6, h7, h8, h9, fun z => h10 (hAB _ z)⟩
theorem vx_L.word {C n d : String} {A : Nat → Prop} {s : State} {args : Array Value} (h : vx_L C n d A s s.heap) : (Cond.laysStatic C n d).before args s = true := by
  obtain ⟨c, k, i, f, a, cell, h1, h2, h3, h4, h5, h6, h7, h8, h9, -⟩ := h
  show (Cond.laysStatic C n d).holds args s none s [] = true
  exact Cond.laysStatic_of h1 h2 h3 h4 h5 h6 h7 h8 h9
/-- .. and what it holds: null or some reference -/
def vx_Zq (C n d : String) (A : Nat → Prop) (U : State) (H : Heap) : Prop := va_Zq C n d A U H ∧ vx_L C n d A U H
theorem vx_Zq.moved {C n d : String} {A : Nat → Prop} {u U : State} {H : Heap} (hvm : u.vm.Alike U.vm) (h : vx_Zq C n d A u H) : vx_Zq C n d A U H := ⟨va_Zq.moved hvm h.1, vx_L.moved hvm h.2⟩
theorem vx_Zq.kept {C n d : String} {A : Nat → Prop} {U : State} {H H1 : Heap} (h : vx_Zq C n d A U H) (hq : ∀ a : Nat, a < H.size → ¬ A a → H1[a]? = H[a]?) : vx_Zq C n d A U H1 := ⟨va_Zq.kept h.1 hq, vx_L.kept h.2 hq⟩
theorem vx_Zq.narrow {C n d : String} {A B : Nat → Prop} {U : State} {H : Heap} (h : vx_Zq C n d A U H) (hAB : ∀ q, B q → A q) : vx_Zq C n d B U H := ⟨va_Zq.narrow h.1 hAB, vx_L.narrow h.2 hAB⟩
theorem vx_Zqof {args : Array Value} {s : State} {C n d : String} {A : Nat → Prop} (hl : (Cond.laysStatic C n d).before args s = true) (hini : (Cond.initialized C).before args s = true) (h : (Cond.isRef (.static C n d)).before args s = true) (hA : ∀ a : Nat, a < s.heap.size → ¬ A a) : vx_Zq C n d A s s.heap := by
  refine ⟨va_Zqof hl hini h hA, ?_⟩
  obtain ⟨c, k, i, f, a, cell, h1, h2, h3, h4, h5, h6, h7, h8, h9⟩ := Cond.laysStatic_spec hl
  exact ⟨c, k, i, f, a, cell, h1, h2, h3, h4, h5, h6, h7, h8, h9, hA a (Array.getElem?_eq_some_iff.mp h5).1⟩
theorem vx_isRef {C n d : String} {v : Value} {A : Nat → Prop} {s : State} {args : Array Value} (h : va_Z C n d v A s s.heap) (hv : v.isRef = true) : (Cond.isRef (.static C n d)).before args s = true := by
  obtain ⟨cf, kf, fi, f, a, cell, h1, h2, h3, h4, h5, h6, h7, -⟩ := h
  have he : (Term.static C n d).eval args s none [] s = some v := by
    simp [Term.eval, State.fieldNamed?, h1, h2, h4, h5, h6, h7]
  simp only [Cond.before, Cond.holds, Cond.value, he]
  cases v <;> simp_all [Value.isRef]
theorem vx_isRefq {C n d : String} {A : Nat → Prop} {s : State} {args : Array Value} (h : va_Zq C n d A s s.heap) : (Cond.isRef (.static C n d)).before args s = true := by
  rcases h with h | ⟨t, h⟩
  · exact vx_isRef h rfl
  · exact vx_isRef h rfl
/-- the same frame, seen from here: as if the method were called anew in this heap -/
theorem vx_rebase {T : State} (X : Stand p l e R s m args below meth c T locs cells slots) {R' : Room} (hf : R'.frames ≤ R.frames) (hl : R'.locals ≤ R.locals) (hc : cells + R'.cells ≤ R.cells) (hs : slots + R'.slots ≤ R.slots) :
    Stand p l e R' ((T.setVm s.vm).setFrames (.invoking m args :: below)) m args below meth c T [] 0 0 := by
  have htop : (T.setVm s.vm).topJava?.isSome := X.here.top
  have hF : ((T.setVm s.vm).setFrames (.invoking m args :: below)).frames = .invoking m args :: below := State.frames_setFrames _ (State.cur_lt_of_top htop)
  obtain ⟨g₀, hg0⟩ := Option.isSome_iff_exists.mp htop
  obtain ⟨r, hr⟩ := State.topJava?_eq_some.mp hg0
  have hl9 : e.platform.stackLimits (T.setVm s.vm).me = e.platform.stackLimits s.me := X.limits
  have hb9 : (T.setVm s.vm).me.stackBytes = s.me.stackBytes := X.bytes
  refine ⟨X.admits, X.cas, X.clock, hF, ?_, X.hears, X.method, X.code, X.here, X.tail, X.warmed, ?_, ?_, ?_⟩
  · have h := X.room
    have hU : ((T.setVm s.vm).setFrames (.invoking m args :: below)).localsInUse = s.localsInUse := by
      rw [State.localsInUse_invoking hF (meth := meth) (c := c) X.method X.code, State.localsInUse_invoking X.frames X.method X.code]
    simp only [State.hasRoom, Bool.and_eq_true, decide_eq_true_eq] at h ⊢
    obtain ⟨⟨⟨⟨h1, h2, h3, h4, h5, h6⟩, h7⟩, h8⟩, h9⟩ := h
    rw [X.frames, List.length_cons] at h2 h3
    have q1 := X.heapSize
    have q2 := X.used
    simp only [hF, hU, List.length_cons, State.stackLimits_setFrames, State.stackBytes_setFrames, hl9, hb9]
    refine ⟨⟨⟨⟨by omega, by omega, by omega, by omega, by omega, h6⟩, ?_⟩, ?_⟩, X.book⟩
    · show T.heap.size + R'.cells ≤ e.platform.maxCells
      omega
    · show T.slotsUsed + R'.slots ≤ e.platform.maxSlots
      omega
  · rw [State.stackLimits_setFrames]; rfl
  · rw [State.stackBytes_setFrames]; rfl
  · refine ⟨?_, Nat.le_refl _, Nat.le_refl _, ?_, ?_, fun a c9 h9 => ⟨c9, h9, rfl, rfl, fun _ _ => rfl⟩⟩
    · obtain ⟨t, ht, -⟩ := State.frames_cons hr
      show T.setVm s.vm = { ((T.setVm s.vm).setFrames (.invoking m args :: below)).setFrames (T.setVm s.vm).frames with heap := T.heap, slotsUsed := T.slotsUsed }
      rw [State.setFrames_setFrames, State.setFrames_self ht]
      rfl
    · show T.slotsUsed = T.slotsUsed + ((T.heap.toList.drop T.heap.size).map (·.slots.size)).sum
      rw [List.drop_eq_nil_of_le (Nat.le_of_eq Array.length_toList)]
      rfl
    · show ((T.heap.toList.drop T.heap.size).map (·.slots.size)).sum ≤ 0
      rw [List.drop_eq_nil_of_le (Nat.le_of_eq Array.length_toList)]
      exact Nat.le_refl _
/-- 'throw new E()': new; dup; invokespecial; athrow -/
theorem vx_throw0 {cc : ByteArray} {pc : Nat} (hexec : p.tables.exec = Jvm.exec) (hb : c.code = cc) (hl : l.stackTraces = false) {own cls : String} {names : List String} {ik ic mc ms : Nat} {A : Nat → Prop}
    (hown : s.vm.findClass own = some m.cls) (hcls : Bundle.fit cls = true) (hnames : ∀ n ∈ names, Bundle.fit n = true)
    (hk : (Cond.classLink own ik cls).before args s = true) (hini : (Cond.initialized cls).before args s = true) (hat : ∀ w ∈ vx_at0 own ic cls names, w.before args s = true)
    (hgood : ∀ w ∈ Cond.classLink own ik cls :: Cond.initialized cls :: vx_at0 own ic cls names, vx_ot w = true)
    (hU : vx_Zq Bundle.tN "UNASSIGNED_STACK" Bundle.steD A s s.heap) (hN : vx_Zq Bundle.tN "SUPPRESSED_SENTINEL" Bundle.listD A s s.heap) (hS : va_S A s.heap H locs) (hsize : ls.size = c.maxLocals)
    (d0 : decode cc pc = .ok (.new ik, 3)) (d3 : decode cc (pc + 3) = .ok (.dup, 1)) (d4 : decode cc (pc + 4) = .ok (.invokespecial ic, 3)) (d7 : decode cc (pc + 7) = .ok (.athrow, 1))
    (hout : ∀ x ∈ c.exceptionTable.toList, covers x (pc + 7) = false)
    (hRframes : names.length + 3 < R.frames) (hRlocals : (rest.map fun v => v.category).sum + (13 * (names.length + 1) + 42) ≤ R.locals) (hRcells : cells + 1 ≤ R.cells) (hRslots : slots + 6 ≤ R.slots) (hlocks : meth.locks = false)
    (hx : ∀ t : State, s.vm.Alike t.vm → H.size ≤ t.heap.size → (∀ q : Nat, q < H.size → t.heap[q]? = H[q]?) → XC cls s t)
    (hf : ∀ z ∈ locs, free z.base) (hc : cells + 1 ≤ mc) (hs : slots + 6 ≤ ms) :
    W p l e R s m args below meth c H locs cells slots (vx_MQ below Qc XC args s mc ms free) (F0 m pc ls rest) := by
  intro T hT X
  have htr : e.platform.stackTraces = false := (show e.platform.stackTraces = l.stackTraces by rw [X.admits.platform]).trans hl
  have Y := vx_rebase X (R' := { frames := R.frames, locals := R.locals, cells := 1, slots := 6 }) (Nat.le_refl _) (Nat.le_refl _) hRcells hRslots
  obtain ⟨s', hA⟩ : ∃ z, z = (T.setVm s.vm).setFrames (.invoking m args :: below) := ⟨_, rfl⟩
  rw [← hA] at Y
  have hvm : s'.vm = s.vm := by rw [hA]; rfl
  have hhp : s'.heap = H := by rw [hA]; exact hT
  have hW0 : s.WarmedH s'.vm := by rw [hvm]; exact State.WarmedH.refl s
  have hat' : ∀ w ∈ vx_at0 own ic cls names, w.before args s' = true := fun w hw => vx_ot_at hW0 hvm.symm (hgood w (List.mem_cons_of_mem _ (List.mem_cons_of_mem _ hw))) (hat w hw)
  have hk' : (Cond.classLink own ik cls).before args s' = true := vx_ot_at hW0 hvm.symm (hgood _ List.mem_cons_self) hk
  have hini' : (Cond.initialized cls).before args s' = true := vx_ot_at hW0 hvm.symm (hgood _ (List.mem_cons_of_mem _ List.mem_cons_self)) hini
  have hU' : vx_Zq Bundle.tN "UNASSIGNED_STACK" Bundle.steD A s' s'.heap := by rw [hhp]; exact vx_Zq.moved hW0.alike (hU.kept hS.2.1)
  have hN' : vx_Zq Bundle.tN "SUPPRESSED_SENTINEL" Bundle.listD A s' s'.heap := by rw [hhp]; exact vx_Zq.moved hW0.alike (hN.kept hS.2.1)
  have h : ∀ w ∈ Bundle.ownAtoms0 own ic cls names, w.before args s' = true := vx_own hat' (vx_isRefq hU'.1) (vx_isRefq hN'.1) hU'.2.word hN'.2.word
  have hown' : s'.vm.findClass own = some m.cls := by rw [hvm]; exact hown
  have hins : (Cond.instantiable cls 6).before args s' = true := h _ (by simp [Bundle.ownAtoms0])
  obtain ⟨vm₁, cX, kX, hfX, hkX, -, -, X₁, st1⟩ := Y.newCold hexec (own := own) (C := cls) (index := ik) (n := 6) hown' hk' hins hini'
    (g := F0 m pc ls rest) rfl (by rw [hb]; exact d0) (Nat.le_refl _) (Nat.le_refl _)
  generalize hT1 : (T.setVm vm₁).pushCell { cls := cX, slots := kX.instanceTypes.map defaultValue, vm := .none } = T1 at X₁ st1
  have hcat : (Value.ref T.heap.size).category = 1 := rfl
  have hcellA : T1.heap[T.heap.size]? = some (freshCell cX kX) := by rw [← hT1]; exact State.heap_pushCell_size _ _
  have d3' : decode c.code (pc + 3) = .ok (.dup, 1) := by rw [hb]; exact d3
  obtain ⟨U, hsteps, hrun, hend, hW, hsame, ce, hce, hO⟩ := X₁.ctorThrow0 hexec htr (own := own) (cls := cls) (names := names) (ic := ic) hown' hcls hnames h (fun x hx => nomatch hx) hfX hkX hcellA (by rw [hhp, hT]; exact Nat.le_refl _)
    (g := { method := m, pc := pc + 4, locals := ls, stack := .ref T.heap.size :: .ref T.heap.size :: rest, locked := none }) rfl hsize rfl rfl (rest := rest) rfl
    (by rw [hb]; exact d4) (by rw [hb]; exact d7) hout hRframes (by simp only [List.map_cons, List.sum_cons, hcat]; omega) hlocks
  obtain ⟨f1, f2⟩ := vx_frame hsame
  rw [hhp] at f1 f2
  have hWs : s.WarmedH U.vm := State.WarmedH.trans hW0 hW
  have hcl : s.vm.findClass cls = some ce.cls := by
    have h9 := hO.cls
    rw [hvm] at h9
    exact h9
  have hall : s.sameButNew ({ U with vm := s.vm } : State) locs mc ms := by
    subst hA
    obtain ⟨e1, e2⟩ := hsame
    rw [State.setFrames_setFrames] at e1
    have h2 : (T.setVm s.vm).sameButNew ({ U with vm := s.vm } : State) [] (0 + 1) (0 + 6) := ⟨e1, e2⟩
    have h3 := X.same.trans h2
    rw [List.append_nil] at h3
    exact h3.mono hc hs
  refine ⟨U, ?_, .threw T.heap.size, hrun, hend, Or.inr ⟨T.heap.size, rfl, cls, ce, locs, hx U hWs.alike f1 (fun q hq => f2 q hq (fun z hz => nomatch hz)), hce, hO.vm, hcl, hWs, hall, hf⟩⟩
  refine st1 _ ?_
  show Steps p.tables e below (T1.setTop { method := m, pc := pc + 3, locals := ls, stack := .ref T.heap.size :: rest, locked := none }) _
  jvm_step X₁.here [X₁.here.top, hexec, d3', Value.category]
  exact hsteps
/-- 'throw new E("text")': new; dup; ldc; invokespecial; athrow -/
theorem vx_throwS {cc : ByteArray} {pc : Nat} (hexec : p.tables.exec = Jvm.exec) (hb : c.code = cc) (hl : l.stackTraces = false) {own cls text : String} {names : List String} {ik is ic mc ms sa : Nat} {A : Nat → Prop}
    (hown : s.vm.findClass own = some m.cls) (hcls : Bundle.fit cls = true) (hnames : ∀ n ∈ names, Bundle.fit n = true)
    (hk : (Cond.classLink own ik cls).before args s = true) (hini : (Cond.initialized cls).before args s = true) (hstr : vk_R own is text sa s) (hat : ∀ w ∈ vx_atS own ic cls names, w.before args s = true)
    (hgood : ∀ w ∈ Cond.classLink own ik cls :: Cond.initialized cls :: vx_atS own ic cls names, vx_ot w = true)
    (hU : vx_Zq Bundle.tN "UNASSIGNED_STACK" Bundle.steD A s s.heap) (hN : vx_Zq Bundle.tN "SUPPRESSED_SENTINEL" Bundle.listD A s s.heap) (hS : va_S A s.heap H locs) (hsize : ls.size = c.maxLocals)
    (d0 : decode cc pc = .ok (.new ik, 3)) (d3 : decode cc (pc + 3) = .ok (.dup, 1)) (d4 : decode cc (pc + 4) = .ok (.ldc is, 2)) (d6 : decode cc (pc + 6) = .ok (.invokespecial ic, 3)) (d9 : decode cc (pc + 9) = .ok (.athrow, 1))
    (hout : ∀ x ∈ c.exceptionTable.toList, covers x (pc + 9) = false)
    (hRframes : names.length + 3 < R.frames) (hRlocals : (rest.map fun v => v.category).sum + (13 * (names.length + 1) + 43) ≤ R.locals) (hRcells : cells + 1 ≤ R.cells) (hRslots : slots + 6 ≤ R.slots) (hlocks : meth.locks = false)
    (hx : ∀ t : State, s.vm.Alike t.vm → H.size ≤ t.heap.size → (∀ q : Nat, q < H.size → t.heap[q]? = H[q]?) → XC cls s t)
    (hf : ∀ z ∈ locs, free z.base) (hc : cells + 1 ≤ mc) (hs : slots + 6 ≤ ms) :
    W p l e R s m args below meth c H locs cells slots (vx_MQ below Qc XC args s mc ms free) (F0 m pc ls rest) := by
  intro T hT X
  have htr : e.platform.stackTraces = false := (show e.platform.stackTraces = l.stackTraces by rw [X.admits.platform]).trans hl
  have Y := vx_rebase X (R' := { frames := R.frames, locals := R.locals, cells := 1, slots := 6 }) (Nat.le_refl _) (Nat.le_refl _) hRcells hRslots
  obtain ⟨s', hA⟩ : ∃ z, z = (T.setVm s.vm).setFrames (.invoking m args :: below) := ⟨_, rfl⟩
  rw [← hA] at Y
  have hvm : s'.vm = s.vm := by rw [hA]; rfl
  have hhp : s'.heap = H := by rw [hA]; exact hT
  have hW0 : s.WarmedH s'.vm := by rw [hvm]; exact State.WarmedH.refl s
  have hat' : ∀ w ∈ vx_atS own ic cls names, w.before args s' = true := fun w hw => vx_ot_at hW0 hvm.symm (hgood w (List.mem_cons_of_mem _ (List.mem_cons_of_mem _ hw))) (hat w hw)
  have hk' : (Cond.classLink own ik cls).before args s' = true := vx_ot_at hW0 hvm.symm (hgood _ List.mem_cons_self) hk
  have hini' : (Cond.initialized cls).before args s' = true := vx_ot_at hW0 hvm.symm (hgood _ (List.mem_cons_of_mem _ List.mem_cons_self)) hini
  have hU' : vx_Zq Bundle.tN "UNASSIGNED_STACK" Bundle.steD A s' s'.heap := by rw [hhp]; exact vx_Zq.moved hW0.alike (hU.kept hS.2.1)
  have hN' : vx_Zq Bundle.tN "SUPPRESSED_SENTINEL" Bundle.listD A s' s'.heap := by rw [hhp]; exact vx_Zq.moved hW0.alike (hN.kept hS.2.1)
  have h : ∀ w ∈ Bundle.ownAtoms own ic cls names, w.before args s' = true := vx_own hat' (vx_isRefq hU'.1) (vx_isRefq hN'.1) hU'.2.word hN'.2.word
  have hown' : s'.vm.findClass own = some m.cls := by rw [hvm]; exact hown
  have hins : (Cond.instantiable cls 6).before args s' = true := h _ (by simp [Bundle.ownAtoms])
  obtain ⟨vm₁, cX, kX, hfX, hkX, -, -, X₁, st1⟩ := Y.newCold hexec (own := own) (C := cls) (index := ik) (n := 6) hown' hk' hins hini'
    (g := F0 m pc ls rest) rfl (by rw [hb]; exact d0) (Nat.le_refl _) (Nat.le_refl _)
  generalize hT1 : (T.setVm vm₁).pushCell { cls := cX, slots := kX.instanceTypes.map defaultValue, vm := .none } = T1 at X₁ st1
  have hcat : (Value.ref T.heap.size).category = 1 := rfl
  have hcellA : T1.heap[T.heap.size]? = some (freshCell cX kX) := by rw [← hT1]; exact State.heap_pushCell_size _ _
  have d3' : decode c.code (pc + 3) = .ok (.dup, 1) := by rw [hb]; exact d3
  have d4' : decode c.code (pc + 4) = .ok (.ldc is, 2) := by rw [hb]; exact d4
  have hstr' : vk_R own is text sa s' := vk_R.warm hW0 hstr
  obtain ⟨U, hsteps, hrun, hend, hW, hsame, ce, hce, hO⟩ := X₁.ctorThrowS hexec htr (own := own) (cls := cls) (names := names) (ic := ic) hown' hcls hnames h (fun x hx => nomatch hx) hfX hkX hcellA (by rw [hhp, hT]; exact Nat.le_refl _) (msg := .ref sa) rfl
    (g := { method := m, pc := pc + 6, locals := ls, stack := .ref sa :: .ref T.heap.size :: .ref T.heap.size :: rest, locked := none }) rfl hsize rfl rfl (rest := rest) rfl
    (by rw [hb]; exact d6) (by rw [hb]; exact d9) hout hRframes (by simp only [List.map_cons, List.sum_cons, hcat]; omega) hlocks
  obtain ⟨f1, f2⟩ := vx_frame hsame
  rw [hhp] at f1 f2
  have hWs : s.WarmedH U.vm := State.WarmedH.trans hW0 hW
  have hcl : s.vm.findClass cls = some ce.cls := by
    have h9 := hO.cls
    rw [hvm] at h9
    exact h9
  have hall : s.sameButNew ({ U with vm := s.vm } : State) locs mc ms := by
    subst hA
    obtain ⟨e1, e2⟩ := hsame
    rw [State.setFrames_setFrames] at e1
    have h2 : (T.setVm s.vm).sameButNew ({ U with vm := s.vm } : State) [] (0 + 1) (0 + 6) := ⟨e1, e2⟩
    have h3 := X.same.trans h2
    rw [List.append_nil] at h3
    exact h3.mono hc hs
  refine ⟨U, ?_, .threw T.heap.size, hrun, hend, Or.inr ⟨T.heap.size, rfl, cls, ce, locs, hx U hWs.alike f1 (fun q hq => f2 q hq (fun z hz => nomatch hz)), hce, hO.vm, hcl, hWs, hall, hf⟩⟩
  refine st1 _ ?_
  show Steps p.tables e below (T1.setTop { method := m, pc := pc + 3, locals := ls, stack := .ref T.heap.size :: rest, locked := none }) _
  jvm_step X₁.here [X₁.here.top, hexec, d3', Value.category]
  exact X₁.ldcString hexec (own := own) (text := text) (index := is) (a := sa) hown' hstr'.1 hstr'.2
    (g := { method := m, pc := pc + 4, locals := ls, stack := .ref T.heap.size :: .ref T.heap.size :: rest, locked := none }) rfl d4' _ hsteps
/-- 'throw new E("text")', the text by a wide index -/
theorem vx_throwSW {cc : ByteArray} {pc : Nat} (hexec : p.tables.exec = Jvm.exec) (hb : c.code = cc) (hl : l.stackTraces = false) {own cls text : String} {names : List String} {ik is ic mc ms sa : Nat} {A : Nat → Prop}
    (hown : s.vm.findClass own = some m.cls) (hcls : Bundle.fit cls = true) (hnames : ∀ n ∈ names, Bundle.fit n = true)
    (hk : (Cond.classLink own ik cls).before args s = true) (hini : (Cond.initialized cls).before args s = true) (hstr : vk_R own is text sa s) (hat : ∀ w ∈ vx_atS own ic cls names, w.before args s = true)
    (hgood : ∀ w ∈ Cond.classLink own ik cls :: Cond.initialized cls :: vx_atS own ic cls names, vx_ot w = true)
    (hU : vx_Zq Bundle.tN "UNASSIGNED_STACK" Bundle.steD A s s.heap) (hN : vx_Zq Bundle.tN "SUPPRESSED_SENTINEL" Bundle.listD A s s.heap) (hS : va_S A s.heap H locs) (hsize : ls.size = c.maxLocals)
    (d0 : decode cc pc = .ok (.new ik, 3)) (d3 : decode cc (pc + 3) = .ok (.dup, 1)) (d4 : decode cc (pc + 4) = .ok (.ldc_w is, 3)) (d7 : decode cc (pc + 7) = .ok (.invokespecial ic, 3)) (d10 : decode cc (pc + 10) = .ok (.athrow, 1))
    (hout : ∀ x ∈ c.exceptionTable.toList, covers x (pc + 10) = false)
    (hRframes : names.length + 3 < R.frames) (hRlocals : (rest.map fun v => v.category).sum + (13 * (names.length + 1) + 43) ≤ R.locals) (hRcells : cells + 1 ≤ R.cells) (hRslots : slots + 6 ≤ R.slots) (hlocks : meth.locks = false)
    (hx : ∀ t : State, s.vm.Alike t.vm → H.size ≤ t.heap.size → (∀ q : Nat, q < H.size → t.heap[q]? = H[q]?) → XC cls s t)
    (hf : ∀ z ∈ locs, free z.base) (hc : cells + 1 ≤ mc) (hs : slots + 6 ≤ ms) :
    W p l e R s m args below meth c H locs cells slots (vx_MQ below Qc XC args s mc ms free) (F0 m pc ls rest) := by
  intro T hT X
  have htr : e.platform.stackTraces = false := (show e.platform.stackTraces = l.stackTraces by rw [X.admits.platform]).trans hl
  have Y := vx_rebase X (R' := { frames := R.frames, locals := R.locals, cells := 1, slots := 6 }) (Nat.le_refl _) (Nat.le_refl _) hRcells hRslots
  obtain ⟨s', hA⟩ : ∃ z, z = (T.setVm s.vm).setFrames (.invoking m args :: below) := ⟨_, rfl⟩
  rw [← hA] at Y
  have hvm : s'.vm = s.vm := by rw [hA]; rfl
  have hhp : s'.heap = H := by rw [hA]; exact hT
  have hW0 : s.WarmedH s'.vm := by rw [hvm]; exact State.WarmedH.refl s
  have hat' : ∀ w ∈ vx_atS own ic cls names, w.before args s' = true := fun w hw => vx_ot_at hW0 hvm.symm (hgood w (List.mem_cons_of_mem _ (List.mem_cons_of_mem _ hw))) (hat w hw)
  have hk' : (Cond.classLink own ik cls).before args s' = true := vx_ot_at hW0 hvm.symm (hgood _ List.mem_cons_self) hk
  have hini' : (Cond.initialized cls).before args s' = true := vx_ot_at hW0 hvm.symm (hgood _ (List.mem_cons_of_mem _ List.mem_cons_self)) hini
  have hU' : vx_Zq Bundle.tN "UNASSIGNED_STACK" Bundle.steD A s' s'.heap := by rw [hhp]; exact vx_Zq.moved hW0.alike (hU.kept hS.2.1)
  have hN' : vx_Zq Bundle.tN "SUPPRESSED_SENTINEL" Bundle.listD A s' s'.heap := by rw [hhp]; exact vx_Zq.moved hW0.alike (hN.kept hS.2.1)
  have h : ∀ w ∈ Bundle.ownAtoms own ic cls names, w.before args s' = true := vx_own hat' (vx_isRefq hU'.1) (vx_isRefq hN'.1) hU'.2.word hN'.2.word
  have hown' : s'.vm.findClass own = some m.cls := by rw [hvm]; exact hown
  have hins : (Cond.instantiable cls 6).before args s' = true := h _ (by simp [Bundle.ownAtoms])
  obtain ⟨vm₁, cX, kX, hfX, hkX, -, -, X₁, st1⟩ := Y.newCold hexec (own := own) (C := cls) (index := ik) (n := 6) hown' hk' hins hini'
    (g := F0 m pc ls rest) rfl (by rw [hb]; exact d0) (Nat.le_refl _) (Nat.le_refl _)
  generalize hT1 : (T.setVm vm₁).pushCell { cls := cX, slots := kX.instanceTypes.map defaultValue, vm := .none } = T1 at X₁ st1
  have hcat : (Value.ref T.heap.size).category = 1 := rfl
  have hcellA : T1.heap[T.heap.size]? = some (freshCell cX kX) := by rw [← hT1]; exact State.heap_pushCell_size _ _
  have d3' : decode c.code (pc + 3) = .ok (.dup, 1) := by rw [hb]; exact d3
  have d4' : decode c.code (pc + 4) = .ok (.ldc_w is, 3) := by rw [hb]; exact d4
  have hstr' : vk_R own is text sa s' := vk_R.warm hW0 hstr
  obtain ⟨U, hsteps, hrun, hend, hW, hsame, ce, hce, hO⟩ := X₁.ctorThrowS hexec htr (own := own) (cls := cls) (names := names) (ic := ic) hown' hcls hnames h (fun x hx => nomatch hx) hfX hkX hcellA (by rw [hhp, hT]; exact Nat.le_refl _) (msg := .ref sa) rfl
    (g := { method := m, pc := pc + 7, locals := ls, stack := .ref sa :: .ref T.heap.size :: .ref T.heap.size :: rest, locked := none }) rfl hsize rfl rfl (rest := rest) rfl
    (by rw [hb]; exact d7) (by rw [hb]; exact d10) hout hRframes (by simp only [List.map_cons, List.sum_cons, hcat]; omega) hlocks
  obtain ⟨f1, f2⟩ := vx_frame hsame
  rw [hhp] at f1 f2
  have hWs : s.WarmedH U.vm := State.WarmedH.trans hW0 hW
  have hcl : s.vm.findClass cls = some ce.cls := by
    have h9 := hO.cls
    rw [hvm] at h9
    exact h9
  have hall : s.sameButNew ({ U with vm := s.vm } : State) locs mc ms := by
    subst hA
    obtain ⟨e1, e2⟩ := hsame
    rw [State.setFrames_setFrames] at e1
    have h2 : (T.setVm s.vm).sameButNew ({ U with vm := s.vm } : State) [] (0 + 1) (0 + 6) := ⟨e1, e2⟩
    have h3 := X.same.trans h2
    rw [List.append_nil] at h3
    exact h3.mono hc hs
  refine ⟨U, ?_, .threw T.heap.size, hrun, hend, Or.inr ⟨T.heap.size, rfl, cls, ce, locs, hx U hWs.alike f1 (fun q hq => f2 q hq (fun z hz => nomatch hz)), hce, hO.vm, hcl, hWs, hall, hf⟩⟩
  refine st1 _ ?_
  show Steps p.tables e below (T1.setTop { method := m, pc := pc + 3, locals := ls, stack := .ref T.heap.size :: rest, locked := none }) _
  jvm_step X₁.here [X₁.here.top, hexec, d3', Value.category]
  exact X₁.ldcStringW hexec (own := own) (text := text) (index := is) (a := sa) hown' hstr'.1 hstr'.2
    (g := { method := m, pc := pc + 4, locals := ls, stack := .ref T.heap.size :: .ref T.heap.size :: rest, locked := none }) rfl d4' _ hsteps
end Ends
section Bodies
variable {l : Launch}
theorem vx_ofW {y : MethodName} {ws ws' : List Cond} {rm : Room} {Pc : Array Value → State → Prop} {Qc : Array Value → State → Outcome → State → Prop} {XC : String → State → State → Prop} {mc ms : Nat} {free : Addr → Prop} {cc : ByteArray} {maxL : Nat} {ret : Option FieldType}
    (hy : plainName y.cls = true) (hw : ws = Cond.code y cc maxL ret :: ws')
    (body : ∀ p e s m args below meth c s₁, BodyLoose p l y (headSpec ws rm) cc maxL ret e s m args below meth c s₁ → c.maxLocals = maxL → (∀ x ∈ c.exceptionTable.toList, False) → Pc args s →
      W p l e (headSpec ws rm).room s m args below meth c s.heap [] 0 0 (vx_MQ below Qc XC args s mc ms free) (entryFrame m args maxL)) : vx_Met l y ws rm Pc Qc XC mc ms free := by
  refine MetFree.of_bodyS (code := cc) (maxLocals := maxL) (ret := ret) hy ?_ ?_
  · intro args s m h hn
    obtain ⟨meth, c, h1, h2, h3, h4, h5, h6, -, -⟩ := Cond.code_spec hn (atoms_spec (ws := ws) h _ (by rw [hw]; exact List.mem_cons_self))
    exact ⟨meth, c, h1, h2, h3, h4, h5, h6⟩
  · intro p e s m args below meth c s₁ B hml hP _
    have hh0 : s₁.heap = s.heap := by rw [B.state]; rfl
    have ht : ∀ x ∈ c.exceptionTable.toList, False := by
      obtain ⟨meth9, c9, h1, h2, -, -, -, -, h7, -⟩ := Cond.code_spec B.named (atoms_spec (ws := ws) B.pre _ (by rw [hw]; exact List.mem_cons_self))
      cases Option.some.inj (h1.symm.trans B.method)
      cases Option.some.inj (h2.symm.trans (Stand.of_body B).code)
      intro x hx
      rw [Array.isEmpty_iff.mp h7] at hx
      cases hx
    obtain ⟨t, a1, o, b1, b2, b3⟩ := body p e s m args below meth c s₁ B hml ht hP s₁ hh0 (Stand.of_body B)
    exact ⟨t, o, a1, b1, b2, b3⟩
/-- the table of a body with handlers -/
theorem vx_table {p : Program} {x y : MethodName} {S : Spec} {cc bytes : ByteArray} {maxL maxL' : Nat} {ret ret' : Option FieldType} {e : Env} {s s₁ : State} {m : MethodId} {args : Array Value} {below : List Frame} {meth : Method} {c : Code} {hh : List (Nat × Nat × Nat × Nat)}
    (B : BodyLoose p l y S cc maxL ret e s m args below meth c s₁) (h : (Cond.codeWith y bytes maxL' ret' hh).before args s = true) : c.exceptionTable.toList = tableOf hh := by
  obtain ⟨m9, meth9, c9, hn9, h1, h2, -, -, h6, -⟩ := Cond.codeWith_spec h
  cases Option.some.inj (hn9.symm.trans B.named)
  cases Option.some.inj (h1.symm.trans B.method)
  cases Option.some.inj (h2.symm.trans (Stand.of_body B).code)
  rw [← h6, table_eq]
end Bodies
end VXA
/-! ===== END ===== -/
/-! ===== BEGIN a static call of a method with an exception table ===== -/
section VXS
variable {p : Program} {l : Launch} {e : Env} {R : Room} {s : State} {m : MethodId} {args : Array Value} {below : List Frame} {meth : Method} {c : Code} {T : State} {H : Heap} {locs : List Loc} {cells slots : Nat}
abbrev vx_CSW (R : Room) (s : State) (args : Array Value) (own : String) (index : Nat) (y : MethodName) (bytes : ByteArray) (maxL : Nat) (ret : Option FieldType) (hh : List (Nat × Nat × Nat × Nat)) (ws : List Cond) (rm : Room) (mc ms n : Nat) : Prop :=
  (rm.cells = mc ∧ rm.slots = ms ∧ rm.frames + 1 ≤ R.frames ∧ 8 + (maxL + 11) + rm.locals ≤ R.locals ∧ (∀ w ∈ ws, ∀ (a' : Array Value) (U : State), s.WarmedH U.vm → w.before a' U = true) ∧ Cond.codeWith y bytes maxL ret hh ∈ ws) ∧
  (Cond.codeWith y bytes maxL ret hh).before args s = true ∧ (Cond.initialized y.cls).before args s = true ∧ (y.cls ≠ "java/lang/invoke/MethodHandle" ∧ y.cls ≠ "java/lang/invoke/VarHandle") ∧
  (∀ sig, parseMethodDescriptor y.desc = some sig → n = sig.parameters.length) ∧ (Cond.methodLink own index y).before args s = true ∧ (Cond.static y).before args s = true
theorem vx_cwSW {own : String} {index maxL mc ms : Nat} {y : MethodName} {bytes : ByteArray} {ret : Option FieldType} {hh : List (Nat × Nat × Nat × Nat)} {Ts ws ws' : List Cond} {rm : Room} (n : Nat) (ht : ∀ w ∈ Ts, w.before args s = true) (hT : GoodIn Ts (va_wsS own index y ws)) (hw : ws = Cond.codeWith y bytes maxL ret hh :: ws') (hrc : rm.cells = mc) (hrs : rm.slots = ms)
    (hd : y.cls ≠ "java/lang/invoke/MethodHandle" ∧ y.cls ≠ "java/lang/invoke/VarHandle" ∧ (parseMethodDescriptor y.desc).map (fun d => d.parameters.length) = some n) (hR : rm.frames + 1 ≤ R.frames ∧ 8 + (maxL + 11) + rm.locals ≤ R.locals) :
    vx_CSW R s args own index y bytes maxL ret hh ws rm mc ms n := by
  have ok : ∀ w ∈ va_wsS own index y ws, w.before args s = true := fun w h => ht w (hT w h).1
  have hG : GoodIn Ts ws := fun w h => hT w (by unfold va_wsS; exact List.mem_append_right _ h)
  have hc : Cond.codeWith y bytes maxL ret hh ∈ ws := by rw [hw]; exact List.mem_cons_self
  refine ⟨⟨hrc, hrs, hR.1, hR.2, pay_in ht hG, hc⟩, ht _ (hG _ hc).1, ok _ (by simp [va_wsS]), ⟨hd.1, hd.2.1⟩, fun sig h => ?_, ok _ (by simp [va_wsS]), ok _ (by simp [va_wsS])⟩
  have h2 := hd.2.2
  rw [h] at h2
  exact (Option.some.inj h2).symm
theorem vx_callSW (X : Stand p l e R s m args below meth c T locs cells slots) (hexec : p.tables.exec = Jvm.exec) {own : String} {index : Nat} {y : MethodName} {bytes : ByteArray} {maxL : Nat} {ret : Option FieldType} {hh : List (Nat × Nat × Nat × Nat)}
    (hown : s.vm.findClass own = some m.cls) (hlink : (Cond.methodLink own index y).before args s = true) (hstat : (Cond.static y).before args s = true) (hinit : (Cond.initialized y.cls).before args s = true)
    (hcode : (Cond.codeWith y bytes maxL ret hh).before args s = true) (hy : y.cls ≠ "java/lang/invoke/MethodHandle" ∧ y.cls ≠ "java/lang/invoke/VarHandle")
    {W9 : Nat} {Pre : Pt → Array Value → Prop} {Post : Pt → Array Value → Option Value → Pt → Prop} (hK : Back l R p e below s args y 3 W9 Pre Post)
    {g : JFrame} (hg : g.method = m) (hsize : g.locals.size = c.maxLocals) {argsL rest : List Value} (hlen : ∀ sig, parseMethodDescriptor y.desc = some sig → argsL.length = sig.parameters.length)
    (hstack : g.stack = argsL.reverse ++ rest) (hW : 2 * g.monitorRoom + (rest.map fun v => v.category).sum ≤ W9) (hdg : decode c.code g.pc = .ok (.invokestatic index, 3))
    (hpre : ∀ vm₁, s.WarmedH vm₁ → Pre ⟨T.setVm vm₁, locs, cells, slots⟩ argsL.toArray) :
    ∃ (v : Option Value) (vm₁ : Vm) (B : Pt), s.WarmedH vm₁ ∧ Stand p l e R s m args below meth c B.U B.locs B.cells B.slots ∧ Post ⟨T.setVm vm₁, locs, cells, slots⟩ argsL.toArray v B ∧
      ∀ target, Steps p.tables e below (B.U.setTop { g with pc := g.pc + 3, stack := v.toList ++ rest }) target → Steps p.tables e below (T.setTop g) target := by
  obtain ⟨mk, methM, cM, hnamed, hmethM, -, -, -, -, -, -, hsigM⟩ := Cond.codeWith_spec hcode
  have hstatic : methM.isStatic = true := Cond.static_spec hnamed hmethM hstat
  obtain ⟨kP, hkP, -⟩ := className_of_methodNamed hnamed
  have hinitP : kP.init = .initialized := Cond.initialized_spec (findClass_of_methodNamed hnamed) hkP hinit
  obtain ⟨vm₁, X₁, hstep₁⟩ := X.invokestatic hexec hown hlink hnamed hmethM hstatic hkP hinitP hy (g := g) hg (argsL := argsL) (rest := rest) (hlen _ hsigM) hstack hdg
  obtain ⟨v, B, X', hpost, hsteps⟩ := hK m meth c ⟨T.setVm vm₁, locs, cells, slots⟩ { g with stack := rest } (.invokestatic index) mk argsL.toArray X₁ hg hsize hdg hW (X₁.named hnamed) (hpre vm₁ X₁.warmed)
  exact ⟨v, vm₁, B, X₁.warmed, X', hpost, fun target h => hstep₁ _ fun acts => by rw [doInvoke_state]; exact hsteps.trans h⟩
theorem vx_runSW {y : MethodName} {bytes cc : ByteArray} {maxL nL mc ms n index : Nat} {ret : Option FieldType} {hh : List (Nat × Nat × Nat × Nat)} {ws : List Cond} {rm : Room} {Pc : Array Value → State → Prop} {Qc : Array Value → State → Outcome → State → Prop} {free : Addr → Prop} {Ts : List Cond} {own : String} {As rest : List Value} {g : JFrame}
    (S : CallFix p m c cc nL s args Ts own) (hM : Met l y ws rm Pc Qc mc ms free) (cw : vx_CSW R s args own index y bytes maxL ret hh ws rm mc ms n) (hp : PreS s H Pc As)
    (hg : g.method = m) (hn : As.length = n) (hsize : g.locals.size = nL) (hstack : g.stack = As.reverse ++ rest) (hW : 2 * g.monitorRoom + (rest.map fun v => v.category).sum ≤ 8) (hdg : decode cc g.pc = .ok (.invokestatic index, 3)) (hf : cells + mc ≤ R.cells ∧ slots + ms ≤ R.slots) :
    va_Run p l e R s m args below meth c H locs cells slots mc ms g rest (Qc As.toArray) (free) := by
  obtain ⟨⟨hrc, hrs, hfr, hlo, hws, hcw⟩, hcode, hini, hy, hlen, hl, hstt⟩ := cw
  have hK : Back l R p e below s args y 3 8 (PreOf R mc ms Pc) (PostOf Qc mc ms free) := va_backW (hh := hh) (bytes := bytes) (maxL := maxL) (ret := ret) hM hp.1 hrc hrs hfr hlo hws hcw (fun a' U hW => word_at hW (Or.inl (by first | rfl | simp [Cond.onTables, Cond.keeps, Cond.steady])) hini)
  obtain ⟨hx, hb, hml, ho, -⟩ := S
  intro T hT X
  obtain ⟨v, vm₁, ⟨U', l2, c2, s2⟩, hW₁, X', ⟨g', mk, t, L, e1, e2, hq, h1, hL, h2, h3⟩, st⟩ := vx_callSW X hx (hh := hh) (bytes := bytes) (maxL := maxL) (ret := ret) ho hl hstt hini hcode hy hK hg (hsize.trans hml.symm) (argsL := As) (rest := rest) (fun sig h => hn.trans (hlen sig h)) hstack hW (by rw [hb]; exact hdg)
    (fun vm₁ hW₁ => ⟨hf.1, hf.2, hp.2 (T.setVm vm₁) hT hW₁⟩)
  dsimp only [Pt.U, Pt.locs, Pt.cells, Pt.slots] at X' e1 e2 h1 h2 h3 st
  subst h1; subst h2; subst h3
  exact ⟨v, (T.setVm vm₁).calling g' mk As.toArray, t, U', L, hT, X', hL, e1, e2, hq, st⟩
/-- not caught here, past rows that name other classes: it goes on to the caller -/
theorem vx_outP {p : Program} {l : Launch} {e : Env} {R : Room} {s : State} {m : MethodId} {args : Array Value} {below : List Frame} {meth : Method} {c : Code} {H : Heap} {locs : List Loc} {cells slots : Nat} {free : Addr → Prop} {ls : Array Slot} {rest : List Value} {Qc : Array Value → State → Outcome → State → Prop} {XC : String → State → State → Prop}
    {pc : Nat} {own E : String} {ce : Cell} {q : Addr} {mc ms : Nat} (hown : s.vm.findClass own = some m.cls) (hlocks : meth.locks = false)
    (hpass : ∀ z ∈ c.exceptionTable.toList, covers z pc = false ∨ (z.catchType ≠ 0 ∧ ∃ nm : String, (Cond.classLink own z.catchType nm).before args s = true ∧ va_Nc E nm s)) (hcell : H[q]? = some ce) (hv : ce.vm = .none) (hcl : s.vm.findClass E = some ce.cls)
    (hx : ∀ t : State, t.heap = H → s.vm.Alike t.vm → XC E s t) (hf : ∀ z ∈ locs, free z.base) (hc : cells ≤ mc) (hs : slots ≤ ms) :
    vx_W p l e R s m args below meth c H locs cells slots (vx_MQ below Qc XC args s mc ms free) (F0 m pc ls rest) q := by
  intro T hT X
  have hpl : e.platform.magicAccessors = ({} : Platform).magicAccessors := by rw [X.admits.platform]
  obtain ⟨vm', hW', X', st⟩ := X.outThrough hlocks q (g := F0 m pc ls rest) rfl rfl rfl (cell := ce) (by rw [hT]; exact hcell) (by rw [hv]; rfl)
    (by obtain ⟨k9, h9, -⟩ := Vm.findClass_spec hcl; exact ⟨k9, h9⟩) (fun z hz => by
      rcases hpass z hz with h | ⟨hz0, nm, hl1, hn1⟩
      · exact Or.inl h
      · obtain ⟨c6, hc6, hcl6⟩ := Cond.classLink_spec hown hl1 e.platform hpl
        obtain ⟨a8, b8, h1, h2, h3⟩ := hn1
        cases Option.some.inj (h1.symm.trans hcl)
        cases Option.some.inj (h2.symm.trans hc6)
        exact Or.inr ⟨hz0, _, hcl6, h3⟩)
  obtain ⟨g₀, hfr⟩ := X'.frames_eq
  have hcell9 : ((T.setVm vm').setFrames (.throwing q :: below)).heap[q]? = some ce := by
    show T.heap[q]? = some ce
    rw [hT]; exact hcell
  have hend : Ended ((T.setVm vm').setFrames (.throwing q :: below)) below (.threw q) := State.frames_setFrames _ (State.cur_lt_of_frames hfr)
  refine ⟨(T.setVm vm').setFrames (.throwing q :: below), ?_, .threw q, X'.here.running, hend, Or.inr ⟨q, rfl, E, ce, locs, hx _ hT (X'.ends _).1.alike, hcell9, hv, hcl, (X'.ends _).1, (X'.ends _).2.mono hc hs, hf⟩⟩
  rw [X.pushThrowing_eq]
  exact st
/-- a thing of a world lies in the heap -/
theorem vx_lt {D : va_G} {cl : List vw_C} {ws : va_W} {H1 : Heap} (h : va_P D cl ws H1) {k : Nat} {q : Nat × va_E} (hk : ws[k]? = some q) : q.1 < H1.size := (h k q hk).lt
end VXS
/-! ===== END ===== -/
/-! ===== BEGIN methods with a table of their own: called by a name, returning or throwing ===== -/
section VXH
/-! vx_backW, vx_callVX, vx_callSX, vx_callVW, vx_runVW, vx_runVX, vx_runSX, vx_ofWH follow the same proofs as their sisters above (Free/Laws.lean, Shelf42/LK1.lean); vx_outP calls Shelf42/NT130.lean (outThrough). -/
section
variable {l : Launch} {R : Room} {p : Program} {e : Env} {below : List Frame} {s : State} {sargs : Array Value} {y : MethodName} {len W9 : Nat}
theorem vx_backW {ws : List Cond} {rm : Room} {Pc : Array Value → State → Prop} {Qc : Array Value → State → Outcome → State → Prop} {XC : String → State → State → Prop} {mc ms : Nat} {free : Addr → Prop} {bytes : ByteArray} {maxL : Nat} {ret : Option FieldType} {hh : List (Nat × Nat × Nat × Nat)}
    (hM : vx_Met l y ws rm Pc Qc XC mc ms free) (hblind : FrameBlind Pc) (hrc : rm.cells = mc) (hrs : rm.slots = ms)
    (hframes : rm.frames + 1 ≤ R.frames) (hlocals : W9 + (maxL + 11) + rm.locals ≤ R.locals)
    (hws : ∀ w ∈ ws, ∀ a' U, s.WarmedH U.vm → w.before a' U = true) (hcode : Cond.codeWith y bytes maxL ret hh ∈ ws) (hinit : ∀ a' U, s.WarmedH U.vm → (Cond.initialized y.cls).before a' U = true) :
    vx_Back l R p e below s sargs y len W9 (PreOf R mc ms Pc) (PostOf Qc mc ms free) (vx_Post XC mc ms free) := by
  intro m meth c A g ig mk a X hg hsize hdg hW hn hp
  have h1 : (headSpec ws rm).pre.before a A.U = true := atoms_intro fun w hw => hws w hw _ _ X.warmed
  have h2 : (Cond.codeWith y bytes maxL ret hh).before a A.U = true := hws _ hcode _ _ X.warmed
  have h3 : (Cond.initialized y.cls).before a A.U = true := hinit _ _ X.warmed
  have h4 : A.cells + (headSpec ws rm).room.cells ≤ R.cells := by rw [show (headSpec ws rm).room.cells = mc from hrc]; exact hp.1
  have h5 : A.slots + (headSpec ws rm).room.slots ≤ R.slots := by rw [show (headSpec ws rm).room.slots = ms from hrs]; exact hp.2.1
  have hPc : Pc a (A.U.calling g mk a) := hblind _ _ _ _ hp.2.2
  obtain ⟨U, Ls, c0, s0⟩ := A
  dsimp only [Pt.U, Pt.locs, Pt.cells, Pt.slots] at h1 h2 h3 h4 h5 X hn hPc ⊢
  obtain ⟨m9, methY, cY, hn9, hmY, hcY, -, hlY, -⟩ := Cond.codeWith_spec h2
  cases Option.some.inj (hn9.symm.trans hn)
  obtain ⟨kY, hkY, -⟩ := className_of_methodNamed hn
  have hinitY : kY.init = .initialized := Cond.initialized_spec (findClass_of_methodNamed hn) hkY h3
  have h : At U g.method c below := by rw [hg]; exact X.here
  have hlocals9 : W9 + (maxL + 11) + (headSpec ws rm).room.locals ≤ R.locals := hlocals
  have happ : (headSpec ws rm).appliesLoose y e.platform (U.calling g mk a) = true :=
    Spec.appliesLoose_calling (g := g) h hdg hn hkY hinitY
      (X.room_calling (g := g) (R' := (headSpec ws rm).room) hsize hmY hcY hframes (by rw [hlY]; omega) h4 h5) h1
  obtain ⟨mid, hmid⟩ := h.above
  have hfr : (U.setTop g).frames = (.java g :: mid) ++ below := by rw [State.frames_setTop' g h.top, hmid]; rfl
  obtain ⟨o, s₂, hsteps, -, hend, hq⟩ := Steps.callFree hM p X.admits X.cas X.clock (acts := []) hfr happ hPc trivial
  have hq' : vx_Q Qc XC mc ms free a (U.calling g mk a) o s₂ := hq
  rw [State.frames_setTop' g h.top] at hend
  obtain ⟨g₀, hg0⟩ := Option.isSome_iff_exists.mp h.top
  obtain ⟨r, hr⟩ := State.topJava?_eq_some.mp hg0
  have hr' : (({ U with heap := s₂.heap, slotsUsed := s₂.slotsUsed } : State).setVm s₂.vm).frames = .java g₀ :: r := hr
  rcases hq' with ⟨hqc, L, hfe, hL⟩ | ⟨q, rfl, E, ce, L, hx, hce, hcv, hcl, hW₂, hsm, hL⟩
  · obtain ⟨⟨v, rfl⟩, hW₂, e2, q2, q3, q4, q5, q6⟩ := id hfe
    have e3 : s₂ = ({ (U.calling g mk a).setFrames s₂.frames with heap := s₂.heap, slotsUsed := s₂.slotsUsed } : State).setVm s₂.vm := by
      have : s₂ = ({ s₂ with vm := (U.calling g mk a).vm } : State).setVm s₂.vm := rfl
      rw [e2] at this
      exact this
    obtain ⟨c₂, i₂, len₂, hc₂, hd₂, hf₂⟩ := hend
    have hW' : U.WarmedH s₂.vm := hW₂
    have hcc : c₂ = c := by
      have h1 : s₂.code? g.method = U.code? g.method := by
        rw [State.code?_eq, State.code?_eq, hW'.alike.method?]
      exact Option.some.inj (hc₂.symm.trans (h1.trans h.code))
    subst hcc
    have hlen : len₂ = len := by rw [hdg] at hd₂; cases hd₂; rfl
    subst hlen
    have hs₂ : s₂ = (({ U with heap := s₂.heap, slotsUsed := s₂.slotsUsed } : State).setVm s₂.vm).setTop { g with pc := g.pc + len₂, stack := v.toList ++ g.stack } := by
      refine e3.trans ?_
      rw [hf₂, State.calling_eq h.top, State.setFrames_setFrames, State.setTop_of_frames _ hr', hr]
      rfl
    have hsame : U.sameButNew ({ U with heap := s₂.heap, slotsUsed := s₂.slotsUsed } : State) L mc ms := by
      refine ⟨?_, q2, q3, q4, q5, q6⟩
      obtain ⟨t, ht, -⟩ := State.frames_cons hr
      show ({ U with heap := s₂.heap, slotsUsed := s₂.slotsUsed } : State) = { U.setFrames U.frames with heap := s₂.heap, slotsUsed := s₂.slotsUsed }
      rw [State.setFrames_self ht]
    subst hg
    refine Or.inl ⟨v, ⟨(({ U with heap := s₂.heap, slotsUsed := s₂.slotsUsed } : State).setVm s₂.vm), Ls ++ L, c0 + mc, s0 + ms⟩,
      ⟨X.admits, X.cas, X.clock, X.frames, X.room, X.hears, X.method, X.code, (X.here.setHeapUsed s₂.heap s₂.slotsUsed).setVm hW'.alike, X.tail, State.WarmedH.trans X.warmed hW', X.limits, X.bytes, X.same.trans (hsame.setVm s.vm)⟩,
      ⟨g, mk, s₂, L, rfl, rfl, hqc, rfl, hL, rfl, rfl⟩, ?_⟩
    show Steps p.tables e below _ ((({ U with heap := s₂.heap, slotsUsed := s₂.slotsUsed } : State).setVm s₂.vm).setTop { g with pc := g.pc + len₂, stack := v.toList ++ g.stack })
    rw [← hs₂]
    exact hsteps
  · obtain ⟨e2, q2, q3, q4, q5, q6⟩ := id hsm
    have e3 : s₂ = ({ (U.calling g mk a).setFrames s₂.frames with heap := s₂.heap, slotsUsed := s₂.slotsUsed } : State).setVm s₂.vm := by
      have : s₂ = ({ s₂ with vm := (U.calling g mk a).vm } : State).setVm s₂.vm := rfl
      rw [e2] at this
      exact this
    have hf₂ : s₂.frames = .throwing q :: .java g :: U.frames.tail := hend
    have hW' : U.WarmedH s₂.vm := hW₂
    have hs₂ : s₂ = ((({ U with heap := s₂.heap, slotsUsed := s₂.slotsUsed } : State).setVm s₂.vm).setTop g).pushFrame (.throwing q) := by
      refine e3.trans ?_
      rw [hf₂, State.calling_eq h.top, State.setFrames_setFrames, State.pushFrame, State.frames_setTop _ hr', State.setTop_of_frames _ hr', State.setFrames_setFrames, hr]
      rfl
    have hsame : U.sameButNew ({ U with heap := s₂.heap, slotsUsed := s₂.slotsUsed } : State) L mc ms := by
      refine ⟨?_, q2, q3, q4, q5, q6⟩
      obtain ⟨t, ht, -⟩ := State.frames_cons hr
      show ({ U with heap := s₂.heap, slotsUsed := s₂.slotsUsed } : State) = { U.setFrames U.frames with heap := s₂.heap, slotsUsed := s₂.slotsUsed }
      rw [State.setFrames_self ht]
    subst hg
    refine Or.inr ⟨q, ⟨(({ U with heap := s₂.heap, slotsUsed := s₂.slotsUsed } : State).setVm s₂.vm), Ls ++ L, c0 + mc, s0 + ms⟩,
      ⟨X.admits, X.cas, X.clock, X.frames, X.room, X.hears, X.method, X.code, (X.here.setHeapUsed s₂.heap s₂.slotsUsed).setVm hW'.alike, X.tail, State.WarmedH.trans X.warmed hW', X.limits, X.bytes, X.same.trans (hsame.setVm s.vm)⟩,
      ⟨g, mk, s₂, L, E, ce, rfl, rfl, hx, hce, hcv, hcl, rfl, hL, rfl, rfl⟩, ?_⟩
    show Steps p.tables e below _ (((({ U with heap := s₂.heap, slotsUsed := s₂.slotsUsed } : State).setVm s₂.vm).setTop g).pushFrame (.throwing q))
    rw [← hs₂]
    exact hsteps
end
variable {p : Program} {l : Launch} {e : Env} {R : Room} {s : State} {m : MethodId} {args : Array Value} {below : List Frame} {meth : Method} {c : Code} {T : State} {H : Heap} {locs : List Loc} {cells slots : Nat}
theorem vx_callVX (X : Stand p l e R s m args below meth c T locs cells slots) (hexec : p.tables.exec = Jvm.exec) {own C : String} {index : Nat} {y : MethodName} {bytes : ByteArray} {maxL : Nat} {ret : Option FieldType} {hh : List (Nat × Nat × Nat × Nat)}
    (hown : s.vm.findClass own = some m.cls) (hlink : (Cond.methodLink own index y).before args s = true) (hinst : (Cond.instanceMethod y).before args s = true) (hsel : (Cond.selects C y y).before args s = true)
    (hcode : (Cond.codeWith y bytes maxL ret hh).before args s = true) (hy : y.cls ≠ "java/lang/invoke/MethodHandle" ∧ y.cls ≠ "java/lang/invoke/VarHandle")
    {W9 : Nat} {Pre : Pt → Array Value → Prop} {Post : Pt → Array Value → Option Value → Pt → Prop} {PostX : Pt → Array Value → Addr → Pt → Prop} (hK : vx_Back l R p e below s args y 3 W9 Pre Post PostX)
    {b : Addr} {cellB : Cell} (hcell : T.heap[b]? = some cellB) (hobj : cellB.vm.isStatics = false) (hcls : s.vm.findClass C = some cellB.cls)
    {g : JFrame} (hg : g.method = m) (hsize : g.locals.size = c.maxLocals) {argsL rest : List Value} (hlen : ∀ sig, parseMethodDescriptor y.desc = some sig → argsL.length = sig.parameters.length)
    (hstack : g.stack = argsL.reverse ++ .ref b :: rest) (hW : 2 * g.monitorRoom + (rest.map fun v => v.category).sum ≤ W9) (hdg : decode c.code g.pc = .ok (.invokevirtual index, 3))
    (hpre : ∀ vm₁, s.WarmedH vm₁ → Pre ⟨T.setVm vm₁, locs, cells, slots⟩ (Value.ref b :: argsL).toArray) :
    (∃ (v : Option Value) (vm₁ : Vm) (B : Pt), s.WarmedH vm₁ ∧ Stand p l e R s m args below meth c B.U B.locs B.cells B.slots ∧ Post ⟨T.setVm vm₁, locs, cells, slots⟩ (Value.ref b :: argsL).toArray v B ∧
      ∀ target, Steps p.tables e below (B.U.setTop { g with pc := g.pc + 3, stack := v.toList ++ rest }) target → Steps p.tables e below (T.setTop g) target) ∨
    (∃ (q : Addr) (vm₁ : Vm) (B : Pt), s.WarmedH vm₁ ∧ Stand p l e R s m args below meth c B.U B.locs B.cells B.slots ∧ PostX ⟨T.setVm vm₁, locs, cells, slots⟩ (Value.ref b :: argsL).toArray q B ∧
      Steps p.tables e below (T.setTop g) ((B.U.setTop { g with stack := rest }).pushFrame (.throwing q))) := by
  obtain ⟨mk, methM, hnamed, hmethM, hstM, habM⟩ := Cond.instanceMethod_spec hinst
  obtain ⟨m8, methM', cM, hn8, hmethM', -, -, -, -, -, -, hsigM⟩ := Cond.codeWith_spec hcode
  cases Option.some.inj (hn8.symm.trans hnamed)
  cases hmethM.symm.trans hmethM'
  obtain ⟨c2, r2, m2, q1, q2, q3, q4, kP, hkP, hkPi⟩ := Cond.selects_spec hsel
  cases hcls.symm.trans q1
  cases (State.methodFound?_of_named hnamed hy).symm.trans q2
  cases hnamed.symm.trans q3
  have hselP : selectMethod e.platform s.vm cellB.cls mk = .method mk := by rw [Launch.admits_selectMethod X.admits]; exact q4
  obtain ⟨vm₁, X₁, hstep₁⟩ := X.invokevirtual hexec hown hlink hnamed hmethM hstM hkP hkPi hy (a := b) (cell := cellB) hcell
    (fun z h => by rw [h] at hobj; cases hobj) hselP hmethM habM hkP hkPi (g := g) hg (argsL := argsL) (rest := rest) (hlen _ hsigM) hstack hdg
  rcases hK m meth c ⟨T.setVm vm₁, locs, cells, slots⟩ { g with stack := rest } (.invokevirtual index) mk (Value.ref b :: argsL).toArray X₁ hg hsize hdg hW (X₁.named hnamed) (hpre vm₁ X₁.warmed) with ⟨v, B, X', hpost, hsteps⟩ | ⟨q, B, X', hpost, hsteps⟩
  · exact Or.inl ⟨v, vm₁, B, X₁.warmed, X', hpost, fun target h => hstep₁ _ fun acts => by rw [doInvoke_state]; exact hsteps.trans h⟩
  · exact Or.inr ⟨q, vm₁, B, X₁.warmed, X', hpost, hstep₁ _ fun acts => by rw [doInvoke_state]; exact hsteps⟩
theorem vx_callSX (X : Stand p l e R s m args below meth c T locs cells slots) (hexec : p.tables.exec = Jvm.exec) {own : String} {index : Nat} {y : MethodName} {bytes : ByteArray} {maxL : Nat} {ret : Option FieldType} {hh : List (Nat × Nat × Nat × Nat)}
    (hown : s.vm.findClass own = some m.cls) (hlink : (Cond.methodLink own index y).before args s = true) (hstat : (Cond.static y).before args s = true) (hinit : (Cond.initialized y.cls).before args s = true)
    (hcode : (Cond.codeWith y bytes maxL ret hh).before args s = true) (hy : y.cls ≠ "java/lang/invoke/MethodHandle" ∧ y.cls ≠ "java/lang/invoke/VarHandle")
    {W9 : Nat} {Pre : Pt → Array Value → Prop} {Post : Pt → Array Value → Option Value → Pt → Prop} {PostX : Pt → Array Value → Addr → Pt → Prop} (hK : vx_Back l R p e below s args y 3 W9 Pre Post PostX)
    {g : JFrame} (hg : g.method = m) (hsize : g.locals.size = c.maxLocals) {argsL rest : List Value} (hlen : ∀ sig, parseMethodDescriptor y.desc = some sig → argsL.length = sig.parameters.length)
    (hstack : g.stack = argsL.reverse ++ rest) (hW : 2 * g.monitorRoom + (rest.map fun v => v.category).sum ≤ W9) (hdg : decode c.code g.pc = .ok (.invokestatic index, 3))
    (hpre : ∀ vm₁, s.WarmedH vm₁ → Pre ⟨T.setVm vm₁, locs, cells, slots⟩ argsL.toArray) :
    (∃ (v : Option Value) (vm₁ : Vm) (B : Pt), s.WarmedH vm₁ ∧ Stand p l e R s m args below meth c B.U B.locs B.cells B.slots ∧ Post ⟨T.setVm vm₁, locs, cells, slots⟩ argsL.toArray v B ∧
      ∀ target, Steps p.tables e below (B.U.setTop { g with pc := g.pc + 3, stack := v.toList ++ rest }) target → Steps p.tables e below (T.setTop g) target) ∨
    (∃ (q : Addr) (vm₁ : Vm) (B : Pt), s.WarmedH vm₁ ∧ Stand p l e R s m args below meth c B.U B.locs B.cells B.slots ∧ PostX ⟨T.setVm vm₁, locs, cells, slots⟩ argsL.toArray q B ∧
      Steps p.tables e below (T.setTop g) ((B.U.setTop { g with stack := rest }).pushFrame (.throwing q))) := by
  obtain ⟨mk, methM, cM, hnamed, hmethM, -, -, -, -, -, -, hsigM⟩ := Cond.codeWith_spec hcode
  have hstatic : methM.isStatic = true := Cond.static_spec hnamed hmethM hstat
  obtain ⟨kP, hkP, -⟩ := className_of_methodNamed hnamed
  have hinitP : kP.init = .initialized := Cond.initialized_spec (findClass_of_methodNamed hnamed) hkP hinit
  obtain ⟨vm₁, X₁, hstep₁⟩ := X.invokestatic hexec hown hlink hnamed hmethM hstatic hkP hinitP hy (g := g) hg (argsL := argsL) (rest := rest) (hlen _ hsigM) hstack hdg
  rcases hK m meth c ⟨T.setVm vm₁, locs, cells, slots⟩ { g with stack := rest } (.invokestatic index) mk argsL.toArray X₁ hg hsize hdg hW (X₁.named hnamed) (hpre vm₁ X₁.warmed) with ⟨v, B, X', hpost, hsteps⟩ | ⟨q, B, X', hpost, hsteps⟩
  · exact Or.inl ⟨v, vm₁, B, X₁.warmed, X', hpost, fun target h => hstep₁ _ fun acts => by rw [doInvoke_state]; exact hsteps.trans h⟩
  · exact Or.inr ⟨q, vm₁, B, X₁.warmed, X', hpost, hstep₁ _ fun acts => by rw [doInvoke_state]; exact hsteps⟩
theorem vx_callVW (X : Stand p l e R s m args below meth c T locs cells slots) (hexec : p.tables.exec = Jvm.exec) {own C : String} {index : Nat} {y : MethodName} {bytes : ByteArray} {maxL : Nat} {ret : Option FieldType} {hh : List (Nat × Nat × Nat × Nat)}
    (hown : s.vm.findClass own = some m.cls) (hlink : (Cond.methodLink own index y).before args s = true) (hinst : (Cond.instanceMethod y).before args s = true) (hsel : (Cond.selects C y y).before args s = true)
    (hcode : (Cond.codeWith y bytes maxL ret hh).before args s = true) (hy : y.cls ≠ "java/lang/invoke/MethodHandle" ∧ y.cls ≠ "java/lang/invoke/VarHandle")
    {W9 : Nat} {Pre : Pt → Array Value → Prop} {Post : Pt → Array Value → Option Value → Pt → Prop} (hK : Back l R p e below s args y 3 W9 Pre Post)
    {b : Addr} {cellB : Cell} (hcell : T.heap[b]? = some cellB) (hobj : cellB.vm.isStatics = false) (hcls : s.vm.findClass C = some cellB.cls)
    {g : JFrame} (hg : g.method = m) (hsize : g.locals.size = c.maxLocals) {argsL rest : List Value} (hlen : ∀ sig, parseMethodDescriptor y.desc = some sig → argsL.length = sig.parameters.length)
    (hstack : g.stack = argsL.reverse ++ .ref b :: rest) (hW : 2 * g.monitorRoom + (rest.map fun v => v.category).sum ≤ W9) (hdg : decode c.code g.pc = .ok (.invokevirtual index, 3))
    (hpre : ∀ vm₁, s.WarmedH vm₁ → Pre ⟨T.setVm vm₁, locs, cells, slots⟩ (Value.ref b :: argsL).toArray) :
    ∃ (v : Option Value) (vm₁ : Vm) (B : Pt), s.WarmedH vm₁ ∧ Stand p l e R s m args below meth c B.U B.locs B.cells B.slots ∧ Post ⟨T.setVm vm₁, locs, cells, slots⟩ (Value.ref b :: argsL).toArray v B ∧
      ∀ target, Steps p.tables e below (B.U.setTop { g with pc := g.pc + 3, stack := v.toList ++ rest }) target → Steps p.tables e below (T.setTop g) target := by
  obtain ⟨mk, methM, hnamed, hmethM, hstM, habM⟩ := Cond.instanceMethod_spec hinst
  obtain ⟨m8, methM', cM, hn8, hmethM', -, -, -, -, -, -, hsigM⟩ := Cond.codeWith_spec hcode
  cases Option.some.inj (hn8.symm.trans hnamed)
  cases hmethM.symm.trans hmethM'
  obtain ⟨c2, r2, m2, q1, q2, q3, q4, kP, hkP, hkPi⟩ := Cond.selects_spec hsel
  cases hcls.symm.trans q1
  cases (State.methodFound?_of_named hnamed hy).symm.trans q2
  cases hnamed.symm.trans q3
  have hselP : selectMethod e.platform s.vm cellB.cls mk = .method mk := by rw [Launch.admits_selectMethod X.admits]; exact q4
  obtain ⟨vm₁, X₁, hstep₁⟩ := X.invokevirtual hexec hown hlink hnamed hmethM hstM hkP hkPi hy (a := b) (cell := cellB) hcell
    (fun z h => by rw [h] at hobj; cases hobj) hselP hmethM habM hkP hkPi (g := g) hg (argsL := argsL) (rest := rest) (hlen _ hsigM) hstack hdg
  obtain ⟨v, B, X', hpost, hsteps⟩ := hK m meth c ⟨T.setVm vm₁, locs, cells, slots⟩ { g with stack := rest } (.invokevirtual index) mk (Value.ref b :: argsL).toArray X₁ hg hsize hdg hW (X₁.named hnamed) (hpre vm₁ X₁.warmed)
  exact ⟨v, vm₁, B, X₁.warmed, X', hpost, fun target h => hstep₁ _ fun acts => by rw [doInvoke_state]; exact hsteps.trans h⟩
abbrev vx_CVW (R : Room) (s : State) (args : Array Value) (own C : String) (index : Nat) (y : MethodName) (bytes : ByteArray) (maxL : Nat) (ret : Option FieldType) (hh : List (Nat × Nat × Nat × Nat)) (ws : List Cond) (rm : Room) (mc ms n : Nat) : Prop :=
  (rm.cells = mc ∧ rm.slots = ms ∧ rm.frames + 1 ≤ R.frames ∧ 8 + (maxL + 11) + rm.locals ≤ R.locals ∧ (∀ w ∈ ws, ∀ (a' : Array Value) (U : State), s.WarmedH U.vm → w.before a' U = true) ∧ Cond.codeWith y bytes maxL ret hh ∈ ws) ∧
  (Cond.codeWith y bytes maxL ret hh).before args s = true ∧ (Cond.initialized y.cls).before args s = true ∧ (y.cls ≠ "java/lang/invoke/MethodHandle" ∧ y.cls ≠ "java/lang/invoke/VarHandle") ∧
  (∀ sig, parseMethodDescriptor y.desc = some sig → n = sig.parameters.length) ∧ (Cond.methodLink own index y).before args s = true ∧ (Cond.instanceMethod y).before args s = true ∧ (Cond.selects C y y).before args s = true
theorem vx_cwVW {own C : String} {index maxL mc ms : Nat} {y : MethodName} {bytes : ByteArray} {ret : Option FieldType} {hh : List (Nat × Nat × Nat × Nat)} {Ts ws ws' : List Cond} {rm : Room} (n : Nat) (ht : ∀ w ∈ Ts, w.before args s = true) (hT : GoodIn Ts (wsV own index C y ws)) (hw : ws = Cond.codeWith y bytes maxL ret hh :: ws') (hrc : rm.cells = mc) (hrs : rm.slots = ms)
    (hd : y.cls = C ∧ y.cls ≠ "java/lang/invoke/MethodHandle" ∧ y.cls ≠ "java/lang/invoke/VarHandle" ∧ (parseMethodDescriptor y.desc).map (fun d => d.parameters.length) = some n) (hR : rm.frames + 1 ≤ R.frames ∧ 8 + (maxL + 11) + rm.locals ≤ R.locals) :
    vx_CVW R s args own C index y bytes maxL ret hh ws rm mc ms n := by
  obtain ⟨hC, hd⟩ := hd
  subst hC
  have ok : ∀ w ∈ wsV own index y.cls y ws, w.before args s = true := fun w h => ht w (hT w h).1
  have hG : GoodIn Ts ws := fun w h => hT w (by unfold wsV; exact List.mem_append_right _ h)
  have hc : Cond.codeWith y bytes maxL ret hh ∈ ws := by rw [hw]; exact List.mem_cons_self
  refine ⟨⟨hrc, hrs, hR.1, hR.2, pay_in ht hG, hc⟩, ht _ (hG _ hc).1, ok _ (by simp [wsV]), ⟨hd.1, hd.2.1⟩, fun sig h => ?_, ok _ (by simp [wsV]), ok _ (by simp [wsV]), ok _ (by simp [wsV])⟩
  have h2 := hd.2.2
  rw [h] at h2
  exact (Option.some.inj h2).symm
theorem vx_runVW {y : MethodName} {bytes cc : ByteArray} {maxL nL mc ms n index : Nat} {ret : Option FieldType} {hh : List (Nat × Nat × Nat × Nat)} {ws : List Cond} {rm : Room} {Pc : Array Value → State → Prop} {Qc : Array Value → State → Outcome → State → Prop} {free : Addr → Prop} {Ts : List Cond} {own C : String} {b : Addr} {As rest : List Value} {g : JFrame}
    (S : CallFix p m c cc nL s args Ts own) (hM : Met l y ws rm Pc Qc mc ms free) (cw : vx_CVW R s args own C index y bytes maxL ret hh ws rm mc ms n) (hp : PreV s H C b Pc As)
    (hg : g.method = m) (hn : As.length = n) (hsize : g.locals.size = nL) (hstack : g.stack = As.reverse ++ .ref b :: rest) (hW : 2 * g.monitorRoom + (rest.map fun v => v.category).sum ≤ 8) (hdg : decode cc g.pc = .ok (.invokevirtual index, 3)) (hf : cells + mc ≤ R.cells ∧ slots + ms ≤ R.slots) :
    va_Run p l e R s m args below meth c H locs cells slots mc ms g rest (Qc (Value.ref b :: As).toArray) free := by
  obtain ⟨⟨hrc, hrs, hfr, hlo, hws, hcw⟩, hcode, hini, hy, hlen, hl, hin, hse⟩ := cw
  have hK : Back l R p e below s args y 3 8 (PreOf R mc ms Pc) (PostOf Qc mc ms free) := va_backW (hh := hh) (bytes := bytes) (maxL := maxL) (ret := ret) hM hp.1 hrc hrs hfr hlo hws hcw (fun a' U hW => word_at hW (Or.inl (by first | rfl | simp [Cond.onTables, Cond.keeps, Cond.steady])) hini)
  obtain ⟨hx, hb, hml, ho, -⟩ := S
  obtain ⟨-, ⟨cellB, hcB, hoB, hclB⟩, hPc⟩ := hp
  intro T hT X
  obtain ⟨v, vm₁, ⟨U', l2, c2, s2⟩, hW₁, X', ⟨g', mk, t, L, e1, e2, hq, h1, hL, h2, h3⟩, st⟩ := vx_callVW X hx (C := C) (hh := hh) (bytes := bytes) (maxL := maxL) (ret := ret) ho hl hin hse hcode hy hK (by rw [hT]; exact hcB) hoB hclB hg (hsize.trans hml.symm) (argsL := As) (rest := rest) (fun sig h => hn.trans (hlen sig h)) hstack hW (by rw [hb]; exact hdg)
    (fun vm₁ hW₁ => ⟨hf.1, hf.2, hPc (T.setVm vm₁) hT hW₁⟩)
  dsimp only [Pt.U, Pt.locs, Pt.cells, Pt.slots] at X' e1 e2 h1 h2 h3 st
  subst h1; subst h2; subst h3
  exact ⟨v, (T.setVm vm₁).calling g' mk (Value.ref b :: As).toArray, t, U', L, hT, X', hL, e1, e2, hq, st⟩
section
variable {y : MethodName} {bytes cc : ByteArray} {maxL nL mc ms n index : Nat} {ret : Option FieldType} {ws : List Cond} {rm : Room} {Pc : Array Value → State → Prop} {Qc : Array Value → State → Outcome → State → Prop} {XC : String → State → State → Prop} {free : Addr → Prop} {Ts : List Cond} {own C : String} {b : Addr} {As rest : List Value} {g : JFrame}
theorem vx_runVX {hh : List (Nat × Nat × Nat × Nat)} (S : CallFix p m c cc nL s args Ts own) (hM : vx_Met l y ws rm Pc Qc XC mc ms free) (cw : vx_CVW R s args own C index y bytes maxL ret hh ws rm mc ms n) (hp : PreV s H C b Pc As)
    (hg : g.method = m) (hn : As.length = n) (hsize : g.locals.size = nL) (hstack : g.stack = As.reverse ++ .ref b :: rest) (hW : 2 * g.monitorRoom + (rest.map fun v => v.category).sum ≤ 8) (hdg : decode cc g.pc = .ok (.invokevirtual index, 3)) (hf : cells + mc ≤ R.cells ∧ slots + ms ≤ R.slots) :
    vx_Run p l e R s m args below meth c H locs cells slots mc ms g rest (Qc (Value.ref b :: As).toArray) XC free := by
  obtain ⟨⟨hrc, hrs, hfr, hlo, hws, hcw⟩, hcode, hini, hy, hlen, hl, hin, hse⟩ := cw
  have hK : vx_Back l R p e below s args y 3 8 (PreOf R mc ms Pc) (PostOf Qc mc ms free) (vx_Post XC mc ms free) := vx_backW (hh := hh) (bytes := bytes) (maxL := maxL) (ret := ret) hM hp.1 hrc hrs hfr hlo hws hcw (fun a' U hW => word_at hW (Or.inl (by first | rfl | simp [Cond.onTables, Cond.keeps, Cond.steady])) hini)
  obtain ⟨hx, hb, hml, ho, -⟩ := S
  obtain ⟨-, ⟨cellB, hcB, hoB, hclB⟩, hPc⟩ := hp
  intro T hT X
  rcases vx_callVX X hx (C := C) (hh := hh) (bytes := bytes) (maxL := maxL) (ret := ret) ho hl hin hse hcode hy hK (by rw [hT]; exact hcB) hoB hclB hg (hsize.trans hml.symm) (argsL := As) (rest := rest) (fun sig h => hn.trans (hlen sig h)) hstack hW (by rw [hb]; exact hdg)
    (fun vm₁ hW₁ => ⟨hf.1, hf.2, hPc (T.setVm vm₁) hT hW₁⟩) with ⟨v, vm₁, ⟨U', l2, c2, s2⟩, hW₁, X', ⟨g', mk, t, L, e1, e2, hq, h1, hL, h2, h3⟩, st⟩ | ⟨q, vm₁, ⟨U', l2, c2, s2⟩, hW₁, X', ⟨g', mk, t, L, E, ce, e1, e2, hq, hce, hcv, hcl, h1, hL, h2, h3⟩, st⟩
  · dsimp only [Pt.U, Pt.locs, Pt.cells, Pt.slots] at X' e1 e2 h1 h2 h3 st
    subst h1; subst h2; subst h3
    exact Or.inl ⟨v, (T.setVm vm₁).calling g' mk (Value.ref b :: As).toArray, t, U', L, hT, X', hL, e1, e2, hq, st⟩
  · dsimp only [Pt.U, Pt.locs, Pt.cells, Pt.slots] at X' e1 e2 h1 h2 h3 st hcl
    subst h1; subst h2; subst h3
    exact Or.inr ⟨q, (T.setVm vm₁).calling g' mk (Value.ref b :: As).toArray, t, U', L, E, ce, hT, X', hL, e1, e2, hq, hce, hcv, vx_cls hW₁ hcl, st⟩
theorem vx_runSX {hh : List (Nat × Nat × Nat × Nat)} (S : CallFix p m c cc nL s args Ts own) (hM : vx_Met l y ws rm Pc Qc XC mc ms free) (cw : vx_CSW R s args own index y bytes maxL ret hh ws rm mc ms n) (hp : PreS s H Pc As)
    (hg : g.method = m) (hn : As.length = n) (hsize : g.locals.size = nL) (hstack : g.stack = As.reverse ++ rest) (hW : 2 * g.monitorRoom + (rest.map fun v => v.category).sum ≤ 8) (hdg : decode cc g.pc = .ok (.invokestatic index, 3)) (hf : cells + mc ≤ R.cells ∧ slots + ms ≤ R.slots) :
    vx_Run p l e R s m args below meth c H locs cells slots mc ms g rest (Qc As.toArray) XC free := by
  obtain ⟨⟨hrc, hrs, hfr, hlo, hws, hcw⟩, hcode, hini, hy, hlen, hl, hstt⟩ := cw
  have hK : vx_Back l R p e below s args y 3 8 (PreOf R mc ms Pc) (PostOf Qc mc ms free) (vx_Post XC mc ms free) := vx_backW (hh := hh) (bytes := bytes) (maxL := maxL) (ret := ret) hM hp.1 hrc hrs hfr hlo hws hcw (fun a' U hW => word_at hW (Or.inl (by first | rfl | simp [Cond.onTables, Cond.keeps, Cond.steady])) hini)
  obtain ⟨hx, hb, hml, ho, -⟩ := S
  intro T hT X
  rcases vx_callSX X hx (hh := hh) (bytes := bytes) (maxL := maxL) (ret := ret) ho hl hstt hini hcode hy hK hg (hsize.trans hml.symm) (argsL := As) (rest := rest) (fun sig h => hn.trans (hlen sig h)) hstack hW (by rw [hb]; exact hdg)
    (fun vm₁ hW₁ => ⟨hf.1, hf.2, hp.2 (T.setVm vm₁) hT hW₁⟩) with ⟨v, vm₁, ⟨U', l2, c2, s2⟩, hW₁, X', ⟨g', mk, t, L, e1, e2, hq, h1, hL, h2, h3⟩, st⟩ | ⟨q, vm₁, ⟨U', l2, c2, s2⟩, hW₁, X', ⟨g', mk, t, L, E, ce, e1, e2, hq, hce, hcv, hcl, h1, hL, h2, h3⟩, st⟩
  · dsimp only [Pt.U, Pt.locs, Pt.cells, Pt.slots] at X' e1 e2 h1 h2 h3 st
    subst h1; subst h2; subst h3
    exact Or.inl ⟨v, (T.setVm vm₁).calling g' mk As.toArray, t, U', L, hT, X', hL, e1, e2, hq, st⟩
  · dsimp only [Pt.U, Pt.locs, Pt.cells, Pt.slots] at X' e1 e2 h1 h2 h3 st hcl
    subst h1; subst h2; subst h3
    exact Or.inr ⟨q, (T.setVm vm₁).calling g' mk As.toArray, t, U', L, E, ce, hT, X', hL, e1, e2, hq, hce, hcv, vx_cls hW₁ hcl, st⟩
end
end VXH
theorem vx_ofWH {l : Launch} {y : MethodName} {ws ws' : List Cond} {rm : Room} {Pc : Array Value → State → Prop} {Qc : Array Value → State → Outcome → State → Prop} {XC : String → State → State → Prop} {mc ms : Nat} {free : Addr → Prop} {cc : ByteArray} {maxL : Nat} {ret : Option FieldType} {hh : List (Nat × Nat × Nat × Nat)}
    (hy : plainName y.cls = true) (hw : ws = Cond.codeWith y cc maxL ret hh :: ws')
    (body : ∀ p e s m args below meth c s₁, BodyLoose p l y (headSpec ws rm) cc maxL ret e s m args below meth c s₁ → c.maxLocals = maxL → Pc args s →
      W p l e (headSpec ws rm).room s m args below meth c s.heap [] 0 0 (vx_MQ below Qc XC args s mc ms free) (entryFrame m args maxL)) : vx_Met l y ws rm Pc Qc XC mc ms free := by
  refine MetFree.of_bodyS (code := cc) (maxLocals := maxL) (ret := ret) hy ?_ ?_
  · intro args s m h hn
    obtain ⟨m9, meth, c, hn9, h1, h2, h3, h4, -, h5, h6, -⟩ := Cond.codeWith_spec (atoms_spec (ws := ws) h _ (by rw [hw]; exact List.mem_cons_self))
    cases hn.symm.trans hn9
    exact ⟨meth, c, h1, h2, h3, h4, h5, h6⟩
  · intro p e s m args below meth c s₁ B hml hP _
    have hh0 : s₁.heap = s.heap := by rw [B.state]; rfl
    obtain ⟨t, a1, o, b1, b2, b3⟩ := body p e s m args below meth c s₁ B hml hP s₁ hh0 (Stand.of_body B)
    exact ⟨t, o, a1, b1, b2, b3⟩
/-! ===== END ===== -/

/-! ===== BEGIN printed: names, fields, word lists, decode rows ===== -/
def RX0 : String := "TwinOrchard$Tree"
def TX0 : u_T := fun k => match k with
  | 0 => ("TwinOrchard$Tree", "vigour", "I", false)
  | 1 => ("TwinOrchard$Tree", "hardiness", "I", false)
  | 2 => ("TwinOrchard$Tree", "branches", "I", false)
  | _ => ("TwinOrchard$Tree", "tired", "Z", false)
def tyX0 : Nat → FieldType := fun k => match k with
  | 0 => .int
  | 1 => .int
  | 2 => .int
  | _ => .boolean
abbrev wsX00 : List Cond := u_ws RX0 TX0 4
theorem nmX0 : ∀ a, a < 4 → ∀ b, b < 4 → a ≠ b → (TX0 a).2.1 ≠ (TX0 b).2.1 := by decide +kernel
theorem tyX0_ok : ∀ k, k < 4 → parseFieldDescriptor (TX0 k).2.2.1 = some (tyX0 k) := by decide +kernel
abbrev cX0_init : ByteArray := prog_2_method_1_code
def yX0_init : MethodName := ⟨RX0, "<init>", "()V"⟩
abbrev cX0_shorten : ByteArray := prog_2_method_2_code
def yX0_shorten : MethodName := ⟨RX0, "shorten", "(I)V"⟩
abbrev cX0_apples : ByteArray := prog_2_method_3_code
def yX0_apples : MethodName := ⟨RX0, "apples", "()I"⟩
abbrev cX0_liveYear : ByteArray := prog_2_method_4_code
def yX0_liveYear : MethodName := ⟨RX0, "liveYear", "(I)I"⟩
abbrev cX0_freeze : ByteArray := prog_2_method_5_code
def yX0_freeze : MethodName := ⟨RX0, "freeze", "(I)V"⟩
abbrev cX0_grow : ByteArray := prog_2_method_6_code
def yX0_grow : MethodName := ⟨RX0, "grow", "()V"⟩
def RX1 : String := "TwinOrchard"
def TX1 : u_T := fun k => match k with
  | 0 => ("TwinOrchard", "weights", "[I", true)
  | 1 => ("TwinOrchard", "hardiness", "[I", true)
  | 2 => ("TwinOrchard", "barn", "[I", true)
  | 3 => ("TwinOrchard", "frosts", "[I", true)
  | 4 => ("TwinOrchard", "kinds", "[I", true)
  | 5 => ("TwinOrchard", "branches", "[I", true)
  | 6 => ("TwinOrchard", "vigours", "[I", true)
  | 7 => ("TwinOrchard", "tired", "[Z", true)
  | 8 => ("TwinOrchard", "strength", "[I", true)
  | 9 => ("TwinOrchard", "year", "I", false)
  | 10 => ("TwinOrchard", "carriedLeftMore", "I", false)
  | 11 => ("TwinOrchard", "looked", "LTwinOrchard$Tree;", true)
  | _ => ("TwinOrchard", "fewest", "[I", true)
def tyX1 : Nat → FieldType := fun k => match k with
  | 0 => .array .int
  | 1 => .array .int
  | 2 => .array .int
  | 3 => .array .int
  | 4 => .array .int
  | 5 => .array .int
  | 6 => .array .int
  | 7 => .array .boolean
  | 8 => .array .int
  | 9 => .int
  | 10 => .int
  | 11 => .object "TwinOrchard$Tree"
  | _ => .array .int
abbrev wsX10 : List Cond := u_ws RX1 TX1 13
theorem nmX1 : ∀ a, a < 13 → ∀ b, b < 13 → a ≠ b → (TX1 a).2.1 ≠ (TX1 b).2.1 := by decide +kernel
theorem tyX1_ok : ∀ k, k < 13 → parseFieldDescriptor (TX1 k).2.2.1 = some (tyX1 k) := by decide +kernel
abbrev cX1_init : ByteArray := prog_1_method_1_code
def yX1_init : MethodName := ⟨RX1, "<init>", "()V"⟩
abbrev cX1_setSort : ByteArray := prog_1_method_2_code
def yX1_setSort : MethodName := ⟨RX1, "setSort", "(III)I"⟩
abbrev cX1_setFrost : ByteArray := prog_1_method_3_code
def yX1_setFrost : MethodName := ⟨RX1, "setFrost", "(II)I"⟩
abbrev cX1_plant : ByteArray := prog_1_method_4_code
def yX1_plant : MethodName := ⟨RX1, "plant", "(IIII)I"⟩
abbrev cX1_prune : ByteArray := prog_1_method_5_code
def yX1_prune : MethodName := ⟨RX1, "prune", "(III)I"⟩
abbrev cX1_graft : ByteArray := prog_1_method_6_code
def yX1_graft : MethodName := ⟨RX1, "graft", "(III)I"⟩
abbrev cX1_fell : ByteArray := prog_1_method_7_code
def yX1_fell : MethodName := ⟨RX1, "fell", "(II)I"⟩
abbrev cX1_tree : ByteArray := prog_1_method_8_code
def yX1_tree : MethodName := ⟨RX1, "tree", "(III)I"⟩
abbrev cX1_sort : ByteArray := prog_1_method_9_code
def yX1_sort : MethodName := ⟨RX1, "sort", "(II)I"⟩
abbrev cX1_count : ByteArray := prog_1_method_10_code
def yX1_count : MethodName := ⟨RX1, "count", "(I)I"⟩
abbrev cX1_leans : ByteArray := prog_1_method_11_code
def yX1_leans : MethodName := ⟨RX1, "leans", "(I)I"⟩
abbrev cX1_carry : ByteArray := prog_1_method_12_code
def yX1_carry : MethodName := ⟨RX1, "carry", "(III)I"⟩
abbrev cX1_tilt : ByteArray := prog_1_method_13_code
def yX1_tilt : MethodName := ⟨RX1, "tilt", "()I"⟩
abbrev cX1_balance : ByteArray := prog_1_method_14_code
def yX1_balance : MethodName := ⟨RX1, "balance", "()I"⟩
abbrev cX1_pass : ByteArray := prog_1_method_15_code
def yX1_pass : MethodName := ⟨RX1, "pass", "(I)I"⟩
abbrev cX1_foresee : ByteArray := prog_1_method_16_code
def yX1_foresee : MethodName := ⟨RX1, "foresee", "(II)I"⟩
abbrev cX1_mean : ByteArray := prog_1_method_18_code
def yX1_mean : MethodName := ⟨RX1, "mean", "()D"⟩
abbrev cX1_isWithin : ByteArray := prog_1_method_20_code
def yX1_isWithin : MethodName := ⟨RX1, "isWithin", "(III)Z"⟩
abbrev cX1_isSort : ByteArray := prog_1_method_21_code
def yX1_isSort : MethodName := ⟨RX1, "isSort", "(I)Z"⟩
abbrev cX1_isPlace : ByteArray := prog_1_method_22_code
def yX1_isPlace : MethodName := ⟨RX1, "isPlace", "(II)Z"⟩
abbrev cX1_spotOf : ByteArray := prog_1_method_23_code
def yX1_spotOf : MethodName := ⟨RX1, "spotOf", "(II)I"⟩
abbrev cX1_mirrorOf : ByteArray := prog_1_method_24_code
def yX1_mirrorOf : MethodName := ⟨RX1, "mirrorOf", "(I)I"⟩
abbrev cX1_twinOf : ByteArray := prog_1_method_25_code
def yX1_twinOf : MethodName := ⟨RX1, "twinOf", "(I)I"⟩
abbrev cX1_hasTree : ByteArray := prog_1_method_26_code
def yX1_hasTree : MethodName := ⟨RX1, "hasTree", "(I)Z"⟩
abbrev cX1_whoDidIt : ByteArray := prog_1_method_27_code
def yX1_whoDidIt : MethodName := ⟨RX1, "whoDidIt", "(ZZ)I"⟩
abbrev cX1_canPay : ByteArray := prog_1_method_28_code
def yX1_canPay : MethodName := ⟨RX1, "canPay", "(II)Z"⟩
abbrev cX1_pay : ByteArray := prog_1_method_29_code
def yX1_pay : MethodName := ⟨RX1, "pay", "(II)V"⟩
abbrev cX1_plantAt : ByteArray := prog_1_method_30_code
def yX1_plantAt : MethodName := ⟨RX1, "plantAt", "(III)Z"⟩
abbrev cX1_canPrune : ByteArray := prog_1_method_31_code
def yX1_canPrune : MethodName := ⟨RX1, "canPrune", "(II)Z"⟩
abbrev cX1_pruneAt : ByteArray := prog_1_method_32_code
def yX1_pruneAt : MethodName := ⟨RX1, "pruneAt", "(II)Z"⟩
abbrev cX1_graftAt : ByteArray := prog_1_method_33_code
def yX1_graftAt : MethodName := ⟨RX1, "graftAt", "(II)Z"⟩
abbrev cX1_fellAt : ByteArray := prog_1_method_34_code
def yX1_fellAt : MethodName := ⟨RX1, "fellAt", "(I)Z"⟩
abbrev cX1_treesOfSort : ByteArray := prog_1_method_35_code
def yX1_treesOfSort : MethodName := ⟨RX1, "treesOfSort", "(I)I"⟩
abbrev cX1_allTrees : ByteArray := prog_1_method_36_code
def yX1_allTrees : MethodName := ⟨RX1, "allTrees", "()I"⟩
abbrev cX1_allTired : ByteArray := prog_1_method_37_code
def yX1_allTired : MethodName := ⟨RX1, "allTired", "()I"⟩
abbrev cX1_applesInBarn : ByteArray := prog_1_method_38_code
def yX1_applesInBarn : MethodName := ⟨RX1, "applesInBarn", "()I"⟩
abbrev cX1_weightInBarn : ByteArray := prog_1_method_39_code
def yX1_weightInBarn : MethodName := ⟨RX1, "weightInBarn", "()I"⟩
abbrev cX1_unlikePairs : ByteArray := prog_1_method_40_code
def yX1_unlikePairs : MethodName := ⟨RX1, "unlikePairs", "()I"⟩
abbrev cX1_balancedApples : ByteArray := prog_1_method_41_code
def yX1_balancedApples : MethodName := ⟨RX1, "balancedApples", "(I)I"⟩
abbrev cX1_heaviestUpTo : ByteArray := prog_1_method_42_code
def yX1_heaviestUpTo : MethodName := ⟨RX1, "heaviestUpTo", "(I)I"⟩
abbrev cX1_reachWithSort : ByteArray := prog_1_method_43_code
def yX1_reachWithSort : MethodName := ⟨RX1, "reachWithSort", "(II)V"⟩
abbrev cX1_lookAt : ByteArray := prog_1_method_44_code
def yX1_lookAt : MethodName := ⟨RX1, "lookAt", "(I)V"⟩
abbrev cX1_keepLooked : ByteArray := prog_1_method_45_code
def yX1_keepLooked : MethodName := ⟨RX1, "keepLooked", "(I)V"⟩
abbrev cX1_applesNow : ByteArray := prog_1_method_46_code
def yX1_applesNow : MethodName := ⟨RX1, "applesNow", "(I)I"⟩
abbrev cX1_liveLooked : ByteArray := prog_1_method_47_code
def yX1_liveLooked : MethodName := ⟨RX1, "liveLooked", "(I)I"⟩
abbrev cX1_passAt : ByteArray := prog_1_method_48_code
def yX1_passAt : MethodName := ⟨RX1, "passAt", "(II)I"⟩
def RX2 : String := "TwinOrchardLaw$Sim"
def TX2 : u_T := fun k => match k with
  | 0 => ("TwinOrchardLaw$Sim", "trees", "[[LTwinOrchardLaw$Tree;", false)
  | 1 => ("TwinOrchardLaw$Sim", "weight", "[I", false)
  | 2 => ("TwinOrchardLaw$Sim", "bears", "[I", false)
  | 3 => ("TwinOrchardLaw$Sim", "frost", "[I", false)
  | 4 => ("TwinOrchardLaw$Sim", "barn", "[I", false)
  | 5 => ("TwinOrchardLaw$Sim", "strength", "[I", false)
  | 6 => ("TwinOrchardLaw$Sim", "year", "I", false)
  | _ => ("TwinOrchardLaw$Sim", "tilt", "I", false)
def tyX2 : Nat → FieldType := fun k => match k with
  | 0 => .array (.array (.object "TwinOrchardLaw$Tree"))
  | 1 => .array .int
  | 2 => .array .int
  | 3 => .array .int
  | 4 => .array .int
  | 5 => .array .int
  | 6 => .int
  | _ => .int
abbrev wsX20 : List Cond := u_ws RX2 TX2 8
theorem nmX2 : ∀ a, a < 8 → ∀ b, b < 8 → a ≠ b → (TX2 a).2.1 ≠ (TX2 b).2.1 := by decide +kernel
theorem tyX2_ok : ∀ k, k < 8 → parseFieldDescriptor (TX2 k).2.2.1 = some (tyX2 k) := by decide +kernel
abbrev cX2_init : ByteArray := prog_4_method_1_code
def yX2_init : MethodName := ⟨RX2, "<init>", "()V"⟩
abbrev cX2_work : ByteArray := prog_4_method_3_code
def yX2_work : MethodName := ⟨RX2, "work", "(IIIII)I"⟩
abbrev cX2_pass : ByteArray := prog_4_method_4_code
def yX2_pass : MethodName := ⟨RX2, "pass", "()I"⟩
abbrev cX2_branches : ByteArray := prog_4_method_6_code
def yX2_branches : MethodName := ⟨RX2, "branches", "()I"⟩
abbrev cX2_tired : ByteArray := prog_4_method_7_code
def yX2_tired : MethodName := ⟨RX2, "tired", "()I"⟩
abbrev cX2_isSame : ByteArray := prog_4_method_9_code
def yX2_isSame : MethodName := ⟨RX2, "isSame", "(LTwinOrchard;)Z"⟩
def RX3 : String := "TwinOrchardLaw$Tree"
def TX3 : u_T := fun k => match k with
  | 0 => ("TwinOrchardLaw$Tree", "branches", "I", false)
  | 1 => ("TwinOrchardLaw$Tree", "vigour", "I", false)
  | 2 => ("TwinOrchardLaw$Tree", "sort", "I", false)
  | _ => ("TwinOrchardLaw$Tree", "tired", "Z", false)
def tyX3 : Nat → FieldType := fun k => match k with
  | 0 => .int
  | 1 => .int
  | 2 => .int
  | _ => .boolean
abbrev wsX30 : List Cond := u_ws RX3 TX3 4
theorem nmX3 : ∀ a, a < 4 → ∀ b, b < 4 → a ≠ b → (TX3 a).2.1 ≠ (TX3 b).2.1 := by decide +kernel
theorem tyX3_ok : ∀ k, k < 4 → parseFieldDescriptor (TX3 k).2.2.1 = some (tyX3 k) := by decide +kernel
abbrev cX3_init : ByteArray := prog_5_method_1_code
def yX3_init : MethodName := ⟨RX3, "<init>", "()V"⟩
abbrev cX3_apples : ByteArray := prog_5_method_3_code
def yX3_apples : MethodName := ⟨RX3, "apples", "()I"⟩
def RX4 : String := "TwinOrchardModel"
def TX4 : u_T := fun k => match k with
  | _ => ("", "", "", false)
def tyX4 : Nat → FieldType := fun k => match k with
  | _ => .int
abbrev wsX40 : List Cond := u_ws RX4 TX4 0
theorem nmX4 : ∀ a, a < 0 → ∀ b, b < 0 → a ≠ b → (TX4 a).2.1 ≠ (TX4 b).2.1 := by decide +kernel
theorem tyX4_ok : ∀ k, k < 0 → parseFieldDescriptor (TX4 k).2.2.1 = some (tyX4 k) := by decide +kernel
def RJx145de : String := "java/io/Serializable"
def TJx145de : u_T := fun k => match k with
  | _ => ("", "", "", false)
def tyJx145de : Nat → FieldType := fun k => match k with
  | _ => .int
abbrev wsJx145de0 : List Cond := u_ws RJx145de TJx145de 0
theorem nmJx145de : ∀ a, a < 0 → ∀ b, b < 0 → a ≠ b → (TJx145de a).2.1 ≠ (TJx145de b).2.1 := by decide +kernel
theorem tyJx145de_ok : ∀ k, k < 0 → parseFieldDescriptor (TJx145de k).2.2.1 = some (tyJx145de k) := by decide +kernel
def RJ9 : String := "java/lang/Math"
def TJ9 : u_T := fun k => match k with
  | _ => ("", "", "", false)
def tyJ9 : Nat → FieldType := fun k => match k with
  | _ => .int
abbrev wsJ90 : List Cond := u_ws RJ9 TJ9 0
theorem nmJ9 : ∀ a, a < 0 → ∀ b, b < 0 → a ≠ b → (TJ9 a).2.1 ≠ (TJ9 b).2.1 := by decide +kernel
theorem tyJ9_ok : ∀ k, k < 0 → parseFieldDescriptor (TJ9 k).2.2.1 = some (tyJ9 k) := by decide +kernel
abbrev cJ9_floorMod_7cf53 : ByteArray := prog_11_method_50_code
def yJ9_floorMod_7cf53 : MethodName := ⟨RJ9, "floorMod", "(II)I"⟩
abbrev cJ9_max_7cf53 : ByteArray := prog_11_method_65_code
def yJ9_max_7cf53 : MethodName := ⟨RJ9, "max", "(II)I"⟩
abbrev cJ9_min_7cf53 : ByteArray := prog_11_method_69_code
def yJ9_min_7cf53 : MethodName := ⟨RJ9, "min", "(II)I"⟩
def RJ0 : String := "java/lang/String"
def TJ0 : u_T := fun k => match k with
  | _ => ("", "", "", false)
def tyJ0 : Nat → FieldType := fun k => match k with
  | _ => .int
abbrev wsJ00 : List Cond := u_ws RJ0 TJ0 0
theorem nmJ0 : ∀ a, a < 0 → ∀ b, b < 0 → a ≠ b → (TJ0 a).2.1 ≠ (TJ0 b).2.1 := by decide +kernel
theorem tyJ0_ok : ∀ k, k < 0 → parseFieldDescriptor (TJ0 k).2.2.1 = some (tyJ0 k) := by decide +kernel
def RJ7 : String := "java/util/Arrays"
def TJ7 : u_T := fun k => match k with
  | _ => ("", "", "", false)
def tyJ7 : Nat → FieldType := fun k => match k with
  | _ => .int
abbrev wsJ70 : List Cond := u_ws RJ7 TJ7 0
theorem nmJ7 : ∀ a, a < 0 → ∀ b, b < 0 → a ≠ b → (TJ7 a).2.1 ≠ (TJ7 b).2.1 := by decide +kernel
theorem tyJ7_ok : ∀ k, k < 0 → parseFieldDescriptor (TJ7 k).2.2.1 = some (tyJ7 k) := by decide +kernel
abbrev cJ7_fill_53178 : ByteArray := prog_15_method_103_code
def yJ7_fill_53178 : MethodName := ⟨RJ7, "fill", "([II)V"⟩
def RL : String := "TwinOrchardLaw"
abbrev cL_below : ByteArray := method_2_code
def yL_below : MethodName := ⟨RL, "below", "(II)I"⟩
abbrev cL_cell : ByteArray := method_3_code
def yL_cell : MethodName := ⟨RL, "cell", "([II)I"⟩
abbrev cL_build : ByteArray := method_4_code
def yL_build : MethodName := ⟨RL, "build", "(LTwinOrchard;[I)LTwinOrchardLaw$Sim;"⟩
abbrev cL_act : ByteArray := method_5_code
def yL_act : MethodName := ⟨RL, "act", "(LTwinOrchard;LTwinOrchardLaw$Sim;I)Z"⟩
abbrev cL_law : ByteArray := code
def yL_law : MethodName := ⟨RL, "law", "([I)Z"⟩
abbrev cL_trees : ByteArray := method_7_code
def yL_trees : MethodName := ⟨RL, "trees", "(LTwinOrchard;)[[I"⟩
abbrev cL_same : ByteArray := method_8_code
def yL_same : MethodName := ⟨RL, "same", "([I[I)Z"⟩
abbrev cL_alike : ByteArray := method_9_code
def yL_alike : MethodName := ⟨RL, "alike", "([[III)Z"⟩
abbrev cL_even : ByteArray := method_10_code
def yL_even : MethodName := ⟨RL, "even", "(LTwinOrchard;)I"⟩
def wsX0_init : List Cond := .code yX0_init cX0_init 1 none :: ([.methodLink RX0 3 objectInit, .instanceMethod objectInit, .code objectInit ⟨#[0xb1]⟩ 1 none])
def wsX0_shorten : List Cond := .code yX0_shorten cX0_shorten 2 none :: ([.fieldLink RX0 9 "TwinOrchard$Tree" "branches" "I", .fieldLink RX0 15 "TwinOrchard$Tree" "tired" "Z"] ++ wsX00)
def wsX0_apples : List Cond := .code yX0_apples cX0_apples 2 (some .int) :: ([.fieldLink RX0 9 "TwinOrchard$Tree" "branches" "I", .fieldLink RX0 19 "TwinOrchard$Tree" "vigour" "I", .fieldLink RX0 15 "TwinOrchard$Tree" "tired" "Z"] ++ wsX00)
def wsX0_freeze : List Cond := .code yX0_freeze cX0_freeze 3 none :: ([.fieldLink RX0 33 "TwinOrchard$Tree" "hardiness" "I", .methodLink RX0 36 Lib.Math.max.name, .static Lib.Math.max.name, .initialized "java/lang/Math", .code Lib.Math.max.name Lib.Math.max.code 2 (some .int), .fieldLink RX0 9 "TwinOrchard$Tree" "branches" "I"] ++ wsX00)
def wsX0_grow : List Cond := .code yX0_grow cX0_grow 2 none :: ([.fieldLink RX0 19 "TwinOrchard$Tree" "vigour" "I", .fieldLink RX0 9 "TwinOrchard$Tree" "branches" "I", .methodLink RX0 42 Lib.Math.min.name, .static Lib.Math.min.name, .initialized "java/lang/Math", .code Lib.Math.min.name Lib.Math.min.code 2 (some .int)] ++ wsX00)
def wsX0_liveYear : List Cond := .code yX0_liveYear cX0_liveYear 3 (some .int) :: ([.fieldLink RX0 15 "TwinOrchard$Tree" "tired" "Z", .methodLink RX0 22 yX0_freeze, .instanceMethod yX0_freeze, .selects RX0 yX0_freeze yX0_freeze, .initialized RX0, .code yX0_freeze cX0_freeze 3 none, .fieldLink RX0 33 "TwinOrchard$Tree" "hardiness" "I", .methodLink RX0 36 Lib.Math.max.name, .static Lib.Math.max.name, .initialized "java/lang/Math", .code Lib.Math.max.name Lib.Math.max.code 2 (some .int), .fieldLink RX0 9 "TwinOrchard$Tree" "branches" "I", .methodLink RX0 26 yX0_apples, .instanceMethod yX0_apples, .selects RX0 yX0_apples yX0_apples, .code yX0_apples cX0_apples 2 (some .int), .fieldLink RX0 19 "TwinOrchard$Tree" "vigour" "I", .methodLink RX0 30 yX0_grow, .instanceMethod yX0_grow, .selects RX0 yX0_grow yX0_grow, .code yX0_grow cX0_grow 2 none, .methodLink RX0 42 Lib.Math.min.name, .static Lib.Math.min.name, .code Lib.Math.min.name Lib.Math.min.code 2 (some .int)] ++ wsX00)
def wsJ7_fill_53178 : List Cond := .code yJ7_fill_53178 cJ7_fill_53178 4 none :: ([])
def wsX1_init_r1 : List Cond := [Cond.methodLink RX1 1 objectInit, Cond.instanceMethod objectInit, Cond.code objectInit ⟨#[0xb1]⟩ 1 none, Cond.arrayClass .int, Cond.fieldLink RX1 9 "TwinOrchard" "weights" "[I", Cond.fieldLink RX1 13 "TwinOrchard" "hardiness" "[I", Cond.fieldLink RX1 16 "TwinOrchard" "barn" "[I", Cond.fieldLink RX1 19 "TwinOrchard" "frosts" "[I", Cond.fieldLink RX1 22 "TwinOrchard" "kinds" "[I", Cond.fieldLink RX1 25 "TwinOrchard" "branches" "[I", Cond.fieldLink RX1 28 "TwinOrchard" "vigours" "[I", Cond.arrayClass .boolean, Cond.fieldLink RX1 31 "TwinOrchard" "tired" "[Z", Cond.fieldLink RX1 35 "TwinOrchard" "strength" "[I", Cond.fieldLink RX1 38 "TwinOrchard" "year" "I", Cond.fieldLink RX1 42 "TwinOrchard" "carriedLeftMore" "I", Cond.classLink RX1 45 RX0, Cond.instantiable RX0 4, Cond.initialized RX0, Cond.fieldLink RX1 48 "TwinOrchard" "looked" "LTwinOrchard$Tree;", Cond.fieldLink RX1 52 "TwinOrchard" "fewest" "[I", Cond.instanceMethod yX0_init, Cond.code yX0_init cX0_init 1 none, Cond.methodLink RX0 3 objectInit]
def wsX1_init_r2 : List Cond := [Cond.methodLink RX1 55 yJ7_fill_53178, Cond.static yJ7_fill_53178, Cond.initialized RJ7, Cond.code yJ7_fill_53178 cJ7_fill_53178 4 none]
def wsX1_init : List Cond := .code yX1_init cX1_init 1 none :: ((wsX1_init_r1 ++ wsX1_init_r2) ++ wsX10 ++ wsX00)
def wsX1_isWithin : List Cond := .code yX1_isWithin cX1_isWithin 3 (some .boolean) :: ([])
def wsX1_isSort : List Cond := .code yX1_isSort cX1_isSort 1 (some .boolean) :: ([.methodLink RX1 72 yX1_isWithin, .static yX1_isWithin, .initialized RX1, .code yX1_isWithin cX1_isWithin 3 (some .boolean)])
def wsX1_setSort : List Cond := .code yX1_setSort cX1_setSort 5 (some .int) :: ([.classLink RX1 65 "java/lang/IndexOutOfBoundsException", .initialized "java/lang/IndexOutOfBoundsException", .classLink RX1 76 "java/lang/IllegalArgumentException", .initialized "java/lang/IllegalArgumentException", .fieldLink RX1 9 "TwinOrchard" "weights" "[I", .fieldLink RX1 13 "TwinOrchard" "hardiness" "[I", .methodLink RX1 61 yX1_isSort, .static yX1_isSort, .initialized RX1, .code yX1_isSort cX1_isSort 1 (some .boolean), .methodLink RX1 72 yX1_isWithin, .static yX1_isWithin, .code yX1_isWithin cX1_isWithin 3 (some .boolean)] ++ wsX10 ++ (vx_atS RX1 69 "java/lang/IndexOutOfBoundsException" ["java/lang/RuntimeException", "java/lang/Exception"]).filter goodWord ++ (vx_atS RX1 80 "java/lang/IllegalArgumentException" ["java/lang/RuntimeException", "java/lang/Exception"]).filter goodWord)
def wsX1_setFrost : List Cond := .code yX1_setFrost cX1_setFrost 4 (some .int) :: ([.classLink RX1 65 "java/lang/IndexOutOfBoundsException", .initialized "java/lang/IndexOutOfBoundsException", .classLink RX1 76 "java/lang/IllegalArgumentException", .initialized "java/lang/IllegalArgumentException", .fieldLink RX1 19 "TwinOrchard" "frosts" "[I", .methodLink RX1 72 yX1_isWithin, .static yX1_isWithin, .initialized RX1, .code yX1_isWithin cX1_isWithin 3 (some .boolean)] ++ wsX10 ++ (vx_atS RX1 69 "java/lang/IndexOutOfBoundsException" ["java/lang/RuntimeException", "java/lang/Exception"]).filter goodWord ++ (vx_atS RX1 80 "java/lang/IllegalArgumentException" ["java/lang/RuntimeException", "java/lang/Exception"]).filter goodWord)
def wsX1_isPlace : List Cond := .code yX1_isPlace cX1_isPlace 2 (some .boolean) :: ([.methodLink RX1 72 yX1_isWithin, .static yX1_isWithin, .initialized RX1, .code yX1_isWithin cX1_isWithin 3 (some .boolean)])
def wsX1_spotOf : List Cond := .code yX1_spotOf cX1_spotOf 2 (some .int) :: ([])
def wsX1_hasTree : List Cond := .code yX1_hasTree cX1_hasTree 2 (some .boolean) :: ([.fieldLink RX1 22 "TwinOrchard" "kinds" "[I"] ++ wsX10)
def wsX1_twinOf : List Cond := .code yX1_twinOf cX1_twinOf 1 (some .int) :: ([])
def wsX1_canPay : List Cond := .code yX1_canPay cX1_canPay 3 (some .boolean) :: ([.fieldLink RX1 35 "TwinOrchard" "strength" "[I", .methodLink RX1 202 yX1_twinOf, .static yX1_twinOf, .initialized RX1, .code yX1_twinOf cX1_twinOf 1 (some .int)] ++ wsX10)
def wsX1_pay : List Cond := .code yX1_pay cX1_pay 3 none :: ([.fieldLink RX1 35 "TwinOrchard" "strength" "[I", .methodLink RX1 202 yX1_twinOf, .static yX1_twinOf, .initialized RX1, .code yX1_twinOf cX1_twinOf 1 (some .int)] ++ wsX10)
def wsX1_plantAt : List Cond := .code yX1_plantAt cX1_plantAt 4 (some .boolean) :: ([.fieldLink RX1 22 "TwinOrchard" "kinds" "[I", .fieldLink RX1 25 "TwinOrchard" "branches" "[I", .fieldLink RX1 28 "TwinOrchard" "vigours" "[I", .fieldLink RX1 31 "TwinOrchard" "tired" "[Z", .methodLink RX1 121 yX1_hasTree, .instanceMethod yX1_hasTree, .selects RX1 yX1_hasTree yX1_hasTree, .initialized RX1, .code yX1_hasTree cX1_hasTree 2 (some .boolean), .methodLink RX1 205 yX1_canPay, .instanceMethod yX1_canPay, .selects RX1 yX1_canPay yX1_canPay, .code yX1_canPay cX1_canPay 3 (some .boolean), .fieldLink RX1 35 "TwinOrchard" "strength" "[I", .methodLink RX1 202 yX1_twinOf, .static yX1_twinOf, .code yX1_twinOf cX1_twinOf 1 (some .int), .methodLink RX1 208 yX1_pay, .instanceMethod yX1_pay, .selects RX1 yX1_pay yX1_pay, .code yX1_pay cX1_pay 3 none] ++ wsX10)
def wsX1_mirrorOf : List Cond := .code yX1_mirrorOf cX1_mirrorOf 2 (some .int) :: ([])
def wsX1_whoDidIt : List Cond := .code yX1_whoDidIt cX1_whoDidIt 2 (some .int) :: ([])
def wsX1_plant_r1 : List Cond := [Cond.classLink RX1 65 "java/lang/IndexOutOfBoundsException", Cond.initialized "java/lang/IndexOutOfBoundsException", Cond.classLink RX1 76 "java/lang/IllegalArgumentException", Cond.initialized "java/lang/IllegalArgumentException", Cond.methodLink RX1 85 yX1_isPlace, Cond.static yX1_isPlace, Cond.initialized RX1, Cond.code yX1_isPlace cX1_isPlace 2 (some .boolean), Cond.methodLink RX1 72 yX1_isWithin, Cond.static yX1_isWithin, Cond.code yX1_isWithin cX1_isWithin 3 (some .boolean), Cond.methodLink RX1 61 yX1_isSort, Cond.static yX1_isSort, Cond.code yX1_isSort cX1_isSort 1 (some .boolean), Cond.methodLink RX1 93 yX1_spotOf, Cond.static yX1_spotOf, Cond.code yX1_spotOf cX1_spotOf 2 (some .int), Cond.methodLink RX1 97 yX1_plantAt, Cond.instanceMethod yX1_plantAt, Cond.selects RX1 yX1_plantAt yX1_plantAt, Cond.code yX1_plantAt cX1_plantAt 4 (some .boolean), Cond.fieldLink RX1 22 "TwinOrchard" "kinds" "[I", Cond.fieldLink RX1 25 "TwinOrchard" "branches" "[I", Cond.fieldLink RX1 28 "TwinOrchard" "vigours" "[I"]
def wsX1_plant_r2 : List Cond := [Cond.fieldLink RX1 31 "TwinOrchard" "tired" "[Z", Cond.methodLink RX1 121 yX1_hasTree, Cond.instanceMethod yX1_hasTree, Cond.selects RX1 yX1_hasTree yX1_hasTree, Cond.code yX1_hasTree cX1_hasTree 2 (some .boolean), Cond.methodLink RX1 205 yX1_canPay, Cond.instanceMethod yX1_canPay, Cond.selects RX1 yX1_canPay yX1_canPay, Cond.code yX1_canPay cX1_canPay 3 (some .boolean), Cond.fieldLink RX1 35 "TwinOrchard" "strength" "[I", Cond.methodLink RX1 202 yX1_twinOf, Cond.static yX1_twinOf, Cond.code yX1_twinOf cX1_twinOf 1 (some .int), Cond.methodLink RX1 208 yX1_pay, Cond.instanceMethod yX1_pay, Cond.selects RX1 yX1_pay yX1_pay, Cond.code yX1_pay cX1_pay 3 none, Cond.methodLink RX1 100 yX1_mirrorOf, Cond.static yX1_mirrorOf, Cond.code yX1_mirrorOf cX1_mirrorOf 2 (some .int), Cond.methodLink RX1 104 yX1_whoDidIt, Cond.static yX1_whoDidIt, Cond.code yX1_whoDidIt cX1_whoDidIt 2 (some .int)]
def wsX1_plant : List Cond := .code yX1_plant cX1_plant 8 (some .int) :: ((wsX1_plant_r1 ++ wsX1_plant_r2) ++ wsX10 ++ (vx_atS RX1 69 "java/lang/IndexOutOfBoundsException" ["java/lang/RuntimeException", "java/lang/Exception"]).filter goodWord ++ (vx_atS RX1 80 "java/lang/IllegalArgumentException" ["java/lang/RuntimeException", "java/lang/Exception"]).filter goodWord)
def wsX1_canPrune : List Cond := .code yX1_canPrune cX1_canPrune 3 (some .boolean) :: ([.fieldLink RX1 25 "TwinOrchard" "branches" "[I", .methodLink RX1 121 yX1_hasTree, .instanceMethod yX1_hasTree, .selects RX1 yX1_hasTree yX1_hasTree, .initialized RX1, .code yX1_hasTree cX1_hasTree 2 (some .boolean), .fieldLink RX1 22 "TwinOrchard" "kinds" "[I", .methodLink RX1 205 yX1_canPay, .instanceMethod yX1_canPay, .selects RX1 yX1_canPay yX1_canPay, .code yX1_canPay cX1_canPay 3 (some .boolean), .fieldLink RX1 35 "TwinOrchard" "strength" "[I", .methodLink RX1 202 yX1_twinOf, .static yX1_twinOf, .code yX1_twinOf cX1_twinOf 1 (some .int)] ++ wsX10)
def wsX1_lookAt : List Cond := .code yX1_lookAt cX1_lookAt 2 none :: ([.fieldLink RX1 48 "TwinOrchard" "looked" "LTwinOrchard$Tree;", .fieldLink RX1 28 "TwinOrchard" "vigours" "[I", .fieldLink RX1 25 "TwinOrchard" "branches" "[I", .fieldLink RX1 31 "TwinOrchard" "tired" "[Z", .fieldLink RX1 13 "TwinOrchard" "hardiness" "[I", .fieldLink RX1 22 "TwinOrchard" "kinds" "[I", .methodLink RX1 121 yX1_hasTree, .instanceMethod yX1_hasTree, .selects RX1 yX1_hasTree yX1_hasTree, .initialized RX1, .code yX1_hasTree cX1_hasTree 2 (some .boolean)] ++ wsX10 ++ wsX00)
def wsX1_keepLooked : List Cond := .code yX1_keepLooked cX1_keepLooked 2 none :: ([.fieldLink RX1 25 "TwinOrchard" "branches" "[I", .fieldLink RX1 48 "TwinOrchard" "looked" "LTwinOrchard$Tree;", .fieldLink RX1 31 "TwinOrchard" "tired" "[Z"] ++ wsX10 ++ wsX00)
def wsX1_pruneAt_r1 : List Cond := [Cond.fieldLink RX1 48 "TwinOrchard" "looked" "LTwinOrchard$Tree;", Cond.methodLink RX1 212 yX1_canPrune, Cond.instanceMethod yX1_canPrune, Cond.selects RX1 yX1_canPrune yX1_canPrune, Cond.initialized RX1, Cond.code yX1_canPrune cX1_canPrune 3 (some .boolean), Cond.fieldLink RX1 25 "TwinOrchard" "branches" "[I", Cond.methodLink RX1 121 yX1_hasTree, Cond.instanceMethod yX1_hasTree, Cond.selects RX1 yX1_hasTree yX1_hasTree, Cond.code yX1_hasTree cX1_hasTree 2 (some .boolean), Cond.fieldLink RX1 22 "TwinOrchard" "kinds" "[I", Cond.methodLink RX1 205 yX1_canPay, Cond.instanceMethod yX1_canPay, Cond.selects RX1 yX1_canPay yX1_canPay, Cond.code yX1_canPay cX1_canPay 3 (some .boolean), Cond.fieldLink RX1 35 "TwinOrchard" "strength" "[I", Cond.methodLink RX1 202 yX1_twinOf, Cond.static yX1_twinOf, Cond.code yX1_twinOf cX1_twinOf 1 (some .int), Cond.methodLink RX1 208 yX1_pay, Cond.instanceMethod yX1_pay, Cond.selects RX1 yX1_pay yX1_pay, Cond.code yX1_pay cX1_pay 3 none]
def wsX1_pruneAt_r2 : List Cond := [Cond.methodLink RX1 170 yX1_lookAt, Cond.instanceMethod yX1_lookAt, Cond.selects RX1 yX1_lookAt yX1_lookAt, Cond.code yX1_lookAt cX1_lookAt 2 none, Cond.fieldLink RX1 28 "TwinOrchard" "vigours" "[I", Cond.fieldLink RX1 31 "TwinOrchard" "tired" "[Z", Cond.fieldLink RX1 13 "TwinOrchard" "hardiness" "[I", Cond.instanceMethod yX0_shorten, Cond.initialized RX0, Cond.selects RX0 yX0_shorten yX0_shorten, Cond.code yX0_shorten cX0_shorten 2 none, Cond.fieldLink RX0 9 "TwinOrchard$Tree" "branches" "I", Cond.fieldLink RX0 15 "TwinOrchard$Tree" "tired" "Z", Cond.methodLink RX1 218 yX1_keepLooked, Cond.instanceMethod yX1_keepLooked, Cond.selects RX1 yX1_keepLooked yX1_keepLooked, Cond.code yX1_keepLooked cX1_keepLooked 2 none]
def wsX1_pruneAt : List Cond := .code yX1_pruneAt cX1_pruneAt 3 (some .boolean) :: ((wsX1_pruneAt_r1 ++ wsX1_pruneAt_r2) ++ wsX10 ++ wsX00)
def wsX1_prune_r1 : List Cond := [Cond.classLink RX1 65 "java/lang/IndexOutOfBoundsException", Cond.initialized "java/lang/IndexOutOfBoundsException", Cond.classLink RX1 76 "java/lang/IllegalArgumentException", Cond.initialized "java/lang/IllegalArgumentException", Cond.methodLink RX1 85 yX1_isPlace, Cond.static yX1_isPlace, Cond.initialized RX1, Cond.code yX1_isPlace cX1_isPlace 2 (some .boolean), Cond.methodLink RX1 72 yX1_isWithin, Cond.static yX1_isWithin, Cond.code yX1_isWithin cX1_isWithin 3 (some .boolean), Cond.methodLink RX1 93 yX1_spotOf, Cond.static yX1_spotOf, Cond.code yX1_spotOf cX1_spotOf 2 (some .int), Cond.methodLink RX1 110 yX1_pruneAt, Cond.instanceMethod yX1_pruneAt, Cond.selects RX1 yX1_pruneAt yX1_pruneAt, Cond.code yX1_pruneAt cX1_pruneAt 3 (some .boolean), Cond.fieldLink RX1 48 "TwinOrchard" "looked" "LTwinOrchard$Tree;", Cond.methodLink RX1 212 yX1_canPrune, Cond.instanceMethod yX1_canPrune, Cond.selects RX1 yX1_canPrune yX1_canPrune, Cond.code yX1_canPrune cX1_canPrune 3 (some .boolean), Cond.fieldLink RX1 25 "TwinOrchard" "branches" "[I"]
def wsX1_prune_r2 : List Cond := [Cond.methodLink RX1 121 yX1_hasTree, Cond.instanceMethod yX1_hasTree, Cond.selects RX1 yX1_hasTree yX1_hasTree, Cond.code yX1_hasTree cX1_hasTree 2 (some .boolean), Cond.fieldLink RX1 22 "TwinOrchard" "kinds" "[I", Cond.methodLink RX1 205 yX1_canPay, Cond.instanceMethod yX1_canPay, Cond.selects RX1 yX1_canPay yX1_canPay, Cond.code yX1_canPay cX1_canPay 3 (some .boolean), Cond.fieldLink RX1 35 "TwinOrchard" "strength" "[I", Cond.methodLink RX1 202 yX1_twinOf, Cond.static yX1_twinOf, Cond.code yX1_twinOf cX1_twinOf 1 (some .int), Cond.methodLink RX1 208 yX1_pay, Cond.instanceMethod yX1_pay, Cond.selects RX1 yX1_pay yX1_pay, Cond.code yX1_pay cX1_pay 3 none, Cond.methodLink RX1 170 yX1_lookAt, Cond.instanceMethod yX1_lookAt, Cond.selects RX1 yX1_lookAt yX1_lookAt, Cond.code yX1_lookAt cX1_lookAt 2 none, Cond.fieldLink RX1 28 "TwinOrchard" "vigours" "[I", Cond.fieldLink RX1 31 "TwinOrchard" "tired" "[Z", Cond.fieldLink RX1 13 "TwinOrchard" "hardiness" "[I"]
def wsX1_prune_r3 : List Cond := [Cond.instanceMethod yX0_shorten, Cond.initialized RX0, Cond.selects RX0 yX0_shorten yX0_shorten, Cond.code yX0_shorten cX0_shorten 2 none, Cond.fieldLink RX0 9 "TwinOrchard$Tree" "branches" "I", Cond.fieldLink RX0 15 "TwinOrchard$Tree" "tired" "Z", Cond.methodLink RX1 218 yX1_keepLooked, Cond.instanceMethod yX1_keepLooked, Cond.selects RX1 yX1_keepLooked yX1_keepLooked, Cond.code yX1_keepLooked cX1_keepLooked 2 none, Cond.methodLink RX1 100 yX1_mirrorOf, Cond.static yX1_mirrorOf, Cond.code yX1_mirrorOf cX1_mirrorOf 2 (some .int), Cond.methodLink RX1 104 yX1_whoDidIt, Cond.static yX1_whoDidIt, Cond.code yX1_whoDidIt cX1_whoDidIt 2 (some .int)]
def wsX1_prune : List Cond := .code yX1_prune cX1_prune 7 (some .int) :: ((wsX1_prune_r1 ++ (wsX1_prune_r2 ++ wsX1_prune_r3)) ++ wsX10 ++ wsX00 ++ (vx_atS RX1 69 "java/lang/IndexOutOfBoundsException" ["java/lang/RuntimeException", "java/lang/Exception"]).filter goodWord ++ (vx_atS RX1 80 "java/lang/IllegalArgumentException" ["java/lang/RuntimeException", "java/lang/Exception"]).filter goodWord)
def wsX1_graftAt : List Cond := .code yX1_graftAt cX1_graftAt 3 (some .boolean) :: ([.fieldLink RX1 22 "TwinOrchard" "kinds" "[I", .fieldLink RX1 25 "TwinOrchard" "branches" "[I", .methodLink RX1 221 Lib.Math.max.name, .static Lib.Math.max.name, .initialized "java/lang/Math", .code Lib.Math.max.name Lib.Math.max.code 2 (some .int), .methodLink RX1 121 yX1_hasTree, .instanceMethod yX1_hasTree, .selects RX1 yX1_hasTree yX1_hasTree, .initialized RX1, .code yX1_hasTree cX1_hasTree 2 (some .boolean), .methodLink RX1 205 yX1_canPay, .instanceMethod yX1_canPay, .selects RX1 yX1_canPay yX1_canPay, .code yX1_canPay cX1_canPay 3 (some .boolean), .fieldLink RX1 35 "TwinOrchard" "strength" "[I", .methodLink RX1 202 yX1_twinOf, .static yX1_twinOf, .code yX1_twinOf cX1_twinOf 1 (some .int), .methodLink RX1 208 yX1_pay, .instanceMethod yX1_pay, .selects RX1 yX1_pay yX1_pay, .code yX1_pay cX1_pay 3 none] ++ wsX10)
def wsX1_graft_r1 : List Cond := [Cond.classLink RX1 65 "java/lang/IndexOutOfBoundsException", Cond.initialized "java/lang/IndexOutOfBoundsException", Cond.classLink RX1 76 "java/lang/IllegalArgumentException", Cond.initialized "java/lang/IllegalArgumentException", Cond.methodLink RX1 85 yX1_isPlace, Cond.static yX1_isPlace, Cond.initialized RX1, Cond.code yX1_isPlace cX1_isPlace 2 (some .boolean), Cond.methodLink RX1 72 yX1_isWithin, Cond.static yX1_isWithin, Cond.code yX1_isWithin cX1_isWithin 3 (some .boolean), Cond.methodLink RX1 61 yX1_isSort, Cond.static yX1_isSort, Cond.code yX1_isSort cX1_isSort 1 (some .boolean), Cond.methodLink RX1 93 yX1_spotOf, Cond.static yX1_spotOf, Cond.code yX1_spotOf cX1_spotOf 2 (some .int), Cond.methodLink RX1 113 yX1_graftAt, Cond.instanceMethod yX1_graftAt, Cond.selects RX1 yX1_graftAt yX1_graftAt, Cond.code yX1_graftAt cX1_graftAt 3 (some .boolean), Cond.fieldLink RX1 22 "TwinOrchard" "kinds" "[I", Cond.fieldLink RX1 25 "TwinOrchard" "branches" "[I", Cond.methodLink RX1 221 Lib.Math.max.name]
def wsX1_graft_r2 : List Cond := [Cond.static Lib.Math.max.name, Cond.initialized "java/lang/Math", Cond.code Lib.Math.max.name Lib.Math.max.code 2 (some .int), Cond.methodLink RX1 121 yX1_hasTree, Cond.instanceMethod yX1_hasTree, Cond.selects RX1 yX1_hasTree yX1_hasTree, Cond.code yX1_hasTree cX1_hasTree 2 (some .boolean), Cond.methodLink RX1 205 yX1_canPay, Cond.instanceMethod yX1_canPay, Cond.selects RX1 yX1_canPay yX1_canPay, Cond.code yX1_canPay cX1_canPay 3 (some .boolean), Cond.fieldLink RX1 35 "TwinOrchard" "strength" "[I", Cond.methodLink RX1 202 yX1_twinOf, Cond.static yX1_twinOf, Cond.code yX1_twinOf cX1_twinOf 1 (some .int), Cond.methodLink RX1 208 yX1_pay, Cond.instanceMethod yX1_pay, Cond.selects RX1 yX1_pay yX1_pay, Cond.code yX1_pay cX1_pay 3 none, Cond.methodLink RX1 100 yX1_mirrorOf, Cond.static yX1_mirrorOf, Cond.code yX1_mirrorOf cX1_mirrorOf 2 (some .int), Cond.methodLink RX1 104 yX1_whoDidIt, Cond.static yX1_whoDidIt]
def wsX1_graft_r3 : List Cond := [Cond.code yX1_whoDidIt cX1_whoDidIt 2 (some .int)]
def wsX1_graft : List Cond := .code yX1_graft cX1_graft 7 (some .int) :: ((wsX1_graft_r1 ++ (wsX1_graft_r2 ++ wsX1_graft_r3)) ++ wsX10 ++ (vx_atS RX1 69 "java/lang/IndexOutOfBoundsException" ["java/lang/RuntimeException", "java/lang/Exception"]).filter goodWord ++ (vx_atS RX1 80 "java/lang/IllegalArgumentException" ["java/lang/RuntimeException", "java/lang/Exception"]).filter goodWord)
def wsX1_fellAt : List Cond := .code yX1_fellAt cX1_fellAt 2 (some .boolean) :: ([.fieldLink RX1 22 "TwinOrchard" "kinds" "[I", .fieldLink RX1 25 "TwinOrchard" "branches" "[I", .fieldLink RX1 28 "TwinOrchard" "vigours" "[I", .fieldLink RX1 31 "TwinOrchard" "tired" "[Z", .methodLink RX1 121 yX1_hasTree, .instanceMethod yX1_hasTree, .selects RX1 yX1_hasTree yX1_hasTree, .initialized RX1, .code yX1_hasTree cX1_hasTree 2 (some .boolean), .methodLink RX1 205 yX1_canPay, .instanceMethod yX1_canPay, .selects RX1 yX1_canPay yX1_canPay, .code yX1_canPay cX1_canPay 3 (some .boolean), .fieldLink RX1 35 "TwinOrchard" "strength" "[I", .methodLink RX1 202 yX1_twinOf, .static yX1_twinOf, .code yX1_twinOf cX1_twinOf 1 (some .int), .methodLink RX1 208 yX1_pay, .instanceMethod yX1_pay, .selects RX1 yX1_pay yX1_pay, .code yX1_pay cX1_pay 3 none] ++ wsX10)
def wsX1_fell_r1 : List Cond := [Cond.classLink RX1 65 "java/lang/IndexOutOfBoundsException", Cond.initialized "java/lang/IndexOutOfBoundsException", Cond.methodLink RX1 85 yX1_isPlace, Cond.static yX1_isPlace, Cond.initialized RX1, Cond.code yX1_isPlace cX1_isPlace 2 (some .boolean), Cond.methodLink RX1 72 yX1_isWithin, Cond.static yX1_isWithin, Cond.code yX1_isWithin cX1_isWithin 3 (some .boolean), Cond.methodLink RX1 93 yX1_spotOf, Cond.static yX1_spotOf, Cond.code yX1_spotOf cX1_spotOf 2 (some .int), Cond.methodLink RX1 116 yX1_fellAt, Cond.instanceMethod yX1_fellAt, Cond.selects RX1 yX1_fellAt yX1_fellAt, Cond.code yX1_fellAt cX1_fellAt 2 (some .boolean), Cond.fieldLink RX1 22 "TwinOrchard" "kinds" "[I", Cond.fieldLink RX1 25 "TwinOrchard" "branches" "[I", Cond.fieldLink RX1 28 "TwinOrchard" "vigours" "[I", Cond.fieldLink RX1 31 "TwinOrchard" "tired" "[Z", Cond.methodLink RX1 121 yX1_hasTree, Cond.instanceMethod yX1_hasTree, Cond.selects RX1 yX1_hasTree yX1_hasTree, Cond.code yX1_hasTree cX1_hasTree 2 (some .boolean)]
def wsX1_fell_r2 : List Cond := [Cond.methodLink RX1 205 yX1_canPay, Cond.instanceMethod yX1_canPay, Cond.selects RX1 yX1_canPay yX1_canPay, Cond.code yX1_canPay cX1_canPay 3 (some .boolean), Cond.fieldLink RX1 35 "TwinOrchard" "strength" "[I", Cond.methodLink RX1 202 yX1_twinOf, Cond.static yX1_twinOf, Cond.code yX1_twinOf cX1_twinOf 1 (some .int), Cond.methodLink RX1 208 yX1_pay, Cond.instanceMethod yX1_pay, Cond.selects RX1 yX1_pay yX1_pay, Cond.code yX1_pay cX1_pay 3 none, Cond.methodLink RX1 100 yX1_mirrorOf, Cond.static yX1_mirrorOf, Cond.code yX1_mirrorOf cX1_mirrorOf 2 (some .int), Cond.methodLink RX1 104 yX1_whoDidIt, Cond.static yX1_whoDidIt, Cond.code yX1_whoDidIt cX1_whoDidIt 2 (some .int)]
def wsX1_fell : List Cond := .code yX1_fell cX1_fell 6 (some .int) :: ((wsX1_fell_r1 ++ wsX1_fell_r2) ++ wsX10 ++ (vx_atS RX1 69 "java/lang/IndexOutOfBoundsException" ["java/lang/RuntimeException", "java/lang/Exception"]).filter goodWord)
def wsX1_applesNow : List Cond := .code yX1_applesNow cX1_applesNow 2 (some .int) :: ([.fieldLink RX1 48 "TwinOrchard" "looked" "LTwinOrchard$Tree;", .methodLink RX1 170 yX1_lookAt, .instanceMethod yX1_lookAt, .selects RX1 yX1_lookAt yX1_lookAt, .initialized RX1, .code yX1_lookAt cX1_lookAt 2 none, .fieldLink RX1 28 "TwinOrchard" "vigours" "[I", .fieldLink RX1 25 "TwinOrchard" "branches" "[I", .fieldLink RX1 31 "TwinOrchard" "tired" "[Z", .fieldLink RX1 13 "TwinOrchard" "hardiness" "[I", .fieldLink RX1 22 "TwinOrchard" "kinds" "[I", .methodLink RX1 121 yX1_hasTree, .instanceMethod yX1_hasTree, .selects RX1 yX1_hasTree yX1_hasTree, .code yX1_hasTree cX1_hasTree 2 (some .boolean), .instanceMethod yX0_apples, .initialized RX0, .selects RX0 yX0_apples yX0_apples, .code yX0_apples cX0_apples 2 (some .int), .fieldLink RX0 9 "TwinOrchard$Tree" "branches" "I", .fieldLink RX0 19 "TwinOrchard$Tree" "vigour" "I", .fieldLink RX0 15 "TwinOrchard$Tree" "tired" "Z"] ++ wsX10 ++ wsX00)
def wsX1_tree_r1 : List Cond := [Cond.classLink RX1 65 "java/lang/IndexOutOfBoundsException", Cond.initialized "java/lang/IndexOutOfBoundsException", Cond.fieldLink RX1 25 "TwinOrchard" "branches" "[I", Cond.fieldLink RX1 28 "TwinOrchard" "vigours" "[I", Cond.fieldLink RX1 22 "TwinOrchard" "kinds" "[I", Cond.fieldLink RX1 31 "TwinOrchard" "tired" "[Z", Cond.methodLink RX1 85 yX1_isPlace, Cond.static yX1_isPlace, Cond.initialized RX1, Cond.code yX1_isPlace cX1_isPlace 2 (some .boolean), Cond.methodLink RX1 72 yX1_isWithin, Cond.static yX1_isWithin, Cond.code yX1_isWithin cX1_isWithin 3 (some .boolean), Cond.methodLink RX1 93 yX1_spotOf, Cond.static yX1_spotOf, Cond.code yX1_spotOf cX1_spotOf 2 (some .int), Cond.methodLink RX1 121 yX1_hasTree, Cond.instanceMethod yX1_hasTree, Cond.selects RX1 yX1_hasTree yX1_hasTree, Cond.code yX1_hasTree cX1_hasTree 2 (some .boolean), Cond.methodLink RX1 124 yX1_applesNow, Cond.instanceMethod yX1_applesNow, Cond.selects RX1 yX1_applesNow yX1_applesNow, Cond.code yX1_applesNow cX1_applesNow 2 (some .int)]
def wsX1_tree_r2 : List Cond := [Cond.fieldLink RX1 48 "TwinOrchard" "looked" "LTwinOrchard$Tree;", Cond.methodLink RX1 170 yX1_lookAt, Cond.instanceMethod yX1_lookAt, Cond.selects RX1 yX1_lookAt yX1_lookAt, Cond.code yX1_lookAt cX1_lookAt 2 none, Cond.fieldLink RX1 13 "TwinOrchard" "hardiness" "[I", Cond.instanceMethod yX0_apples, Cond.initialized RX0, Cond.selects RX0 yX0_apples yX0_apples, Cond.code yX0_apples cX0_apples 2 (some .int), Cond.fieldLink RX0 9 "TwinOrchard$Tree" "branches" "I", Cond.fieldLink RX0 19 "TwinOrchard$Tree" "vigour" "I", Cond.fieldLink RX0 15 "TwinOrchard$Tree" "tired" "Z"]
def wsX1_tree : List Cond := .code yX1_tree cX1_tree 5 (some .int) :: ((wsX1_tree_r1 ++ wsX1_tree_r2) ++ wsX10 ++ wsX00 ++ (vx_atS RX1 69 "java/lang/IndexOutOfBoundsException" ["java/lang/RuntimeException", "java/lang/Exception"]).filter goodWord)
def wsX1_treesOfSort : List Cond := .code yX1_treesOfSort cX1_treesOfSort 4 (some .int) :: ([.fieldLink RX1 22 "TwinOrchard" "kinds" "[I"] ++ wsX10)
def wsX1_sort : List Cond := .code yX1_sort cX1_sort 3 (some .int) :: ([.classLink RX1 65 "java/lang/IndexOutOfBoundsException", .initialized "java/lang/IndexOutOfBoundsException", .fieldLink RX1 9 "TwinOrchard" "weights" "[I", .fieldLink RX1 13 "TwinOrchard" "hardiness" "[I", .fieldLink RX1 16 "TwinOrchard" "barn" "[I", .methodLink RX1 61 yX1_isSort, .static yX1_isSort, .initialized RX1, .code yX1_isSort cX1_isSort 1 (some .boolean), .methodLink RX1 72 yX1_isWithin, .static yX1_isWithin, .code yX1_isWithin cX1_isWithin 3 (some .boolean), .methodLink RX1 129 yX1_treesOfSort, .instanceMethod yX1_treesOfSort, .selects RX1 yX1_treesOfSort yX1_treesOfSort, .code yX1_treesOfSort cX1_treesOfSort 4 (some .int), .fieldLink RX1 22 "TwinOrchard" "kinds" "[I"] ++ wsX10 ++ (vx_atS RX1 69 "java/lang/IndexOutOfBoundsException" ["java/lang/RuntimeException", "java/lang/Exception"]).filter goodWord)
def wsX1_allTrees : List Cond := .code yX1_allTrees cX1_allTrees 3 (some .int) :: ([.methodLink RX1 121 yX1_hasTree, .instanceMethod yX1_hasTree, .selects RX1 yX1_hasTree yX1_hasTree, .initialized RX1, .code yX1_hasTree cX1_hasTree 2 (some .boolean), .fieldLink RX1 22 "TwinOrchard" "kinds" "[I"] ++ wsX10)
def wsX1_allTired : List Cond := .code yX1_allTired cX1_allTired 3 (some .int) :: ([.fieldLink RX1 31 "TwinOrchard" "tired" "[Z"] ++ wsX10)
def wsX1_applesInBarn : List Cond := .code yX1_applesInBarn cX1_applesInBarn 3 (some .int) :: ([.fieldLink RX1 16 "TwinOrchard" "barn" "[I"] ++ wsX10)
def wsX1_weightInBarn : List Cond := .code yX1_weightInBarn cX1_weightInBarn 3 (some .int) :: ([.fieldLink RX1 16 "TwinOrchard" "barn" "[I", .fieldLink RX1 9 "TwinOrchard" "weights" "[I"] ++ wsX10)
def wsX1_unlikePairs : List Cond := .code yX1_unlikePairs cX1_unlikePairs 6 (some .int) :: ([.fieldLink RX1 22 "TwinOrchard" "kinds" "[I", .fieldLink RX1 25 "TwinOrchard" "branches" "[I", .methodLink RX1 93 yX1_spotOf, .static yX1_spotOf, .initialized RX1, .code yX1_spotOf cX1_spotOf 2 (some .int), .methodLink RX1 100 yX1_mirrorOf, .static yX1_mirrorOf, .code yX1_mirrorOf cX1_mirrorOf 2 (some .int)] ++ wsX10)
def wsX1_count_r1 : List Cond := [Cond.classLink RX1 65 "java/lang/IndexOutOfBoundsException", Cond.initialized "java/lang/IndexOutOfBoundsException", Cond.fieldLink RX1 38 "TwinOrchard" "year" "I", Cond.fieldLink RX1 35 "TwinOrchard" "strength" "[I", Cond.methodLink RX1 72 yX1_isWithin, Cond.static yX1_isWithin, Cond.initialized RX1, Cond.code yX1_isWithin cX1_isWithin 3 (some .boolean), Cond.methodLink RX1 134 yX1_allTrees, Cond.instanceMethod yX1_allTrees, Cond.selects RX1 yX1_allTrees yX1_allTrees, Cond.code yX1_allTrees cX1_allTrees 3 (some .int), Cond.methodLink RX1 121 yX1_hasTree, Cond.instanceMethod yX1_hasTree, Cond.selects RX1 yX1_hasTree yX1_hasTree, Cond.code yX1_hasTree cX1_hasTree 2 (some .boolean), Cond.fieldLink RX1 22 "TwinOrchard" "kinds" "[I", Cond.methodLink RX1 138 yX1_allTired, Cond.instanceMethod yX1_allTired, Cond.selects RX1 yX1_allTired yX1_allTired, Cond.code yX1_allTired cX1_allTired 3 (some .int), Cond.fieldLink RX1 31 "TwinOrchard" "tired" "[Z", Cond.methodLink RX1 141 yX1_applesInBarn, Cond.instanceMethod yX1_applesInBarn]
def wsX1_count_r2 : List Cond := [Cond.selects RX1 yX1_applesInBarn yX1_applesInBarn, Cond.code yX1_applesInBarn cX1_applesInBarn 3 (some .int), Cond.fieldLink RX1 16 "TwinOrchard" "barn" "[I", Cond.methodLink RX1 144 yX1_weightInBarn, Cond.instanceMethod yX1_weightInBarn, Cond.selects RX1 yX1_weightInBarn yX1_weightInBarn, Cond.code yX1_weightInBarn cX1_weightInBarn 3 (some .int), Cond.fieldLink RX1 9 "TwinOrchard" "weights" "[I", Cond.methodLink RX1 147 yX1_unlikePairs, Cond.instanceMethod yX1_unlikePairs, Cond.selects RX1 yX1_unlikePairs yX1_unlikePairs, Cond.code yX1_unlikePairs cX1_unlikePairs 6 (some .int), Cond.fieldLink RX1 25 "TwinOrchard" "branches" "[I", Cond.methodLink RX1 93 yX1_spotOf, Cond.static yX1_spotOf, Cond.code yX1_spotOf cX1_spotOf 2 (some .int), Cond.methodLink RX1 100 yX1_mirrorOf, Cond.static yX1_mirrorOf, Cond.code yX1_mirrorOf cX1_mirrorOf 2 (some .int)]
def wsX1_count : List Cond := .code yX1_count cX1_count 2 (some .int) :: ((wsX1_count_r1 ++ wsX1_count_r2) ++ wsX10 ++ (vx_atS RX1 69 "java/lang/IndexOutOfBoundsException" ["java/lang/RuntimeException", "java/lang/Exception"]).filter goodWord)
def wsX1_leans_r1 : List Cond := [Cond.classLink RX1 65 "java/lang/IndexOutOfBoundsException", Cond.initialized "java/lang/IndexOutOfBoundsException", Cond.methodLink RX1 72 yX1_isWithin, Cond.static yX1_isWithin, Cond.initialized RX1, Cond.code yX1_isWithin cX1_isWithin 3 (some .boolean), Cond.methodLink RX1 93 yX1_spotOf, Cond.static yX1_spotOf, Cond.code yX1_spotOf cX1_spotOf 2 (some .int), Cond.methodLink RX1 124 yX1_applesNow, Cond.instanceMethod yX1_applesNow, Cond.selects RX1 yX1_applesNow yX1_applesNow, Cond.code yX1_applesNow cX1_applesNow 2 (some .int), Cond.fieldLink RX1 48 "TwinOrchard" "looked" "LTwinOrchard$Tree;", Cond.methodLink RX1 170 yX1_lookAt, Cond.instanceMethod yX1_lookAt, Cond.selects RX1 yX1_lookAt yX1_lookAt, Cond.code yX1_lookAt cX1_lookAt 2 none, Cond.fieldLink RX1 28 "TwinOrchard" "vigours" "[I", Cond.fieldLink RX1 25 "TwinOrchard" "branches" "[I", Cond.fieldLink RX1 31 "TwinOrchard" "tired" "[Z", Cond.fieldLink RX1 13 "TwinOrchard" "hardiness" "[I", Cond.fieldLink RX1 22 "TwinOrchard" "kinds" "[I", Cond.methodLink RX1 121 yX1_hasTree]
def wsX1_leans_r2 : List Cond := [Cond.instanceMethod yX1_hasTree, Cond.selects RX1 yX1_hasTree yX1_hasTree, Cond.code yX1_hasTree cX1_hasTree 2 (some .boolean), Cond.instanceMethod yX0_apples, Cond.initialized RX0, Cond.selects RX0 yX0_apples yX0_apples, Cond.code yX0_apples cX0_apples 2 (some .int), Cond.fieldLink RX0 9 "TwinOrchard$Tree" "branches" "I", Cond.fieldLink RX0 19 "TwinOrchard$Tree" "vigour" "I", Cond.fieldLink RX0 15 "TwinOrchard$Tree" "tired" "Z", Cond.methodLink RX1 100 yX1_mirrorOf, Cond.static yX1_mirrorOf, Cond.code yX1_mirrorOf cX1_mirrorOf 2 (some .int)]
def wsX1_leans : List Cond := .code yX1_leans cX1_leans 5 (some .int) :: ((wsX1_leans_r1 ++ wsX1_leans_r2) ++ wsX10 ++ wsX00 ++ (vx_atS RX1 69 "java/lang/IndexOutOfBoundsException" ["java/lang/RuntimeException", "java/lang/Exception"]).filter goodWord)
def wsX1_carry : List Cond := .code yX1_carry cX1_carry 4 (some .int) :: ([.classLink RX1 65 "java/lang/IndexOutOfBoundsException", .initialized "java/lang/IndexOutOfBoundsException", .classLink RX1 76 "java/lang/IllegalArgumentException", .initialized "java/lang/IllegalArgumentException", .classLink RX1 154 "java/lang/IllegalStateException", .initialized "java/lang/IllegalStateException", .fieldLink RX1 16 "TwinOrchard" "barn" "[I", .fieldLink RX1 42 "TwinOrchard" "carriedLeftMore" "I", .fieldLink RX1 9 "TwinOrchard" "weights" "[I", .methodLink RX1 61 yX1_isSort, .static yX1_isSort, .initialized RX1, .code yX1_isSort cX1_isSort 1 (some .boolean), .methodLink RX1 72 yX1_isWithin, .static yX1_isWithin, .code yX1_isWithin cX1_isWithin 3 (some .boolean)] ++ wsX10 ++ (vx_atS RX1 69 "java/lang/IndexOutOfBoundsException" ["java/lang/RuntimeException", "java/lang/Exception"]).filter goodWord ++ (vx_atS RX1 80 "java/lang/IllegalArgumentException" ["java/lang/RuntimeException", "java/lang/Exception"]).filter goodWord ++ (vx_atS RX1 158 "java/lang/IllegalStateException" ["java/lang/RuntimeException", "java/lang/Exception"]).filter goodWord)
def wsX1_tilt : List Cond := .code yX1_tilt cX1_tilt 1 (some .int) :: ([.fieldLink RX1 42 "TwinOrchard" "carriedLeftMore" "I"] ++ wsX10)
def wsX1_balancedApples : List Cond := .code yX1_balancedApples cX1_balancedApples 2 (some .int) :: ([.fieldLink RX1 16 "TwinOrchard" "barn" "[I", .methodLink RX1 226 Lib.Math.min.name, .static Lib.Math.min.name, .initialized "java/lang/Math", .code Lib.Math.min.name Lib.Math.min.code 2 (some .int), .methodLink RX1 221 Lib.Math.max.name, .static Lib.Math.max.name, .code Lib.Math.max.name Lib.Math.max.code 2 (some .int)] ++ wsX10)
def wsX1_reachWithSort : List Cond := .code yX1_reachWithSort cX1_reachWithSort 5 none :: ([.fieldLink RX1 52 "TwinOrchard" "fewest" "[I"] ++ wsX10)
def wsX1_heaviestUpTo : List Cond := .code yX1_heaviestUpTo cX1_heaviestUpTo 3 (some .int) :: ([.fieldLink RX1 52 "TwinOrchard" "fewest" "[I", .fieldLink RX1 9 "TwinOrchard" "weights" "[I", .methodLink RX1 226 Lib.Math.min.name, .static Lib.Math.min.name, .initialized "java/lang/Math", .code Lib.Math.min.name Lib.Math.min.code 2 (some .int), .methodLink RX1 55 yJ7_fill_53178, .static yJ7_fill_53178, .initialized RJ7, .code yJ7_fill_53178 cJ7_fill_53178 4 none, .methodLink RX1 159 yX1_balancedApples, .instanceMethod yX1_balancedApples, .selects RX1 yX1_balancedApples yX1_balancedApples, .initialized RX1, .code yX1_balancedApples cX1_balancedApples 2 (some .int), .fieldLink RX1 16 "TwinOrchard" "barn" "[I", .methodLink RX1 221 Lib.Math.max.name, .static Lib.Math.max.name, .code Lib.Math.max.name Lib.Math.max.code 2 (some .int), .methodLink RX1 229 yX1_reachWithSort, .instanceMethod yX1_reachWithSort, .selects RX1 yX1_reachWithSort yX1_reachWithSort, .code yX1_reachWithSort cX1_reachWithSort 5 none] ++ wsX10)
def wsX1_balance_r1 : List Cond := [Cond.fieldLink RX1 9 "TwinOrchard" "weights" "[I", Cond.methodLink RX1 159 yX1_balancedApples, Cond.instanceMethod yX1_balancedApples, Cond.selects RX1 yX1_balancedApples yX1_balancedApples, Cond.initialized RX1, Cond.code yX1_balancedApples cX1_balancedApples 2 (some .int), Cond.fieldLink RX1 16 "TwinOrchard" "barn" "[I", Cond.methodLink RX1 226 Lib.Math.min.name, Cond.static Lib.Math.min.name, Cond.initialized "java/lang/Math", Cond.code Lib.Math.min.name Lib.Math.min.code 2 (some .int), Cond.methodLink RX1 221 Lib.Math.max.name, Cond.static Lib.Math.max.name, Cond.code Lib.Math.max.name Lib.Math.max.code 2 (some .int), Cond.methodLink RX1 162 yX1_heaviestUpTo, Cond.instanceMethod yX1_heaviestUpTo, Cond.selects RX1 yX1_heaviestUpTo yX1_heaviestUpTo, Cond.code yX1_heaviestUpTo cX1_heaviestUpTo 3 (some .int), Cond.fieldLink RX1 52 "TwinOrchard" "fewest" "[I", Cond.methodLink RX1 55 yJ7_fill_53178, Cond.static yJ7_fill_53178, Cond.initialized RJ7, Cond.code yJ7_fill_53178 cJ7_fill_53178 4 none, Cond.methodLink RX1 229 yX1_reachWithSort]
def wsX1_balance_r2 : List Cond := [Cond.instanceMethod yX1_reachWithSort, Cond.selects RX1 yX1_reachWithSort yX1_reachWithSort, Cond.code yX1_reachWithSort cX1_reachWithSort 5 none]
def wsX1_balance : List Cond := .code yX1_balance cX1_balance 3 (some .int) :: ((wsX1_balance_r1 ++ wsX1_balance_r2) ++ wsX10)
def wsJ9_floorMod_7cf53 : List Cond := .code yJ9_floorMod_7cf53 cJ9_floorMod_7cf53 3 (some .int) :: ([])
def wsX1_liveLooked_r1 : List Cond := [Cond.fieldLink RX1 48 "TwinOrchard" "looked" "LTwinOrchard$Tree;", Cond.fieldLink RX1 19 "TwinOrchard" "frosts" "[I", Cond.fieldLink RX1 38 "TwinOrchard" "year" "I", Cond.methodLink RX1 240 yJ9_floorMod_7cf53, Cond.static yJ9_floorMod_7cf53, Cond.initialized RJ9, Cond.code yJ9_floorMod_7cf53 cJ9_floorMod_7cf53 3 (some .int), Cond.instanceMethod yX0_liveYear, Cond.initialized RX0, Cond.selects RX0 yX0_liveYear yX0_liveYear, Cond.code yX0_liveYear cX0_liveYear 3 (some .int), Cond.fieldLink RX0 15 "TwinOrchard$Tree" "tired" "Z", Cond.methodLink RX0 22 yX0_freeze, Cond.instanceMethod yX0_freeze, Cond.selects RX0 yX0_freeze yX0_freeze, Cond.code yX0_freeze cX0_freeze 3 none, Cond.fieldLink RX0 33 "TwinOrchard$Tree" "hardiness" "I", Cond.methodLink RX0 36 Lib.Math.max.name, Cond.static Lib.Math.max.name, Cond.initialized "java/lang/Math", Cond.code Lib.Math.max.name Lib.Math.max.code 2 (some .int), Cond.fieldLink RX0 9 "TwinOrchard$Tree" "branches" "I", Cond.methodLink RX0 26 yX0_apples, Cond.instanceMethod yX0_apples]
def wsX1_liveLooked_r2 : List Cond := [Cond.selects RX0 yX0_apples yX0_apples, Cond.code yX0_apples cX0_apples 2 (some .int), Cond.fieldLink RX0 19 "TwinOrchard$Tree" "vigour" "I", Cond.methodLink RX0 30 yX0_grow, Cond.instanceMethod yX0_grow, Cond.selects RX0 yX0_grow yX0_grow, Cond.code yX0_grow cX0_grow 2 none, Cond.methodLink RX0 42 Lib.Math.min.name, Cond.static Lib.Math.min.name, Cond.code Lib.Math.min.name Lib.Math.min.code 2 (some .int)]
def wsX1_liveLooked : List Cond := .code yX1_liveLooked cX1_liveLooked 4 (some .int) :: ((wsX1_liveLooked_r1 ++ wsX1_liveLooked_r2) ++ wsX10 ++ wsX00)
def wsX1_passAt_r1 : List Cond := [Cond.fieldLink RX1 16 "TwinOrchard" "barn" "[I", Cond.fieldLink RX1 22 "TwinOrchard" "kinds" "[I", Cond.methodLink RX1 170 yX1_lookAt, Cond.instanceMethod yX1_lookAt, Cond.selects RX1 yX1_lookAt yX1_lookAt, Cond.initialized RX1, Cond.code yX1_lookAt cX1_lookAt 2 none, Cond.fieldLink RX1 48 "TwinOrchard" "looked" "LTwinOrchard$Tree;", Cond.fieldLink RX1 28 "TwinOrchard" "vigours" "[I", Cond.fieldLink RX1 25 "TwinOrchard" "branches" "[I", Cond.fieldLink RX1 31 "TwinOrchard" "tired" "[Z", Cond.fieldLink RX1 13 "TwinOrchard" "hardiness" "[I", Cond.methodLink RX1 121 yX1_hasTree, Cond.instanceMethod yX1_hasTree, Cond.selects RX1 yX1_hasTree yX1_hasTree, Cond.code yX1_hasTree cX1_hasTree 2 (some .boolean), Cond.methodLink RX1 174 yX1_liveLooked, Cond.instanceMethod yX1_liveLooked, Cond.selects RX1 yX1_liveLooked yX1_liveLooked, Cond.code yX1_liveLooked cX1_liveLooked 4 (some .int), Cond.fieldLink RX1 19 "TwinOrchard" "frosts" "[I", Cond.fieldLink RX1 38 "TwinOrchard" "year" "I", Cond.methodLink RX1 240 yJ9_floorMod_7cf53, Cond.static yJ9_floorMod_7cf53]
def wsX1_passAt_r2 : List Cond := [Cond.initialized RJ9, Cond.code yJ9_floorMod_7cf53 cJ9_floorMod_7cf53 3 (some .int), Cond.instanceMethod yX0_liveYear, Cond.initialized RX0, Cond.selects RX0 yX0_liveYear yX0_liveYear, Cond.code yX0_liveYear cX0_liveYear 3 (some .int), Cond.fieldLink RX0 15 "TwinOrchard$Tree" "tired" "Z", Cond.methodLink RX0 22 yX0_freeze, Cond.instanceMethod yX0_freeze, Cond.selects RX0 yX0_freeze yX0_freeze, Cond.code yX0_freeze cX0_freeze 3 none, Cond.fieldLink RX0 33 "TwinOrchard$Tree" "hardiness" "I", Cond.methodLink RX0 36 Lib.Math.max.name, Cond.static Lib.Math.max.name, Cond.initialized "java/lang/Math", Cond.code Lib.Math.max.name Lib.Math.max.code 2 (some .int), Cond.fieldLink RX0 9 "TwinOrchard$Tree" "branches" "I", Cond.methodLink RX0 26 yX0_apples, Cond.instanceMethod yX0_apples, Cond.selects RX0 yX0_apples yX0_apples, Cond.code yX0_apples cX0_apples 2 (some .int), Cond.fieldLink RX0 19 "TwinOrchard$Tree" "vigour" "I", Cond.methodLink RX0 30 yX0_grow, Cond.instanceMethod yX0_grow]
def wsX1_passAt_r3 : List Cond := [Cond.selects RX0 yX0_grow yX0_grow, Cond.code yX0_grow cX0_grow 2 none, Cond.methodLink RX0 42 Lib.Math.min.name, Cond.static Lib.Math.min.name, Cond.code Lib.Math.min.name Lib.Math.min.code 2 (some .int), Cond.methodLink RX1 218 yX1_keepLooked, Cond.instanceMethod yX1_keepLooked, Cond.selects RX1 yX1_keepLooked yX1_keepLooked, Cond.code yX1_keepLooked cX1_keepLooked 2 none]
def wsX1_passAt : List Cond := .code yX1_passAt cX1_passAt 4 (some .int) :: ((wsX1_passAt_r1 ++ (wsX1_passAt_r2 ++ wsX1_passAt_r3)) ++ wsX10 ++ wsX00)
def wsX1_pass_r1 : List Cond := [Cond.classLink RX1 76 "java/lang/IllegalArgumentException", Cond.initialized "java/lang/IllegalArgumentException", Cond.fieldLink RX1 38 "TwinOrchard" "year" "I", Cond.fieldLink RX1 35 "TwinOrchard" "strength" "[I", Cond.methodLink RX1 72 yX1_isWithin, Cond.static yX1_isWithin, Cond.initialized RX1, Cond.code yX1_isWithin cX1_isWithin 3 (some .boolean), Cond.methodLink RX1 121 yX1_hasTree, Cond.instanceMethod yX1_hasTree, Cond.selects RX1 yX1_hasTree yX1_hasTree, Cond.code yX1_hasTree cX1_hasTree 2 (some .boolean), Cond.fieldLink RX1 22 "TwinOrchard" "kinds" "[I", Cond.methodLink RX1 167 yX1_passAt, Cond.instanceMethod yX1_passAt, Cond.selects RX1 yX1_passAt yX1_passAt, Cond.code yX1_passAt cX1_passAt 4 (some .int), Cond.fieldLink RX1 16 "TwinOrchard" "barn" "[I", Cond.methodLink RX1 170 yX1_lookAt, Cond.instanceMethod yX1_lookAt, Cond.selects RX1 yX1_lookAt yX1_lookAt, Cond.code yX1_lookAt cX1_lookAt 2 none, Cond.fieldLink RX1 48 "TwinOrchard" "looked" "LTwinOrchard$Tree;", Cond.fieldLink RX1 28 "TwinOrchard" "vigours" "[I"]
def wsX1_pass_r2 : List Cond := [Cond.fieldLink RX1 25 "TwinOrchard" "branches" "[I", Cond.fieldLink RX1 31 "TwinOrchard" "tired" "[Z", Cond.fieldLink RX1 13 "TwinOrchard" "hardiness" "[I", Cond.methodLink RX1 174 yX1_liveLooked, Cond.instanceMethod yX1_liveLooked, Cond.selects RX1 yX1_liveLooked yX1_liveLooked, Cond.code yX1_liveLooked cX1_liveLooked 4 (some .int), Cond.fieldLink RX1 19 "TwinOrchard" "frosts" "[I", Cond.methodLink RX1 240 yJ9_floorMod_7cf53, Cond.static yJ9_floorMod_7cf53, Cond.initialized RJ9, Cond.code yJ9_floorMod_7cf53 cJ9_floorMod_7cf53 3 (some .int), Cond.instanceMethod yX0_liveYear, Cond.initialized RX0, Cond.selects RX0 yX0_liveYear yX0_liveYear, Cond.code yX0_liveYear cX0_liveYear 3 (some .int), Cond.fieldLink RX0 15 "TwinOrchard$Tree" "tired" "Z", Cond.methodLink RX0 22 yX0_freeze, Cond.instanceMethod yX0_freeze, Cond.selects RX0 yX0_freeze yX0_freeze, Cond.code yX0_freeze cX0_freeze 3 none, Cond.fieldLink RX0 33 "TwinOrchard$Tree" "hardiness" "I", Cond.methodLink RX0 36 Lib.Math.max.name, Cond.static Lib.Math.max.name]
def wsX1_pass_r3 : List Cond := [Cond.initialized "java/lang/Math", Cond.code Lib.Math.max.name Lib.Math.max.code 2 (some .int), Cond.fieldLink RX0 9 "TwinOrchard$Tree" "branches" "I", Cond.methodLink RX0 26 yX0_apples, Cond.instanceMethod yX0_apples, Cond.selects RX0 yX0_apples yX0_apples, Cond.code yX0_apples cX0_apples 2 (some .int), Cond.fieldLink RX0 19 "TwinOrchard$Tree" "vigour" "I", Cond.methodLink RX0 30 yX0_grow, Cond.instanceMethod yX0_grow, Cond.selects RX0 yX0_grow yX0_grow, Cond.code yX0_grow cX0_grow 2 none, Cond.methodLink RX0 42 Lib.Math.min.name, Cond.static Lib.Math.min.name, Cond.code Lib.Math.min.name Lib.Math.min.code 2 (some .int), Cond.methodLink RX1 218 yX1_keepLooked, Cond.instanceMethod yX1_keepLooked, Cond.selects RX1 yX1_keepLooked yX1_keepLooked, Cond.code yX1_keepLooked cX1_keepLooked 2 none, Cond.methodLink RX1 55 yJ7_fill_53178, Cond.static yJ7_fill_53178, Cond.initialized RJ7, Cond.code yJ7_fill_53178 cJ7_fill_53178 4 none]
def wsX1_pass : List Cond := .code yX1_pass cX1_pass 4 (some .int) :: ((wsX1_pass_r1 ++ (wsX1_pass_r2 ++ wsX1_pass_r3)) ++ wsX10 ++ wsX00 ++ (vx_atS RX1 80 "java/lang/IllegalArgumentException" ["java/lang/RuntimeException", "java/lang/Exception"]).filter goodWord)
def wsX1_foresee_r1 : List Cond := [Cond.classLink RX1 76 "java/lang/IllegalArgumentException", Cond.initialized "java/lang/IllegalArgumentException", Cond.classLink RX1 65 "java/lang/IndexOutOfBoundsException", Cond.initialized "java/lang/IndexOutOfBoundsException", Cond.fieldLink RX1 48 "TwinOrchard" "looked" "LTwinOrchard$Tree;", Cond.methodLink RX1 72 yX1_isWithin, Cond.static yX1_isWithin, Cond.initialized RX1, Cond.code yX1_isWithin cX1_isWithin 3 (some .boolean), Cond.methodLink RX1 121 yX1_hasTree, Cond.instanceMethod yX1_hasTree, Cond.selects RX1 yX1_hasTree yX1_hasTree, Cond.code yX1_hasTree cX1_hasTree 2 (some .boolean), Cond.fieldLink RX1 22 "TwinOrchard" "kinds" "[I", Cond.methodLink RX1 170 yX1_lookAt, Cond.instanceMethod yX1_lookAt, Cond.selects RX1 yX1_lookAt yX1_lookAt, Cond.code yX1_lookAt cX1_lookAt 2 none, Cond.fieldLink RX1 28 "TwinOrchard" "vigours" "[I", Cond.fieldLink RX1 25 "TwinOrchard" "branches" "[I", Cond.fieldLink RX1 31 "TwinOrchard" "tired" "[Z", Cond.fieldLink RX1 13 "TwinOrchard" "hardiness" "[I", Cond.methodLink RX1 174 yX1_liveLooked, Cond.instanceMethod yX1_liveLooked]
def wsX1_foresee_r2 : List Cond := [Cond.selects RX1 yX1_liveLooked yX1_liveLooked, Cond.code yX1_liveLooked cX1_liveLooked 4 (some .int), Cond.fieldLink RX1 19 "TwinOrchard" "frosts" "[I", Cond.fieldLink RX1 38 "TwinOrchard" "year" "I", Cond.methodLink RX1 240 yJ9_floorMod_7cf53, Cond.static yJ9_floorMod_7cf53, Cond.initialized RJ9, Cond.code yJ9_floorMod_7cf53 cJ9_floorMod_7cf53 3 (some .int), Cond.instanceMethod yX0_liveYear, Cond.initialized RX0, Cond.selects RX0 yX0_liveYear yX0_liveYear, Cond.code yX0_liveYear cX0_liveYear 3 (some .int), Cond.fieldLink RX0 15 "TwinOrchard$Tree" "tired" "Z", Cond.methodLink RX0 22 yX0_freeze, Cond.instanceMethod yX0_freeze, Cond.selects RX0 yX0_freeze yX0_freeze, Cond.code yX0_freeze cX0_freeze 3 none, Cond.fieldLink RX0 33 "TwinOrchard$Tree" "hardiness" "I", Cond.methodLink RX0 36 Lib.Math.max.name, Cond.static Lib.Math.max.name, Cond.initialized "java/lang/Math", Cond.code Lib.Math.max.name Lib.Math.max.code 2 (some .int), Cond.fieldLink RX0 9 "TwinOrchard$Tree" "branches" "I", Cond.methodLink RX0 26 yX0_apples]
def wsX1_foresee_r3 : List Cond := [Cond.instanceMethod yX0_apples, Cond.selects RX0 yX0_apples yX0_apples, Cond.code yX0_apples cX0_apples 2 (some .int), Cond.fieldLink RX0 19 "TwinOrchard$Tree" "vigour" "I", Cond.methodLink RX0 30 yX0_grow, Cond.instanceMethod yX0_grow, Cond.selects RX0 yX0_grow yX0_grow, Cond.code yX0_grow cX0_grow 2 none, Cond.methodLink RX0 42 Lib.Math.min.name, Cond.static Lib.Math.min.name, Cond.code Lib.Math.min.name Lib.Math.min.code 2 (some .int)]
def wsX1_foresee : List Cond := .code yX1_foresee cX1_foresee 7 (some .int) :: ((wsX1_foresee_r1 ++ (wsX1_foresee_r2 ++ wsX1_foresee_r3)) ++ wsX10 ++ wsX00 ++ (vx_atS RX1 80 "java/lang/IllegalArgumentException" ["java/lang/RuntimeException", "java/lang/Exception"]).filter goodWord ++ (vx_atS RX1 69 "java/lang/IndexOutOfBoundsException" ["java/lang/RuntimeException", "java/lang/Exception"]).filter goodWord)
def wsX1_mean : List Cond := .code yX1_mean cX1_mean 4 (some .double) :: ([.fieldLink RX1 25 "TwinOrchard" "branches" "[I", .methodLink RX1 134 yX1_allTrees, .instanceMethod yX1_allTrees, .selects RX1 yX1_allTrees yX1_allTrees, .initialized RX1, .code yX1_allTrees cX1_allTrees 3 (some .int), .methodLink RX1 121 yX1_hasTree, .instanceMethod yX1_hasTree, .selects RX1 yX1_hasTree yX1_hasTree, .code yX1_hasTree cX1_hasTree 2 (some .boolean), .fieldLink RX1 22 "TwinOrchard" "kinds" "[I"] ++ wsX10)
def wsX2_init : List Cond := .code yX2_init cX2_init 1 none :: ([.methodLink RX2 1 objectInit, .instanceMethod objectInit, .code objectInit ⟨#[0xb1]⟩ 1 none, .fieldLink RX2 9 "TwinOrchardLaw$Sim" "trees" "[[LTwinOrchardLaw$Tree;", .arrayClass .int, .fieldLink RX2 14 "TwinOrchardLaw$Sim" "weight" "[I", .fieldLink RX2 18 "TwinOrchardLaw$Sim" "bears" "[I", .fieldLink RX2 21 "TwinOrchardLaw$Sim" "frost" "[I", .fieldLink RX2 24 "TwinOrchardLaw$Sim" "barn" "[I", .fieldLink RX2 27 "TwinOrchardLaw$Sim" "strength" "[I"] ++ wsX20)
def wsX3_init : List Cond := .code yX3_init cX3_init 1 none :: ([.methodLink RX3 1 objectInit, .instanceMethod objectInit, .code objectInit ⟨#[0xb1]⟩ 1 none, .fieldLink RX3 7 "TwinOrchardLaw$Tree" "branches" "I"] ++ wsX30)
def wsX2_work : List Cond := .code yX2_work cX2_work 13 (some .int) :: ([.fieldLink RX2 9 "TwinOrchardLaw$Sim" "trees" "[[LTwinOrchardLaw$Tree;", .fieldLink RX2 41 "TwinOrchardLaw$Tree" "branches" "I", .fieldLink RX2 44 "TwinOrchardLaw$Tree" "sort" "I", .fieldLink RX2 27 "TwinOrchardLaw$Sim" "strength" "[I", .classLink RX2 32 RX3, .instantiable RX3 4, .initialized RX3, .fieldLink RX2 48 "TwinOrchardLaw$Tree" "vigour" "I", .fieldLink RX2 51 "TwinOrchardLaw$Tree" "tired" "Z", .instanceMethod yX3_init, .code yX3_init cX3_init 1 none, .methodLink RX3 1 objectInit, .instanceMethod objectInit, .code objectInit ⟨#[0xb1]⟩ 1 none, .fieldLink RX3 7 "TwinOrchardLaw$Tree" "branches" "I"] ++ wsX20 ++ wsX30)
def wsX3_apples : List Cond := .code yX3_apples cX3_apples 1 (some .int) :: ([.fieldLink RX3 20 "TwinOrchardLaw$Tree" "tired" "Z", .fieldLink RX3 7 "TwinOrchardLaw$Tree" "branches" "I", .fieldLink RX3 14 "TwinOrchardLaw$Tree" "vigour" "I"] ++ wsX30)
def wsX2_pass : List Cond := .code yX2_pass cX2_pass 12 (some .int) :: ([.fieldLink RX2 9 "TwinOrchardLaw$Sim" "trees" "[[LTwinOrchardLaw$Tree;", .fieldLink RX2 21 "TwinOrchardLaw$Sim" "frost" "[I", .fieldLink RX2 37 "TwinOrchardLaw$Sim" "year" "I", .fieldLink RX2 18 "TwinOrchardLaw$Sim" "bears" "[I", .fieldLink RX2 44 "TwinOrchardLaw$Tree" "sort" "I", .fieldLink RX2 41 "TwinOrchardLaw$Tree" "branches" "I", .fieldLink RX2 24 "TwinOrchardLaw$Sim" "barn" "[I", .fieldLink RX2 51 "TwinOrchardLaw$Tree" "tired" "Z", .fieldLink RX2 48 "TwinOrchardLaw$Tree" "vigour" "I", .fieldLink RX2 27 "TwinOrchardLaw$Sim" "strength" "[I", .methodLink RX2 55 yX3_apples, .instanceMethod yX3_apples, .selects RX3 yX3_apples yX3_apples, .initialized RX3, .code yX3_apples cX3_apples 1 (some .int), .fieldLink RX3 20 "TwinOrchardLaw$Tree" "tired" "Z", .fieldLink RX3 7 "TwinOrchardLaw$Tree" "branches" "I", .fieldLink RX3 14 "TwinOrchardLaw$Tree" "vigour" "I"] ++ wsX20 ++ wsX30)
def wsX2_branches : List Cond := .code yX2_branches cX2_branches 10 (some .int) :: ([.fieldLink RX2 9 "TwinOrchardLaw$Sim" "trees" "[[LTwinOrchardLaw$Tree;", .fieldLink RX2 41 "TwinOrchardLaw$Tree" "branches" "I"] ++ wsX20 ++ wsX30)
def wsX2_tired : List Cond := .code yX2_tired cX2_tired 10 (some .int) :: ([.fieldLink RX2 9 "TwinOrchardLaw$Sim" "trees" "[[LTwinOrchardLaw$Tree;", .fieldLink RX2 51 "TwinOrchardLaw$Tree" "tired" "Z"] ++ wsX20 ++ wsX30)
def wsX2_isSame_r1 : List Cond := [Cond.arrayClass .int, Cond.fieldLink RX2 9 "TwinOrchardLaw$Sim" "trees" "[[LTwinOrchardLaw$Tree;", Cond.fieldLink RX2 41 "TwinOrchardLaw$Tree" "branches" "I", Cond.fieldLink RX2 48 "TwinOrchardLaw$Tree" "vigour" "I", Cond.fieldLink RX2 44 "TwinOrchardLaw$Tree" "sort" "I", Cond.fieldLink RX2 51 "TwinOrchardLaw$Tree" "tired" "Z", Cond.fieldLink RX2 24 "TwinOrchardLaw$Sim" "barn" "[I", Cond.fieldLink RX2 14 "TwinOrchardLaw$Sim" "weight" "[I", Cond.fieldLink RX2 18 "TwinOrchardLaw$Sim" "bears" "[I", Cond.fieldLink RX2 37 "TwinOrchardLaw$Sim" "year" "I", Cond.fieldLink RX2 27 "TwinOrchardLaw$Sim" "strength" "[I", Cond.fieldLink RX2 83 "TwinOrchardLaw$Sim" "tilt" "I", Cond.methodLink RX2 55 yX3_apples, Cond.instanceMethod yX3_apples, Cond.selects RX3 yX3_apples yX3_apples, Cond.initialized RX3, Cond.code yX3_apples cX3_apples 1 (some .int), Cond.fieldLink RX3 20 "TwinOrchardLaw$Tree" "tired" "Z", Cond.fieldLink RX3 7 "TwinOrchardLaw$Tree" "branches" "I", Cond.fieldLink RX3 14 "TwinOrchardLaw$Tree" "vigour" "I", Cond.methodLink RX2 62 yX1_tree, Cond.instanceMethod yX1_tree, Cond.selects RX1 yX1_tree yX1_tree, Cond.initialized RX1]
def wsX2_isSame_r2 : List Cond := [Cond.code yX1_tree cX1_tree 5 (some .int), Cond.classLink RX1 65 "java/lang/IndexOutOfBoundsException", Cond.initialized "java/lang/IndexOutOfBoundsException", Cond.fieldLink RX1 25 "TwinOrchard" "branches" "[I", Cond.fieldLink RX1 28 "TwinOrchard" "vigours" "[I", Cond.fieldLink RX1 22 "TwinOrchard" "kinds" "[I", Cond.fieldLink RX1 31 "TwinOrchard" "tired" "[Z", Cond.methodLink RX1 85 yX1_isPlace, Cond.static yX1_isPlace, Cond.code yX1_isPlace cX1_isPlace 2 (some .boolean), Cond.methodLink RX1 72 yX1_isWithin, Cond.static yX1_isWithin, Cond.code yX1_isWithin cX1_isWithin 3 (some .boolean), Cond.methodLink RX1 93 yX1_spotOf, Cond.static yX1_spotOf, Cond.code yX1_spotOf cX1_spotOf 2 (some .int), Cond.methodLink RX1 121 yX1_hasTree, Cond.instanceMethod yX1_hasTree, Cond.selects RX1 yX1_hasTree yX1_hasTree, Cond.code yX1_hasTree cX1_hasTree 2 (some .boolean), Cond.methodLink RX1 124 yX1_applesNow, Cond.instanceMethod yX1_applesNow, Cond.selects RX1 yX1_applesNow yX1_applesNow, Cond.code yX1_applesNow cX1_applesNow 2 (some .int)]
def wsX2_isSame_r3 : List Cond := [Cond.fieldLink RX1 48 "TwinOrchard" "looked" "LTwinOrchard$Tree;", Cond.methodLink RX1 170 yX1_lookAt, Cond.instanceMethod yX1_lookAt, Cond.selects RX1 yX1_lookAt yX1_lookAt, Cond.code yX1_lookAt cX1_lookAt 2 none, Cond.fieldLink RX1 13 "TwinOrchard" "hardiness" "[I", Cond.instanceMethod yX0_apples, Cond.initialized RX0, Cond.selects RX0 yX0_apples yX0_apples, Cond.code yX0_apples cX0_apples 2 (some .int), Cond.fieldLink RX0 9 "TwinOrchard$Tree" "branches" "I", Cond.fieldLink RX0 19 "TwinOrchard$Tree" "vigour" "I", Cond.fieldLink RX0 15 "TwinOrchard$Tree" "tired" "Z", Cond.methodLink RX2 68 yX1_leans, Cond.instanceMethod yX1_leans, Cond.selects RX1 yX1_leans yX1_leans, Cond.code yX1_leans cX1_leans 5 (some .int), Cond.methodLink RX1 100 yX1_mirrorOf, Cond.static yX1_mirrorOf, Cond.code yX1_mirrorOf cX1_mirrorOf 2 (some .int), Cond.methodLink RX2 72 yX1_sort, Cond.instanceMethod yX1_sort, Cond.selects RX1 yX1_sort yX1_sort, Cond.code yX1_sort cX1_sort 3 (some .int)]
def wsX2_isSame_r4 : List Cond := [Cond.fieldLink RX1 9 "TwinOrchard" "weights" "[I", Cond.fieldLink RX1 16 "TwinOrchard" "barn" "[I", Cond.methodLink RX1 61 yX1_isSort, Cond.static yX1_isSort, Cond.code yX1_isSort cX1_isSort 1 (some .boolean), Cond.methodLink RX1 129 yX1_treesOfSort, Cond.instanceMethod yX1_treesOfSort, Cond.selects RX1 yX1_treesOfSort yX1_treesOfSort, Cond.code yX1_treesOfSort cX1_treesOfSort 4 (some .int), Cond.methodLink RX2 75 yX2_tired, Cond.instanceMethod yX2_tired, Cond.selects RX2 yX2_tired yX2_tired, Cond.initialized RX2, Cond.code yX2_tired cX2_tired 10 (some .int), Cond.methodLink RX2 77 yX1_count, Cond.instanceMethod yX1_count, Cond.selects RX1 yX1_count yX1_count, Cond.code yX1_count cX1_count 2 (some .int), Cond.fieldLink RX1 38 "TwinOrchard" "year" "I", Cond.fieldLink RX1 35 "TwinOrchard" "strength" "[I", Cond.methodLink RX1 134 yX1_allTrees, Cond.instanceMethod yX1_allTrees, Cond.selects RX1 yX1_allTrees yX1_allTrees, Cond.code yX1_allTrees cX1_allTrees 3 (some .int)]
def wsX2_isSame_r5 : List Cond := [Cond.methodLink RX1 138 yX1_allTired, Cond.instanceMethod yX1_allTired, Cond.selects RX1 yX1_allTired yX1_allTired, Cond.code yX1_allTired cX1_allTired 3 (some .int), Cond.methodLink RX1 141 yX1_applesInBarn, Cond.instanceMethod yX1_applesInBarn, Cond.selects RX1 yX1_applesInBarn yX1_applesInBarn, Cond.code yX1_applesInBarn cX1_applesInBarn 3 (some .int), Cond.methodLink RX1 144 yX1_weightInBarn, Cond.instanceMethod yX1_weightInBarn, Cond.selects RX1 yX1_weightInBarn yX1_weightInBarn, Cond.code yX1_weightInBarn cX1_weightInBarn 3 (some .int), Cond.methodLink RX1 147 yX1_unlikePairs, Cond.instanceMethod yX1_unlikePairs, Cond.selects RX1 yX1_unlikePairs yX1_unlikePairs, Cond.code yX1_unlikePairs cX1_unlikePairs 6 (some .int), Cond.methodLink RX2 80 yX1_tilt, Cond.instanceMethod yX1_tilt, Cond.selects RX1 yX1_tilt yX1_tilt, Cond.code yX1_tilt cX1_tilt 1 (some .int), Cond.fieldLink RX1 42 "TwinOrchard" "carriedLeftMore" "I", Cond.methodLink RX2 85 yX1_mean, Cond.instanceMethod yX1_mean, Cond.selects RX1 yX1_mean yX1_mean]
def wsX2_isSame_r6 : List Cond := [Cond.code yX1_mean cX1_mean 4 (some .double), Cond.methodLink RX2 89 yX2_branches, Cond.instanceMethod yX2_branches, Cond.selects RX2 yX2_branches yX2_branches, Cond.code yX2_branches cX2_branches 10 (some .int)]
def wsX2_isSame : List Cond := .code yX2_isSame cX2_isSame 13 (some .boolean) :: ((wsX2_isSame_r1 ++ (wsX2_isSame_r2 ++ (wsX2_isSame_r3 ++ (wsX2_isSame_r4 ++ (wsX2_isSame_r5 ++ wsX2_isSame_r6))))) ++ wsX20 ++ wsX30 ++ wsX10 ++ wsX00 ++ (vx_atS RX1 69 "java/lang/IndexOutOfBoundsException" ["java/lang/RuntimeException", "java/lang/Exception"]).filter goodWord)
def wsJ9_max_7cf53 : List Cond := .code yJ9_max_7cf53 cJ9_max_7cf53 2 (some .int) :: ([])
def wsJ9_min_7cf53 : List Cond := .code yJ9_min_7cf53 cJ9_min_7cf53 2 (some .int) :: ([])
def wsL_below : List Cond := .code yL_below cL_below 2 (some .int) :: ([.constant RL 7 (2147483647)])
def wsL_cell : List Cond := .code yL_cell cL_cell 2 (some .int) :: ([.constant RL 8 (790386105)])
def wsL_act_r1 : List Cond := [Cond.fieldLink RL 69 "TwinOrchardLaw$Sim" "barn" "[I", Cond.methodLink RL 72 Lib.Math.min.name, Cond.static Lib.Math.min.name, Cond.initialized "java/lang/Math", Cond.code Lib.Math.min.name Lib.Math.min.code 2 (some .int), Cond.fieldLink RL 77 "TwinOrchardLaw$Sim" "tilt" "I", Cond.fieldLink RL 22 "TwinOrchardLaw$Sim" "weight" "[I", Cond.methodLink RL 18 yL_below, Cond.static yL_below, Cond.initialized RL, Cond.code yL_below cL_below 2 (some .int), Cond.constant RL 7 (2147483647), Cond.methodLink RL 52 yX1_plant, Cond.instanceMethod yX1_plant, Cond.selects RX1 yX1_plant yX1_plant, Cond.initialized RX1, Cond.code yX1_plant cX1_plant 8 (some .int), Cond.classLink RX1 65 "java/lang/IndexOutOfBoundsException", Cond.initialized "java/lang/IndexOutOfBoundsException", Cond.classLink RX1 76 "java/lang/IllegalArgumentException", Cond.initialized "java/lang/IllegalArgumentException", Cond.methodLink RX1 85 yX1_isPlace, Cond.static yX1_isPlace, Cond.code yX1_isPlace cX1_isPlace 2 (some .boolean)]
def wsL_act_r2 : List Cond := [Cond.methodLink RX1 72 yX1_isWithin, Cond.static yX1_isWithin, Cond.code yX1_isWithin cX1_isWithin 3 (some .boolean), Cond.methodLink RX1 61 yX1_isSort, Cond.static yX1_isSort, Cond.code yX1_isSort cX1_isSort 1 (some .boolean), Cond.methodLink RX1 93 yX1_spotOf, Cond.static yX1_spotOf, Cond.code yX1_spotOf cX1_spotOf 2 (some .int), Cond.methodLink RX1 97 yX1_plantAt, Cond.instanceMethod yX1_plantAt, Cond.selects RX1 yX1_plantAt yX1_plantAt, Cond.code yX1_plantAt cX1_plantAt 4 (some .boolean), Cond.fieldLink RX1 22 "TwinOrchard" "kinds" "[I", Cond.fieldLink RX1 25 "TwinOrchard" "branches" "[I", Cond.fieldLink RX1 28 "TwinOrchard" "vigours" "[I", Cond.fieldLink RX1 31 "TwinOrchard" "tired" "[Z", Cond.methodLink RX1 121 yX1_hasTree, Cond.instanceMethod yX1_hasTree, Cond.selects RX1 yX1_hasTree yX1_hasTree, Cond.code yX1_hasTree cX1_hasTree 2 (some .boolean), Cond.methodLink RX1 205 yX1_canPay, Cond.instanceMethod yX1_canPay, Cond.selects RX1 yX1_canPay yX1_canPay]
def wsL_act_r3 : List Cond := [Cond.code yX1_canPay cX1_canPay 3 (some .boolean), Cond.fieldLink RX1 35 "TwinOrchard" "strength" "[I", Cond.methodLink RX1 202 yX1_twinOf, Cond.static yX1_twinOf, Cond.code yX1_twinOf cX1_twinOf 1 (some .int), Cond.methodLink RX1 208 yX1_pay, Cond.instanceMethod yX1_pay, Cond.selects RX1 yX1_pay yX1_pay, Cond.code yX1_pay cX1_pay 3 none, Cond.methodLink RX1 100 yX1_mirrorOf, Cond.static yX1_mirrorOf, Cond.code yX1_mirrorOf cX1_mirrorOf 2 (some .int), Cond.methodLink RX1 104 yX1_whoDidIt, Cond.static yX1_whoDidIt, Cond.code yX1_whoDidIt cX1_whoDidIt 2 (some .int), Cond.methodLink RL 56 yX2_work, Cond.instanceMethod yX2_work, Cond.selects RX2 yX2_work yX2_work, Cond.initialized RX2, Cond.code yX2_work cX2_work 13 (some .int), Cond.fieldLink RX2 9 "TwinOrchardLaw$Sim" "trees" "[[LTwinOrchardLaw$Tree;", Cond.fieldLink RX2 41 "TwinOrchardLaw$Tree" "branches" "I", Cond.fieldLink RX2 44 "TwinOrchardLaw$Tree" "sort" "I", Cond.fieldLink RX2 27 "TwinOrchardLaw$Sim" "strength" "[I"]
def wsL_act_r4 : List Cond := [Cond.classLink RX2 32 RX3, Cond.instantiable RX3 4, Cond.initialized RX3, Cond.fieldLink RX2 48 "TwinOrchardLaw$Tree" "vigour" "I", Cond.fieldLink RX2 51 "TwinOrchardLaw$Tree" "tired" "Z", Cond.instanceMethod yX3_init, Cond.code yX3_init cX3_init 1 none, Cond.methodLink RX3 1 objectInit, Cond.instanceMethod objectInit, Cond.code objectInit ⟨#[0xb1]⟩ 1 none, Cond.fieldLink RX3 7 "TwinOrchardLaw$Tree" "branches" "I", Cond.methodLink RL 60 yX1_prune, Cond.instanceMethod yX1_prune, Cond.selects RX1 yX1_prune yX1_prune, Cond.code yX1_prune cX1_prune 7 (some .int), Cond.methodLink RX1 110 yX1_pruneAt, Cond.instanceMethod yX1_pruneAt, Cond.selects RX1 yX1_pruneAt yX1_pruneAt, Cond.code yX1_pruneAt cX1_pruneAt 3 (some .boolean), Cond.fieldLink RX1 48 "TwinOrchard" "looked" "LTwinOrchard$Tree;", Cond.methodLink RX1 212 yX1_canPrune, Cond.instanceMethod yX1_canPrune, Cond.selects RX1 yX1_canPrune yX1_canPrune, Cond.code yX1_canPrune cX1_canPrune 3 (some .boolean)]
def wsL_act_r5 : List Cond := [Cond.methodLink RX1 170 yX1_lookAt, Cond.instanceMethod yX1_lookAt, Cond.selects RX1 yX1_lookAt yX1_lookAt, Cond.code yX1_lookAt cX1_lookAt 2 none, Cond.fieldLink RX1 13 "TwinOrchard" "hardiness" "[I", Cond.instanceMethod yX0_shorten, Cond.initialized RX0, Cond.selects RX0 yX0_shorten yX0_shorten, Cond.code yX0_shorten cX0_shorten 2 none, Cond.fieldLink RX0 9 "TwinOrchard$Tree" "branches" "I", Cond.fieldLink RX0 15 "TwinOrchard$Tree" "tired" "Z", Cond.methodLink RX1 218 yX1_keepLooked, Cond.instanceMethod yX1_keepLooked, Cond.selects RX1 yX1_keepLooked yX1_keepLooked, Cond.code yX1_keepLooked cX1_keepLooked 2 none, Cond.methodLink RL 63 yX1_graft, Cond.instanceMethod yX1_graft, Cond.selects RX1 yX1_graft yX1_graft, Cond.code yX1_graft cX1_graft 7 (some .int), Cond.methodLink RX1 113 yX1_graftAt, Cond.instanceMethod yX1_graftAt, Cond.selects RX1 yX1_graftAt yX1_graftAt, Cond.code yX1_graftAt cX1_graftAt 3 (some .boolean), Cond.methodLink RX1 221 Lib.Math.max.name]
def wsL_act_r6 : List Cond := [Cond.static Lib.Math.max.name, Cond.code Lib.Math.max.name Lib.Math.max.code 2 (some .int), Cond.methodLink RL 66 yX1_fell, Cond.instanceMethod yX1_fell, Cond.selects RX1 yX1_fell yX1_fell, Cond.code yX1_fell cX1_fell 6 (some .int), Cond.methodLink RX1 116 yX1_fellAt, Cond.instanceMethod yX1_fellAt, Cond.selects RX1 yX1_fellAt yX1_fellAt, Cond.code yX1_fellAt cX1_fellAt 2 (some .boolean), Cond.methodLink RL 81 yX1_carry, Cond.instanceMethod yX1_carry, Cond.selects RX1 yX1_carry yX1_carry, Cond.code yX1_carry cX1_carry 4 (some .int), Cond.classLink RX1 154 "java/lang/IllegalStateException", Cond.initialized "java/lang/IllegalStateException", Cond.fieldLink RX1 16 "TwinOrchard" "barn" "[I", Cond.fieldLink RX1 42 "TwinOrchard" "carriedLeftMore" "I", Cond.fieldLink RX1 9 "TwinOrchard" "weights" "[I"]
def wsL_act : List Cond := .code yL_act cL_act 11 (some .boolean) :: ((wsL_act_r1 ++ (wsL_act_r2 ++ (wsL_act_r3 ++ (wsL_act_r4 ++ (wsL_act_r5 ++ wsL_act_r6))))) ++ wsX20 ++ wsX10 ++ wsX30 ++ wsX00 ++ (vx_atS RX1 69 "java/lang/IndexOutOfBoundsException" ["java/lang/RuntimeException", "java/lang/Exception"]).filter goodWord ++ (vx_atS RX1 80 "java/lang/IllegalArgumentException" ["java/lang/RuntimeException", "java/lang/Exception"]).filter goodWord ++ (vx_atS RX1 158 "java/lang/IllegalStateException" ["java/lang/RuntimeException", "java/lang/Exception"]).filter goodWord)
def wsL_build_r1 : List Cond := [Cond.classLink RL 9 RX2, Cond.instantiable RX2 8, Cond.initialized RX2, Cond.fieldLink RL 22 "TwinOrchardLaw$Sim" "weight" "[I", Cond.fieldLink RL 26 "TwinOrchardLaw$Sim" "bears" "[I", Cond.fieldLink RL 35 "TwinOrchardLaw$Sim" "frost" "[I", Cond.instanceMethod yX2_init, Cond.code yX2_init cX2_init 1 none, Cond.methodLink RX2 1 objectInit, Cond.instanceMethod objectInit, Cond.code objectInit ⟨#[0xb1]⟩ 1 none, Cond.fieldLink RX2 9 "TwinOrchardLaw$Sim" "trees" "[[LTwinOrchardLaw$Tree;", Cond.arrayClass .int, Cond.fieldLink RX2 14 "TwinOrchardLaw$Sim" "weight" "[I", Cond.fieldLink RX2 18 "TwinOrchardLaw$Sim" "bears" "[I", Cond.fieldLink RX2 21 "TwinOrchardLaw$Sim" "frost" "[I", Cond.fieldLink RX2 24 "TwinOrchardLaw$Sim" "barn" "[I", Cond.fieldLink RX2 27 "TwinOrchardLaw$Sim" "strength" "[I", Cond.methodLink RL 12 yL_cell, Cond.static yL_cell, Cond.initialized RL, Cond.code yL_cell cL_cell 2 (some .int), Cond.constant RL 8 (790386105), Cond.methodLink RL 18 yL_below]
def wsL_build_r2 : List Cond := [Cond.static yL_below, Cond.code yL_below cL_below 2 (some .int), Cond.constant RL 7 (2147483647), Cond.methodLink RL 29 yX1_setSort, Cond.instanceMethod yX1_setSort, Cond.selects RX1 yX1_setSort yX1_setSort, Cond.initialized RX1, Cond.code yX1_setSort cX1_setSort 5 (some .int), Cond.classLink RX1 65 "java/lang/IndexOutOfBoundsException", Cond.initialized "java/lang/IndexOutOfBoundsException", Cond.classLink RX1 76 "java/lang/IllegalArgumentException", Cond.initialized "java/lang/IllegalArgumentException", Cond.fieldLink RX1 9 "TwinOrchard" "weights" "[I", Cond.fieldLink RX1 13 "TwinOrchard" "hardiness" "[I", Cond.methodLink RX1 61 yX1_isSort, Cond.static yX1_isSort, Cond.code yX1_isSort cX1_isSort 1 (some .boolean), Cond.methodLink RX1 72 yX1_isWithin, Cond.static yX1_isWithin, Cond.code yX1_isWithin cX1_isWithin 3 (some .boolean), Cond.methodLink RL 38 yX1_setFrost, Cond.instanceMethod yX1_setFrost, Cond.selects RX1 yX1_setFrost yX1_setFrost, Cond.code yX1_setFrost cX1_setFrost 4 (some .int)]
def wsL_build_r3 : List Cond := [Cond.fieldLink RX1 19 "TwinOrchard" "frosts" "[I", Cond.methodLink RL 41 yL_act, Cond.static yL_act, Cond.code yL_act cL_act 11 (some .boolean), Cond.fieldLink RL 69 "TwinOrchardLaw$Sim" "barn" "[I", Cond.methodLink RL 72 Lib.Math.min.name, Cond.static Lib.Math.min.name, Cond.initialized "java/lang/Math", Cond.code Lib.Math.min.name Lib.Math.min.code 2 (some .int), Cond.fieldLink RL 77 "TwinOrchardLaw$Sim" "tilt" "I", Cond.methodLink RL 52 yX1_plant, Cond.instanceMethod yX1_plant, Cond.selects RX1 yX1_plant yX1_plant, Cond.code yX1_plant cX1_plant 8 (some .int), Cond.methodLink RX1 85 yX1_isPlace, Cond.static yX1_isPlace, Cond.code yX1_isPlace cX1_isPlace 2 (some .boolean), Cond.methodLink RX1 93 yX1_spotOf, Cond.static yX1_spotOf, Cond.code yX1_spotOf cX1_spotOf 2 (some .int), Cond.methodLink RX1 97 yX1_plantAt, Cond.instanceMethod yX1_plantAt, Cond.selects RX1 yX1_plantAt yX1_plantAt, Cond.code yX1_plantAt cX1_plantAt 4 (some .boolean)]
def wsL_build_r4 : List Cond := [Cond.fieldLink RX1 22 "TwinOrchard" "kinds" "[I", Cond.fieldLink RX1 25 "TwinOrchard" "branches" "[I", Cond.fieldLink RX1 28 "TwinOrchard" "vigours" "[I", Cond.fieldLink RX1 31 "TwinOrchard" "tired" "[Z", Cond.methodLink RX1 121 yX1_hasTree, Cond.instanceMethod yX1_hasTree, Cond.selects RX1 yX1_hasTree yX1_hasTree, Cond.code yX1_hasTree cX1_hasTree 2 (some .boolean), Cond.methodLink RX1 205 yX1_canPay, Cond.instanceMethod yX1_canPay, Cond.selects RX1 yX1_canPay yX1_canPay, Cond.code yX1_canPay cX1_canPay 3 (some .boolean), Cond.fieldLink RX1 35 "TwinOrchard" "strength" "[I", Cond.methodLink RX1 202 yX1_twinOf, Cond.static yX1_twinOf, Cond.code yX1_twinOf cX1_twinOf 1 (some .int), Cond.methodLink RX1 208 yX1_pay, Cond.instanceMethod yX1_pay, Cond.selects RX1 yX1_pay yX1_pay, Cond.code yX1_pay cX1_pay 3 none, Cond.methodLink RX1 100 yX1_mirrorOf, Cond.static yX1_mirrorOf, Cond.code yX1_mirrorOf cX1_mirrorOf 2 (some .int), Cond.methodLink RX1 104 yX1_whoDidIt]
def wsL_build_r5 : List Cond := [Cond.static yX1_whoDidIt, Cond.code yX1_whoDidIt cX1_whoDidIt 2 (some .int), Cond.methodLink RL 56 yX2_work, Cond.instanceMethod yX2_work, Cond.selects RX2 yX2_work yX2_work, Cond.code yX2_work cX2_work 13 (some .int), Cond.fieldLink RX2 41 "TwinOrchardLaw$Tree" "branches" "I", Cond.fieldLink RX2 44 "TwinOrchardLaw$Tree" "sort" "I", Cond.classLink RX2 32 RX3, Cond.instantiable RX3 4, Cond.initialized RX3, Cond.fieldLink RX2 48 "TwinOrchardLaw$Tree" "vigour" "I", Cond.fieldLink RX2 51 "TwinOrchardLaw$Tree" "tired" "Z", Cond.instanceMethod yX3_init, Cond.code yX3_init cX3_init 1 none, Cond.methodLink RX3 1 objectInit, Cond.fieldLink RX3 7 "TwinOrchardLaw$Tree" "branches" "I", Cond.methodLink RL 60 yX1_prune, Cond.instanceMethod yX1_prune, Cond.selects RX1 yX1_prune yX1_prune, Cond.code yX1_prune cX1_prune 7 (some .int), Cond.methodLink RX1 110 yX1_pruneAt, Cond.instanceMethod yX1_pruneAt, Cond.selects RX1 yX1_pruneAt yX1_pruneAt]
def wsL_build_r6 : List Cond := [Cond.code yX1_pruneAt cX1_pruneAt 3 (some .boolean), Cond.fieldLink RX1 48 "TwinOrchard" "looked" "LTwinOrchard$Tree;", Cond.methodLink RX1 212 yX1_canPrune, Cond.instanceMethod yX1_canPrune, Cond.selects RX1 yX1_canPrune yX1_canPrune, Cond.code yX1_canPrune cX1_canPrune 3 (some .boolean), Cond.methodLink RX1 170 yX1_lookAt, Cond.instanceMethod yX1_lookAt, Cond.selects RX1 yX1_lookAt yX1_lookAt, Cond.code yX1_lookAt cX1_lookAt 2 none, Cond.instanceMethod yX0_shorten, Cond.initialized RX0, Cond.selects RX0 yX0_shorten yX0_shorten, Cond.code yX0_shorten cX0_shorten 2 none, Cond.fieldLink RX0 9 "TwinOrchard$Tree" "branches" "I", Cond.fieldLink RX0 15 "TwinOrchard$Tree" "tired" "Z", Cond.methodLink RX1 218 yX1_keepLooked, Cond.instanceMethod yX1_keepLooked, Cond.selects RX1 yX1_keepLooked yX1_keepLooked, Cond.code yX1_keepLooked cX1_keepLooked 2 none, Cond.methodLink RL 63 yX1_graft, Cond.instanceMethod yX1_graft, Cond.selects RX1 yX1_graft yX1_graft, Cond.code yX1_graft cX1_graft 7 (some .int)]
def wsL_build_r7 : List Cond := [Cond.methodLink RX1 113 yX1_graftAt, Cond.instanceMethod yX1_graftAt, Cond.selects RX1 yX1_graftAt yX1_graftAt, Cond.code yX1_graftAt cX1_graftAt 3 (some .boolean), Cond.methodLink RX1 221 Lib.Math.max.name, Cond.static Lib.Math.max.name, Cond.code Lib.Math.max.name Lib.Math.max.code 2 (some .int), Cond.methodLink RL 66 yX1_fell, Cond.instanceMethod yX1_fell, Cond.selects RX1 yX1_fell yX1_fell, Cond.code yX1_fell cX1_fell 6 (some .int), Cond.methodLink RX1 116 yX1_fellAt, Cond.instanceMethod yX1_fellAt, Cond.selects RX1 yX1_fellAt yX1_fellAt, Cond.code yX1_fellAt cX1_fellAt 2 (some .boolean), Cond.methodLink RL 81 yX1_carry, Cond.instanceMethod yX1_carry, Cond.selects RX1 yX1_carry yX1_carry, Cond.code yX1_carry cX1_carry 4 (some .int), Cond.classLink RX1 154 "java/lang/IllegalStateException", Cond.initialized "java/lang/IllegalStateException", Cond.fieldLink RX1 16 "TwinOrchard" "barn" "[I", Cond.fieldLink RX1 42 "TwinOrchard" "carriedLeftMore" "I", Cond.methodLink RL 45 yX1_pass]
def wsL_build_r8 : List Cond := [Cond.instanceMethod yX1_pass, Cond.selects RX1 yX1_pass yX1_pass, Cond.code yX1_pass cX1_pass 4 (some .int), Cond.fieldLink RX1 38 "TwinOrchard" "year" "I", Cond.methodLink RX1 167 yX1_passAt, Cond.instanceMethod yX1_passAt, Cond.selects RX1 yX1_passAt yX1_passAt, Cond.code yX1_passAt cX1_passAt 4 (some .int), Cond.methodLink RX1 174 yX1_liveLooked, Cond.instanceMethod yX1_liveLooked, Cond.selects RX1 yX1_liveLooked yX1_liveLooked, Cond.code yX1_liveLooked cX1_liveLooked 4 (some .int), Cond.methodLink RX1 240 yJ9_floorMod_7cf53, Cond.static yJ9_floorMod_7cf53, Cond.initialized RJ9, Cond.code yJ9_floorMod_7cf53 cJ9_floorMod_7cf53 3 (some .int), Cond.instanceMethod yX0_liveYear, Cond.selects RX0 yX0_liveYear yX0_liveYear, Cond.code yX0_liveYear cX0_liveYear 3 (some .int), Cond.methodLink RX0 22 yX0_freeze, Cond.instanceMethod yX0_freeze, Cond.selects RX0 yX0_freeze yX0_freeze, Cond.code yX0_freeze cX0_freeze 3 none, Cond.fieldLink RX0 33 "TwinOrchard$Tree" "hardiness" "I"]
def wsL_build_r9 : List Cond := [Cond.methodLink RX0 36 Lib.Math.max.name, Cond.methodLink RX0 26 yX0_apples, Cond.instanceMethod yX0_apples, Cond.selects RX0 yX0_apples yX0_apples, Cond.code yX0_apples cX0_apples 2 (some .int), Cond.fieldLink RX0 19 "TwinOrchard$Tree" "vigour" "I", Cond.methodLink RX0 30 yX0_grow, Cond.instanceMethod yX0_grow, Cond.selects RX0 yX0_grow yX0_grow, Cond.code yX0_grow cX0_grow 2 none, Cond.methodLink RX0 42 Lib.Math.min.name, Cond.methodLink RX1 55 yJ7_fill_53178, Cond.static yJ7_fill_53178, Cond.initialized RJ7, Cond.code yJ7_fill_53178 cJ7_fill_53178 4 none, Cond.methodLink RL 49 yX2_pass, Cond.instanceMethod yX2_pass, Cond.selects RX2 yX2_pass yX2_pass, Cond.code yX2_pass cX2_pass 12 (some .int), Cond.fieldLink RX2 37 "TwinOrchardLaw$Sim" "year" "I", Cond.methodLink RX2 55 yX3_apples, Cond.instanceMethod yX3_apples, Cond.selects RX3 yX3_apples yX3_apples, Cond.code yX3_apples cX3_apples 1 (some .int)]
def wsL_build_r10 : List Cond := [Cond.fieldLink RX3 20 "TwinOrchardLaw$Tree" "tired" "Z", Cond.fieldLink RX3 14 "TwinOrchardLaw$Tree" "vigour" "I"]
def wsL_build : List Cond := .code yL_build cL_build 5 (some (.object "TwinOrchardLaw$Sim")) :: ((wsL_build_r1 ++ (wsL_build_r2 ++ (wsL_build_r3 ++ (wsL_build_r4 ++ (wsL_build_r5 ++ (wsL_build_r6 ++ (wsL_build_r7 ++ (wsL_build_r8 ++ (wsL_build_r9 ++ wsL_build_r10))))))))) ++ wsX20 ++ wsX10 ++ wsX30 ++ wsX00 ++ (vx_atS RX1 69 "java/lang/IndexOutOfBoundsException" ["java/lang/RuntimeException", "java/lang/Exception"]).filter goodWord ++ (vx_atS RX1 80 "java/lang/IllegalArgumentException" ["java/lang/RuntimeException", "java/lang/Exception"]).filter goodWord ++ (vx_atS RX1 158 "java/lang/IllegalStateException" ["java/lang/RuntimeException", "java/lang/Exception"]).filter goodWord)
def wsL_trees_r1 : List Cond := [Cond.classLink RL 126 "[[I", Cond.arrayClass .int, Cond.methodLink RL 128 yX1_tree, Cond.instanceMethod yX1_tree, Cond.selects RX1 yX1_tree yX1_tree, Cond.initialized RX1, Cond.code yX1_tree cX1_tree 5 (some .int), Cond.classLink RX1 65 "java/lang/IndexOutOfBoundsException", Cond.initialized "java/lang/IndexOutOfBoundsException", Cond.fieldLink RX1 25 "TwinOrchard" "branches" "[I", Cond.fieldLink RX1 28 "TwinOrchard" "vigours" "[I", Cond.fieldLink RX1 22 "TwinOrchard" "kinds" "[I", Cond.fieldLink RX1 31 "TwinOrchard" "tired" "[Z", Cond.methodLink RX1 85 yX1_isPlace, Cond.static yX1_isPlace, Cond.code yX1_isPlace cX1_isPlace 2 (some .boolean), Cond.methodLink RX1 72 yX1_isWithin, Cond.static yX1_isWithin, Cond.code yX1_isWithin cX1_isWithin 3 (some .boolean), Cond.methodLink RX1 93 yX1_spotOf, Cond.static yX1_spotOf, Cond.code yX1_spotOf cX1_spotOf 2 (some .int), Cond.methodLink RX1 121 yX1_hasTree, Cond.instanceMethod yX1_hasTree]
def wsL_trees_r2 : List Cond := [Cond.selects RX1 yX1_hasTree yX1_hasTree, Cond.code yX1_hasTree cX1_hasTree 2 (some .boolean), Cond.methodLink RX1 124 yX1_applesNow, Cond.instanceMethod yX1_applesNow, Cond.selects RX1 yX1_applesNow yX1_applesNow, Cond.code yX1_applesNow cX1_applesNow 2 (some .int), Cond.fieldLink RX1 48 "TwinOrchard" "looked" "LTwinOrchard$Tree;", Cond.methodLink RX1 170 yX1_lookAt, Cond.instanceMethod yX1_lookAt, Cond.selects RX1 yX1_lookAt yX1_lookAt, Cond.code yX1_lookAt cX1_lookAt 2 none, Cond.fieldLink RX1 13 "TwinOrchard" "hardiness" "[I", Cond.instanceMethod yX0_apples, Cond.initialized RX0, Cond.selects RX0 yX0_apples yX0_apples, Cond.code yX0_apples cX0_apples 2 (some .int), Cond.fieldLink RX0 9 "TwinOrchard$Tree" "branches" "I", Cond.fieldLink RX0 19 "TwinOrchard$Tree" "vigour" "I", Cond.fieldLink RX0 15 "TwinOrchard$Tree" "tired" "Z"]
def wsL_trees : List Cond := .code yL_trees cL_trees 4 (some (.array (.array .int))) :: ((wsL_trees_r1 ++ wsL_trees_r2) ++ wsX10 ++ wsX00 ++ (vx_atS RX1 69 "java/lang/IndexOutOfBoundsException" ["java/lang/RuntimeException", "java/lang/Exception"]).filter goodWord)
def wsL_alike : List Cond := .code yL_alike cL_alike 3 (some .boolean) :: ([])
def wsL_same : List Cond := .code yL_same cL_same 3 (some .boolean) :: ([])
def wsL_even_r1 : List Cond := [Cond.methodLink RL 72 Lib.Math.min.name, Cond.static Lib.Math.min.name, Cond.initialized "java/lang/Math", Cond.code Lib.Math.min.name Lib.Math.min.code 2 (some .int), Cond.methodLink RL 106 yX1_sort, Cond.instanceMethod yX1_sort, Cond.selects RX1 yX1_sort yX1_sort, Cond.initialized RX1, Cond.code yX1_sort cX1_sort 3 (some .int), Cond.classLink RX1 65 "java/lang/IndexOutOfBoundsException", Cond.initialized "java/lang/IndexOutOfBoundsException", Cond.fieldLink RX1 9 "TwinOrchard" "weights" "[I", Cond.fieldLink RX1 13 "TwinOrchard" "hardiness" "[I", Cond.fieldLink RX1 16 "TwinOrchard" "barn" "[I", Cond.methodLink RX1 61 yX1_isSort, Cond.static yX1_isSort, Cond.code yX1_isSort cX1_isSort 1 (some .boolean), Cond.methodLink RX1 72 yX1_isWithin, Cond.static yX1_isWithin, Cond.code yX1_isWithin cX1_isWithin 3 (some .boolean), Cond.methodLink RX1 129 yX1_treesOfSort, Cond.instanceMethod yX1_treesOfSort, Cond.selects RX1 yX1_treesOfSort yX1_treesOfSort, Cond.code yX1_treesOfSort cX1_treesOfSort 4 (some .int)]
def wsL_even_r2 : List Cond := [Cond.fieldLink RX1 22 "TwinOrchard" "kinds" "[I"]
def wsL_even : List Cond := .code yL_even cL_even 3 (some .int) :: ((wsL_even_r1 ++ wsL_even_r2) ++ wsX10 ++ (vx_atS RX1 69 "java/lang/IndexOutOfBoundsException" ["java/lang/RuntimeException", "java/lang/Exception"]).filter goodWord)
def wsL_law0_r1 : List Cond := [Cond.classLink RL 30 RX1, Cond.instantiable RX1 13, Cond.initialized RX1, Cond.arrayClass .int, Cond.fieldLink RL 35 "TwinOrchardLaw$Sim" "frost" "[I", Cond.methodLink RL 119 Lib.Math.max.name, Cond.static Lib.Math.max.name, Cond.initialized "java/lang/Math", Cond.code Lib.Math.max.name Lib.Math.max.code 2 (some .int), Cond.methodLink RL 72 Lib.Math.min.name, Cond.static Lib.Math.min.name, Cond.code Lib.Math.min.name Lib.Math.min.code 2 (some .int), Cond.methodLink RL 84 yX1_init, Cond.instanceMethod yX1_init, Cond.code yX1_init cX1_init 1 none, Cond.methodLink RX1 1 objectInit, Cond.instanceMethod objectInit, Cond.code objectInit ⟨#[0xb1]⟩ 1 none, Cond.fieldLink RX1 9 "TwinOrchard" "weights" "[I", Cond.fieldLink RX1 13 "TwinOrchard" "hardiness" "[I", Cond.fieldLink RX1 16 "TwinOrchard" "barn" "[I", Cond.fieldLink RX1 19 "TwinOrchard" "frosts" "[I", Cond.fieldLink RX1 22 "TwinOrchard" "kinds" "[I", Cond.fieldLink RX1 25 "TwinOrchard" "branches" "[I"]
def wsL_law0_r2 : List Cond := [Cond.fieldLink RX1 28 "TwinOrchard" "vigours" "[I", Cond.arrayClass .boolean, Cond.fieldLink RX1 31 "TwinOrchard" "tired" "[Z", Cond.fieldLink RX1 35 "TwinOrchard" "strength" "[I", Cond.fieldLink RX1 38 "TwinOrchard" "year" "I", Cond.fieldLink RX1 42 "TwinOrchard" "carriedLeftMore" "I", Cond.classLink RX1 45 RX0, Cond.instantiable RX0 4, Cond.initialized RX0, Cond.fieldLink RX1 48 "TwinOrchard" "looked" "LTwinOrchard$Tree;", Cond.fieldLink RX1 52 "TwinOrchard" "fewest" "[I", Cond.instanceMethod yX0_init, Cond.code yX0_init cX0_init 1 none, Cond.methodLink RX0 3 objectInit, Cond.methodLink RX1 55 yJ7_fill_53178, Cond.static yJ7_fill_53178, Cond.initialized RJ7, Cond.code yJ7_fill_53178 cJ7_fill_53178 4 none, Cond.methodLink RL 85 yL_build, Cond.static yL_build, Cond.initialized RL, Cond.code yL_build cL_build 5 (some (.object "TwinOrchardLaw$Sim")), Cond.classLink RL 9 RX2, Cond.instantiable RX2 8]
def wsL_law0_r3 : List Cond := [Cond.initialized RX2, Cond.fieldLink RL 22 "TwinOrchardLaw$Sim" "weight" "[I", Cond.fieldLink RL 26 "TwinOrchardLaw$Sim" "bears" "[I", Cond.instanceMethod yX2_init, Cond.code yX2_init cX2_init 1 none, Cond.methodLink RX2 1 objectInit, Cond.fieldLink RX2 9 "TwinOrchardLaw$Sim" "trees" "[[LTwinOrchardLaw$Tree;", Cond.fieldLink RX2 14 "TwinOrchardLaw$Sim" "weight" "[I", Cond.fieldLink RX2 18 "TwinOrchardLaw$Sim" "bears" "[I", Cond.fieldLink RX2 21 "TwinOrchardLaw$Sim" "frost" "[I", Cond.fieldLink RX2 24 "TwinOrchardLaw$Sim" "barn" "[I", Cond.fieldLink RX2 27 "TwinOrchardLaw$Sim" "strength" "[I", Cond.methodLink RL 12 yL_cell, Cond.static yL_cell, Cond.code yL_cell cL_cell 2 (some .int), Cond.constant RL 8 (790386105), Cond.methodLink RL 18 yL_below, Cond.static yL_below, Cond.code yL_below cL_below 2 (some .int), Cond.constant RL 7 (2147483647), Cond.methodLink RL 29 yX1_setSort, Cond.instanceMethod yX1_setSort, Cond.selects RX1 yX1_setSort yX1_setSort, Cond.code yX1_setSort cX1_setSort 5 (some .int)]
def wsL_law0_r4 : List Cond := [Cond.classLink RX1 65 "java/lang/IndexOutOfBoundsException", Cond.initialized "java/lang/IndexOutOfBoundsException", Cond.classLink RX1 76 "java/lang/IllegalArgumentException", Cond.initialized "java/lang/IllegalArgumentException", Cond.methodLink RX1 61 yX1_isSort, Cond.static yX1_isSort, Cond.code yX1_isSort cX1_isSort 1 (some .boolean), Cond.methodLink RX1 72 yX1_isWithin, Cond.static yX1_isWithin, Cond.code yX1_isWithin cX1_isWithin 3 (some .boolean), Cond.methodLink RL 38 yX1_setFrost, Cond.instanceMethod yX1_setFrost, Cond.selects RX1 yX1_setFrost yX1_setFrost, Cond.code yX1_setFrost cX1_setFrost 4 (some .int), Cond.methodLink RL 41 yL_act, Cond.static yL_act, Cond.code yL_act cL_act 11 (some .boolean), Cond.fieldLink RL 69 "TwinOrchardLaw$Sim" "barn" "[I", Cond.fieldLink RL 77 "TwinOrchardLaw$Sim" "tilt" "I", Cond.methodLink RL 52 yX1_plant, Cond.instanceMethod yX1_plant, Cond.selects RX1 yX1_plant yX1_plant, Cond.code yX1_plant cX1_plant 8 (some .int), Cond.methodLink RX1 85 yX1_isPlace]
def wsL_law0_r5 : List Cond := [Cond.static yX1_isPlace, Cond.code yX1_isPlace cX1_isPlace 2 (some .boolean), Cond.methodLink RX1 93 yX1_spotOf, Cond.static yX1_spotOf, Cond.code yX1_spotOf cX1_spotOf 2 (some .int), Cond.methodLink RX1 97 yX1_plantAt, Cond.instanceMethod yX1_plantAt, Cond.selects RX1 yX1_plantAt yX1_plantAt, Cond.code yX1_plantAt cX1_plantAt 4 (some .boolean), Cond.methodLink RX1 121 yX1_hasTree, Cond.instanceMethod yX1_hasTree, Cond.selects RX1 yX1_hasTree yX1_hasTree, Cond.code yX1_hasTree cX1_hasTree 2 (some .boolean), Cond.methodLink RX1 205 yX1_canPay, Cond.instanceMethod yX1_canPay, Cond.selects RX1 yX1_canPay yX1_canPay, Cond.code yX1_canPay cX1_canPay 3 (some .boolean), Cond.methodLink RX1 202 yX1_twinOf, Cond.static yX1_twinOf, Cond.code yX1_twinOf cX1_twinOf 1 (some .int), Cond.methodLink RX1 208 yX1_pay, Cond.instanceMethod yX1_pay, Cond.selects RX1 yX1_pay yX1_pay, Cond.code yX1_pay cX1_pay 3 none]
def wsL_law0_r6 : List Cond := [Cond.methodLink RX1 100 yX1_mirrorOf, Cond.static yX1_mirrorOf, Cond.code yX1_mirrorOf cX1_mirrorOf 2 (some .int), Cond.methodLink RX1 104 yX1_whoDidIt, Cond.static yX1_whoDidIt, Cond.code yX1_whoDidIt cX1_whoDidIt 2 (some .int), Cond.methodLink RL 56 yX2_work, Cond.instanceMethod yX2_work, Cond.selects RX2 yX2_work yX2_work, Cond.code yX2_work cX2_work 13 (some .int), Cond.fieldLink RX2 41 "TwinOrchardLaw$Tree" "branches" "I", Cond.fieldLink RX2 44 "TwinOrchardLaw$Tree" "sort" "I", Cond.classLink RX2 32 RX3, Cond.instantiable RX3 4, Cond.initialized RX3, Cond.fieldLink RX2 48 "TwinOrchardLaw$Tree" "vigour" "I", Cond.fieldLink RX2 51 "TwinOrchardLaw$Tree" "tired" "Z", Cond.instanceMethod yX3_init, Cond.code yX3_init cX3_init 1 none, Cond.methodLink RX3 1 objectInit, Cond.fieldLink RX3 7 "TwinOrchardLaw$Tree" "branches" "I", Cond.methodLink RL 60 yX1_prune, Cond.instanceMethod yX1_prune, Cond.selects RX1 yX1_prune yX1_prune]
def wsL_law0_r7 : List Cond := [Cond.code yX1_prune cX1_prune 7 (some .int), Cond.methodLink RX1 110 yX1_pruneAt, Cond.instanceMethod yX1_pruneAt, Cond.selects RX1 yX1_pruneAt yX1_pruneAt, Cond.code yX1_pruneAt cX1_pruneAt 3 (some .boolean), Cond.methodLink RX1 212 yX1_canPrune, Cond.instanceMethod yX1_canPrune, Cond.selects RX1 yX1_canPrune yX1_canPrune, Cond.code yX1_canPrune cX1_canPrune 3 (some .boolean), Cond.methodLink RX1 170 yX1_lookAt, Cond.instanceMethod yX1_lookAt, Cond.selects RX1 yX1_lookAt yX1_lookAt, Cond.code yX1_lookAt cX1_lookAt 2 none, Cond.instanceMethod yX0_shorten, Cond.selects RX0 yX0_shorten yX0_shorten, Cond.code yX0_shorten cX0_shorten 2 none, Cond.fieldLink RX0 9 "TwinOrchard$Tree" "branches" "I", Cond.fieldLink RX0 15 "TwinOrchard$Tree" "tired" "Z", Cond.methodLink RX1 218 yX1_keepLooked, Cond.instanceMethod yX1_keepLooked, Cond.selects RX1 yX1_keepLooked yX1_keepLooked, Cond.code yX1_keepLooked cX1_keepLooked 2 none, Cond.methodLink RL 63 yX1_graft, Cond.instanceMethod yX1_graft]
def wsL_law0_r8 : List Cond := [Cond.selects RX1 yX1_graft yX1_graft, Cond.code yX1_graft cX1_graft 7 (some .int), Cond.methodLink RX1 113 yX1_graftAt, Cond.instanceMethod yX1_graftAt, Cond.selects RX1 yX1_graftAt yX1_graftAt, Cond.code yX1_graftAt cX1_graftAt 3 (some .boolean), Cond.methodLink RX1 221 Lib.Math.max.name, Cond.methodLink RL 66 yX1_fell, Cond.instanceMethod yX1_fell, Cond.selects RX1 yX1_fell yX1_fell, Cond.code yX1_fell cX1_fell 6 (some .int), Cond.methodLink RX1 116 yX1_fellAt, Cond.instanceMethod yX1_fellAt, Cond.selects RX1 yX1_fellAt yX1_fellAt, Cond.code yX1_fellAt cX1_fellAt 2 (some .boolean), Cond.methodLink RL 81 yX1_carry, Cond.instanceMethod yX1_carry, Cond.selects RX1 yX1_carry yX1_carry, Cond.code yX1_carry cX1_carry 4 (some .int), Cond.classLink RX1 154 "java/lang/IllegalStateException", Cond.initialized "java/lang/IllegalStateException", Cond.methodLink RL 45 yX1_pass, Cond.instanceMethod yX1_pass, Cond.selects RX1 yX1_pass yX1_pass]
def wsL_law0_r9 : List Cond := [Cond.code yX1_pass cX1_pass 4 (some .int), Cond.methodLink RX1 167 yX1_passAt, Cond.instanceMethod yX1_passAt, Cond.selects RX1 yX1_passAt yX1_passAt, Cond.code yX1_passAt cX1_passAt 4 (some .int), Cond.methodLink RX1 174 yX1_liveLooked, Cond.instanceMethod yX1_liveLooked, Cond.selects RX1 yX1_liveLooked yX1_liveLooked, Cond.code yX1_liveLooked cX1_liveLooked 4 (some .int), Cond.methodLink RX1 240 yJ9_floorMod_7cf53, Cond.static yJ9_floorMod_7cf53, Cond.initialized RJ9, Cond.code yJ9_floorMod_7cf53 cJ9_floorMod_7cf53 3 (some .int), Cond.instanceMethod yX0_liveYear, Cond.selects RX0 yX0_liveYear yX0_liveYear, Cond.code yX0_liveYear cX0_liveYear 3 (some .int), Cond.methodLink RX0 22 yX0_freeze, Cond.instanceMethod yX0_freeze, Cond.selects RX0 yX0_freeze yX0_freeze, Cond.code yX0_freeze cX0_freeze 3 none, Cond.fieldLink RX0 33 "TwinOrchard$Tree" "hardiness" "I", Cond.methodLink RX0 36 Lib.Math.max.name, Cond.methodLink RX0 26 yX0_apples, Cond.instanceMethod yX0_apples]
def wsL_law0_r10 : List Cond := [Cond.selects RX0 yX0_apples yX0_apples, Cond.code yX0_apples cX0_apples 2 (some .int), Cond.fieldLink RX0 19 "TwinOrchard$Tree" "vigour" "I", Cond.methodLink RX0 30 yX0_grow, Cond.instanceMethod yX0_grow, Cond.selects RX0 yX0_grow yX0_grow, Cond.code yX0_grow cX0_grow 2 none, Cond.methodLink RX0 42 Lib.Math.min.name, Cond.methodLink RL 49 yX2_pass, Cond.instanceMethod yX2_pass, Cond.selects RX2 yX2_pass yX2_pass, Cond.code yX2_pass cX2_pass 12 (some .int), Cond.fieldLink RX2 37 "TwinOrchardLaw$Sim" "year" "I", Cond.methodLink RX2 55 yX3_apples, Cond.instanceMethod yX3_apples, Cond.selects RX3 yX3_apples yX3_apples, Cond.code yX3_apples cX3_apples 1 (some .int), Cond.fieldLink RX3 20 "TwinOrchardLaw$Tree" "tired" "Z", Cond.fieldLink RX3 14 "TwinOrchardLaw$Tree" "vigour" "I", Cond.methodLink RL 89 yL_trees, Cond.static yL_trees, Cond.code yL_trees cL_trees 4 (some (.array (.array .int))), Cond.classLink RL 126 "[[I", Cond.methodLink RL 128 yX1_tree]
def wsL_law0_r11 : List Cond := [Cond.instanceMethod yX1_tree, Cond.selects RX1 yX1_tree yX1_tree, Cond.code yX1_tree cX1_tree 5 (some .int), Cond.methodLink RX1 124 yX1_applesNow, Cond.instanceMethod yX1_applesNow, Cond.selects RX1 yX1_applesNow yX1_applesNow, Cond.code yX1_applesNow cX1_applesNow 2 (some .int), Cond.methodLink RL 93 yX1_count, Cond.instanceMethod yX1_count, Cond.selects RX1 yX1_count yX1_count, Cond.code yX1_count cX1_count 2 (some .int), Cond.methodLink RX1 134 yX1_allTrees, Cond.instanceMethod yX1_allTrees, Cond.selects RX1 yX1_allTrees yX1_allTrees, Cond.code yX1_allTrees cX1_allTrees 3 (some .int), Cond.methodLink RX1 138 yX1_allTired, Cond.instanceMethod yX1_allTired, Cond.selects RX1 yX1_allTired yX1_allTired, Cond.code yX1_allTired cX1_allTired 3 (some .int), Cond.methodLink RX1 141 yX1_applesInBarn, Cond.instanceMethod yX1_applesInBarn, Cond.selects RX1 yX1_applesInBarn yX1_applesInBarn, Cond.code yX1_applesInBarn cX1_applesInBarn 3 (some .int), Cond.methodLink RX1 144 yX1_weightInBarn]
def wsL_law0_r12 : List Cond := [Cond.instanceMethod yX1_weightInBarn, Cond.selects RX1 yX1_weightInBarn yX1_weightInBarn, Cond.code yX1_weightInBarn cX1_weightInBarn 3 (some .int), Cond.methodLink RX1 147 yX1_unlikePairs, Cond.instanceMethod yX1_unlikePairs, Cond.selects RX1 yX1_unlikePairs yX1_unlikePairs, Cond.code yX1_unlikePairs cX1_unlikePairs 6 (some .int), Cond.methodLink RL 96 yX1_tilt, Cond.instanceMethod yX1_tilt, Cond.selects RX1 yX1_tilt yX1_tilt, Cond.code yX1_tilt cX1_tilt 1 (some .int), Cond.methodLink RL 98 yL_alike, Cond.static yL_alike, Cond.code yL_alike cL_alike 3 (some .boolean), Cond.methodLink RL 102 yL_same, Cond.static yL_same, Cond.code yL_same cL_same 3 (some .boolean), Cond.methodLink RL 106 yX1_sort, Cond.instanceMethod yX1_sort, Cond.selects RX1 yX1_sort yX1_sort, Cond.code yX1_sort cX1_sort 3 (some .int), Cond.methodLink RX1 129 yX1_treesOfSort, Cond.instanceMethod yX1_treesOfSort, Cond.selects RX1 yX1_treesOfSort yX1_treesOfSort]
def wsL_law0_r13 : List Cond := [Cond.code yX1_treesOfSort cX1_treesOfSort 4 (some .int), Cond.methodLink RL 109 yX1_balance, Cond.instanceMethod yX1_balance, Cond.selects RX1 yX1_balance yX1_balance, Cond.code yX1_balance cX1_balance 3 (some .int), Cond.methodLink RX1 159 yX1_balancedApples, Cond.instanceMethod yX1_balancedApples, Cond.selects RX1 yX1_balancedApples yX1_balancedApples, Cond.code yX1_balancedApples cX1_balancedApples 2 (some .int), Cond.methodLink RX1 226 Lib.Math.min.name, Cond.methodLink RX1 162 yX1_heaviestUpTo, Cond.instanceMethod yX1_heaviestUpTo, Cond.selects RX1 yX1_heaviestUpTo yX1_heaviestUpTo, Cond.code yX1_heaviestUpTo cX1_heaviestUpTo 3 (some .int), Cond.methodLink RX1 229 yX1_reachWithSort, Cond.instanceMethod yX1_reachWithSort, Cond.selects RX1 yX1_reachWithSort yX1_reachWithSort, Cond.code yX1_reachWithSort cX1_reachWithSort 5 none, Cond.methodLink RL 112 yL_even, Cond.static yL_even, Cond.code yL_even cL_even 3 (some .int), Cond.methodLink RL 116 yX1_foresee, Cond.instanceMethod yX1_foresee, Cond.selects RX1 yX1_foresee yX1_foresee]
def wsL_law0_r14 : List Cond := [Cond.code yX1_foresee cX1_foresee 7 (some .int), Cond.methodLink RL 122 yX2_isSame, Cond.instanceMethod yX2_isSame, Cond.selects RX2 yX2_isSame yX2_isSame, Cond.code yX2_isSame cX2_isSame 13 (some .boolean), Cond.fieldLink RX2 83 "TwinOrchardLaw$Sim" "tilt" "I", Cond.methodLink RX2 62 yX1_tree, Cond.methodLink RX2 68 yX1_leans, Cond.instanceMethod yX1_leans, Cond.selects RX1 yX1_leans yX1_leans, Cond.code yX1_leans cX1_leans 5 (some .int), Cond.methodLink RX2 72 yX1_sort, Cond.methodLink RX2 75 yX2_tired, Cond.instanceMethod yX2_tired, Cond.selects RX2 yX2_tired yX2_tired, Cond.code yX2_tired cX2_tired 10 (some .int), Cond.methodLink RX2 77 yX1_count, Cond.methodLink RX2 80 yX1_tilt, Cond.methodLink RX2 85 yX1_mean, Cond.instanceMethod yX1_mean, Cond.selects RX1 yX1_mean yX1_mean, Cond.code yX1_mean cX1_mean 4 (some .double), Cond.methodLink RX2 89 yX2_branches, Cond.instanceMethod yX2_branches]
def wsL_law0_r15 : List Cond := [Cond.selects RX2 yX2_branches yX2_branches, Cond.code yX2_branches cX2_branches 10 (some .int)]
def wsL_law0 : List Cond := (wsL_law0_r1 ++ (wsL_law0_r2 ++ (wsL_law0_r3 ++ (wsL_law0_r4 ++ (wsL_law0_r5 ++ (wsL_law0_r6 ++ (wsL_law0_r7 ++ (wsL_law0_r8 ++ (wsL_law0_r9 ++ (wsL_law0_r10 ++ (wsL_law0_r11 ++ (wsL_law0_r12 ++ (wsL_law0_r13 ++ (wsL_law0_r14 ++ wsL_law0_r15)))))))))))))) ++ wsX10 ++ wsX20 ++ wsX00 ++ wsX30 ++ ([] : List Cond)
def wsL_law : List Cond := wsL_law0 ++ (vx_atS RX1 69 "java/lang/IndexOutOfBoundsException" ["java/lang/RuntimeException", "java/lang/Exception"]).filter goodWord ++ (vx_atS RX1 80 "java/lang/IllegalArgumentException" ["java/lang/RuntimeException", "java/lang/Exception"]).filter goodWord ++ (vx_atS RX1 158 "java/lang/IllegalStateException" ["java/lang/RuntimeException", "java/lang/Exception"]).filter goodWord
