/-! the JDK's own methods that are called: floorMod of what isn't negative, fill of an int row; calls on one cell of a world -/
theorem iI_xor_nn {a b : Int} (ha : 0 ≤ a ∧ a ≤ 2147483647) (hb : 0 ≤ b ∧ b ≤ 2147483647) : (0 : Int32) ≤ iI a ^^^ iI b := by
  have key : ∀ z : Int, 0 ≤ z ∧ z ≤ 2147483647 → (iI z).toBitVec.msb = false := by
    intro z h
    have h3 : (iI z).toBitVec.toInt = z := iI_toInt (by omega) h.2
    cases hm : (iI z).toBitVec.msb with
    | false => rfl
    | true =>
      have h4 := BitVec.msb_eq_true_iff_two_mul_ge.mp hm
      have h5 := BitVec.toInt_neg_iff.mpr h4
      omega
  rw [Int32.le_iff_toInt_le]
  show (0 : Int) ≤ (iI a ^^^ iI b).toBitVec.toInt
  rw [Int32.toBitVec_xor]
  apply BitVec.toInt_nonneg_of_msb_false
  rw [BitVec.msb_xor, key a ha, key b hb]
  rfl
/-- a method of a class some of whose methods are run by entries of the machine, but not this one -/
theorem g_ofF {l : Launch} {y : MethodName} {ws ws' : List Cond} {rm : Room} {Pc : Array Value → State → Prop} {Qc : Array Value → State → Outcome → State → Prop} {mc ms : Nat} {free : Addr → Prop} {cc : ByteArray} {maxL : Nat} {ret : Option FieldType}
    (hy : plainFor y = true) (hw : ws = Cond.code y cc maxL ret :: ws')
    (body : ∀ p e s m args below meth c s₁, BodyLoose p l y (headSpec ws rm) cc maxL ret e s m args below meth c s₁ → c.maxLocals = maxL → Pc args s →
      W p l e (headSpec ws rm).room s m args below meth c s.heap [] 0 0 (MQ below Qc args s mc ms free) (entryFrame m args maxL)) : Met l y ws rm Pc Qc mc ms free := by
  refine MetFree.of_bodySF (code := cc) (maxLocals := maxL) (ret := ret) hy ?_ ?_
  · intro args s m h hn
    obtain ⟨meth, c, h1, h2, h3, h4, h5, h6, -, -⟩ := Cond.code_spec hn (atoms_spec (ws := ws) h _ (by rw [hw]; exact List.mem_cons_self))
    exact ⟨meth, c, h1, h2, h3, h4, h5, h6⟩
  · intro p e s m args below meth c s₁ B hml hP _
    have hh0 : s₁.heap = s.heap := by rw [B.state]; rfl
    obtain ⟨t, a1, o, b1, b2, b3⟩ := body p e s m args below meth c s₁ B hml hP s₁ hh0 (Stand.of_body B)
    exact ⟨t, o, a1, b1, b2, ⟨b3.1, b3.2⟩⟩
theorem g_startF {l : Launch} {cc : ByteArray} {D : va_G} {tys : List (ClassId × FieldType)} {wi : va_W} {wo : St → va_W} {rv : St → Option Value} {kr : St → Prop} {y : MethodName} {ws0 ws' : List Cond} {rm : Room} {av : List Value} {ex : State → Prop} {maxL : Nat} {ret : Option FieldType} (hy : plainFor y = true) (hw : ws0 = Cond.code y cc maxL ret :: ws') (hn : (lg_sl av).length ≤ maxL)
    (body : ∀ (p : Program) (e : Env) (s : State) (m : MethodId) (args : Array Value) (below : List Frame) (meth : Method) (c : Code) (A : Nat → Prop) (ls : Array Slot) (H : Heap) (locs : List Loc), CallFix p m c cc maxL s args ws0 y.cls → meth.sig.returnType = ret → meth.locks = false → meth.name = y.name → va_P D vwCl wi H → va_K D vwCl tys s → va_D A wi → (∀ q : Nat, s.heap.size ≤ q → A q) → va_S A s.heap H locs → ex s → lv_has ls maxL (lv_args 0 av) →
      W p l e rm s m args below meth c H locs 0 0 (MQ below (gQ D tys wo A rv kr) args s rm.cells rm.slots A) (F0 m 0 ls [])) : gMet l y ws0 rm D tys wi av ex rv kr wo := by
  intro sz
  refine g_ofF (cc := cc) (maxL := maxL) (ret := ret) hy hw ?_
  intro p e s m args below meth c s₁ B hml hv
  obtain ⟨rfl, hsz, hP, hK, hD0, hE⟩ := hv
  subst hsz
  have hl := lv_entry av (n := maxL) hn
  rw [lg_entry_eq]
  exact body p e s m _ below meth c _ _ _ _ ⟨B.exec, B.bytes, hml, findClass_of_methodNamed B.named, atoms_spec (ws := ws0) B.pre⟩ B.returns B.notSynchronized (name_of_methodNamed B.named B.method).1 hP hK hD0.self (fun q h => Or.inr h) va_S.rf hE hl
set_option maxHeartbeats 4000000 in
set_option maxRecDepth 100000 in
theorem kJ9_floorMod_7cf53 (l : Launch) (D : va_G) (n0 n1 : Int) (h0 : 0 ≤ n0 ∧ n0 ≤ 2147483647) (h1 : 0 < n1 ∧ n1 ≤ 2147483647) : gMet l yJ9_floorMod_7cf53 wsJ9_floorMod_7cf53 ({ frames := 0, cells := 0, slots := 0, locals := 0 } : Room) D [] (([] : va_W)) [.int (iI n0), .int (iI n1)] (fun _ => True) (fun _ => some (.int (iI (n0 % n1)))) (fun _ => True) (fun κ' => ([] : va_W)) := by
  refine g_startF (cc := cJ9_floorMod_7cf53) (maxL := 3) (ret := (some .int)) (by decide +kernel) rfl (Nat.le_of_ble_eq_true rfl) ?_
  intro p e s m args below meth c A ls H locs S hr hlocks hname hP hK hD hA hS hE hl
  have S0 := S
  obtain ⟨hx, hb, hml, hown, hts⟩ := S0
  have hl : lv_has ls 3 [(0, .int (iI (n0))), (1, .int (iI (n1)))] := hl
  refine lv_iload_n hx hb dJ9_floorMod_7cf53_0 rfl (lv_at hl 0 rfl) ?_
  refine lv_iload_n hx hb dJ9_floorMod_7cf53_1 rfl (lv_at hl 1 rfl) ?_
  refine gi_rem hx hb h0 h1 dJ9_floorMod_7cf53_2 ?_
  refine lv_istore_n (lv' := [(2, .int (iI (n0 % n1))), (0, .int (iI n0)), (1, .int (iI n1))]) hx hb dJ9_floorMod_7cf53_3 rfl hl (by decide) rfl (fun ls hl => ?_)
  refine lv_iload_n hx hb dJ9_floorMod_7cf53_4 rfl (lv_at hl 1 rfl) ?_
  refine lv_iload_n hx hb dJ9_floorMod_7cf53_5 rfl (lv_at hl 2 rfl) ?_
  refine lv_ixor hx hb dJ9_floorMod_7cf53_6 ?_
  refine lv_if_ge (tgt := 18) hx hb dJ9_floorMod_7cf53_7 (by decide) (fun c7 => ?_) (fun c7 => ?_)
  · refine lv_iload_n hx hb dJ9_floorMod_7cf53_18 rfl (lv_at hl 0 rfl) ?_
    exact g_iret (wo := (fun κ' => ([] : va_W))) (kr := (fun _ => True)) (rv := (fun _ => some (.int (iI (n0 % n1))))) hx hb hr hlocks (fun _ _ => 0) rfl hP hK hD hS trivial rfl (Nat.le_of_ble_eq_true rfl) (Nat.le_of_ble_eq_true rfl) dJ9_floorMod_7cf53_19
  · exact absurd (iI_xor_nn h0 ⟨Int.le_of_lt h1.1, h1.2⟩) c7
/-- an int row filled with v, its first n places -/
def ffl (n : Nat) (v : Int) (f : Int → Int) : Int → Int := fun j => if 0 ≤ j ∧ j < (n : Int) then v else f j
theorem aI_congr (cI : ClassId) {n : Nat} {f g : Int → Int} (h : ∀ j : Int, 0 ≤ j → j < (n : Int) → f j = g j) : ∀ (D : va_G) (cl : List vw_C) (a : Nat) (H : Heap), va_at D cl (a, aI cI n f) H → va_at D cl (a, aI cI n g) H := by
  intro D cl a H h1
  show H[a]? = some (vp_cell _ _)
  have h2 : H[a]? = some (vp_cell cI (n, .inl (fun j : Nat => iI (f (j : Int))))) := h1
  rw [h2, vp_cell_i, vp_cell_i]
  congr 1
  unfold arrV
  congr 1
  apply Array.ext
  · simp
  · intro i h1 h2
    simp at h1 ⊢
    rw [h (i : Int) (by omega) (by omega)]
section G1
variable {p : Program} {l : Launch} {e : Env} {R : Room} {s : State} {m : MethodId} {args : Array Value} {below : List Frame} {meth : Method} {c : Code} {H : Heap} {locs : List Loc} {cells slots : Nat} {Q : State → Prop}
variable {pc : Nat} {ls : Array Slot} {rest st0 : List Value} {D : va_G} {A0 : Nat → Prop} {tys tys' : List (ClassId × FieldType)} {ws : va_W} {H0 : Heap} {rv : St → Option Value} {kr : St → Prop} {a : Array Value} {mc ms : Nat}
/-- a call of a method whose world is one cell of ours -/
theorem g_call1 {e0 : va_E} {e1 : St → va_E} {b : Nat} (q0 : Nat) (h0 : ws[q0]? = some (b, e0)) (hr : va_Run p l e R s m args below meth c H locs cells slots mc ms (F0 m pc ls st0) rest (gQ D tys' (fun κ => [(b, e1 κ)]) (va_A [(b, e0)] H.size) rv kr a) (va_A [(b, e0)] H.size)) (hP : va_P D vwCl ws H) (hD : va_D A0 ws) (hS : va_S A0 H0 H locs) (hA : ∀ q, H0.size ≤ q → A0 q)
    (kk : ∀ (κ : St) (H1 : Heap) (locs1 : List Loc), kr κ → va_P D vwCl (ws.set q0 (b, e1 κ)) H1 → va_D A0 (ws.set q0 (b, e1 κ)) → va_S A0 H0 H1 locs1 → W p l e R s m args below meth c H1 locs1 (cells + mc) (slots + ms) Q (F0 m (pc + 3) ls ((rv κ).toList ++ rest))) : W p l e R s m args below meth c H locs cells slots Q (F0 m pc ls st0) := by
  intro T hT X
  obtain ⟨v, st₀, t, T', L, hh0, X', hL, e1', e2, ⟨⟨κ, hv, hp, hb, hk2, hd⟩, hz, hk⟩, st⟩ := hr T hT X
  cases hv
  rw [hh0] at hz hk
  have hbl : b < H.size := (hP q0 _ h0).lt
  have hF : ∀ q, va_A [(b, e0)] H.size q → A0 q := by
    intro q h
    rcases h with ⟨k, e9, h⟩ | h
    · have hk0 : k = 0 := by
        have := (List.getElem?_eq_some_iff.mp h).1
        simp at this
        exact this
      subst hk0
      cases h
      exact hD.2 q0 _ h0
    · exact hA q (Nat.le_trans hS.1 h)
  have hne : ∀ q : Nat, q < H.size → q ≠ b → T'.heap[q]? = H[q]? := by
    intro q h1 h2
    rw [e1']
    refine hk q h1 ?_
    rintro (⟨k, e9, h⟩ | h)
    · have hk0 : k = 0 := by
        have := (List.getElem?_eq_some_iff.mp h).1
        simp at this
        exact this
      subst hk0
      cases h
      exact h2 rfl
    · omega
  have hP1 : va_P D vwCl (ws.set q0 (b, e1 κ)) T'.heap := by
    have hl := (List.getElem?_eq_some_iff.mp h0).1
    intro k q hk9
    by_cases hkp : k = q0
    · subst hkp
      rw [List.getElem?_set_self hl] at hk9
      cases hk9
      have := hb 0 (b, e1 κ) rfl
      rw [e1']
      exact this
    · rw [List.getElem?_set_ne (Ne.symm hkp)] at hk9
      exact (hP k q hk9).kept (hne q.1 ((hP k q hk9).lt) (fun z => hkp (hD.1 k q0 q (b, e0) hk9 h0 z)))
  obtain ⟨t2, a1, b1⟩ := kk κ T'.heap (locs ++ L) hp hP1 (hD.set h0)
    ⟨Nat.le_trans hS.1 (by rw [e1']; exact hz), fun q h1 h2 => by rw [e1', hk q (Nat.lt_of_lt_of_le h1 hS.1) (fun z => h2 (hF q z))]; exact hS.2.1 q h1 h2, fun q hq => by
      rcases List.mem_append.mp hq with h | h
      · exact hS.2.2 q h
      · exact hF _ (hL q h)⟩ T' rfl X'
  exact ⟨t2, st t2 a1, b1⟩
end G1
