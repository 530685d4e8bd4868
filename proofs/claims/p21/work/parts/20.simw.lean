/-! the law's own orchard: σ as the class has it (rows 0..9), its trees where κ 1 says -/
theorem va_Pe {D : va_G} {cl : List vw_C} {H : Heap} {w w' : va_W} (h : w = w') (hP : va_P D cl w H) : va_P D cl w' H := by
  rw [← h]
  exact hP
theorem va_De {A : Nat → Prop} {w w' : va_W} (h : w = w') (hD : va_D A w) : va_D A w' := by
  rw [← h]
  exact hD
def rQ (cA : ClassId) (n : Nat) (f : Nat → Option Nat) : va_E := .inl (cA, (n, .inr (.inr (.inr (.inr f)))))
def SO (d : Nat → Nat) (σ : St) : List Value := [.ref (d 1), .ref (d 2), .ref (d 3), .ref (d 4), .ref (d 5), .ref (d 6), .int (iI (σ 9 0)), .int (iI (σ 9 1))]
def tref (σ κ : St) (k : Int) : Option Nat := if σ 4 k = -1 then none else some (κ 1 k).toNat
def tfs (σ : St) (k : Int) : List Value := [.int (iI (σ 5 k)), .int (iI (σ 6 k)), .int (iI (σ 4 k)), .int (iI (σ 7 k))]
def trow (σ κ : St) (r : Int) : Nat → Option Nat := fun j => tref σ κ (r * 8 + (j : Int))
def srt (d : Nat → Nat) : Nat → Option Nat := fun i => if i < 5 then some (d (i + 7)) else none
def SB (cI cT cU : ClassId) (d : Nat → Nat) (σ κ : St) : va_W := [(d 0, .inr (2, SO d σ)), (d 1, rQ cU 5 (srt d)), (d 2, aI cI 6 (σ 0)), (d 3, aI cI 6 (σ 1)), (d 4, aI cI 10 (σ 3)), (d 5, aI cI 6 (σ 2)), (d 6, aI cI 2 (σ 8)), (d 7, rQ cT 8 (trow σ κ 0)), (d 8, rQ cT 8 (trow σ κ 1)), (d 9, rQ cT 8 (trow σ κ 2)), (d 10, rQ cT 8 (trow σ κ 3)), (d 11, rQ cT 8 (trow σ κ 4))]
def ST (σ κ : St) : Nat → va_W
  | 0 => []
  | n + 1 => ST σ κ n ++ (if σ 4 (n : Int) = -1 then [] else [((κ 1 (n : Int)).toNat, .inr (3, tfs σ (n : Int)))])
def SW (cI cT cU : ClassId) (d : Nat → Nat) (σ κ : St) : va_W := SB cI cT cU d σ κ ++ ST σ κ 40
def spos (σ κ : St) (k : Int) : Nat := (ST σ κ k.toNat).length + 12
abbrev tySs (cI cT cU : ClassId) : List (ClassId × FieldType) := [(cI, .int), (cT, .object RX3), (cU, .array (.object RX3))]
theorem ST_at {σ κ : St} {k : Nat} (h : ¬ σ 4 (k : Int) = -1) : ∀ n : Nat, k < n → (ST σ κ n)[(ST σ κ k).length]? = some ((κ 1 (k : Int)).toNat, .inr (3, tfs σ (k : Int)))
  | 0, hk => absurd hk (Nat.not_lt_zero _)
  | n + 1, hk => by
    by_cases e : k = n
    · subst e
      show (ST σ κ k ++ _)[_]? = _
      rw [if_neg h, List.getElem?_append_right (Nat.le_refl _), Nat.sub_self]
      rfl
    · have h1 := ST_at h n (by omega)
      have hl := (List.getElem?_eq_some_iff.mp h1).1
      show (ST σ κ n ++ _)[_]? = _
      rw [List.getElem?_append_left hl]
      exact h1
theorem ST_congr {σ σ' κ κ' : St} : ∀ n : Nat, (∀ j : Nat, j < n → σ' 4 (j : Int) = σ 4 (j : Int) ∧ tfs σ' (j : Int) = tfs σ (j : Int) ∧ (¬ σ 4 (j : Int) = -1 → κ' 1 (j : Int) = κ 1 (j : Int))) → ST σ' κ' n = ST σ κ n
  | 0, _ => rfl
  | n + 1, h => by
    show ST σ' κ' n ++ _ = ST σ κ n ++ _
    obtain ⟨h1, h2, h3⟩ := h n (Nat.lt_succ_self n)
    rw [ST_congr n (fun j hj => h j (Nat.lt_succ_of_lt hj)), h1, h2]
    congr 1
    split
    · rfl
    · rename_i g
      rw [h3 g]
theorem ST_set {σ σ' κ : St} {k : Nat} (h : ¬ σ 4 (k : Int) = -1) (h' : ¬ σ' 4 (k : Int) = -1) (ho : ∀ j : Nat, j ≠ k → σ' 4 (j : Int) = σ 4 (j : Int) ∧ tfs σ' (j : Int) = tfs σ (j : Int)) : ∀ n : Nat, k < n → (ST σ κ n).set (ST σ κ k).length ((κ 1 (k : Int)).toNat, .inr (3, tfs σ' (k : Int))) = ST σ' κ n
  | 0, hk => absurd hk (Nat.not_lt_zero _)
  | n + 1, hk => by
    by_cases e : k = n
    · subst e
      show (ST σ κ k ++ _).set _ _ = ST σ' κ k ++ _
      rw [if_neg h, if_neg h', List.set_append_right _ _ (Nat.le_refl _), Nat.sub_self, ST_congr (σ := σ) (σ' := σ') (κ := κ) (κ' := κ) k (fun j hj => ⟨(ho j (by omega)).1, (ho j (by omega)).2, fun _ => rfl⟩)]
      rfl
    · have hl := (List.getElem?_eq_some_iff.mp (ST_at (κ := κ) h n (by omega))).1
      show (ST σ κ n ++ _).set _ _ = ST σ' κ n ++ _
      obtain ⟨h1, h2⟩ := ho n (fun q => e q.symm)
      rw [List.set_append_left _ _ hl, ST_set h h' ho n (by omega), h1, h2]
section SWL
variable {cI cT cU : ClassId} {d : Nat → Nat} {σ κ : St} {k : Int}
theorem sw_at (h : ¬ σ 4 k = -1) (h0 : 0 ≤ k) (h1 : k < 40) : (SW cI cT cU d σ κ)[spos σ κ k]? = some ((κ 1 k).toNat, .inr (3, tfs σ k)) := by
  have e : ((k.toNat : Nat) : Int) = k := by omega
  have h2 := ST_at (σ := σ) (κ := κ) (k := k.toNat) (by rw [e]; exact h) 40 (by omega)
  rw [e] at h2
  show (SB cI cT cU d σ κ ++ ST σ κ 40)[(ST σ κ k.toNat).length + 12]? = _
  rw [List.getElem?_append_right (Nat.le_add_left _ _)]
  exact h2
theorem sw_set {σ' : St} (h : ¬ σ 4 k = -1) (h' : ¬ σ' 4 k = -1) (h0 : 0 ≤ k) (h1 : k < 40) (ho : ∀ j : Int, j ≠ k → σ' 4 j = σ 4 j ∧ tfs σ' j = tfs σ j) (hb : SB cI cT cU d σ κ = SB cI cT cU d σ' κ) {a : Nat} (ha : a = (κ 1 k).toNat) : (SW cI cT cU d σ κ).set (spos σ κ k) (a, .inr (3, tfs σ' k)) = SW cI cT cU d σ' κ := by
  subst ha
  have e : ((k.toNat : Nat) : Int) = k := by omega
  have h2 := ST_set (σ := σ) (σ' := σ') (κ := κ) (k := k.toNat) (by rw [e]; exact h) (by rw [e]; exact h') (fun j hj => ho j (by omega)) 40 (by omega)
  rw [e] at h2
  show (SB cI cT cU d σ κ ++ ST σ κ 40).set ((ST σ κ k.toNat).length + 12) _ = SB cI cT cU d σ' κ ++ ST σ' κ 40
  rw [List.set_append_right _ _ (Nat.le_add_left _ _), ← hb]
  congr 1
theorem tref_4 {v : Int} (h : ¬ σ 4 k = -1) (hv : ¬ v = -1) (j : Int) : tref (su σ 4 k v) κ j = tref σ κ j := by
  unfold tref
  show (if fu (σ 4) k v j = -1 then _ else _) = _
  by_cases e : j = k
  · subst e
    rw [fu_s, if_neg h, if_neg hv]
  · rw [fu_n _ _ e]
theorem sb_4 {v : Int} (h : ¬ σ 4 k = -1) (hv : ¬ v = -1) : SB cI cT cU d σ κ = SB cI cT cU d (su σ 4 k v) κ := by
  have e : ∀ r : Int, trow (su σ 4 k v) κ r = trow σ κ r := fun r => funext fun j => tref_4 h hv _
  unfold SB
  rw [e 0, e 1, e 2, e 3, e 4]
  rfl
theorem sw_put5 {v : Int} (h : ¬ σ 4 k = -1) (h0 : 0 ≤ k) (h1 : k < 40) : (SW cI cT cU d σ κ).set (spos σ κ k) ((κ 1 k).toNat, .inr (3, (tfs σ k).set 0 (.int (iI v)))) = SW cI cT cU d (su σ 5 k v) κ := by
  have e : (tfs σ k).set 0 (.int (iI v)) = tfs (su σ 5 k v) k := by
    show [Value.int (iI v), _, _, _] = [Value.int (iI (fu (σ 5) k v k)), _, _, _]
    rw [fu_s]
    rfl
  rw [e]
  exact sw_set h h h0 h1 (fun j hj => ⟨rfl, by show [Value.int (iI (fu (σ 5) k v j)), _, _, _] = _; rw [fu_n _ _ hj]; rfl⟩) rfl rfl
theorem sw_put6 {v : Int} (h : ¬ σ 4 k = -1) (h0 : 0 ≤ k) (h1 : k < 40) : (SW cI cT cU d σ κ).set (spos σ κ k) ((κ 1 k).toNat, .inr (3, (tfs σ k).set 1 (.int (iI v)))) = SW cI cT cU d (su σ 6 k v) κ := by
  have e : (tfs σ k).set 1 (.int (iI v)) = tfs (su σ 6 k v) k := by
    show [_, Value.int (iI v), _, _] = [_, Value.int (iI (fu (σ 6) k v k)), _, _]
    rw [fu_s]
    rfl
  rw [e]
  exact sw_set h h h0 h1 (fun j hj => ⟨rfl, by show [_, Value.int (iI (fu (σ 6) k v j)), _, _] = _; rw [fu_n _ _ hj]; rfl⟩) rfl rfl
theorem sw_put7 {v : Int} (h : ¬ σ 4 k = -1) (h0 : 0 ≤ k) (h1 : k < 40) : (SW cI cT cU d σ κ).set (spos σ κ k) ((κ 1 k).toNat, .inr (3, (tfs σ k).set 3 (.int (iI v)))) = SW cI cT cU d (su σ 7 k v) κ := by
  have e : (tfs σ k).set 3 (.int (iI v)) = tfs (su σ 7 k v) k := by
    show [_, _, _, Value.int (iI v)] = [_, _, _, Value.int (iI (fu (σ 7) k v k))]
    rw [fu_s]
    rfl
  rw [e]
  exact sw_set h h h0 h1 (fun j hj => ⟨rfl, by show [_, _, _, Value.int (iI (fu (σ 7) k v j))] = _; rw [fu_n _ _ hj]; rfl⟩) rfl rfl
theorem sw_put4 {v : Int} (hv : ¬ v = -1) (h : ¬ σ 4 k = -1) (h0 : 0 ≤ k) (h1 : k < 40) : (SW cI cT cU d σ κ).set (spos σ κ k) ((κ 1 k).toNat, .inr (3, (tfs σ k).set 2 (.int (iI v)))) = SW cI cT cU d (su σ 4 k v) κ := by
  have e : (tfs σ k).set 2 (.int (iI v)) = tfs (su σ 4 k v) k := by
    show [_, _, Value.int (iI v), _] = [_, _, Value.int (iI (fu (σ 4) k v k)), _]
    rw [fu_s]
    rfl
  rw [e]
  exact sw_set h (by show ¬ fu (σ 4) k v k = -1; rw [fu_s]; exact hv) h0 h1 (fun j hj => ⟨fu_n _ _ hj, by show [_, _, Value.int (iI (fu (σ 4) k v j)), _] = _; rw [fu_n _ _ hj]; rfl⟩) (sb_4 h hv) rfl
theorem sw_row {r : Int} (h0 : 0 ≤ r) (h1 : r < 5) : (SW cI cT cU d σ κ)[r.toNat + 7]? = some (d (r.toNat + 7), rQ cT 8 (trow σ κ r)) := by
  rcases (show r = 0 ∨ r = 1 ∨ r = 2 ∨ r = 3 ∨ r = 4 by omega) with rfl | rfl | rfl | rfl | rfl <;> rfl
/-! a tree felled: its cell is no longer of the world -/
theorem va_mem {D : va_G} {cl : List vw_C} {H : Heap} {w w' : va_W} (hP : va_P D cl w H) (h : ∀ q ∈ w', q ∈ w) : va_P D cl w' H := fun i q hi => by
  obtain ⟨j, hj⟩ := List.getElem?_of_mem (h q (List.mem_of_getElem? hi))
  exact hP j q hj
theorem va_Dn {A : Nat → Prop} {w : va_W} (hD : va_D A w) : (w.map Prod.fst).Nodup := by
  rw [List.nodup_iff_getElem?_ne_getElem?]
  intro i j hij hj e
  rw [List.length_map] at hj
  rw [List.getElem?_map, List.getElem?_map, List.getElem?_eq_getElem hj, List.getElem?_eq_getElem (show i < w.length by omega)] at e
  have := hD.1 i j _ _ (List.getElem?_eq_getElem (show i < w.length by omega)) (List.getElem?_eq_getElem hj) (Option.some.inj e)
  omega
theorem va_Do {A : Nat → Prop} {w : va_W} (h : (w.map Prod.fst).Nodup) (hA : ∀ q ∈ w, A q.1) : va_D A w := by
  refine ⟨fun i j p q hi hj e => ?_, fun i q hi => hA q (List.mem_of_getElem? hi)⟩
  obtain ⟨li, ei⟩ := List.getElem?_eq_some_iff.mp hi
  obtain ⟨lj, ej⟩ := List.getElem?_eq_some_iff.mp hj
  rw [List.nodup_iff_getElem?_ne_getElem?] at h
  have key : ∀ a b : Nat, a < b → b < w.length → (w.map Prod.fst)[a]? ≠ (w.map Prod.fst)[b]? := fun a b h1 h2 => h a b h1 (by rw [List.length_map]; exact h2)
  have e1 : (w.map Prod.fst)[i]? = some p.1 := by rw [List.getElem?_map, hi]; rfl
  have e2 : (w.map Prod.fst)[j]? = some q.1 := by rw [List.getElem?_map, hj]; rfl
  rcases Nat.lt_trichotomy i j with g | g | g
  · exact absurd (by rw [e1, e2, e]) (key i j g lj)
  · exact g
  · exact absurd (by rw [e1, e2, e]) (key j i g li)
theorem va_Ds {A : Nat → Prop} {w w' : va_W} (hD : va_D A w) (h : w'.Sublist w) : va_D A w' :=
  va_Do ((h.map Prod.fst).nodup (va_Dn hD)) (fun q hq => by
    obtain ⟨j, hj⟩ := List.getElem?_of_mem (h.mem hq)
    exact hD.2 j q hj)
theorem va_Dp {A : Nat → Prop} {w w' : va_W} (hD : va_D A w) (h : w'.Perm w) : va_D A w' :=
  va_Do ((h.map Prod.fst).nodup_iff.mpr (va_Dn hD)) (fun q hq => by
    obtain ⟨j, hj⟩ := List.getElem?_of_mem (h.mem_iff.mp hq)
    exact hD.2 j q hj)
end SWL
