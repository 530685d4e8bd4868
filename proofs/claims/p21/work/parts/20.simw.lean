/-! the law's own orchard: σ as the class has it (rows 0..9), its trees where ι says -/
theorem va_Pe {D : va_G} {cl : List vw_C} {H : Heap} {w w' : va_W} (h : w = w') (hP : va_P D cl w H) : va_P D cl w' H := by
  rw [← h]
  exact hP
theorem va_De {A : Nat → Prop} {w w' : va_W} (h : w = w') (hD : va_D A w) : va_D A w' := by
  rw [← h]
  exact hD
def rQ (cA : ClassId) (n : Nat) (f : Nat → Option Nat) : va_E := .inl (cA, (n, .inr (.inr (.inr (.inr f)))))
def SO (d : Nat → Nat) (σ : St) : List Value := [.ref (d 1), .ref (d 2), .ref (d 3), .ref (d 4), .ref (d 5), .ref (d 6), .int (iI (σ 9 0)), .int (iI (σ 9 1))]
def tref (σ : St) (ι : Int → Int) (k : Int) : Option Nat := if σ 4 k = -1 then none else some (ι k).toNat
def tfs (σ : St) (k : Int) : List Value := [.int (iI (σ 5 k)), .int (iI (σ 6 k)), .int (iI (σ 4 k)), .int (iI (σ 7 k))]
def trow (σ : St) (ι : Int → Int) (r : Int) : Nat → Option Nat := fun j => if j < 8 then tref σ ι (r * 8 + (j : Int)) else none
def srt (d : Nat → Nat) : Nat → Option Nat := fun i => if i < 5 then some (d (i + 7)) else none
def SB (cI cT cU : ClassId) (d : Nat → Nat) (σ : St) (ι : Int → Int) : va_W := [(d 0, .inr (2, SO d σ)), (d 1, rQ cU 5 (srt d)), (d 2, aI cI 6 (σ 0)), (d 3, aI cI 6 (σ 1)), (d 4, aI cI 10 (σ 3)), (d 5, aI cI 6 (σ 2)), (d 6, aI cI 2 (σ 8)), (d 7, rQ cT 8 (trow σ ι 0)), (d 8, rQ cT 8 (trow σ ι 1)), (d 9, rQ cT 8 (trow σ ι 2)), (d 10, rQ cT 8 (trow σ ι 3)), (d 11, rQ cT 8 (trow σ ι 4))]
def ST (σ : St) (ι : Int → Int) : Nat → va_W
  | 0 => []
  | n + 1 => ST σ ι n ++ (if σ 4 (n : Int) = -1 then [] else [((ι (n : Int)).toNat, .inr (3, tfs σ (n : Int)))])
def SW (cI cT cU : ClassId) (d : Nat → Nat) (σ : St) (ι : Int → Int) : va_W := SB cI cT cU d σ ι ++ ST σ ι 40
def spos (σ : St) (ι : Int → Int) (k : Int) : Nat := (ST σ ι k.toNat).length + 12
abbrev tySs (cI cT cU : ClassId) : List (ClassId × FieldType) := [(cI, .int), (cT, .object RX3), (cU, .array (.object RX3))]
theorem ST_at {σ : St} {ι : Int → Int} {k : Nat} (h : ¬ σ 4 (k : Int) = -1) : ∀ n : Nat, k < n → (ST σ ι n)[(ST σ ι k).length]? = some ((ι (k : Int)).toNat, .inr (3, tfs σ (k : Int)))
  | 0, hk => absurd hk (Nat.not_lt_zero _)
  | n + 1, hk => by
    by_cases e : k = n
    · subst e
      show (ST σ ι k ++ _)[_]? = _
      rw [if_neg h, List.getElem?_append_right (Nat.le_refl _), Nat.sub_self]
      rfl
    · have h1 := ST_at (ι := ι) h n (by omega)
      have hl := (List.getElem?_eq_some_iff.mp h1).1
      show (ST σ ι n ++ _)[_]? = _
      rw [List.getElem?_append_left hl]
      exact h1
theorem ST_congr {σ σ' : St} {ι ι' : Int → Int} : ∀ n : Nat, (∀ j : Nat, j < n → σ' 4 (j : Int) = σ 4 (j : Int) ∧ tfs σ' (j : Int) = tfs σ (j : Int) ∧ (¬ σ 4 (j : Int) = -1 → ι' (j : Int) = ι (j : Int))) → ST σ' ι' n = ST σ ι n
  | 0, _ => rfl
  | n + 1, h => by
    show ST σ' ι' n ++ _ = ST σ ι n ++ _
    obtain ⟨h1, h2, h3⟩ := h n (Nat.lt_succ_self n)
    rw [ST_congr n (fun j hj => h j (Nat.lt_succ_of_lt hj)), h1, h2]
    congr 1
    split
    · rfl
    · rename_i g
      rw [h3 g]
theorem ST_set {σ σ' : St} {ι : Int → Int} {k : Nat} (h : ¬ σ 4 (k : Int) = -1) (h' : ¬ σ' 4 (k : Int) = -1) (ho : ∀ j : Nat, j ≠ k → σ' 4 (j : Int) = σ 4 (j : Int) ∧ tfs σ' (j : Int) = tfs σ (j : Int)) : ∀ n : Nat, k < n → (ST σ ι n).set (ST σ ι k).length ((ι (k : Int)).toNat, .inr (3, tfs σ' (k : Int))) = ST σ' ι n
  | 0, hk => absurd hk (Nat.not_lt_zero _)
  | n + 1, hk => by
    by_cases e : k = n
    · subst e
      show (ST σ ι k ++ _).set _ _ = ST σ' ι k ++ _
      rw [if_neg h, if_neg h', List.set_append_right _ _ (Nat.le_refl _), Nat.sub_self, ST_congr (σ := σ) (σ' := σ') (ι := ι) (ι' := ι) k (fun j hj => ⟨(ho j (by omega)).1, (ho j (by omega)).2, fun _ => rfl⟩)]
      rfl
    · have hl := (List.getElem?_eq_some_iff.mp (ST_at (ι := ι) h n (by omega))).1
      show (ST σ ι n ++ _).set _ _ = ST σ' ι n ++ _
      obtain ⟨h1, h2⟩ := ho n (fun q => e q.symm)
      rw [List.set_append_left _ _ hl, ST_set h h' ho n (by omega), h1, h2]
section SWL
variable {cI cT cU : ClassId} {d : Nat → Nat} {σ : St} {ι : Int → Int} {k : Int}
theorem sw_at (h : ¬ σ 4 k = -1) (h0 : 0 ≤ k) (h1 : k < 40) : (SW cI cT cU d σ ι)[spos σ ι k]? = some ((ι k).toNat, .inr (3, tfs σ k)) := by
  have e : ((k.toNat : Nat) : Int) = k := by omega
  have h2 := ST_at (σ := σ) (ι := ι) (k := k.toNat) (by rw [e]; exact h) 40 (by omega)
  rw [e] at h2
  show (SB cI cT cU d σ ι ++ ST σ ι 40)[(ST σ ι k.toNat).length + 12]? = _
  have hl : (SB cI cT cU d σ ι).length = 12 := rfl
  rw [List.getElem?_append_right (by rw [hl]; omega), hl, Nat.add_sub_cancel]
  exact h2
theorem sw_set {σ' : St} (h : ¬ σ 4 k = -1) (h' : ¬ σ' 4 k = -1) (h0 : 0 ≤ k) (h1 : k < 40) (ho : ∀ j : Int, j ≠ k → σ' 4 j = σ 4 j ∧ tfs σ' j = tfs σ j) (hb : SB cI cT cU d σ ι = SB cI cT cU d σ' ι) {a : Nat} (ha : a = (ι k).toNat) : (SW cI cT cU d σ ι).set (spos σ ι k) (a, .inr (3, tfs σ' k)) = SW cI cT cU d σ' ι := by
  subst ha
  have e : ((k.toNat : Nat) : Int) = k := by omega
  have h2 := ST_set (σ := σ) (σ' := σ') (ι := ι) (k := k.toNat) (by rw [e]; exact h) (by rw [e]; exact h') (fun j hj => ho j (by omega)) 40 (by omega)
  rw [e] at h2
  show (SB cI cT cU d σ ι ++ ST σ ι 40).set ((ST σ ι k.toNat).length + 12) _ = SB cI cT cU d σ' ι ++ ST σ' ι 40
  have hl : (SB cI cT cU d σ ι).length = 12 := rfl
  rw [List.set_append_right _ _ (by rw [hl]; omega), hl, Nat.add_sub_cancel, ← hb, h2]
theorem tref_4 {v : Int} (h : ¬ σ 4 k = -1) (hv : ¬ v = -1) (j : Int) : tref (su σ 4 k v) ι j = tref σ ι j := by
  unfold tref
  show (if fu (σ 4) k v j = -1 then _ else _) = _
  by_cases e : j = k
  · subst e
    rw [fu_s, if_neg h, if_neg hv]
  · rw [fu_n _ _ e]
theorem sb_n {σ' : St} (h0 : σ' 0 = σ 0) (h1 : σ' 1 = σ 1) (h2 : σ' 2 = σ 2) (h3 : σ' 3 = σ 3) (h8 : σ' 8 = σ 8) (h9 : σ' 9 = σ 9) (h4 : ∀ j, tref σ' ι j = tref σ ι j) : SB cI cT cU d σ ι = SB cI cT cU d σ' ι := by
  have e : ∀ r : Int, trow σ' ι r = trow σ ι r := fun r => funext fun j => by unfold trow; rw [h4]
  unfold SB SO
  rw [e 0, e 1, e 2, e 3, e 4, h0, h1, h2, h3, h8, h9]
theorem tfs_o {σ' : St} {j : Int} (h4 : σ' 4 j = σ 4 j) (h5 : σ' 5 j = σ 5 j) (h6 : σ' 6 j = σ 6 j) (h7 : σ' 7 j = σ 7 j) : tfs σ' j = tfs σ j := by
  unfold tfs
  rw [h4, h5, h6, h7]
theorem tref_o {σ' : St} (h4 : σ' 4 = σ 4) (j : Int) : tref σ' ι j = tref σ ι j := by
  unfold tref
  rw [h4]
theorem sw_put5 {v : Int} (h : ¬ σ 4 k = -1) (h0 : 0 ≤ k) (h1 : k < 40) : (SW cI cT cU d σ ι).set (spos σ ι k) ((ι k).toNat, .inr (3, (tfs σ k).set 0 (.int (iI v)))) = SW cI cT cU d (su σ 5 k v) ι := by
  obtain ⟨σ', hσ⟩ : ∃ z, z = su σ 5 k v := ⟨_, rfl⟩
  have e0 : σ' 0 = σ 0 := by rw [hσ]; rfl
  have e1 : σ' 1 = σ 1 := by rw [hσ]; rfl
  have e2 : σ' 2 = σ 2 := by rw [hσ]; rfl
  have e3 : σ' 3 = σ 3 := by rw [hσ]; rfl
  have e4 : σ' 4 = σ 4 := by rw [hσ]; rfl
  have e8 : σ' 8 = σ 8 := by rw [hσ]; rfl
  have e9 : σ' 9 = σ 9 := by rw [hσ]; rfl
  have e6 : σ' 6 = σ 6 := by rw [hσ]; rfl
  have e7 : σ' 7 = σ 7 := by rw [hσ]; rfl
  have ek : σ' 5 k = v := by rw [hσ]; exact fu_s _ _ _
  have eo : ∀ j : Int, j ≠ k → σ' 5 j = σ 5 j := fun j hj => by rw [hσ]; exact fu_n _ _ hj
  rw [← hσ]
  have e : (tfs σ k).set 0 (.int (iI v)) = tfs σ' k := by
    unfold tfs
    rw [ek, e4, e6, e7]
    rfl
  rw [e]
  exact sw_set h (by rw [e4]; exact h) h0 h1 (fun j hj => ⟨by rw [e4], tfs_o (by rw [e4]) (eo j hj) (by rw [e6]) (by rw [e7])⟩) (sb_n e0 e1 e2 e3 e8 e9 (tref_o e4)) rfl
theorem sw_put6 {v : Int} (h : ¬ σ 4 k = -1) (h0 : 0 ≤ k) (h1 : k < 40) : (SW cI cT cU d σ ι).set (spos σ ι k) ((ι k).toNat, .inr (3, (tfs σ k).set 1 (.int (iI v)))) = SW cI cT cU d (su σ 6 k v) ι := by
  obtain ⟨σ', hσ⟩ : ∃ z, z = su σ 6 k v := ⟨_, rfl⟩
  have e0 : σ' 0 = σ 0 := by rw [hσ]; rfl
  have e1 : σ' 1 = σ 1 := by rw [hσ]; rfl
  have e2 : σ' 2 = σ 2 := by rw [hσ]; rfl
  have e3 : σ' 3 = σ 3 := by rw [hσ]; rfl
  have e4 : σ' 4 = σ 4 := by rw [hσ]; rfl
  have e8 : σ' 8 = σ 8 := by rw [hσ]; rfl
  have e9 : σ' 9 = σ 9 := by rw [hσ]; rfl
  have e5 : σ' 5 = σ 5 := by rw [hσ]; rfl
  have e7 : σ' 7 = σ 7 := by rw [hσ]; rfl
  have ek : σ' 6 k = v := by rw [hσ]; exact fu_s _ _ _
  have eo : ∀ j : Int, j ≠ k → σ' 6 j = σ 6 j := fun j hj => by rw [hσ]; exact fu_n _ _ hj
  rw [← hσ]
  have e : (tfs σ k).set 1 (.int (iI v)) = tfs σ' k := by
    unfold tfs
    rw [ek, e4, e5, e7]
    rfl
  rw [e]
  exact sw_set h (by rw [e4]; exact h) h0 h1 (fun j hj => ⟨by rw [e4], tfs_o (by rw [e4]) (by rw [e5]) (eo j hj) (by rw [e7])⟩) (sb_n e0 e1 e2 e3 e8 e9 (tref_o e4)) rfl
theorem sw_put7 {v : Int} (h : ¬ σ 4 k = -1) (h0 : 0 ≤ k) (h1 : k < 40) : (SW cI cT cU d σ ι).set (spos σ ι k) ((ι k).toNat, .inr (3, (tfs σ k).set 3 (.int (iI v)))) = SW cI cT cU d (su σ 7 k v) ι := by
  obtain ⟨σ', hσ⟩ : ∃ z, z = su σ 7 k v := ⟨_, rfl⟩
  have e0 : σ' 0 = σ 0 := by rw [hσ]; rfl
  have e1 : σ' 1 = σ 1 := by rw [hσ]; rfl
  have e2 : σ' 2 = σ 2 := by rw [hσ]; rfl
  have e3 : σ' 3 = σ 3 := by rw [hσ]; rfl
  have e4 : σ' 4 = σ 4 := by rw [hσ]; rfl
  have e8 : σ' 8 = σ 8 := by rw [hσ]; rfl
  have e9 : σ' 9 = σ 9 := by rw [hσ]; rfl
  have e5 : σ' 5 = σ 5 := by rw [hσ]; rfl
  have e6 : σ' 6 = σ 6 := by rw [hσ]; rfl
  have ek : σ' 7 k = v := by rw [hσ]; exact fu_s _ _ _
  have eo : ∀ j : Int, j ≠ k → σ' 7 j = σ 7 j := fun j hj => by rw [hσ]; exact fu_n _ _ hj
  rw [← hσ]
  have e : (tfs σ k).set 3 (.int (iI v)) = tfs σ' k := by
    unfold tfs
    rw [ek, e4, e5, e6]
    rfl
  rw [e]
  exact sw_set h (by rw [e4]; exact h) h0 h1 (fun j hj => ⟨by rw [e4], tfs_o (by rw [e4]) (by rw [e5]) (by rw [e6]) (eo j hj)⟩) (sb_n e0 e1 e2 e3 e8 e9 (tref_o e4)) rfl
theorem sw_put4 {v : Int} (hv : ¬ v = -1) (h : ¬ σ 4 k = -1) (h0 : 0 ≤ k) (h1 : k < 40) : (SW cI cT cU d σ ι).set (spos σ ι k) ((ι k).toNat, .inr (3, (tfs σ k).set 2 (.int (iI v)))) = SW cI cT cU d (su σ 4 k v) ι := by
  obtain ⟨σ', hσ⟩ : ∃ z, z = su σ 4 k v := ⟨_, rfl⟩
  have e0 : σ' 0 = σ 0 := by rw [hσ]; rfl
  have e1 : σ' 1 = σ 1 := by rw [hσ]; rfl
  have e2 : σ' 2 = σ 2 := by rw [hσ]; rfl
  have e3 : σ' 3 = σ 3 := by rw [hσ]; rfl
  have e5 : σ' 5 = σ 5 := by rw [hσ]; rfl
  have e6 : σ' 6 = σ 6 := by rw [hσ]; rfl
  have e7 : σ' 7 = σ 7 := by rw [hσ]; rfl
  have e8 : σ' 8 = σ 8 := by rw [hσ]; rfl
  have e9 : σ' 9 = σ 9 := by rw [hσ]; rfl
  have ek : σ' 4 k = v := by rw [hσ]; exact fu_s _ _ _
  have eo : ∀ j : Int, j ≠ k → σ' 4 j = σ 4 j := fun j hj => by rw [hσ]; exact fu_n _ _ hj
  have et : ∀ j, tref σ' ι j = tref σ ι j := fun j => by rw [hσ]; exact tref_4 h hv j
  rw [← hσ]
  have e : (tfs σ k).set 2 (.int (iI v)) = tfs σ' k := by
    unfold tfs
    rw [ek, e5, e6, e7]
    rfl
  rw [e]
  exact sw_set h (by rw [ek]; exact hv) h0 h1 (fun j hj => ⟨eo j hj, tfs_o (eo j hj) (by rw [e5]) (by rw [e6]) (by rw [e7])⟩) (sb_n e0 e1 e2 e3 e8 e9 et) rfl
theorem sw_row {r : Int} (h0 : 0 ≤ r) (h1 : r < 5) : (SW cI cT cU d σ ι)[r.toNat + 7]? = some (d (r.toNat + 7), rQ cT 8 (trow σ ι r)) := by
  rcases (show r = 0 ∨ r = 1 ∨ r = 2 ∨ r = 3 ∨ r = 4 by omega) with rfl | rfl | rfl | rfl | rfl <;> rfl
/-! a tree felled: its cell is no longer of the world -/
theorem va_mem {D : va_G} {cl : List vw_C} {H : Heap} {w w' : va_W} (hP : va_P D cl w H) (h : ∀ q ∈ w', q ∈ w) : va_P D cl w' H := fun i q hi => by
  obtain ⟨j, hj⟩ := List.getElem?_of_mem (h q (List.mem_of_getElem? hi))
  exact hP j q hj
theorem va_Dn {A : Nat → Prop} {w : va_W} (hD : va_D A w) : (w.map Prod.fst).Nodup := by
  rw [List.nodup_iff_pairwise_ne, List.pairwise_iff_getElem]
  intro i j hi hj hij e
  rw [List.length_map] at hi hj
  rw [List.getElem_map, List.getElem_map] at e
  have := hD.1 i j _ _ (List.getElem?_eq_getElem hi) (List.getElem?_eq_getElem hj) e
  omega
theorem va_Do {A : Nat → Prop} {w : va_W} (h : (w.map Prod.fst).Nodup) (hA : ∀ q ∈ w, A q.1) : va_D A w := by
  refine ⟨fun i j p q hi hj e => ?_, fun i q hi => hA q (List.mem_of_getElem? hi)⟩
  obtain ⟨li, ei⟩ := List.getElem?_eq_some_iff.mp hi
  obtain ⟨lj, ej⟩ := List.getElem?_eq_some_iff.mp hj
  rw [List.nodup_iff_pairwise_ne, List.pairwise_iff_getElem] at h
  have key : ∀ (a b : Nat) (ha : a < w.length) (hb : b < w.length), a < b → w[a].1 ≠ w[b].1 := fun a b ha hb hab => by
    have := h a b (by rw [List.length_map]; exact ha) (by rw [List.length_map]; exact hb) hab
    rwa [List.getElem_map, List.getElem_map] at this
  rcases Nat.lt_trichotomy i j with g | g | g
  · exact absurd (by rw [ei, ej]; exact e) (key i j li lj g)
  · exact g
  · exact absurd (by rw [ei, ej]; exact e.symm) (key j i lj li g)
theorem va_Ds {A : Nat → Prop} {w w' : va_W} (hD : va_D A w) (h : w'.Sublist w) : va_D A w' :=
  va_Do ((h.map Prod.fst).nodup (va_Dn hD)) (fun q hq => by
    obtain ⟨j, hj⟩ := List.getElem?_of_mem (List.Sublist.mem hq h)
    exact hD.2 j q hj)
theorem va_Dp {A : Nat → Prop} {w w' : va_W} (hD : va_D A w) (h : w'.Perm w) : va_D A w' :=
  va_Do ((List.Perm.nodup_iff (h.map Prod.fst)).mpr (va_Dn hD)) (fun q hq => by
    obtain ⟨j, hj⟩ := List.getElem?_of_mem (h.mem_iff.mp hq)
    exact hD.2 j q hj)
end SWL
