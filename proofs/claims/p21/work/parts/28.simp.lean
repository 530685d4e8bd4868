/-! the law's own counting and its year, in words -/
def sB (σ : St) (j : Int) : Int := if σ 4 j = -1 then 0 else σ 5 j
def sT (σ : St) (j : Int) : Int := if σ 4 j = -1 then 0 else bI (¬ σ 7 j = 0)
theorem lv_1 (σ : St) (v h b t : Int) : lvB σ v h b t 1 = yb v (σ 3 (σ 9 0 % 10)) h b ∧ lvT σ v h b t 1 = bI (20 ≤ yap v (σ 3 (σ 9 0 % 10)) h b t) ∧ lvS σ v h b t 1 = yap v (σ 3 (σ 9 0 % 10)) h b t := by
  obtain ⟨h1, h2, h3⟩ := lv_step σ v h b t (y := 0) (Int.le_refl _)
  have ef : fr σ 0 = σ 3 (σ 9 0 % 10) := by unfold fr; rw [Int.add_zero]
  have e0 : lvB σ v h b t 0 = b := rfl
  have e1 : lvT σ v h b t 0 = t := rfl
  have e2 : lvS σ v h b t 0 = 0 := rfl
  rw [ef, e0] at h1 h2 h3
  rw [e1] at h2 h3
  rw [e2, Int.zero_add, Int.zero_add] at h3
  exact ⟨h1, h2, h3⟩
section PS
variable {S : St} {K q x x1 t w : Int}
theorem ps_55 {T : St} {y : Int} : su (su T 5 K x) 5 K y = su T 5 K y := by
  funext a
  unfold su
  by_cases h : a = 5
  · subst h
    simp only [if_true]
    funext j
    unfold fu
    split <;> rfl
  · simp [h]
theorem ps_1 : su (su (su (su S 5 K x1) 2 q w) 7 K t) 5 K x = su (su (su S 5 K x) 7 K t) 2 q w := by
  funext a
  by_cases h5 : a = 5
  · subst h5
    funext j
    show fu (fu (S 5) K x1) K x j = fu (S 5) K x j
    unfold fu
    split <;> rfl
  · by_cases h7 : a = 7
    · subst h7; rfl
    · by_cases h2 : a = 2
      · subst h2; rfl
      · simp [su, h5, h7, h2]
theorem ps_2 : su (su (su S 2 q w) 7 K t) 5 K x = su (su (su S 5 K x) 7 K t) 2 q w := by
  funext a
  by_cases h5 : a = 5
  · subst h5; rfl
  · by_cases h7 : a = 7
    · subst h7; rfl
    · by_cases h2 : a = 2
      · subst h2; rfl
      · simp [su, h5, h7, h2]
theorem ps_3 : su (su (su S 5 K x) 2 q w) 7 K t = su (su (su S 5 K x) 7 K t) 2 q w := by
  funext a
  by_cases h5 : a = 5
  · subst h5; rfl
  · by_cases h7 : a = 7
    · subst h7; rfl
    · by_cases h2 : a = 2
      · subst h2; rfl
      · simp [su, h5, h7, h2]
theorem ps_4 (hx : x = S 5 K) : su (su S 2 q w) 7 K t = su (su (su S 5 K x) 7 K t) 2 q w := by
  subst hx
  funext a
  by_cases h5 : a = 5
  · subst h5
    funext j
    show S 5 j = fu (S 5) K (S 5 K) j
    unfold fu
    split
    · rename_i e; rw [e]
    · rfl
  · by_cases h7 : a = 7
    · subst h7; rfl
    · by_cases h2 : a = 2
      · subst h2; rfl
      · simp [su, h5, h7, h2]
end PS
theorem ps_p {S : St} {K : Int} {B T L : Int} (eB : lvB S (S 6 K) (lkh S K) (S 5 K) (S 7 K) 1 = B) (eT : lvT S (S 6 K) (lkh S K) (S 5 K) (S 7 K) 1 = T) (eL : lvS S (S 6 K) (lkh S K) (S 5 K) (S 7 K) 1 = L) : su (su (su S 5 K B) 7 K T) 2 (S 4 K) (S 2 (S 4 K) + L) = xPassA S K 1 := by
  unfold xPassA
  rw [eB, eT, eL]
theorem sw_8 {cI cT cU : ClassId} {d : Nat → Nat} {σ : St} {ι g : Int → Int} : (SW cI cT cU d σ ι).set 6 (d 6, aI cI 2 g) = SW cI cT cU d (sr σ 8 g) ι := by
  obtain ⟨σ', hσ⟩ : ∃ z, z = sr σ 8 g := ⟨_, rfl⟩
  have e0 : σ' 0 = σ 0 := by rw [hσ]; rfl
  have e1 : σ' 1 = σ 1 := by rw [hσ]; rfl
  have e2 : σ' 2 = σ 2 := by rw [hσ]; rfl
  have e3 : σ' 3 = σ 3 := by rw [hσ]; rfl
  have e4 : σ' 4 = σ 4 := by rw [hσ]; rfl
  have e5 : σ' 5 = σ 5 := by rw [hσ]; rfl
  have e6 : σ' 6 = σ 6 := by rw [hσ]; rfl
  have e7 : σ' 7 = σ 7 := by rw [hσ]; rfl
  have e8 : σ' 8 = g := by rw [hσ]; rfl
  have e9 : σ' 9 = σ 9 := by rw [hσ]; rfl
  rw [← hσ]
  have e : ∀ r : Int, trow σ' ι r = trow σ ι r := fun r => funext fun j => by unfold trow; rw [tref_o e4]
  have es : ST σ' ι 40 = ST σ ι 40 := ST_congr 40 (fun j _ => ⟨by rw [e4], tfs_o (by rw [e4]) (by rw [e5]) (by rw [e6]) (by rw [e7]), fun _ => rfl⟩)
  unfold SW
  rw [es]
  unfold SB SO
  rw [e 0, e 1, e 2, e 3, e 4, e0, e1, e2, e3, e8, e9]
  rfl
theorem xPass_e {S : St} {y : Int} : sr (su (su (su S 8 0 20) 8 1 20) 9 0 y) 8 (fun _ => 20) = sr (su S 9 0 y) 8 (fun _ => 20) := by
  funext a
  unfold sr
  by_cases h8 : a = 8
  · simp [h8]
  · by_cases h9 : a = 9
    · subst h9; rfl
    · simp [su, h8, h9]
