/-! both answer alike, in the forms that the law compares -/
section LE
variable {n : Nat} {σ μ : St}
theorem eq_setSort (h : Lv n σ μ) (a w b : Int) : 10 * σ 0 a + σ 1 a = 10 * μ 0 a + μ 1 a := by
  rw [h.2.2.1.1.1, h.2.2.1.1.2.1]
theorem eq_setFrost (h : Lv n σ μ) (a b : Int) : σ 3 a = μ 2 a := by
  rw [h.2.2.1.1.2.2.1]
theorem eq_plant (h : Lv n σ μ) (r p a v : Int) (ht : tPlant r p a v = 0) : who (plA σ (r * 8 + p)) (plA (xPlant σ (r * 8 + p) a v) (mir (r * 8 + p))) = mBoA (mZ μ) r p 0 a v := by
  unfold tPlant at ht
  have hc : (0 ≤ p ∧ p ≤ 7) ∧ (0 ≤ a ∧ a ≤ 5) ∧ 1 ≤ v ∧ v ≤ 9 := by
    split at ht
    · omega
    · split at ht <;> omega
  exact (rel_plant (rel_z h.2.2.1 0) hc.1 hc.2.1.1).1.symm
theorem eq_prune (h : Lv n σ μ) (r p c : Int) (ht : tPrune r p c = 0) : who (prA σ (r * 8 + p) c) (prA (xPrune σ (r * 8 + p) c) (mir (r * 8 + p)) c) = mBoA (mZ μ) r p 1 c 0 := by
  unfold tPrune at ht
  have hc : 0 ≤ p ∧ p ≤ 7 := by
    split at ht <;> omega
  exact (rel_prune (rel_z h.2.2.1 0) hc).1.symm
theorem eq_graft (h : Lv n σ μ) (r p a : Int) (ht : tGraft r p a = 0) : who (grA σ (r * 8 + p) a) (grA (xGraft σ (r * 8 + p) a) (mir (r * 8 + p)) a) = mBoA (mZ μ) r p 2 a 0 := by
  unfold tGraft at ht
  have hc : (0 ≤ p ∧ p ≤ 7) ∧ 0 ≤ a ∧ a ≤ 5 := by
    split at ht
    · omega
    · split at ht <;> omega
  exact (rel_graft (rel_z h.2.2.1 0) hc.1 hc.2.1).1.symm
theorem eq_fell (h : Lv n σ μ) (r p : Int) (ht : tFell r p = 0) : who (feA σ (r * 8 + p)) (feA (xFell σ (r * 8 + p)) (mir (r * 8 + p))) = mBoA (mZ μ) r p 3 0 0 := by
  unfold tFell at ht
  have hc : 0 ≤ p ∧ p ≤ 7 := by
    split at ht <;> omega
  exact (rel_fell (rel_z h.2.2.1 0) hc).1.symm
theorem eq_tree (h : Lv n σ μ) (r p w : Int) (ht : tTree r p w = 0) : xTree σ (r * 8 + p) w = mTold μ (8 * r + p) w := by
  unfold tTree at ht
  have hc : 0 ≤ w ∧ w ≤ 5 := by
    split at ht <;> omega
  rw [show r * 8 + p = 8 * r + p by omega]
  exact (ask_tree h.2.2.1 h.1 (8 * r + p) hc).symm
theorem eq_sort (h : Lv n σ μ) (a w : Int) (ht : tSort a w = 0) : xSort σ a w = mSortT μ a w := by
  unfold tSort at ht
  have hc : 0 ≤ a ∧ 0 ≤ w ∧ w ≤ 3 := by
    split at ht <;> omega
  exact (ask_sort h.2.2.1 hc.1 hc.2).symm
theorem eq_count (h : Lv n σ μ) (w : Int) (ht : tCount w = 0) : xCount σ w = mCnt μ w := by
  unfold tCount at ht
  have hc : 0 ≤ w ∧ w ≤ 7 := by
    split at ht <;> omega
  exact (ask_count h.2.2.1 h.1 hc).symm
theorem eq_leans (h : Lv n σ μ) (r : Int) : xLeans σ r = mLean μ r := (ask_leans h.2.2.1 h.1 r).symm
theorem eq_carry (h : Lv n σ μ) (a x y : Int) : σ 2 a - (x + y) = μ 4 a - (x + y) := by
  rw [h.2.2.1.1.2.2.2]
theorem eq_pass (h : Lv n σ μ) (y : Int) (ht : tPass y = 0) : (xPs σ y 40).2 = yrA (mZ μ) y.toNat := by
  unfold tPass at ht
  have hc : 1 ≤ y := by
    split at ht <;> omega
  exact (rel_pass h.1 h.2.2.1 hc).2.symm
theorem eq_foresee (h : Lv n σ μ) (y w : Int) (ht : tForesee y w = 0) : xFore σ y w = mFore (mZ μ) y w := by
  unfold tForesee at ht
  have hc : 0 ≤ w ∧ w ≤ 2 := by
    split at ht
    · omega
    · split at ht <;> omega
  exact (ask_foresee h.1 (rel_z h.2.2.1 0) hc).symm
theorem eq_advise (h : Lv n σ μ) (y : Int) : (advO σ y 40).1 = (mvO (mZ μ) y 40).1 := (ask_advise h.1 (rel_z h.2.2.1 0) y).symm
theorem mBo_60 (μ : St) (r p w i v : Int) : mBo (mZ μ) r p w i v 6 0 = 0 := by
  rw [mBo_r _ _ _ _ _ _ 6 (by decide) (by decide)]
  rfl
theorem yrS_60 (μ : St) (y : Nat) : yrS (mZ μ) y 6 0 = 0 := by
  rw [yrS_r _ _ 6 (by decide) (by decide) (by decide)]
  rfl
end LE
theorem tR_setSort (a w b : Int) : inR (tSetSort a w b) := by
  unfold tSetSort inR
  repeat' split
  all_goals omega
theorem tR_setFrost (a b : Int) : inR (tSetFrost a b) := by
  unfold tSetFrost inR
  repeat' split
  all_goals omega
theorem tR_plant (r p a v : Int) : inR (tPlant r p a v) := by
  unfold tPlant inR
  repeat' split
  all_goals omega
theorem tR_prune (r p c : Int) : inR (tPrune r p c) := by
  unfold tPrune inR
  repeat' split
  all_goals omega
theorem tR_graft (r p a : Int) : inR (tGraft r p a) := by
  unfold tGraft inR
  repeat' split
  all_goals omega
theorem tR_fell (r p : Int) : inR (tFell r p) := by
  unfold tFell inR
  repeat' split
  all_goals omega
theorem tR_tree (r p w : Int) : inR (tTree r p w) := by
  unfold tTree inR
  repeat' split
  all_goals omega
theorem tR_sort (a w : Int) : inR (tSort a w) := by
  unfold tSort inR
  repeat' split
  all_goals omega
theorem tR_count (w : Int) : inR (tCount w) := by
  unfold tCount inR
  repeat' split
  all_goals omega
theorem tR_leans (r : Int) : inR (tLeans r) := by
  unfold tLeans inR
  repeat' split
  all_goals omega
theorem tR_carry (σ : St) (a x y : Int) : inR (tCarry σ a x y) := by
  unfold tCarry inR
  repeat' split
  all_goals omega
theorem tR_pass (y : Int) : inR (tPass y) := by
  unfold tPass inR
  repeat' split
  all_goals omega
theorem tR_foresee (y w : Int) : inR (tForesee y w) := by
  unfold tForesee inR
  repeat' split
  all_goals omega
theorem tR_advise (y : Int) : inR (tAdvise y) := by
  unfold tAdvise inR
  repeat' split
  all_goals omega
theorem pk_s {α : Type} (t : Int) (a : α) : pk t a a = a := ite_self _
