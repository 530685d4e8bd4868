/-! the works, carrying and passing keep it -/
theorem Lv_bo {n : Nat} {σ μ σ' : St} (h : Lv n σ μ) {r p w i v : Int} (hp : 0 ≤ p ∧ p ≤ 7) (hw : 0 ≤ w ∧ w ≤ 3) (ha : mArg w i v) (hr : rel σ' (mBo (mZ μ) r p w i v)) (hx : xWF σ') : Lv (n + 1) σ' (mBo (mZ μ) r p w i v) :=
  Lv_k h hr hx (mWF_bo (mWF_6 h.2.1 0 0) hp hw ha) (fun j => by rw [mBo_r _ _ _ _ _ _ 4 (by decide) (by decide)]; exact Int.le_refl _) (mBo_52 _ _ _ _ _ hp)
theorem Lv_plant {n : Nat} {σ μ : St} (h : Lv n σ μ) (r p a v : Int) : Lv (n + 1) (pk (tPlant r p a v) (xPlant (xPlant σ (r * 8 + p) a v) (mir (r * 8 + p)) a v) σ) (mRes (tPlant r p a v) (mBo (mZ μ) r p 0 a v) μ) := by
  refine Lv_t h _ (fun ht => ?_)
  unfold tPlant at ht
  have hc : (0 ≤ p ∧ p ≤ 7) ∧ (0 ≤ a ∧ a ≤ 5) ∧ 1 ≤ v ∧ v ≤ 9 := by
    split at ht
    · omega
    · split at ht <;> omega
  exact Lv_bo h hc.1 (by decide) (by unfold mArg; omega) (rel_plant (rel_z h.2.2.1 0) hc.1 hc.2.1.1).2 (xWF_plant (xWF_plant h.1 hc.2.1 hc.2.2) hc.2.1 hc.2.2)
theorem Lv_prune {n : Nat} {σ μ : St} (h : Lv n σ μ) (r p c : Int) : Lv (n + 1) (pk (tPrune r p c) (xPrune (xPrune σ (r * 8 + p) c) (mir (r * 8 + p)) c) σ) (mRes (tPrune r p c) (mBo (mZ μ) r p 1 c 0) μ) := by
  refine Lv_t h _ (fun ht => ?_)
  unfold tPrune at ht
  have hc : (0 ≤ p ∧ p ≤ 7) ∧ 1 ≤ c ∧ c ≤ 9 := by
    split at ht
    · omega
    · split at ht <;> omega
  exact Lv_bo h hc.1 (by decide) (by unfold mArg; omega) (rel_prune (rel_z h.2.2.1 0) hc.1).2 (xWF_prune (xWF_prune h.1 hc.2.1) hc.2.1)
theorem Lv_graft {n : Nat} {σ μ : St} (h : Lv n σ μ) (r p a : Int) : Lv (n + 1) (pk (tGraft r p a) (xGraft (xGraft σ (r * 8 + p) a) (mir (r * 8 + p)) a) σ) (mRes (tGraft r p a) (mBo (mZ μ) r p 2 a 0) μ) := by
  refine Lv_t h _ (fun ht => ?_)
  unfold tGraft at ht
  have hc : (0 ≤ p ∧ p ≤ 7) ∧ 0 ≤ a ∧ a ≤ 5 := by
    split at ht
    · omega
    · split at ht <;> omega
  exact Lv_bo h hc.1 (by decide) (by unfold mArg; omega) (rel_graft (rel_z h.2.2.1 0) hc.1 hc.2.1).2 (xWF_graft (xWF_graft h.1 hc.2) hc.2)
theorem Lv_fell {n : Nat} {σ μ : St} (h : Lv n σ μ) (r p : Int) : Lv (n + 1) (pk (tFell r p) (xFell (xFell σ (r * 8 + p)) (mir (r * 8 + p))) σ) (mRes (tFell r p) (mBo (mZ μ) r p 3 0 0) μ) := by
  refine Lv_t h _ (fun ht => ?_)
  unfold tFell at ht
  have hc : 0 ≤ p ∧ p ≤ 7 := by
    split at ht <;> omega
  exact Lv_bo h hc (by decide) (by unfold mArg; omega) (rel_fell (rel_z h.2.2.1 0) hc).2 (xWF_fell (xWF_fell h.1))
theorem Lv_carry {n : Nat} {σ μ : St} (h : Lv n σ μ) (a x y : Int) : Lv (n + 1) (pk (tCarry σ a x y) (xCarry σ a x y) σ) (mRes (mtCarry μ a x y) (su (su (mZ μ) 4 a (μ 4 a - (x + y))) 6 1 (μ 6 1 + μ 0 a * (x - y))) μ) := by
  rw [t_carry h.2.2.1]
  refine Lv_t h _ (fun ht => ?_)
  have w2 := xWF_2 h.1 a
  have e4 : μ 4 a = σ 2 a := by rw [h.2.2.1.1.2.2.2]
  unfold tCarry at ht
  have hc : 0 ≤ x ∧ 0 ≤ y ∧ x + y ≤ σ 2 a := by
    split at ht
    · omega
    · split at ht
      · omega
      · split at ht <;> omega
  refine Lv_k h (rel_carry h.2.2.1 a x y) (xWF_s91 (xWF_s2 h.1 (by omega))) (mWF_6 (mWF_s4 (mWF_6 h.2.1 0 0) (by omega)) 1 _) (fun j => ?_) rfl
  show fu (μ 4) a (μ 4 a - (x + y)) j ≤ μ 4 j
  unfold fu
  split
  · rename_i e
    rw [e]
    omega
  · exact Int.le_refl _
theorem Lv_passed {n : Nat} {σ μ : St} (h : Lv n σ μ) (hn : n ≤ 512) (y : Int) : Lv (n + 1) (pk (tPass y) (xPass σ y) σ) (mRes (tPass y) (yrS (mZ μ) y.toNat) μ) := by
  refine Lv_t h _ (fun ht => ?_)
  unfold tPass at ht
  exact Lv_pass h hn (by split at ht <;> omega)
