/-! what a new tree, a new orchard of the law's holds; one cell out of a world -/
theorem dfX3 : ∀ j, j < 4 → defaultValue (tyX3 j) = vp_V [.int 0, .int 0, .int 0, .int 0] j := by
  intro j hj
  rcases (show j = 0 ∨ j = 1 ∨ j = 2 ∨ j = 3 by omega) with rfl | rfl | rfl | rfl <;> rfl
theorem dfX2 : ∀ j, j < 8 → defaultValue (tyX2 j) = vp_V [.null, .null, .null, .null, .null, .null, .int 0, .int 0] j := by
  intro j hj
  rcases (show j = 0 ∨ j = 1 ∨ j = 2 ∨ j = 3 ∨ j = 4 ∨ j = 5 ∨ j = 6 ∨ j = 7 by omega) with rfl | rfl | rfl | rfl | rfl | rfl | rfl | rfl <;> rfl
theorem g_oneD {A : Nat → Prop} {w : va_W} {q0 : Nat} {x : Nat × va_E} (hD : va_D A w) (h : w[q0]? = some x) : va_D A [x] :=
  va_Do (by simp) (fun q hq => by
    rw [List.mem_singleton] at hq
    subst hq
    exact hD.2 q0 _ h)
theorem xPlant_y {σ : St} {s so v : Int} (h : σ 4 s = -1 ∧ 5 ≤ σ 8 (tw s)) : xPlant σ s so v = plaS (su σ 8 (tw s) (σ 8 (tw s) - 5)) s so v := if_pos h
theorem xPlant_n {σ : St} {s so v : Int} (h : ¬ (σ 4 s = -1 ∧ 5 ≤ σ 8 (tw s))) : xPlant σ s so v = σ := if_neg h
theorem xPrune_y {σ : St} {s c : Int} (h : ¬ σ 4 s = -1 ∧ c ≤ σ 5 s ∧ 2 ≤ σ 8 (tw s)) : xPrune σ s c = su (su (su σ 8 (tw s) (σ 8 (tw s) - 2)) 5 s (σ 5 s - c)) 7 s 0 := if_pos h
theorem xPrune_n {σ : St} {s c : Int} (h : ¬ (¬ σ 4 s = -1 ∧ c ≤ σ 5 s ∧ 2 ≤ σ 8 (tw s))) : xPrune σ s c = σ := if_neg h
theorem xGraft_y {σ : St} {s so v : Int} (h : ¬ σ 4 s = -1 ∧ ¬ σ 4 s = so ∧ 1 ≤ σ 5 s ∧ 4 ≤ σ 8 (tw s)) (hv : max 1 (σ 5 s / 2) = v) : xGraft σ s so = su (su (su σ 8 (tw s) (σ 8 (tw s) - 4)) 4 s so) 5 s v := by
  rw [← hv]
  exact if_pos h
theorem xGraft_n {σ : St} {s so : Int} (h : ¬ (¬ σ 4 s = -1 ∧ ¬ σ 4 s = so ∧ 1 ≤ σ 5 s ∧ 4 ≤ σ 8 (tw s))) : xGraft σ s so = σ := if_neg h
theorem xFell_y {σ : St} {s : Int} (h : ¬ σ 4 s = -1 ∧ 6 ≤ σ 8 (tw s)) : xFell σ s = felS (su σ 8 (tw s) (σ 8 (tw s) - 6)) s := if_pos h
theorem xFell_n {σ : St} {s : Int} (h : ¬ (¬ σ 4 s = -1 ∧ 6 ≤ σ 8 (tw s))) : xFell σ s = σ := if_neg h
