/-! new objects -/
def zS : St := fun _ _ => 0
def dK (a : Nat) (κ : St) : Nat → Nat := fun i => if i = 0 then a else (κ i 0).toNat
def mZN : St := su (su (su zS 5 0 20) 5 1 20) 5 2 0
def μI : St := sr (sr mZN 0 (fun _ => 3)) 1 (fun _ => 4)
def σI : St := sr (sr (sr (sr zS 0 (fun _ => 3)) 1 (fun _ => 4)) 4 (fun _ => -1)) 8 (fun _ => 20)
def flt (v i : Int) : Int → Int := fun j => if 0 ≤ j ∧ j < i then v else 0
theorem flt_z (v : Int) : flt v 0 = fun _ => 0 := by
  funext j
  unfold flt
  rw [if_neg (by omega)]
theorem flt_n (v : Int) {i : Int} (h : 0 ≤ i) : fu (flt v i) i v = flt v (i + 1) := by
  funext j
  unfold fu flt
  by_cases hj : j = i
  · rw [if_pos hj, if_pos (by omega)]
  · rw [if_neg hj]
    by_cases h2 : 0 ≤ j ∧ j < i
    · rw [if_pos h2, if_pos (by omega)]
    · rw [if_neg h2, if_neg (by omega)]
theorem flt_in {v : Int} {n : Nat} {j : Int} (h0 : 0 ≤ j) (h1 : j < (n : Int)) : flt v (n : Int) j = v := by
  unfold flt
  rw [if_pos ⟨h0, h1⟩]
theorem flt_0 : mZN = sr (sr mZN 0 (flt 3 0)) 1 (flt 4 0) := by
  rw [flt_z, flt_z]
  funext a
  unfold sr
  by_cases h1 : a = 1
  · subst h1; rfl
  · rw [if_neg h1]
    by_cases h0 : a = 0
    · subst h0; rfl
    · rw [if_neg h0]
theorem flt_s {i : Int} (h : 0 ≤ i) : su (su (sr (sr mZN 0 (flt 3 i)) 1 (flt 4 i)) 0 i 3) 1 i 4 = sr (sr mZN 0 (flt 3 (i + 1))) 1 (flt 4 (i + 1)) := by
  rw [← flt_n 3 h, ← flt_n 4 h]
  funext a
  unfold su sr
  by_cases h1 : a = 1
  · subst h1; rfl
  · rw [if_neg h1, if_neg h1]
    by_cases h0 : a = 0
    · subst h0; rfl
    · simp [h0, h1]
theorem dfX0 : ∀ j, j < 4 → defaultValue (tyX0 j) = vp_V [.int (iI (zS 0 0)), .int (iI (zS 0 1)), .int (iI (zS 0 2)), .int (iI (zS 0 3))] j := by
  intro j hj
  rcases (show j = 0 ∨ j = 1 ∨ j = 2 ∨ j = 3 by omega) with rfl | rfl | rfl | rfl <;> rfl
