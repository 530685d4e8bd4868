/-! what holds when the orchard is built; the class's world by what it looks at -/
def bLv (σ : St) : Prop := xWF σ ∧ zWF σ ∧ (∀ j, σ 2 j ≤ 60000) ∧ σ 9 0 ≤ 20
theorem XW_k {cI cZ : ClassId} {d : Nat → Nat} {σ κ K : St} (e0 : K 0 = κ 0) (e1 : K 1 = κ 1) : XW cI cZ d σ K = XW cI cZ d σ κ := by
  unfold XW
  rw [e0, e1]
theorem zWF_I : zWF σI := fun _ _ => ⟨rfl, rfl, rfl⟩
theorem xWF_I : xWF σI := by
  refine ⟨fun j => ?_, fun j => ?_, fun j => ?_, fun j => ?_, fun j => ?_, fun j => ?_, fun j => ?_, fun j => ?_, fun j => ?_, ?_⟩
  · show (1 : Int) ≤ 3 ∧ (3 : Int) ≤ 9; decide
  · show (0 : Int) ≤ 4 ∧ (4 : Int) ≤ 9; decide
  · show (0 : Int) ≤ 0 ∧ (0 : Int) ≤ 100000000; decide
  · show (0 : Int) ≤ 0 ∧ (0 : Int) ≤ 9; decide
  · show (-1 : Int) ≤ -1 ∧ (-1 : Int) ≤ 5; decide
  · show (0 : Int) ≤ 0 ∧ (0 : Int) ≤ 9; decide
  · show (0 : Int) ≤ 0 ∧ (0 : Int) ≤ 9; decide
  · show (0 : Int) ≤ 0 ∧ (0 : Int) ≤ 1; decide
  · show (0 : Int) ≤ 20 ∧ (20 : Int) ≤ 20; decide
  · show (0 : Int) ≤ 0 ∧ (0 : Int) ≤ 100000000; decide
def bK (σ κ : St) (ι : Int → Int) (ds : Nat → Nat) : St := fun a i => if a = 2 then ι i else if a = 3 then ((ds i.toNat : Nat) : Int) else if a < 2 then κ a i else σ (a - 10) i
theorem bK_σ (σ κ : St) (ι : Int → Int) (ds : Nat → Nat) : (fun a => bK σ κ ι ds (a + 10)) = σ := by
  funext a i
  show (if a + 10 = 2 then _ else if a + 10 = 3 then _ else if a + 10 < 2 then _ else σ (a + 10 - 10) i) = _
  rw [if_neg (by omega), if_neg (by omega), if_neg (by omega), Nat.add_sub_cancel]
theorem bK_d (σ κ : St) (ι : Int → Int) (ds : Nat → Nat) : (fun i : Nat => (bK σ κ ι ds 3 (i : Int)).toNat) = ds := funext fun _ => rfl
