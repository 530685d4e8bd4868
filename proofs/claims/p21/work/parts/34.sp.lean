/-! what both tell at the end -/
def zWF (σ : St) : Prop := ∀ k, σ 4 k = -1 → σ 5 k = 0 ∧ σ 6 k = 0 ∧ σ 7 k = 0
def TR (σ : St) (j : Int) : Int := bI (¬ σ 4 j = -1)
def UP (σ : St) (r : Int) : Int := isumI (upr σ r) 4
def lnF (σ : St) (r q : Int) : Int := if q < 4 then apx σ (r * 8 + q) else -apx σ (r * 8 + q)
theorem told_n {σ : St} {K : Int} (h4 : σ 4 K = -1) (hz : zWF σ) : xTree σ K 0 = 0 ∧ xTree σ K 1 = 0 ∧ xTree σ K 2 = 0 ∧ xTree σ K 3 = -1 ∧ xTree σ K 4 = 0 ∧ xTree σ K 5 = 0 := by
  obtain ⟨z5, z6, z7⟩ := hz K h4
  refine ⟨bI_f (fun q => q h4), z5, z6, h4, bI_f (fun q => q z7), ?_⟩
  show apl (σ 6 K) (σ 5 K) (σ 7 K) = 0
  rw [z5, z6, z7]
  rfl
theorem told_y {σ : St} {K t : Int} (h4 : ¬ σ 4 K = -1) (ht : bI (¬ σ 7 K = 0) = t) : xTree σ K 0 = 1 ∧ xTree σ K 1 = σ 5 K ∧ xTree σ K 2 = σ 6 K ∧ xTree σ K 3 = σ 4 K ∧ xTree σ K 4 = t ∧ xTree σ K 5 = apl (σ 6 K) (σ 5 K) (σ 7 K) :=
  ⟨bI_t h4, rfl, rfl, rfl, ht, rfl⟩
theorem apxR {σ : St} (h : xWF σ) (s : Int) : 0 ≤ apx σ s ∧ apx σ s ≤ 81 := apl_in (xWF_6 h s) (xWF_5 h s)
theorem xTreeR {σ : St} (h : xWF σ) (s w : Int) : inR (xTree σ s w) := by
  have h1 := bIr (P := ¬ σ 4 s = -1)
  have h2 := bIr (P := ¬ σ 7 s = 0)
  have h3 := apxR h s
  have h4 := xWF_4 h s
  have h5 := xWF_5 h s
  have h6 := xWF_6 h s
  unfold xTree inR
  split
  · exact h1
  · split
    · omega
    · split
      · omega
      · split
        · omega
        · split
          · exact h2
          · omega
theorem isumB {P : Int → Prop} [DecidablePred P] {n : Int} (h : 0 ≤ n) : 0 ≤ isumI (fun j => bI (P j)) n ∧ isumI (fun j => bI (P j)) n ≤ n := by
  have := isumI_in (f := fun j => bI (P j)) (lo := 0) (hi := 1) (fun j => by rcases bI01 (P j) with h | h <;> rw [h] <;> decide) h
  omega
theorem xSortR {σ : St} (h : xWF σ) (s w : Int) : inR (xSort σ s w) := by
  have h0 := xWF_0 h s
  have h1 := xWF_1 h s
  have h2 := xWF_2 h s
  have h3 := isumB (P := fun j => σ 4 j = s) (n := 40) (by decide)
  unfold xSort inR
  split
  · omega
  · split
    · omega
    · split <;> omega
theorem uprR {σ : St} (r q : Int) : 0 ≤ upr σ r q ∧ upr σ r q ≤ 1 := by
  unfold upr
  rcases bI01 (¬ σ 4 (r * 8 + q) = σ 4 (mir (r * 8 + q)) ∨ ¬ σ 5 (r * 8 + q) = σ 5 (mir (r * 8 + q))) with h | h <;> rw [h] <;> decide
theorem upR {σ : St} (r : Int) : 0 ≤ UP σ r ∧ UP σ r ≤ 4 := by
  have := isumI_in (f := upr σ r) (lo := 0) (hi := 1) (fun j => uprR r j) (i := 4) (by decide)
  unfold UP
  omega
theorem xCountR {σ : St} (h : xWF σ) (hb : ∀ j, σ 2 j ≤ 200000) (w : Int) : inR (xCount σ w) := by
  have h9 := xWF_9 h
  have h80 := xWF_8 h 0
  have h81 := xWF_8 h 1
  have h3 := isumB (P := fun j => ¬ σ 4 j = -1) (n := 40) (by decide)
  have h4 := isumB (P := fun j => ¬ σ 7 j = 0) (n := 40) (by decide)
  have h5 := isumI_in (f := σ 2) (lo := 0) (hi := 200000) (fun j => ⟨(xWF_2 h j).1, hb j⟩) (i := 6) (by decide)
  have h6 := isumI_in (f := fun j => σ 2 j * σ 0 j) (lo := 0) (hi := 1800000) (fun j => by
    have a := xWF_2 h j
    have a2 := hb j
    have b := xWF_0 h j
    have c := Int.mul_nonneg a.1 (show 0 ≤ σ 0 j by omega)
    have e := Int.mul_le_mul_of_nonneg_left b.2 a.1
    exact ⟨c, by omega⟩) (i := 6) (by decide)
  have h7 := isumI_in (f := fun r => isumI (fun q => upr σ r q) 4) (lo := 0) (hi := 4) (fun r => upR r) (i := 5) (by decide)
  unfold xCount inR
  repeat' split
  all_goals omega
theorem xLeansR {σ : St} (h : xWF σ) (r : Int) : inR (xLeans σ r) := by
  have := isumI_in (f := fun q => apx σ (r * 8 + q) - apx σ (mir (r * 8 + q))) (lo := -81) (hi := 81) (fun q => by
    have a := apxR h (r * 8 + q)
    have b := apxR h (mir (r * 8 + q))
    omega) (i := 4) (by decide)
  unfold xLeans inR
  omega
theorem ln_e (σ : St) (r : Int) : isumI (lnF σ r) 8 = xLeans σ r := by
  have e : ∀ f : Int → Int, isumI f 8 = f 0 + f 1 + f 2 + f 3 + f 4 + f 5 + f 6 + f 7 := fun f => by
    show 0 + f 0 + f 1 + f 2 + f 3 + f 4 + f 5 + f 6 + f 7 = _
    omega
  have e4 : ∀ f : Int → Int, isumI f 4 = f 0 + f 1 + f 2 + f 3 := fun f => by
    show 0 + f 0 + f 1 + f 2 + f 3 = _
    omega
  have m0 : mir (r * 8 + 0) = r * 8 + 7 := by unfold mir; omega
  have m1 : mir (r * 8 + 1) = r * 8 + 6 := by unfold mir; omega
  have m2 : mir (r * 8 + 2) = r * 8 + 5 := by unfold mir; omega
  have m3 : mir (r * 8 + 3) = r * 8 + 4 := by unfold mir; omega
  unfold xLeans
  rw [e, e4, m0, m1, m2, m3]
  show apx σ (r * 8 + 0) + apx σ (r * 8 + 1) + apx σ (r * 8 + 2) + apx σ (r * 8 + 3) + -apx σ (r * 8 + 4) + -apx σ (r * 8 + 5) + -apx σ (r * 8 + 6) + -apx σ (r * 8 + 7) = _
  omega
theorem sT_e {σ : St} (hz : zWF σ) : isumI (sT σ) 40 = isumI (fun j => bI (¬ σ 7 j = 0)) 40 := by
  have : sT σ = fun j => bI (¬ σ 7 j = 0) := funext fun j => by
    unfold sT
    split
    · rename_i h
      exact (bI_f (fun q => q (hz j h).2.2)).symm
    · rfl
  rw [this]
theorem sB_e {σ : St} (hz : zWF σ) : isumI (sB σ) 40 = xBran σ := by
  have : sB σ = σ 5 := funext fun j => by
    unfold sB
    split
    · rename_i h
      exact ((hz j h).1).symm
    · rfl
  rw [this]
  rfl
def mdOk (a b : Nat) : Bool := FP.dcmp (FP.ddiv (FP.i2d (iI (a : Int))) (FP.i2d (iI (b : Int)))) (FP.ddiv (FP.i2d (iI (a : Int))) (FP.i2d (iI (b : Int)))) == some .eq
theorem md_all : (List.range 361).all (fun a => (List.range 40).all (fun b => mdOk a (b + 1))) = true := by decide +kernel
theorem md_ok {a b : Int} (ha : 0 ≤ a ∧ a ≤ 360) (hb : 1 ≤ b ∧ b ≤ 40) : FP.dcmp (FP.ddiv (FP.i2d (iI a)) (FP.i2d (iI b))) (FP.ddiv (FP.i2d (iI a)) (FP.i2d (iI b))) = some .eq := by
  have h1 := List.all_eq_true.mp md_all a.toNat (List.mem_range.mpr (by omega))
  have h2 := List.all_eq_true.mp h1 (b.toNat - 1) (List.mem_range.mpr (by omega))
  unfold mdOk at h2
  rw [show ((a.toNat : Nat) : Int) = a by omega, show (((b.toNat - 1 + 1 : Nat)) : Int) = b by omega] at h2
  exact eq_of_beq h2
theorem md_0 : FP.dcmp FP.dconst0 FP.dconst0 = some .eq := by decide +kernel
