/-! the law's own words: its tables, what is balanced, what a year does to each tree -/
def wB (σ : St) (k : Int) : Int := bI (¬ σ 4 k = -1)
def wD (σ : St) (k : Int) : Int := bI (¬ σ 7 k = 0)
theorem wB01 (σ : St) (k : Int) : 0 ≤ wB σ k ∧ wB σ k ≤ 1 := by
  unfold wB
  rcases bI01 (¬ σ 4 k = -1) with h | h <;> rw [h] <;> decide
theorem wD01 (σ : St) (k : Int) : 0 ≤ wD σ k ∧ wD σ k ≤ 1 := by
  unfold wD
  rcases bI01 (¬ σ 7 k = 0) with h | h <;> rw [h] <;> decide
theorem wB_n {σ : St} {k : Int} (h : σ 4 k = -1) : wB σ k = 0 := bI_f (fun q => q h)
theorem wB_y {σ : St} {k : Int} (h : ¬ σ 4 k = -1) : wB σ k = 1 := bI_t h
theorem wD_n {σ : St} {k : Int} (h : σ 7 k = 0) : wD σ k = 0 := bI_f (fun q => q h)
theorem tG_x {σ : St} {k : Int} (h : 0 ≤ k) (j : Int) : tG σ k.toNat j = xTree σ k j := by
  unfold tG
  rw [show ((k.toNat : Nat) : Int) = k by omega]
theorem tG_0 {σ : St} {k : Int} (h : 0 ≤ k) : tG σ k.toNat 0 = wB σ k := tG_x h 0
theorem tG_1 {σ : St} {k : Int} (h : 0 ≤ k) : tG σ k.toNat 1 = σ 5 k := tG_x h 1
theorem tG_2 {σ : St} {k : Int} (h : 0 ≤ k) : tG σ k.toNat 2 = σ 6 k := tG_x h 2
theorem tG_3 {σ : St} {k : Int} (h : 0 ≤ k) : tG σ k.toNat 3 = σ 4 k := tG_x h 3
theorem tG_4 {σ : St} {k : Int} (h : 0 ≤ k) : tG σ k.toNat 4 = wD σ k := tG_x h 4
theorem tGR {σ : St} (h : xWF σ) (i : Nat) (j : Int) : inR (tG σ i j) := xTreeR h _ _
def alB (σ : St) (r p : Int) : Int := bI (wB σ (r * 8 + p) = wB σ (r * 8 + (7 - p)) ∧ σ 5 (r * 8 + p) = σ 5 (r * 8 + (7 - p)) ∧ σ 4 (r * 8 + p) = σ 4 (r * 8 + (7 - p)))
theorem alB01 (σ : St) (r p : Int) : 0 ≤ alB σ r p ∧ alB σ r p ≤ 1 := by
  unfold alB
  rcases bI01 (wB σ (r * 8 + p) = wB σ (r * 8 + (7 - p)) ∧ σ 5 (r * 8 + p) = σ 5 (r * 8 + (7 - p)) ∧ σ 4 (r * 8 + p) = σ 4 (r * 8 + (7 - p))) with h | h <;> rw [h] <;> decide
theorem alB_e {σ : St} {r p : Int} (hr : 0 ≤ r ∧ r < 5) (hp : 0 ≤ p ∧ p < 8) : bI (tG σ (8 * r + p).toNat 0 = tG σ (8 * r + 7 - p).toNat 0 ∧ tG σ (8 * r + p).toNat 1 = tG σ (8 * r + 7 - p).toNat 1 ∧ tG σ (8 * r + p).toNat 3 = tG σ (8 * r + 7 - p).toNat 3) = alB σ r p := by
  unfold alB
  rw [show 8 * r + p = r * 8 + p by omega, show 8 * r + 7 - p = r * 8 + (7 - p) by omega]
  simp only [tG_0 (show 0 ≤ r * 8 + p by omega), tG_0 (show 0 ≤ r * 8 + (7 - p) by omega), tG_1 (show 0 ≤ r * 8 + p by omega), tG_1 (show 0 ≤ r * 8 + (7 - p) by omega), tG_3 (show 0 ≤ r * 8 + p by omega), tG_3 (show 0 ≤ r * 8 + (7 - p) by omega)]
theorem alB_1 {σ : St} {r p : Int} (h : alB σ r p = 1) : σ 4 (r * 8 + p) = σ 4 (r * 8 + (7 - p)) ∧ σ 5 (r * 8 + p) = σ 5 (r * 8 + (7 - p)) := by
  have := bI_1 h
  exact ⟨this.2.2, this.2.1⟩
theorem same_ok {σ τ : St} {k : Int} (hk : 0 ≤ k) (h : τ 4 k = σ 4 k ∧ τ 5 k = σ 5 k ∧ τ 6 k = σ 6 k ∧ τ 7 k = σ 7 k) : tG σ k.toNat 0 = tG τ k.toNat 0 ∧ tG σ k.toNat 1 = tG τ k.toNat 1 ∧ tG σ k.toNat 2 = tG τ k.toNat 2 ∧ tG σ k.toNat 3 = tG τ k.toNat 3 ∧ tG σ k.toNat 4 = tG τ k.toNat 4 := by
  obtain ⟨h4, h5, h6, h7⟩ := h
  rw [tG_0 hk, tG_0 hk, tG_1 hk, tG_1 hk, tG_2 hk, tG_2 hk, tG_3 hk, tG_3 hk, tG_4 hk, tG_4 hk]
  unfold wB wD
  rw [h4, h5, h6, h7]
  exact ⟨rfl, rfl, rfl, rfl, rfl⟩
/-- what the law asks of a tree that was worked at -/
def WB (σ τ : St) (k w : Int) : Prop := (w = 0 → wB σ k = 0 ∧ wB τ k = 1 ∧ τ 5 k = 1) ∧ (¬ w = 0 → wB σ k = 1) ∧ (w = 1 → τ 5 k < σ 5 k ∧ wD τ k = 0) ∧ (w = 2 → ¬ τ 4 k = σ 4 k ∧ 1 ≤ τ 5 k ∧ τ 5 k ≤ σ 5 k ∧ wD τ k = wD σ k) ∧ (w = 3 → wB τ k = 0)
theorem WB_of {σ τ : St} {k w : Int} (h : WP (σ 4 k) (σ 5 k) (σ 7 k) (τ 4 k) (τ 5 k) (τ 7 k) w) : WB σ τ k w := by
  obtain ⟨h0, h1, h2, h3, h4⟩ := h
  refine ⟨fun q => ⟨wB_n (h0 q).1, wB_y (h0 q).2.1, (h0 q).2.2⟩, fun q => wB_y (h1 q), fun q => ⟨(h2 q).1, wD_n (h2 q).2⟩, fun q => ⟨(h3 q).1, (h3 q).2.1, (h3 q).2.2.1, ?_⟩, fun q => wB_n (h4 q)⟩
  unfold wD
  rw [(h3 q).2.2.2]
/-! what is balanced -/
def evB (σ : St) : Int := isumI (fun j => σ 0 j * min 20 (σ 2 j)) 6 % 2
theorem hvy_le (F : Int → Int) : ∀ n : Nat, 0 ≤ hvy F n ∧ hvy F n ≤ n
  | 0 => ⟨Int.le_refl _, Int.le_refl _⟩
  | n + 1 => by
    have h := hvy_le F n
    unfold hvy
    split <;> omega
theorem bal_ok {σ : St} (h : xWF σ) : 0 ≤ evB σ ∧ evB σ ≤ 1 ∧ evB σ ≤ xBal σ ∧ xBal σ ≤ xCount σ 6 ∧ (xBal σ - evB σ) % 2 = 0 := by
  have e6 : ∀ f : Int → Int, isumI f 6 = f 0 + f 1 + f 2 + f 3 + f 4 + f 5 := fun f => by
    show 0 + f 0 + f 1 + f 2 + f 3 + f 4 + f 5 = _
    omega
  have eT : xBalT σ = isumI (fun j => σ 0 j * min 20 (σ 2 j)) 6 := by
    unfold xBalT bal
    rw [e6, e6]
    have hb : ∀ j, max 0 (min (σ 2 j) 20) * σ 0 j = σ 0 j * min 20 (σ 2 j) := fun j => by
      have := xWF_2 h j
      rw [show max 0 (min (σ 2 j) 20) = min 20 (σ 2 j) by omega, Int.mul_comm]
    simp only [hb]
  have hle : xBalT σ ≤ xCount σ 6 := by
    rw [eT]
    show isum _ 6 ≤ isum (fun j => σ 2 j * σ 0 j) 6
    refine isum_le 6 (fun j _ _ => ?_)
    have h0 := xWF_0 h j
    have h2 := xWF_2 h j
    show σ 0 j * min 20 (σ 2 j) ≤ σ 2 j * σ 0 j
    rw [Int.mul_comm (σ 2 j)]
    exact Int.mul_le_mul_of_nonneg_left (by omega) (by omega)
  have h0 : 0 ≤ xBalT σ := by
    rw [eT]
    have := isum_le (f := fun _ => 0) (g := fun j => σ 0 j * min 20 (σ 2 j)) 6 (fun j _ _ => by
      have h0 := xWF_0 h j
      have h2 := xWF_2 h j
      exact Int.mul_nonneg (by omega) (by omega))
    exact this
  have hh := hvy_le (hvFI σ 6) (min (xBalT σ / 2) 540).toNat
  have hv : 0 ≤ hvyI (hvFI σ 6) (min (xBalT σ / 2) 540) ∧ hvyI (hvFI σ 6) (min (xBalT σ / 2) 540) ≤ xBalT σ / 2 := by
    unfold hvyI
    omega
  have ev : evB σ = xBalT σ % 2 := by unfold evB; rw [eT]
  unfold xBal
  rw [ev]
  omega
theorem wgt_e (σ : St) : isumI (fun j => σ 0 j * σ 2 j) 6 = xCount σ 6 := by
  have e6 : ∀ f : Int → Int, isumI f 6 = f 0 + f 1 + f 2 + f 3 + f 4 + f 5 := fun f => by
    show 0 + f 0 + f 1 + f 2 + f 3 + f 4 + f 5 = _
    omega
  show _ = isumI (fun j => σ 2 j * σ 0 j) 6
  rw [e6, e6]
  simp only [Int.mul_comm]
/-! a year -/
theorem isum_congr {f g : Int → Int} : ∀ n : Nat, (∀ j : Int, 0 ≤ j → j < (n : Int) → f j = g j) → isum f n = isum g n
  | 0, _ => rfl
  | n + 1, h => by
    show isum f n + f n = isum g n + g n
    rw [isum_congr n (fun j h0 h1 => h j h0 (by omega)), h (n : Int) (by omega) (by omega)]
def yF (σ : St) : Int := σ 3 (σ 9 0 % 10)
def yK (σ : St) (k : Int) : Int := yfz (yF σ) (σ 1 (σ 4 k)) (σ 5 k)
def yI (σ : St) (k : Int) : Int := apl (σ 6 k) (yK σ k) (σ 7 k)
theorem yr_ok {σ : St} (h : xWF σ) (hz : zWF σ) (hb : ∀ j, σ 2 j ≤ 90000000) :
    xFore σ 1 0 = (xPs σ 1 40).2 ∧ xCount (xPass σ 1) 5 = xCount σ 5 + (xPs σ 1 40).2 ∧ xCount (xPass σ 1) 4 = xFore σ 1 2 ∧ xCount (xPass σ 1) 0 = xCount σ 0 + 1 ∧ xCount (xPass σ 1) 1 = 20 ∧ xCount (xPass σ 1) 2 = 20 ∧ xPass σ 1 0 = σ 0 ∧ xPass σ 1 1 = σ 1 ∧ xPass σ 1 4 = σ 4 ∧ xPass σ 1 6 = σ 6 ∧
    (∀ k : Int, 0 ≤ k → k < 40 → ¬ σ 4 k = -1 → xPass σ 1 5 k = min 9 (yK σ k + grm (σ 6 k)) ∧ wD (xPass σ 1) k = bI (20 ≤ yI σ k) ∧ fsA σ 1 k = yI σ k ∧ fsB σ 1 k = xPass σ 1 5 k) := by
  obtain ⟨w, r0, r1, r3, r4, r6, r8, r9, b2, bs, f5, f7, fs, s2⟩ := xPs_ok h hb 40 (by decide)
  have p7 : xPass σ 1 7 = (xPs σ 1 40).1 7 := rfl
  have p5 : xPass σ 1 5 = (xPs σ 1 40).1 5 := rfl
  refine ⟨fs.symm, s2, ?_, ?_, rfl, rfl, r0, r1, r4, r6, fun k h0 h1 h4 => ?_⟩
  · show isum (fun j => bI (¬ xPass σ 1 7 j = 0)) 40 = isum (fsT σ 1) 40
    refine isum_congr 40 (fun j h0 h1 => ?_)
    show bI (¬ xPass σ 1 7 j = 0) = fsT σ 1 j
    unfold fsT
    rw [p7, f7]
    by_cases g : σ 4 j = -1
    · rw [if_pos g, if_neg (fun z => z.2.2 g)]
      exact bI_f (fun q => q (hz j g).2.2)
    · rw [if_neg g, if_pos ⟨h0, h1, g⟩]
  · show fu ((xPs σ 1 40).1 9) 0 ((xPs σ 1 40).1 9 0 + 1) 0 = σ 9 0 + 1
    rw [fu_s, r9]
  · obtain ⟨l1, l2, l3⟩ := lv_1 σ (σ 6 k) (lkh σ k) (σ 5 k) (σ 7 k)
    have eh : lkh σ k = σ 1 (σ 4 k) := if_neg h4
    rw [eh] at l1 l2 l3
    have e5 : xPass σ 1 5 k = lvB σ (σ 6 k) (lkh σ k) (σ 5 k) (σ 7 k) 1 := by rw [p5, f5, if_pos ⟨h0, h1, h4⟩]
    refine ⟨?_, ?_, ?_, ?_⟩
    · rw [e5, eh, l1]; rfl
    · unfold wD
      rw [p7, f7, if_pos ⟨h0, h1, h4⟩, eh, l2]
      by_cases q : 20 ≤ yI σ k
      · have q2 : 20 ≤ yap (σ 6 k) (σ 3 (σ 9 0 % 10)) (σ 1 (σ 4 k)) (σ 5 k) (σ 7 k) := q
        rw [bI_t q2, bI_t q, bI_t (by decide)]
      · have q2 : ¬ 20 ≤ yap (σ 6 k) (σ 3 (σ 9 0 % 10)) (σ 1 (σ 4 k)) (σ 5 k) (σ 7 k) := q
        rw [bI_f q2, bI_f q, bI_f (by decide)]
    · unfold fsA
      rw [if_neg h4, eh, l3]
      rfl
    · unfold fsB
      rw [if_neg h4, e5]
def lwX (L : Nat) (xs : Nat → Int32) (t : Int) : Int := shr (cel L xs (t % 16)) (t / 16 * 3) + 73 * t
theorem cst_in (w : Int) : 2 ≤ cst w ∧ cst w ≤ 6 := by
  unfold cst
  repeat' split
  all_goals omega
