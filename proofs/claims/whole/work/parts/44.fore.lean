/-! foresight and advice: both answer alike -/
theorem fore_A (σ : St) {y : Int} (k : Int) : fsA σ y k = (TT σ k y.toNat).2.2 := by
  unfold fsA
  by_cases g : σ 4 k = -1
  · rw [if_pos g, TT_n g]
  · rw [if_neg g, TT_y g]
    rfl
theorem ask_foresee {σ μ : St} (hx : xWF σ) (h : rel σ μ) {y w : Int} (hw : 0 ≤ w ∧ w ≤ 2) : mFore μ y w = xFore σ y w := by
  obtain ⟨⟨-, -, -, ht⟩, g2⟩ := years_C hx h y.toNat
  have hc : cY 0 (y.toNat + 1) y.toNat = cY 40 y.toNat 0 := (cY_40 _ _ _).symm
  rw [hc] at ht
  have cc : ∀ k : Int, 0 ≤ k → k < (40 : Nat) → cY 40 y.toNat 0 k = y.toNat := by
    intro k h0 h1
    unfold cY
    rw [if_pos (by omega)]
  rcases (show w = 0 ∨ w = 1 ∨ w = 2 by omega) with rfl | rfl | rfl
  · show yrA μ y.toNat = isum (fsA σ y) 40
    rw [g2]
    exact isum_c 40 (fun k h0 h1 => (fore_A σ k).symm)
  · show isum (fun k => yrS μ y.toNat 3 (5 * k + 1)) 40 = isum (fsB σ y) 40
    refine isum_c 40 (fun k h0 h1 => ?_)
    obtain ⟨t0, t1, t2, t4⟩ := ht k
    rw [t1]
    show (TT σ k (cY 40 y.toNat 0 k)).1 = _
    rw [cc k h0 h1]
    unfold fsB
    by_cases g : σ 4 k = -1
    · rw [if_pos g, TT_n g]
      have t5 : σ 4 k = -1 → σ 5 k = 0 := by
        intro _
        rcases (h.2.2 k).1 with q | q
        · exact q.2.2.2.1
        · exact absurd g q.1
      exact t5 g
    · rw [if_neg g, TT_y g]
      rfl
  · show isum (fun k => yrS μ y.toNat 3 (5 * k + 4)) 40 = isum (fsT σ y) 40
    refine isum_c 40 (fun k h0 h1 => ?_)
    obtain ⟨t0, t1, t2, t4⟩ := ht k
    rw [t4]
    show (TT σ k (cY 40 y.toNat 0 k)).2.1 = _
    rw [cc k h0 h1]
    have et := TT_t hx k y.toNat
    unfold fsT
    by_cases g : σ 4 k = -1
    · rw [if_pos g, TT_n g]
      rcases (h.2.2 k).1 with q | q
      · exact q.2.2.2.2.2
      · exact absurd g q.1
    · rw [if_neg g]
      have e : lvT σ (σ 6 k) (lkh σ k) (σ 5 k) (σ 7 k) y = (TT σ k y.toNat).2.1 := by
        rw [TT_y g]
        rfl
      rw [e]
      rcases et with z | z
      · rw [z]; rfl
      · rw [z]; rfl
/-- one pruning: what it brings in the years ahead -/
theorem gain_1 {σ : St} {s c y : Int} (h0 : 0 ≤ s) (h1 : s < 40) : isum (fun k => (TT (xPrune σ s c) k y.toNat).2.2) 40 = isum (fun k => (TT σ k y.toNat).2.2) 40 + gnP σ s c y := by
  unfold xPrune gnP
  by_cases g : ¬ σ 4 s = -1 ∧ c ≤ σ 5 s ∧ 2 ≤ σ 8 (tw s)
  · rw [if_pos g, if_pos g]
    have hk : ∀ k, k ≠ s → (TT (su (su (xSp σ s 2) 5 s (σ 5 s - c)) 7 s 0) k y.toNat).2.2 = (TT σ k y.toNat).2.2 := by
      intro k e
      have e5 : su (su (xSp σ s 2) 5 s (σ 5 s - c)) 7 s 0 5 k = σ 5 k := fu_n _ _ e
      have e7 : su (su (xSp σ s 2) 5 s (σ 5 s - c)) 7 s 0 7 k = σ 7 k := fu_n _ _ e
      unfold TT
      rw [e5, e7]
      rfl
    rw [isum_u (g := fun k => (TT σ k y.toNat).2.2) (j := s) 40 h0 hk, if_pos (by omega)]
    refine congrArg _ ?_
    have e5 : su (su (xSp σ s 2) 5 s (σ 5 s - c)) 7 s 0 5 s = σ 5 s - c := fu_h (σ 5) (σ 5 s - c) (k := s) rfl
    have e7 : su (su (xSp σ s 2) 5 s (σ 5 s - c)) 7 s 0 7 s = 0 := fu_h (σ 7) 0 (k := s) rfl
    have ea : (TT (su (su (xSp σ s 2) 5 s (σ 5 s - c)) 7 s 0) s y.toNat).2.2 = lvS σ (σ 6 s) (lkh σ s) (σ 5 s - c) 0 y := by
      rw [TT_y (σ := su (su (xSp σ s 2) 5 s (σ 5 s - c)) 7 s 0) (k := s) g.1, e5, e7]
      rfl
    have eb : (TT σ s y.toNat).2.2 = lvS σ (σ 6 s) (lkh σ s) (σ 5 s) (σ 7 s) y := by
      rw [TT_y g.1]
      rfl
    show (TT _ s y.toNat).2.2 - (TT σ s y.toNat).2.2 = _
    rw [ea, eb]
  · rw [if_neg g, if_neg g, Int.add_zero]
theorem gnP_m {σ : St} {s c c' y : Int} (h0 : 0 ≤ s) : gnP (xPrune σ s c') (mir s) c y = gnP σ (mir s) c y := by
  unfold xPrune
  by_cases g : ¬ σ 4 s = -1 ∧ c' ≤ σ 5 s ∧ 2 ≤ σ 8 (tw s)
  · rw [if_pos g]
    have hm : mir s ≠ s := by
      unfold mir
      omega
    have ht : tw (mir s) ≠ tw s := by
      unfold tw mir
      split <;> split <;> omega
    have e5 : su (su (xSp σ s 2) 5 s (σ 5 s - c')) 7 s 0 5 (mir s) = σ 5 (mir s) := fu_n _ _ hm
    have e7 : su (su (xSp σ s 2) 5 s (σ 5 s - c')) 7 s 0 7 (mir s) = σ 7 (mir s) := fu_n _ _ hm
    have e8 : su (su (xSp σ s 2) 5 s (σ 5 s - c')) 7 s 0 8 (tw (mir s)) = σ 8 (tw (mir s)) := fu_n _ _ ht
    unfold gnP
    rw [e5, e7, e8]
    rfl
  · rw [if_neg g]
theorem gain_2 {σ μ : St} (hx : xWF σ) (h : rel σ μ) {y t c : Int} (h0 : 0 ≤ t) (h1 : t < 40) (hc : 1 ≤ c) : mGn μ y t c = yrA μ y.toNat + (gnP σ t c y + gnP σ (mir t) c y) := by
  have hm := mir_in h0 h1
  obtain ⟨-, hr⟩ := rel_prune h (r := t / 8) (p := t % 8) (c := c) (by omega)
  rw [show t / 8 * 8 + t % 8 = t by omega] at hr
  have hx2 := xWF_prune (xWF_prune hx (s := t) hc) (s := mir t) hc
  unfold mGn
  rw [(years_C hx2 hr y.toNat).2, (years_C hx h y.toNat).2, gain_1 hm.1 hm.2, gain_1 h0 h1, gnP_m h0]
  omega
theorem adv_C {σ μ : St} (hx : xWF σ) (h : rel σ μ) {y t B : Int} (h0 : 0 ≤ t) (h1 : t < 40) (hB : B = yrA μ y.toNat) {q q' : Int × Int} (hq : q'.1 = q.1 ∧ q'.2 = B + q.2) (n : Nat) : (mvC μ y t q' n).1 = (advC σ y t q n).1 ∧ (mvC μ y t q' n).2 = B + (advC σ y t q n).2 := by
  induction n with
  | zero => exact hq
  | succ n ih =>
    obtain ⟨i1, i2⟩ := ih
    have hg := gain_2 hx h (y := y) (c := (n : Int) + 1) h0 h1 (by omega)
    show (mvS μ y t ((n : Int) + 1) (mvC μ y t q' n)).1 = (advS σ y t ((n : Int) + 1) (advC σ y t q n)).1 ∧ (mvS μ y t ((n : Int) + 1) (mvC μ y t q' n)).2 = B + (advS σ y t ((n : Int) + 1) (advC σ y t q n)).2
    unfold mvS advS
    rw [hg, i2, ← hB]
    by_cases g : (advC σ y t q n).2 < gnP σ t ((n : Int) + 1) y + gnP σ (mir t) ((n : Int) + 1) y
    · rw [if_pos (by omega), if_pos g]
      exact ⟨rfl, rfl⟩
    · rw [if_neg (by omega), if_neg g]
      exact ⟨i1, i2⟩
theorem adv_O {σ μ : St} (hx : xWF σ) (h : rel σ μ) {y B : Int} (hB : B = yrA μ y.toNat) (n : Nat) (hn : n ≤ 40) : (mvO μ y n).1 = (advO σ y n).1 ∧ (mvO μ y n).2 = B + (advO σ y n).2 := by
  induction n with
  | zero =>
    refine ⟨rfl, ?_⟩
    show yrA μ y.toNat = B + 0
    omega
  | succ n ih => exact adv_C hx h (by omega) (by omega) hB (ih (by omega)) 9
theorem ask_advise {σ μ : St} (hx : xWF σ) (h : rel σ μ) (y : Int) : (mvO μ y 40).1 = (advO σ y 40).1 := (adv_O hx h rfl 40 (by decide)).1
