/-! the reference's foresight and advice, pure -/
theorem bb_eq {μ ν : St} (h : ∀ i : Nat, i ≠ 3 → i ≠ 4 → i ≠ 5 → μ i = ν i) : bbS μ ν = ν := by
  funext i
  unfold bbS sr
  by_cases h5 : i = 5
  · rw [if_pos h5, h5]
  · rw [if_neg h5]
    by_cases h4 : i = 4
    · rw [if_pos h4, h4]
    · rw [if_neg h4]
      by_cases h3 : i = 3
      · rw [if_pos h3, h3]
      · rw [if_neg h3]
        exact h i h3 h4 h5
theorem mYear_r (μ : St) (i : Nat) (h3 : i ≠ 3) (h4 : i ≠ 4) (h5 : i ≠ 5) : mYear μ i = μ i := by
  unfold mYear su
  rw [if_neg h5, if_neg h5, if_neg h5]
  exact yS_r μ (mF μ) 40 i h3 h4
theorem yrS_r (μ : St) (n i : Nat) (h3 : i ≠ 3) (h4 : i ≠ 4) (h5 : i ≠ 5) : yrS μ n i = μ i := by
  induction n with
  | zero => rfl
  | succ n ih => exact (mYear_r (yrS μ n) i h3 h4 h5).trans ih
theorem bb_yr (μ : St) (n : Nat) : bbS (yrS μ n) μ = μ := bb_eq (fun i h3 h4 h5 => yrS_r μ n i h3 h4 h5)
theorem mChg_r (μ : St) (k w i v : Int) (j : Nat) (h3 : j ≠ 3) : mChg μ k w i v j = μ j := by
  unfold mChg
  split
  · unfold sr
    rw [if_neg h3]
  · split
    · unfold su
      rw [if_neg h3, if_neg h3]
    · split
      · unfold su
        rw [if_neg h3, if_neg h3]
      · unfold felU sr
        rw [if_neg h3]
theorem mDo_r (μ : St) (r p w i v : Int) (j : Nat) (h3 : j ≠ 3) (h5 : j ≠ 5) : mDo μ r p w i v j = μ j := by
  unfold mDo
  split
  · rw [mChg_r _ _ _ _ _ j h3]
    unfold su
    rw [if_neg h5]
  · rfl
theorem mDo_52 (μ : St) (r : Int) {p : Int} (w i v : Int) (hp : 0 ≤ p ∧ p ≤ 7) : mDo μ r p w i v 5 2 = μ 5 2 := by
  unfold mDo
  split
  · rw [mChg_r _ _ _ _ _ 5 (by decide)]
    exact fu_n _ _ (by omega)
  · rfl
theorem mBo_r (μ : St) (r p w i v : Int) (j : Nat) (h3 : j ≠ 3) (h5 : j ≠ 5) : mBo μ r p w i v j = μ j := (mDo_r _ _ _ _ _ _ j h3 h5).trans (mDo_r _ _ _ _ _ _ j h3 h5)
theorem mBo_52 (μ : St) (r : Int) {p : Int} (w i v : Int) (hp : 0 ≤ p ∧ p ≤ 7) : mBo μ r p w i v 5 2 = μ 5 2 := (mDo_52 _ r w i v (by omega)).trans (mDo_52 _ r w i v hp)
theorem bb_by (μ : St) (r p w i v : Int) (n : Nat) : bbS (yrS (mBo μ r p w i v) n) μ = μ := bb_eq (fun j h3 h4 h5 => (yrS_r _ n j h3 h4 h5).trans (mBo_r μ r p w i v j h3 h5))
def mFore (μ : St) (y w : Int) : Int := if w = 0 then yrA μ y.toNat else if w = 1 then mAll (yrS μ y.toNat) 1 else mAll (yrS μ y.toNat) 4
def mGn (μ : St) (y t c : Int) : Int := yrA (mBo μ (t / 8) (t % 8) 1 c 0) y.toNat
def mvS (μ : St) (y t c : Int) (q : Int × Int) : Int × Int := if q.2 < mGn μ y t c then (100 * (t / 8) + 10 * (t % 8) + c, mGn μ y t c) else q
def mvC (μ : St) (y t : Int) (q : Int × Int) : Nat → Int × Int
  | 0 => q
  | n + 1 => mvS μ y t (n + 1) (mvC μ y t q n)
def mvO (μ : St) (y : Int) : Nat → Int × Int
  | 0 => (-1, yrA μ y.toNat)
  | n + 1 => mvC μ y n (mvO μ y n) 9
theorem mvC_s (μ : St) (y t : Int) (q : Int × Int) {c : Int} (h : 1 ≤ c) : mvC μ y t q (c + 1 - 1).toNat = mvS μ y t c (mvC μ y t q (c - 1).toNat) := by
  rw [show (c + 1 - 1).toNat = (c - 1).toNat + 1 by omega]
  show mvS μ y t (((c - 1).toNat : Nat) + 1) _ = _
  rw [show (((c - 1).toNat : Nat) : Int) + 1 = c by omega]
theorem mvO_s (μ : St) (y : Int) {t : Int} (h : 0 ≤ t) : mvO μ y (t + 1).toNat = mvC μ y t (mvO μ y t.toNat) 9 := by
  rw [show (t + 1).toNat = t.toNat + 1 by omega]
  show mvC μ y (t.toNat : Int) _ 9 = _
  rw [show ((t.toNat : Nat) : Int) = t by omega]
theorem yr1_in {μ : St} (h : mWF μ) (hB : ∀ j, μ 4 j ≤ 90000000) (hy : μ 5 2 ≤ 90000000) {y : Int} (h0 : 0 ≤ y) (h1 : y ≤ 30) : 0 ≤ yrA μ y.toNat ∧ yrA μ y.toNat ≤ 97200 := by
  have := yrA_in h hB y.toNat (by omega) (by omega)
  omega
theorem mvS_in {μ : St} {y t c : Int} {q : Int × Int} (hq : 0 ≤ q.2 ∧ q.2 ≤ 97200) (hg : 0 ≤ mGn μ y t c ∧ mGn μ y t c ≤ 97200) : 0 ≤ (mvS μ y t c q).2 ∧ (mvS μ y t c q).2 ≤ 97200 := by
  unfold mvS
  split
  · exact hg
  · exact hq
theorem mGn_in {μ : St} (h : mWF μ) (hB : ∀ j, μ 4 j ≤ 90000000) (hy : μ 5 2 ≤ 90000000) {y t c : Int} (h0 : 0 ≤ y) (h1 : y ≤ 30) (ht : 0 ≤ t) (hc : 1 ≤ c) : 0 ≤ mGn μ y t c ∧ mGn μ y t c ≤ 97200 :=
  yr1_in (mWF_bo h (by omega) (by decide) (by unfold mArg; omega)) (fun j => by rw [mBo_r _ _ _ _ _ _ 4 (by decide) (by decide)]; exact hB j) (by rw [mBo_52 _ _ _ _ _ (by omega)]; exact hy) h0 h1
