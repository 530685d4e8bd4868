/-! the reference's years -/
def mF (μ : St) : Int := μ 2 (μ 5 2 % 10)
def y1 (μ : St) (f k : Int) : St := su μ 3 (5 * k + 1) (mBr μ f k)
def yAp (μ : St) (f k : Int) : Int := mAp (y1 μ f k) k
def y2 (μ : St) (f k : Int) : St := su (y1 μ f k) 4 (y1 μ f k 3 (5 * k + 3)) (y1 μ f k 4 (y1 μ f k 3 (5 * k + 3)) + yAp μ f k)
def y3 (μ : St) (f k : Int) : St := su (y2 μ f k) 3 (5 * k + 4) (bI (20 ≤ yAp μ f k))
def mYr (μ : St) (f k : Int) : St := if μ 3 (5 * k + 0) = 1 then su (y3 μ f k) 3 (5 * k + 1) (min 9 (mBr μ f k + grm (y3 μ f k 3 (5 * k + 2)))) else μ
def yA1 (μ : St) (f k : Int) : Int := if μ 3 (5 * k + 0) = 1 then yAp μ f k else 0
def yS (μ : St) (f : Int) : Nat → St
  | 0 => μ
  | n + 1 => mYr (yS μ f n) f n
def yA (μ : St) (f : Int) : Nat → Int
  | 0 => 0
  | n + 1 => yA μ f n + yA1 (yS μ f n) f n
def mYear (μ : St) : St := su (su (su (yS μ (mF μ) 40) 5 0 20) 5 1 20) 5 2 (μ 5 2 + 1)
def mYA (μ : St) : Int := yA μ (mF μ) 40
def yrS (μ : St) : Nat → St
  | 0 => μ
  | n + 1 => mYear (yrS μ n)
def yrA (μ : St) : Nat → Int
  | 0 => 0
  | n + 1 => yrA μ n + mYA (yrS μ n)
theorem mBr_in {μ : St} {f k : Int} (h : tWF μ k) : 0 ≤ mBr μ f k ∧ mBr μ f k ≤ 9 := by
  obtain ⟨h0, h1, h2, h3, h4⟩ := h
  unfold mBr
  omega
theorem mAp_in {μ : St} {k : Int} (h : tWF μ k) : 0 ≤ mAp μ k ∧ mAp μ k ≤ 81 := by
  obtain ⟨h0, h1, h2, h3, h4⟩ := h
  have hm := mul9 h1 h2
  unfold mAp
  split <;> omega
theorem mWF_s4 {μ : St} (h : mWF μ) {t v : Int} (hv : 0 ≤ v ∧ v ≤ 100000000) : mWF (su μ 4 t v) := by
  refine ⟨mWF_0 (μ := μ) h, mWF_1 (μ := μ) h, mWF_2 (μ := μ) h, mWF_t (μ := μ) h, fun j => ?_, mWF_50 (μ := μ) h, mWF_51 (μ := μ) h, mWF_52 (μ := μ) h⟩
  show 0 ≤ fu (μ 4) t v j ∧ fu (μ 4) t v j ≤ 100000000
  unfold fu
  split
  · exact hv
  · exact mWF_4 h j
theorem mWF_s52 {μ : St} (h : mWF μ) {v : Int} (hv : 0 ≤ v ∧ v ≤ 100000000) : mWF (su μ 5 2 v) := ⟨mWF_0 (μ := μ) h, mWF_1 (μ := μ) h, mWF_2 (μ := μ) h, mWF_t (μ := μ) h, mWF_4 (μ := μ) h, mWF_50 (μ := μ) h, mWF_51 (μ := μ) h, hv⟩
theorem y1_wf {μ : St} {f k : Int} (h : mWF μ) : mWF (y1 μ f k) := by
  have hb := mBr_in (f := f) (mWF_t h k)
  exact mWF_s3 h k 1 (by decide) rfl (by omega)
theorem yAp_in {μ : St} {f k : Int} (h : mWF μ) : 0 ≤ yAp μ f k ∧ yAp μ f k ≤ 81 := mAp_in (mWF_t (y1_wf h) k)
theorem y2_wf {μ : St} {f k B : Int} (h : mWF μ) (hB : ∀ j, μ 4 j ≤ B) (hB2 : B + 81 ≤ 100000000) : mWF (y2 μ f k) := by
  have ha := yAp_in (f := f) (k := k) h
  have h4 := mWF_4 (y1_wf (f := f) (k := k) h) (y1 μ f k 3 (5 * k + 3))
  have h5 : y1 μ f k 4 (y1 μ f k 3 (5 * k + 3)) ≤ B := hB _
  exact mWF_s4 (y1_wf h) (by omega)
theorem y3_wf {μ : St} {f k B : Int} (h : mWF μ) (hB : ∀ j, μ 4 j ≤ B) (hB2 : B + 81 ≤ 100000000) : mWF (y3 μ f k) := by
  have hb := bI01 (20 ≤ yAp μ f k)
  exact mWF_s3 (y2_wf h hB hB2) k 4 (by decide) rfl (by omega)
theorem mYr_wf {μ : St} {f k B : Int} (h : mWF μ) (hB : ∀ j, μ 4 j ≤ B) (hB2 : B + 81 ≤ 100000000) : mWF (mYr μ f k) ∧ ∀ j, mYr μ f k 4 j ≤ B + 81 := by
  unfold mYr
  split
  · have hb := mBr_in (f := f) (mWF_t h k)
    have hg := grm_in (y3 μ f k 3 (5 * k + 2))
    refine ⟨mWF_s3 (y3_wf h hB hB2) k 1 (by decide) rfl (by omega), fun j => ?_⟩
    have ha := yAp_in (f := f) (k := k) h
    show fu (μ 4) (y1 μ f k 3 (5 * k + 3)) (y1 μ f k 4 (y1 μ f k 3 (5 * k + 3)) + yAp μ f k) j ≤ B + 81
    have h5 : y1 μ f k 4 (y1 μ f k 3 (5 * k + 3)) ≤ B := hB _
    have h6 := hB j
    unfold fu
    split <;> omega
  · exact ⟨h, fun j => by have h6 := hB j; omega⟩
theorem mYr_r {μ : St} (f k : Int) (i : Nat) (h3 : i ≠ 3) (h4 : i ≠ 4) : mYr μ f k i = μ i := by
  unfold mYr
  split
  · unfold y3 y2 y1 su
    rw [if_neg h3, if_neg h3, if_neg h4, if_neg h3]
  · rfl
theorem yS_r (μ : St) (f : Int) (n i : Nat) (h3 : i ≠ 3) (h4 : i ≠ 4) : yS μ f n i = μ i := by
  induction n with
  | zero => rfl
  | succ n ih => exact (mYr_r f n i h3 h4).trans ih
theorem yS_wf {μ : St} (f : Int) {B : Int} (h : mWF μ) (hB : ∀ j, μ 4 j ≤ B) (n : Nat) (hB2 : B + 81 * n ≤ 100000000) : mWF (yS μ f n) ∧ ∀ j, yS μ f n 4 j ≤ B + 81 * n := by
  induction n with
  | zero => exact ⟨h, fun j => by have h6 := hB j; show μ 4 j ≤ _; omega⟩
  | succ n ih =>
    obtain ⟨i1, i2⟩ := ih (by omega)
    obtain ⟨j1, j2⟩ := mYr_wf (f := f) (k := n) i1 i2 (by omega)
    exact ⟨j1, fun j => by have h6 := j2 j; show mYr (yS μ f n) f n 4 j ≤ _; omega⟩
theorem yS_s (μ : St) (f : Int) {i : Int} (h : 0 ≤ i) : yS μ f (i + 1).toNat = mYr (yS μ f i.toNat) f i := by
  rw [show (i + 1).toNat = i.toNat + 1 by omega]
  show mYr (yS μ f i.toNat) f ((i.toNat : Nat) : Int) = _
  rw [show ((i.toNat : Nat) : Int) = i by omega]
theorem yA_s (μ : St) (f : Int) {i : Int} (h : 0 ≤ i) : yA μ f (i + 1).toNat = yA μ f i.toNat + yA1 (yS μ f i.toNat) f i := by
  rw [show (i + 1).toNat = i.toNat + 1 by omega]
  show yA μ f i.toNat + yA1 (yS μ f i.toNat) f ((i.toNat : Nat) : Int) = _
  rw [show ((i.toNat : Nat) : Int) = i by omega]
theorem yA_in {μ : St} (f : Int) {B : Int} (h : mWF μ) (hB : ∀ j, μ 4 j ≤ B) (n : Nat) (hB2 : B + 81 * n ≤ 100000000) : 0 ≤ yA μ f n ∧ yA μ f n ≤ 81 * n := by
  induction n with
  | zero => exact ⟨Int.le_refl _, by simp [yA]⟩
  | succ n ih =>
    have i1 := ih (by omega)
    have i2 := yAp_in (f := f) (k := n) (yS_wf f h hB n (by omega)).1
    show 0 ≤ yA μ f n + yA1 (yS μ f n) f n ∧ yA μ f n + yA1 (yS μ f n) f n ≤ _
    unfold yA1
    split <;> omega
theorem mYr_is {μ : St} {f k a0 g0 : Int} (h : μ 3 (5 * k + 0) = 1) (ha : bI (20 ≤ yAp μ f k) = a0) (hg : grm (su (y2 μ f k) 3 (5 * k + 4) a0 3 (5 * k + 2)) = g0) : su (su (y2 μ f k) 3 (5 * k + 4) a0) 3 (5 * k + 1) (min 9 (mBr μ f k + g0)) = mYr μ f k := by
  subst ha
  subst hg
  unfold mYr
  rw [if_pos h]
  rfl
theorem mYr_no {μ : St} {f k : Int} (h : ¬ μ 3 (5 * k + 0) = 1) : μ = mYr μ f k := by
  unfold mYr
  rw [if_neg h]
theorem mYear_wf {μ : St} {B : Int} (h : mWF μ) (hB : ∀ j, μ 4 j ≤ B) (hB2 : B + 3240 ≤ 100000000) (hy : μ 5 2 + 1 ≤ 100000000) : mWF (mYear μ) ∧ ∀ j, mYear μ 4 j ≤ B + 3240 := by
  obtain ⟨i1, i2⟩ := yS_wf (mF μ) h hB 40 (by omega)
  have h5 := mWF_52 h
  refine ⟨mWF_s52 (mWF_s5 (mWF_s5 i1 (Or.inl rfl) (by decide)) (Or.inr rfl) (by decide)) (by omega), fun j => ?_⟩
  have i3 := i2 j
  show yS μ (mF μ) 40 4 j ≤ _
  omega
theorem mYA_in {μ : St} {B : Int} (h : mWF μ) (hB : ∀ j, μ 4 j ≤ B) (hB2 : B + 3240 ≤ 100000000) : 0 ≤ mYA μ ∧ mYA μ ≤ 3240 := by
  have i1 := yA_in (mF μ) h hB 40 (by omega)
  unfold mYA
  omega
theorem yrS_wf {μ : St} {B : Int} (h : mWF μ) (hB : ∀ j, μ 4 j ≤ B) (n : Nat) (hB2 : B + 3240 * n ≤ 100000000) (hy : μ 5 2 + n ≤ 100000000) : mWF (yrS μ n) ∧ (∀ j, yrS μ n 4 j ≤ B + 3240 * n) ∧ yrS μ n 5 2 = μ 5 2 + n := by
  induction n with
  | zero => exact ⟨h, fun j => by have h6 := hB j; show μ 4 j ≤ _; omega, by show μ 5 2 = _; omega⟩
  | succ n ih =>
    obtain ⟨i1, i2, i3⟩ := ih (by omega) (by omega)
    obtain ⟨j1, j2⟩ := mYear_wf i1 i2 (by omega) (by omega)
    refine ⟨j1, fun j => by have h6 := j2 j; show mYear (yrS μ n) 4 j ≤ _; omega, ?_⟩
    show yrS μ n 5 2 + 1 = _
    omega
theorem yrS_s (μ : St) {i : Int} (h : 0 ≤ i) : yrS μ (i + 1).toNat = mYear (yrS μ i.toNat) := by
  rw [show (i + 1).toNat = i.toNat + 1 by omega]
  rfl
theorem yrA_s (μ : St) {i : Int} (h : 0 ≤ i) : yrA μ (i + 1).toNat = yrA μ i.toNat + mYA (yrS μ i.toNat) := by
  rw [show (i + 1).toNat = i.toNat + 1 by omega]
  rfl
theorem yrA_in {μ : St} {B : Int} (h : mWF μ) (hB : ∀ j, μ 4 j ≤ B) (n : Nat) (hB2 : B + 3240 * n ≤ 100000000) (hy : μ 5 2 + n ≤ 100000000) : 0 ≤ yrA μ n ∧ yrA μ n ≤ 3240 * n := by
  induction n with
  | zero => exact ⟨Int.le_refl _, by simp [yrA]⟩
  | succ n ih =>
    have i1 := ih (by omega) (by omega)
    obtain ⟨w1, w2, w3⟩ := yrS_wf h hB n (by omega) (by omega)
    have i2 := mYA_in w1 w2 (by omega)
    show 0 ≤ yrA μ n + mYA (yrS μ n) ∧ yrA μ n + mYA (yrS μ n) ≤ _
    omega
theorem yr0_wf {μ : St} (h : mWF μ) (hB : ∀ j, μ 4 j ≤ 90000000) (hy : μ 5 2 ≤ 90000000) {i : Int} (h0 : 0 ≤ i) (h1 : i ≤ 30) : mWF (yrS μ i.toNat) ∧ (∀ j, yrS μ i.toNat 4 j ≤ 95000000) ∧ yrS μ i.toNat 5 2 ≤ 95000000 := by
  obtain ⟨w1, w2, w3⟩ := yrS_wf h hB i.toNat (by omega) (by omega)
  exact ⟨w1, fun j => by have := w2 j; omega, by omega⟩
