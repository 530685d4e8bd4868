/-! what holds between two calls of the law -/
theorem xWF_rel {σ μ : St} (h : rel σ μ) (hm : mWF μ) (h8 : ∀ j, 0 ≤ σ 8 j ∧ σ 8 j ≤ 20) : xWF σ := by
  obtain ⟨⟨a1, a2, a3, a4⟩, ⟨b1, b2, b3, b4⟩, t⟩ := h
  refine ⟨fun j => ?_, fun j => ?_, fun j => ?_, fun j => ?_, fun j => ?_, fun j => ?_, fun j => ?_, fun j => ?_, h8, ?_⟩
  · rw [← a1]; exact mWF_0 hm j
  · rw [← a2]; exact mWF_1 hm j
  · rw [← a4]; exact mWF_4 hm j
  · rw [← a3]; exact mWF_2 hm j
  · obtain ⟨t0, -⟩ := t j
    obtain ⟨w0, w1, w2, w3, w4⟩ := mWF_t hm j
    rcases t0 with ⟨q, -⟩ | ⟨-, -, q⟩
    · omega
    · omega
  · rw [← (t j).2.1]; exact (mWF_t hm j).2.1
  · rw [← (t j).2.2.1]; exact (mWF_t hm j).2.2.1
  · rw [← (t j).2.2.2]; exact (mWF_t hm j).2.2.2.2
  · rw [← b3]; exact mWF_52 hm
/-- between two calls, n of them made -/
def Lv (n : Nat) (σ μ : St) : Prop := xWF σ ∧ mWF μ ∧ rel σ μ ∧ (∀ j, μ 4 j ≤ 97200 * n) ∧ μ 5 2 ≤ 30 * n
theorem Lv_b {n : Nat} {σ μ : St} (h : Lv n σ μ) (hn : n ≤ 512) : (∀ j, μ 4 j ≤ 90000000) ∧ μ 5 2 ≤ 90000000 ∧ (∀ j, σ 2 j ≤ 90000000) ∧ σ 9 0 ≤ 90000000 := by
  obtain ⟨h1, h2, h3, h4, h5⟩ := h
  refine ⟨fun j => by have := h4 j; omega, by omega, fun j => ?_, ?_⟩
  · rw [← h3.1.2.2.2]
    have := h4 j
    omega
  · rw [← h3.2.1.2.2.1]
    omega
theorem mWF_I : mWF μI := by
  refine ⟨fun j => ?_, fun j => ?_, fun j => ?_, fun k => ?_, fun j => ?_, ?_, ?_, ?_⟩
  · show (1 : Int) ≤ 3 ∧ (3 : Int) ≤ 9; decide
  · show (0 : Int) ≤ 4 ∧ (4 : Int) ≤ 9; decide
  · show (0 : Int) ≤ 0 ∧ (0 : Int) ≤ 9; decide
  · show ((0 : Int) ≤ 0 ∧ (0 : Int) ≤ 1) ∧ ((0 : Int) ≤ 0 ∧ (0 : Int) ≤ 9) ∧ ((0 : Int) ≤ 0 ∧ (0 : Int) ≤ 9) ∧ ((0 : Int) ≤ 0 ∧ (0 : Int) ≤ 5) ∧ ((0 : Int) ≤ 0 ∧ (0 : Int) ≤ 1); decide
  · show (0 : Int) ≤ 0 ∧ (0 : Int) ≤ 100000000; decide
  · show (0 : Int) ≤ 20 ∧ (20 : Int) ≤ 20; decide
  · show (0 : Int) ≤ 20 ∧ (20 : Int) ≤ 20; decide
  · show (0 : Int) ≤ 0 ∧ (0 : Int) ≤ 100000000; decide
theorem Lv_I : Lv 0 σI μI := by
  refine ⟨xWF_rel rel_I mWF_I (fun j => ?_), mWF_I, rel_I, fun j => ?_, ?_⟩
  · show (0 : Int) ≤ 20 ∧ (20 : Int) ≤ 20; decide
  · show (0 : Int) ≤ _; decide
  · show (0 : Int) ≤ _; decide
/-- a call that leaves the barn and the year -/
theorem Lv_k {n : Nat} {σ μ σ' μ' : St} (h : Lv n σ μ) (hr : rel σ' μ') (hx : xWF σ') (hm : mWF μ') (h4 : ∀ j, μ' 4 j ≤ μ 4 j) (h5 : μ' 5 2 = μ 5 2) : Lv (n + 1) σ' μ' := by
  obtain ⟨-, -, -, b4, b5⟩ := h
  exact ⟨hx, hm, hr, fun j => by have q := h4 j; have q2 := b4 j; omega, by omega⟩
theorem Lv_z {n : Nat} {σ μ : St} (h : Lv n σ μ) (v : Int) : Lv (n + 1) σ (su μ 6 0 v) := Lv_k h (rel_z h.2.2.1 v) h.1 (mWF_6 h.2.1 0 v) (fun j => Int.le_refl _) rfl
theorem Lv_pass {n : Nat} {σ μ : St} (h : Lv n σ μ) (hn : n ≤ 512) {y : Int} (hy : 1 ≤ y ∧ y ≤ 30) : Lv (n + 1) (xPass σ y) (yrS (mZ μ) y.toNat) := by
  obtain ⟨h1, h2, h3, h4, h5⟩ := h
  obtain ⟨hr, -⟩ := rel_pass h1 h3 hy.1
  obtain ⟨w1, w2, w3⟩ := yrS_wf (B := 97200 * n) (mWF_6 h2 0 0) h4 y.toNat (by omega) (show μ 5 2 + _ ≤ _ by omega)
  refine ⟨xWF_rel hr w1 (fun j => ?_), w1, hr, fun j => ?_, ?_⟩
  · show (0 : Int) ≤ 20 ∧ (20 : Int) ≤ 20; decide
  · have q : yrS (mZ μ) y.toNat 4 j ≤ 97200 * n + 3240 * y.toNat := w2 j
    omega
  · have q : yrS (mZ μ) y.toNat 5 2 = μ 5 2 + y.toNat := w3
    omega
