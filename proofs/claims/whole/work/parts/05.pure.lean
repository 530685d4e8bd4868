/-! pure words of the class's state -/
def tw (s : Int) : Int := if s % 8 < 4 then 0 else 1
theorem tw_in (s : Int) : 0 ≤ tw s ∧ tw s < 2 := by
  unfold tw
  split <;> omega
def xWF (σ : St) : Prop := (∀ j, 1 ≤ σ 0 j ∧ σ 0 j ≤ 9) ∧ (∀ j, 0 ≤ σ 1 j ∧ σ 1 j ≤ 9) ∧ (∀ j, 0 ≤ σ 2 j ∧ σ 2 j ≤ 100000000) ∧ (∀ j, 0 ≤ σ 3 j ∧ σ 3 j ≤ 9) ∧ (∀ j, -1 ≤ σ 4 j ∧ σ 4 j ≤ 5) ∧ (∀ j, 0 ≤ σ 5 j ∧ σ 5 j ≤ 9) ∧ (∀ j, 0 ≤ σ 6 j ∧ σ 6 j ≤ 9) ∧ (∀ j, 0 ≤ σ 7 j ∧ σ 7 j ≤ 1) ∧ (∀ j, 0 ≤ σ 8 j ∧ σ 8 j ≤ 20) ∧ (0 ≤ σ 9 0 ∧ σ 9 0 ≤ 100000000)
theorem xWF_0 {σ : St} (h : xWF σ) (j : Int) : 1 ≤ σ 0 j ∧ σ 0 j ≤ 9 := h.1 j
theorem xWF_1 {σ : St} (h : xWF σ) (j : Int) : 0 ≤ σ 1 j ∧ σ 1 j ≤ 9 := h.2.1 j
theorem xWF_2 {σ : St} (h : xWF σ) (j : Int) : 0 ≤ σ 2 j ∧ σ 2 j ≤ 100000000 := h.2.2.1 j
theorem xWF_3 {σ : St} (h : xWF σ) (j : Int) : 0 ≤ σ 3 j ∧ σ 3 j ≤ 9 := h.2.2.2.1 j
theorem xWF_4 {σ : St} (h : xWF σ) (j : Int) : -1 ≤ σ 4 j ∧ σ 4 j ≤ 5 := h.2.2.2.2.1 j
theorem xWF_5 {σ : St} (h : xWF σ) (j : Int) : 0 ≤ σ 5 j ∧ σ 5 j ≤ 9 := h.2.2.2.2.2.1 j
theorem xWF_6 {σ : St} (h : xWF σ) (j : Int) : 0 ≤ σ 6 j ∧ σ 6 j ≤ 9 := h.2.2.2.2.2.2.1 j
theorem xWF_7 {σ : St} (h : xWF σ) (j : Int) : 0 ≤ σ 7 j ∧ σ 7 j ≤ 1 := h.2.2.2.2.2.2.2.1 j
theorem xWF_8 {σ : St} (h : xWF σ) (j : Int) : 0 ≤ σ 8 j ∧ σ 8 j ≤ 20 := h.2.2.2.2.2.2.2.2.1 j
theorem xWF_9 {σ : St} (h : xWF σ) : 0 ≤ σ 9 0 ∧ σ 9 0 ≤ 100000000 := h.2.2.2.2.2.2.2.2.2
