/-! each call keeps what holds between two calls -/
theorem mWF_s0 {μ : St} (h : mWF μ) {k v : Int} (hv : 1 ≤ v ∧ v ≤ 9) : mWF (su μ 0 k v) := ⟨(fun j => by show _ ≤ fu (μ 0) k v j ∧ fu (μ 0) k v j ≤ _; unfold fu; split; exact hv; exact mWF_0 (μ := μ) h j), mWF_1 (μ := μ) h, mWF_2 (μ := μ) h, mWF_t (μ := μ) h, mWF_4 (μ := μ) h, mWF_50 (μ := μ) h, mWF_51 (μ := μ) h, mWF_52 (μ := μ) h⟩
theorem mWF_s1 {μ : St} (h : mWF μ) {k v : Int} (hv : 0 ≤ v ∧ v ≤ 9) : mWF (su μ 1 k v) := ⟨mWF_0 (μ := μ) h, (fun j => by show _ ≤ fu (μ 1) k v j ∧ fu (μ 1) k v j ≤ _; unfold fu; split; exact hv; exact mWF_1 (μ := μ) h j), mWF_2 (μ := μ) h, mWF_t (μ := μ) h, mWF_4 (μ := μ) h, mWF_50 (μ := μ) h, mWF_51 (μ := μ) h, mWF_52 (μ := μ) h⟩
theorem mWF_s2 {μ : St} (h : mWF μ) {k v : Int} (hv : 0 ≤ v ∧ v ≤ 9) : mWF (su μ 2 k v) := ⟨mWF_0 (μ := μ) h, mWF_1 (μ := μ) h, (fun j => by show _ ≤ fu (μ 2) k v j ∧ fu (μ 2) k v j ≤ _; unfold fu; split; exact hv; exact mWF_2 (μ := μ) h j), mWF_t (μ := μ) h, mWF_4 (μ := μ) h, mWF_50 (μ := μ) h, mWF_51 (μ := μ) h, mWF_52 (μ := μ) h⟩
theorem Lv_f {n : Nat} {σ μ : St} (h : Lv n σ μ) (t : Int) : Lv (n + 1) σ (mFail μ t) := Lv_k h (rel_z (rel_z h.2.2.1 0) t) h.1 (mWF_6 (mWF_6 h.2.1 0 0) 0 t) (fun j => Int.le_refl _) rfl
/-- a call that may fail -/
theorem Lv_t {n : Nat} {σ μ σ' μ' : St} (h : Lv n σ μ) (t : Int) (hk : t = 0 → Lv (n + 1) σ' μ') : Lv (n + 1) (pk t σ' σ) (mRes t μ' μ) := by
  by_cases g : t = 0
  · rw [pk_y g, show mRes t μ' μ = μ' from if_pos g]
    exact hk g
  · rw [pk_n g, show mRes t μ' μ = mFail μ t from if_neg g]
    exact Lv_f h t
theorem Lv_setSort {n : Nat} {σ μ : St} (h : Lv n σ μ) (a w b : Int) : Lv (n + 1) (pk (tSetSort a w b) (xSetSort σ a w b) σ) (mRes (tSetSort a w b) (su (su (mZ μ) 0 a w) 1 a b) μ) := by
  refine Lv_t h _ (fun ht => ?_)
  unfold tSetSort at ht
  have hw : (1 ≤ w ∧ w ≤ 9) ∧ 0 ≤ b ∧ b ≤ 9 := by
    split at ht
    · omega
    · split at ht <;> omega
  exact Lv_k h (rel_setSort h.2.2.1 a w b) (xWF_s1 (xWF_s0 h.1 hw.1) hw.2) (mWF_s1 (mWF_s0 (mWF_6 h.2.1 0 0) hw.1) hw.2) (fun j => Int.le_refl _) rfl
theorem Lv_setFrost {n : Nat} {σ μ : St} (h : Lv n σ μ) (a b : Int) : Lv (n + 1) (pk (tSetFrost a b) (su σ 3 a b) σ) (mRes (tSetFrost a b) (su (mZ μ) 2 a b) μ) := by
  refine Lv_t h _ (fun ht => ?_)
  unfold tSetFrost at ht
  have hw : 0 ≤ b ∧ b ≤ 9 := by
    split at ht
    · omega
    · split at ht <;> omega
  exact Lv_k h (rel_setFrost h.2.2.1 a b) (xWF_s3 h.1 hw) (mWF_s2 (mWF_6 h.2.1 0 0) hw) (fun j => Int.le_refl _) rfl
theorem Lv_ask {n : Nat} {σ μ : St} (h : Lv n σ μ) (t : Int) : Lv (n + 1) σ (mRes t (mZ μ) μ) := by
  have := Lv_t (σ' := σ) h t (fun _ => Lv_z h 0)
  unfold pk at this
  rw [ite_self] at this
  exact this
