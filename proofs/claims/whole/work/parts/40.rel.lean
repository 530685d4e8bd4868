/-! what the class's state and the reference's have to do with each other -/
theorem bI_iff {P : Prop} [Decidable P] : bI P = 1 ↔ P := ⟨bI_1, bI_t⟩
theorem bI_c {P Q : Prop} [Decidable P] [Decidable Q] (h : P ↔ Q) : bI P = bI Q := by
  by_cases hp : P
  · rw [bI_t hp, bI_t (h.mp hp)]
  · rw [bI_f hp, bI_f (fun hq => hp (h.mpr hq))]
def trR (σ μ : St) (k : Int) : Prop := (σ 4 k = -1 ∧ μ 3 (5 * k + 0) = 0 ∧ μ 3 (5 * k + 3) = 0 ∧ σ 5 k = 0 ∧ σ 6 k = 0 ∧ σ 7 k = 0 ∨ ¬ σ 4 k = -1 ∧ μ 3 (5 * k + 0) = 1 ∧ μ 3 (5 * k + 3) = σ 4 k) ∧ μ 3 (5 * k + 1) = σ 5 k ∧ μ 3 (5 * k + 2) = σ 6 k ∧ μ 3 (5 * k + 4) = σ 7 k
def rel (σ μ : St) : Prop := (μ 0 = σ 0 ∧ μ 1 = σ 1 ∧ μ 2 = σ 3 ∧ μ 4 = σ 2) ∧ (μ 5 0 = σ 8 0 ∧ μ 5 1 = σ 8 1 ∧ μ 5 2 = σ 9 0 ∧ μ 6 1 = σ 9 1) ∧ ∀ k, trR σ μ k
theorem rel_I : rel σI μI := by
  refine ⟨⟨rfl, rfl, rfl, rfl⟩, ⟨rfl, rfl, rfl, rfl⟩, fun k => ?_⟩
  exact ⟨Or.inl ⟨rfl, rfl, rfl, rfl, rfl, rfl⟩, rfl, rfl, rfl⟩
theorem fu_h (f : Int → Int) {k j : Int} (v : Int) (h : j = k) : fu f k v j = v := by
  unfold fu
  rw [if_pos h]
theorem rel_z {σ μ : St} (h : rel σ μ) (v : Int) : rel σ (su μ 6 0 v) := by
  obtain ⟨⟨a1, a2, a3, a4⟩, ⟨b1, b2, b3, b4⟩, t⟩ := h
  exact ⟨⟨a1, a2, a3, a4⟩, ⟨b1, b2, b3, (show fu (μ 6) 0 v 1 = _ from (fu_n _ _ (by decide)).trans b4)⟩, t⟩
theorem rel_sp {σ μ : St} (h : rel σ μ) {t : Int} (ht : t = 0 ∨ t = 1) (v : Int) : rel (su σ 8 t v) (su μ 5 t v) := by
  obtain ⟨⟨a1, a2, a3, a4⟩, ⟨b1, b2, b3, b4⟩, tr⟩ := h
  refine ⟨⟨a1, a2, a3, a4⟩, ⟨?_, ?_, (fu_n _ _ (by omega)).trans b3, b4⟩, tr⟩
  · show fu (μ 5) t v 0 = fu (σ 8) t v 0
    unfold fu
    rw [b1]
  · show fu (μ 5) t v 1 = fu (σ 8) t v 1
    unfold fu
    rw [b2]
theorem rel_tree {σ μ σ' μ' : St} (h : rel σ μ) (hσ : ∀ i : Nat, i ≠ 4 → i ≠ 5 → i ≠ 6 → i ≠ 7 → σ' i = σ i) (hμ : ∀ i : Nat, i ≠ 3 → μ' i = μ i) (k : Int) (hk : trR σ' μ' k) (ho : ∀ j, j ≠ k → (σ' 4 j = σ 4 j ∧ σ' 5 j = σ 5 j ∧ σ' 6 j = σ 6 j ∧ σ' 7 j = σ 7 j) ∧ ∀ w, 0 ≤ w → w < 5 → μ' 3 (5 * j + w) = μ 3 (5 * j + w)) : rel σ' μ' := by
  obtain ⟨⟨a1, a2, a3, a4⟩, ⟨b1, b2, b3, b4⟩, t⟩ := h
  rw [← hσ 0 (by decide) (by decide) (by decide) (by decide), ← hμ 0 (by decide)] at a1
  rw [← hσ 1 (by decide) (by decide) (by decide) (by decide), ← hμ 1 (by decide)] at a2
  rw [← hσ 3 (by decide) (by decide) (by decide) (by decide), ← hμ 2 (by decide)] at a3
  rw [← hσ 2 (by decide) (by decide) (by decide) (by decide), ← hμ 4 (by decide)] at a4
  rw [← hσ 8 (by decide) (by decide) (by decide) (by decide), ← hμ 5 (by decide)] at b1 b2
  rw [← hσ 9 (by decide) (by decide) (by decide) (by decide), ← hμ 5 (by decide)] at b3
  rw [← hσ 9 (by decide) (by decide) (by decide) (by decide), ← hμ 6 (by decide)] at b4
  refine ⟨⟨a1, a2, a3, a4⟩, ⟨b1, b2, b3, b4⟩, fun j => ?_⟩
  by_cases hj : j = k
  · rw [hj]; exact hk
  · obtain ⟨⟨c4, c5, c6, c7⟩, hw⟩ := ho j hj
    have tj := t j
    unfold trR at tj ⊢
    rw [c4, c5, c6, c7, hw 0 (by decide) (by decide), hw 1 (by decide) (by decide), hw 2 (by decide) (by decide), hw 3 (by decide) (by decide), hw 4 (by decide) (by decide)]
    exact tj
theorem tw_p {r p : Int} (hp : 0 ≤ p ∧ p ≤ 7) : tw (8 * r + p) = p / 4 := by
  unfold tw
  split <;> omega
theorem rel_st {σ μ : St} (h : rel σ μ) {r p : Int} (hp : 0 ≤ p ∧ p ≤ 7) : μ 5 (p / 4) = σ 8 (tw (8 * r + p)) := by
  rw [tw_p hp]
  rcases (show p / 4 = 0 ∨ p / 4 = 1 by omega) with e | e <;> rw [e]
  · exact h.2.1.1
  · exact h.2.1.2.1
theorem mDo_yes {μ : St} {r p w i v : Int} (h : cst w ≤ μ 5 (p / 4) ∧ mCan μ (8 * r + p) w i = 1) : mDoA μ r p w i = 1 ∧ mDo μ r p w i v = mChg (su μ 5 (p / 4) (μ 5 (p / 4) - cst w)) (8 * r + p) w i v := ⟨bI_t h, if_pos h⟩
theorem mDo_not {μ : St} {r p w i v : Int} (h : ¬ (cst w ≤ μ 5 (p / 4) ∧ mCan μ (8 * r + p) w i = 1)) : mDoA μ r p w i = 0 ∧ mDo μ r p w i v = μ := ⟨bI_f h, if_neg h⟩
theorem rel_pl {σ μ : St} (h : rel σ μ) {r p n v : Int} (hp : 0 ≤ p ∧ p ≤ 7) (hn : 0 ≤ n) : mDoA μ r p 0 n = plA σ (8 * r + p) ∧ rel (xPlant σ (8 * r + p) n v) (mDo μ r p 0 n v) := by
  have hs := rel_st h (r := r) hp
  obtain ⟨t0, t1, t2, t4⟩ := h.2.2 (8 * r + p)
  have hc : (cst 0 ≤ μ 5 (p / 4) ∧ mCan μ (8 * r + p) 0 n = 1) ↔ (σ 4 (8 * r + p) = -1 ∧ 5 ≤ σ 8 (tw (8 * r + p))) := by
    rw [hs, show mCan μ (8 * r + p) 0 n = bI (¬ μ 3 (5 * (8 * r + p) + 0) = 1) from if_pos rfl, bI_iff, show cst 0 = 5 from rfl]
    omega
  by_cases g : σ 4 (8 * r + p) = -1 ∧ 5 ≤ σ 8 (tw (8 * r + p))
  · obtain ⟨e1, e2⟩ := mDo_yes (v := v) (hc.mpr g)
    rw [e1, e2]
    refine ⟨(bI_t g).symm, ?_⟩
    unfold xPlant xSp mChg
    rw [if_pos g, if_pos rfl, hs, tw_p hp]
    have h1 := rel_sp h (t := p / 4) (by omega) (σ 8 (p / 4) - 5)
    refine rel_tree h1 (fun i a4 a5 a6 a7 => ?_) (fun i a3 => ?_) (8 * r + p) ?_ (fun j hj => ?_)
    · unfold su
      simp only [if_neg a4, if_neg a5, if_neg a6, if_neg a7]
    · unfold sr
      rw [if_neg a3]
      rfl
    · have q : ∀ w : Int, 0 ≤ w → w < 5 → icpy (said n v) (μ 3) 0 (5 * (8 * r + p)) 5 (5 * (8 * r + p) + w) = said n v w := by
        intro w h0 h5
        unfold icpy
        rw [if_pos (by omega)]
        congr 1
        omega
      refine ⟨Or.inr ⟨?_, q 0 (by decide) (by decide), ?_⟩, ?_, ?_, ?_⟩
      · show ¬ fu (σ 4) (8 * r + p) n (8 * r + p) = -1
        rw [fu_h _ _ rfl]
        omega
      · exact (q 3 (by decide) (by decide)).trans (fu_h (σ 4) n (k := 8 * r + p) rfl).symm
      · exact (q 1 (by decide) (by decide)).trans (fu_h (σ 5) 1 (k := 8 * r + p) rfl).symm
      · exact (q 2 (by decide) (by decide)).trans (fu_h (σ 6) v (k := 8 * r + p) rfl).symm
      · exact (q 4 (by decide) (by decide)).trans (fu_h (σ 7) 0 (k := 8 * r + p) rfl).symm
    · refine ⟨⟨fu_n _ _ hj, fu_n _ _ hj, fu_n _ _ hj, fu_n _ _ hj⟩, fun w h0 h5 => ?_⟩
      show icpy (said n v) (μ 3) 0 (5 * (8 * r + p)) 5 (5 * j + w) = μ 3 (5 * j + w)
      unfold icpy
      rw [if_neg (by omega)]
  · obtain ⟨e1, e2⟩ := mDo_not (v := v) (fun q => g (hc.mp q))
    rw [e1, e2]
    refine ⟨(bI_f g).symm, ?_⟩
    unfold xPlant
    rw [if_neg g]
    exact h
theorem rel_pr {σ μ : St} (h : rel σ μ) {r p c : Int} (hp : 0 ≤ p ∧ p ≤ 7) : mDoA μ r p 1 c = prA σ (8 * r + p) c ∧ rel (xPrune σ (8 * r + p) c) (mDo μ r p 1 c 0) := by
  have hs := rel_st h (r := r) hp
  obtain ⟨t0, t1, t2, t4⟩ := h.2.2 (8 * r + p)
  have hc : (cst 1 ≤ μ 5 (p / 4) ∧ mCan μ (8 * r + p) 1 c = 1) ↔ (¬ σ 4 (8 * r + p) = -1 ∧ c ≤ σ 5 (8 * r + p) ∧ 2 ≤ σ 8 (tw (8 * r + p))) := by
    rw [hs, show mCan μ (8 * r + p) 1 c = bI (μ 3 (5 * (8 * r + p) + 0) = 1 ∧ c ≤ μ 3 (5 * (8 * r + p) + 1)) from rfl, bI_iff, show cst 1 = 2 from rfl, t1]
    omega
  by_cases g : ¬ σ 4 (8 * r + p) = -1 ∧ c ≤ σ 5 (8 * r + p) ∧ 2 ≤ σ 8 (tw (8 * r + p))
  · obtain ⟨e1, e2⟩ := mDo_yes (v := 0) (hc.mpr g)
    rw [e1, e2]
    refine ⟨(bI_t g).symm, ?_⟩
    unfold xPrune xSp
    rw [if_pos g, hs, tw_p hp]
    have h1 := rel_sp h (t := p / 4) (by omega) (σ 8 (p / 4) - 2)
    show rel _ (su (su (su μ 5 (p / 4) (σ 8 (p / 4) - 2)) 3 (5 * (8 * r + p) + 1) (μ 3 (5 * (8 * r + p) + 1) - c)) 3 (5 * (8 * r + p) + 4) 0)
    refine rel_tree h1 (fun i a4 a5 a6 a7 => ?_) (fun i a3 => ?_) (8 * r + p) ?_ (fun j hj => ?_)
    · unfold su
      simp only [if_neg a5, if_neg a7]
    · unfold su
      simp only [if_neg a3]
    · refine ⟨Or.inr ⟨g.1, ?_, ?_⟩, ?_, ?_, ?_⟩
      · exact (fu_n _ _ (by omega)).trans ((fu_n _ _ (by omega)).trans (show μ 3 (5 * (8 * r + p) + 0) = 1 by omega))
      · exact (fu_n _ _ (by omega)).trans ((fu_n _ _ (by omega)).trans (show μ 3 (5 * (8 * r + p) + 3) = σ 4 (8 * r + p) by omega))
      · refine (fu_n _ _ (by omega)).trans ((fu_h _ _ rfl).trans ?_)
        rw [t1]
        exact (fu_h (σ 5) _ (k := 8 * r + p) rfl).symm
      · exact (fu_n _ _ (by omega)).trans ((fu_n _ _ (by omega)).trans t2)
      · exact (fu_h _ _ rfl).trans (fu_h (σ 7) 0 (k := 8 * r + p) rfl).symm
    · refine ⟨⟨rfl, fu_n _ _ hj, rfl, fu_n _ _ hj⟩, fun w h0 h5 => ?_⟩
      exact (fu_n _ _ (by omega)).trans (fu_n _ _ (by omega))
  · obtain ⟨e1, e2⟩ := mDo_not (v := 0) (fun q => g (hc.mp q))
    rw [e1, e2]
    refine ⟨(bI_f g).symm, ?_⟩
    unfold xPrune
    rw [if_neg g]
    exact h
theorem rel_gr {σ μ : St} (h : rel σ μ) {r p n : Int} (hp : 0 ≤ p ∧ p ≤ 7) (hn : 0 ≤ n) : mDoA μ r p 2 n = grA σ (8 * r + p) n ∧ rel (xGraft σ (8 * r + p) n) (mDo μ r p 2 n 0) := by
  have hs := rel_st h (r := r) hp
  obtain ⟨t0, t1, t2, t4⟩ := h.2.2 (8 * r + p)
  have hc : (cst 2 ≤ μ 5 (p / 4) ∧ mCan μ (8 * r + p) 2 n = 1) ↔ (¬ σ 4 (8 * r + p) = -1 ∧ ¬ σ 4 (8 * r + p) = n ∧ 1 ≤ σ 5 (8 * r + p) ∧ 4 ≤ σ 8 (tw (8 * r + p))) := by
    rw [hs, show mCan μ (8 * r + p) 2 n = bI (μ 3 (5 * (8 * r + p) + 0) = 1 ∧ ¬ μ 3 (5 * (8 * r + p) + 3) = n ∧ 0 < μ 3 (5 * (8 * r + p) + 1)) from rfl, bI_iff, show cst 2 = 4 from rfl, t1]
    omega
  by_cases g : ¬ σ 4 (8 * r + p) = -1 ∧ ¬ σ 4 (8 * r + p) = n ∧ 1 ≤ σ 5 (8 * r + p) ∧ 4 ≤ σ 8 (tw (8 * r + p))
  · obtain ⟨e1, e2⟩ := mDo_yes (v := 0) (hc.mpr g)
    rw [e1, e2]
    refine ⟨(bI_t g).symm, ?_⟩
    unfold xGraft xSp
    rw [if_pos g, hs, tw_p hp]
    have h1 := rel_sp h (t := p / 4) (by omega) (σ 8 (p / 4) - 4)
    show rel _ (su (su (su μ 5 (p / 4) (σ 8 (p / 4) - 4)) 3 (5 * (8 * r + p) + 3) n) 3 (5 * (8 * r + p) + 1) (max 1 (μ 3 (5 * (8 * r + p) + 1) / 2)))
    refine rel_tree h1 (fun i a4 a5 a6 a7 => ?_) (fun i a3 => ?_) (8 * r + p) ?_ (fun j hj => ?_)
    · unfold su
      simp only [if_neg a4, if_neg a5]
    · unfold su
      simp only [if_neg a3]
    · refine ⟨Or.inr ⟨?_, ?_, ?_⟩, ?_, ?_, ?_⟩
      · show ¬ fu (σ 4) (8 * r + p) n (8 * r + p) = -1
        rw [fu_h _ _ rfl]
        omega
      · exact (fu_n _ _ (by omega)).trans ((fu_n _ _ (by omega)).trans (show μ 3 (5 * (8 * r + p) + 0) = 1 by omega))
      · exact (fu_n _ _ (by omega)).trans ((fu_h _ _ rfl).trans (fu_h (σ 4) n (k := 8 * r + p) rfl).symm)
      · refine (fu_h _ _ rfl).trans ?_
        rw [t1]
        exact (fu_h (σ 5) _ (k := 8 * r + p) rfl).symm
      · exact (fu_n _ _ (by omega)).trans ((fu_n _ _ (by omega)).trans t2)
      · exact (fu_n _ _ (by omega)).trans ((fu_n _ _ (by omega)).trans t4)
    · refine ⟨⟨fu_n _ _ hj, fu_n _ _ hj, rfl, rfl⟩, fun w h0 h5 => ?_⟩
      exact (fu_n _ _ (by omega)).trans (fu_n _ _ (by omega))
  · obtain ⟨e1, e2⟩ := mDo_not (v := 0) (fun q => g (hc.mp q))
    rw [e1, e2]
    refine ⟨(bI_f g).symm, ?_⟩
    unfold xGraft
    rw [if_neg g]
    exact h
theorem rel_fe {σ μ : St} (h : rel σ μ) {r p : Int} (hp : 0 ≤ p ∧ p ≤ 7) : mDoA μ r p 3 0 = feA σ (8 * r + p) ∧ rel (xFell σ (8 * r + p)) (mDo μ r p 3 0 0) := by
  have hs := rel_st h (r := r) hp
  obtain ⟨t0, t1, t2, t4⟩ := h.2.2 (8 * r + p)
  have hc : (cst 3 ≤ μ 5 (p / 4) ∧ mCan μ (8 * r + p) 3 0 = 1) ↔ (¬ σ 4 (8 * r + p) = -1 ∧ 6 ≤ σ 8 (tw (8 * r + p))) := by
    rw [hs, show mCan μ (8 * r + p) 3 0 = bI (μ 3 (5 * (8 * r + p) + 0) = 1) from rfl, bI_iff, show cst 3 = 6 from rfl]
    omega
  by_cases g : ¬ σ 4 (8 * r + p) = -1 ∧ 6 ≤ σ 8 (tw (8 * r + p))
  · obtain ⟨e1, e2⟩ := mDo_yes (v := 0) (hc.mpr g)
    rw [e1, e2]
    refine ⟨(bI_t g).symm, ?_⟩
    unfold xFell xSp
    rw [if_pos g, hs, tw_p hp]
    have h1 := rel_sp h (t := p / 4) (by omega) (σ 8 (p / 4) - 6)
    show rel _ (felU (su μ 5 (p / 4) (σ 8 (p / 4) - 6)) (8 * r + p) 5)
    refine rel_tree h1 (fun i a4 a5 a6 a7 => ?_) (fun i a3 => ?_) (8 * r + p) ?_ (fun j hj => ?_)
    · unfold su
      simp only [if_neg a4, if_neg a5, if_neg a6, if_neg a7]
    · unfold felU sr
      rw [if_neg a3]
    · have q : ∀ w : Int, 0 ≤ w → w < 5 → felU (su μ 5 (p / 4) (σ 8 (p / 4) - 6)) (8 * r + p) 5 3 (5 * (8 * r + p) + w) = 0 := by
        intro w h0 h5
        show felF _ (8 * r + p) 5 (5 * (8 * r + p) + w) = 0
        unfold felF
        rw [if_pos (by omega)]
      refine ⟨Or.inl ⟨fu_h (σ 4) (-1) (k := 8 * r + p) rfl, q 0 (by decide) (by decide), q 3 (by decide) (by decide), fu_h (σ 5) 0 (k := 8 * r + p) rfl, fu_h (σ 6) 0 (k := 8 * r + p) rfl, fu_h (σ 7) 0 (k := 8 * r + p) rfl⟩, ?_, ?_, ?_⟩
      · exact (q 1 (by decide) (by decide)).trans (fu_h (σ 5) 0 (k := 8 * r + p) rfl).symm
      · exact (q 2 (by decide) (by decide)).trans (fu_h (σ 6) 0 (k := 8 * r + p) rfl).symm
      · exact (q 4 (by decide) (by decide)).trans (fu_h (σ 7) 0 (k := 8 * r + p) rfl).symm
    · refine ⟨⟨fu_n _ _ hj, fu_n _ _ hj, fu_n _ _ hj, fu_n _ _ hj⟩, fun w h0 h5 => ?_⟩
      show felF _ (8 * r + p) 5 (5 * j + w) = μ 3 (5 * j + w)
      unfold felF
      rw [if_neg (by omega)]
      rfl
  · obtain ⟨e1, e2⟩ := mDo_not (v := 0) (fun q => g (hc.mp q))
    rw [e1, e2]
    refine ⟨(bI_f g).symm, ?_⟩
    unfold xFell
    rw [if_neg g]
    exact h
theorem mir_p {r p : Int} (hp : 0 ≤ p ∧ p ≤ 7) : mir (8 * r + p) = 8 * r + (7 - p) := by
  unfold mir
  omega
theorem who_is (μ : St) (r p w i v : Int) : mBoA μ r p w i v = who (mDoA μ r p w i) (mDoA (mDo μ r p w i v) r (7 - p) w i) := rfl
theorem rel_plant {σ μ : St} (h : rel σ μ) {r p n v : Int} (hp : 0 ≤ p ∧ p ≤ 7) (hn : 0 ≤ n) : mBoA μ r p 0 n v = who (plA σ (r * 8 + p)) (plA (xPlant σ (r * 8 + p) n v) (mir (r * 8 + p))) ∧ rel (xPlant (xPlant σ (r * 8 + p) n v) (mir (r * 8 + p)) n v) (mBo μ r p 0 n v) := by
  obtain ⟨e1, h1⟩ := rel_pl h (r := r) (v := v) hp hn
  obtain ⟨e2, h2⟩ := rel_pl h1 (r := r) (p := 7 - p) (v := v) (by omega) hn
  rw [who_is, show r * 8 + p = 8 * r + p by omega, mir_p hp, e1, e2]
  exact ⟨rfl, h2⟩
theorem rel_prune {σ μ : St} (h : rel σ μ) {r p c : Int} (hp : 0 ≤ p ∧ p ≤ 7) : mBoA μ r p 1 c 0 = who (prA σ (r * 8 + p) c) (prA (xPrune σ (r * 8 + p) c) (mir (r * 8 + p)) c) ∧ rel (xPrune (xPrune σ (r * 8 + p) c) (mir (r * 8 + p)) c) (mBo μ r p 1 c 0) := by
  obtain ⟨e1, h1⟩ := rel_pr h (r := r) (c := c) hp
  obtain ⟨e2, h2⟩ := rel_pr h1 (r := r) (p := 7 - p) (c := c) (by omega)
  rw [who_is, show r * 8 + p = 8 * r + p by omega, mir_p hp, e1, e2]
  exact ⟨rfl, h2⟩
theorem rel_graft {σ μ : St} (h : rel σ μ) {r p n : Int} (hp : 0 ≤ p ∧ p ≤ 7) (hn : 0 ≤ n) : mBoA μ r p 2 n 0 = who (grA σ (r * 8 + p) n) (grA (xGraft σ (r * 8 + p) n) (mir (r * 8 + p)) n) ∧ rel (xGraft (xGraft σ (r * 8 + p) n) (mir (r * 8 + p)) n) (mBo μ r p 2 n 0) := by
  obtain ⟨e1, h1⟩ := rel_gr h (r := r) hp hn
  obtain ⟨e2, h2⟩ := rel_gr h1 (r := r) (p := 7 - p) (by omega) hn
  rw [who_is, show r * 8 + p = 8 * r + p by omega, mir_p hp, e1, e2]
  exact ⟨rfl, h2⟩
theorem rel_fell {σ μ : St} (h : rel σ μ) {r p : Int} (hp : 0 ≤ p ∧ p ≤ 7) : mBoA μ r p 3 0 0 = who (feA σ (r * 8 + p)) (feA (xFell σ (r * 8 + p)) (mir (r * 8 + p))) ∧ rel (xFell (xFell σ (r * 8 + p)) (mir (r * 8 + p))) (mBo μ r p 3 0 0) := by
  obtain ⟨e1, h1⟩ := rel_fe h (r := r) hp
  obtain ⟨e2, h2⟩ := rel_fe h1 (r := r) (p := 7 - p) (by omega)
  rw [who_is, show r * 8 + p = 8 * r + p by omega, mir_p hp, e1, e2]
  exact ⟨rfl, h2⟩
