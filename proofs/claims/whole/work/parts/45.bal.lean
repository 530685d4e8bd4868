/-! balance: both answer alike -/
/-- v can be had with at most n pieces of weight w more -/
def Rn (P : Int → Prop) (w : Int) : Nat → Int → Prop
  | 0, v => P v
  | n + 1, v => P v ∨ (w ≤ v ∧ Rn P w n (v - w))
theorem Rn_p {P : Int → Prop} {w : Int} (n : Nat) {v : Int} (h : P v) : Rn P w n v := by
  cases n with
  | zero => exact h
  | succ n => exact Or.inl h
theorem Rn_m {P : Int → Prop} {w : Int} (n : Nat) : ∀ {v : Int}, Rn P w n v → Rn P w (n + 1) v := by
  induction n with
  | zero => exact fun h => Or.inl h
  | succ n ih =>
    intro v h
    rcases h with h | ⟨h1, h2⟩
    · exact Or.inl h
    · exact Or.inr ⟨h1, ih h2⟩
theorem Rn_s {P : Int → Prop} {w : Int} (n : Nat) (v : Int) : Rn P w (n + 1) v ↔ Rn P w n v ∨ (w ≤ v ∧ Rn P w n (v - w)) := by
  constructor
  · intro h
    rcases h with h | h
    · exact Or.inl (Rn_p n h)
    · exact Or.inr h
  · intro h
    rcases h with h | h
    · exact Rn_m n h
    · exact Or.inr h
theorem Rn_c {P Q : Int → Prop} {w L : Int} (hw : 0 ≤ w) (h : ∀ v, 0 ≤ v → v ≤ L → (P v ↔ Q v)) (n : Nat) : ∀ v, 0 ≤ v → v ≤ L → (Rn P w n v ↔ Rn Q w n v) := by
  induction n with
  | zero => exact h
  | succ n ih =>
    intro v h0 h1
    constructor
    · intro g
      rcases g with g | ⟨g1, g2⟩
      · exact Or.inl ((h v h0 h1).mp g)
      · exact Or.inr ⟨g1, (ih (v - w) (by omega) (by omega)).mp g2⟩
    · intro g
      rcases g with g | ⟨g1, g2⟩
      · exact Or.inl ((h v h0 h1).mpr g)
      · exact Or.inr ⟨g1, (ih (v - w) (by omega) (by omega)).mpr g2⟩
/-- the reference: one round a piece -/
theorem dpN_R {f : Int → Int} (hf : b01F f) {w T : Int} (hw : 0 ≤ w) (n : Nat) : ∀ v, v ≤ T → (dpN f w T n v = 1 ↔ Rn (fun v => f v = 1) w n v) := by
  induction n with
  | zero => exact fun v _ => Iff.rfl
  | succ n ih =>
    intro v h1
    have b1 := dpN_01 hf w T n v
    have b2 := dpN_01 hf w T n (v - w)
    rw [Rn_s, ← ih v h1]
    show dpo (dpN f w T n) w T v = 1 ↔ _
    unfold dpo
    by_cases g : w ≤ v
    · rw [if_pos ⟨g, h1⟩, ← ih (v - w) (by omega)]
      omega
    · rw [if_neg (fun q => g q.1)]
      exact ⟨fun q => Or.inl q, fun q => q.elim id (fun q => absurd q.1 g)⟩
/-- the class: the fewest pieces for each weight -/
theorem rwF_R {f : Int → Int} {w n : Int} (hw : 1 ≤ w) (hn : 0 ≤ n) (k : Nat) : (∀ v : Int, (k : Int) ≤ v → rwF w n f k v = f v) ∧ ∀ v : Int, 0 ≤ v → v < (k : Int) → (rwF w n f k v = -1 ∨ 0 ≤ rwF w n f k v ∧ rwF w n f k v ≤ n) ∧ ∀ m : Nat, (m : Int) ≤ n → ((¬ rwF w n f k v = -1 ∧ rwF w n f k v ≤ m) ↔ Rn (fun v => ¬ f v = -1) w m v) := by
  induction k with
  | zero => exact ⟨fun v _ => rfl, fun v h0 h1 => by omega⟩
  | succ k ih =>
    obtain ⟨ha, hb⟩ := ih
    have hk := ha k (by omega)
    have off : ∀ v : Int, v ≠ k → rwS w n (rwF w n f k) k v = rwF w n f k v := by
      intro v hv
      unfold rwS
      split
      · exact fu_n _ _ hv
      · split
        · exact fu_n _ _ hv
        · rfl
    refine ⟨fun v hv => ?_, fun v h0 h1 => ?_⟩
    · show rwS w n (rwF w n f k) k v = f v
      rw [off v (by omega), ha v (by omega)]
    · show (rwS w n (rwF w n f k) k v = -1 ∨ 0 ≤ rwS w n (rwF w n f k) k v ∧ rwS w n (rwF w n f k) k v ≤ n) ∧ ∀ m : Nat, (m : Int) ≤ n → ((¬ rwS w n (rwF w n f k) k v = -1 ∧ rwS w n (rwF w n f k) k v ≤ m) ↔ Rn (fun v => ¬ f v = -1) w m v)
      by_cases e : v = k
      · by_cases g : ¬ f v = -1
        · have ev : rwS w n (rwF w n f k) k v = 0 := by
            unfold rwS
            rw [hk, ← e, if_pos g]
            exact fu_h _ _ rfl
          rw [ev]
          exact ⟨Or.inr ⟨Int.le_refl _, hn⟩, fun m hm => ⟨fun _ => Rn_p m g, fun _ => ⟨by decide, by omega⟩⟩⟩
        · by_cases gw : w ≤ v
          · obtain ⟨u1, u2⟩ := hb (v - w) (by omega) (by omega)
            by_cases gu : ¬ rwF w n f k (v - w) = -1 ∧ rwF w n f k (v - w) < n
            · have ev : rwS w n (rwF w n f k) k v = rwF w n f k (v - w) + 1 := by
                unfold rwS
                rw [hk, ← e, if_neg g, if_pos ⟨gw, gu⟩]
                exact fu_h _ _ rfl
              rw [ev]
              refine ⟨Or.inr (by omega), fun m hm => ?_⟩
              cases m with
              | zero =>
                constructor
                · intro q
                  omega
                · exact fun q => absurd q g
              | succ m =>
                have u3 := u2 m (by omega)
                constructor
                · intro q
                  exact Or.inr ⟨gw, u3.mp ⟨gu.1, by omega⟩⟩
                · intro q
                  rcases q with q | q
                  · exact absurd q g
                  · have u4 := u3.mpr q.2
                    omega
            · have ev : rwS w n (rwF w n f k) k v = -1 := by
                unfold rwS
                rw [hk, ← e, if_neg g, if_neg (fun q => gu q.2)]
                have q := ha v (by omega)
                omega
              rw [ev]
              refine ⟨Or.inl rfl, fun m hm => ⟨fun q => absurd rfl q.1, fun q => ?_⟩⟩
              exfalso
              cases m with
              | zero => exact g q
              | succ m =>
                rcases q with q | q
                · exact g q
                · have u4 := (u2 m (by omega)).mpr q.2
                  omega
          · have ev : rwS w n (rwF w n f k) k v = -1 := by
              unfold rwS
              rw [hk, ← e, if_neg g, if_neg (fun q => gw q.1)]
              have q := ha v (by omega)
              omega
            rw [ev]
            refine ⟨Or.inl rfl, fun m hm => ⟨fun q => absurd rfl q.1, fun q => ?_⟩⟩
            exfalso
            cases m with
            | zero => exact g q
            | succ m =>
              rcases q with q | q
              · exact g q
              · exact gw q.1
      · rw [off v e]
        exact hb v h0 (by omega)
theorem rwF_541 {f : Int → Int} {w n : Int} (hw : 1 ≤ w) (hn : 0 ≤ n) {v : Int} (h0 : 0 ≤ v) (h1 : v ≤ 540) : ¬ rwFI w n f 541 v = -1 ↔ Rn (fun v => ¬ f v = -1) w n.toNat v := by
  obtain ⟨q1, q2⟩ := (rwF_R (f := f) hw hn 541).2 v h0 (by omega)
  have q3 := q2 n.toNat (by omega)
  rw [← q3]
  show ¬ rwF w n f 541 v = -1 ↔ _
  omega
theorem stage {σ μ : St} (hx : xWF σ) (h : rel σ μ) {T L : Int} (hT : L ≤ T) (hL : L ≤ 540) (i : Nat) : ∀ v, 0 ≤ v → v ≤ L → (¬ hvF σ i v = -1 ↔ dpS μ T i v = 1) := by
  induction i with
  | zero =>
    intro v h0 h1
    show ¬ fu (fun _ => -1) 0 0 v = -1 ↔ fu (fun _ => 0) 0 1 v = 1
    unfold fu
    by_cases e : v = 0
    · rw [if_pos e, if_pos e]
      decide
    · rw [if_neg e, if_neg e]
      exact ⟨fun q => absurd rfl q, fun q => absurd (show (0 : Int) = 1 from q) (by decide)⟩
  | succ i ih =>
    intro v h0 h1
    obtain ⟨⟨a1, a2, a3, a4⟩, -, -⟩ := h
    have w0 := xWF_0 hx i
    have w2 := xWF_2 hx i
    have b := bal_in (σ := σ) i
    have eb : (bal σ i).toNat = (min 20 (μ 4 i)).toNat := by
      rw [a4]
      unfold bal
      omega
    show ¬ rwFI (σ 0 i) (bal σ i) (hvF σ i) 541 v = -1 ↔ dpN (dpS μ T i) (μ 0 i) T (min 20 (μ 4 i)).toNat v = 1
    rw [rwF_541 w0.1 b.1 h0 (by omega), a1, dpN_R (dpS_01 μ T i) (by omega) _ v (by omega), ← eb]
    exact Rn_c (by omega) ih _ v h0 h1
theorem hvy_dnz {F f : Int → Int} {L : Int} (hf : b01F f) (h : ∀ v, 0 ≤ v → v ≤ L → (¬ F v = -1 ↔ f v = 1)) (n : Nat) (hn : (n : Int) ≤ L) : hvy F n = dnz f n := by
  induction n with
  | zero => rfl
  | succ n ih =>
    have q := h ((n : Int) + 1) (by omega) (by omega)
    have b := hf ((n : Int) + 1)
    show (if F ((n : Int) + 1) = -1 then hvy F n else (n : Int) + 1) = if f ((n : Int) + 1) = 0 then dnz f n else (n : Int) + 1
    by_cases g : F ((n : Int) + 1) = -1
    · rw [if_pos g, if_pos (by omega), ih (by omega)]
    · rw [if_neg g, if_neg (by omega)]
theorem ask_balance {σ μ : St} (hx : xWF σ) (hm : mWF μ) (h : rel σ μ) : mBal μ = xBal σ := by
  have eT : mBT μ = xBalT σ := by
    unfold mBT xBalT
    refine isum_c 6 (fun j h0 h1 => ?_)
    have w2 := xWF_2 hx j
    rw [h.1.1, h.1.2.2.2, Int.mul_comm]
    refine congrArg (fun z => z * σ 0 j) ?_
    unfold bal
    omega
  have kT := mBT_in hm
  unfold mBal xBal
  rw [eT] at kT ⊢
  have e1 : min (xBalT σ / 2) 540 = xBalT σ / 2 := by omega
  rw [e1]
  refine congrArg (fun z => xBalT σ - 2 * z) ?_
  exact (hvy_dnz (dpS_01 μ _ 6) (stage hx h (T := xBalT σ) (L := xBalT σ / 2) (by omega) (by omega) 6) _ (by omega)).symm
