/-! the reference: year by year -/
def relC (σ μ : St) (c : Int → Nat) (Y : Int) : Prop := (μ 0 = σ 0 ∧ μ 1 = σ 1 ∧ μ 2 = σ 3 ∧ μ 6 1 = σ 9 1) ∧ μ 5 2 = Y ∧ (∀ a, μ 4 a = σ 2 a + bnS σ c a) ∧ ∀ k, trR (xC σ c) μ k
theorem relC_of {σ μ : St} (h : rel σ μ) : relC σ μ (fun _ => 0) (σ 9 0) := by
  obtain ⟨⟨a1, a2, a3, a4⟩, ⟨b1, b2, b3, b4⟩, t⟩ := h
  have hx := xC_0 σ
  refine ⟨⟨a1, a2, a3, b4⟩, b3, fun a => ?_, fun k => by rw [hx]; exact t k⟩
  have h2 : xC σ (fun _ => 0) 2 a = σ 2 a := by rw [hx]
  rw [a4]
  exact h2.symm
theorem relC_n {σ μ : St} {c : Int → Nat} {Y j : Int} (h : relC σ μ c Y) (hn : σ 4 j = -1) (v : Nat) : relC σ μ (upc c j v) Y := by
  obtain ⟨h1, h2, h3, h4⟩ := h
  have e := xC_n (c := c) (v := v) hn
  refine ⟨h1, h2, fun a => ?_, fun k => by rw [e]; exact h4 k⟩
  have h5 : xC σ (upc c j v) 2 a = xC σ c 2 a := by rw [e]
  rw [h3 a]
  exact h5.symm
theorem relC_s {σ μ : St} (hx : xWF σ) {c : Int → Nat} {Y j f : Int} {n : Nat} (h : relC σ μ c Y) (h0 : 0 ≤ j) (h1 : j < 40) (hc : c j = n) (hf : f = fr σ n) : relC σ (mYr μ f j) (upc c j (n + 1)) Y ∧ yA1 μ f j = (TT σ j (n + 1)).2.2 - (TT σ j n).2.2 := by
  obtain ⟨⟨a1, a2, a3, a4⟩, aY, hb, ht⟩ := id h
  obtain ⟨t0, t1, t2, t4⟩ := ht j
  have t0' : σ 4 j = -1 ∧ μ 3 (5 * j + 0) = 0 ∨ ¬ σ 4 j = -1 ∧ μ 3 (5 * j + 0) = 1 ∧ μ 3 (5 * j + 3) = σ 4 j := by
    rcases t0 with ⟨q1, q2, -⟩ | q
    · exact Or.inl ⟨q1, q2⟩
    · exact Or.inr q
  rcases t0' with ⟨g, g0⟩ | ⟨g, g0, g3⟩
  · refine ⟨?_, ?_⟩
    · rw [show mYr μ f j = μ from if_neg (by omega)]
      exact relC_n h g _
    · rw [show yA1 μ f j = 0 from if_neg (by omega), TT_n g, TT_n g]
      rfl
  · have e1 : μ 3 (5 * j + 1) = (TT σ j n).1 := by rw [t1, ← hc]; rfl
    have e2 : μ 3 (5 * j + 2) = σ 6 j := t2
    have e4 : μ 3 (5 * j + 4) = (TT σ j n).2.1 := by rw [t4, ← hc]; rfl
    have eh : σ 1 (σ 4 j) = lkh σ j := (if_neg g).symm
    have eb : mBr μ f j = yfz (fr σ n) (lkh σ j) (TT σ j n).1 := by
      unfold mBr
      rw [e1, a2, g3, eh, hf]
      rfl
    have et := TT_t hx j n
    have ea : yAp μ f j = yap (σ 6 j) (fr σ n) (lkh σ j) (TT σ j n).1 (TT σ j n).2.1 := by
      have q1 : y1 μ f j 3 (5 * j + 1) = mBr μ f j := fu_h _ _ rfl
      have q2 : y1 μ f j 3 (5 * j + 2) = σ 6 j := (fu_n _ _ (by omega)).trans e2
      have q4 : y1 μ f j 3 (5 * j + 4) = (TT σ j n).2.1 := (fu_n _ _ (by omega)).trans e4
      show (if y1 μ f j 3 (5 * j + 4) = 1 then y1 μ f j 3 (5 * j + 1) * y1 μ f j 3 (5 * j + 2) / 4 else y1 μ f j 3 (5 * j + 1) * y1 μ f j 3 (5 * j + 2)) = _
      rw [q1, q2, q4, eb]
      show _ = (if (TT σ j n).2.1 = 0 then yfz (fr σ n) (lkh σ j) (TT σ j n).1 * σ 6 j else yfz (fr σ n) (lkh σ j) (TT σ j n).1 * σ 6 j / 4)
      rcases et with e | e
      · rw [if_neg (by omega), if_pos e]
      · rw [if_pos e, if_neg (by omega)]
    have hs := TT_s g n
    have k3 : y1 μ f j 3 (5 * j + 3) = σ 4 j := (fu_n _ _ (by omega)).trans g3
    have k2 : y3 μ f j 3 (5 * j + 2) = σ 6 j := (fu_n _ _ (by omega)).trans ((fu_n _ _ (by omega)).trans e2)
    refine ⟨?_, ?_⟩
    · rw [show mYr μ f j = su (y3 μ f j) 3 (5 * j + 1) (min 9 (mBr μ f j + grm (y3 μ f j 3 (5 * j + 2)))) from if_pos g0, k2, eb]
      refine ⟨⟨a1, a2, a3, a4⟩, aY, fun a => ?_, fun k => ?_⟩
      · show fu (μ 4) (y1 μ f j 3 (5 * j + 3)) (μ 4 (y1 μ f j 3 (5 * j + 3)) + yAp μ f j) a = σ 2 a + bnS σ (upc c j (n + 1)) a
        rw [k3, ea, bnS_u σ c _ h0 h1, hc, hs, hb]
        show fu (μ 4) (σ 4 j) (σ 2 (σ 4 j) + bnS σ c (σ 4 j) + yap (σ 6 j) (fr σ n) (lkh σ j) (TT σ j n).1 (TT σ j n).2.1) a = σ 2 a + (bnS σ c a + if σ 4 j = a then ((TT σ j n).2.2 + yap (σ 6 j) (fr σ n) (lkh σ j) (TT σ j n).1 (TT σ j n).2.1) - (TT σ j n).2.2 else 0)
        unfold fu
        by_cases e : a = σ 4 j
        · rw [if_pos e, if_pos e.symm, e]
          omega
        · rw [if_neg e, if_neg (fun q => e q.symm), hb a]
          omega
      · have row3 : ∀ x : Int, su (y3 μ f j) 3 (5 * j + 1) (min 9 (yfz (fr σ n) (lkh σ j) (TT σ j n).1 + grm (σ 6 j))) 3 x = fu (fu (fu (μ 3) (5 * j + 1) (mBr μ f j)) (5 * j + 4) (bI (20 ≤ yAp μ f j))) (5 * j + 1) (min 9 (yfz (fr σ n) (lkh σ j) (TT σ j n).1 + grm (σ 6 j))) x := fun x => rfl
        by_cases e : k = j
        · subst e
          have cc : upc c k (n + 1) k = n + 1 := if_pos rfl
          refine ⟨Or.inr ⟨g, ?_, ?_⟩, ?_, ?_, ?_⟩
          · rw [row3, fu_n _ _ (by omega), fu_n _ _ (by omega), fu_n _ _ (by omega)]
            exact g0
          · rw [row3, fu_n _ _ (by omega), fu_n _ _ (by omega), fu_n _ _ (by omega)]
            exact g3
          · rw [row3, fu_h _ _ rfl]
            show _ = (TT σ k (upc c k (n + 1) k)).1
            rw [cc, hs]
            rfl
          · rw [row3, fu_n _ _ (by omega), fu_n _ _ (by omega), fu_n _ _ (by omega)]
            exact e2
          · rw [row3, fu_n _ _ (by omega), fu_h _ _ rfl, ea]
            show _ = (TT σ k (upc c k (n + 1) k)).2.1
            rw [cc, hs]
        · have cc : upc c j (n + 1) k = c k := if_neg e
          have hk := ht k
          have x5 : xC σ (upc c j (n + 1)) 5 k = xC σ c 5 k := by
            show (TT σ k (upc c j (n + 1) k)).1 = (TT σ k (c k)).1
            rw [cc]
          have x7 : xC σ (upc c j (n + 1)) 7 k = xC σ c 7 k := by
            show (TT σ k (upc c j (n + 1) k)).2.1 = (TT σ k (c k)).2.1
            rw [cc]
          have x4 : xC σ (upc c j (n + 1)) 4 k = xC σ c 4 k := rfl
          have x6 : xC σ (upc c j (n + 1)) 6 k = xC σ c 6 k := rfl
          have rr : ∀ w : Int, 0 ≤ w → w < 5 → su (y3 μ f j) 3 (5 * j + 1) (min 9 (yfz (fr σ n) (lkh σ j) (TT σ j n).1 + grm (σ 6 j))) 3 (5 * k + w) = μ 3 (5 * k + w) := by
            intro w w0 w1
            rw [row3, fu_n _ _ (by omega), fu_n _ _ (by omega), fu_n _ _ (by omega)]
          unfold trR at hk ⊢
          rw [x4, x5, x6, x7, rr 0 (by decide) (by decide), rr 1 (by decide) (by decide), rr 2 (by decide) (by decide), rr 3 (by decide) (by decide), rr 4 (by decide) (by decide)]
          exact hk
    · rw [show yA1 μ f j = yAp μ f j from if_pos g0, ea, hs]
      show _ = (TT σ j n).2.2 + yap (σ 6 j) (fr σ n) (lkh σ j) (TT σ j n).1 (TT σ j n).2.1 - (TT σ j n).2.2
      omega
theorem isum_sub (f g : Int → Int) (n : Nat) : isum (fun k => f k - g k) n = isum f n - isum g n := by
  induction n with
  | zero => rfl
  | succ n ih =>
    show isum (fun k => f k - g k) n + (f n - g n) = isum f n + f n - (isum g n + g n)
    rw [ih]
    omega
theorem cY_40 (a b b' : Nat) : cY 40 a b = cY 0 b' a := by
  funext k
  unfold cY
  by_cases e : 0 ≤ k ∧ k < 40
  · rw [if_pos e, if_neg (by omega), if_pos e]
  · rw [if_neg e, if_neg e, if_neg (by omega), if_neg e]
theorem year_C {σ μ : St} (hx : xWF σ) {Y f : Int} {n : Nat} (h : relC σ μ (cY 0 (n + 1) n) Y) (hf : f = fr σ n) (i : Nat) (hi : i ≤ 40) : relC σ (yS μ f i) (cY i (n + 1) n) Y ∧ yA μ f i = isum (fun k => (TT σ k (n + 1)).2.2 - (TT σ k n).2.2) i := by
  induction i with
  | zero => exact ⟨h, rfl⟩
  | succ i ih =>
    obtain ⟨g1, g2⟩ := ih (by omega)
    obtain ⟨k1, k2⟩ := relC_s hx g1 (j := i) (by omega) (by omega) (cY_i (by omega) (by omega) _ _) hf
    rw [cY_u (by omega) (by omega)] at k1
    refine ⟨k1, ?_⟩
    show yA μ f i + yA1 (yS μ f i) f i = isum _ i + ((TT σ i (n + 1)).2.2 - (TT σ i n).2.2)
    rw [g2, k2]
theorem relC_5 {σ μ : St} {c : Int → Nat} {Y : Int} (h : relC σ μ c Y) (a b Y' : Int) : relC σ (su (su (su μ 5 0 a) 5 1 b) 5 2 Y') c Y' := by
  obtain ⟨h1, h2, h3, h4⟩ := h
  exact ⟨h1, (show fu (fu (fu (μ 5) 0 a) 1 b) 2 Y' 2 = Y' from fu_h _ _ rfl), h3, h4⟩
theorem years_C {σ μ : St} (hx : xWF σ) (h : rel σ μ) (n : Nat) : relC σ (yrS μ n) (cY 0 (n + 1) n) (σ 9 0 + n) ∧ yrA μ n = isum (fun k => (TT σ k n).2.2) 40 := by
  induction n with
  | zero =>
    refine ⟨?_, ?_⟩
    · rw [cY_00]
      have := relC_of h
      rw [show σ 9 0 + ((0 : Nat) : Int) = σ 9 0 by omega]
      exact this
    · show (0 : Int) = _
      rw [isum_c (g := fun _ => 0) 40 (fun k h0 h1 => by rw [TT_0])]
      rfl
  | succ n ih =>
    obtain ⟨g1, g2⟩ := ih
    have hf : mF (yrS μ n) = fr σ n := by
      unfold mF
      rw [g1.1.2.2.1, g1.2.1]
      rfl
    obtain ⟨k1, k2⟩ := year_C hx g1 hf 40 (by decide)
    refine ⟨?_, ?_⟩
    · have k3 := relC_5 k1 20 20 (yrS μ n 5 2 + 1)
      rw [show (((40 : Nat)) : Int) = 40 from rfl, cY_40 _ _ (n + 1 + 1), g1.2.1] at k3
      show relC σ (mYear (yrS μ n)) (cY 0 (n + 1 + 1) (n + 1)) (σ 9 0 + ((n + 1 : Nat) : Int))
      unfold mYear
      rw [g1.2.1, show σ 9 0 + ((n + 1 : Nat) : Int) = σ 9 0 + n + 1 by omega]
      exact k3
    · show yrA μ n + mYA (yrS μ n) = _
      unfold mYA
      rw [k2, isum_sub, g2]
      omega
theorem yr_st (μ : St) {n : Nat} (h : 1 ≤ n) : yrS μ n 5 0 = 20 ∧ yrS μ n 5 1 = 20 := by
  cases n with
  | zero => omega
  | succ n => exact ⟨rfl, rfl⟩
theorem rel_pass {σ μ : St} (hx : xWF σ) (h : rel σ μ) {y : Int} (hy : 1 ≤ y) : rel (xPass σ y) (yrS (mZ μ) y.toNat) ∧ yrA (mZ μ) y.toNat = (xPs σ y 40).2 := by
  have hz : rel σ (mZ μ) := rel_z h 0
  obtain ⟨g1, g2⟩ := years_C hx hz y.toNat
  obtain ⟨p1, p2⟩ := xPs_C σ y 40 (by decide)
  refine ⟨?_, by rw [g2, p2]⟩
  have hc : cY 0 (y.toNat + 1) y.toNat = cY ((40 : Nat) : Int) y.toNat 0 := (cY_40 _ _ _).symm
  rw [hc] at g1
  obtain ⟨⟨a1, a2, a3, a4⟩, aY, hb, ht⟩ := g1
  obtain ⟨s0, s1⟩ := yr_st (mZ μ) (n := y.toNat) (by omega)
  unfold xPass
  rw [p1]
  refine ⟨⟨a1, a2, a3, funext hb⟩, ⟨s0, s1, ?_, ?_⟩, ht⟩
  · rw [aY]
    show _ = fu (σ 9) 0 (σ 9 0 + y) 0
    rw [fu_h _ _ rfl]
    omega
  · rw [a4]
    show _ = fu (σ 9) 0 (σ 9 0 + y) 1
    rw [fu_n _ _ (by decide)]
