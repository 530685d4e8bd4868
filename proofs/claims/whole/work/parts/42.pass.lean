/-! years: tree by tree (the class) and year by year (the reference) -/
def TT (σ : St) (k : Int) (n : Nat) : Int × Int × Int := if σ 4 k = -1 then (σ 5 k, σ 7 k, 0) else tY (fr σ) (σ 6 k) (lkh σ k) (σ 5 k) (σ 7 k) n
def bnS (σ : St) (c : Int → Nat) (a : Int) : Int := isum (fun k => if σ 4 k = a then (TT σ k (c k)).2.2 else 0) 40
def upc (c : Int → Nat) (j : Int) (v : Nat) : Int → Nat := fun k => if k = j then v else c k
def cY (i : Int) (a b : Nat) : Int → Nat := fun k => if 0 ≤ k ∧ k < i then a else if 0 ≤ k ∧ k < 40 then b else 0
def xC (σ : St) (c : Int → Nat) : St := sr (sr (sr σ 5 (fun k => (TT σ k (c k)).1)) 7 (fun k => (TT σ k (c k)).2.1)) 2 (fun a => σ 2 a + bnS σ c a)
theorem TT_0 (σ : St) (k : Int) : TT σ k 0 = (σ 5 k, σ 7 k, 0) := by
  unfold TT
  split <;> rfl
theorem TT_n {σ : St} {k : Int} (h : σ 4 k = -1) (n : Nat) : TT σ k n = (σ 5 k, σ 7 k, 0) := if_pos h
theorem TT_y {σ : St} {k : Int} (h : ¬ σ 4 k = -1) (n : Nat) : TT σ k n = tY (fr σ) (σ 6 k) (lkh σ k) (σ 5 k) (σ 7 k) n := if_neg h
theorem TT_s {σ : St} {k : Int} (h : ¬ σ 4 k = -1) (n : Nat) : TT σ k (n + 1) = (yb (σ 6 k) (fr σ n) (lkh σ k) (TT σ k n).1, bI (20 ≤ yap (σ 6 k) (fr σ n) (lkh σ k) (TT σ k n).1 (TT σ k n).2.1), (TT σ k n).2.2 + yap (σ 6 k) (fr σ n) (lkh σ k) (TT σ k n).1 (TT σ k n).2.1) := by
  rw [TT_y h, TT_y h]
  rfl
theorem TT_t {σ : St} (hx : xWF σ) (k : Int) (n : Nat) : (TT σ k n).2.1 = 0 ∨ (TT σ k n).2.1 = 1 := by
  have h7 := xWF_7 hx k
  by_cases h : σ 4 k = -1
  · rw [TT_n h]
    show σ 7 k = 0 ∨ σ 7 k = 1
    omega
  · rw [TT_y h]
    have := lvT_in σ (σ 6 k) (lkh σ k) (σ 5 k) (n : Int) h7
    unfold lvT at this
    rw [show ((n : Int)).toNat = n by omega] at this
    omega
theorem isum_u {g g' : Int → Int} {j : Int} (n : Nat) (h0 : 0 ≤ j) (h : ∀ k, k ≠ j → g' k = g k) : isum g' n = isum g n + (if j < n then g' j - g j else 0) := by
  induction n with
  | zero => rw [if_neg (by omega)]; rfl
  | succ n ih =>
    show isum g' n + g' n = isum g n + g n + _
    rw [ih]
    by_cases e : (n : Int) = j
    · rw [if_neg (by omega), if_pos (by omega), e]
      omega
    · rw [h n e]
      by_cases e2 : j < (n : Int)
      · rw [if_pos e2, if_pos (by omega)]
        omega
      · rw [if_neg e2, if_neg (by omega)]
        omega
theorem bnS_u (σ : St) (c : Int → Nat) {j : Int} (v : Nat) (h0 : 0 ≤ j) (h1 : j < 40) (a : Int) : bnS σ (upc c j v) a = bnS σ c a + (if σ 4 j = a then (TT σ j v).2.2 - (TT σ j (c j)).2.2 else 0) := by
  unfold bnS
  rw [isum_u (g := fun k => if σ 4 k = a then (TT σ k (c k)).2.2 else 0) (j := j) 40 h0 (fun k hk => by show (if σ 4 k = a then (TT σ k (upc c j v k)).2.2 else 0) = _; unfold upc; rw [if_neg hk]), if_pos (by omega)]
  unfold upc
  rw [if_pos rfl]
  by_cases e : σ 4 j = a
  · rw [if_pos e, if_pos e, if_pos e]
  · rw [if_neg e, if_neg e, if_neg e]
    rfl
/-- where no tree stands, its years do not count -/
theorem TT_u {σ : St} {c : Int → Nat} {j : Int} {v : Nat} (h : σ 4 j = -1) (k : Int) : TT σ k (upc c j v k) = TT σ k (c k) := by
  unfold upc
  by_cases e : k = j
  · rw [if_pos e, e, TT_n h, TT_n h]
  · rw [if_neg e]
theorem xC_n {σ : St} {c : Int → Nat} {j : Int} {v : Nat} (h : σ 4 j = -1) : xC σ (upc c j v) = xC σ c := by
  unfold xC bnS
  rw [show (fun k => (TT σ k (upc c j v k)).1) = fun k => (TT σ k (c k)).1 from funext fun k => by rw [TT_u h], show (fun k => (TT σ k (upc c j v k)).2.1) = fun k => (TT σ k (c k)).2.1 from funext fun k => by rw [TT_u h]]
  refine congrArg _ ?_
  funext a
  refine congrArg (fun z => σ 2 a + isum z 40) ?_
  funext k
  rw [TT_u h]
theorem xC_0 (σ : St) : xC σ (fun _ => 0) = σ := by
  have hz : ∀ a, bnS σ (fun _ => 0) a = 0 := by
    intro a
    unfold bnS
    rw [isum_c (g := fun _ => 0) 40 (fun k h0 h1 => by rw [TT_0]; split <;> rfl)]
    rfl
  funext i
  unfold xC sr
  by_cases h2 : i = 2
  · rw [if_pos h2, h2]
    funext a
    rw [hz a, Int.add_zero]
  · rw [if_neg h2]
    by_cases h7 : i = 7
    · rw [if_pos h7, h7]
      funext k
      rw [TT_0]
    · rw [if_neg h7]
      by_cases h5 : i = 5
      · rw [if_pos h5, h5]
        funext k
        rw [TT_0]
      · rw [if_neg h5]
theorem xC_u {σ : St} {c : Int → Nat} {j y : Int} (h : ¬ σ 4 j = -1) (hc : c j = 0) (h0 : 0 ≤ j) (h1 : j < 40) : xPassA (xC σ c) j y = xC σ (upc c j y.toNat) := by
  have eB : lvB (xC σ c) ((xC σ c) 6 j) (lkh (xC σ c) j) ((xC σ c) 5 j) ((xC σ c) 7 j) y = (TT σ j y.toNat).1 := by
    show (tY (fr σ) (σ 6 j) (lkh σ j) (TT σ j (c j)).1 (TT σ j (c j)).2.1 y.toNat).1 = _
    rw [hc, TT_0, TT_y h]
  have eT : lvT (xC σ c) ((xC σ c) 6 j) (lkh (xC σ c) j) ((xC σ c) 5 j) ((xC σ c) 7 j) y = (TT σ j y.toNat).2.1 := by
    show (tY (fr σ) (σ 6 j) (lkh σ j) (TT σ j (c j)).1 (TT σ j (c j)).2.1 y.toNat).2.1 = _
    rw [hc, TT_0, TT_y h]
  have eS : lvS (xC σ c) ((xC σ c) 6 j) (lkh (xC σ c) j) ((xC σ c) 5 j) ((xC σ c) 7 j) y = (TT σ j y.toNat).2.2 := by
    show (tY (fr σ) (σ 6 j) (lkh σ j) (TT σ j (c j)).1 (TT σ j (c j)).2.1 y.toNat).2.2 = _
    rw [hc, TT_0, TT_y h]
  unfold xPassA
  rw [eB, eT, eS]
  funext i
  by_cases h2 : i = 2
  · subst h2
    funext a
    show fu (fun a => σ 2 a + bnS σ c a) (σ 4 j) ((σ 2 (σ 4 j) + bnS σ c (σ 4 j)) + (TT σ j y.toNat).2.2) a = σ 2 a + bnS σ (upc c j y.toNat) a
    rw [bnS_u σ c _ h0 h1, hc, TT_0]
    show _ = σ 2 a + (bnS σ c a + (if σ 4 j = a then (TT σ j y.toNat).2.2 - 0 else 0))
    unfold fu
    by_cases e : a = σ 4 j
    · rw [if_pos e, if_pos e.symm, e]
      omega
    · rw [if_neg e, if_neg (fun q => e q.symm), Int.add_zero]
  · by_cases h7 : i = 7
    · subst h7
      funext k
      show fu (fun k => (TT σ k (c k)).2.1) j (TT σ j y.toNat).2.1 k = (TT σ k (upc c j y.toNat k)).2.1
      unfold fu upc
      by_cases e : k = j
      · rw [if_pos e, if_pos e, e]
      · rw [if_neg e, if_neg e]
    · by_cases h5 : i = 5
      · subst h5
        funext k
        show fu (fun k => (TT σ k (c k)).1) j (TT σ j y.toNat).1 k = (TT σ k (upc c j y.toNat k)).1
        unfold fu upc
        by_cases e : k = j
        · rw [if_pos e, if_pos e, e]
        · rw [if_neg e, if_neg e]
      · unfold su xC sr
        simp only [if_neg h2, if_neg h7, if_neg h5]
theorem cY_u {i : Int} (h0 : 0 ≤ i) (h1 : i < 40) (a b : Nat) : upc (cY i a b) i a = cY (i + 1) a b := by
  funext k
  unfold upc cY
  by_cases e : k = i
  · rw [if_pos e, if_pos (by omega)]
  · rw [if_neg e]
    by_cases e2 : 0 ≤ k ∧ k < i
    · rw [if_pos e2, if_pos (by omega)]
    · rw [if_neg e2, if_neg (show ¬ (0 ≤ k ∧ k < i + 1) by omega)]
theorem cY_00 {a : Nat} : cY 0 a 0 = fun _ => 0 := by
  funext k
  unfold cY
  rw [if_neg (by omega)]
  split <;> rfl
theorem cY_i {i : Int} (h0 : 0 ≤ i) (h1 : i < 40) (a b : Nat) : cY i a b i = b := by
  unfold cY
  rw [if_neg (by omega), if_pos ⟨h0, h1⟩]
/-- the class: tree by tree -/
theorem xPs_C (σ : St) (y : Int) (i : Nat) (hi : i ≤ 40) : (xPs σ y i).1 = xC σ (cY i y.toNat 0) ∧ (xPs σ y i).2 = isum (fun k => (TT σ k y.toNat).2.2) i := by
  induction i with
  | zero =>
    refine ⟨?_, rfl⟩
    show σ = xC σ (cY 0 y.toNat 0)
    rw [cY_00, xC_0]
  | succ i ih =>
    obtain ⟨h1, h2⟩ := ih (by omega)
    have hc := cY_i (i := i) (by omega) (by omega) y.toNat 0
    have hu := cY_u (i := i) (by omega) (by omega) y.toNat 0
    have e4 : (xPs σ y i).1 4 i = σ 4 i := by
      rw [h1]
      rfl
    show (if (xPs σ y i).1 4 i = -1 then xPs σ y i else (xPassA (xPs σ y i).1 i y, (xPs σ y i).2 + lvS (xPs σ y i).1 ((xPs σ y i).1 6 i) (lkh (xPs σ y i).1 i) ((xPs σ y i).1 5 i) ((xPs σ y i).1 7 i) y)).1 = _ ∧ (if (xPs σ y i).1 4 i = -1 then xPs σ y i else (xPassA (xPs σ y i).1 i y, (xPs σ y i).2 + lvS (xPs σ y i).1 ((xPs σ y i).1 6 i) (lkh (xPs σ y i).1 i) ((xPs σ y i).1 5 i) ((xPs σ y i).1 7 i) y)).2 = _
    rw [e4]
    by_cases g : σ 4 i = -1
    · rw [if_pos g, h1, h2]
      refine ⟨?_, ?_⟩
      · rw [show (((i + 1 : Nat)) : Int) = (i : Int) + 1 by omega, ← hu, xC_n g]
      · show _ = isum _ i + (TT σ i y.toNat).2.2
        rw [TT_n g]
        exact (Int.add_zero _).symm
    · rw [if_neg g]
      refine ⟨?_, ?_⟩
      · show xPassA (xPs σ y i).1 i y = _
        rw [h1, xC_u g hc (by omega) (by omega), hu]
        rfl
      · show (xPs σ y i).2 + _ = isum _ i + (TT σ i y.toNat).2.2
        rw [h2, h1]
        refine congrArg _ ?_
        show (tY (fr σ) (σ 6 i) (lkh σ i) (TT σ i (cY i y.toNat 0 i)).1 (TT σ i (cY i y.toNat 0 i)).2.1 y.toNat).2.2 = _
        rw [hc, TT_0, TT_y g]
