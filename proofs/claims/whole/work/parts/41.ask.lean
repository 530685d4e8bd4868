/-! what is asked: both answer alike -/
theorem rel_apx {σ μ : St} (h : rel σ μ) (hx : xWF σ) (k : Int) : mAp μ k = apx σ k := by
  obtain ⟨t0, t1, t2, t4⟩ := h.2.2 k
  have h7 := xWF_7 hx k
  unfold mAp apx apl
  rw [t1, t2, t4]
  by_cases g : σ 7 k = 0
  · rw [if_pos g, if_neg (by omega)]
  · rw [if_neg g, if_pos (by omega)]
theorem ask_tree {σ μ : St} (h : rel σ μ) (hx : xWF σ) (k : Int) {w : Int} (hw : 0 ≤ w ∧ w ≤ 5) : mTold μ k w = xTree σ k w := by
  obtain ⟨t0, t1, t2, t4⟩ := h.2.2 k
  have h7 := xWF_7 hx k
  rcases (show w = 0 ∨ w = 1 ∨ w = 2 ∨ w = 3 ∨ w = 4 ∨ w = 5 by omega) with rfl | rfl | rfl | rfl | rfl | rfl
  · show μ 3 (5 * k + 0) = bI (¬ σ 4 k = -1)
    by_cases g : σ 4 k = -1
    · rw [bI_f (fun q => q g)]; omega
    · rw [bI_t g]; omega
  · exact t1
  · exact t2
  · show (if (3 : Int) = 5 then mAp μ k else if (3 : Int) = 3 ∧ μ 3 (5 * k + 0) = 0 then -1 else μ 3 (5 * k + 3)) = σ 4 k
    rw [if_neg (by decide)]
    by_cases g : μ 3 (5 * k + 0) = 0
    · rw [if_pos ⟨rfl, g⟩]; omega
    · rw [if_neg (fun q => g q.2)]; omega
  · show μ 3 (5 * k + 4) = bI (¬ σ 7 k = 0)
    by_cases g : σ 7 k = 0
    · rw [bI_f (fun q => q g)]; omega
    · rw [bI_t g]; omega
  · exact rel_apx h hx k
theorem ask_sort {σ μ : St} (h : rel σ μ) {a w : Int} (ha : 0 ≤ a) (hw : 0 ≤ w ∧ w ≤ 3) : mSortT μ a w = xSort σ a w := by
  obtain ⟨⟨a1, a2, a3, a4⟩, -, t⟩ := h
  unfold mSortT xSort
  rw [a1, a2, a4]
  have e : (fun k => bI (μ 3 (5 * k + 0) = 1 ∧ μ 3 (5 * k + 3) = a)) = fun j => bI (σ 4 j = a) := by
    funext j
    obtain ⟨t0, -⟩ := t j
    exact bI_c (by omega)
  rw [e]
theorem isum_c {f g : Int → Int} (n : Nat) (h : ∀ j : Int, 0 ≤ j → j < n → f j = g j) : isum f n = isum g n := by
  induction n with
  | zero => rfl
  | succ n ih =>
    show isum f n + f n = isum g n + g n
    rw [ih (fun j h0 h1 => h j h0 (by omega)), h n (by omega) (by omega)]
theorem isum_b (f : Int → Int) (c : Nat) : ∀ (n : Nat), isum f (c * n) = isum (fun r => isum (fun q => f ((c : Int) * r + q)) c) n := by
  intro n
  induction n with
  | zero => rfl
  | succ n ih =>
    have key : ∀ k : Nat, isum f (c * n + k) = isum f (c * n) + isum (fun q => f ((c : Int) * n + q)) k := by
      intro k
      induction k with
      | zero => show isum f (c * n) = isum f (c * n) + 0; omega
      | succ k ihk =>
        show isum f (c * n + k) + f ((c * n + k : Nat) : Int) = _ + (isum _ k + f ((c : Int) * n + k))
        rw [ihk, show ((c * n + k : Nat) : Int) = (c : Int) * n + k by push_cast; rfl]
        omega
    rw [Nat.mul_succ, key c, ih]
    rfl
theorem ask_pairs {σ μ : St} (h : rel σ μ) : isumI (mPair μ) 40 = isumI (fun r => isumI (fun q => upr σ r q) 4) 5 := by
  have hb := isum_b (mPair μ) 8 5
  show isum (mPair μ) 40 = isum (fun r => isum (fun q => upr σ r q) 4) 5
  rw [show (40 : Nat) = 8 * 5 from rfl, hb]
  refine isum_c 5 (fun r h0 h1 => ?_)
  have key : ∀ q : Int, 0 ≤ q → q < 8 → mPair μ (((8 : Nat) : Int) * r + q) = if q < 4 then upr σ r q else 0 := by
    intro q q0 q1
    have em : mm (((8 : Nat) : Int) * r + q) = 8 * r + (7 - q) := by
      unfold mm
      omega
    unfold mPair
    rw [em]
    by_cases hq : q < 4
    · rw [if_pos hq, if_neg (by omega)]
      have es : r * 8 + q = ((8 : Nat) : Int) * r + q := by omega
      have ew : mir (r * 8 + q) = 8 * r + (7 - q) := by
        unfold mir
        omega
      unfold upr
      rw [ew, es]
      obtain ⟨t0, t1, -⟩ := h.2.2 (((8 : Nat) : Int) * r + q)
      obtain ⟨u0, u1, -⟩ := h.2.2 (8 * r + (7 - q))
      rw [t1, u1]
      by_cases g : ¬ σ 4 (((8 : Nat) : Int) * r + q) = σ 4 (8 * r + (7 - q)) ∨ ¬ σ 5 (((8 : Nat) : Int) * r + q) = σ 5 (8 * r + (7 - q))
      · rw [bI_t g, if_neg (by omega)]
      · rw [bI_f g, if_pos (by omega)]
    · rw [if_neg hq, if_pos (by omega)]
  have e8 : isum (fun q => mPair μ (((8 : Nat) : Int) * r + q)) 8 = isum (fun q => if q < 4 then upr σ r q else 0) 8 := isum_c 8 (fun q q0 q1 => key q q0 (by omega))
  refine e8.trans ?_
  show isum (fun q => if q < 4 then upr σ r q else 0) 4 + (if (4 : Int) < 4 then upr σ r 4 else 0) + (if (5 : Int) < 4 then upr σ r 5 else 0) + (if (6 : Int) < 4 then upr σ r 6 else 0) + (if (7 : Int) < 4 then upr σ r 7 else 0) = isum (fun q => upr σ r q) 4
  rw [if_neg (by decide), if_neg (by decide), if_neg (by decide), if_neg (by decide), Int.add_zero, Int.add_zero, Int.add_zero, Int.add_zero]
  exact isum_c 4 (fun q q0 q1 => if_pos (by omega))
theorem rel_trees {σ μ : St} (h : rel σ μ) : mAll μ 0 = isumI (fun j => bI (¬ σ 4 j = -1)) 40 := by
  unfold mAll
  refine congrArg (fun f => isumI f 40) ?_
  funext k
  obtain ⟨t0, -⟩ := h.2.2 k
  by_cases g : σ 4 k = -1
  · rw [bI_f (fun q => q g)]; omega
  · rw [bI_t g]; omega
theorem rel_bran {σ μ : St} (h : rel σ μ) : mAll μ 1 = isumI (σ 5) 40 := by
  unfold mAll
  refine congrArg (fun f => isumI f 40) ?_
  funext k
  exact (h.2.2 k).2.1
theorem rel_tired {σ μ : St} (h : rel σ μ) (hx : xWF σ) : mAll μ 4 = isumI (fun j => bI (¬ σ 7 j = 0)) 40 := by
  unfold mAll
  refine congrArg (fun f => isumI f 40) ?_
  funext k
  have t4 := (h.2.2 k).2.2.2
  have h7 := xWF_7 hx k
  by_cases g : σ 7 k = 0
  · rw [bI_f (fun q => q g)]; omega
  · rw [bI_t g]; omega
theorem ask_count {σ μ : St} (h : rel σ μ) (hx : xWF σ) {w : Int} (hw : 0 ≤ w ∧ w ≤ 7) : mCnt μ w = xCount σ w := by
  obtain ⟨⟨a1, a2, a3, a4⟩, ⟨b1, b2, b3, b4⟩, t⟩ := id h
  rcases (show w = 0 ∨ w = 1 ∨ w = 2 ∨ w = 3 ∨ w = 4 ∨ w = 5 ∨ w = 6 ∨ w = 7 by omega) with rfl | rfl | rfl | rfl | rfl | rfl | rfl | rfl
  · exact b3
  · exact b1
  · exact b2
  · exact rel_trees h
  · exact rel_tired h hx
  · show isumI (fun j => μ 4 j * 1) 6 = isumI (σ 2) 6
    rw [a4]
    refine congrArg (fun f => isumI f 6) ?_
    funext k
    exact Int.mul_one _
  · show isumI (fun j => μ 4 j * μ 0 j) 6 = isumI (fun j => σ 2 j * σ 0 j) 6
    rw [a4, a1]
  · exact ask_pairs h
theorem ask_leans {σ μ : St} (h : rel σ μ) (hx : xWF σ) (r : Int) : mLean μ r = xLeans σ r := by
  unfold mLean xLeans
  have e1 : (fun q => if q < 4 then mAp μ (8 * r + q) else -(mAp μ (8 * r + q))) = fun q => if q < 4 then apx σ (8 * r + q) else -(apx σ (8 * r + q)) := by
    funext q
    rw [rel_apx h hx]
  rw [e1]
  have e2 : isumI (fun q => apx σ (r * 8 + q) - apx σ (mir (r * 8 + q))) 4 = isum (fun q => apx σ (8 * r + q) - apx σ (8 * r + (7 - q))) 4 := by
    refine isum_c 4 (fun q q0 q1 => ?_)
    have ew : mir (r * 8 + q) = 8 * r + (7 - q) := by
      unfold mir
      omega
    rw [ew, show r * 8 + q = 8 * r + q by omega]
  rw [e2]
  show ((((((((0 : Int) + (apx σ (8 * r + 0))) + (apx σ (8 * r + 1))) + (apx σ (8 * r + 2))) + (apx σ (8 * r + 3))) + (-(apx σ (8 * r + 4)))) + (-(apx σ (8 * r + 5)))) + (-(apx σ (8 * r + 6)))) + (-(apx σ (8 * r + 7))) = ((((0 : Int) + (apx σ (8 * r + 0) - apx σ (8 * r + 7))) + (apx σ (8 * r + 1) - apx σ (8 * r + 6))) + (apx σ (8 * r + 2) - apx σ (8 * r + 5))) + (apx σ (8 * r + 3) - apx σ (8 * r + 4))
  omega
theorem ask_mean {σ μ : St} (h : rel σ μ) : mMean μ = xMean σ := by
  unfold mMean xMean
  rw [rel_trees h, rel_bran h]
  rfl
theorem dgF_c {f g : Int → Int} {d : Int64} (n : Nat) (h : ∀ j : Int, 0 ≤ j → j < n → f j = g j) : dgF f d n = dgF g d n := by
  induction n with
  | zero => rfl
  | succ n ih =>
    show dgs (dgF f d n) (f n) = dgs (dgF g d n) (g n)
    rw [ih (fun j h0 h1 => h j h0 (by omega)), h n (by omega) (by omega)]
theorem dgN_c {f g : Int → Int64 → Int64} {d : Int64} (n : Nat) (h : ∀ j : Int, 0 ≤ j → j < n → f j = g j) : dgN f d n = dgN g d n := by
  induction n with
  | zero => rfl
  | succ n ih =>
    show f n (dgN f d n) = g n (dgN g d n)
    rw [ih (fun j h0 h1 => h j h0 (by omega)), h n (by omega) (by omega)]
theorem ask_digest {σ μ : St} (h : rel σ μ) (hx : xWF σ) : mDig μ = xDig σ := by
  have hz : rel σ (mZ μ) := rel_z h 0
  have e1 : mdC μ = dgC σ := dgF_c 8 (fun j h0 h1 => ask_count hz hx ⟨h0, by omega⟩)
  have e2 : mdS μ = dgSo σ := by
    unfold mdS dgSo
    rw [e1]
    refine dgN_c 6 (fun a h0 h1 => ?_)
    funext d
    exact dgF_c 4 (fun j g0 g1 => ask_sort hz h0 ⟨g0, by omega⟩)
  have e3 : mdF μ = dgFr σ := by
    unfold mdF dgFr
    rw [e2, h.1.2.2.1]
  have e4 : mdT μ = dgT σ := by
    unfold mdT dgT
    rw [e3]
    refine dgN_c 40 (fun a h0 h1 => ?_)
    funext d
    exact dgF_c 6 (fun j g0 g1 => ask_tree hz hx a ⟨g0, by omega⟩)
  unfold mDig xDig
  rw [e4, h.2.1.2.2.2]
theorem rel_setSort {σ μ : St} (h : rel σ μ) (a w b : Int) : rel (xSetSort σ a w b) (su (su (mZ μ) 0 a w) 1 a b) := by
  obtain ⟨⟨a1, a2, a3, a4⟩, hb, t⟩ := rel_z h 0
  exact ⟨⟨congrArg (fun f => fu f a w) a1, congrArg (fun f => fu f a b) a2, a3, a4⟩, hb, t⟩
theorem rel_setFrost {σ μ : St} (h : rel σ μ) (a b : Int) : rel (su σ 3 a b) (su (mZ μ) 2 a b) := by
  obtain ⟨⟨a1, a2, a3, a4⟩, hb, t⟩ := rel_z h 0
  exact ⟨⟨a1, a2, congrArg (fun f => fu f a b) a3, a4⟩, hb, t⟩
theorem rel_carry {σ μ : St} (h : rel σ μ) (a x y : Int) : rel (xCarry σ a x y) (su (su (mZ μ) 4 a (μ 4 a - (x + y))) 6 1 (μ 6 1 + μ 0 a * (x - y))) := by
  obtain ⟨⟨a1, a2, a3, a4⟩, ⟨b1, b2, b3, b4⟩, t⟩ := id h
  refine ⟨⟨a1, a2, a3, ?_⟩, ⟨b1, b2, ?_, ?_⟩, t⟩
  · show fu (μ 4) a (μ 4 a - (x + y)) = fu (σ 2) a (σ 2 a - (x + y))
    rw [a4]
  · show μ 5 2 = fu (σ 9) 1 (σ 9 1 + (x - y) * σ 0 a) 0
    rw [fu_n _ _ (by decide)]
    exact b3
  · show fu ((mZ μ) 6) 1 (μ 6 1 + μ 0 a * (x - y)) 1 = fu (σ 9) 1 (σ 9 1 + (x - y) * σ 0 a) 1
    rw [fu_h _ _ rfl, fu_h _ _ rfl, b4, a1, Int.mul_comm]
theorem t_carry {σ μ : St} (h : rel σ μ) (a x y : Int) : mtCarry μ a x y = tCarry σ a x y := by
  unfold mtCarry tCarry
  rw [h.1.2.2.2]
