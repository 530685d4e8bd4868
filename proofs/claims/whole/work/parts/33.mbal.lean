/-! the reference's balance, pure -/
def mBT (μ : St) : Int := isumI (fun j => μ 0 j * min 20 (μ 4 j)) 6
def dpo (f : Int → Int) (w T : Int) : Int → Int := fun j => if w ≤ j ∧ j ≤ T then max (f j) (f (j - w)) else f j
def dpw (f : Int → Int) (w T v : Int) : Int → Int := fun j => if w ≤ j ∧ v < j ∧ j ≤ T then max (f j) (f (j - w)) else f j
def dpN (f : Int → Int) (w T : Int) : Nat → Int → Int
  | 0 => f
  | n + 1 => dpo (dpN f w T n) w T
def dpS (μ : St) (T : Int) : Nat → Int → Int
  | 0 => fu (fun _ => 0) 0 1
  | n + 1 => dpN (dpS μ T n) (μ 0 n) T (min 20 (μ 4 n)).toNat
def dnz (f : Int → Int) : Nat → Int
  | 0 => 0
  | n + 1 => if f ((n : Int) + 1) = 0 then dnz f n else (n : Int) + 1
def mBal (μ : St) : Int := mBT μ - 2 * dnz (dpS μ (mBT μ) 6) (mBT μ / 2).toNat
theorem su_srr (μ : St) (i : Nat) (f : Int → Int) (k v : Int) : su (sr μ i f) i k v = sr μ i (fu f k v) := by
  funext a
  unfold su sr
  by_cases h : a = i
  · rw [if_pos h, if_pos h, if_pos rfl]
  · rw [if_neg h, if_neg h, if_neg h]
theorem mBT_in {μ : St} (h : mWF μ) : 0 ≤ mBT μ ∧ mBT μ ≤ 1080 := by
  have h1 : ∀ j, 0 ≤ μ 0 j * min 20 (μ 4 j) ∧ μ 0 j * min 20 (μ 4 j) ≤ 180 := by
    intro j
    have a0 := mWF_0 h j
    have a4 := mWF_4 h j
    refine ⟨Int.mul_nonneg (by omega) (by omega), ?_⟩
    have b1 : μ 0 j * min 20 (μ 4 j) ≤ 9 * min 20 (μ 4 j) := Int.mul_le_mul_of_nonneg_right a0.2 (by omega)
    omega
  have := isumI_in h1 (i := 6) (by decide)
  unfold mBT
  omega
theorem dpw_0 (f : Int → Int) (w T : Int) : dpw f w T T = f := by
  funext j
  unfold dpw
  rw [if_neg (by omega)]
theorem dpw_s (f : Int → Int) {w T v : Int} (h1 : 1 ≤ w) (h2 : w ≤ v) (h3 : v ≤ T) : fu (dpw f w T v) v (max (dpw f w T v v) (dpw f w T v (v - w))) = dpw f w T (v + -1) := by
  have e1 : dpw f w T v v = f v := by
    unfold dpw
    rw [if_neg (by omega)]
  have e2 : dpw f w T v (v - w) = f (v - w) := by
    unfold dpw
    rw [if_neg (by omega)]
  rw [e1, e2]
  funext j
  unfold fu dpw
  by_cases hj : j = v
  · rw [if_pos hj, if_pos (by omega), hj]
  · rw [if_neg hj]
    by_cases h : w ≤ j ∧ v < j ∧ j ≤ T
    · rw [if_pos h, if_pos (by omega)]
    · rw [if_neg h, if_neg (by omega)]
theorem dpw_e (f : Int → Int) {w T v : Int} (h : v < w) : dpw f w T v = dpo f w T := by
  funext j
  unfold dpw dpo
  by_cases h2 : w ≤ j ∧ j ≤ T
  · rw [if_pos h2, if_pos (by omega)]
  · rw [if_neg h2, if_neg (by omega)]
def b01F (f : Int → Int) : Prop := ∀ j, f j = 0 ∨ f j = 1
theorem dpo_01 {f : Int → Int} (h : b01F f) (w T : Int) : b01F (dpo f w T) := by
  intro j
  have h1 := h j
  have h2 := h (j - w)
  unfold dpo
  split <;> omega
theorem dpw_01 {f : Int → Int} (h : b01F f) (w T v : Int) : b01F (dpw f w T v) := by
  intro j
  have h1 := h j
  have h2 := h (j - w)
  unfold dpw
  split <;> omega
theorem dpN_01 {f : Int → Int} (h : b01F f) (w T : Int) (n : Nat) : b01F (dpN f w T n) := by
  induction n with
  | zero => exact h
  | succ n ih => exact dpo_01 ih w T
theorem dpS_01 (μ : St) (T : Int) (n : Nat) : b01F (dpS μ T n) := by
  induction n with
  | zero =>
    intro j
    show fu (fun _ => 0) 0 1 j = 0 ∨ fu (fun _ => 0) 0 1 j = 1
    unfold fu
    split
    · exact Or.inr rfl
    · exact Or.inl rfl
  | succ n ih => exact dpN_01 ih _ _ _
theorem dpo_z {f : Int → Int} {w : Int} (T : Int) (hw : 1 ≤ w) (h : f 0 = 1) : dpo f w T 0 = 1 := by
  unfold dpo
  rw [if_neg (by omega)]
  exact h
theorem dpN_z {f : Int → Int} {w : Int} (T : Int) (hw : 1 ≤ w) (h : f 0 = 1) (n : Nat) : dpN f w T n 0 = 1 := by
  induction n with
  | zero => exact h
  | succ n ih => exact dpo_z T hw ih
theorem dpS_z {μ : St} (h : mWF μ) (T : Int) (n : Nat) : dpS μ T n 0 = 1 := by
  induction n with
  | zero => rfl
  | succ n ih => exact dpN_z T (mWF_0 h n).1 ih _
theorem dpN_s (f : Int → Int) (w T : Int) {i : Int} (h : 0 ≤ i) : dpN f w T (i + 1).toNat = dpo (dpN f w T i.toNat) w T := by
  rw [show (i + 1).toNat = i.toNat + 1 by omega]
  rfl
theorem dpS_s (μ : St) (T : Int) {i : Int} (h : 0 ≤ i) : dpS μ T (i + 1).toNat = dpN (dpS μ T i.toNat) (μ 0 i) T (min 20 (μ 4 i)).toNat := by
  rw [show (i + 1).toNat = i.toNat + 1 by omega]
  show dpN (dpS μ T i.toNat) (μ 0 (i.toNat : Int)) T (min 20 (μ 4 (i.toNat : Int))).toNat = _
  rw [show ((i.toNat : Nat) : Int) = i by omega]
theorem dnz_no {f : Int → Int} {h : Int} (h0 : 0 < h) (hf : f h = 0) : dnz f h.toNat = dnz f (h + -1).toNat := by
  rw [show h.toNat = (h + -1).toNat + 1 by omega]
  show (if f (((h + -1).toNat : Int) + 1) = 0 then dnz f (h + -1).toNat else (((h + -1).toNat : Int) + 1)) = _
  rw [show (((h + -1).toNat : Int) + 1) = h by omega, if_pos hf]
theorem dnz_at {f : Int → Int} {h : Int} (h0 : 0 ≤ h) (hf : ¬ f h = 0) : dnz f h.toNat = h := by
  by_cases hz : h = 0
  · subst hz
    rfl
  · rw [show h.toNat = (h + -1).toNat + 1 by omega]
    show (if f (((h + -1).toNat : Int) + 1) = 0 then dnz f (h + -1).toNat else (((h + -1).toNat : Int) + 1)) = _
    rw [show (((h + -1).toNat : Int) + 1) = h by omega, if_neg hf]
theorem iI_or {a b : Int} (ha : a = 0 ∨ a = 1) (hb : b = 0 ∨ b = 1) : iI a ||| iI b = iI (max a b) := by
  rcases ha with rfl | rfl <;> rcases hb with rfl | rfl <;> rfl
section GO
variable {p : Program} {l : Launch} {e : Env} {R : Room} {s : State} {m : MethodId} {args : Array Value} {below : List Frame} {meth : Method} {c : Code} {H : Heap} {locs : List Loc} {cells slots : Nat} {Q : State → Prop}
variable {cc : ByteArray} {pc : Nat} {ls : Array Slot} {rest : List Value}
theorem gi_ior (hx : p.tables.exec = Jvm.exec) (hb : c.code = cc) {x y : Int} (h1 : x = 0 ∨ x = 1) (h2 : y = 0 ∨ y = 1) (hdg : decode cc pc = .ok (.ior, 1)) (kk : W p l e R s m args below meth c H locs cells slots Q (F0 m (pc + 1) ls (.int (iI (max x y)) :: rest))) : W p l e R s m args below meth c H locs cells slots Q (F0 m pc ls (.int (iI y) :: .int (iI x) :: rest)) := lv_ior hx hb hdg (by rw [iI_or h1 h2]; exact kk)
end GO
