/-! pure words of the class's state -/
def tw (s : Int) : Int := if s % 8 < 4 then 0 else 1
theorem tw_in (s : Int) : 0 ≤ tw s ∧ tw s < 2 := by
  unfold tw
  split <;> omega
def xWF (σ : St) : Prop := (∀ j, 1 ≤ σ 0 j ∧ σ 0 j ≤ 9) ∧ (∀ j, 0 ≤ σ 1 j ∧ σ 1 j ≤ 9) ∧ (∀ j, 0 ≤ σ 2 j ∧ σ 2 j ≤ 100000000) ∧ (∀ j, 0 ≤ σ 3 j ∧ σ 3 j ≤ 9) ∧ (∀ j, -1 ≤ σ 4 j ∧ σ 4 j ≤ 5) ∧ (∀ j, 0 ≤ σ 5 j ∧ σ 5 j ≤ 9) ∧ (∀ j, 0 ≤ σ 6 j ∧ σ 6 j ≤ 9) ∧ (∀ j, 0 ≤ σ 7 j ∧ σ 7 j ≤ 1) ∧ (∀ j, 0 ≤ σ 8 j ∧ σ 8 j ≤ 20) ∧ (0 ≤ σ 9 0 ∧ σ 9 0 ≤ 100000000)
theorem xWF_0 {σ : St} (h : xWF σ) (j : Int) : 1 ≤ σ 0 j ∧ σ 0 j ≤ 9 := h.1 j
theorem xWF_1 {σ : St} (h : xWF σ) (j : Int) : 0 ≤ σ 1 j ∧ σ 1 j ≤ 9 := h.2.1 j
theorem xWF_2 {σ : St} (h : xWF σ) (j : Int) : 0 ≤ σ 2 j ∧ σ 2 j ≤ 100000000 := h.2.2.1 j
theorem xWF_3 {σ : St} (h : xWF σ) (j : Int) : 0 ≤ σ 3 j ∧ σ 3 j ≤ 9 := h.2.2.2.1 j
theorem xWF_4 {σ : St} (h : xWF σ) (j : Int) : -1 ≤ σ 4 j ∧ σ 4 j ≤ 5 := h.2.2.2.2.1 j
theorem xWF_5 {σ : St} (h : xWF σ) (j : Int) : 0 ≤ σ 5 j ∧ σ 5 j ≤ 9 := h.2.2.2.2.2.1 j
theorem xWF_6 {σ : St} (h : xWF σ) (j : Int) : 0 ≤ σ 6 j ∧ σ 6 j ≤ 9 := h.2.2.2.2.2.2.1 j
theorem xWF_7 {σ : St} (h : xWF σ) (j : Int) : 0 ≤ σ 7 j ∧ σ 7 j ≤ 1 := h.2.2.2.2.2.2.2.1 j
theorem xWF_8 {σ : St} (h : xWF σ) (j : Int) : 0 ≤ σ 8 j ∧ σ 8 j ≤ 20 := h.2.2.2.2.2.2.2.2.1 j
theorem xWF_9 {σ : St} (h : xWF σ) : 0 ≤ σ 9 0 ∧ σ 9 0 ≤ 100000000 := h.2.2.2.2.2.2.2.2.2
theorem xWF_s0 {σ : St} (h : xWF σ) {k v : Int} (hv : 1 ≤ v ∧ v ≤ 9) : xWF (su σ 0 k v) := ⟨(fun j => by show _ ≤ fu (σ 0) k v j ∧ fu (σ 0) k v j ≤ _; unfold fu; split; exact hv; exact xWF_0 (σ := σ) h j), xWF_1 (σ := σ) h, xWF_2 (σ := σ) h, xWF_3 (σ := σ) h, xWF_4 (σ := σ) h, xWF_5 (σ := σ) h, xWF_6 (σ := σ) h, xWF_7 (σ := σ) h, xWF_8 (σ := σ) h, xWF_9 (σ := σ) h⟩
theorem xWF_s1 {σ : St} (h : xWF σ) {k v : Int} (hv : 0 ≤ v ∧ v ≤ 9) : xWF (su σ 1 k v) := ⟨xWF_0 (σ := σ) h, (fun j => by show _ ≤ fu (σ 1) k v j ∧ fu (σ 1) k v j ≤ _; unfold fu; split; exact hv; exact xWF_1 (σ := σ) h j), xWF_2 (σ := σ) h, xWF_3 (σ := σ) h, xWF_4 (σ := σ) h, xWF_5 (σ := σ) h, xWF_6 (σ := σ) h, xWF_7 (σ := σ) h, xWF_8 (σ := σ) h, xWF_9 (σ := σ) h⟩
theorem xWF_s2 {σ : St} (h : xWF σ) {k v : Int} (hv : 0 ≤ v ∧ v ≤ 100000000) : xWF (su σ 2 k v) := ⟨xWF_0 (σ := σ) h, xWF_1 (σ := σ) h, (fun j => by show _ ≤ fu (σ 2) k v j ∧ fu (σ 2) k v j ≤ _; unfold fu; split; exact hv; exact xWF_2 (σ := σ) h j), xWF_3 (σ := σ) h, xWF_4 (σ := σ) h, xWF_5 (σ := σ) h, xWF_6 (σ := σ) h, xWF_7 (σ := σ) h, xWF_8 (σ := σ) h, xWF_9 (σ := σ) h⟩
theorem xWF_s3 {σ : St} (h : xWF σ) {k v : Int} (hv : 0 ≤ v ∧ v ≤ 9) : xWF (su σ 3 k v) := ⟨xWF_0 (σ := σ) h, xWF_1 (σ := σ) h, xWF_2 (σ := σ) h, (fun j => by show _ ≤ fu (σ 3) k v j ∧ fu (σ 3) k v j ≤ _; unfold fu; split; exact hv; exact xWF_3 (σ := σ) h j), xWF_4 (σ := σ) h, xWF_5 (σ := σ) h, xWF_6 (σ := σ) h, xWF_7 (σ := σ) h, xWF_8 (σ := σ) h, xWF_9 (σ := σ) h⟩
theorem xWF_s4 {σ : St} (h : xWF σ) {k v : Int} (hv : -1 ≤ v ∧ v ≤ 5) : xWF (su σ 4 k v) := ⟨xWF_0 (σ := σ) h, xWF_1 (σ := σ) h, xWF_2 (σ := σ) h, xWF_3 (σ := σ) h, (fun j => by show _ ≤ fu (σ 4) k v j ∧ fu (σ 4) k v j ≤ _; unfold fu; split; exact hv; exact xWF_4 (σ := σ) h j), xWF_5 (σ := σ) h, xWF_6 (σ := σ) h, xWF_7 (σ := σ) h, xWF_8 (σ := σ) h, xWF_9 (σ := σ) h⟩
theorem xWF_s5 {σ : St} (h : xWF σ) {k v : Int} (hv : 0 ≤ v ∧ v ≤ 9) : xWF (su σ 5 k v) := ⟨xWF_0 (σ := σ) h, xWF_1 (σ := σ) h, xWF_2 (σ := σ) h, xWF_3 (σ := σ) h, xWF_4 (σ := σ) h, (fun j => by show _ ≤ fu (σ 5) k v j ∧ fu (σ 5) k v j ≤ _; unfold fu; split; exact hv; exact xWF_5 (σ := σ) h j), xWF_6 (σ := σ) h, xWF_7 (σ := σ) h, xWF_8 (σ := σ) h, xWF_9 (σ := σ) h⟩
theorem xWF_s6 {σ : St} (h : xWF σ) {k v : Int} (hv : 0 ≤ v ∧ v ≤ 9) : xWF (su σ 6 k v) := ⟨xWF_0 (σ := σ) h, xWF_1 (σ := σ) h, xWF_2 (σ := σ) h, xWF_3 (σ := σ) h, xWF_4 (σ := σ) h, xWF_5 (σ := σ) h, (fun j => by show _ ≤ fu (σ 6) k v j ∧ fu (σ 6) k v j ≤ _; unfold fu; split; exact hv; exact xWF_6 (σ := σ) h j), xWF_7 (σ := σ) h, xWF_8 (σ := σ) h, xWF_9 (σ := σ) h⟩
theorem xWF_s7 {σ : St} (h : xWF σ) {k v : Int} (hv : 0 ≤ v ∧ v ≤ 1) : xWF (su σ 7 k v) := ⟨xWF_0 (σ := σ) h, xWF_1 (σ := σ) h, xWF_2 (σ := σ) h, xWF_3 (σ := σ) h, xWF_4 (σ := σ) h, xWF_5 (σ := σ) h, xWF_6 (σ := σ) h, (fun j => by show _ ≤ fu (σ 7) k v j ∧ fu (σ 7) k v j ≤ _; unfold fu; split; exact hv; exact xWF_7 (σ := σ) h j), xWF_8 (σ := σ) h, xWF_9 (σ := σ) h⟩
theorem xWF_s8 {σ : St} (h : xWF σ) {k v : Int} (hv : 0 ≤ v ∧ v ≤ 20) : xWF (su σ 8 k v) := ⟨xWF_0 (σ := σ) h, xWF_1 (σ := σ) h, xWF_2 (σ := σ) h, xWF_3 (σ := σ) h, xWF_4 (σ := σ) h, xWF_5 (σ := σ) h, xWF_6 (σ := σ) h, xWF_7 (σ := σ) h, (fun j => by show _ ≤ fu (σ 8) k v j ∧ fu (σ 8) k v j ≤ _; unfold fu; split; exact hv; exact xWF_8 (σ := σ) h j), xWF_9 (σ := σ) h⟩
def mir (s : Int) : Int := (s - s % 8) + (7 - s % 8)
theorem mir_in {s : Int} (h0 : 0 ≤ s) (h1 : s < 40) : 0 ≤ mir s ∧ mir s < 40 := by
  unfold mir
  omega
def upr (σ : St) (r q : Int) : Int := bI (¬ σ 4 (r * 8 + q) = σ 4 (mir (r * 8 + q)) ∨ ¬ σ 5 (r * 8 + q) = σ 5 (mir (r * 8 + q)))
def bal (σ : St) (s : Int) : Int := max 0 (min (σ 2 s) 20)
def lkh (σ : St) (s : Int) : Int := if σ 4 s = -1 then 0 else σ 1 (σ 4 s)
theorem lkh_in {σ : St} (h : xWF σ) (s : Int) : 0 ≤ lkh σ s ∧ lkh σ s ≤ 9 := by
  unfold lkh
  split
  · omega
  · exact xWF_1 h _
def apl (v b t : Int) : Int := if t = 0 then b * v else b * v / 4
theorem mul9 {a b : Int} (ha : 0 ≤ a ∧ a ≤ 9) (hb : 0 ≤ b ∧ b ≤ 9) : 0 ≤ a * b ∧ a * b ≤ 81 := by
  refine ⟨Int.mul_nonneg ha.1 hb.1, ?_⟩
  have h1 : a * b ≤ 9 * b := Int.mul_le_mul_of_nonneg_right ha.2 hb.1
  omega
theorem apl_in {v b t : Int} (hv : 0 ≤ v ∧ v ≤ 9) (hb : 0 ≤ b ∧ b ≤ 9) : 0 ≤ apl v b t ∧ apl v b t ≤ 81 := by
  have h := mul9 hb hv
  unfold apl
  split <;> omega
def apx (σ : St) (s : Int) : Int := apl (σ 6 s) (σ 5 s) (σ 7 s)
def kWF (κ : St) : Prop := (0 ≤ κ 0 0 ∧ κ 0 0 ≤ 9) ∧ (0 ≤ κ 0 1 ∧ κ 0 1 ≤ 9) ∧ (0 ≤ κ 0 2 ∧ κ 0 2 ≤ 9) ∧ (0 ≤ κ 0 3 ∧ κ 0 3 ≤ 1)
theorem kWF_lk {σ κ : St} (h : xWF σ) (s : Int) : kWF (su (su (su (su κ 0 0 (σ 6 s)) 0 2 (σ 5 s)) 0 3 (σ 7 s)) 0 1 (lkh σ s)) := ⟨xWF_6 h s, lkh_in h s, xWF_5 h s, xWF_7 h s⟩
def yfz (f h b : Int) : Int := max 0 (b - max 0 (f - h))
theorem yfz_in (f h : Int) {b : Int} (hb : 0 ≤ b ∧ b ≤ 9) : 0 ≤ yfz f h b ∧ yfz f h b ≤ 9 := by
  unfold yfz
  omega
def grm (v : Int) : Int := if 7 ≤ v then 2 else 1
theorem grm_in (v : Int) : 1 ≤ grm v ∧ grm v ≤ 2 := by
  unfold grm
  split <;> omega
def yap (v f h b t : Int) : Int := apl v (yfz f h b) t
def yb (v f h b : Int) : Int := min 9 (yfz f h b + grm v)
theorem yb_in (v f h : Int) {b : Int} (hb : 0 ≤ b ∧ b ≤ 9) : 0 ≤ yb v f h b ∧ yb v f h b ≤ 9 := by
  have h1 := yfz_in f h hb
  have h2 := grm_in v
  unfold yb
  omega
theorem yap_in {v : Int} (f h : Int) {b : Int} (t : Int) (hv : 0 ≤ v ∧ v ≤ 9) (hb : 0 ≤ b ∧ b ≤ 9) : 0 ≤ yap v f h b t ∧ yap v f h b t ≤ 81 := apl_in hv (yfz_in f h hb)
/-- a tree's branches, whether it is tired, and what it has borne, n years on -/
def tY (fr : Int → Int) (v h b t : Int) : Nat → Int × Int × Int
  | 0 => (b, t, 0)
  | n + 1 => (yb v (fr n) h (tY fr v h b t n).1, bI (20 ≤ yap v (fr n) h (tY fr v h b t n).1 (tY fr v h b t n).2.1), (tY fr v h b t n).2.2 + yap v (fr n) h (tY fr v h b t n).1 (tY fr v h b t n).2.1)
def fr (σ : St) (n : Int) : Int := σ 3 ((σ 9 0 + n) % 10)
def lvB (σ : St) (v h b t y : Int) : Int := (tY (fr σ) v h b t y.toNat).1
def lvT (σ : St) (v h b t y : Int) : Int := (tY (fr σ) v h b t y.toNat).2.1
def lvS (σ : St) (v h b t y : Int) : Int := (tY (fr σ) v h b t y.toNat).2.2
theorem lv_step (σ : St) (v h b t : Int) {y : Int} (hy : 0 ≤ y) : lvB σ v h b t (y + 1) = yb v (fr σ y) h (lvB σ v h b t y) ∧ lvT σ v h b t (y + 1) = bI (20 ≤ yap v (fr σ y) h (lvB σ v h b t y) (lvT σ v h b t y)) ∧ lvS σ v h b t (y + 1) = lvS σ v h b t y + yap v (fr σ y) h (lvB σ v h b t y) (lvT σ v h b t y) := by
  unfold lvB lvT lvS
  have h1 : (y + 1).toNat = y.toNat + 1 := by omega
  have h2 : ((y.toNat : Nat) : Int) = y := by omega
  rw [h1]
  simp only [tY, h2, and_self]
theorem lvB_in (σ : St) (v h : Int) {b t : Int} (y : Int) (hb : 0 ≤ b ∧ b ≤ 9) : 0 ≤ lvB σ v h b t y ∧ lvB σ v h b t y ≤ 9 := by
  unfold lvB
  induction y.toNat with
  | zero => exact hb
  | succ n ih => exact yb_in _ _ _ ih
theorem lvT_in (σ : St) (v h b : Int) {t : Int} (y : Int) (ht : 0 ≤ t ∧ t ≤ 1) : 0 ≤ lvT σ v h b t y ∧ lvT σ v h b t y ≤ 1 := by
  unfold lvT
  cases y.toNat with
  | zero => exact ht
  | succ n =>
    show 0 ≤ bI _ ∧ bI _ ≤ 1
    rcases bI01 (20 ≤ yap v (fr σ n) h (tY (fr σ) v h b t n).1 (tY (fr σ) v h b t n).2.1) with h | h <;> rw [h] <;> decide
theorem lvS_in (σ : St) {v : Int} (h : Int) {b : Int} (t : Int) {y : Int} (hv : 0 ≤ v ∧ v ≤ 9) (hb : 0 ≤ b ∧ b ≤ 9) (hy : 0 ≤ y) : 0 ≤ lvS σ v h b t y ∧ lvS σ v h b t y ≤ 81 * y := by
  have key : ∀ n : Nat, 0 ≤ (tY (fr σ) v h b t n).2.2 ∧ (tY (fr σ) v h b t n).2.2 ≤ 81 * (n : Int) := by
    intro n
    induction n with
    | zero => exact ⟨Int.le_refl _, by simp [tY]⟩
    | succ n ih =>
      have h1 : 0 ≤ (tY (fr σ) v h b t n).1 ∧ (tY (fr σ) v h b t n).1 ≤ 9 := by
        have := lvB_in σ v h (t := t) (n : Int) hb
        unfold lvB at this
        simpa using this
      have h2 := yap_in (fr σ n) h (tY (fr σ) v h b t n).2.1 hv h1
      simp only [tY]
      omega
  have h3 := key y.toNat
  unfold lvS
  omega
def xSp (σ : St) (s c : Int) : St := su σ 8 (tw s) (σ 8 (tw s) - c)
theorem xWF_sp {σ : St} (h : xWF σ) {s c : Int} (h0 : 0 ≤ c) (h1 : c ≤ σ 8 (tw s)) : xWF (su σ 8 (tw s) (σ 8 (tw s) - c)) := xWF_s8 h (by have := xWF_8 h (tw s); omega)
def xPlant (σ : St) (s so v : Int) : St := if σ 4 s = -1 ∧ 5 ≤ σ 8 (tw s) then su (su (su (su (xSp σ s 5) 4 s so) 5 s 1) 6 s v) 7 s 0 else σ
def xPrune (σ : St) (s c : Int) : St := if ¬ σ 4 s = -1 ∧ c ≤ σ 5 s ∧ 2 ≤ σ 8 (tw s) then su (su (xSp σ s 2) 5 s (σ 5 s - c)) 7 s 0 else σ
def xGraft (σ : St) (s so : Int) : St := if ¬ σ 4 s = -1 ∧ ¬ σ 4 s = so ∧ 1 ≤ σ 5 s ∧ 4 ≤ σ 8 (tw s) then su (su (xSp σ s 4) 4 s so) 5 s (max 1 (σ 5 s / 2)) else σ
def xFell (σ : St) (s : Int) : St := if ¬ σ 4 s = -1 ∧ 6 ≤ σ 8 (tw s) then su (su (su (su (xSp σ s 6) 4 s (-1)) 5 s 0) 6 s 0) 7 s 0 else σ
def xPassA (σ : St) (s y : Int) : St := su (su (su σ 5 s (lvB σ (σ 6 s) (lkh σ s) (σ 5 s) (σ 7 s) y)) 7 s (lvT σ (σ 6 s) (lkh σ s) (σ 5 s) (σ 7 s) y)) 2 (σ 4 s) (σ 2 (σ 4 s) + lvS σ (σ 6 s) (lkh σ s) (σ 5 s) (σ 7 s) y)
def gnP (σ : St) (s c y : Int) : Int := if ¬ σ 4 s = -1 ∧ c ≤ σ 5 s ∧ 2 ≤ σ 8 (tw s) then lvS σ (σ 6 s) (lkh σ s) (σ 5 s - c) 0 y - lvS σ (σ 6 s) (lkh σ s) (σ 5 s) (σ 7 s) y else 0
theorem fit_z {z : Int} (h : z = 0 ∨ z = 1) : fits .boolean (.int (iI z)) = true := by
  rcases h with rfl | rfl <;> rfl
