/-! the reference's works -/
def said (i v : Int) : Int → Int := fu (fu (fu (fu (fu (fun _ => 0) 0 1) 1 1) 2 v) 3 i) 4 0
def felF (μ : St) (k i : Int) : Int → Int := fun j => if 5 * k ≤ j ∧ j < 5 * k + i then 0 else μ 3 j
def felU (μ : St) (k i : Int) : St := sr μ 3 (felF μ k i)
theorem felF_or (μ : St) (k i j : Int) : felF μ k i j = 0 ∨ felF μ k i j = μ 3 j := by
  unfold felF
  split
  · exact Or.inl rfl
  · exact Or.inr rfl
theorem fel_0 (μ : St) (k : Int) : μ = felU μ k 0 := by
  funext a
  unfold felU sr
  split
  · rename_i h
    subst h
    funext j
    unfold felF
    rw [if_neg (by omega)]
  · rfl
theorem fel_f (μ : St) (k : Int) {i : Int} (h : 0 ≤ i) : fu (felF μ k i) (5 * k + i) 0 = felF μ k (i + 1) := by
  funext j
  unfold fu felF
  by_cases hj : j = 5 * k + i
  · rw [if_pos hj, if_pos (show 5 * k ≤ j ∧ j < 5 * k + (i + 1) by omega)]
  · rw [if_neg hj]
    by_cases h2 : 5 * k ≤ j ∧ j < 5 * k + i
    · rw [if_pos h2, if_pos (show 5 * k ≤ j ∧ j < 5 * k + (i + 1) by omega)]
    · rw [if_neg h2, if_neg (show ¬ (5 * k ≤ j ∧ j < 5 * k + (i + 1)) by omega)]
theorem fel_s (μ : St) (k : Int) {i : Int} (h : 0 ≤ i) : su (felU μ k i) 3 (5 * k + i) 0 = felU μ k (i + 1) := by
  funext a
  by_cases ha : a = 3
  · subst ha
    exact fel_f μ k h
  · unfold felU su sr
    rw [if_neg ha, if_neg ha, if_neg ha]
def mChg (μ : St) (k w i v : Int) : St := if w = 0 then sr μ 3 (icpy (said i v) (μ 3) 0 (5 * k) 5) else if w = 1 then su (su μ 3 (5 * k + 1) (μ 3 (5 * k + 1) - i)) 3 (5 * k + 4) 0 else if w = 2 then su (su μ 3 (5 * k + 3) i) 3 (5 * k + 1) (max 1 (μ 3 (5 * k + 1) / 2)) else felU μ k 5
theorem cst_in (w : Int) : 2 ≤ cst w ∧ cst w ≤ 6 := by
  unfold cst
  split
  · omega
  · split
    · omega
    · split <;> omega
theorem mWF_5 {μ : St} (h : mWF μ) {t : Int} (h0 : 0 ≤ t) (h1 : t < 2) : 0 ≤ μ 5 t ∧ μ 5 t ≤ 20 := by
  rcases (show t = 0 ∨ t = 1 by omega) with rfl | rfl
  · exact mWF_50 h
  · exact mWF_51 h
def mDoC (μ : St) (r p w i : Int) : Prop := cst w ≤ μ 5 (p / 4) ∧ mCan μ (8 * r + p) w i = 1
def mDoA (μ : St) (r p w i : Int) : Int := bI (cst w ≤ μ 5 (p / 4) ∧ mCan μ (8 * r + p) w i = 1)
def mDo (μ : St) (r p w i v : Int) : St := if cst w ≤ μ 5 (p / 4) ∧ mCan μ (8 * r + p) w i = 1 then mChg (su μ 5 (p / 4) (μ 5 (p / 4) - cst w)) (8 * r + p) w i v else μ
def mArg (w i v : Int) : Prop := (w = 0 → (0 ≤ i ∧ i ≤ 5) ∧ 0 ≤ v ∧ v ≤ 9) ∧ (w = 1 → 1 ≤ i) ∧ (w = 2 → 0 ≤ i ∧ i ≤ 5)
theorem mWF_s5 {μ : St} (h : mWF μ) {t v : Int} (ht : t = 0 ∨ t = 1) (hv : 0 ≤ v ∧ v ≤ 20) : mWF (su μ 5 t v) := by
  refine ⟨mWF_0 (μ := μ) h, mWF_1 (μ := μ) h, mWF_2 (μ := μ) h, mWF_t (μ := μ) h, mWF_4 (μ := μ) h, ?_, ?_, ?_⟩
  · show 0 ≤ fu (μ 5) t v 0 ∧ fu (μ 5) t v 0 ≤ 20
    unfold fu
    split
    · exact hv
    · exact mWF_50 h
  · show 0 ≤ fu (μ 5) t v 1 ∧ fu (μ 5) t v 1 ≤ 20
    unfold fu
    split
    · exact hv
    · exact mWF_51 h
  · show 0 ≤ fu (μ 5) t v 2 ∧ fu (μ 5) t v 2 ≤ 100000000
    unfold fu
    rw [if_neg (by omega)]
    exact mWF_52 h
theorem mWF_r3 {μ : St} (h : mWF μ) {f : Int → Int} (hf : ∀ k, tWF (sr μ 3 f) k) : mWF (sr μ 3 f) := ⟨mWF_0 (μ := μ) h, mWF_1 (μ := μ) h, mWF_2 (μ := μ) h, hf, mWF_4 (μ := μ) h, mWF_50 (μ := μ) h, mWF_51 (μ := μ) h, mWF_52 (μ := μ) h⟩
theorem su_sr (μ : St) (i : Nat) (k v : Int) : su μ i k v = sr μ i (fu (μ i) k v) := rfl
theorem tWF_s {μ : St} {x y : Int} {k : Int} (h : tWF μ k) (w : Int) (hw : 0 ≤ w ∧ w < 5) (hy : 5 * y + w = x) (v : Int) (hv : (w = 0 → 0 ≤ v ∧ v ≤ 1) ∧ (w = 1 → 0 ≤ v ∧ v ≤ 9) ∧ (w = 2 → 0 ≤ v ∧ v ≤ 9) ∧ (w = 3 → 0 ≤ v ∧ v ≤ 5) ∧ (w = 4 → 0 ≤ v ∧ v ≤ 1)) : tWF (su μ 3 x v) k := by
  obtain ⟨h0, h1, h2, h3, h4⟩ := h
  refine ⟨?_, ?_, ?_, ?_, ?_⟩
  · show 0 ≤ fu (μ 3) x v (5 * k + 0) ∧ fu (μ 3) x v (5 * k + 0) ≤ 1
    unfold fu; split
    · exact hv.1 (by omega)
    · exact h0
  · show 0 ≤ fu (μ 3) x v (5 * k + 1) ∧ fu (μ 3) x v (5 * k + 1) ≤ 9
    unfold fu; split
    · exact hv.2.1 (by omega)
    · exact h1
  · show 0 ≤ fu (μ 3) x v (5 * k + 2) ∧ fu (μ 3) x v (5 * k + 2) ≤ 9
    unfold fu; split
    · exact hv.2.2.1 (by omega)
    · exact h2
  · show 0 ≤ fu (μ 3) x v (5 * k + 3) ∧ fu (μ 3) x v (5 * k + 3) ≤ 5
    unfold fu; split
    · exact hv.2.2.2.1 (by omega)
    · exact h3
  · show 0 ≤ fu (μ 3) x v (5 * k + 4) ∧ fu (μ 3) x v (5 * k + 4) ≤ 1
    unfold fu; split
    · exact hv.2.2.2.2 (by omega)
    · exact h4
theorem mWF_s3 {μ : St} (h : mWF μ) {x v : Int} (y w : Int) (hw : 0 ≤ w ∧ w < 5) (hy : 5 * y + w = x) (hv : (w = 0 → 0 ≤ v ∧ v ≤ 1) ∧ (w = 1 → 0 ≤ v ∧ v ≤ 9) ∧ (w = 2 → 0 ≤ v ∧ v ≤ 9) ∧ (w = 3 → 0 ≤ v ∧ v ≤ 5) ∧ (w = 4 → 0 ≤ v ∧ v ≤ 1)) : mWF (su μ 3 x v) := by
  rw [su_sr]
  exact mWF_r3 h (fun k => tWF_s (mWF_t h k) w hw hy v hv)
theorem said_0 (i v : Int) : said i v 0 = 1 ∧ said i v 1 = 1 ∧ said i v 2 = v ∧ said i v 3 = i ∧ said i v 4 = 0 := ⟨rfl, rfl, rfl, rfl, rfl⟩
theorem mWF_chg {μ : St} (h : mWF μ) {k w i v : Int} (hw : 0 ≤ w ∧ w ≤ 3) (ha : mArg w i v) (hc : mCan μ k w i = 1) : mWF (mChg μ k w i v) := by
  have hk := mWF_t h k
  unfold mChg
  by_cases w0 : w = 0
  · rw [if_pos w0]
    have a0 := ha.1 w0
    refine mWF_r3 h (fun k' => ?_)
    have hk' := mWF_t h k'
    have key : ∀ t : Int, 0 ≤ t → t < 5 → icpy (said i v) (μ 3) 0 (5 * k) 5 (5 * k' + t) = if k' = k then said i v t else μ 3 (5 * k' + t) := by
      intro t t0 t1
      unfold icpy
      by_cases e : k' = k
      · rw [if_pos (by omega), if_pos e]
        congr 1
        omega
      · rw [if_neg (by omega), if_neg e]
    have s := said_0 i v
    refine ⟨?_, ?_, ?_, ?_, ?_⟩
    · show 0 ≤ icpy (said i v) (μ 3) 0 (5 * k) 5 (5 * k' + 0) ∧ icpy (said i v) (μ 3) 0 (5 * k) 5 (5 * k' + 0) ≤ 1
      rw [key 0 (by decide) (by decide)]; split
      · rw [s.1]; decide
      · exact hk'.1
    · show 0 ≤ icpy (said i v) (μ 3) 0 (5 * k) 5 (5 * k' + 1) ∧ icpy (said i v) (μ 3) 0 (5 * k) 5 (5 * k' + 1) ≤ 9
      rw [key 1 (by decide) (by decide)]; split
      · rw [s.2.1]; decide
      · exact hk'.2.1
    · show 0 ≤ icpy (said i v) (μ 3) 0 (5 * k) 5 (5 * k' + 2) ∧ icpy (said i v) (μ 3) 0 (5 * k) 5 (5 * k' + 2) ≤ 9
      rw [key 2 (by decide) (by decide)]; split
      · rw [s.2.2.1]; exact a0.2
      · exact hk'.2.2.1
    · show 0 ≤ icpy (said i v) (μ 3) 0 (5 * k) 5 (5 * k' + 3) ∧ icpy (said i v) (μ 3) 0 (5 * k) 5 (5 * k' + 3) ≤ 5
      rw [key 3 (by decide) (by decide)]; split
      · rw [s.2.2.2.1]; exact a0.1
      · exact hk'.2.2.2.1
    · show 0 ≤ icpy (said i v) (μ 3) 0 (5 * k) 5 (5 * k' + 4) ∧ icpy (said i v) (μ 3) 0 (5 * k) 5 (5 * k' + 4) ≤ 1
      rw [key 4 (by decide) (by decide)]; split
      · rw [s.2.2.2.2]; decide
      · exact hk'.2.2.2.2
  · rw [if_neg w0]
    by_cases w1 : w = 1
    · rw [if_pos w1]
      have a1 := ha.2.1 w1
      have c1 : μ 3 (5 * k + 0) = 1 ∧ i ≤ μ 3 (5 * k + 1) := by
        unfold mCan at hc
        rw [if_neg w0, if_pos w1] at hc
        exact bI_1 hc
      have b1 := hk.2.1
      exact mWF_s3 (mWF_s3 h k 1 (by decide) rfl (by omega)) k 4 (by decide) rfl (by omega)
    · rw [if_neg w1]
      by_cases w2 : w = 2
      · rw [if_pos w2]
        have a2 := ha.2.2 w2
        have b1 := hk.2.1
        exact mWF_s3 (mWF_s3 h k 3 (by decide) rfl (by omega)) k 1 (by decide) rfl (by omega)
      · rw [if_neg w2]
        refine mWF_r3 h (fun k' => ?_)
        have hk' := mWF_t h k'
        refine ⟨?_, ?_, ?_, ?_, ?_⟩
        · show 0 ≤ felF μ k 5 (5 * k' + 0) ∧ felF μ k 5 (5 * k' + 0) ≤ 1
          rcases felF_or μ k 5 (5 * k' + 0) with e | e
          · rw [e]; decide
          · rw [e]; exact hk'.1
        · show 0 ≤ felF μ k 5 (5 * k' + 1) ∧ felF μ k 5 (5 * k' + 1) ≤ 9
          rcases felF_or μ k 5 (5 * k' + 1) with e | e
          · rw [e]; decide
          · rw [e]; exact hk'.2.1
        · show 0 ≤ felF μ k 5 (5 * k' + 2) ∧ felF μ k 5 (5 * k' + 2) ≤ 9
          rcases felF_or μ k 5 (5 * k' + 2) with e | e
          · rw [e]; decide
          · rw [e]; exact hk'.2.2.1
        · show 0 ≤ felF μ k 5 (5 * k' + 3) ∧ felF μ k 5 (5 * k' + 3) ≤ 5
          rcases felF_or μ k 5 (5 * k' + 3) with e | e
          · rw [e]; decide
          · rw [e]; exact hk'.2.2.2.1
        · show 0 ≤ felF μ k 5 (5 * k' + 4) ∧ felF μ k 5 (5 * k' + 4) ≤ 1
          rcases felF_or μ k 5 (5 * k' + 4) with e | e
          · rw [e]; decide
          · rw [e]; exact hk'.2.2.2.2
theorem mWF_do {μ : St} (h : mWF μ) {r p w i v : Int} (hp : 0 ≤ p ∧ p ≤ 7) (hw : 0 ≤ w ∧ w ≤ 3) (ha : mArg w i v) : mWF (mDo μ r p w i v) := by
  unfold mDo
  split
  · rename_i g
    have k5 := mWF_5 h (t := p / 4) (by omega) (by omega)
    have kc := cst_in w
    exact mWF_chg (mWF_s5 h (by omega) (by omega)) hw ha g.2
  · exact h
def mBoA (μ : St) (r p w i v : Int) : Int := (if mDoA μ r p w i = 0 then 0 else 1) + (if mDoA (mDo μ r p w i v) r (7 - p) w i = 0 then 0 else 2)
def mBo (μ : St) (r p w i v : Int) : St := mDo (mDo μ r p w i v) r (7 - p) w i v
theorem mWF_bo {μ : St} (h : mWF μ) {r p w i v : Int} (hp : 0 ≤ p ∧ p ≤ 7) (hw : 0 ≤ w ∧ w ≤ 3) (ha : mArg w i v) : mWF (mBo μ r p w i v) := mWF_do (mWF_do h hp hw ha) (by omega) hw ha
section GK
variable {p : Program} {l : Launch} {e : Env} {R : Room} {s : State} {m : MethodId} {args : Array Value} {below : List Frame} {meth : Method} {c : Code} {H : Heap} {locs : List Loc} {cells slots : Nat} {Q : State → Prop}
variable {cc : ByteArray} {pc : Nat} {ls : Array Slot} {rest : List Value} {A : Nat → Prop}
theorem gi_cost (hx : p.tables.exec = Jvm.exec) (hb : c.code = cc) {t : Nat} (hT : va_T .int t 4 (fun j => .int (iI (cst (j : Int)))) A s s.heap) (hS : va_S A s.heap H locs) {z : Int} (h0 : 0 ≤ z) (h1 : z < 4) (hdg : decode cc pc = .ok (.iaload, 1))
    (kk : W p l e R s m args below meth c H locs cells slots Q (F0 m (pc + 1) ls (.int (iI (cst z)) :: rest))) : W p l e R s m args below meth c H locs cells slots Q (F0 m pc ls (.int (iI z) :: .ref t :: rest)) :=
  va_ti hx hb hT hS (iI_in (n := 4) h0 h1 (by decide)).1 (by rw [(iI_in (n := 4) h0 h1 (by decide)).2]) hdg kk
end GK
