/-! pure words of the reference's state μ: 0 weights, 1 bears, 2 frosts, 3 trees (5 numbers each: there, branches, vigour, sort, tired), 4 barn, 5 both strengths and the year, 6 thrown and tilt -/
def tWF (μ : St) (k : Int) : Prop := (0 ≤ μ 3 (5 * k + 0) ∧ μ 3 (5 * k + 0) ≤ 1) ∧ (0 ≤ μ 3 (5 * k + 1) ∧ μ 3 (5 * k + 1) ≤ 9) ∧ (0 ≤ μ 3 (5 * k + 2) ∧ μ 3 (5 * k + 2) ≤ 9) ∧ (0 ≤ μ 3 (5 * k + 3) ∧ μ 3 (5 * k + 3) ≤ 5) ∧ (0 ≤ μ 3 (5 * k + 4) ∧ μ 3 (5 * k + 4) ≤ 1)
def mWF (μ : St) : Prop := (∀ j, 1 ≤ μ 0 j ∧ μ 0 j ≤ 9) ∧ (∀ j, 0 ≤ μ 1 j ∧ μ 1 j ≤ 9) ∧ (∀ j, 0 ≤ μ 2 j ∧ μ 2 j ≤ 9) ∧ (∀ k, tWF μ k) ∧ (∀ j, 0 ≤ μ 4 j ∧ μ 4 j ≤ 100000000) ∧ (0 ≤ μ 5 0 ∧ μ 5 0 ≤ 20) ∧ (0 ≤ μ 5 1 ∧ μ 5 1 ≤ 20) ∧ (0 ≤ μ 5 2 ∧ μ 5 2 ≤ 100000000)
theorem mWF_0 {μ : St} (h : mWF μ) (j : Int) : 1 ≤ μ 0 j ∧ μ 0 j ≤ 9 := h.1 j
theorem mWF_1 {μ : St} (h : mWF μ) (j : Int) : 0 ≤ μ 1 j ∧ μ 1 j ≤ 9 := h.2.1 j
theorem mWF_2 {μ : St} (h : mWF μ) (j : Int) : 0 ≤ μ 2 j ∧ μ 2 j ≤ 9 := h.2.2.1 j
theorem mWF_t {μ : St} (h : mWF μ) (k : Int) : tWF μ k := h.2.2.2.1 k
theorem mWF_4 {μ : St} (h : mWF μ) (j : Int) : 0 ≤ μ 4 j ∧ μ 4 j ≤ 100000000 := h.2.2.2.2.1 j
theorem mWF_50 {μ : St} (h : mWF μ) : 0 ≤ μ 5 0 ∧ μ 5 0 ≤ 20 := h.2.2.2.2.2.1
theorem mWF_51 {μ : St} (h : mWF μ) : 0 ≤ μ 5 1 ∧ μ 5 1 ≤ 20 := h.2.2.2.2.2.2.1
theorem mWF_52 {μ : St} (h : mWF μ) : 0 ≤ μ 5 2 ∧ μ 5 2 ≤ 100000000 := h.2.2.2.2.2.2.2
theorem mWF_6 {μ : St} (h : mWF μ) (k v : Int) : mWF (su μ 6 k v) := ⟨mWF_0 (μ := μ) h, mWF_1 (μ := μ) h, mWF_2 (μ := μ) h, mWF_t (μ := μ) h, mWF_4 (μ := μ) h, mWF_50 (μ := μ) h, mWF_51 (μ := μ) h, mWF_52 (μ := μ) h⟩
def mAp (μ : St) (k : Int) : Int := if μ 3 (5 * k + 4) = 1 then μ 3 (5 * k + 1) * μ 3 (5 * k + 2) / 4 else μ 3 (5 * k + 1) * μ 3 (5 * k + 2)
def mTold (μ : St) (k w : Int) : Int := if w = 5 then mAp μ k else if w = 3 ∧ μ 3 (5 * k + 0) = 0 then -1 else μ 3 (5 * k + w)
def mSortT (μ : St) (a w : Int) : Int := if w = 0 then μ 0 a else if w = 1 then μ 1 a else if w = 2 then μ 4 a else isumI (fun k => bI (μ 3 (5 * k + 0) = 1 ∧ μ 3 (5 * k + 3) = a)) 40
def mAll (μ : St) (w : Int) : Int := isumI (fun k => μ 3 (5 * k + w)) 40
def mm (k : Int) : Int := k / 8 * 8 + 8 - 1 - k % 8
theorem mm_in {k : Int} (h0 : 0 ≤ k) (h1 : k < 40) : 0 ≤ mm k ∧ mm k < 40 := by
  unfold mm
  omega
def mSame (μ : St) (k : Int) : Prop := μ 3 (5 * k + 0) = μ 3 (5 * mm k + 0) ∧ μ 3 (5 * k + 3) = μ 3 (5 * mm k + 3) ∧ μ 3 (5 * k + 1) = μ 3 (5 * mm k + 1)
def mPair (μ : St) (k : Int) : Int := if mm k < k then 0 else if μ 3 (5 * k + 0) = μ 3 (5 * mm k + 0) ∧ μ 3 (5 * k + 3) = μ 3 (5 * mm k + 3) ∧ μ 3 (5 * k + 1) = μ 3 (5 * mm k + 1) then 0 else 1
def mCnt (μ : St) (w : Int) : Int := if w = 0 then μ 5 2 else if w = 1 ∨ w = 2 then μ 5 (w - 1) else if w = 3 then mAll μ 0 else if w = 4 then mAll μ 4 else if w = 5 then isumI (fun j => μ 4 j * 1) 6 else if w = 6 then isumI (fun j => μ 4 j * μ 0 j) 6 else isumI (mPair μ) 40
def mLean (μ : St) (r : Int) : Int := isumI (fun q => if q < 4 then mAp μ (8 * r + q) else -(mAp μ (8 * r + q))) 8
def mZ (μ : St) : St := su μ 6 0 0
def mFail (μ : St) (t : Int) : St := su (su μ 6 0 0) 6 0 t
def mRes (t : Int) (ok μ : St) : St := if t = 0 then ok else mFail μ t
def mVal (t v : Int) : Int := if t = 0 then v else 0
def mtCarry (μ : St) (a x y : Int) : Int := if ¬ (0 ≤ a ∧ a ≤ 5) then 1 else if ¬ ((0 ≤ x ∧ x ≤ 200) ∧ (0 ≤ y ∧ y ≤ 200) ∧ ¬ x + y = 0) then 2 else if ¬ (x + y ≤ μ 4 a) then 3 else 0
def mCan (μ : St) (k w i : Int) : Int := if w = 0 then bI (¬ μ 3 (5 * k + 0) = 1) else if w = 1 then bI (μ 3 (5 * k + 0) = 1 ∧ i ≤ μ 3 (5 * k + 1)) else if w = 2 then bI (μ 3 (5 * k + 0) = 1 ∧ ¬ μ 3 (5 * k + 3) = i ∧ 0 < μ 3 (5 * k + 1)) else bI (μ 3 (5 * k + 0) = 1)
theorem mCan_in (μ : St) (k w i : Int) : mCan μ k w i = 0 ∨ mCan μ k w i = 1 := by
  unfold mCan
  split
  · exact bI01 _
  · split
    · exact bI01 _
    · split
      · exact bI01 _
      · exact bI01 _
-- a year
def mBr (μ : St) (f k : Int) : Int := max 0 (μ 3 (5 * k + 1) - max 0 (f - μ 1 (μ 3 (5 * k + 3))))
def mYap (μ : St) (f k : Int) : Int := if μ 3 (5 * k + 4) = 1 then mBr μ f k * μ 3 (5 * k + 2) / 4 else mBr μ f k * μ 3 (5 * k + 2)
def mYk (μ : St) (f k : Int) : St := su (su (su (su (su μ 3 (5 * k + 1) (mBr μ f k)) 4 (μ 3 (5 * k + 3)) (μ 4 (μ 3 (5 * k + 3)) + mYap μ f k)) 3 (5 * k + 4) (bI (20 ≤ mYap μ f k))) 3 (5 * k + 1) (min 9 (mBr μ f k + grm (μ 3 (5 * k + 2))))) 7 0 0
