/-! the reference's digest and mean, pure -/
def mdC (μ : St) : Int64 := dgF (mCnt (mZ μ)) 863 8
def mdS (μ : St) : Int64 := dgN (fun a d => dgF (mSortT (mZ μ) a) d 4) (mdC μ) 6
def mdF (μ : St) : Int64 := dgF (μ 2) (mdS μ) 10
def mdT (μ : St) : Int64 := dgN (fun a d => dgF (mTold (mZ μ) a) d 6) (mdF μ) 40
def mDig (μ : St) : Int64 := dgs (mdT μ) (μ 6 1)
def mMean (μ : St) : UInt64 := if mAll μ 0 = 0 then FP.dconst0 else FP.ddiv (FP.i2d (iI (mAll μ 1))) (FP.i2d (iI (mAll μ 0)))
theorem mTrees_in {μ : St} (h : mWF μ) : 0 ≤ mAll μ 0 ∧ mAll μ 0 ≤ 40 := by
  have := isumI_in (f := fun k => μ 3 (5 * k + 0)) (lo := 0) (hi := 1) (fun k => (mWF_t h k).1) (i := 40) (by decide)
  unfold mAll
  omega
theorem mBran_in {μ : St} (h : mWF μ) : 0 ≤ mAll μ 1 ∧ mAll μ 1 ≤ 360 := by
  have := isumI_in (f := fun k => μ 3 (5 * k + 1)) (lo := 0) (hi := 9) (fun k => (mWF_t h k).2.1) (i := 40) (by decide)
  unfold mAll
  omega
