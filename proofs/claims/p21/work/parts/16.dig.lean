/-! words of digest and mean -/
def dgs (d : Int64) (x : Int) : Int64 := d * 31 + (iI x).toInt64
def dgF (f : Int → Int) (d : Int64) : Nat → Int64
  | 0 => d
  | n + 1 => dgs (dgF f d n) (f n)
def dgN (g : Int → Int64 → Int64) (d : Int64) : Nat → Int64
  | 0 => d
  | n + 1 => g n (dgN g d n)
theorem dgF_s (f : Int → Int) (d : Int64) {i : Int} (h : 0 ≤ i) : dgF f d (i + 1).toNat = dgs (dgF f d i.toNat) (f i) := by
  rw [show (i + 1).toNat = i.toNat + 1 by omega]
  show dgs (dgF f d i.toNat) (f (i.toNat : Int)) = _
  rw [show ((i.toNat : Nat) : Int) = i by omega]
theorem dgN_s (g : Int → Int64 → Int64) (d : Int64) {i : Int} (h : 0 ≤ i) : dgN g d (i + 1).toNat = g i (dgN g d i.toNat) := by
  rw [show (i + 1).toNat = i.toNat + 1 by omega]
  show g (i.toNat : Int) (dgN g d i.toNat) = _
  rw [show ((i.toNat : Nat) : Int) = i by omega]
def dgC (σ : St) : Int64 := dgF (xCount σ) 863 8
def dgSo (σ : St) : Int64 := dgN (fun a d => dgF (xSort σ a) d 4) (dgC σ) 6
def dgFr (σ : St) : Int64 := dgF (σ 3) (dgSo σ) 10
def dgT (σ : St) : Int64 := dgN (fun a d => dgF (xTree σ a) d 6) (dgFr σ) 40
def xDig (σ : St) : Int64 := dgs (dgT σ) (σ 9 1)
theorem isum_in {f : Int → Int} {lo hi : Int} (h : ∀ j, lo ≤ f j ∧ f j ≤ hi) (n : Nat) : lo * n ≤ isum f n ∧ isum f n ≤ hi * n := by
  induction n with
  | zero => simp [isum]
  | succ n ih =>
    have h1 := h n
    have e1 : lo * ((n + 1 : Nat) : Int) = lo * n + lo := by rw [Int.natCast_succ, Int.mul_add, Int.mul_one]
    have e2 : hi * ((n + 1 : Nat) : Int) = hi * n + hi := by rw [Int.natCast_succ, Int.mul_add, Int.mul_one]
    rw [e1, e2]
    simp only [isum]
    omega
theorem isumI_in {f : Int → Int} {lo hi : Int} (h : ∀ j, lo ≤ f j ∧ f j ≤ hi) {i : Int} (hi0 : 0 ≤ i) : lo * i ≤ isumI f i ∧ isumI f i ≤ hi * i := by
  have := isum_in h i.toNat
  rw [show ((i.toNat : Nat) : Int) = i by omega] at this
  exact this
def mnOk (a b : Nat) : Bool := decide ((FP.ddiv (FP.i2d (iI (a : Int))) (FP.i2d (iI (b : Int)))) &&& 0x7fffffffffffffff ≤ (0x7ff0000000000000 : UInt64))
theorem mn_all : (List.range 361).all (fun a => (List.range 40).all (fun b => mnOk a (b + 1))) = true := by decide +kernel
theorem mn_ok {a b : Int} (ha : 0 ≤ a ∧ a ≤ 360) (hb : 1 ≤ b ∧ b ≤ 40) : vf_n64 (FP.ddiv (FP.i2d (iI a)) (FP.i2d (iI b))) := by
  have h1 := List.all_eq_true.mp mn_all a.toNat (List.mem_range.mpr (by omega))
  have h2 := List.all_eq_true.mp h1 (b.toNat - 1) (List.mem_range.mpr (by omega))
  have h3 : mnOk a.toNat b.toNat = true := by
    rw [show b.toNat = b.toNat - 1 + 1 by omega]
    exact h2
  have h4 := of_decide_eq_true h3
  rw [show ((a.toNat : Nat) : Int) = a by omega, show ((b.toNat : Nat) : Int) = b by omega] at h4
  exact h4
def xTrees (σ : St) : Int := isumI (fun j => bI (¬ σ 4 j = -1)) 40
def xBran (σ : St) : Int := isumI (σ 5) 40
def xMean (σ : St) : UInt64 := if xTrees σ = 0 then FP.dconst0 else FP.ddiv (FP.i2d (iI (xBran σ))) (FP.i2d (iI (xTrees σ)))
theorem xTrees_in (σ : St) : 0 ≤ xTrees σ ∧ xTrees σ ≤ 40 := by
  have := isumI_in (f := fun j => bI (¬ σ 4 j = -1)) (lo := 0) (hi := 1) (fun j => by rcases bI01 (¬ σ 4 j = -1) with h | h <;> rw [h] <;> decide) (i := 40) (by decide)
  unfold xTrees
  omega
theorem xBran_in {σ : St} (h : xWF σ) : 0 ≤ xBran σ ∧ xBran σ ≤ 360 := by
  have := isumI_in (f := σ 5) (xWF_5 h) (i := 40) (by decide)
  unfold xBran
  omega
section DR
variable {p : Program} {l : Launch} {e : Env} {R : Room} {s : State} {m : MethodId} {args : Array Value} {below : List Frame} {meth : Method} {c : Code} {H : Heap} {locs : List Loc} {cells slots : Nat} {Q : State → Prop}
variable {cc : ByteArray} {pc : Nat} {ls : Array Slot} {D : va_G} {tys : List (ClassId × FieldType)} {wo : St → va_W} {rv : St → Option Value} {kr : St → Prop} {mc ms : Nat} {A : Nat → Prop}
theorem g_dret (hx : p.tables.exec = Jvm.exec) (hb : c.code = cc) (hr : meth.sig.returnType = some .double) (hlocks : meth.locks = false) (κ : St) {z : UInt64} (hP : va_P D vwCl (wo κ) H) (hK : va_K D vwCl tys s) (hD : va_D A (wo κ)) (hS : va_S A s.heap H locs) (hk : kr κ) (hv : rv κ = some (.double z)) (hc : cells ≤ mc) (hs : slots ≤ ms) (hdg : decode cc pc = .ok (.dreturn, 1)) :
    W p l e R s m args below meth c H locs cells slots (MQ below (gQ D tys wo A rv kr) args s mc ms A) (F0 m pc ls [.double z]) := by
  refine W.widen hc hs ?_
  exact W.dret hx hb hr (fun t ht hW => ⟨⟨κ, by rw [hv], hk, by rw [ht]; exact hP, va_K.moved hW.alike hK, hD⟩, hS.F ht⟩) hS.2.2 hdg hlocks
end DR
