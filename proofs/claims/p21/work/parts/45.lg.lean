/-! the law's body: what it carries -/
def lG (p : Program) (l : Launch) (s : State) (m : MethodId) (c : Code) (args : Array Value) (A : Nat → Prop) (D : va_G) (cI cZ cT cU cQ : ClassId) (b L : Nat) (xs : Nat → Int32) : Prop :=
  CallFix p m c code 35 s args wsL_law RL ∧ l.stackTraces = false ∧ va_K D vwCl (tyA cI cZ cT cU cQ) s ∧ (∀ q : Nat, s.heap.size ≤ q → A q) ∧ tExA A s ∧ nst s ∧ scrA b L xs A s ∧ L ≤ 260
theorem va_D2 {A : Nat → Prop} {a b : va_W} {x y : Nat × va_E} (h : va_D A (a ++ b)) (hx : x ∈ a) (hy : y ∈ b) : va_D A [x, y] := by
  obtain ⟨i, hi⟩ := List.getElem?_of_mem hx
  obtain ⟨j, hj⟩ := List.getElem?_of_mem hy
  have hne := g_Dapart h hi hj
  refine va_Do ?_ (fun q hq => ?_)
  · show [x.1, y.1].Nodup
    simp [hne]
  · rcases List.mem_cons.mp hq with e | e
    · rw [e]
      exact (g_Dleft h).2 i x hi
    · rw [List.mem_singleton] at e
      rw [e]
      exact (g_Dright h).2 j y hj
theorem xCountR3 {σ : St} (h : xWF σ) (hb : ∀ j, σ 2 j ≤ 210000) (w : Int) : inR (xCount σ w) := by
  have h9 := xWF_9 h
  have h80 := xWF_8 h 0
  have h81 := xWF_8 h 1
  have h3 := isumB (P := fun j => ¬ σ 4 j = -1) (n := 40) (by decide)
  have h4 := isumB (P := fun j => ¬ σ 7 j = 0) (n := 40) (by decide)
  have h5 := isumI_in (f := σ 2) (lo := 0) (hi := 210000) (fun j => ⟨(xWF_2 h j).1, hb j⟩) (i := 6) (by decide)
  have h6 := isumI_in (f := fun j => σ 2 j * σ 0 j) (lo := 0) (hi := 1890000) (fun j => by
    have a := xWF_2 h j
    have a2 := hb j
    have b := xWF_0 h j
    have c := Int.mul_nonneg a.1 (show 0 ≤ σ 0 j by omega)
    have e := Int.mul_le_mul_of_nonneg_left b.2 a.1
    exact ⟨c, by omega⟩) (i := 6) (by decide)
  have h7 := isumI_in (f := fun r => isumI (fun q => upr σ r q) 4) (lo := 0) (hi := 4) (fun r => upR r) (i := 5) (by decide)
  unfold xCount inR
  repeat' split
  all_goals omega
