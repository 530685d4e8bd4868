/-! the law's body: what it carries -/
def lG (p : Program) (l : Launch) (s : State) (m : MethodId) (c : Code) (args : Array Value) (A : Nat → Prop) (D : va_G) (cI cZ cT cU cQ : ClassId) (b L : Nat) (xs : Nat → Int32) : Prop :=
  CallFix p m c code 35 s args wsL_law RL ∧ l.stackTraces = false ∧ va_K D vwCl (tyA cI cZ cT cU cQ) s ∧ (∀ q : Nat, s.heap.size ≤ q → A q) ∧ tExA A s ∧ nst s ∧ scrA b L xs A s ∧ L ≤ 260
theorem va_D2 {A : Nat → Prop} {a b : va_W} {x y : Nat × va_E} (h : va_D A (a ++ b)) (hx : x ∈ a) (hy : y ∈ b) : va_D A [x, y] := by
  obtain ⟨i, hi⟩ := List.getElem?_of_mem hx
  obtain ⟨j, hj⟩ := List.getElem?_of_mem hy
  have hne := g_Dapart h hi hj
  refine va_Do ?_ (fun q hq => ?_)
  · show [x.1, y.1].Nodup
    simp [hne]
  · rcases List.mem_cons.mp hq with e | e
    · rw [e]
      exact (g_Dleft h).2 i x hi
    · rw [List.mem_singleton] at e
      rw [e]
      exact (g_Dright h).2 j y hj
theorem xCountR3 {σ : St} (h : xWF σ) (hb : ∀ j, σ 2 j ≤ 210000) (w : Int) : inR (xCount σ w) := by
  have h9 := xWF_9 h
  have h80 := xWF_8 h 0
  have h81 := xWF_8 h 1
  have h3 := isumB (P := fun j => ¬ σ 4 j = -1) (n := 40) (by decide)
  have h4 := isumB (P := fun j => ¬ σ 7 j = 0) (n := 40) (by decide)
  have h5 := isumI_in (f := σ 2) (lo := 0) (hi := 210000) (fun j => ⟨(xWF_2 h j).1, hb j⟩) (i := 6) (by decide)
  have h6 := isumI_in (f := fun j => σ 2 j * σ 0 j) (lo := 0) (hi := 1890000) (fun j => by
    have a := xWF_2 h j
    have a2 := hb j
    have b := xWF_0 h j
    have c := Int.mul_nonneg a.1 (show 0 ≤ σ 0 j by omega)
    have e := Int.mul_le_mul_of_nonneg_left b.2 a.1
    exact ⟨c, by omega⟩) (i := 6) (by decide)
  have h7 := isumI_in (f := fun r => isumI (fun q => upr σ r q) 4) (lo := 0) (hi := 4) (fun r => upR r) (i := 5) (by decide)
  unfold xCount inR
  repeat' split
  all_goals omega
theorem wB_z {σ : St} {k : Int} (h : wB σ k = 0) : σ 4 k = -1 := by
  by_cases g : σ 4 k = -1
  · exact g
  · rw [wB_y g] at h
    exact absurd h (by decide)
theorem wD_z {σ : St} {k : Int} (h : wD σ k = 0) : σ 7 k = 0 := by
  by_cases g : σ 7 k = 0
  · exact g
  · rw [show wD σ k = 1 from bI_t g] at h
    exact absurd h (by decide)
theorem wD_o {σ : St} {k : Int} (h : wD σ k = 1) : ¬ σ 7 k = 0 := fun g => by
  rw [wD_n g] at h
  exact absurd h (by decide)
theorem fs_z {σ : St} {k : Int} (h : wB σ k = 0) : fsA σ 1 k = 0 ∧ fsB σ 1 k = 0 := ⟨if_pos (wB_z h), if_pos (wB_z h)⟩
theorem AF_sp {σ τ : St} {r p w h t : Int} (hA : AF σ τ r p w h t) : (w = -1 → xCount σ 1 - xCount τ 1 = 0 ∧ xCount σ 2 - xCount τ 2 = 0) ∧ (xCount σ 1 - xCount τ 1 = 0 ∨ xCount σ 1 - xCount τ 1 = cst w) ∧ (xCount σ 2 - xCount τ 2 = 0 ∨ xCount σ 2 - xCount τ 2 = cst w) ∧ (p < 4 → (0 < xCount σ 1 - xCount τ 1 ↔ h = 1) ∧ (0 < xCount σ 2 - xCount τ 2 ↔ t = 1)) ∧ (¬ p < 4 → (0 < xCount σ 2 - xCount τ 2 ↔ h = 1) ∧ (0 < xCount σ 1 - xCount τ 1 ↔ t = 1)) ∧ (-10 ≤ xCount σ 1 - xCount τ 1 ∧ xCount σ 1 - xCount τ 1 ≤ 10) ∧ (-10 ≤ xCount σ 2 - xCount τ 2 ∧ xCount σ 2 - xCount τ 2 ≤ 10) := by
  obtain ⟨h0, t0, hw, -, -, ⟨s1, s2⟩, -⟩ := hA
  have kc := cst_in w
  show (w = -1 → σ 8 0 - τ 8 0 = 0 ∧ σ 8 1 - τ 8 1 = 0) ∧ (σ 8 0 - τ 8 0 = 0 ∨ σ 8 0 - τ 8 0 = cst w) ∧ (σ 8 1 - τ 8 1 = 0 ∨ σ 8 1 - τ 8 1 = cst w) ∧ (p < 4 → (0 < σ 8 0 - τ 8 0 ↔ h = 1) ∧ (0 < σ 8 1 - τ 8 1 ↔ t = 1)) ∧ (¬ p < 4 → (0 < σ 8 1 - τ 8 1 ↔ h = 1) ∧ (0 < σ 8 0 - τ 8 0 ↔ t = 1)) ∧ (-10 ≤ σ 8 0 - τ 8 0 ∧ σ 8 0 - τ 8 0 ≤ 10) ∧ (-10 ≤ σ 8 1 - τ 8 1 ∧ σ 8 1 - τ 8 1 ≤ 10)
  rcases h0 with rfl | rfl <;> rcases t0 with rfl | rfl
  · rw [if_neg (by decide)] at s1 s2
    omega
  · rw [if_neg (by decide), if_pos rfl] at s1 s2
    omega
  · rw [if_pos rfl, if_neg (by decide)] at s1 s2
    omega
  · rw [if_pos rfl] at s1 s2
    omega
theorem act_keep (σ : St) (x : Int) (hw : 0 ≤ wkF x) : actS σ x 2 = σ 2 ∧ actS σ x 9 = σ 9 := by
  have hH := acH_in x
  have h3 := blw_in (shr x 5) (n := 3) (by decide)
  unfold wkF at hw
  unfold actS
  split
  · obtain ⟨-, -, a2, a3, a9⟩ := xPlant_r σ (acS x) (acO x) (acV x)
    obtain ⟨-, -, b2, b3, b9⟩ := xPlant_r (xPlant σ (acS x) (acO x) (acV x)) (mir (acS x)) (acO x) (acV x)
    exact ⟨by rw [b2, a2], by rw [b9, a9]⟩
  · rename_i g1
    split
    · obtain ⟨-, -, a2, a3, a9⟩ := xPrune_r σ (acS x) (acC x)
      obtain ⟨-, -, b2, b3, b9⟩ := xPrune_r (xPrune σ (acS x) (acC x)) (mir (acS x)) (acC x)
      exact ⟨by rw [b2, a2], by rw [b9, a9]⟩
    · rename_i g2
      split
      · obtain ⟨-, -, a2, a3, a9⟩ := xGraft_r σ (acS x) (acO x)
        obtain ⟨-, -, b2, b3, b9⟩ := xGraft_r (xGraft σ (acS x) (acO x)) (mir (acS x)) (acO x)
        exact ⟨by rw [b2, a2], by rw [b9, a9]⟩
      · rename_i g3
        split
        · split
          · exact ⟨rfl, rfl⟩
          · obtain ⟨-, -, a2, a3, a9⟩ := xFell_r σ (acS x)
            obtain ⟨-, -, b2, b3, b9⟩ := xFell_r (xFell σ (acS x)) (mir (acS x))
            exact ⟨by rw [b2, a2], by rw [b9, a9]⟩
        · rename_i g4
          rw [if_neg g1, if_neg g2, if_neg g3, if_neg (fun q => g4 q.1)] at hw
          exact absurd hw (by decide)
theorem barn_le {σ τ : St} (h : ∀ j, τ 2 j ≤ σ 2 j) : xCount τ 5 ≤ xCount σ 5 := by
  show isum (τ 2) 6 ≤ isum (σ 2) 6
  exact isum_le 6 (fun j _ _ => h j)
theorem barn_e {σ τ : St} (h : τ 2 = σ 2) : xCount τ 5 = xCount σ 5 := by
  show isum (τ 2) 6 = isum (σ 2) 6
  rw [h]
theorem drop4 {D : va_G} {cl : List vw_C} {H : Heap} {A : Nat → Prop} {a b c r : va_W} (hP : va_P D cl (a ++ (b ++ (c ++ r))) H) (hD : va_D A (a ++ (b ++ (c ++ r)))) : va_P D cl (a ++ (b ++ c)) H ∧ va_D A (a ++ (b ++ c)) := by
  have hs : (a ++ (b ++ c)).Sublist (a ++ (b ++ (c ++ r))) := (List.Sublist.refl _).append ((List.Sublist.refl _).append (List.sublist_append_left _ _))
  exact ⟨va_mem hP (fun q hq => List.Sublist.mem hq hs), va_Ds hD hs⟩
/-- between two rounds of the law's loop, t of them made -/
def lLv (t : Int) (σ : St) : Prop := xWF σ ∧ zWF σ ∧ (∀ j, σ 2 j ≤ 60000 + 3240 * t) ∧ σ 9 0 ≤ 20 + t
