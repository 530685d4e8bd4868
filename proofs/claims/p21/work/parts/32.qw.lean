/-! a table of 40 rows of five numbers; calls that only read -/
def tgr (a : Nat → Nat) : Nat → Option Nat := fun i => if i < 40 then some (a i) else none
def QR (cI : ClassId) (a : Nat → Nat) (g : St) : va_W := (List.range 40).map (fun k => (a k, aI cI 5 (g k)))
def QW (cI cQ : ClassId) (w : Nat) (a : Nat → Nat) (g : St) : va_W := [(w, rQ cQ 40 (tgr a))] ++ QR cI a g
def tG (σ : St) : St := fun i j => xTree σ (i : Int) j
theorem qr_at {cI : ClassId} {a : Nat → Nat} {g : St} {k : Nat} (h : k < 40) : (QR cI a g)[k]? = some (a k, aI cI 5 (g k)) := by
  unfold QR
  rw [List.getElem?_map, List.getElem?_range h]
  rfl
theorem qw_at {cI cQ : ClassId} {w : Nat} {a : Nat → Nat} {g : St} {k : Nat} (h : k < 40) : (QW cI cQ w a g)[k + 1]? = some (a k, aI cI 5 (g k)) := qr_at h
theorem qr_set {cI : ClassId} {a : Nat → Nat} {g : St} {k : Nat} {f : Int → Int} (h : k < 40) : (QR cI a g).set k (a k, aI cI 5 f) = QR cI a (sr g k f) := by
  apply List.ext_getElem?
  intro j
  by_cases hj : j = k
  · subst hj
    rw [List.getElem?_set_self (List.getElem?_eq_some_iff.mp (qr_at (cI := cI) (a := a) (g := g) h)).1, qr_at h]
    unfold sr
    rw [if_pos rfl]
  · rw [List.getElem?_set_ne (Ne.symm hj)]
    by_cases h4 : j < 40
    · rw [qr_at h4, qr_at h4]
      unfold sr
      rw [if_neg hj]
    · have hl : ∀ g' : St, (QR cI a g')[j]? = none := fun g' => List.getElem?_eq_none (by unfold QR; rw [List.length_map, List.length_range]; omega)
      rw [hl, hl]
theorem set_app {a b : va_W} {n m : Nat} {x : Nat × va_E} (h : a.length = m) : (a ++ b).set (n + m) x = a ++ b.set n x := by
  subst h
  rw [List.set_append_right _ _ (Nat.le_add_left _ _), Nat.add_sub_cancel]
theorem qw_set {cI cQ : ClassId} {w : Nat} {a : Nat → Nat} {g : St} {k : Nat} {f : Int → Int} (h : k < 40) : (QW cI cQ w a g).set (k + 1) (a k, aI cI 5 f) = QW cI cQ w a (sr g k f) := by
  unfold QW
  rw [set_app (m := 1) rfl, qr_set h]
theorem mna_q {X : va_W} {f : Nat → va_E} {w : Nat} {cI cQ : ClassId} {r : Nat → Nat} : ((X ++ [(w, rQ cQ 40 (tgr r))]) ++ va_pl ([] ++ (List.range 40).map r) (vr_up f ((List.range 40).map r) (aI cI 5 (fun _ => 0)))) = X ++ QW cI cQ w r (fun _ _ => 0) := by
  rw [← vr_rows (L := []) (f := f) (l := (List.range 40).map r) (e := aI cI 5 (fun _ => 0)) (fun _ _ h => absurd h List.not_mem_nil), List.append_assoc]
  unfold QW QR va_pl
  rw [List.map_map]
  rfl
theorem inner_i (c : ClassId) : Jvm.Free.Multi.innerC c 5 (defaultValue .int) = vp_cell c (5, .inl (fun j : Nat => iI ((fun _ => 0 : Int → Int) (j : Int)))) := by
  rw [vp_cell_i]
  show ({ cls := c, slots := Array.replicate 5 (.int 0), vm := .none } : Cell) = _
  rw [arrV_new]
  rfl
theorem qr_mem {cI : ClassId} {a : Nat → Nat} {g : St} {x : Nat × va_E} (h : x ∈ QR cI a g) : ∃ k : Nat, k < 40 ∧ x = (a k, aI cI 5 (g k)) := by
  obtain ⟨k, hk, rfl⟩ := List.mem_map.mp h
  exact ⟨k, List.mem_range.mp hk, rfl⟩
theorem qw_P {D : va_G} {cl : List vw_C} {H : Heap} {W : va_W} {cI cQ : ClassId} {w : Nat} {a : Nat → Nat} {g g' : St} (h : ∀ i : Nat, i < 40 → ∀ j : Int, 0 ≤ j → j < 5 → g i j = g' i j) (hP : va_P D cl (W ++ QW cI cQ w a g) H) : va_P D cl (W ++ QW cI cQ w a g') H := by
  have hq := g_right hP
  refine (g_left hP).app (fun i x hi => ?_)
  rcases List.mem_append.mp (List.mem_of_getElem? hi) with hx | hx
  · obtain ⟨j, hj⟩ := List.getElem?_of_mem (show x ∈ QW cI cQ w a g from List.mem_append_left _ hx)
    exact hq j x hj
  · obtain ⟨k, hk, rfl⟩ := qr_mem hx
    exact aI_congr cI (h k hk) D cl (a k) H (hq (k + 1) _ (qw_at hk))
theorem qr_f {cI : ClassId} {a : Nat → Nat} {g g' : St} : (QR cI a g).map Prod.fst = (QR cI a g').map Prod.fst := by
  unfold QR
  rw [List.map_map, List.map_map]
  rfl
theorem qw_D {A : Nat → Prop} {W : va_W} {cI cQ : ClassId} {w : Nat} {a : Nat → Nat} {g g' : St} (hD : va_D A (W ++ QW cI cQ w a g)) : va_D A (W ++ QW cI cQ w a g') := by
  have e : (W ++ QW cI cQ w a g').map Prod.fst = (W ++ QW cI cQ w a g).map Prod.fst := by
    unfold QW
    rw [List.map_append, List.map_append, List.map_append, List.map_append, qr_f (g := g) (g' := g')]
  refine va_Do (by rw [e]; exact va_Dn hD) (fun q hq => ?_)
  have h2 : q.1 ∈ (W ++ QW cI cQ w a g).map Prod.fst := by rw [← e]; exact List.mem_map.mpr ⟨q, hq, rfl⟩
  obtain ⟨x, hx, ex⟩ := List.mem_map.mp h2
  obtain ⟨j, hj⟩ := List.getElem?_of_mem hx
  rw [← ex]
  exact hD.2 j x hj
section GRd
variable {p : Program} {l : Launch} {e : Env} {R : Room} {s : State} {m : MethodId} {args : Array Value} {below : List Frame} {meth : Method} {c : Code} {H : Heap} {locs : List Loc} {cells slots : Nat} {Q : State → Prop}
variable {pc : Nat} {ls : Array Slot} {rest st0 : List Value} {D : va_G} {A0 : Nat → Prop} {tys' : List (ClassId × FieldType)} {wi ws : va_W} {H0 : Heap} {rv : St → Option Value} {kr : St → Prop} {a : Array Value} {mc ms : Nat}
/-- a call of a method that gives back the cells that it reads -/
theorem g_callR (hr : va_Run p l e R s m args below meth c H locs cells slots mc ms (F0 m pc ls st0) rest (gQ D tys' (fun _ => wi) (va_A wi H.size) rv kr a) (va_A wi H.size)) (hsub : ∀ x ∈ wi, x ∈ ws) (hP : va_P D vwCl ws H) (hD : va_D A0 ws) (hS : va_S A0 H0 H locs) (hA : ∀ q, H0.size ≤ q → A0 q)
    (kk : ∀ (κ : St) (H1 : Heap) (locs1 : List Loc), kr κ → va_P D vwCl ws H1 → va_S A0 H0 H1 locs1 → W p l e R s m args below meth c H1 locs1 (cells + mc) (slots + ms) Q (F0 m (pc + 3) ls ((rv κ).toList ++ rest))) : W p l e R s m args below meth c H locs cells slots Q (F0 m pc ls st0) := by
  intro T hT X
  obtain ⟨v, st₀, t, T', L, hh0, X', hL, e1', e2, ⟨⟨κ, hv, hp, hb, hk2, hd⟩, hz, hk⟩, st⟩ := hr T hT X
  cases hv
  rw [hh0] at hz hk
  have hF : ∀ q, va_A wi H.size q → A0 q := by
    intro q h
    rcases h with ⟨k, e9, h⟩ | h
    · obtain ⟨j, hj⟩ := List.getElem?_of_mem (hsub _ (List.mem_of_getElem? h))
      exact hD.2 j _ hj
    · exact hA q (Nat.le_trans hS.1 h)
  have hP1 : va_P D vwCl ws T'.heap := by
    intro k q hk9
    by_cases hq : ∃ (i : Nat) (e9 : va_E), wi[i]? = some (q.1, e9)
    · obtain ⟨i, e9, hi⟩ := hq
      obtain ⟨j, hj⟩ := List.getElem?_of_mem (hsub _ (List.mem_of_getElem? hi))
      have := hD.1 j k _ _ hj hk9 rfl
      subst this
      rw [hk9] at hj
      have h9 : q = (q.1, e9) := Option.some.inj hj
      have h5 := hb i _ hi
      rw [← h9] at h5
      rw [e1']
      exact h5
    · refine (hP k q hk9).kept ?_
      rw [e1']
      refine hk q.1 ((hP k q hk9).lt) ?_
      rintro (h | h)
      · exact hq h
      · have := (hP k q hk9).lt
        omega
  obtain ⟨t2, a1, b1⟩ := kk κ T'.heap (locs ++ L) hp hP1
    ⟨Nat.le_trans hS.1 (by rw [e1']; exact hz), fun q h1 h2 => by rw [e1', hk q (Nat.lt_of_lt_of_le h1 hS.1) (fun z => h2 (hF q z))]; exact hS.2.1 q h1 h2, fun q hq => by
      rcases List.mem_append.mp hq with h | h
      · exact hS.2.2 q h
      · exact hF _ (hL q h)⟩ T' rfl X'
  exact ⟨t2, st t2 a1, b1⟩
end GRd
