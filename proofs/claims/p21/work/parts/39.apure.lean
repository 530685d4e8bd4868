/-! what a work, done at a place and at its mirror, does -/
def cst (j : Int) : Int := if j = 0 then 5 else if j = 1 then 2 else if j = 2 then 4 else 6
def WP (a4 a5 a7 b4 b5 b7 w : Int) : Prop := (w = 0 → a4 = -1 ∧ ¬ b4 = -1 ∧ b5 = 1) ∧ (¬ w = 0 → ¬ a4 = -1) ∧ (w = 1 → b5 < a5 ∧ b7 = 0) ∧ (w = 2 → ¬ b4 = a4 ∧ 1 ≤ b5 ∧ b5 ≤ a5 ∧ b7 = a7) ∧ (w = 3 → b4 = -1)
def One (σ σ1 : St) (s w h : Int) (g4 g5 : Int → Int → Int) : Prop := (h = 0 ∧ σ1 = σ) ∨ (h = 1 ∧ (∀ k, k ≠ s → σ1 4 k = σ 4 k ∧ σ1 5 k = σ 5 k ∧ σ1 6 k = σ 6 k ∧ σ1 7 k = σ 7 k) ∧ (∀ j, σ1 8 j = if j = tw s then σ 8 j - cst w else σ 8 j) ∧ WP (σ 4 s) (σ 5 s) (σ 7 s) (σ1 4 s) (σ1 5 s) (σ1 7 s) w ∧ σ1 4 s = g4 (σ 4 s) (σ 5 s) ∧ σ1 5 s = g5 (σ 4 s) (σ 5 s))
theorem one_8 (σ : St) (s c : Int) (j : Int) : (su σ 8 (tw s) (σ 8 (tw s) - c)) 8 j = if j = tw s then σ 8 j - c else σ 8 j := by
  show fu (σ 8) (tw s) (σ 8 (tw s) - c) j = _
  unfold fu
  split
  · rename_i e; rw [e]
  · rfl
theorem one_plant {σ : St} {s so v : Int} (hs : 0 ≤ so) : One σ (xPlant σ s so v) s 0 (plA σ s) (fun _ _ => so) (fun _ _ => 1) := by
  by_cases g : σ 4 s = -1 ∧ 5 ≤ σ 8 (tw s)
  · refine Or.inr ⟨bI_t g, ?_⟩
    rw [xPlant_y g]
    have e4 : plaS (su σ 8 (tw s) (σ 8 (tw s) - 5)) s so v 4 s = so := fu_s _ _ _
    have e5 : plaS (su σ 8 (tw s) (σ 8 (tw s) - 5)) s so v 5 s = 1 := fu_s _ _ _
    refine ⟨fun k hk => ⟨fu_n _ _ hk, fu_n _ _ hk, fu_n _ _ hk, fu_n _ _ hk⟩, fun j => one_8 σ s 5 j, ?_, e4, e5⟩
    unfold WP
    rw [e4, e5]
    omega
  · exact Or.inl ⟨bI_f g, xPlant_n g⟩
theorem one_prune {σ : St} {s c : Int} (hc : 1 ≤ c) : One σ (xPrune σ s c) s 1 (prA σ s c) (fun a _ => a) (fun _ b => b - c) := by
  by_cases g : ¬ σ 4 s = -1 ∧ c ≤ σ 5 s ∧ 2 ≤ σ 8 (tw s)
  · refine Or.inr ⟨bI_t g, ?_⟩
    rw [xPrune_y g]
    have e5 : (su (su (su σ 8 (tw s) (σ 8 (tw s) - 2)) 5 s (σ 5 s - c)) 7 s 0) 5 s = σ 5 s - c := fu_s _ _ _
    have e7 : (su (su (su σ 8 (tw s) (σ 8 (tw s) - 2)) 5 s (σ 5 s - c)) 7 s 0) 7 s = 0 := fu_s _ _ _
    have e4 : (su (su (su σ 8 (tw s) (σ 8 (tw s) - 2)) 5 s (σ 5 s - c)) 7 s 0) 4 s = σ 4 s := rfl
    refine ⟨fun k hk => ⟨rfl, fu_n _ _ hk, rfl, fu_n _ _ hk⟩, fun j => one_8 σ s 2 j, ?_, e4, e5⟩
    unfold WP
    rw [e4, e5, e7]
    omega
  · exact Or.inl ⟨bI_f g, xPrune_n g⟩
theorem one_graft {σ : St} (hw : xWF σ) {s so : Int} (hs : 0 ≤ so) : One σ (xGraft σ s so) s 2 (grA σ s so) (fun _ _ => so) (fun _ b => max 1 (b / 2)) := by
  by_cases g : ¬ σ 4 s = -1 ∧ ¬ σ 4 s = so ∧ 1 ≤ σ 5 s ∧ 4 ≤ σ 8 (tw s)
  · refine Or.inr ⟨bI_t g, ?_⟩
    rw [xGraft_y g rfl]
    have e5 : (su (su (su σ 8 (tw s) (σ 8 (tw s) - 4)) 4 s so) 5 s (max 1 (σ 5 s / 2))) 5 s = max 1 (σ 5 s / 2) := fu_s _ _ _
    have e4 : (su (su (su σ 8 (tw s) (σ 8 (tw s) - 4)) 4 s so) 5 s (max 1 (σ 5 s / 2))) 4 s = so := fu_s _ _ _
    have e7 : (su (su (su σ 8 (tw s) (σ 8 (tw s) - 4)) 4 s so) 5 s (max 1 (σ 5 s / 2))) 7 s = σ 7 s := rfl
    refine ⟨fun k hk => ⟨fu_n _ _ hk, fu_n _ _ hk, rfl, rfl⟩, fun j => one_8 σ s 4 j, ?_, e4, e5⟩
    unfold WP
    rw [e4, e5, e7]
    omega
  · exact Or.inl ⟨bI_f g, xGraft_n g⟩
theorem one_fell {σ : St} {s : Int} : One σ (xFell σ s) s 3 (feA σ s) (fun _ _ => -1) (fun _ _ => 0) := by
  by_cases g : ¬ σ 4 s = -1 ∧ 6 ≤ σ 8 (tw s)
  · refine Or.inr ⟨bI_t g, ?_⟩
    rw [xFell_y g]
    have e4 : felS (su σ 8 (tw s) (σ 8 (tw s) - 6)) s 4 s = -1 := fu_s _ _ _
    have e5 : felS (su σ 8 (tw s) (σ 8 (tw s) - 6)) s 5 s = 0 := fu_s _ _ _
    refine ⟨fun k hk => ⟨fu_n _ _ hk, fu_n _ _ hk, fu_n _ _ hk, fu_n _ _ hk⟩, fun j => one_8 σ s 6 j, ?_, e4, e5⟩
    unfold WP
    rw [e4]
    omega
  · exact Or.inl ⟨bI_f g, xFell_n g⟩
/-- what one thing done to both leaves: h whether at the place, t whether at its mirror -/
def AF (σ σ' : St) (r p w h t : Int) : Prop :=
  (h = 0 ∨ h = 1) ∧ (t = 0 ∨ t = 1) ∧ (w = -1 → h = 0 ∧ t = 0) ∧
  (∀ k, ¬ (k = r * 8 + p ∧ h = 1) → ¬ (k = r * 8 + (7 - p) ∧ t = 1) → σ' 4 k = σ 4 k ∧ σ' 5 k = σ 5 k ∧ σ' 6 k = σ 6 k ∧ σ' 7 k = σ 7 k) ∧
  (∀ k, (k = r * 8 + p ∧ h = 1) ∨ (k = r * 8 + (7 - p) ∧ t = 1) → WP (σ 4 k) (σ 5 k) (σ 7 k) (σ' 4 k) (σ' 5 k) (σ' 7 k) w) ∧
  ((p < 4 → σ 8 0 - σ' 8 0 = (if h = 1 then cst w else 0) ∧ σ 8 1 - σ' 8 1 = (if t = 1 then cst w else 0)) ∧ (¬ p < 4 → σ 8 1 - σ' 8 1 = (if h = 1 then cst w else 0) ∧ σ 8 0 - σ' 8 0 = (if t = 1 then cst w else 0))) ∧
  (h = 1 → t = 1 → σ 4 (r * 8 + p) = σ 4 (r * 8 + (7 - p)) → σ 5 (r * 8 + p) = σ 5 (r * 8 + (7 - p)) → σ' 4 (r * 8 + p) = σ' 4 (r * 8 + (7 - p)) ∧ σ' 5 (r * 8 + p) = σ' 5 (r * 8 + (7 - p)))
theorem AF_two {σ σ1 σ2 : St} {r p w h t : Int} {g4 g5 : Int → Int → Int} (hp : 0 ≤ p ∧ p < 8) (hw : 0 ≤ w) (h1 : One σ σ1 (r * 8 + p) w h g4 g5) (h2 : One σ1 σ2 (r * 8 + (7 - p)) w t g4 g5) : AF σ σ2 r p w h t := by
  have t1 : tw (r * 8 + p) = if p < 4 then 0 else 1 := by unfold tw; split <;> split <;> omega
  have t2 : tw (r * 8 + (7 - p)) = if p < 4 then 1 else 0 := by unfold tw; split <;> split <;> omega
  have hne : r * 8 + p ≠ r * 8 + (7 - p) := by omega
  obtain ⟨s, hs⟩ : ∃ z, z = r * 8 + p := ⟨_, rfl⟩
  obtain ⟨m, hm⟩ : ∃ z, z = r * 8 + (7 - p) := ⟨_, rfl⟩
  unfold AF
  rw [← hs] at h1 t1 hne ⊢
  rw [← hm] at h2 t2 hne ⊢
  rcases h1 with ⟨rfl, rfl⟩ | ⟨rfl, a1, a2, a3, a4, a5⟩
  · rcases h2 with ⟨rfl, rfl⟩ | ⟨rfl, b1, b2, b3, b4, b5⟩
    · refine ⟨Or.inl rfl, Or.inl rfl, fun _ => ⟨rfl, rfl⟩, fun k _ _ => ⟨rfl, rfl, rfl, rfl⟩, fun k hk => ?_, ⟨fun _ => ⟨?_, ?_⟩, fun _ => ⟨?_, ?_⟩⟩, fun q => absurd q (by decide)⟩
      · rcases hk with ⟨-, q⟩ | ⟨-, q⟩ <;> exact absurd q (by decide)
      all_goals (rw [if_neg (by decide)]; omega)
    · refine ⟨Or.inl rfl, Or.inr rfl, fun q => by omega, fun k _ k2 => b1 k (fun q => k2 ⟨q, rfl⟩), fun k hk => ?_, ⟨fun q => ⟨?_, ?_⟩, fun q => ⟨?_, ?_⟩⟩, fun q => absurd q (by decide)⟩
      · rcases hk with ⟨-, q⟩ | ⟨rfl, -⟩
        · exact absurd q (by decide)
        · exact b3
      · rw [b2 0, t2, if_pos q, if_neg (by decide), if_neg (by decide)]; omega
      · rw [b2 1, t2, if_pos q, if_pos rfl, if_pos rfl]; omega
      · rw [b2 1, t2, if_neg q, if_neg (by decide), if_neg (by decide)]; omega
      · rw [b2 0, t2, if_neg q, if_pos rfl, if_pos rfl]; omega
  · rcases h2 with ⟨rfl, rfl⟩ | ⟨rfl, b1, b2, b3, b4, b5⟩
    · refine ⟨Or.inr rfl, Or.inl rfl, fun q => by omega, fun k k1 _ => a1 k (fun q => k1 ⟨q, rfl⟩), fun k hk => ?_, ⟨fun q => ⟨?_, ?_⟩, fun q => ⟨?_, ?_⟩⟩, fun _ q => absurd q (by decide)⟩
      · rcases hk with ⟨rfl, -⟩ | ⟨-, q⟩
        · exact a3
        · exact absurd q (by decide)
      · rw [a2 0, t1, if_pos q, if_pos rfl, if_pos rfl]; omega
      · rw [a2 1, t1, if_pos q, if_neg (by decide), if_neg (by decide)]; omega
      · rw [a2 1, t1, if_neg q, if_pos rfl, if_pos rfl]; omega
      · rw [a2 0, t1, if_neg q, if_neg (by decide), if_neg (by decide)]; omega
    · obtain ⟨c4, c5, c6, c7⟩ := a1 m (Ne.symm hne)
      obtain ⟨d4, d5, d6, d7⟩ := b1 s hne
      rw [c4, c5, c7] at b3
      rw [c4, c5] at b4 b5
      refine ⟨Or.inr rfl, Or.inr rfl, fun q => by omega, fun k k1 k2 => ?_, fun k hk => ?_, ⟨fun q => ⟨?_, ?_⟩, fun q => ⟨?_, ?_⟩⟩, fun _ _ e4 e5 => ?_⟩
      · obtain ⟨f4, f5, f6, f7⟩ := b1 k (fun q => k2 ⟨q, rfl⟩)
        obtain ⟨j4, j5, j6, j7⟩ := a1 k (fun q => k1 ⟨q, rfl⟩)
        exact ⟨f4.trans j4, f5.trans j5, f6.trans j6, f7.trans j7⟩
      · rcases hk with ⟨rfl, -⟩ | ⟨rfl, -⟩
        · rw [d4, d5, d7]
          exact a3
        · exact b3
      · rw [b2 0, a2 0, t1, t2, if_pos q, if_pos q, if_neg (by decide), if_pos rfl, if_pos rfl]; omega
      · rw [b2 1, a2 1, t1, t2, if_pos q, if_pos q, if_pos rfl, if_neg (by decide), if_pos rfl]; omega
      · rw [b2 1, a2 1, t1, t2, if_neg q, if_neg q, if_neg (by decide), if_pos rfl, if_pos rfl]; omega
      · rw [b2 0, a2 0, t1, t2, if_neg q, if_neg q, if_pos rfl, if_neg (by decide), if_pos rfl]; omega
      · rw [d4, d5, a4, a5, b4, b5, e4, e5]
        exact ⟨rfl, rfl⟩
def wkF (x : Int) : Int := if acH x < 3 then 0 else if acH x < 5 then 1 else if acH x = 5 then 2 else if acH x = 6 ∧ blw (shr x 5) 3 = 0 then 3 else -1
theorem wkF_in (x : Int) : -1 ≤ wkF x ∧ wkF x ≤ 3 := by
  unfold wkF
  repeat' split
  all_goals omega
theorem AF_id {σ : St} {r p : Int} : AF σ σ r p (-1) 0 0 := by
  refine ⟨Or.inl rfl, Or.inl rfl, fun _ => ⟨rfl, rfl⟩, fun k _ _ => ⟨rfl, rfl, rfl, rfl⟩, fun k hk => ?_, ⟨fun _ => ⟨?_, ?_⟩, fun _ => ⟨?_, ?_⟩⟩, fun q => absurd q (by decide)⟩
  · rcases hk with ⟨-, q⟩ | ⟨-, q⟩ <;> exact absurd q (by decide)
  all_goals (rw [if_neg (by decide)]; omega)
theorem mir_s (x : Int) : mir (acS x) = acR x * 8 + (7 - acP x) := by
  have h1 := acR_in x
  have h2 := acP_in x
  unfold mir acS
  omega
theorem act_AF {σ : St} (h : xWF σ) (x : Int) : ∃ hh tt : Int, AF σ (actS σ x) (acR x) (acP x) (wkF x) hh tt := by
  have hp := acP_in x
  have ho := acO_in x
  have hv := acV_in x
  have hc := acC_in x
  have hH := acH_in x
  have h3 := blw_in (shr x 5) (n := 3) (by decide)
  unfold actS
  rw [mir_s]
  have es : acS x = acR x * 8 + acP x := rfl
  rw [es]
  split
  · rename_i g
    rw [show wkF x = 0 from if_pos g]
    exact ⟨_, _, AF_two hp (by decide) (one_plant ho.1) (one_plant ho.1)⟩
  · rename_i g
    split
    · rename_i g2
      rw [show wkF x = 1 from (if_neg g).trans (if_pos g2)]
      exact ⟨_, _, AF_two hp (by decide) (one_prune hc.1) (one_prune hc.1)⟩
    · rename_i g2
      split
      · rename_i g3
        rw [show wkF x = 2 from (if_neg g).trans ((if_neg g2).trans (if_pos g3))]
        exact ⟨_, _, AF_two hp (by decide) (one_graft h ho.1) (one_graft (xWF_graft h (by omega)) ho.1)⟩
      · rename_i g3
        split
        · rename_i g4
          split
          · rename_i g5
            rw [show wkF x = -1 from (if_neg g).trans ((if_neg g2).trans ((if_neg g3).trans (if_neg (by omega))))]
            exact ⟨0, 0, AF_id⟩
          · rename_i g5
            rw [show wkF x = 3 from (if_neg g).trans ((if_neg g2).trans ((if_neg g3).trans (if_pos (by omega))))]
            exact ⟨_, _, AF_two hp (by decide) one_fell one_fell⟩
        · rename_i g4
          rw [show wkF x = -1 from (if_neg g).trans ((if_neg g2).trans ((if_neg g3).trans (if_neg (by omega))))]
          have key : ∀ τ : St, (τ = σ ∨ ∃ a y z, τ = xCarry σ a y z) → AF σ τ (acR x) (acP x) (-1) 0 0 := by
            rintro τ (rfl | ⟨a, y, z, rfl⟩)
            · exact AF_id
            · exact AF_id (σ := σ)
          split
          · exact ⟨0, 0, AF_id⟩
          · split
            · exact ⟨0, 0, AF_id⟩
            · exact ⟨0, 0, key _ (Or.inr ⟨_, _, _, rfl⟩)⟩
theorem isum_le {f g : Int → Int} : ∀ n : Nat, (∀ j : Int, 0 ≤ j → j < (n : Int) → f j ≤ g j) → isum f n ≤ isum g n
  | 0, _ => Int.le_refl _
  | n + 1, h => by
    have h1 := isum_le n (fun j h0 h1 => h j h0 (by omega))
    have h2 := h (n : Int) (by omega) (by omega)
    show isum f n + f n ≤ isum g n + g n
    omega
theorem AF_differ {σ σ' : St} {r p w h t : Int} (hp : 0 ≤ p ∧ p < 8) (hA : AF σ σ' r p w h t) (hh : h = 1) (ht : t = 1) (e4 : σ 4 (r * 8 + p) = σ 4 (r * 8 + (7 - p))) (e5 : σ 5 (r * 8 + p) = σ 5 (r * 8 + (7 - p))) : xCount σ' 7 ≤ xCount σ 7 := by
  obtain ⟨-, -, -, ks, -, -, hd⟩ := hA
  obtain ⟨d4, d5⟩ := hd hh ht e4 e5
  show isum (fun r => isumI (fun q => upr σ' r q) 4) 5 ≤ isum (fun r => isumI (fun q => upr σ r q) 4) 5
  refine isum_le 5 (fun r' hr0 hr1 => ?_)
  show isum (fun q => upr σ' r' q) 4 ≤ isum (fun q => upr σ r' q) 4
  refine isum_le 4 (fun q hq0 hq1 => ?_)
  have em : mir (r' * 8 + q) = r' * 8 + (7 - q) := by unfold mir; omega
  have hu := uprR (σ := σ) r' q
  show upr σ' r' q ≤ upr σ r' q
  by_cases g : r' * 8 + q = r * 8 + p ∨ r' * 8 + q = r * 8 + (7 - p)
  · have e0 : upr σ' r' q = 0 := by
      unfold upr
      rw [em]
      refine bI_f ?_
      rcases g with g | g
      · rw [show r' * 8 + (7 - q) = r * 8 + (7 - p) by omega, g, d4, d5]
        exact fun z => z.elim (fun y => y rfl) (fun y => y rfl)
      · rw [show r' * 8 + (7 - q) = r * 8 + p by omega, g, d4, d5]
        exact fun z => z.elim (fun y => y rfl) (fun y => y rfl)
    omega
  · obtain ⟨a4, a5, -, -⟩ := ks (r' * 8 + q) (fun z => g (Or.inl z.1)) (fun z => g (Or.inr z.1))
    obtain ⟨b4, b5, -, -⟩ := ks (r' * 8 + (7 - q)) (fun z => g (by omega)) (fun z => g (by omega))
    unfold upr
    rw [em, a4, a5, b4, b5]
    exact Int.le_refl _
