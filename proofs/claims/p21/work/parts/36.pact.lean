/-! what a work, a carrying, a year leave: bounds -/
theorem zWF_sp {σ : St} (h : zWF σ) (s c : Int) : zWF (su σ 8 (tw s) c) := h
theorem zWF_plant {σ : St} (h : zWF σ) {s so v : Int} (hs : 0 ≤ so) : zWF (xPlant σ s so v) := by
  unfold xPlant
  split
  · intro k hk
    have hk : fu (σ 4) s so k = -1 := hk
    by_cases e : k = s
    · subst e
      rw [fu_s] at hk
      omega
    · rw [fu_n _ _ e] at hk
      obtain ⟨a, b, c⟩ := h k hk
      refine ⟨?_, ?_, ?_⟩
      · show fu (σ 5) s 1 k = 0
        rw [fu_n _ _ e]; exact a
      · show fu (σ 6) s v k = 0
        rw [fu_n _ _ e]; exact b
      · show fu (σ 7) s 0 k = 0
        rw [fu_n _ _ e]; exact c
  · exact h
theorem zWF_prune {σ : St} (h : zWF σ) {s c : Int} : zWF (xPrune σ s c) := by
  unfold xPrune
  split
  · rename_i g
    intro k hk
    have hk : σ 4 k = -1 := hk
    obtain ⟨a, b, c9⟩ := h k hk
    have e : k ≠ s := fun e => g.1 (by rw [← e]; exact hk)
    refine ⟨?_, b, ?_⟩
    · show fu (σ 5) s _ k = 0
      rw [fu_n _ _ e]; exact a
    · show fu (σ 7) s 0 k = 0
      rw [fu_n _ _ e]; exact c9
  · exact h
theorem zWF_graft {σ : St} (h : zWF σ) {s so : Int} (hs : 0 ≤ so) : zWF (xGraft σ s so) := by
  unfold xGraft
  split
  · intro k hk
    have hk : fu (σ 4) s so k = -1 := hk
    by_cases e : k = s
    · subst e
      rw [fu_s] at hk
      omega
    · rw [fu_n _ _ e] at hk
      obtain ⟨a, b, c⟩ := h k hk
      refine ⟨?_, b, c⟩
      show fu (σ 5) s _ k = 0
      rw [fu_n _ _ e]; exact a
  · exact h
theorem zWF_fell {σ : St} (h : zWF σ) {s : Int} : zWF (xFell σ s) := by
  unfold xFell
  split
  · intro k hk
    have hk : fu (σ 4) s (-1) k = -1 := hk
    by_cases e : k = s
    · subst e
      refine ⟨?_, ?_, ?_⟩
      · show fu (σ 5) k 0 k = 0
        exact fu_s _ _ _
      · show fu (σ 6) k 0 k = 0
        exact fu_s _ _ _
      · show fu (σ 7) k 0 k = 0
        exact fu_s _ _ _
    · rw [fu_n _ _ e] at hk
      obtain ⟨a, b, c⟩ := h k hk
      refine ⟨?_, ?_, ?_⟩
      · show fu (σ 5) s 0 k = 0
        rw [fu_n _ _ e]; exact a
      · show fu (σ 6) s 0 k = 0
        rw [fu_n _ _ e]; exact b
      · show fu (σ 7) s 0 k = 0
        rw [fu_n _ _ e]; exact c
  · exact h
theorem xPlant_r (σ : St) (s so v : Int) : xPlant σ s so v 0 = σ 0 ∧ xPlant σ s so v 1 = σ 1 ∧ xPlant σ s so v 2 = σ 2 ∧ xPlant σ s so v 3 = σ 3 ∧ xPlant σ s so v 9 = σ 9 := by
  unfold xPlant
  split <;> exact ⟨rfl, rfl, rfl, rfl, rfl⟩
theorem xPrune_r (σ : St) (s c : Int) : xPrune σ s c 0 = σ 0 ∧ xPrune σ s c 1 = σ 1 ∧ xPrune σ s c 2 = σ 2 ∧ xPrune σ s c 3 = σ 3 ∧ xPrune σ s c 9 = σ 9 := by
  unfold xPrune
  split <;> exact ⟨rfl, rfl, rfl, rfl, rfl⟩
theorem xGraft_r (σ : St) (s so : Int) : xGraft σ s so 0 = σ 0 ∧ xGraft σ s so 1 = σ 1 ∧ xGraft σ s so 2 = σ 2 ∧ xGraft σ s so 3 = σ 3 ∧ xGraft σ s so 9 = σ 9 := by
  unfold xGraft
  split <;> exact ⟨rfl, rfl, rfl, rfl, rfl⟩
theorem xFell_r (σ : St) (s : Int) : xFell σ s 0 = σ 0 ∧ xFell σ s 1 = σ 1 ∧ xFell σ s 2 = σ 2 ∧ xFell σ s 3 = σ 3 ∧ xFell σ s 9 = σ 9 := by
  unfold xFell
  split <;> exact ⟨rfl, rfl, rfl, rfl, rfl⟩
/-- what a work leaves as it was -/
def wKeep (σ σ' : St) : Prop := σ' 0 = σ 0 ∧ σ' 1 = σ 1 ∧ σ' 2 = σ 2 ∧ σ' 3 = σ 3 ∧ σ' 9 = σ 9
theorem wKeep_t {a b c : St} (h1 : wKeep a b) (h2 : wKeep b c) : wKeep a c := ⟨h2.1.trans h1.1, h2.2.1.trans h1.2.1, h2.2.2.1.trans h1.2.2.1, h2.2.2.2.1.trans h1.2.2.2.1, h2.2.2.2.2.trans h1.2.2.2.2⟩
theorem acR_in (x : Int) : 0 ≤ acR x ∧ acR x < 5 := blw_in _ (by decide)
theorem acP_in (x : Int) : 0 ≤ acP x ∧ acP x < 8 := blw_in _ (by decide)
theorem acO_in (x : Int) : 0 ≤ acO x ∧ acO x < 6 := blw_in _ (by decide)
theorem acH_in (x : Int) : 0 ≤ acH x ∧ acH x < 8 := blw_in _ (by decide)
theorem acV_in (x : Int) : 1 ≤ acV x ∧ acV x ≤ 9 := by
  have := blw_in (shr x 3) (n := 9) (by decide)
  unfold acV
  omega
theorem acC_in (x : Int) : 1 ≤ acC x ∧ acC x ≤ 9 := by
  have h9 := blw_in (shr x 5) (n := 9) (by decide)
  have h3 := blw_in (shr x 5) (n := 3) (by decide)
  unfold acC
  split <;> omega
theorem acS_in (x : Int) : 0 ≤ acS x ∧ acS x < 40 := by
  have := acR_in x
  have := acP_in x
  unfold acS
  omega
theorem acLQ {σ : St} (h : xWF σ) (x : Int) (hm : ¬ acM σ x = 0) : 0 ≤ acL σ x ∧ 0 ≤ acQ σ x ∧ acL σ x + acQ σ x ≤ σ 2 (acO x) := by
  have k2 := xWF_2 h (acO x)
  have h1 := blw_in (shr x 1) (n := acM σ x + 1) (by unfold acM at hm ⊢; omega)
  have hl : 0 ≤ acL σ x ∧ acL σ x ≤ acM σ x := by unfold acL; omega
  have h2 := blw_in (shr x 5) (n := acM σ x - acL σ x + 1) (by omega)
  have hq : 0 ≤ acQ σ x ∧ acQ σ x ≤ acM σ x - acL σ x := by unfold acQ; omega
  unfold acM at hl hq
  omega
theorem xWF_carry {σ : St} (h : xWF σ) {a x y : Int} (hx : 0 ≤ x) (hy : 0 ≤ y) (hxy : x + y ≤ σ 2 a) : xWF (xCarry σ a x y) := by
  have k2 := xWF_2 h a
  exact xWF_s91 (xWF_s2 h (by omega))
theorem act_ok {σ : St} (h : xWF σ) (hz : zWF σ) (x : Int) : xWF (actS σ x) ∧ zWF (actS σ x) ∧ (∀ j, actS σ x 2 j ≤ σ 2 j) ∧ actS σ x 9 0 = σ 9 0 ∧ actS σ x 3 = σ 3 := by
  have ho := acO_in x
  have hv := acV_in x
  have hc := acC_in x
  unfold actS
  split
  · have w1 := xWF_plant h (s := acS x) (so := acO x) (v := acV x) (by omega) hv
    obtain ⟨-, -, a2, a3, a9⟩ := xPlant_r σ (acS x) (acO x) (acV x)
    obtain ⟨-, -, b2, b3, b9⟩ := xPlant_r (xPlant σ (acS x) (acO x) (acV x)) (mir (acS x)) (acO x) (acV x)
    exact ⟨xWF_plant w1 (by omega) hv, zWF_plant (zWF_plant hz ho.1) ho.1, fun j => by rw [b2, a2]; exact Int.le_refl _, by rw [b9, a9], by rw [b3, a3]⟩
  · split
    · have w1 := xWF_prune h (s := acS x) (c := acC x) hc.1
      obtain ⟨-, -, a2, a3, a9⟩ := xPrune_r σ (acS x) (acC x)
      obtain ⟨-, -, b2, b3, b9⟩ := xPrune_r (xPrune σ (acS x) (acC x)) (mir (acS x)) (acC x)
      exact ⟨xWF_prune w1 hc.1, zWF_prune (zWF_prune hz), fun j => by rw [b2, a2]; exact Int.le_refl _, by rw [b9, a9], by rw [b3, a3]⟩
    · split
      · have w1 := xWF_graft h (s := acS x) (so := acO x) (by omega)
        obtain ⟨-, -, a2, a3, a9⟩ := xGraft_r σ (acS x) (acO x)
        obtain ⟨-, -, b2, b3, b9⟩ := xGraft_r (xGraft σ (acS x) (acO x)) (mir (acS x)) (acO x)
        exact ⟨xWF_graft w1 (by omega), zWF_graft (zWF_graft hz ho.1) ho.1, fun j => by rw [b2, a2]; exact Int.le_refl _, by rw [b9, a9], by rw [b3, a3]⟩
      · split
        · split
          · exact ⟨h, hz, fun _ => Int.le_refl _, rfl, rfl⟩
          · have w1 := xWF_fell h (s := acS x)
            obtain ⟨-, -, a2, a3, a9⟩ := xFell_r σ (acS x)
            obtain ⟨-, -, b2, b3, b9⟩ := xFell_r (xFell σ (acS x)) (mir (acS x))
            exact ⟨xWF_fell w1, zWF_fell (zWF_fell hz), fun j => by rw [b2, a2]; exact Int.le_refl _, by rw [b9, a9], by rw [b3, a3]⟩
        · split
          · exact ⟨h, hz, fun _ => Int.le_refl _, rfl, rfl⟩
          · rename_i hm
            split
            · exact ⟨h, hz, fun _ => Int.le_refl _, rfl, rfl⟩
            · obtain ⟨l1, l2, l3⟩ := acLQ h x hm
              refine ⟨xWF_carry h l1 l2 l3, hz, fun j => ?_, rfl, rfl⟩
              show fu (σ 2) (acO x) (σ 2 (acO x) - (acL σ x + acQ σ x)) j ≤ σ 2 j
              unfold fu
              split
              · rename_i e; rw [e]; omega
              · exact Int.le_refl _
/-! a year -/
theorem lv_c {σ τ : St} (h3 : τ 3 = σ 3) (h9 : τ 9 = σ 9) (v h b t y : Int) : lvB τ v h b t y = lvB σ v h b t y ∧ lvT τ v h b t y = lvT σ v h b t y ∧ lvS τ v h b t y = lvS σ v h b t y := by
  have e : fr τ = fr σ := funext fun n => by unfold fr; rw [h3, h9]
  unfold lvB lvT lvS
  rw [e]
  exact ⟨rfl, rfl, rfl⟩
/-- the state when n spots have lived a year; the spots from n on are as they were -/
theorem xPs_ok {σ : St} (h : xWF σ) (hb : ∀ j, σ 2 j ≤ 90000000) : ∀ n : Nat, n ≤ 40 →
    xWF (xPs σ 1 n).1 ∧ (xPs σ 1 n).1 0 = σ 0 ∧ (xPs σ 1 n).1 1 = σ 1 ∧ (xPs σ 1 n).1 3 = σ 3 ∧ (xPs σ 1 n).1 4 = σ 4 ∧ (xPs σ 1 n).1 6 = σ 6 ∧ (xPs σ 1 n).1 8 = σ 8 ∧ (xPs σ 1 n).1 9 = σ 9 ∧
    (∀ j, (xPs σ 1 n).1 2 j ≤ σ 2 j + 81 * n) ∧ (0 ≤ (xPs σ 1 n).2 ∧ (xPs σ 1 n).2 ≤ 81 * n) ∧
    (∀ k : Int, (xPs σ 1 n).1 5 k = (if 0 ≤ k ∧ k < (n : Int) ∧ ¬ σ 4 k = -1 then lvB σ (σ 6 k) (lkh σ k) (σ 5 k) (σ 7 k) 1 else σ 5 k)) ∧
    (∀ k : Int, (xPs σ 1 n).1 7 k = (if 0 ≤ k ∧ k < (n : Int) ∧ ¬ σ 4 k = -1 then lvT σ (σ 6 k) (lkh σ k) (σ 5 k) (σ 7 k) 1 else σ 7 k)) ∧
    (xPs σ 1 n).2 = isum (fsA σ 1) n ∧ isum ((xPs σ 1 n).1 2) 6 = isum (σ 2) 6 + (xPs σ 1 n).2
  | 0, _ => by
    refine ⟨h, rfl, rfl, rfl, rfl, rfl, rfl, rfl, fun j => by show σ 2 j ≤ _; omega, ⟨Int.le_refl _, Int.le_refl _⟩, fun k => by rw [if_neg (by omega)]; rfl, fun k => by rw [if_neg (by omega)]; rfl, rfl, (Int.add_zero _).symm⟩
  | n + 1, hn => by
    obtain ⟨w, r0, r1, r3, r4, r6, r8, r9, b2, bs, f5, f7, fs, su2⟩ := xPs_ok h hb n (by omega)
    have e : xPs σ 1 (n + 1) = if (xPs σ 1 n).1 4 n = -1 then xPs σ 1 n else (xPassA (xPs σ 1 n).1 n 1, (xPs σ 1 n).2 + lvS (xPs σ 1 n).1 ((xPs σ 1 n).1 6 n) (lkh (xPs σ 1 n).1 n) ((xPs σ 1 n).1 5 n) ((xPs σ 1 n).1 7 n) 1) := rfl
    have s5 : (xPs σ 1 n).1 5 (n : Int) = σ 5 n := by rw [f5, if_neg (by omega)]
    have s7 : (xPs σ 1 n).1 7 (n : Int) = σ 7 n := by rw [f7, if_neg (by omega)]
    have sl : lkh (xPs σ 1 n).1 (n : Int) = lkh σ n := by unfold lkh; rw [r4, r1]
    obtain ⟨cB, cT, cS⟩ := lv_c (σ := σ) (τ := (xPs σ 1 n).1) r3 r9 (σ 6 n) (lkh σ n) (σ 5 n) (σ 7 n) 1
    rw [e, r4]
    by_cases g : σ 4 (n : Int) = -1
    · rw [if_pos g]
      refine ⟨w, r0, r1, r3, r4, r6, r8, r9, fun j => by have := b2 j; omega, by omega, fun k => ?_, fun k => ?_, ?_, su2⟩
      · rw [f5]
        by_cases q : 0 ≤ k ∧ k < (n : Int) ∧ ¬ σ 4 k = -1
        · rw [if_pos q, if_pos (by omega)]
        · rw [if_neg q]
          by_cases q2 : k = (n : Int)
          · rw [q2, if_neg (fun z => z.2.2 g)]
          · rw [if_neg (by omega)]
      · rw [f7]
        by_cases q : 0 ≤ k ∧ k < (n : Int) ∧ ¬ σ 4 k = -1
        · rw [if_pos q, if_pos (by omega)]
        · rw [if_neg q]
          by_cases q2 : k = (n : Int)
          · rw [q2, if_neg (fun z => z.2.2 g)]
          · rw [if_neg (by omega)]
      · rw [fs]
        show isum (fsA σ 1) n = isum (fsA σ 1) n + fsA σ 1 n
        rw [show fsA σ 1 (n : Int) = 0 from if_pos g]
        omega
    · rw [if_neg g, r6, sl, s5, s7, cS]
      have kS := lvS_in σ (lkh σ n) (σ 7 n) (y := 1) (xWF_6 h n) (xWF_5 h n) (by decide)
      have k4 := xWF_4 h (n : Int)
      have kb := b2 (σ 4 n)
      have kb0 := hb (σ 4 n)
      have eA : xPassA (xPs σ 1 n).1 (n : Int) 1 = su (su (su (xPs σ 1 n).1 5 n (lvB σ (σ 6 n) (lkh σ n) (σ 5 n) (σ 7 n) 1)) 7 n (lvT σ (σ 6 n) (lkh σ n) (σ 5 n) (σ 7 n) 1)) 2 (σ 4 n) ((xPs σ 1 n).1 2 (σ 4 n) + lvS σ (σ 6 n) (lkh σ n) (σ 5 n) (σ 7 n) 1) := by
        unfold xPassA
        rw [r6, sl, s5, s7, cB, cT, cS, r4]
      have wA : xWF (xPassA (xPs σ 1 n).1 (n : Int) 1) := xWF_passA w (by decide) (by rw [r4]; omega)
      refine ⟨wA, ?_⟩
      rw [eA]
      refine ⟨r0, r1, r3, r4, r6, r8, r9, fun j => ?_, by omega, fun k => ?_, fun k => ?_, ?_, ?_⟩
      · show fu ((xPs σ 1 n).1 2) (σ 4 n) ((xPs σ 1 n).1 2 (σ 4 n) + lvS σ (σ 6 n) (lkh σ n) (σ 5 n) (σ 7 n) 1) j ≤ _
        have := b2 j
        unfold fu
        split
        · rename_i z; subst z; omega
        · omega
      · show fu ((xPs σ 1 n).1 5) n (lvB σ (σ 6 n) (lkh σ n) (σ 5 n) (σ 7 n) 1) k = _
        by_cases q : k = (n : Int)
        · rw [q, fu_s, if_pos ⟨by omega, by omega, g⟩]
        · rw [fu_n _ _ q, f5]
          by_cases q2 : 0 ≤ k ∧ k < (n : Int) ∧ ¬ σ 4 k = -1
          · rw [if_pos q2, if_pos (by omega)]
          · rw [if_neg q2, if_neg (by omega)]
      · show fu ((xPs σ 1 n).1 7) n (lvT σ (σ 6 n) (lkh σ n) (σ 5 n) (σ 7 n) 1) k = _
        by_cases q : k = (n : Int)
        · rw [q, fu_s, if_pos ⟨by omega, by omega, g⟩]
        · rw [fu_n _ _ q, f7]
          by_cases q2 : 0 ≤ k ∧ k < (n : Int) ∧ ¬ σ 4 k = -1
          · rw [if_pos q2, if_pos (by omega)]
          · rw [if_neg q2, if_neg (by omega)]
      · show _ = isum (fsA σ 1) n + fsA σ 1 n
        rw [fs, show fsA σ 1 (n : Int) = lvS σ (σ 6 n) (lkh σ n) (σ 5 n) (σ 7 n) 1 from if_neg g]
      · show isum (fu ((xPs σ 1 n).1 2) (σ 4 n) ((xPs σ 1 n).1 2 (σ 4 n) + lvS σ (σ 6 n) (lkh σ n) (σ 5 n) (σ 7 n) 1)) 6 = isum (σ 2) 6 + ((xPs σ 1 n).2 + lvS σ (σ 6 n) (lkh σ n) (σ 5 n) (σ 7 n) 1)
        have e6 : ∀ f : Int → Int, isum f 6 = f 0 + f 1 + f 2 + f 3 + f 4 + f 5 := fun f => by
          show 0 + f 0 + f 1 + f 2 + f 3 + f 4 + f 5 = _
          omega
        rw [e6] at su2 ⊢
        unfold fu
        rcases (show σ 4 (n : Int) = 0 ∨ σ 4 (n : Int) = 1 ∨ σ 4 (n : Int) = 2 ∨ σ 4 (n : Int) = 3 ∨ σ 4 (n : Int) = 4 ∨ σ 4 (n : Int) = 5 by omega) with z | z | z | z | z | z <;> rw [z] <;> simp <;> omega
theorem pass_ok {σ : St} (h : xWF σ) (hz : zWF σ) (hb : ∀ j, σ 2 j ≤ 90000000) (hy : σ 9 0 ≤ 90000000) : xWF (xPass σ 1) ∧ zWF (xPass σ 1) ∧ (∀ j, xPass σ 1 2 j ≤ σ 2 j + 3240) ∧ xPass σ 1 9 0 = σ 9 0 + 1 ∧ inR (xPs σ 1 40).2 := by
  obtain ⟨w, r0, r1, r3, r4, r6, r8, r9, b2, bs, f5, f7, fs, s2⟩ := xPs_ok h hb 40 (by decide)
  have k9 := xWF_9 h
  refine ⟨xWF_r8 (xWF_s9 w (by rw [r9]; omega)) (by decide), ?_, fun j => ?_, ?_, by unfold inR; omega⟩
  · intro k hk
    have hk : (xPs σ 1 40).1 4 k = -1 := hk
    rw [r4] at hk
    obtain ⟨a, b, c⟩ := hz k hk
    refine ⟨?_, ?_, ?_⟩
    · show (xPs σ 1 40).1 5 k = 0
      rw [f5, if_neg (fun z => z.2.2 hk)]; exact a
    · show (xPs σ 1 40).1 6 k = 0
      rw [r6]; exact b
    · show (xPs σ 1 40).1 7 k = 0
      rw [f7, if_neg (fun z => z.2.2 hk)]; exact c
  · have := b2 j
    show (xPs σ 1 40).1 2 j ≤ _
    omega
  · show fu ((xPs σ 1 40).1 9) 0 ((xPs σ 1 40).1 9 0 + 1) 0 = _
    rw [fu_s, r9]
