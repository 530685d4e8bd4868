set_option maxHeartbeats 4000000 in
set_option maxRecDepth 100000 in
theorem kL_same (l : Launch) (D : va_G) (cI cZ cT cU cQ : ClassId) (a0 b0 : Nat) (f g : Int → Int)  (hf : ∀ j, inR (f j)) (hg : ∀ j, inR (g j)) : gMet l yL_same wsL_same ({ frames := 0, cells := 0, slots := 0, locals := 0 } : Room) D (tyA cI cZ cT cU cQ) ([(a0, aI cI 5 f)] ++ ([(b0, aI cI 5 g)])) [.ref (a0), .ref (b0)] (fun _ => True) (fun _ => some (.int (iI (bI (f 0 = g 0 ∧ f 1 = g 1 ∧ f 2 = g 2 ∧ f 3 = g 3 ∧ f 4 = g 4))))) (fun κ' => True) (fun κ' => [(a0, aI cI 5 f)] ++ ([(b0, aI cI 5 g)])) := by
  refine g_start (cc := cL_same) (maxL := 3) (ret := (some .boolean)) (by decide) rfl (Nat.le_of_ble_eq_true rfl) ?_
  intro p e s m args below meth c A ls H locs S hr hlocks hname hP hK hD hA hS hE hl
  have S0 := S
  obtain ⟨hx, hb, hml, hown, hts⟩ := S0
  have hl : lv_has ls 3 [(0, .ref (a0)), (1, .ref (b0))] := hl
  refine lv_iconst (v := iI (0)) hx hb dL_same_0 rfl ?_
  refine lv_istore_n (lv' := [(2, .int (iI (0))), (0, .ref (a0)), (1, .ref (b0))]) hx hb dL_same_1 rfl hl (by decide) rfl (fun ls hl => ?_)
  have loop2 : ∀ (n2 : Nat) (j : Int), (0 ≤ j) → (j ≤ 5) → (5 - j < (n2 : Int)) → (∀ i9 : Int, 0 ≤ i9 → i9 < j → f i9 = g i9) → ∀ (H : Heap) (locs : List Loc) (ls : Array Slot), va_P D vwCl ([(a0, aI cI 5 f)] ++ ([(b0, aI cI 5 g)])) H → va_D A ([(a0, aI cI 5 f)] ++ ([(b0, aI cI 5 g)])) → va_S A s.heap H locs → lv_has ls 3 [(2, .int (iI (j))), (0, .ref (a0)), (1, .ref (b0))] → W p l e ({ frames := 0, cells := 0, slots := 0, locals := 0 } : Room) s m args below meth c H locs 0 0 (MQ below (gQ D (tyA cI cZ cT cU cQ) (fun κ' => [(a0, aI cI 5 f)] ++ ([(b0, aI cI 5 g)])) A (fun _ => some (.int (iI (bI (f 0 = g 0 ∧ f 1 = g 1 ∧ f 2 = g 2 ∧ f 3 = g 3 ∧ f 4 = g 4))))) (fun κ' => True)) args s 0 0 A) (F0 m 2 ls []) := by
    intro n2
    induction n2 with
    | zero =>
      intro j  hlo2 hhi2 hm2
      omega
    | succ n2 ih2 =>
      intro j  hlo2 hhi2 hm2 ij2 H locs ls hP hD hS hl
      refine lv_iload_n hx hb dL_same_2 rfl (lv_at hl 0 rfl) ?_
      refine lv_iconst (v := iI (5)) hx hb dL_same_3 rfl ?_
      refine gi_icmp_ge (tgt := 24) hx hb dL_same_4 (by decide) ⟨by omega, by omega⟩ ⟨by decide, by decide⟩ (fun c4 => ?_) (fun c4 => ?_)
      · skip
        refine lv_iconst (v := iI (1)) hx hb dL_same_24 rfl ?_
        have er : ((bI (f 0 = g 0 ∧ f 1 = g 1 ∧ f 2 = g 2 ∧ f 3 = g 3 ∧ f 4 = g 4) : Int)) = (1) := by exact bI_t ⟨ij2 0 (by omega) (by omega), ij2 1 (by omega) (by omega), ij2 2 (by omega) (by omega), ij2 3 (by omega) (by omega), ij2 4 (by omega) (by omega)⟩
        exact g_iret (wo := (fun κ' => [(a0, aI cI 5 f)] ++ ([(b0, aI cI 5 g)]))) (kr := (fun κ' => True)) (rv := (fun _ => some (.int (iI (bI (f 0 = g 0 ∧ f 1 = g 1 ∧ f 2 = g 2 ∧ f 3 = g 3 ∧ f 4 = g 4)))))) hx hb hr hlocks (fun _ _ => 0) (nar_z (Or.inr rfl)) hP hK hD hS trivial (by rw [er]) (Nat.le_of_ble_eq_true rfl) (Nat.le_of_ble_eq_true rfl) dL_same_25
      · skip
        refine lv_aload_n hx hb dL_same_7 rfl (lv_at hl 1 rfl) ?_
        refine lv_iload_n hx hb dL_same_8 rfl (lv_at hl 0 rfl) ?_
        refine gi_iald (a := (a0)) (n := 5) (f := f) hx hb hK (g_left hP) 0 0 rfl rfl (by omega) (by omega) (by decide) dL_same_9 ?_
        refine lv_aload_n hx hb dL_same_10 rfl (lv_at hl 2 rfl) ?_
        refine lv_iload_n hx hb dL_same_11 rfl (lv_at hl 0 rfl) ?_
        refine gi_iald (a := (b0)) (n := 5) (f := g) hx hb hK (g_right hP) 0 0 rfl rfl (by omega) (by omega) (by decide) dL_same_12 ?_
        refine gi_icmp_eq (tgt := 18) hx hb dL_same_13 (by decide) (hf _) (hg _) (fun c13 => ?_) (fun c13 => ?_)
        · skip
          refine lv_iinc (v := iI (j + 1)) (lv' := [(2, .int (iI (j + 1))), (0, .ref (a0)), (1, .ref (b0))]) hx hb dL_same_18 hl (k := 0) rfl (iI_add _ _) (by decide) rfl (fun ls hl => ?_)
          refine lv_goto (tgt := 2) hx hb dL_same_21 (by decide) ?_
          exact ih2 (j + 1)  (by omega) (by omega) (by omega) (by intro i9 h0 h1; by_cases e9 : i9 = j; rw [e9]; exact c13; exact ij2 i9 h0 (by omega)) H locs ls hP hD hS (lv_sub hl [0, 1, 2] rfl)
        · skip
          refine lv_iconst (v := iI (0)) hx hb dL_same_16 rfl ?_
          have er : ((bI (f 0 = g 0 ∧ f 1 = g 1 ∧ f 2 = g 2 ∧ f 3 = g 3 ∧ f 4 = g 4) : Int)) = (0) := by exact bI_f (fun q => c13 (by rcases (show j = 0 ∨ j = 1 ∨ j = 2 ∨ j = 3 ∨ j = 4 by omega) with rfl | rfl | rfl | rfl | rfl; exact q.1; exact q.2.1; exact q.2.2.1; exact q.2.2.2.1; exact q.2.2.2.2))
          exact g_iret (wo := (fun κ' => [(a0, aI cI 5 f)] ++ ([(b0, aI cI 5 g)]))) (kr := (fun κ' => True)) (rv := (fun _ => some (.int (iI (bI (f 0 = g 0 ∧ f 1 = g 1 ∧ f 2 = g 2 ∧ f 3 = g 3 ∧ f 4 = g 4)))))) hx hb hr hlocks (fun _ _ => 0) (nar_z (Or.inl rfl)) hP hK hD hS trivial (by rw [er]) (Nat.le_of_ble_eq_true rfl) (Nat.le_of_ble_eq_true rfl) dL_same_17
  exact loop2 (((5 - (0) + 1 : Int)).toNat) 0  (by omega) (by omega) (by omega) (by intro i9 h0 h1; omega) H locs ls hP hD hS (lv_sub hl [0, 1, 2] rfl)
set_option maxHeartbeats 4000000 in
set_option maxRecDepth 100000 in
theorem kL_alike (l : Launch) (D : va_G) (cI cZ cT cU cQ : ClassId) (w0 : Nat) (a : Nat → Nat) (g : St) (k0 : Int) (m0 : Int) (hk : 0 ≤ k0 ∧ k0 < 40) (hm : 0 ≤ m0 ∧ m0 < 40) (hg : ∀ i j, inR (g i j)) : gMet l yL_alike wsL_alike ({ frames := 0, cells := 0, slots := 0, locals := 0 } : Room) D (tyA cI cZ cT cU cQ) (QW cI cQ w0 a g) [.ref (w0), .int (iI (k0)), .int (iI (m0))] (fun _ => True) (fun _ => some (.int (iI (bI (g k0.toNat 0 = g m0.toNat 0 ∧ g k0.toNat 1 = g m0.toNat 1 ∧ g k0.toNat 3 = g m0.toNat 3))))) (fun κ' => True) (fun κ' => QW cI cQ w0 a g) := by
  refine g_start (cc := cL_alike) (maxL := 3) (ret := (some .boolean)) (by decide) rfl (Nat.le_of_ble_eq_true rfl) ?_
  intro p e s m args below meth c A ls H locs S hr hlocks hname hP hK hD hA hS hE hl
  have S0 := S
  obtain ⟨hx, hb, hml, hown, hts⟩ := S0
  have hl : lv_has ls 3 [(0, .ref (w0)), (1, .int (iI (k0))), (2, .int (iI (m0)))] := hl
  refine lv_aload_n hx hb dL_alike_0 rfl (lv_at hl 0 rfl) ?_
  refine lv_iload_n hx hb dL_alike_1 rfl (lv_at hl 1 rfl) ?_
  refine s_row (f := tgr a) hx hb hK hP 0 4 rfl rfl (by omega) (by omega) (by decide) (v := a k0.toNat) (if_pos (by omega)) dL_alike_2 ?_
  refine lv_iconst (v := iI (0)) hx hb dL_alike_3 rfl ?_
  refine gi_iald (a := (a k0.toNat)) (n := 5) (f := g k0.toNat) hx hb hK hP (k0.toNat + 1) 0 (qw_at (by omega)) rfl (by omega) (by omega) (by decide) dL_alike_4 ?_
  refine lv_aload_n hx hb dL_alike_5 rfl (lv_at hl 0 rfl) ?_
  refine lv_iload_n hx hb dL_alike_6 rfl (lv_at hl 2 rfl) ?_
  refine s_row (f := tgr a) hx hb hK hP 0 4 rfl rfl (by omega) (by omega) (by decide) (v := a m0.toNat) (if_pos (by omega)) dL_alike_7 ?_
  refine lv_iconst (v := iI (0)) hx hb dL_alike_8 rfl ?_
  refine gi_iald (a := (a m0.toNat)) (n := 5) (f := g m0.toNat) hx hb hK hP (m0.toNat + 1) 0 (qw_at (by omega)) rfl (by omega) (by omega) (by decide) dL_alike_9 ?_
  refine gi_icmp_ne (tgt := 43) hx hb dL_alike_10 (by decide) (hg _ _) (hg _ _) (fun c10 => ?_) (fun c10 => ?_)
  · skip
    refine lv_iconst (v := iI (0)) hx hb dL_alike_43 rfl ?_
    have er : ((bI (g k0.toNat 0 = g m0.toNat 0 ∧ g k0.toNat 1 = g m0.toNat 1 ∧ g k0.toNat 3 = g m0.toNat 3) : Int)) = (0) := by first | exact bI_t ⟨by assumption, by assumption, by assumption⟩ | exact bI_f (fun q => by first | exact absurd q.1 (by assumption) | exact absurd q.2.1 (by assumption) | exact absurd q.2.2 (by assumption))
    exact g_iret (wo := (fun κ' => QW cI cQ w0 a g)) (kr := (fun κ' => True)) (rv := (fun _ => some (.int (iI (bI (g k0.toNat 0 = g m0.toNat 0 ∧ g k0.toNat 1 = g m0.toNat 1 ∧ g k0.toNat 3 = g m0.toNat 3)))))) hx hb hr hlocks (fun _ _ => 0) (nar_z (Or.inl rfl)) hP hK hD hS trivial (by rw [er]) (Nat.le_of_ble_eq_true rfl) (Nat.le_of_ble_eq_true rfl) dL_alike_44
  · skip
    refine lv_aload_n hx hb dL_alike_13 rfl (lv_at hl 0 rfl) ?_
    refine lv_iload_n hx hb dL_alike_14 rfl (lv_at hl 1 rfl) ?_
    refine s_row (f := tgr a) hx hb hK hP 0 4 rfl rfl (by omega) (by omega) (by decide) (v := a k0.toNat) (if_pos (by omega)) dL_alike_15 ?_
    refine lv_iconst (v := iI (1)) hx hb dL_alike_16 rfl ?_
    refine gi_iald (a := (a k0.toNat)) (n := 5) (f := g k0.toNat) hx hb hK hP (k0.toNat + 1) 0 (qw_at (by omega)) rfl (by omega) (by omega) (by decide) dL_alike_17 ?_
    refine lv_aload_n hx hb dL_alike_18 rfl (lv_at hl 0 rfl) ?_
    refine lv_iload_n hx hb dL_alike_19 rfl (lv_at hl 2 rfl) ?_
    refine s_row (f := tgr a) hx hb hK hP 0 4 rfl rfl (by omega) (by omega) (by decide) (v := a m0.toNat) (if_pos (by omega)) dL_alike_20 ?_
    refine lv_iconst (v := iI (1)) hx hb dL_alike_21 rfl ?_
    refine gi_iald (a := (a m0.toNat)) (n := 5) (f := g m0.toNat) hx hb hK hP (m0.toNat + 1) 0 (qw_at (by omega)) rfl (by omega) (by omega) (by decide) dL_alike_22 ?_
    refine gi_icmp_ne (tgt := 43) hx hb dL_alike_23 (by decide) (hg _ _) (hg _ _) (fun c23 => ?_) (fun c23 => ?_)
    · skip
      refine lv_iconst (v := iI (0)) hx hb dL_alike_43 rfl ?_
      have er : ((bI (g k0.toNat 0 = g m0.toNat 0 ∧ g k0.toNat 1 = g m0.toNat 1 ∧ g k0.toNat 3 = g m0.toNat 3) : Int)) = (0) := by first | exact bI_t ⟨by assumption, by assumption, by assumption⟩ | exact bI_f (fun q => by first | exact absurd q.1 (by assumption) | exact absurd q.2.1 (by assumption) | exact absurd q.2.2 (by assumption))
      exact g_iret (wo := (fun κ' => QW cI cQ w0 a g)) (kr := (fun κ' => True)) (rv := (fun _ => some (.int (iI (bI (g k0.toNat 0 = g m0.toNat 0 ∧ g k0.toNat 1 = g m0.toNat 1 ∧ g k0.toNat 3 = g m0.toNat 3)))))) hx hb hr hlocks (fun _ _ => 0) (nar_z (Or.inl rfl)) hP hK hD hS trivial (by rw [er]) (Nat.le_of_ble_eq_true rfl) (Nat.le_of_ble_eq_true rfl) dL_alike_44
    · skip
      refine lv_aload_n hx hb dL_alike_26 rfl (lv_at hl 0 rfl) ?_
      refine lv_iload_n hx hb dL_alike_27 rfl (lv_at hl 1 rfl) ?_
      refine s_row (f := tgr a) hx hb hK hP 0 4 rfl rfl (by omega) (by omega) (by decide) (v := a k0.toNat) (if_pos (by omega)) dL_alike_28 ?_
      refine lv_iconst (v := iI (3)) hx hb dL_alike_29 rfl ?_
      refine gi_iald (a := (a k0.toNat)) (n := 5) (f := g k0.toNat) hx hb hK hP (k0.toNat + 1) 0 (qw_at (by omega)) rfl (by omega) (by omega) (by decide) dL_alike_30 ?_
      refine lv_aload_n hx hb dL_alike_31 rfl (lv_at hl 0 rfl) ?_
      refine lv_iload_n hx hb dL_alike_32 rfl (lv_at hl 2 rfl) ?_
      refine s_row (f := tgr a) hx hb hK hP 0 4 rfl rfl (by omega) (by omega) (by decide) (v := a m0.toNat) (if_pos (by omega)) dL_alike_33 ?_
      refine lv_iconst (v := iI (3)) hx hb dL_alike_34 rfl ?_
      refine gi_iald (a := (a m0.toNat)) (n := 5) (f := g m0.toNat) hx hb hK hP (m0.toNat + 1) 0 (qw_at (by omega)) rfl (by omega) (by omega) (by decide) dL_alike_35 ?_
      refine gi_icmp_ne (tgt := 43) hx hb dL_alike_36 (by decide) (hg _ _) (hg _ _) (fun c36 => ?_) (fun c36 => ?_)
      · skip
        refine lv_iconst (v := iI (0)) hx hb dL_alike_43 rfl ?_
        have er : ((bI (g k0.toNat 0 = g m0.toNat 0 ∧ g k0.toNat 1 = g m0.toNat 1 ∧ g k0.toNat 3 = g m0.toNat 3) : Int)) = (0) := by first | exact bI_t ⟨by assumption, by assumption, by assumption⟩ | exact bI_f (fun q => by first | exact absurd q.1 (by assumption) | exact absurd q.2.1 (by assumption) | exact absurd q.2.2 (by assumption))
        exact g_iret (wo := (fun κ' => QW cI cQ w0 a g)) (kr := (fun κ' => True)) (rv := (fun _ => some (.int (iI (bI (g k0.toNat 0 = g m0.toNat 0 ∧ g k0.toNat 1 = g m0.toNat 1 ∧ g k0.toNat 3 = g m0.toNat 3)))))) hx hb hr hlocks (fun _ _ => 0) (nar_z (Or.inl rfl)) hP hK hD hS trivial (by rw [er]) (Nat.le_of_ble_eq_true rfl) (Nat.le_of_ble_eq_true rfl) dL_alike_44
      · skip
        refine lv_iconst (v := iI (1)) hx hb dL_alike_39 rfl ?_
        refine lv_goto (tgt := 44) hx hb dL_alike_40 (by decide) ?_
        have er : ((bI (g k0.toNat 0 = g m0.toNat 0 ∧ g k0.toNat 1 = g m0.toNat 1 ∧ g k0.toNat 3 = g m0.toNat 3) : Int)) = (1) := by first | exact bI_t ⟨by assumption, by assumption, by assumption⟩ | exact bI_f (fun q => by first | exact absurd q.1 (by assumption) | exact absurd q.2.1 (by assumption) | exact absurd q.2.2 (by assumption))
        exact g_iret (wo := (fun κ' => QW cI cQ w0 a g)) (kr := (fun κ' => True)) (rv := (fun _ => some (.int (iI (bI (g k0.toNat 0 = g m0.toNat 0 ∧ g k0.toNat 1 = g m0.toNat 1 ∧ g k0.toNat 3 = g m0.toNat 3)))))) hx hb hr hlocks (fun _ _ => 0) (nar_z (Or.inr rfl)) hP hK hD hS trivial (by rw [er]) (Nat.le_of_ble_eq_true rfl) (Nat.le_of_ble_eq_true rfl) dL_alike_44
set_option maxHeartbeats 4000000 in
set_option maxRecDepth 100000 in
theorem kL_trees (l : Launch) (hfl : l.stackTraces = false) (D : va_G) (cI cZ cT cU cQ : ClassId) (d : Nat → Nat) (σ κ : St)  (hwf : xWF σ) : gMet l yL_trees wsL_trees ({ frames := 7, cells := 241, slots := 1440, locals := 116 } : Room) D (tyA cI cZ cT cU cQ) (XW cI cZ d σ κ) [.ref (d 0)] (lEx (XW cI cZ d σ κ)) (fun κ' => some (.ref (κ' 2 0).toNat)) (fun κ' => True) (fun κ' => XW cI cZ d σ κ' ++ QW cI cQ (κ' 2 0).toNat (fun i => (κ' 3 i).toNat) (tG σ)) := by
  refine g_startL (cc := cL_trees) (maxL := 4) (ret := (some (.array (.array .int)))) (by decide) rfl (Nat.le_of_ble_eq_true rfl) ?_
  intro p e s m args below meth c A ls H locs S hr hlocks hP hK hD hA hS hTE hN hl
  have hE := hTE.1
  have S0 := S
  obtain ⟨hx, hb, hml, hown, hts⟩ := S0
  have hl : lv_has ls 4 [(0, .ref (d 0))] := hl
  have hinX0 : ∀ w ∈ wsX00, w ∈ wsL_trees := by decide +kernel
  have hinX1 : ∀ w ∈ wsX10, w ∈ wsL_trees := by decide +kernel
  refine lv_bipush (v := iI (40)) hx hb dL_trees_0 rfl ?_
  refine lv_iconst (v := iI (5)) hx hb dL_trees_2 rfl ?_
  have hcl : (Cond.classLink RL 126 ("[" ++ (FieldType.array .int).toString)).before args s = true := by rw [show ("[" ++ (FieldType.array .int).toString) = "[[I" from by decide +kernel]; exact (hts _ (List.mem_of_getElem? (i := 1) rfl))
  have hP0 : va_P D vwCl ((XW cI cZ d σ κ) ++ va_pl [] (fun _ => (.inr (0, []) : va_E))) H := by show va_P D vwCl ((XW cI cZ d σ κ) ++ []) H; rw [List.append_nil]; exact hP
  have hD0 : va_D A ((XW cI cZ d σ κ) ++ va_pl [] (fun _ => (.inr (0, []) : va_E))) := by show va_D A ((XW cI cZ d σ κ) ++ []); rw [List.append_nil]; exact hD
  have hcy : s.vm.findClass (FieldType.array .int).toString = some cI := by rw [show (FieldType.array .int).toString = "[I" from by decide +kernel]; exact va_nm_int (hK.2 0 _ rfl).2
  refine va_mna (ty := .int) (N' := 40) (K' := 5) (z := (5, .inl (fun j : Nat => iI ((fun _ => 0 : Int → Int) (j : Int))))) hx hb hown hcl hN.2.2.1 (hts _ (List.mem_of_getElem? (i := 2) rfl)) hcy hK hP0 hD0 hS hA (by decide) (by decide) rfl rfl (Nat.le_of_ble_eq_true rfl) (Nat.le_of_ble_eq_true rfl) (Nat.le_of_ble_eq_true rfl) rfl rfl (Nat.le_of_ble_eq_true rfl) (Nat.le_of_ble_eq_true rfl) (fun c => inner_i c) dL_trees_3 (fun q3 r3 cA H hr8 hn8 hK hP hD hS => ?_)
  have e9 : cQ = cA := g_clsU hK 4 5 rfl rfl
  subst e9
  have hK : va_K D vwCl (tyA cI cZ cT cU cQ) s := hK.sub [0, 1, 2, 3, 4] rfl
  have hP : va_P D vwCl ((XW cI cZ d σ κ) ++ (QW cI cQ q3 r3 (fun _ _ => 0))) H := va_Pe mna_q hP
  have hD : va_D A ((XW cI cZ d σ κ) ++ (QW cI cQ q3 r3 (fun _ _ => 0))) := va_De mna_q hD
  show W p l e ({ frames := 7, cells := 241, slots := 1440, locals := 116 } : Room) s m args below meth c H locs 41 240 (MQ below (gQ D (tyA cI cZ cT cU cQ) (fun κ' => XW cI cZ d σ κ' ++ QW cI cQ (κ' 2 0).toNat (fun i => (κ' 3 i).toNat) (tG σ)) A (fun κ' => some (.ref (κ' 2 0).toNat)) (fun κ' => True)) args s 241 1440 A) (F0 m 7 ls [.ref (q3)])
  refine lv_astore_n (lv' := [(1, .ref (q3)), (0, .ref (d 0))]) hx hb dL_trees_7 rfl hl (by decide) rfl (fun ls hl => ?_)
  refine lv_iconst (v := iI (0)) hx hb dL_trees_8 rfl ?_
  refine lv_istore_n (lv' := [(2, .int (iI (0))), (1, .ref (q3)), (0, .ref (d 0))]) hx hb dL_trees_9 rfl hl (by decide) rfl (fun ls hl => ?_)
  have loop10 : ∀ (n10 : Nat) (k : Int) (κx10 : St) (g10 : St) (cl10 sl10 : Nat), (0 ≤ k) → (k ≤ 40) → (40 - k < (n10 : Int)) → (∀ i9 : Nat, (i9 : Int) < k → ∀ j9 : Int, 0 ≤ j9 → j9 < 5 → g10 i9 j9 = xTree σ (i9 : Int) j9) → ((cl10 : Int) ≤ 41 + 5 * k) → ((sl10 : Int) ≤ 240 + 30 * k) → ∀ (H : Heap) (locs : List Loc) (ls : Array Slot), va_P D vwCl ((XW cI cZ d σ κx10) ++ (QW cI cQ q3 r3 g10)) H → va_D A ((XW cI cZ d σ κx10) ++ (QW cI cQ q3 r3 g10)) → va_S A s.heap H locs → lv_has ls 4 [(2, .int (iI (k))), (1, .ref (q3)), (0, .ref (d 0))] → W p l e ({ frames := 7, cells := 241, slots := 1440, locals := 116 } : Room) s m args below meth c H locs cl10 sl10 (MQ below (gQ D (tyA cI cZ cT cU cQ) (fun κ' => XW cI cZ d σ κ' ++ QW cI cQ (κ' 2 0).toNat (fun i => (κ' 3 i).toNat) (tG σ)) A (fun κ' => some (.ref (κ' 2 0).toNat)) (fun κ' => True)) args s 241 1440 A) (F0 m 10 ls []) := by
    intro n10
    induction n10 with
    | zero =>
      intro k κx10 g10 cl10 sl10 hlo10 hhi10 hm10
      omega
    | succ n10 ih10 =>
      intro k κx10 g10 cl10 sl10 hlo10 hhi10 hm10 iq10 hcl10 hsl10 H locs ls hP hD hS hl
      refine lv_iload_n hx hb dL_trees_10 rfl (lv_at hl 0 rfl) ?_
      refine lv_bipush (v := iI (40)) hx hb dL_trees_11 rfl ?_
      refine gi_icmp_ge (tgt := 53) hx hb dL_trees_13 (by decide) ⟨by omega, by omega⟩ ⟨by decide, by decide⟩ (fun c13 => ?_) (fun c13 => ?_)
      · skip
        refine lv_aload_n hx hb dL_trees_53 rfl (lv_at hl 1 rfl) ?_
        have hg9 : ∀ i9 : Nat, i9 < 40 → ∀ j9 : Int, 0 ≤ j9 → j9 < 5 → g10 i9 j9 = tG σ i9 j9 := fun i9 h9 j9 h0 h1 => iq10 i9 (by omega) j9 h0 h1
        exact g_aret (wo := (fun κ' => XW cI cZ d σ κ' ++ QW cI cQ (κ' 2 0).toNat (fun i => (κ' 3 i).toNat) (tG σ))) (kr := (fun κ' => True)) (rv := (fun κ' => some (.ref (κ' 2 0).toNat))) hx hb hr hlocks (fun a i => if a = 2 then ((q3 : Nat) : Int) else if a = 3 then ((r3 i.toNat : Nat) : Int) else κx10 a i) (qw_P hg9 hP) hK (qw_D hD) hS trivial rfl (by show cl10 ≤ 241; omega) (by show sl10 ≤ 1440; omega) dL_trees_54
      · skip
        refine lv_iconst (v := iI (0)) hx hb dL_trees_16 rfl ?_
        refine lv_istore_n (lv' := [(3, .int (iI (0))), (2, .int (iI (k))), (1, .ref (q3)), (0, .ref (d 0))]) hx hb dL_trees_17 rfl hl (by decide) rfl (fun ls hl => ?_)
        have loop18 : ∀ (n18 : Nat) (j : Int) (κx18 : St) (g18 : St) (cl18 sl18 : Nat), (0 ≤ j) → (j ≤ 5) → (5 - j < (n18 : Int)) → (∀ i9 : Nat, (i9 : Int) < k → ∀ j9 : Int, 0 ≤ j9 → j9 < 5 → g18 i9 j9 = xTree σ (i9 : Int) j9) → (∀ j9 : Int, 0 ≤ j9 → j9 < j → g18 k.toNat j9 = xTree σ k j9) → ((cl18 : Int) ≤ 41 + 5 * k + j) → ((sl18 : Int) ≤ 240 + 30 * k + 6 * j) → ∀ (H : Heap) (locs : List Loc) (ls : Array Slot), va_P D vwCl ((XW cI cZ d σ κx18) ++ (QW cI cQ q3 r3 g18)) H → va_D A ((XW cI cZ d σ κx18) ++ (QW cI cQ q3 r3 g18)) → va_S A s.heap H locs → lv_has ls 4 [(3, .int (iI (j))), (2, .int (iI (k))), (1, .ref (q3)), (0, .ref (d 0))] → W p l e ({ frames := 7, cells := 241, slots := 1440, locals := 116 } : Room) s m args below meth c H locs cl18 sl18 (MQ below (gQ D (tyA cI cZ cT cU cQ) (fun κ' => XW cI cZ d σ κ' ++ QW cI cQ (κ' 2 0).toNat (fun i => (κ' 3 i).toNat) (tG σ)) A (fun κ' => some (.ref (κ' 2 0).toNat)) (fun κ' => True)) args s 241 1440 A) (F0 m 18 ls []) := by
          intro n18
          induction n18 with
          | zero =>
            intro j κx18 g18 cl18 sl18 hlo18 hhi18 hm18
            omega
          | succ n18 ih18 =>
            intro j κx18 g18 cl18 sl18 hlo18 hhi18 hm18 iq18 iw18 hcl18 hsl18 H locs ls hP hD hS hl
            refine lv_iload_n hx hb dL_trees_18 rfl (lv_at hl 0 rfl) ?_
            refine lv_iconst (v := iI (5)) hx hb dL_trees_19 rfl ?_
            refine gi_icmp_ge (tgt := 47) hx hb dL_trees_20 (by decide) ⟨by omega, by omega⟩ ⟨by decide, by decide⟩ (fun c20 => ?_) (fun c20 => ?_)
            · skip
              refine lv_iinc (v := iI (k + 1)) (lv' := [(2, .int (iI (k + 1))), (3, .int (iI (j))), (1, .ref (q3)), (0, .ref (d 0))]) hx hb dL_trees_47 hl (k := 1) rfl (iI_add _ _) (by decide) rfl (fun ls hl => ?_)
              refine lv_goto (tgt := 10) hx hb dL_trees_50 (by decide) ?_
              exact ih10 (k + 1) κx18 g18 cl18 sl18 (by omega) (by omega) (by omega) (by intro i9 h9 j9 h0 h1; by_cases e9 : (i9 : Int) < k; exact iq18 i9 e9 j9 h0 h1; (have e8 : i9 = k.toNat := by omega); subst e8; rw [iw18 j9 h0 (by omega), show ((k.toNat : Nat) : Int) = k by omega]) (by omega) (by omega) H locs ls hP hD hS (lv_sub hl [0, 2, 3] rfl)
            · skip
              refine lv_aload_n hx hb dL_trees_23 rfl (lv_at hl 2 rfl) ?_
              refine lv_iload_n hx hb dL_trees_24 rfl (lv_at hl 1 rfl) ?_
              refine s_row (f := tgr r3) hx hb hK (g_right hP) 0 4 rfl rfl (by omega) (by omega) (by decide) (v := r3 k.toNat) (if_pos (by omega)) dL_trees_25 ?_
              refine lv_iload_n hx hb dL_trees_26 rfl (lv_at hl 0 rfl) ?_
              refine lv_aload_n hx hb dL_trees_27 rfl (lv_at hl 3 rfl) ?_
              refine lv_iload_n hx hb dL_trees_28 rfl (lv_at hl 1 rfl) ?_
              refine lv_bipush (v := iI (8)) hx hb dL_trees_29 rfl ?_
              refine gi_div hx hb ⟨by omega, by omega⟩ ⟨by omega, by omega⟩ dL_trees_31 ?_
              refine lv_iload_n hx hb dL_trees_32 rfl (lv_at hl 1 rfl) ?_
              refine lv_bipush (v := iI (8)) hx hb dL_trees_33 rfl ?_
              refine gi_rem hx hb ⟨by omega, by omega⟩ ⟨by omega, by omega⟩ dL_trees_35 ?_
              refine lv_iload_n hx hb dL_trees_36 rfl (lv_at hl 0 rfl) ?_
              have hPc : va_P D vwCl ((XW cI cZ d σ κx18) ++ (QW cI cQ q3 r3 g18)) H := hP
              have hDc : va_D A ((XW cI cZ d σ κx18) ++ (QW cI cQ q3 r3 g18)) := hD
              refine h_call0 (vx_runV (As := [.int (iI (k / 8)), .int (iI (k % 8)), .int (iI (j))]) (rest := [.int (iI (j)), .ref (r3 k.toNat)]) S ((kX1_tree l hfl D cI cZ d σ κx18 (k / 8) (k % 8) j (by first | assumption | omega) (by first | assumption | omega) (by first | assumption | omega) (by first | assumption | omega) (by first | assumption | omega) (by first | assumption | omega) (by first | assumption | omega)) H.size) (cwV 3 hts gL_trees_X1_tree rfl rfl rfl (by decide +kernel) ⟨Nat.le_of_ble_eq_true rfl, Nat.le_of_ble_eq_true rfl⟩) (h_preV hK [0, 1] rfl hPc hDc hS hA hTE (q0 := 0) (ci := 1) rfl rfl rfl) rfl rfl hl.1 rfl (lv_room (Nat.le_of_ble_eq_true rfl)) dL_trees_37 ⟨by show cl18 + 1 ≤ 241; omega, by show sl18 + 6 ≤ 1440; omega⟩) hPc hDc hS hA (fun E h => (by have h0 : (tTree (k / 8) (k % 8) j) = 0 := (by unfold tTree; rw [if_neg (by omega)]); rcases h with ⟨_, h⟩ <;> omega)) (fun κ9 H locs hk hP hD hS => ?_)
              obtain ⟨z1, ezz1⟩ : ∃ z, z = κ9 := ⟨_, rfl⟩
              subst ezz1
              have hP : va_P D vwCl ((XW cI cZ d σ z1) ++ (QW cI cQ q3 r3 g18)) H := hP
              have hD : va_D A ((XW cI cZ d σ z1) ++ (QW cI cQ q3 r3 g18)) := hD
              show W p l e ({ frames := 7, cells := 241, slots := 1440, locals := 116 } : Room) s m args below meth c H locs (cl18 + 1) (sl18 + 6) (MQ below (gQ D (tyA cI cZ cT cU cQ) (fun κ' => XW cI cZ d σ κ' ++ QW cI cQ (κ' 2 0).toNat (fun i => (κ' 3 i).toNat) (tG σ)) A (fun κ' => some (.ref (κ' 2 0).toNat)) (fun κ' => True)) args s 241 1440 A) (F0 m 40 ls [.int (iI (xTree σ ((k / 8) * 8 + (k % 8)) j)), .int (iI (j)), .ref (r3 k.toNat)])
              rw [show (xTree σ ((k / 8) * 8 + (k % 8)) j : Int) = (xTree σ k j) from by rw [show k / 8 * 8 + k % 8 = k by omega]]
              refine gi_iast (a := (r3 k.toNat)) (n := 5) (f := g18 k.toNat) hx hb hK hP hD hS (k.toNat + 1 + 12) 0 (qw_at (cI := cI) (cQ := cQ) (w := q3) (a := r3) (g := g18) (k := k.toNat) (by omega)) rfl (by omega) (by omega) (by decide) dL_trees_40 (fun H locs hP hD hS => ?_)
              have hP : va_P D vwCl ((XW cI cZ d σ z1) ++ (QW cI cQ q3 r3 (sr g18 k.toNat (fu (g18 k.toNat) j (xTree σ k j))))) H := va_Pe ((set_app rfl).trans (congrArg (fun w9 => (XW cI cZ d σ z1) ++ w9) (qw_set (by omega)))) hP
              have hD : va_D A ((XW cI cZ d σ z1) ++ (QW cI cQ q3 r3 (sr g18 k.toNat (fu (g18 k.toNat) j (xTree σ k j))))) := va_De ((set_app rfl).trans (congrArg (fun w9 => (XW cI cZ d σ z1) ++ w9) (qw_set (by omega)))) hD
              refine lv_iinc (v := iI (j + 1)) (lv' := [(3, .int (iI (j + 1))), (2, .int (iI (k))), (1, .ref (q3)), (0, .ref (d 0))]) hx hb dL_trees_41 hl (k := 0) rfl (iI_add _ _) (by decide) rfl (fun ls hl => ?_)
              refine lv_goto (tgt := 18) hx hb dL_trees_44 (by decide) ?_
              exact ih18 (j + 1) z1 (sr g18 k.toNat (fu (g18 k.toNat) j (xTree σ k j))) (cl18 + 1) (sl18 + 6) (by omega) (by omega) (by omega) (by intro i9 h9 j9 h0 h1; show sr _ _ _ i9 j9 = _; unfold sr; rw [if_neg (by omega)]; exact iq18 i9 h9 j9 h0 h1) (by intro j9 h0 h1; show sr _ _ _ _ j9 = _; unfold sr; rw [if_pos rfl]; unfold fu; by_cases e9 : j9 = j; rw [if_pos e9, e9]; (rw [if_neg e9]; exact iw18 j9 h0 (by omega))) (by omega) (by omega) H locs ls hP hD hS (lv_sub hl [0, 1, 2, 3] rfl)
        exact loop18 (((5 - (0) + 1 : Int)).toNat) 0 κx10 g10 cl10 sl10 (by omega) (by omega) (by omega) (by exact iq10) (by intro j9 h0 h1; omega) (by omega) (by omega) H locs ls hP hD hS (lv_sub hl [0, 1, 2, 3] rfl)
  exact loop10 (((40 - (0) + 1 : Int)).toNat) 0 κ (fun _ _ => 0) 41 240 (by omega) (by omega) (by omega) (by intro i9 h9; omega) (by omega) (by omega) H locs ls hP hD hS (lv_sub hl [0, 1, 2] rfl)
