set_option maxHeartbeats 4000000 in
set_option maxRecDepth 100000 in
theorem kX1_reachWithSort (l : Launch) (D : va_G) (cI cZ : ClassId) (d : Nat → Nat) (σ κ : St)  (n0 : Int) (n1 : Int) (hw : 1 ≤ n0 ∧ n0 ≤ 9) (hn : 0 ≤ n1 ∧ n1 ≤ 20) (hf : ∀ j, -1 ≤ κ 1 j ∧ κ 1 j ≤ 20) : gMet l yX1_reachWithSort wsX1_reachWithSort ({ frames := 0, cells := 0, slots := 0, locals := 0 } : Room) D (tyXs cI cZ) (XW cI cZ d σ κ) [.ref (d 0), .int (iI n0), .int (iI n1)] xEx (fun _ => none) (fun κ' => κ' 1 = rwFI n0 n1 (κ 1) 541 ∧ ∀ j, -1 ≤ κ' 1 j ∧ κ' 1 j ≤ 20) (fun κ' => XW cI cZ d σ κ') := by
  refine g_start (cc := cX1_reachWithSort) (maxL := 5) (ret := none) (by decide) rfl (Nat.le_of_ble_eq_true rfl) ?_
  intro p e s m args below meth c A ls H locs S hr hlocks hname hP hK hD hA hS hE hl
  have S0 := S
  obtain ⟨hx, hb, hml, hown, hts⟩ := S0
  have hl : lv_has ls 5 [(0, .ref (d 0)), (1, .int (iI (n0))), (2, .int (iI (n1)))] := hl
  have hinX1 : ∀ w ∈ wsX10, w ∈ wsX1_reachWithSort := by decide +kernel
  refine lv_iconst (v := iI (0)) hx hb dX1_reachWithSort_0 rfl ?_
  refine lv_istore_n (lv' := [(3, .int (iI (0))), (0, .ref (d 0)), (1, .int (iI (n0))), (2, .int (iI (n1)))]) hx hb dX1_reachWithSort_1 rfl hl (by decide) rfl (fun ls hl => ?_)
  have loop2 : ∀ (n2 : Nat) (i : Int) (κ_2 : St), (0 ≤ i) → (i ≤ 541) → (541 - i < (n2 : Int)) → (κ_2 1 = rwFI n0 n1 (κ 1) i) → (∀ j, -1 ≤ κ_2 1 j ∧ κ_2 1 j ≤ 20) → ∀ (H : Heap) (locs : List Loc) (ls : Array Slot), va_P D vwCl (XW cI cZ d σ κ_2) H → va_D A (XW cI cZ d σ κ_2) → va_S A s.heap H locs → lv_has ls 5 [(3, .int (iI (i))), (0, .ref (d 0)), (1, .int (iI (n0))), (2, .int (iI (n1)))] → W p l e ({ frames := 0, cells := 0, slots := 0, locals := 0 } : Room) s m args below meth c H locs 0 0 (MQ below (gQ D (tyXs cI cZ) (fun κ' => XW cI cZ d σ κ') A (fun _ => none) (fun κ' => κ' 1 = rwFI n0 n1 (κ 1) 541 ∧ ∀ j, -1 ≤ κ' 1 j ∧ κ' 1 j ≤ 20)) args s 0 0 A) (F0 m 2 ls []) := by
    intro n2
    induction n2 with
    | zero =>
      intro i κ_2 hlo2 hhi2 hm2
      omega
    | succ n2 ih2 =>
      intro i κ_2 hlo2 hhi2 hm2 ik ib H locs ls hP hD hS hl
      have b1 := ib i
      have b2 := ib (i - n0)
      refine lv_iload_n hx hb dX1_reachWithSort_2 rfl (lv_at hl 0 rfl) ?_
      refine lv_sipush (v := iI (540)) hx hb dX1_reachWithSort_3 rfl ?_
      refine gi_icmp_gt (tgt := 72) hx hb dX1_reachWithSort_6 (by decide) ⟨by omega, by omega⟩ ⟨by decide, by decide⟩ (fun c6 => ?_) (fun c6 => ?_)
      · skip
        exact g_vret (wo := (fun κ' => XW cI cZ d σ κ')) (kr := (fun κ' => κ' 1 = rwFI n0 n1 (κ 1) 541 ∧ ∀ j, -1 ≤ κ' 1 j ∧ κ' 1 j ≤ 20)) (rv := (fun _ => none)) hx hb hr hlocks κ_2 hP hK hD hS (by rw [show i = 541 by omega] at ik; exact ⟨ik, ib⟩) rfl (Nat.le_of_ble_eq_true rfl) (Nat.le_of_ble_eq_true rfl) dX1_reachWithSort_72
      · skip
        refine lv_aload_n hx hb dX1_reachWithSort_9 rfl (lv_at hl 1 rfl) ?_
        refine va_get (D := D) (ci := 1) (v := .ref (d 11)) (C := RX1) (T := TX1) (N := 13) hx hb hts hinX1 hown hK hP 0 rfl rfl 12 (by decide) (hts (.fieldLink RX1 52 "TwinOrchard" "fewest" "[I") (List.mem_of_getElem? (i := 1) rfl)) (fun _ h9 => h9) rfl dX1_reachWithSort_10 ?_
        refine lv_iload_n hx hb dX1_reachWithSort_13 rfl (lv_at hl 0 rfl) ?_
        refine gi_iald (a := d 11) (n := 541) (f := κ_2 1) hx hb hK hP 11 0 rfl rfl (by omega) (by omega) (by decide) dX1_reachWithSort_14 ?_
        refine lv_iconst (v := iI (-1)) hx hb dX1_reachWithSort_15 rfl ?_
        refine gi_icmp_eq (tgt := 29) hx hb dX1_reachWithSort_16 (by decide) ⟨by omega, by omega⟩ ⟨by decide, by decide⟩ (fun c16 => ?_) (fun c16 => ?_)
        · skip
          refine lv_iload_n hx hb dX1_reachWithSort_29 rfl (lv_at hl 0 rfl) ?_
          refine lv_iload_n hx hb dX1_reachWithSort_30 rfl (lv_at hl 2 rfl) ?_
          refine gi_icmp_lt (tgt := 66) hx hb dX1_reachWithSort_31 (by decide) ⟨by omega, by omega⟩ ⟨by omega, by omega⟩ (fun c31 => ?_) (fun c31 => ?_)
          · skip
            refine lv_iinc (v := iI (i + 1)) (lv' := [(3, .int (iI (i + 1))), (0, .ref (d 0)), (1, .int (iI (n0))), (2, .int (iI (n1)))]) hx hb dX1_reachWithSort_66 hl (k := 0) rfl (iI_add _ _) (by decide) rfl (fun ls hl => ?_)
            refine lv_goto (tgt := 2) hx hb dX1_reachWithSort_69 (by decide) ?_
            exact ih2 (i + 1) κ_2 (by omega) (by omega) (by omega) (by first | (show fu (κ_2 1) i 0 = _; rw [rwFI_s _ _ _ hlo2, ← ik]; unfold rwS; rw [if_pos (by omega)]; done) | (show fu (κ_2 1) i (κ_2 1 (i - n0) + 1) = _; rw [rwFI_s _ _ _ hlo2, ← ik]; unfold rwS; rw [if_neg (by omega), if_pos (by omega)]; done) | (rw [rwFI_s _ _ _ hlo2, ← ik]; unfold rwS; rw [if_neg (by omega), if_neg (by omega)]; done)) (by intro j; have b3 := ib j; first | exact b3 | (show -1 ≤ fu (κ_2 1) i _ j ∧ fu (κ_2 1) i _ j ≤ 20; unfold fu; split <;> omega)) H locs ls hP hD hS (lv_sub hl [0, 1, 2, 3] rfl)
          · skip
            refine lv_aload_n hx hb dX1_reachWithSort_34 rfl (lv_at hl 1 rfl) ?_
            refine va_get (D := D) (ci := 1) (v := .ref (d 11)) (C := RX1) (T := TX1) (N := 13) hx hb hts hinX1 hown hK hP 0 rfl rfl 12 (by decide) (hts (.fieldLink RX1 52 "TwinOrchard" "fewest" "[I") (List.mem_of_getElem? (i := 1) rfl)) (fun _ h9 => h9) rfl dX1_reachWithSort_35 ?_
            refine lv_iload_n hx hb dX1_reachWithSort_38 rfl (lv_at hl 0 rfl) ?_
            refine lv_iload_n hx hb dX1_reachWithSort_39 rfl (lv_at hl 2 rfl) ?_
            refine gi_sub hx hb dX1_reachWithSort_40 ?_
            refine gi_iald (a := d 11) (n := 541) (f := κ_2 1) hx hb hK hP 11 0 rfl rfl (by omega) (by omega) (by decide) dX1_reachWithSort_41 ?_
            refine lv_istore (lv' := [(4, .int (iI (κ_2 1 (i - n0)))), (3, .int (iI (i))), (0, .ref (d 0)), (1, .int (iI (n0))), (2, .int (iI (n1)))]) hx hb dX1_reachWithSort_42 hl (by decide) rfl (fun ls hl => ?_)
            refine lv_iload hx hb dX1_reachWithSort_44 (lv_at hl 0 rfl) ?_
            refine lv_iconst (v := iI (-1)) hx hb dX1_reachWithSort_46 rfl ?_
            refine gi_icmp_eq (tgt := 66) hx hb dX1_reachWithSort_47 (by decide) ⟨by omega, by omega⟩ ⟨by decide, by decide⟩ (fun c47 => ?_) (fun c47 => ?_)
            · skip
              refine lv_iinc (v := iI (i + 1)) (lv' := [(3, .int (iI (i + 1))), (4, .int (iI (κ_2 1 (i - n0)))), (0, .ref (d 0)), (1, .int (iI (n0))), (2, .int (iI (n1)))]) hx hb dX1_reachWithSort_66 hl (k := 1) rfl (iI_add _ _) (by decide) rfl (fun ls hl => ?_)
              refine lv_goto (tgt := 2) hx hb dX1_reachWithSort_69 (by decide) ?_
              exact ih2 (i + 1) κ_2 (by omega) (by omega) (by omega) (by first | (show fu (κ_2 1) i 0 = _; rw [rwFI_s _ _ _ hlo2, ← ik]; unfold rwS; rw [if_pos (by omega)]; done) | (show fu (κ_2 1) i (κ_2 1 (i - n0) + 1) = _; rw [rwFI_s _ _ _ hlo2, ← ik]; unfold rwS; rw [if_neg (by omega), if_pos (by omega)]; done) | (rw [rwFI_s _ _ _ hlo2, ← ik]; unfold rwS; rw [if_neg (by omega), if_neg (by omega)]; done)) (by intro j; have b3 := ib j; first | exact b3 | (show -1 ≤ fu (κ_2 1) i _ j ∧ fu (κ_2 1) i _ j ≤ 20; unfold fu; split <;> omega)) H locs ls hP hD hS (lv_sub hl [0, 2, 3, 4] rfl)
            · skip
              refine lv_iload hx hb dX1_reachWithSort_50 (lv_at hl 0 rfl) ?_
              refine lv_iload_n hx hb dX1_reachWithSort_52 rfl (lv_at hl 4 rfl) ?_
              refine gi_icmp_ge (tgt := 66) hx hb dX1_reachWithSort_53 (by decide) ⟨by omega, by omega⟩ ⟨by omega, by omega⟩ (fun c53 => ?_) (fun c53 => ?_)
              · skip
                refine lv_iinc (v := iI (i + 1)) (lv' := [(3, .int (iI (i + 1))), (4, .int (iI (κ_2 1 (i - n0)))), (0, .ref (d 0)), (1, .int (iI (n0))), (2, .int (iI (n1)))]) hx hb dX1_reachWithSort_66 hl (k := 1) rfl (iI_add _ _) (by decide) rfl (fun ls hl => ?_)
                refine lv_goto (tgt := 2) hx hb dX1_reachWithSort_69 (by decide) ?_
                exact ih2 (i + 1) κ_2 (by omega) (by omega) (by omega) (by first | (show fu (κ_2 1) i 0 = _; rw [rwFI_s _ _ _ hlo2, ← ik]; unfold rwS; rw [if_pos (by omega)]; done) | (show fu (κ_2 1) i (κ_2 1 (i - n0) + 1) = _; rw [rwFI_s _ _ _ hlo2, ← ik]; unfold rwS; rw [if_neg (by omega), if_pos (by omega)]; done) | (rw [rwFI_s _ _ _ hlo2, ← ik]; unfold rwS; rw [if_neg (by omega), if_neg (by omega)]; done)) (by intro j; have b3 := ib j; first | exact b3 | (show -1 ≤ fu (κ_2 1) i _ j ∧ fu (κ_2 1) i _ j ≤ 20; unfold fu; split <;> omega)) H locs ls hP hD hS (lv_sub hl [0, 2, 3, 4] rfl)
              · skip
                refine lv_aload_n hx hb dX1_reachWithSort_56 rfl (lv_at hl 2 rfl) ?_
                refine va_get (D := D) (ci := 1) (v := .ref (d 11)) (C := RX1) (T := TX1) (N := 13) hx hb hts hinX1 hown hK hP 0 rfl rfl 12 (by decide) (hts (.fieldLink RX1 52 "TwinOrchard" "fewest" "[I") (List.mem_of_getElem? (i := 1) rfl)) (fun _ h9 => h9) rfl dX1_reachWithSort_57 ?_
                refine lv_iload_n hx hb dX1_reachWithSort_60 rfl (lv_at hl 1 rfl) ?_
                refine lv_iload hx hb dX1_reachWithSort_61 (lv_at hl 0 rfl) ?_
                refine lv_iconst (v := iI (1)) hx hb dX1_reachWithSort_63 rfl ?_
                refine gi_add hx hb dX1_reachWithSort_64 ?_
                refine gi_iast (a := d 11) (n := 541) (f := κ_2 1) hx hb hK hP hD hS 11 0 rfl rfl (by omega) (by omega) (by decide) dX1_reachWithSort_65 (fun H locs hP hD hS => ?_)
                have hP : va_P D vwCl (XW cI cZ d σ (su κ_2 1 i ((κ_2 1 (i - n0)) + 1))) H := hP
                have hD : va_D A (XW cI cZ d σ (su κ_2 1 i ((κ_2 1 (i - n0)) + 1))) := hD
                refine lv_iinc (v := iI (i + 1)) (lv' := [(3, .int (iI (i + 1))), (4, .int (iI (κ_2 1 (i - n0)))), (0, .ref (d 0)), (1, .int (iI (n0))), (2, .int (iI (n1)))]) hx hb dX1_reachWithSort_66 hl (k := 1) rfl (iI_add _ _) (by decide) rfl (fun ls hl => ?_)
                refine lv_goto (tgt := 2) hx hb dX1_reachWithSort_69 (by decide) ?_
                exact ih2 (i + 1) (su κ_2 1 i ((κ_2 1 (i - n0)) + 1)) (by omega) (by omega) (by omega) (by first | (show fu (κ_2 1) i 0 = _; rw [rwFI_s _ _ _ hlo2, ← ik]; unfold rwS; rw [if_pos (by omega)]; done) | (show fu (κ_2 1) i (κ_2 1 (i - n0) + 1) = _; rw [rwFI_s _ _ _ hlo2, ← ik]; unfold rwS; rw [if_neg (by omega), if_pos (by omega)]; done) | (rw [rwFI_s _ _ _ hlo2, ← ik]; unfold rwS; rw [if_neg (by omega), if_neg (by omega)]; done)) (by intro j; have b3 := ib j; first | exact b3 | (show -1 ≤ fu (κ_2 1) i _ j ∧ fu (κ_2 1) i _ j ≤ 20; unfold fu; split <;> omega)) H locs ls hP hD hS (lv_sub hl [0, 2, 3, 4] rfl)
        · skip
          refine lv_aload_n hx hb dX1_reachWithSort_19 rfl (lv_at hl 1 rfl) ?_
          refine va_get (D := D) (ci := 1) (v := .ref (d 11)) (C := RX1) (T := TX1) (N := 13) hx hb hts hinX1 hown hK hP 0 rfl rfl 12 (by decide) (hts (.fieldLink RX1 52 "TwinOrchard" "fewest" "[I") (List.mem_of_getElem? (i := 1) rfl)) (fun _ h9 => h9) rfl dX1_reachWithSort_20 ?_
          refine lv_iload_n hx hb dX1_reachWithSort_23 rfl (lv_at hl 0 rfl) ?_
          refine lv_iconst (v := iI (0)) hx hb dX1_reachWithSort_24 rfl ?_
          refine gi_iast (a := d 11) (n := 541) (f := κ_2 1) hx hb hK hP hD hS 11 0 rfl rfl (by omega) (by omega) (by decide) dX1_reachWithSort_25 (fun H locs hP hD hS => ?_)
          have hP : va_P D vwCl (XW cI cZ d σ (su κ_2 1 i (0))) H := hP
          have hD : va_D A (XW cI cZ d σ (su κ_2 1 i (0))) := hD
          refine lv_goto (tgt := 66) hx hb dX1_reachWithSort_26 (by decide) ?_
          refine lv_iinc (v := iI (i + 1)) (lv' := [(3, .int (iI (i + 1))), (0, .ref (d 0)), (1, .int (iI (n0))), (2, .int (iI (n1)))]) hx hb dX1_reachWithSort_66 hl (k := 0) rfl (iI_add _ _) (by decide) rfl (fun ls hl => ?_)
          refine lv_goto (tgt := 2) hx hb dX1_reachWithSort_69 (by decide) ?_
          exact ih2 (i + 1) (su κ_2 1 i (0)) (by omega) (by omega) (by omega) (by first | (show fu (κ_2 1) i 0 = _; rw [rwFI_s _ _ _ hlo2, ← ik]; unfold rwS; rw [if_pos (by omega)]; done) | (show fu (κ_2 1) i (κ_2 1 (i - n0) + 1) = _; rw [rwFI_s _ _ _ hlo2, ← ik]; unfold rwS; rw [if_neg (by omega), if_pos (by omega)]; done) | (rw [rwFI_s _ _ _ hlo2, ← ik]; unfold rwS; rw [if_neg (by omega), if_neg (by omega)]; done)) (by intro j; have b3 := ib j; first | exact b3 | (show -1 ≤ fu (κ_2 1) i _ j ∧ fu (κ_2 1) i _ j ≤ 20; unfold fu; split <;> omega)) H locs ls hP hD hS (lv_sub hl [0, 1, 2, 3] rfl)
  exact loop2 (((541 - (0) + 1 : Int)).toNat) 0 κ (by omega) (by omega) (by omega) (by rfl) (by exact hf) H locs ls hP hD hS (lv_sub hl [0, 1, 2, 3] rfl)
set_option maxHeartbeats 4000000 in
set_option maxRecDepth 100000 in
theorem kX1_heaviestUpTo (l : Launch) (D : va_G) (cI cZ : ClassId) (d : Nat → Nat) (σ κ : St)  (n0 : Int) (hwf : xWF σ) (hn : 0 ≤ n0 ∧ n0 ≤ 540) : gMet l yX1_heaviestUpTo wsX1_heaviestUpTo ({ frames := 2, cells := 0, slots := 0, locals := 45 } : Room) D (tyXs cI cZ) (XW cI cZ d σ κ) [.ref (d 0), .int (iI n0)] xEx (fun _ => some (.int (iI (hvyI (hvFI σ 6) (min n0 540))))) (fun κ' => True) (fun κ' => XW cI cZ d σ κ') := by
  refine g_start (cc := cX1_heaviestUpTo) (maxL := 3) (ret := (some .int)) (by decide) rfl (Nat.le_of_ble_eq_true rfl) ?_
  intro p e s m args below meth c A ls H locs S hr hlocks hname hP hK hD hA hS hE hl
  have S0 := S
  obtain ⟨hx, hb, hml, hown, hts⟩ := S0
  have hl : lv_has ls 3 [(0, .ref (d 0)), (1, .int (iI (n0)))] := hl
  have hinX1 : ∀ w ∈ wsX10, w ∈ wsX1_heaviestUpTo := by decide +kernel
  refine lv_aload_n hx hb dX1_heaviestUpTo_0 rfl (lv_at hl 0 rfl) ?_
  refine va_get (D := D) (ci := 1) (v := .ref (d 11)) (C := RX1) (T := TX1) (N := 13) hx hb hts hinX1 hown hK hP 0 rfl rfl 12 (by decide) (hts (.fieldLink RX1 52 "TwinOrchard" "fewest" "[I") (List.mem_of_getElem? (i := 1) rfl)) (fun _ h9 => h9) rfl dX1_heaviestUpTo_1 ?_
  refine lv_iconst (v := iI (-1)) hx hb dX1_heaviestUpTo_4 rfl ?_
  have hPc : va_P D vwCl ([(d 11, aI cI 541 (κ 1))] ++ []) H := g_one (hP 11 _ rfl)
  have hDc : va_D A ([(d 11, aI cI 541 (κ 1))] ++ []) := hD.sub [11] (by decide) rfl
  refine g_call1 (e1 := fun _ => aI cI 541 (fun _ => -1)) 11 rfl (va_runS (As := [.ref (d 11), .int (iI (-1))]) (rest := []) S ((kJ7_fill_53178 l D cI (d 11) 541 (κ 1) (-1) (by decide)) H.size) (va_cwS 2 hts gX1_heaviestUpTo_J7_fill_53178 rfl rfl rfl (by decide +kernel) ⟨Nat.le_of_ble_eq_true rfl, Nat.le_of_ble_eq_true rfl⟩) (g_preS gEx_t hK [0] rfl hPc hDc (fun _ _ _ => trivial)) rfl rfl hl.1 rfl (lv_room (Nat.le_of_ble_eq_true rfl)) dX1_heaviestUpTo_5 ⟨Nat.le_of_ble_eq_true rfl, Nat.le_of_ble_eq_true rfl⟩) hP hD hS hA (fun κ9 H locs hk hP hD hS => ?_)
  have hP : va_P D vwCl (XW cI cZ d σ (sr κ 1 (fun _ => -1))) H := hP
  have hD : va_D A (XW cI cZ d σ (sr κ 1 (fun _ => -1))) := hD
  obtain ⟨κ_f5, hf5⟩ : ∃ z, z = sr κ 1 (fun _ => -1) := ⟨_, rfl⟩
  rw [← hf5] at hP hD
  show W p l e ({ frames := 2, cells := 0, slots := 0, locals := 45 } : Room) s m args below meth c H locs 0 0 (MQ below (gQ D (tyXs cI cZ) (fun κ' => XW cI cZ d σ κ') A (fun _ => some (.int (iI (hvyI (hvFI σ 6) (min n0 540))))) (fun κ' => True)) args s 0 0 A) (F0 m 8 ls [])
  refine lv_aload_n hx hb dX1_heaviestUpTo_8 rfl (lv_at hl 0 rfl) ?_
  refine va_get (D := D) (ci := 1) (v := .ref (d 11)) (C := RX1) (T := TX1) (N := 13) hx hb hts hinX1 hown hK hP 0 rfl rfl 12 (by decide) (hts (.fieldLink RX1 52 "TwinOrchard" "fewest" "[I") (List.mem_of_getElem? (i := 1) rfl)) (fun _ h9 => h9) rfl dX1_heaviestUpTo_9 ?_
  refine lv_iconst (v := iI (0)) hx hb dX1_heaviestUpTo_12 rfl ?_
  refine lv_iconst (v := iI (0)) hx hb dX1_heaviestUpTo_13 rfl ?_
  refine gi_iast (a := d 11) (n := 541) (f := κ_f5 1) hx hb hK hP hD hS 11 0 rfl rfl (by omega) (by omega) (by decide) dX1_heaviestUpTo_14 (fun H locs hP hD hS => ?_)
  have hP : va_P D vwCl (XW cI cZ d σ (su κ_f5 1 0 (0))) H := hP
  have hD : va_D A (XW cI cZ d σ (su κ_f5 1 0 (0))) := hD
  refine lv_iconst (v := iI (0)) hx hb dX1_heaviestUpTo_15 rfl ?_
  refine lv_istore_n (lv' := [(2, .int (iI (0))), (0, .ref (d 0)), (1, .int (iI (n0)))]) hx hb dX1_heaviestUpTo_16 rfl hl (by decide) rfl (fun ls hl => ?_)
  have loop17 : ∀ (n17 : Nat) (i : Int) (κ_17 : St), (0 ≤ i) → (i ≤ 6) → (6 - i < (n17 : Int)) → (κ_17 1 = hvFI σ i) → (∀ j, -1 ≤ κ_17 1 j ∧ κ_17 1 j ≤ 20) → ∀ (H : Heap) (locs : List Loc) (ls : Array Slot), va_P D vwCl (XW cI cZ d σ κ_17) H → va_D A (XW cI cZ d σ κ_17) → va_S A s.heap H locs → lv_has ls 3 [(2, .int (iI (i))), (0, .ref (d 0)), (1, .int (iI (n0)))] → W p l e ({ frames := 2, cells := 0, slots := 0, locals := 45 } : Room) s m args below meth c H locs 0 0 (MQ below (gQ D (tyXs cI cZ) (fun κ' => XW cI cZ d σ κ') A (fun _ => some (.int (iI (hvyI (hvFI σ 6) (min n0 540))))) (fun κ' => True)) args s 0 0 A) (F0 m 17 ls []) := by
    intro n17
    induction n17 with
    | zero =>
      intro i κ_17 hlo17 hhi17 hm17
      omega
    | succ n17 ih17 =>
      intro i κ_17 hlo17 hhi17 hm17 ik ib H locs ls hP hD hS hl
      refine lv_iload_n hx hb dX1_heaviestUpTo_17 rfl (lv_at hl 0 rfl) ?_
      refine lv_bipush (v := iI (6)) hx hb dX1_heaviestUpTo_18 rfl ?_
      refine gi_icmp_ge (tgt := 44) hx hb dX1_heaviestUpTo_20 (by decide) ⟨by omega, by omega⟩ ⟨by decide, by decide⟩ (fun c20 => ?_) (fun c20 => ?_)
      · skip
        have ik6 : κ_17 1 = hvFI σ 6 := by rw [ik, show i = 6 by omega]
        refine lv_iload_n hx hb dX1_heaviestUpTo_44 rfl (lv_at hl 2 rfl) ?_
        refine lv_sipush (v := iI (540)) hx hb dX1_heaviestUpTo_45 rfl ?_
        refine gi_min hx hb (hml.trans hl.1.symm) hown (hts _ (List.mem_of_getElem? (i := 3) rfl)) (hts _ (List.mem_of_getElem? (i := 4) rfl)) (hts _ (List.mem_of_getElem? (i := 5) rfl)) (hts _ (List.mem_of_getElem? (i := 6) rfl)) (Nat.le_of_ble_eq_true rfl) (Nat.le_of_ble_eq_true rfl) (Nat.le_of_ble_eq_true rfl) (Nat.le_of_ble_eq_true rfl) ⟨by omega, by omega⟩ ⟨by decide, by decide⟩ dX1_heaviestUpTo_48 ?_
        refine lv_istore_n (lv' := [(2, .int (iI (min n0 540))), (0, .ref (d 0)), (1, .int (iI (n0)))]) hx hb dX1_heaviestUpTo_51 rfl hl (by decide) rfl (fun ls hl => ?_)
        have loop52 : ∀ (n52 : Nat) (h : Int), (0 ≤ h) → (h ≤ min n0 540) → (h < (n52 : Int)) → (hvyI (hvFI σ 6) h = hvyI (hvFI σ 6) (min n0 540)) → ∀ (H : Heap) (locs : List Loc) (ls : Array Slot), va_P D vwCl (XW cI cZ d σ κ_17) H → va_D A (XW cI cZ d σ κ_17) → va_S A s.heap H locs → lv_has ls 3 [(2, .int (iI (h))), (0, .ref (d 0)), (1, .int (iI (n0)))] → W p l e ({ frames := 2, cells := 0, slots := 0, locals := 45 } : Room) s m args below meth c H locs 0 0 (MQ below (gQ D (tyXs cI cZ) (fun κ' => XW cI cZ d σ κ') A (fun _ => some (.int (iI (hvyI (hvFI σ 6) (min n0 540))))) (fun κ' => True)) args s 0 0 A) (F0 m 52 ls []) := by
          intro n52
          induction n52 with
          | zero =>
            intro h  hlo52 hhi52 hm52
            omega
          | succ n52 ih52 =>
            intro h  hlo52 hhi52 hm52 iq H locs ls hP hD hS hl
            have b1 := ib h
            refine lv_iload_n hx hb dX1_heaviestUpTo_52 rfl (lv_at hl 0 rfl) ?_
            refine gi_if_le (tgt := 72) hx hb dX1_heaviestUpTo_53 (by decide) ⟨by omega, by omega⟩ (fun c53 => ?_) (fun c53 => ?_)
            · skip
              refine lv_iload_n hx hb dX1_heaviestUpTo_72 rfl (lv_at hl 0 rfl) ?_
              have er : ((hvyI (hvFI σ 6) (min n0 540) : Int)) = (h) := by rw [← iq]; first | exact hvyI_0 _ (by omega) (by omega) | exact hvyI_y _ (by omega) (by rw [← ik6]; assumption)
              exact g_iret (wo := (fun κ' => XW cI cZ d σ κ')) (kr := (fun κ' => True)) (rv := (fun _ => some (.int (iI (hvyI (hvFI σ 6) (min n0 540)))))) hx hb hr hlocks κ_17 rfl hP hK hD hS trivial (by rw [er]) (Nat.le_of_ble_eq_true rfl) (Nat.le_of_ble_eq_true rfl) dX1_heaviestUpTo_73
            · skip
              refine lv_aload_n hx hb dX1_heaviestUpTo_56 rfl (lv_at hl 1 rfl) ?_
              refine va_get (D := D) (ci := 1) (v := .ref (d 11)) (C := RX1) (T := TX1) (N := 13) hx hb hts hinX1 hown hK hP 0 rfl rfl 12 (by decide) (hts (.fieldLink RX1 52 "TwinOrchard" "fewest" "[I") (List.mem_of_getElem? (i := 1) rfl)) (fun _ h9 => h9) rfl dX1_heaviestUpTo_57 ?_
              refine lv_iload_n hx hb dX1_heaviestUpTo_60 rfl (lv_at hl 0 rfl) ?_
              refine gi_iald (a := d 11) (n := 541) (f := κ_17 1) hx hb hK hP 11 0 rfl rfl (by omega) (by omega) (by decide) dX1_heaviestUpTo_61 ?_
              refine lv_iconst (v := iI (-1)) hx hb dX1_heaviestUpTo_62 rfl ?_
              refine gi_icmp_ne (tgt := 72) hx hb dX1_heaviestUpTo_63 (by decide) ⟨by omega, by omega⟩ ⟨by decide, by decide⟩ (fun c63 => ?_) (fun c63 => ?_)
              · skip
                refine lv_iload_n hx hb dX1_heaviestUpTo_72 rfl (lv_at hl 0 rfl) ?_
                have er : ((hvyI (hvFI σ 6) (min n0 540) : Int)) = (h) := by rw [← iq]; first | exact hvyI_0 _ (by omega) (by omega) | exact hvyI_y _ (by omega) (by rw [← ik6]; assumption)
                exact g_iret (wo := (fun κ' => XW cI cZ d σ κ')) (kr := (fun κ' => True)) (rv := (fun _ => some (.int (iI (hvyI (hvFI σ 6) (min n0 540)))))) hx hb hr hlocks κ_17 rfl hP hK hD hS trivial (by rw [er]) (Nat.le_of_ble_eq_true rfl) (Nat.le_of_ble_eq_true rfl) dX1_heaviestUpTo_73
              · skip
                refine lv_iinc (v := iI (h + (-1))) (lv' := [(2, .int (iI (h + (-1)))), (0, .ref (d 0)), (1, .int (iI (n0)))]) hx hb dX1_heaviestUpTo_66 hl (k := 0) rfl (iI_add _ _) (by decide) rfl (fun ls hl => ?_)
                refine lv_goto (tgt := 52) hx hb dX1_heaviestUpTo_69 (by decide) ?_
                exact ih52 (h + (-1))  (by omega) (by omega) (by omega) (by rw [← iq]; exact (hvyI_n _ (by omega) (by rw [← ik6]; assumption)).symm) H locs ls hP hD hS (lv_sub hl [0, 1, 2] rfl)
        exact loop52 (((min n0 540) + 1 : Int).toNat) (min n0 540)  (by omega) (by omega) (by omega) (by rfl) H locs ls hP hD hS (lv_sub hl [0, 1, 2] rfl)
      · skip
        refine lv_aload_n hx hb dX1_heaviestUpTo_23 rfl (lv_at hl 1 rfl) ?_
        refine lv_aload_n hx hb dX1_heaviestUpTo_24 rfl (lv_at hl 1 rfl) ?_
        refine va_get (D := D) (ci := 1) (v := .ref (d 1)) (C := RX1) (T := TX1) (N := 13) hx hb hts hinX1 hown hK hP 0 rfl rfl 0 (by decide) (hts (.fieldLink RX1 9 "TwinOrchard" "weights" "[I") (List.mem_of_getElem? (i := 2) rfl)) (fun _ h9 => h9) rfl dX1_heaviestUpTo_25 ?_
        refine lv_iload_n hx hb dX1_heaviestUpTo_28 rfl (lv_at hl 0 rfl) ?_
        refine gi_iald (a := d 1) (n := 6) (f := σ 0) hx hb hK hP 1 0 rfl rfl (by omega) (by omega) (by decide) dX1_heaviestUpTo_29 ?_
        refine lv_aload_n hx hb dX1_heaviestUpTo_30 rfl (lv_at hl 1 rfl) ?_
        refine lv_iload_n hx hb dX1_heaviestUpTo_31 rfl (lv_at hl 0 rfl) ?_
        have hPc : va_P D vwCl (XW cI cZ d σ κ_17 ++ []) H := by rw [List.append_nil]; exact hP
        have hDc : va_D A (XW cI cZ d σ κ_17 ++ []) := by rw [List.append_nil]; exact hD
        refine g_call (va_runV (As := [.int (iI (i))]) (rest := [.int (iI (σ 0 i)), .ref (d 0)]) S ((kX1_balancedApples l D cI cZ d σ κ_17 i (by first | assumption | omega) (by first | assumption | omega) (by first | assumption | omega)) H.size) (cwV 1 hts gX1_heaviestUpTo_X1_balancedApples rfl rfl rfl (by decide +kernel) ⟨Nat.le_of_ble_eq_true rfl, Nat.le_of_ble_eq_true rfl⟩) (g_preV xEx_g hK [0, 1] rfl hPc hDc (fun U _ hW => xEx_w hW hE) (q0 := 0) (ci := 1) rfl rfl rfl) rfl rfl hl.1 rfl (lv_room (Nat.le_of_ble_eq_true rfl)) dX1_heaviestUpTo_32 ⟨Nat.le_of_ble_eq_true rfl, Nat.le_of_ble_eq_true rfl⟩) hPc hDc hS hA (fun κ9 H locs hk hP hD hS => ?_)
        have hk : κ_17 = κ9 := hk.symm
        subst hk
        have hP : va_P D vwCl (XW cI cZ d σ κ_17) H := by have h9 : va_P D vwCl (XW cI cZ d σ κ_17 ++ []) H := hP; rw [List.append_nil] at h9; exact h9
        have hD : va_D A (XW cI cZ d σ κ_17) := by have h9 : va_D A (XW cI cZ d σ κ_17 ++ []) := hD; rw [List.append_nil] at h9; exact h9
        show W p l e ({ frames := 2, cells := 0, slots := 0, locals := 45 } : Room) s m args below meth c H locs 0 0 (MQ below (gQ D (tyXs cI cZ) (fun κ' => XW cI cZ d σ κ') A (fun _ => some (.int (iI (hvyI (hvFI σ 6) (min n0 540))))) (fun κ' => True)) args s 0 0 A) (F0 m 35 ls [.int (iI (bal σ i)), .int (iI (σ 0 i)), .ref (d 0)])
        have hPc : va_P D vwCl (XW cI cZ d σ κ_17 ++ []) H := by rw [List.append_nil]; exact hP
        have hDc : va_D A (XW cI cZ d σ κ_17 ++ []) := by rw [List.append_nil]; exact hD
        refine g_call (va_runV (As := [.int (iI (σ 0 i)), .int (iI (bal σ i))]) (rest := []) S ((kX1_reachWithSort l D cI cZ d σ κ_17 (σ 0 i) (bal σ i) (xWF_0 hwf i) (bal_in i) ib) H.size) (cwV 2 hts gX1_heaviestUpTo_X1_reachWithSort rfl rfl rfl (by decide +kernel) ⟨Nat.le_of_ble_eq_true rfl, Nat.le_of_ble_eq_true rfl⟩) (g_preV xEx_g hK [0, 1] rfl hPc hDc (fun U _ hW => xEx_w hW hE) (q0 := 0) (ci := 1) rfl rfl rfl) rfl rfl hl.1 rfl (lv_room (Nat.le_of_ble_eq_true rfl)) dX1_heaviestUpTo_35 ⟨Nat.le_of_ble_eq_true rfl, Nat.le_of_ble_eq_true rfl⟩) hPc hDc hS hA (fun κ9 H locs hk hP hD hS => ?_)
        obtain ⟨κ_1, rfl⟩ : ∃ z, z = κ9 := ⟨_, rfl⟩
        have hk35 : κ_1 1 = rwFI (σ 0 i) (bal σ i) (κ_17 1) 541 ∧ ∀ j, -1 ≤ κ_1 1 j ∧ κ_1 1 j ≤ 20 := hk
        have hP : va_P D vwCl (XW cI cZ d σ κ_1) H := by have h9 : va_P D vwCl (XW cI cZ d σ κ_1 ++ []) H := hP; rw [List.append_nil] at h9; exact h9
        have hD : va_D A (XW cI cZ d σ κ_1) := by have h9 : va_D A (XW cI cZ d σ κ_1 ++ []) := hD; rw [List.append_nil] at h9; exact h9
        show W p l e ({ frames := 2, cells := 0, slots := 0, locals := 45 } : Room) s m args below meth c H locs 0 0 (MQ below (gQ D (tyXs cI cZ) (fun κ' => XW cI cZ d σ κ') A (fun _ => some (.int (iI (hvyI (hvFI σ 6) (min n0 540))))) (fun κ' => True)) args s 0 0 A) (F0 m 38 ls [])
        refine lv_iinc (v := iI (i + 1)) (lv' := [(2, .int (iI (i + 1))), (0, .ref (d 0)), (1, .int (iI (n0)))]) hx hb dX1_heaviestUpTo_38 hl (k := 0) rfl (iI_add _ _) (by decide) rfl (fun ls hl => ?_)
        refine lv_goto (tgt := 17) hx hb dX1_heaviestUpTo_41 (by decide) ?_
        exact ih17 (i + 1) κ_1 (by omega) (by omega) (by omega) (by rw [hvFI_s _ hlo17, ← ik]; exact hk35.1) (by exact hk35.2) H locs ls hP hD hS (lv_sub hl [0, 1, 2] rfl)
  exact loop17 (((6 - (0) + 1 : Int)).toNat) 0 (su κ_f5 1 0 (0)) (by omega) (by omega) (by omega) (by subst hf5; rfl) (by intro j; subst hf5; show -1 ≤ fu (fun _ => -1) 0 0 j ∧ fu (fun _ => -1) 0 0 j ≤ 20; unfold fu; split; decide; (show (-1 : Int) ≤ -1 ∧ (-1 : Int) ≤ 20; decide)) H locs ls hP hD hS (lv_sub hl [0, 1, 2] rfl)
set_option maxHeartbeats 4000000 in
set_option maxRecDepth 100000 in
theorem kX1_balance (l : Launch) (D : va_G) (cI cZ : ClassId) (d : Nat → Nat) (σ κ : St)   (hwf : xWF σ) : gMet l yX1_balance wsX1_balance ({ frames := 3, cells := 0, slots := 0, locals := 67 } : Room) D (tyXs cI cZ) (XW cI cZ d σ κ) [.ref (d 0)] xEx (fun _ => some (.int (iI (xBal σ)))) (fun κ' => True) (fun κ' => XW cI cZ d σ κ') := by
  refine g_start (cc := cX1_balance) (maxL := 3) (ret := (some .int)) (by decide) rfl (Nat.le_of_ble_eq_true rfl) ?_
  intro p e s m args below meth c A ls H locs S hr hlocks hname hP hK hD hA hS hE hl
  have S0 := S
  obtain ⟨hx, hb, hml, hown, hts⟩ := S0
  have hl : lv_has ls 3 [(0, .ref (d 0))] := hl
  have hinX1 : ∀ w ∈ wsX10, w ∈ wsX1_balance := by decide +kernel
  refine lv_iconst (v := iI (0)) hx hb dX1_balance_0 rfl ?_
  refine lv_istore_n (lv' := [(1, .int (iI (0))), (0, .ref (d 0))]) hx hb dX1_balance_1 rfl hl (by decide) rfl (fun ls hl => ?_)
  refine lv_iconst (v := iI (0)) hx hb dX1_balance_2 rfl ?_
  refine lv_istore_n (lv' := [(2, .int (iI (0))), (1, .int (iI (0))), (0, .ref (d 0))]) hx hb dX1_balance_3 rfl hl (by decide) rfl (fun ls hl => ?_)
  have loop4 : ∀ (n4 : Nat) (i a : Int), (0 ≤ i) → (i ≤ 6) → (6 - i < (n4 : Int)) → (a = isumI (fun s => bal σ s * σ 0 s) i) → (0 ≤ a ∧ a ≤ 180 * i) → ∀ (H : Heap) (locs : List Loc) (ls : Array Slot), va_P D vwCl (XW cI cZ d σ κ) H → va_D A (XW cI cZ d σ κ) → va_S A s.heap H locs → lv_has ls 3 [(2, .int (iI (i))), (1, .int (iI (a))), (0, .ref (d 0))] → W p l e ({ frames := 3, cells := 0, slots := 0, locals := 67 } : Room) s m args below meth c H locs 0 0 (MQ below (gQ D (tyXs cI cZ) (fun κ' => XW cI cZ d σ κ') A (fun _ => some (.int (iI (xBal σ)))) (fun κ' => True)) args s 0 0 A) (F0 m 4 ls []) := by
    intro n4
    induction n4 with
    | zero =>
      intro i a  hlo4 hhi4 hm4
      omega
    | succ n4 ih4 =>
      intro i a  hlo4 hhi4 hm4 ia4 ib H locs ls hP hD hS hl
      have kb := bal_in (σ := σ) i
      have k0 := xWF_0 hwf i
      have km : 0 ≤ bal σ i * σ 0 i ∧ bal σ i * σ 0 i ≤ 180 := ⟨Int.mul_nonneg kb.1 (by omega), by have h1 : bal σ i * σ 0 i ≤ 20 * σ 0 i := Int.mul_le_mul_of_nonneg_right kb.2 (by omega); omega⟩
      refine lv_iload_n hx hb dX1_balance_4 rfl (lv_at hl 0 rfl) ?_
      refine lv_bipush (v := iI (6)) hx hb dX1_balance_5 rfl ?_
      refine gi_icmp_ge (tgt := 31) hx hb dX1_balance_7 (by decide) ⟨by omega, by omega⟩ ⟨by decide, by decide⟩ (fun c7 => ?_) (fun c7 => ?_)
      · skip
        have iT : a = xBalT σ := by rw [ia4, show i = 6 by omega]; rfl
        refine lv_iload_n hx hb dX1_balance_31 rfl (lv_at hl 1 rfl) ?_
        refine lv_iconst (v := iI (2)) hx hb dX1_balance_32 rfl ?_
        refine lv_aload_n hx hb dX1_balance_33 rfl (lv_at hl 2 rfl) ?_
        refine lv_iload_n hx hb dX1_balance_34 rfl (lv_at hl 1 rfl) ?_
        refine lv_iconst (v := iI (2)) hx hb dX1_balance_35 rfl ?_
        refine gi_div hx hb ⟨by omega, by omega⟩ ⟨by omega, by omega⟩ dX1_balance_36 ?_
        have hPc : va_P D vwCl (XW cI cZ d σ κ ++ []) H := by rw [List.append_nil]; exact hP
        have hDc : va_D A (XW cI cZ d σ κ ++ []) := by rw [List.append_nil]; exact hD
        refine g_call (va_runV (As := [.int (iI (a / 2))]) (rest := [.int (iI (2)), .int (iI (a))]) S ((kX1_heaviestUpTo l D cI cZ d σ κ (a / 2) (by first | assumption | omega) (by first | assumption | omega)) H.size) (cwV 1 hts gX1_balance_X1_heaviestUpTo rfl rfl rfl (by decide +kernel) ⟨Nat.le_of_ble_eq_true rfl, Nat.le_of_ble_eq_true rfl⟩) (g_preV xEx_g hK [0, 1] rfl hPc hDc (fun U _ hW => xEx_w hW hE) (q0 := 0) (ci := 1) rfl rfl rfl) rfl rfl hl.1 rfl (lv_room (Nat.le_of_ble_eq_true rfl)) dX1_balance_37 ⟨Nat.le_of_ble_eq_true rfl, Nat.le_of_ble_eq_true rfl⟩) hPc hDc hS hA (fun κ9 H locs hk hP hD hS => ?_)
        obtain ⟨κ_1, rfl⟩ : ∃ z, z = κ9 := ⟨_, rfl⟩
        have hP : va_P D vwCl (XW cI cZ d σ κ_1) H := by have h9 : va_P D vwCl (XW cI cZ d σ κ_1 ++ []) H := hP; rw [List.append_nil] at h9; exact h9
        have hD : va_D A (XW cI cZ d σ κ_1) := by have h9 : va_D A (XW cI cZ d σ κ_1 ++ []) := hD; rw [List.append_nil] at h9; exact h9
        show W p l e ({ frames := 3, cells := 0, slots := 0, locals := 67 } : Room) s m args below meth c H locs 0 0 (MQ below (gQ D (tyXs cI cZ) (fun κ' => XW cI cZ d σ κ') A (fun _ => some (.int (iI (xBal σ)))) (fun κ' => True)) args s 0 0 A) (F0 m 40 ls [.int (iI (hvyI (hvFI σ 6) (min (a / 2) 540))), .int (iI (2)), .int (iI (a))])
        refine gi_mul hx hb dX1_balance_40 ?_
        refine gi_sub hx hb dX1_balance_41 ?_
        have er : ((xBal σ : Int)) = (a - (2 * (hvyI (hvFI σ 6) (min (a / 2) 540)))) := by unfold xBal; rw [← iT]
        exact g_iret (wo := (fun κ' => XW cI cZ d σ κ')) (kr := (fun κ' => True)) (rv := (fun _ => some (.int (iI (xBal σ))))) hx hb hr hlocks κ_1 rfl hP hK hD hS trivial (by rw [er]) (Nat.le_of_ble_eq_true rfl) (Nat.le_of_ble_eq_true rfl) dX1_balance_42
      · skip
        refine lv_iload_n hx hb dX1_balance_10 rfl (lv_at hl 1 rfl) ?_
        refine lv_aload_n hx hb dX1_balance_11 rfl (lv_at hl 2 rfl) ?_
        refine lv_iload_n hx hb dX1_balance_12 rfl (lv_at hl 0 rfl) ?_
        have hPc : va_P D vwCl (XW cI cZ d σ κ ++ []) H := by rw [List.append_nil]; exact hP
        have hDc : va_D A (XW cI cZ d σ κ ++ []) := by rw [List.append_nil]; exact hD
        refine g_call (va_runV (As := [.int (iI (i))]) (rest := [.int (iI (a))]) S ((kX1_balancedApples l D cI cZ d σ κ i (by first | assumption | omega) (by first | assumption | omega) (by first | assumption | omega)) H.size) (cwV 1 hts gX1_balance_X1_balancedApples rfl rfl rfl (by decide +kernel) ⟨Nat.le_of_ble_eq_true rfl, Nat.le_of_ble_eq_true rfl⟩) (g_preV xEx_g hK [0, 1] rfl hPc hDc (fun U _ hW => xEx_w hW hE) (q0 := 0) (ci := 1) rfl rfl rfl) rfl rfl hl.1 rfl (lv_room (Nat.le_of_ble_eq_true rfl)) dX1_balance_13 ⟨Nat.le_of_ble_eq_true rfl, Nat.le_of_ble_eq_true rfl⟩) hPc hDc hS hA (fun κ9 H locs hk hP hD hS => ?_)
        have hk : κ = κ9 := hk.symm
        subst hk
        have hP : va_P D vwCl (XW cI cZ d σ κ) H := by have h9 : va_P D vwCl (XW cI cZ d σ κ ++ []) H := hP; rw [List.append_nil] at h9; exact h9
        have hD : va_D A (XW cI cZ d σ κ) := by have h9 : va_D A (XW cI cZ d σ κ ++ []) := hD; rw [List.append_nil] at h9; exact h9
        show W p l e ({ frames := 3, cells := 0, slots := 0, locals := 67 } : Room) s m args below meth c H locs 0 0 (MQ below (gQ D (tyXs cI cZ) (fun κ' => XW cI cZ d σ κ') A (fun _ => some (.int (iI (xBal σ)))) (fun κ' => True)) args s 0 0 A) (F0 m 16 ls [.int (iI (bal σ i)), .int (iI (a))])
        refine lv_aload_n hx hb dX1_balance_16 rfl (lv_at hl 2 rfl) ?_
        refine va_get (D := D) (ci := 1) (v := .ref (d 1)) (C := RX1) (T := TX1) (N := 13) hx hb hts hinX1 hown hK hP 0 rfl rfl 0 (by decide) (hts (.fieldLink RX1 9 "TwinOrchard" "weights" "[I") (List.mem_of_getElem? (i := 1) rfl)) (fun _ h9 => h9) rfl dX1_balance_17 ?_
        refine lv_iload_n hx hb dX1_balance_20 rfl (lv_at hl 0 rfl) ?_
        refine gi_iald (a := d 1) (n := 6) (f := σ 0) hx hb hK hP 1 0 rfl rfl (by omega) (by omega) (by decide) dX1_balance_21 ?_
        refine gi_mul hx hb dX1_balance_22 ?_
        refine gi_add hx hb dX1_balance_23 ?_
        refine lv_istore_n (lv' := [(1, .int (iI (a + ((bal σ i) * (σ 0 i))))), (2, .int (iI (i))), (0, .ref (d 0))]) hx hb dX1_balance_24 rfl hl (by decide) rfl (fun ls hl => ?_)
        refine lv_iinc (v := iI (i + 1)) (lv' := [(2, .int (iI (i + 1))), (1, .int (iI (a + ((bal σ i) * (σ 0 i))))), (0, .ref (d 0))]) hx hb dX1_balance_25 hl (k := 1) rfl (iI_add _ _) (by decide) rfl (fun ls hl => ?_)
        refine lv_goto (tgt := 4) hx hb dX1_balance_28 (by decide) ?_
        exact ih4 (i + 1) (a + ((bal σ i) * (σ 0 i)))  (by omega) (by omega) (by omega) (by rw [isumI_s _ hlo4, ia4]) (by omega) H locs ls hP hD hS (lv_sub hl [0, 1, 2] rfl)
  exact loop4 (((6 - (0) + 1 : Int)).toNat) 0 0  (by omega) (by omega) (by omega) (by rw [isumI_0]) (by omega) H locs ls hP hD hS (lv_sub hl [0, 1, 2] rfl)
set_option maxHeartbeats 4000000 in
set_option maxRecDepth 100000 in
theorem kX1_pass (l : Launch) (hfl : l.stackTraces = false) (D : va_G) (cI cZ : ClassId) (d : Nat → Nat) (σ κ : St)  (y0 : Int) (hwf : xWF σ) (hl_y0 : -2147483648 ≤ y0) (hh_y0 : y0 ≤ 2147483647) (hbn : ∀ j, σ 2 j ≤ 90000000) (hyr : σ 9 0 ≤ 90000000) : hMet l yX1_pass wsX1_pass ({ frames := 6, cells := 1, slots := 6, locals := 114 } : Room) D (tyXs cI cZ) (XW cI cZ d σ κ) [.ref (d 0), .int (iI y0)] (fun _ => some (.int (iI ((xPs σ y0 40).2)))) (fun κ' => (tPass y0) = 0 ∧ (True)) (fun κ' => XW cI cZ d (xPass σ y0) κ') (fun E => (E = eA ∧ (tPass y0) = 1)) := by
  refine h_start (cc := cX1_pass) (maxL := 4) (ret := (some .int)) (by decide) rfl (Nat.le_of_ble_eq_true rfl) ?_
  intro p e s m args below meth c A ls H locs S hr hlocks hT hP hK hD hA hS hTE hl
  have hE := hTE.1
  have S0 := S
  obtain ⟨hx, hb, hml, hown, hts⟩ := S0
  have hl : lv_has ls 4 [(0, .ref (d 0)), (1, .int (iI (y0)))] := hl
  have hinX0 : ∀ w ∈ wsX00, w ∈ wsX1_pass := by decide +kernel
  have hinX1 : ∀ w ∈ wsX10, w ∈ wsX1_pass := by decide +kernel
  refine lv_iload_n hx hb dX1_pass_0 rfl (lv_at hl 1 rfl) ?_
  refine lv_iconst (v := iI (1)) hx hb dX1_pass_1 rfl ?_
  refine lv_bipush (v := iI (30)) hx hb dX1_pass_2 rfl ?_
  have hPc : va_P D vwCl ([] ++ XW cI cZ d σ κ) H := hP
  have hDc : va_D A ([] ++ XW cI cZ d σ κ) := hD
  refine g_call (va_runS (As := [.int (iI (y0)), .int (iI (1)), .int (iI (30))]) (rest := []) S ((kX1_isWithin l D  y0 1 30 (by first | assumption | omega) (by first | assumption | omega) (by first | assumption | omega) (by first | assumption | omega) (by first | assumption | omega) (by first | assumption | omega)) H.size) (va_cwS 3 hts gX1_pass_X1_isWithin rfl rfl rfl (by decide +kernel) ⟨Nat.le_of_ble_eq_true rfl, Nat.le_of_ble_eq_true rfl⟩) (g_preS gEx_t hK [] rfl hPc hDc (fun _ _ _ => trivial)) rfl rfl hl.1 rfl (lv_room (Nat.le_of_ble_eq_true rfl)) dX1_pass_4 ⟨Nat.le_of_ble_eq_true rfl, Nat.le_of_ble_eq_true rfl⟩) hPc hDc hS hA (fun κ9 H locs hk hP hD hS => ?_)
  have hP : va_P D vwCl (XW cI cZ d σ κ) H := hP
  have hD : va_D A (XW cI cZ d σ κ) := hD
  show W p l e ({ frames := 6, cells := 1, slots := 6, locals := 114 } : Room) s m args below meth c H locs 0 0 (vx_MQ below (gQ D (tyXs cI cZ) (fun κ' => XW cI cZ d (xPass σ y0) κ') A (fun _ => some (.int (iI ((xPs σ y0 40).2)))) (fun κ' => (tPass y0) = 0 ∧ (True))) (gX D (tyXs cI cZ) (XW cI cZ d σ κ) A (fun E => (E = eA ∧ (tPass y0) = 1))) args s 1 6 A) (F0 m 7 ls [.int (iI (bI (1 ≤ y0 ∧ y0 ≤ 30)))])
  refine gb_if_ne (tgt := 20) hx hb dX1_pass_7 (by decide)  (fun c7 => ?_) (fun c7 => ?_)
  · skip
    refine lv_iconst (v := iI (0)) hx hb dX1_pass_20 rfl ?_
    refine lv_istore_n (lv' := [(2, .int (iI (0))), (0, .ref (d 0)), (1, .int (iI (y0)))]) hx hb dX1_pass_21 rfl hl (by decide) rfl (fun ls hl => ?_)
    refine lv_iconst (v := iI (0)) hx hb dX1_pass_22 rfl ?_
    refine lv_istore_n (lv' := [(3, .int (iI (0))), (2, .int (iI (0))), (0, .ref (d 0)), (1, .int (iI (y0)))]) hx hb dX1_pass_23 rfl hl (by decide) rfl (fun ls hl => ?_)
    have loop24 : ∀ (n24 : Nat) (i a : Int) (σ_24 κ_24 : St), (0 ≤ i) → (i ≤ 40) → (40 - i < (n24 : Int)) → (σ_24 = (xPs σ y0 i.toNat).1 ∧ a = (xPs σ y0 i.toNat).2) → (xWF σ_24) → (∀ j, σ_24 2 j ≤ 90000000 + 2430 * i) → ∀ (H : Heap) (locs : List Loc) (ls : Array Slot), va_P D vwCl (XW cI cZ d σ_24 κ_24) H → va_D A (XW cI cZ d σ_24 κ_24) → va_S A s.heap H locs → lv_has ls 4 [(3, .int (iI (i))), (2, .int (iI (a))), (0, .ref (d 0)), (1, .int (iI (y0)))] → W p l e ({ frames := 6, cells := 1, slots := 6, locals := 114 } : Room) s m args below meth c H locs 0 0 (vx_MQ below (gQ D (tyXs cI cZ) (fun κ' => XW cI cZ d (xPass σ y0) κ') A (fun _ => some (.int (iI ((xPs σ y0 40).2)))) (fun κ' => (tPass y0) = 0 ∧ (True))) (gX D (tyXs cI cZ) (XW cI cZ d σ κ) A (fun E => (E = eA ∧ (tPass y0) = 1))) args s 1 6 A) (F0 m 24 ls []) := by
      intro n24
      induction n24 with
      | zero =>
        intro i a σ_24 κ_24 hlo24 hhi24 hm24
        omega
      | succ n24 ih24 =>
        intro i a σ_24 κ_24 hlo24 hhi24 hm24 iq iw ibn H locs ls hP hD hS hl
        have k5 := xWF_5 iw i
        have kS := lvS_in σ_24 (lkh σ_24 i) (σ_24 7 i) (y := y0) (xWF_6 iw i) k5
        have b0 := ibn (σ_24 4 i)
        refine lv_iload_n hx hb dX1_pass_24 rfl (lv_at hl 0 rfl) ?_
        refine lv_bipush (v := iI (40)) hx hb dX1_pass_25 rfl ?_
        refine gi_icmp_ge (tgt := 53) hx hb dX1_pass_27 (by decide) ⟨by omega, by omega⟩ ⟨by decide, by decide⟩ (fun c27 => ?_) (fun c27 => ?_)
        · skip
          refine lv_aload_n hx hb dX1_pass_53 rfl (lv_at hl 2 rfl) ?_
          refine lv_dup hx hb dX1_pass_54 rfl ?_
          refine va_get (D := D) (ci := 1) (v := .int (iI (σ_24 9 0))) (C := RX1) (T := TX1) (N := 13) hx hb hts hinX1 hown hK hP 0 rfl rfl 9 (by decide) (hts (.fieldLink RX1 38 "TwinOrchard" "year" "I") (List.mem_of_getElem? (i := 3) rfl)) (fun _ h9 => h9) rfl dX1_pass_55 ?_
          refine lv_iload_n hx hb dX1_pass_58 rfl (lv_at hl 3 rfl) ?_
          refine gi_add hx hb dX1_pass_59 ?_
          refine va_put (D := D) (ci := 1) (v := .int (iI ((σ_24 9 0) + y0))) (ty := .int) (C := RX1) (T := TX1) (N := 13) hx hb hts hinX1 tyX1 tyX1_ok nmX1 hown hK hP hD hS 0 rfl rfl 9 (by decide) (hts (.fieldLink RX1 38 "TwinOrchard" "year" "I") (List.mem_of_getElem? (i := 3) rfl)) (fun _ h9 => h9) rfl (by decide +kernel) rfl rfl (Nat.le_of_ble_eq_true rfl) dX1_pass_60 (fun H locs hP hD hS => ?_)
          have hP : va_P D vwCl (XW cI cZ d (su σ_24 9 0 ((σ_24 9 0) + y0)) κ_24) H := hP
          have hD : va_D A (XW cI cZ d (su σ_24 9 0 ((σ_24 9 0) + y0)) κ_24) := hD
          refine lv_aload_n hx hb dX1_pass_63 rfl (lv_at hl 2 rfl) ?_
          refine va_get (D := D) (ci := 1) (v := .ref (d 9)) (C := RX1) (T := TX1) (N := 13) hx hb hts hinX1 hown hK hP 0 rfl rfl 8 (by decide) (hts (.fieldLink RX1 35 "TwinOrchard" "strength" "[I") (List.mem_of_getElem? (i := 4) rfl)) (fun _ h9 => h9) rfl dX1_pass_64 ?_
          refine lv_bipush (v := iI (20)) hx hb dX1_pass_67 rfl ?_
          have hPc : va_P D vwCl ([(d 9, aI cI 2 ((su σ_24 9 0 ((σ_24 9 0) + y0)) 8))] ++ []) H := g_one (hP 9 _ rfl)
          have hDc : va_D A ([(d 9, aI cI 2 ((su σ_24 9 0 ((σ_24 9 0) + y0)) 8))] ++ []) := hD.sub [9] (by decide) rfl
          refine g_call1 (e1 := fun _ => aI cI 2 (fun _ => 20)) 9 rfl (va_runS (As := [.ref (d 9), .int (iI (20))]) (rest := []) S ((kJ7_fill_53178 l D cI (d 9) 2 ((su σ_24 9 0 ((σ_24 9 0) + y0)) 8) (20) (by decide)) H.size) (va_cwS 2 hts gX1_pass_J7_fill_53178 rfl rfl rfl (by decide +kernel) ⟨Nat.le_of_ble_eq_true rfl, Nat.le_of_ble_eq_true rfl⟩) (g_preS gEx_t hK [0] rfl hPc hDc (fun _ _ _ => trivial)) rfl rfl hl.1 rfl (lv_room (Nat.le_of_ble_eq_true rfl)) dX1_pass_69 ⟨Nat.le_of_ble_eq_true rfl, Nat.le_of_ble_eq_true rfl⟩) hP hD hS hA (fun κ9 H locs hk hP hD hS => ?_)
          have hP : va_P D vwCl (XW cI cZ d (sr (su σ_24 9 0 ((σ_24 9 0) + y0)) 8 (fun _ => 20)) κ_24) H := hP
          have hD : va_D A (XW cI cZ d (sr (su σ_24 9 0 ((σ_24 9 0) + y0)) 8 (fun _ => 20)) κ_24) := hD
          obtain ⟨σ_f69, hf69⟩ : ∃ z, z = sr (su σ_24 9 0 ((σ_24 9 0) + y0)) 8 (fun _ => 20) := ⟨_, rfl⟩
          rw [← hf69] at hP hD
          show W p l e ({ frames := 6, cells := 1, slots := 6, locals := 114 } : Room) s m args below meth c H locs 0 0 (vx_MQ below (gQ D (tyXs cI cZ) (fun κ' => XW cI cZ d (xPass σ y0) κ') A (fun _ => some (.int (iI ((xPs σ y0 40).2)))) (fun κ' => (tPass y0) = 0 ∧ (True))) (gX D (tyXs cI cZ) (XW cI cZ d σ κ) A (fun E => (E = eA ∧ (tPass y0) = 1))) args s 1 6 A) (F0 m 72 ls [])
          refine lv_iload_n hx hb dX1_pass_72 rfl (lv_at hl 1 rfl) ?_
          have es : (xPass σ y0) = (σ_f69) := by rw [hf69, iq.1, show i.toNat = 40 by omega]; rfl
          have er : (((xPs σ y0 40).2 : Int)) = (a) := by rw [iq.2, show i.toNat = 40 by omega]
          refine vx_ret ?_; exact g_iret (wo := (fun κ' => XW cI cZ d (xPass σ y0) κ')) (kr := (fun κ' => (tPass y0) = 0 ∧ (True))) (rv := (fun _ => some (.int (iI ((xPs σ y0 40).2))))) hx hb hr hlocks κ_24 rfl (by rw [es]; exact hP) hK (by rw [es]; exact hD) hS ⟨by unfold tPass; rw [if_neg (by omega)], trivial⟩ (by rw [er]) (Nat.le_of_ble_eq_true rfl) (Nat.le_of_ble_eq_true rfl) dX1_pass_73
        · skip
          refine lv_aload_n hx hb dX1_pass_30 rfl (lv_at hl 2 rfl) ?_
          refine lv_iload_n hx hb dX1_pass_31 rfl (lv_at hl 0 rfl) ?_
          have hPc : va_P D vwCl (XW cI cZ d σ_24 κ_24 ++ []) H := by rw [List.append_nil]; exact hP
          have hDc : va_D A (XW cI cZ d σ_24 κ_24 ++ []) := by rw [List.append_nil]; exact hD
          refine g_call (va_runV (As := [.int (iI (i))]) (rest := []) S ((kX1_hasTree l D cI cZ d σ_24 κ_24 i (by first | assumption | omega) (by first | assumption | omega) iw) H.size) (cwV 1 hts gX1_pass_X1_hasTree rfl rfl rfl (by decide +kernel) ⟨Nat.le_of_ble_eq_true rfl, Nat.le_of_ble_eq_true rfl⟩) (g_preV xEx_g hK [0, 1] rfl hPc hDc (fun U _ hW => xEx_w hW hE) (q0 := 0) (ci := 1) rfl rfl rfl) rfl rfl hl.1 rfl (lv_room (Nat.le_of_ble_eq_true rfl)) dX1_pass_32 ⟨Nat.le_of_ble_eq_true rfl, Nat.le_of_ble_eq_true rfl⟩) hPc hDc hS hA (fun κ9 H locs hk hP hD hS => ?_)
          have hk : κ_24 = κ9 := hk.symm
          subst hk
          have hP : va_P D vwCl (XW cI cZ d σ_24 κ_24) H := by have h9 : va_P D vwCl (XW cI cZ d σ_24 κ_24 ++ []) H := hP; rw [List.append_nil] at h9; exact h9
          have hD : va_D A (XW cI cZ d σ_24 κ_24) := by have h9 : va_D A (XW cI cZ d σ_24 κ_24 ++ []) := hD; rw [List.append_nil] at h9; exact h9
          show W p l e ({ frames := 6, cells := 1, slots := 6, locals := 114 } : Room) s m args below meth c H locs 0 0 (vx_MQ below (gQ D (tyXs cI cZ) (fun κ' => XW cI cZ d (xPass σ y0) κ') A (fun _ => some (.int (iI ((xPs σ y0 40).2)))) (fun κ' => (tPass y0) = 0 ∧ (True))) (gX D (tyXs cI cZ) (XW cI cZ d σ κ) A (fun E => (E = eA ∧ (tPass y0) = 1))) args s 1 6 A) (F0 m 35 ls [.int (iI (bI (¬ σ_24 4 i = -1)))])
          refine gb_if_eq (tgt := 47) hx hb dX1_pass_35 (by decide)  (fun c35 => ?_) (fun c35 => ?_)
          · skip
            refine lv_iinc (v := iI (i + 1)) (lv' := [(3, .int (iI (i + 1))), (2, .int (iI (a))), (0, .ref (d 0)), (1, .int (iI (y0)))]) hx hb dX1_pass_47 hl (k := 0) rfl (iI_add _ _) (by decide) rfl (fun ls hl => ?_)
            refine lv_goto (tgt := 24) hx hb dX1_pass_50 (by decide) ?_
            exact ih24 (i + 1) a σ_24 κ_24 (by omega) (by omega) (by omega) (by rw [xPs_s σ y0 hlo24, ← iq.1, ← iq.2]; first | (rw [if_pos (by omega)]; exact iq) | (rw [if_neg (by omega)]; exact ⟨rfl, rfl⟩)) (by first | exact iw | exact xWF_passA iw (by omega) (by omega)) (by intro j; have h1 := ibn j; first | omega | (show fu (σ_24 2) (σ_24 4 i) (σ_24 2 (σ_24 4 i) + lvS σ_24 (σ_24 6 i) (lkh σ_24 i) (σ_24 5 i) (σ_24 7 i) y0) j ≤ 90000000 + 2430 * (i + 1); have h2 := kS (by omega); unfold fu; split <;> omega)) H locs ls hP hD hS (lv_sub hl [0, 1, 2, 3] rfl)
          · skip
            refine lv_iload_n hx hb dX1_pass_38 rfl (lv_at hl 1 rfl) ?_
            refine lv_aload_n hx hb dX1_pass_39 rfl (lv_at hl 2 rfl) ?_
            refine lv_iload_n hx hb dX1_pass_40 rfl (lv_at hl 0 rfl) ?_
            refine lv_iload_n hx hb dX1_pass_41 rfl (lv_at hl 3 rfl) ?_
            have hPc : va_P D vwCl (XW cI cZ d σ_24 κ_24 ++ []) H := by rw [List.append_nil]; exact hP
            have hDc : va_D A (XW cI cZ d σ_24 κ_24 ++ []) := by rw [List.append_nil]; exact hD
            refine g_call (va_runV (As := [.int (iI (i)), .int (iI (y0))]) (rest := [.int (iI (a))]) S ((kX1_passAt l D cI cZ d σ_24 κ_24 i y0 (by first | assumption | omega) (by first | assumption | omega) iw (by first | assumption | omega) (by omega)) H.size) (cwV 2 hts gX1_pass_X1_passAt rfl rfl rfl (by decide +kernel) ⟨Nat.le_of_ble_eq_true rfl, Nat.le_of_ble_eq_true rfl⟩) (g_preV xEx_g hK [0, 1] rfl hPc hDc (fun U _ hW => xEx_w hW hE) (q0 := 0) (ci := 1) rfl rfl rfl) rfl rfl hl.1 rfl (lv_room (Nat.le_of_ble_eq_true rfl)) dX1_pass_42 ⟨Nat.le_of_ble_eq_true rfl, Nat.le_of_ble_eq_true rfl⟩) hPc hDc hS hA (fun κ9 H locs hk hP hD hS => ?_)
            obtain ⟨κ_1, rfl⟩ : ∃ z, z = κ9 := ⟨_, rfl⟩
            have hP : va_P D vwCl (XW cI cZ d (xPassA σ_24 i y0) κ_1) H := by have h9 : va_P D vwCl (XW cI cZ d (xPassA σ_24 i y0) κ_1 ++ []) H := hP; rw [List.append_nil] at h9; exact h9
            have hD : va_D A (XW cI cZ d (xPassA σ_24 i y0) κ_1) := by have h9 : va_D A (XW cI cZ d (xPassA σ_24 i y0) κ_1 ++ []) := hD; rw [List.append_nil] at h9; exact h9
            show W p l e ({ frames := 6, cells := 1, slots := 6, locals := 114 } : Room) s m args below meth c H locs 0 0 (vx_MQ below (gQ D (tyXs cI cZ) (fun κ' => XW cI cZ d (xPass σ y0) κ') A (fun _ => some (.int (iI ((xPs σ y0 40).2)))) (fun κ' => (tPass y0) = 0 ∧ (True))) (gX D (tyXs cI cZ) (XW cI cZ d σ κ) A (fun E => (E = eA ∧ (tPass y0) = 1))) args s 1 6 A) (F0 m 45 ls [.int (iI (lvS σ_24 (σ_24 6 i) (lkh σ_24 i) (σ_24 5 i) (σ_24 7 i) y0)), .int (iI (a))])
            refine gi_add hx hb dX1_pass_45 ?_
            refine lv_istore_n (lv' := [(2, .int (iI (a + (lvS σ_24 (σ_24 6 i) (lkh σ_24 i) (σ_24 5 i) (σ_24 7 i) y0)))), (3, .int (iI (i))), (0, .ref (d 0)), (1, .int (iI (y0)))]) hx hb dX1_pass_46 rfl hl (by decide) rfl (fun ls hl => ?_)
            refine lv_iinc (v := iI (i + 1)) (lv' := [(3, .int (iI (i + 1))), (2, .int (iI (a + (lvS σ_24 (σ_24 6 i) (lkh σ_24 i) (σ_24 5 i) (σ_24 7 i) y0)))), (0, .ref (d 0)), (1, .int (iI (y0)))]) hx hb dX1_pass_47 hl (k := 1) rfl (iI_add _ _) (by decide) rfl (fun ls hl => ?_)
            refine lv_goto (tgt := 24) hx hb dX1_pass_50 (by decide) ?_
            exact ih24 (i + 1) (a + (lvS σ_24 (σ_24 6 i) (lkh σ_24 i) (σ_24 5 i) (σ_24 7 i) y0)) (xPassA σ_24 i y0) κ_1 (by omega) (by omega) (by omega) (by rw [xPs_s σ y0 hlo24, ← iq.1, ← iq.2]; first | (rw [if_pos (by omega)]; exact iq) | (rw [if_neg (by omega)]; exact ⟨rfl, rfl⟩)) (by first | exact iw | exact xWF_passA iw (by omega) (by omega)) (by intro j; have h1 := ibn j; first | omega | (show fu (σ_24 2) (σ_24 4 i) (σ_24 2 (σ_24 4 i) + lvS σ_24 (σ_24 6 i) (lkh σ_24 i) (σ_24 5 i) (σ_24 7 i) y0) j ≤ 90000000 + 2430 * (i + 1); have h2 := kS (by omega); unfold fu; split <;> omega)) H locs ls hP hD hS (lv_sub hl [0, 1, 2, 3] rfl)
    exact loop24 (((40 - (0) + 1 : Int)).toNat) 0 0 σ κ (by omega) (by omega) (by omega) (by exact ⟨rfl, rfl⟩) (by exact hwf) (by intro j; have h1 := hbn j; omega) H locs ls hP hD hS (lv_sub hl [0, 1, 2, 3] rfl)
  · skip
    exact h_throw (cls := eA) (ik := 76) (is := 165) (ic := 80) hx hb hfl hown hTE (List.mem_of_getElem? (i := 13) rfl) (by decide +kernel) (hts _ (List.mem_of_getElem? (i := 1) rfl)) (hts _ (List.mem_of_getElem? (i := 2) rfl)) (Or.inr (Or.inl rfl)) h_nA (fun w h => hts w (List.mem_cons_of_mem _ (List.mem_append_right _ (h)))) h_gA hS (hl.1.trans hml.symm) hT hlocks hP hK hD (⟨rfl, by unfold tPass; rw [if_pos (by omega)]⟩) dX1_pass_10 dX1_pass_13 dX1_pass_14 dX1_pass_16 dX1_pass_19 (by decide) (Nat.le_of_ble_eq_true rfl) (by decide) (by decide) (by decide) (by decide)
set_option maxHeartbeats 4000000 in
set_option maxRecDepth 100000 in
theorem kX1_foresee (l : Launch) (hfl : l.stackTraces = false) (D : va_G) (cI cZ : ClassId) (d : Nat → Nat) (σ κ : St)  (y0 : Int) (w0 : Int) (hwf : xWF σ) (hl_y0 : -2147483648 ≤ y0) (hh_y0 : y0 ≤ 2147483647) (hl_w0 : -2147483648 ≤ w0) (hh_w0 : w0 ≤ 2147483647) : hMet l yX1_foresee wsX1_foresee ({ frames := 6, cells := 1, slots := 6, locals := 92 } : Room) D (tyXs cI cZ) (XW cI cZ d σ κ) [.ref (d 0), .int (iI y0), .int (iI w0)] (fun _ => some (.int (iI (xFore σ y0 w0)))) (fun κ' => (tForesee y0 w0) = 0 ∧ (True)) (fun κ' => XW cI cZ d σ κ') (fun E => (E = eA ∧ (tForesee y0 w0) = 1) ∨ (E = eI ∧ (tForesee y0 w0) = 2)) := by
  refine h_start (cc := cX1_foresee) (maxL := 7) (ret := (some .int)) (by decide) rfl (Nat.le_of_ble_eq_true rfl) ?_
  intro p e s m args below meth c A ls H locs S hr hlocks hT hP hK hD hA hS hTE hl
  have hE := hTE.1
  have S0 := S
  obtain ⟨hx, hb, hml, hown, hts⟩ := S0
  have hl : lv_has ls 7 [(0, .ref (d 0)), (1, .int (iI (y0))), (2, .int (iI (w0)))] := hl
  have hinX0 : ∀ w ∈ wsX00, w ∈ wsX1_foresee := by decide +kernel
  have hinX1 : ∀ w ∈ wsX10, w ∈ wsX1_foresee := by decide +kernel
  refine lv_iload_n hx hb dX1_foresee_0 rfl (lv_at hl 1 rfl) ?_
  refine lv_iconst (v := iI (1)) hx hb dX1_foresee_1 rfl ?_
  refine lv_bipush (v := iI (30)) hx hb dX1_foresee_2 rfl ?_
  have hPc : va_P D vwCl ([] ++ XW cI cZ d σ κ) H := hP
  have hDc : va_D A ([] ++ XW cI cZ d σ κ) := hD
  refine g_call (va_runS (As := [.int (iI (y0)), .int (iI (1)), .int (iI (30))]) (rest := []) S ((kX1_isWithin l D  y0 1 30 (by first | assumption | omega) (by first | assumption | omega) (by first | assumption | omega) (by first | assumption | omega) (by first | assumption | omega) (by first | assumption | omega)) H.size) (va_cwS 3 hts gX1_foresee_X1_isWithin rfl rfl rfl (by decide +kernel) ⟨Nat.le_of_ble_eq_true rfl, Nat.le_of_ble_eq_true rfl⟩) (g_preS gEx_t hK [] rfl hPc hDc (fun _ _ _ => trivial)) rfl rfl hl.1 rfl (lv_room (Nat.le_of_ble_eq_true rfl)) dX1_foresee_4 ⟨Nat.le_of_ble_eq_true rfl, Nat.le_of_ble_eq_true rfl⟩) hPc hDc hS hA (fun κ9 H locs hk hP hD hS => ?_)
  have hP : va_P D vwCl (XW cI cZ d σ κ) H := hP
  have hD : va_D A (XW cI cZ d σ κ) := hD
  show W p l e ({ frames := 6, cells := 1, slots := 6, locals := 92 } : Room) s m args below meth c H locs 0 0 (vx_MQ below (gQ D (tyXs cI cZ) (fun κ' => XW cI cZ d σ κ') A (fun _ => some (.int (iI (xFore σ y0 w0)))) (fun κ' => (tForesee y0 w0) = 0 ∧ (True))) (gX D (tyXs cI cZ) (XW cI cZ d σ κ) A (fun E => (E = eA ∧ (tForesee y0 w0) = 1) ∨ (E = eI ∧ (tForesee y0 w0) = 2))) args s 1 6 A) (F0 m 7 ls [.int (iI (bI (1 ≤ y0 ∧ y0 ≤ 30)))])
  refine gb_if_ne (tgt := 20) hx hb dX1_foresee_7 (by decide)  (fun c7 => ?_) (fun c7 => ?_)
  · skip
    refine lv_iload_n hx hb dX1_foresee_20 rfl (lv_at hl 2 rfl) ?_
    refine lv_iconst (v := iI (0)) hx hb dX1_foresee_21 rfl ?_
    refine lv_iconst (v := iI (2)) hx hb dX1_foresee_22 rfl ?_
    have hPc : va_P D vwCl ([] ++ XW cI cZ d σ κ) H := hP
    have hDc : va_D A ([] ++ XW cI cZ d σ κ) := hD
    refine g_call (va_runS (As := [.int (iI (w0)), .int (iI (0)), .int (iI (2))]) (rest := []) S ((kX1_isWithin l D  w0 0 2 (by first | assumption | omega) (by first | assumption | omega) (by first | assumption | omega) (by first | assumption | omega) (by first | assumption | omega) (by first | assumption | omega)) H.size) (va_cwS 3 hts gX1_foresee_X1_isWithin rfl rfl rfl (by decide +kernel) ⟨Nat.le_of_ble_eq_true rfl, Nat.le_of_ble_eq_true rfl⟩) (g_preS gEx_t hK [] rfl hPc hDc (fun _ _ _ => trivial)) rfl rfl hl.1 rfl (lv_room (Nat.le_of_ble_eq_true rfl)) dX1_foresee_23 ⟨Nat.le_of_ble_eq_true rfl, Nat.le_of_ble_eq_true rfl⟩) hPc hDc hS hA (fun κ9 H locs hk hP hD hS => ?_)
    have hP : va_P D vwCl (XW cI cZ d σ κ) H := hP
    have hD : va_D A (XW cI cZ d σ κ) := hD
    show W p l e ({ frames := 6, cells := 1, slots := 6, locals := 92 } : Room) s m args below meth c H locs 0 0 (vx_MQ below (gQ D (tyXs cI cZ) (fun κ' => XW cI cZ d σ κ') A (fun _ => some (.int (iI (xFore σ y0 w0)))) (fun κ' => (tForesee y0 w0) = 0 ∧ (True))) (gX D (tyXs cI cZ) (XW cI cZ d σ κ) A (fun E => (E = eA ∧ (tForesee y0 w0) = 1) ∨ (E = eI ∧ (tForesee y0 w0) = 2))) args s 1 6 A) (F0 m 26 ls [.int (iI (bI (0 ≤ w0 ∧ w0 ≤ 2)))])
    refine gb_if_ne (tgt := 39) hx hb dX1_foresee_26 (by decide)  (fun c26 => ?_) (fun c26 => ?_)
    · skip
      refine lv_iconst (v := iI (0)) hx hb dX1_foresee_39 rfl ?_
      refine lv_istore_n (lv' := [(3, .int (iI (0))), (0, .ref (d 0)), (1, .int (iI (y0))), (2, .int (iI (w0)))]) hx hb dX1_foresee_40 rfl hl (by decide) rfl (fun ls hl => ?_)
      refine lv_iconst (v := iI (0)) hx hb dX1_foresee_41 rfl ?_
      refine lv_istore (lv' := [(4, .int (iI (0))), (3, .int (iI (0))), (0, .ref (d 0)), (1, .int (iI (y0))), (2, .int (iI (w0)))]) hx hb dX1_foresee_42 hl (by decide) rfl (fun ls hl => ?_)
      refine lv_iconst (v := iI (0)) hx hb dX1_foresee_44 rfl ?_
      refine lv_istore (lv' := [(5, .int (iI (0))), (4, .int (iI (0))), (3, .int (iI (0))), (0, .ref (d 0)), (1, .int (iI (y0))), (2, .int (iI (w0)))]) hx hb dX1_foresee_45 hl (by decide) rfl (fun ls hl => ?_)
      refine lv_iconst (v := iI (0)) hx hb dX1_foresee_47 rfl ?_
      refine lv_istore (lv' := [(6, .int (iI (0))), (5, .int (iI (0))), (4, .int (iI (0))), (3, .int (iI (0))), (0, .ref (d 0)), (1, .int (iI (y0))), (2, .int (iI (w0)))]) hx hb dX1_foresee_48 hl (by decide) rfl (fun ls hl => ?_)
      have loop50 : ∀ (n50 : Nat) (i a b t : Int) (κ_50 : St), (0 ≤ i) → (i ≤ 40) → (40 - i < (n50 : Int)) → (a = isumI (fsA σ y0) i) → (b = isumI (fsB σ y0) i) → (t = isumI (fsT σ y0) i) → ∀ (H : Heap) (locs : List Loc) (ls : Array Slot), va_P D vwCl (XW cI cZ d σ κ_50) H → va_D A (XW cI cZ d σ κ_50) → va_S A s.heap H locs → lv_has ls 7 [(6, .int (iI (i))), (3, .int (iI (a))), (4, .int (iI (b))), (5, .int (iI (t))), (0, .ref (d 0)), (1, .int (iI (y0))), (2, .int (iI (w0)))] → W p l e ({ frames := 6, cells := 1, slots := 6, locals := 92 } : Room) s m args below meth c H locs 0 0 (vx_MQ below (gQ D (tyXs cI cZ) (fun κ' => XW cI cZ d σ κ') A (fun _ => some (.int (iI (xFore σ y0 w0)))) (fun κ' => (tForesee y0 w0) = 0 ∧ (True))) (gX D (tyXs cI cZ) (XW cI cZ d σ κ) A (fun E => (E = eA ∧ (tForesee y0 w0) = 1) ∨ (E = eI ∧ (tForesee y0 w0) = 2))) args s 1 6 A) (F0 m 50 ls []) := by
        intro n50
        induction n50 with
        | zero =>
          intro i a b t κ_50 hlo50 hhi50 hm50
          omega
        | succ n50 ih50 =>
          intro i a b t κ_50 hlo50 hhi50 hm50 ia ib it H locs ls hP hD hS hl
          have kT := lvT_in σ (σ 6 i) (lkh σ i) (σ 5 i) y0 (xWF_7 hwf i)
          refine lv_iload hx hb dX1_foresee_50 (lv_at hl 0 rfl) ?_
          refine lv_bipush (v := iI (40)) hx hb dX1_foresee_52 rfl ?_
          refine gi_icmp_ge (tgt := 118) hx hb dX1_foresee_54 (by decide) ⟨by omega, by omega⟩ ⟨by decide, by decide⟩ (fun c54 => ?_) (fun c54 => ?_)
          · skip
            refine lv_iload_n hx hb dX1_foresee_118 rfl (lv_at hl 6 rfl) ?_
            refine gi_if_ne (tgt := 126) hx hb dX1_foresee_119 (by decide) ⟨by omega, by omega⟩ (fun c119 => ?_) (fun c119 => ?_)
            · skip
              refine lv_iload_n hx hb dX1_foresee_126 rfl (lv_at hl 6 rfl) ?_
              refine lv_iconst (v := iI (1)) hx hb dX1_foresee_127 rfl ?_
              refine gi_icmp_ne (tgt := 136) hx hb dX1_foresee_128 (by decide) ⟨by omega, by omega⟩ ⟨by decide, by decide⟩ (fun c128 => ?_) (fun c128 => ?_)
              · skip
                refine lv_iload hx hb dX1_foresee_136 (lv_at hl 3 rfl) ?_
                have er : ((xFore σ y0 w0 : Int)) = (t) := by unfold xFore; first | (rw [if_pos (by omega), ia, show i = 40 by omega]; done) | (rw [if_neg (by omega), if_pos (by omega), ib, show i = 40 by omega]; done) | (rw [if_neg (by omega), if_neg (by omega), it, show i = 40 by omega]; done)
                refine vx_ret ?_; exact g_iret (wo := (fun κ' => XW cI cZ d σ κ')) (kr := (fun κ' => (tForesee y0 w0) = 0 ∧ (True))) (rv := (fun _ => some (.int (iI (xFore σ y0 w0))))) hx hb hr hlocks κ_50 rfl hP hK hD hS ⟨by unfold tForesee; rw [if_neg (by omega), if_neg (by omega)], trivial⟩ (by rw [er]) (Nat.le_of_ble_eq_true rfl) (Nat.le_of_ble_eq_true rfl) dX1_foresee_138
              · skip
                refine lv_iload hx hb dX1_foresee_131 (lv_at hl 2 rfl) ?_
                refine lv_goto (tgt := 138) hx hb dX1_foresee_133 (by decide) ?_
                have er : ((xFore σ y0 w0 : Int)) = (b) := by unfold xFore; first | (rw [if_pos (by omega), ia, show i = 40 by omega]; done) | (rw [if_neg (by omega), if_pos (by omega), ib, show i = 40 by omega]; done) | (rw [if_neg (by omega), if_neg (by omega), it, show i = 40 by omega]; done)
                refine vx_ret ?_; exact g_iret (wo := (fun κ' => XW cI cZ d σ κ')) (kr := (fun κ' => (tForesee y0 w0) = 0 ∧ (True))) (rv := (fun _ => some (.int (iI (xFore σ y0 w0))))) hx hb hr hlocks κ_50 rfl hP hK hD hS ⟨by unfold tForesee; rw [if_neg (by omega), if_neg (by omega)], trivial⟩ (by rw [er]) (Nat.le_of_ble_eq_true rfl) (Nat.le_of_ble_eq_true rfl) dX1_foresee_138
            · skip
              refine lv_iload_n hx hb dX1_foresee_122 rfl (lv_at hl 1 rfl) ?_
              refine lv_goto (tgt := 138) hx hb dX1_foresee_123 (by decide) ?_
              have er : ((xFore σ y0 w0 : Int)) = (a) := by unfold xFore; first | (rw [if_pos (by omega), ia, show i = 40 by omega]; done) | (rw [if_neg (by omega), if_pos (by omega), ib, show i = 40 by omega]; done) | (rw [if_neg (by omega), if_neg (by omega), it, show i = 40 by omega]; done)
              refine vx_ret ?_; exact g_iret (wo := (fun κ' => XW cI cZ d σ κ')) (kr := (fun κ' => (tForesee y0 w0) = 0 ∧ (True))) (rv := (fun _ => some (.int (iI (xFore σ y0 w0))))) hx hb hr hlocks κ_50 rfl hP hK hD hS ⟨by unfold tForesee; rw [if_neg (by omega), if_neg (by omega)], trivial⟩ (by rw [er]) (Nat.le_of_ble_eq_true rfl) (Nat.le_of_ble_eq_true rfl) dX1_foresee_138
          · skip
            refine lv_aload_n hx hb dX1_foresee_57 rfl (lv_at hl 4 rfl) ?_
            refine lv_iload hx hb dX1_foresee_58 (lv_at hl 0 rfl) ?_
            have hPc : va_P D vwCl (XW cI cZ d σ κ_50 ++ []) H := by rw [List.append_nil]; exact hP
            have hDc : va_D A (XW cI cZ d σ κ_50 ++ []) := by rw [List.append_nil]; exact hD
            refine g_call (va_runV (As := [.int (iI (i))]) (rest := []) S ((kX1_hasTree l D cI cZ d σ κ_50 i (by first | assumption | omega) (by first | assumption | omega) (by first | assumption | omega)) H.size) (cwV 1 hts gX1_foresee_X1_hasTree rfl rfl rfl (by decide +kernel) ⟨Nat.le_of_ble_eq_true rfl, Nat.le_of_ble_eq_true rfl⟩) (g_preV xEx_g hK [0, 1] rfl hPc hDc (fun U _ hW => xEx_w hW hE) (q0 := 0) (ci := 1) rfl rfl rfl) rfl rfl hl.1 rfl (lv_room (Nat.le_of_ble_eq_true rfl)) dX1_foresee_60 ⟨Nat.le_of_ble_eq_true rfl, Nat.le_of_ble_eq_true rfl⟩) hPc hDc hS hA (fun κ9 H locs hk hP hD hS => ?_)
            have hk : κ_50 = κ9 := hk.symm
            subst hk
            have hP : va_P D vwCl (XW cI cZ d σ κ_50) H := by have h9 : va_P D vwCl (XW cI cZ d σ κ_50 ++ []) H := hP; rw [List.append_nil] at h9; exact h9
            have hD : va_D A (XW cI cZ d σ κ_50) := by have h9 : va_D A (XW cI cZ d σ κ_50 ++ []) := hD; rw [List.append_nil] at h9; exact h9
            show W p l e ({ frames := 6, cells := 1, slots := 6, locals := 92 } : Room) s m args below meth c H locs 0 0 (vx_MQ below (gQ D (tyXs cI cZ) (fun κ' => XW cI cZ d σ κ') A (fun _ => some (.int (iI (xFore σ y0 w0)))) (fun κ' => (tForesee y0 w0) = 0 ∧ (True))) (gX D (tyXs cI cZ) (XW cI cZ d σ κ) A (fun E => (E = eA ∧ (tForesee y0 w0) = 1) ∨ (E = eI ∧ (tForesee y0 w0) = 2))) args s 1 6 A) (F0 m 63 ls [.int (iI (bI (¬ σ 4 i = -1)))])
            refine gb_if_eq (tgt := 112) hx hb dX1_foresee_63 (by decide)  (fun c63 => ?_) (fun c63 => ?_)
            · skip
              refine lv_iinc (v := iI (i + 1)) (lv' := [(6, .int (iI (i + 1))), (3, .int (iI (a))), (4, .int (iI (b))), (5, .int (iI (t))), (0, .ref (d 0)), (1, .int (iI (y0))), (2, .int (iI (w0)))]) hx hb dX1_foresee_112 hl (k := 0) rfl (iI_add _ _) (by decide) rfl (fun ls hl => ?_)
              refine lv_goto (tgt := 50) hx hb dX1_foresee_115 (by decide) ?_
              exact ih50 (i + 1) a b t κ_50 (by omega) (by omega) (by omega) (by rw [isumI_s _ hlo50, ia]; unfold fsA; first | (rw [if_pos (by omega)]; omega) | (rw [if_neg (by omega)]; done)) (by rw [isumI_s _ hlo50, ib]; unfold fsB; first | (rw [if_pos (by omega)]; omega) | (rw [if_neg (by omega), hk75.2.2.1]; done)) (by rw [isumI_s _ hlo50, it]; unfold fsT; first | (rw [if_pos (by omega)]; omega) | (rw [if_neg (by omega), bI_t (by rw [← hk75.2.2.2]; omega)]; done) | (rw [if_neg (by omega), bI_f (by rw [← hk75.2.2.2]; omega)]; done)) H locs ls hP hD hS (lv_sub hl [0, 1, 2, 3, 4, 5, 6] rfl)
            · skip
              refine lv_aload_n hx hb dX1_foresee_66 rfl (lv_at hl 4 rfl) ?_
              refine lv_iload hx hb dX1_foresee_67 (lv_at hl 0 rfl) ?_
              have hPc : va_P D vwCl (XW cI cZ d σ κ_50 ++ []) H := by rw [List.append_nil]; exact hP
              have hDc : va_D A (XW cI cZ d σ κ_50 ++ []) := by rw [List.append_nil]; exact hD
              refine g_call (va_runV (As := [.int (iI (i))]) (rest := []) S ((kX1_lookAt l D cI cZ d σ κ_50 i (by first | assumption | omega) (by first | assumption | omega) (by first | assumption | omega)) H.size) (cwV 1 hts gX1_foresee_X1_lookAt rfl rfl rfl (by decide +kernel) ⟨Nat.le_of_ble_eq_true rfl, Nat.le_of_ble_eq_true rfl⟩) (g_preV xEx_g hK [0, 1] rfl hPc hDc (fun U _ hW => xEx_w hW hE) (q0 := 0) (ci := 1) rfl rfl rfl) rfl rfl hl.1 rfl (lv_room (Nat.le_of_ble_eq_true rfl)) dX1_foresee_69 ⟨Nat.le_of_ble_eq_true rfl, Nat.le_of_ble_eq_true rfl⟩) hPc hDc hS hA (fun κ9 H locs hk hP hD hS => ?_)
              have hk : su (su (su (su κ_50 0 0 (σ 6 i)) 0 2 (σ 5 i)) 0 3 (σ 7 i)) 0 1 (lkh σ i) = κ9 := hk.symm
              subst hk
              have hP : va_P D vwCl (XW cI cZ d σ (su (su (su (su κ_50 0 0 (σ 6 i)) 0 2 (σ 5 i)) 0 3 (σ 7 i)) 0 1 (lkh σ i))) H := by have h9 : va_P D vwCl (XW cI cZ d σ (su (su (su (su κ_50 0 0 (σ 6 i)) 0 2 (σ 5 i)) 0 3 (σ 7 i)) 0 1 (lkh σ i)) ++ []) H := hP; rw [List.append_nil] at h9; exact h9
              have hD : va_D A (XW cI cZ d σ (su (su (su (su κ_50 0 0 (σ 6 i)) 0 2 (σ 5 i)) 0 3 (σ 7 i)) 0 1 (lkh σ i))) := by have h9 : va_D A (XW cI cZ d σ (su (su (su (su κ_50 0 0 (σ 6 i)) 0 2 (σ 5 i)) 0 3 (σ 7 i)) 0 1 (lkh σ i)) ++ []) := hD; rw [List.append_nil] at h9; exact h9
              show W p l e ({ frames := 6, cells := 1, slots := 6, locals := 92 } : Room) s m args below meth c H locs 0 0 (vx_MQ below (gQ D (tyXs cI cZ) (fun κ' => XW cI cZ d σ κ') A (fun _ => some (.int (iI (xFore σ y0 w0)))) (fun κ' => (tForesee y0 w0) = 0 ∧ (True))) (gX D (tyXs cI cZ) (XW cI cZ d σ κ) A (fun E => (E = eA ∧ (tForesee y0 w0) = 1) ∨ (E = eI ∧ (tForesee y0 w0) = 2))) args s 1 6 A) (F0 m 72 ls [])
              refine lv_iload_n hx hb dX1_foresee_72 rfl (lv_at hl 1 rfl) ?_
              refine lv_aload_n hx hb dX1_foresee_73 rfl (lv_at hl 4 rfl) ?_
              refine lv_iload_n hx hb dX1_foresee_74 rfl (lv_at hl 5 rfl) ?_
              have hPc : va_P D vwCl (XW cI cZ d σ (su (su (su (su κ_50 0 0 (σ 6 i)) 0 2 (σ 5 i)) 0 3 (σ 7 i)) 0 1 (lkh σ i)) ++ []) H := by rw [List.append_nil]; exact hP
              have hDc : va_D A (XW cI cZ d σ (su (su (su (su κ_50 0 0 (σ 6 i)) 0 2 (σ 5 i)) 0 3 (σ 7 i)) 0 1 (lkh σ i)) ++ []) := by rw [List.append_nil]; exact hD
              refine g_call (va_runV (As := [.int (iI (y0))]) (rest := [.int (iI (a))]) S ((kX1_liveLooked l D cI cZ d σ (su (su (su (su κ_50 0 0 (σ 6 i)) 0 2 (σ 5 i)) 0 3 (σ 7 i)) 0 1 (lkh σ i)) y0 (by first | assumption | omega) (kWF_lk hwf i) (by first | assumption | omega)) H.size) (cwV 1 hts gX1_foresee_X1_liveLooked rfl rfl rfl (by decide +kernel) ⟨Nat.le_of_ble_eq_true rfl, Nat.le_of_ble_eq_true rfl⟩) (g_preV xEx_g hK [0, 1] rfl hPc hDc (fun U _ hW => xEx_w hW hE) (q0 := 0) (ci := 1) rfl rfl rfl) rfl rfl hl.1 rfl (lv_room (Nat.le_of_ble_eq_true rfl)) dX1_foresee_75 ⟨Nat.le_of_ble_eq_true rfl, Nat.le_of_ble_eq_true rfl⟩) hPc hDc hS hA (fun κ9 H locs hk hP hD hS => ?_)
              obtain ⟨κ_1, rfl⟩ : ∃ z, z = κ9 := ⟨_, rfl⟩
              have hk75 : κ_1 0 0 = (σ 6 i) ∧ κ_1 0 1 = (lkh σ i) ∧ κ_1 0 2 = lvB σ (σ 6 i) (lkh σ i) (σ 5 i) (σ 7 i) y0 ∧ κ_1 0 3 = lvT σ (σ 6 i) (lkh σ i) (σ 5 i) (σ 7 i) y0 := hk
              have hP : va_P D vwCl (XW cI cZ d σ κ_1) H := by have h9 : va_P D vwCl (XW cI cZ d σ κ_1 ++ []) H := hP; rw [List.append_nil] at h9; exact h9
              have hD : va_D A (XW cI cZ d σ κ_1) := by have h9 : va_D A (XW cI cZ d σ κ_1 ++ []) := hD; rw [List.append_nil] at h9; exact h9
              show W p l e ({ frames := 6, cells := 1, slots := 6, locals := 92 } : Room) s m args below meth c H locs 0 0 (vx_MQ below (gQ D (tyXs cI cZ) (fun κ' => XW cI cZ d σ κ') A (fun _ => some (.int (iI (xFore σ y0 w0)))) (fun κ' => (tForesee y0 w0) = 0 ∧ (True))) (gX D (tyXs cI cZ) (XW cI cZ d σ κ) A (fun E => (E = eA ∧ (tForesee y0 w0) = 1) ∨ (E = eI ∧ (tForesee y0 w0) = 2))) args s 1 6 A) (F0 m 78 ls [.int (iI (lvS σ (σ 6 i) (lkh σ i) (σ 5 i) (σ 7 i) y0)), .int (iI (a))])
              refine gi_add hx hb dX1_foresee_78 ?_
              refine lv_istore_n (lv' := [(3, .int (iI (a + (lvS σ (σ 6 i) (lkh σ i) (σ 5 i) (σ 7 i) y0)))), (6, .int (iI (i))), (4, .int (iI (b))), (5, .int (iI (t))), (0, .ref (d 0)), (1, .int (iI (y0))), (2, .int (iI (w0)))]) hx hb dX1_foresee_79 rfl hl (by decide) rfl (fun ls hl => ?_)
              refine lv_iload hx hb dX1_foresee_80 (lv_at hl 2 rfl) ?_
              refine lv_aload_n hx hb dX1_foresee_82 rfl (lv_at hl 4 rfl) ?_
              refine va_get (D := D) (ci := 1) (v := .ref (d 10)) (C := RX1) (T := TX1) (N := 13) hx hb hts hinX1 hown hK hP 0 rfl rfl 11 (by decide) (hts (.fieldLink RX1 48 "TwinOrchard" "looked" "LTwinOrchard$Tree;") (List.mem_of_getElem? (i := 5) rfl)) (fun _ h9 => h9) rfl dX1_foresee_83 ?_
              refine va_getN (host := "TwinOrchard") (D := D) (ci := 0) (v := .int (iI (κ_1 0 2))) (C := RX0) (T := TX0) (N := 4) hx hb hts hinX0 hown hK hP 10 rfl rfl 2 (by decide) (xEx_u hE 4 rfl rfl) (fun _ h9 => h9) rfl dX1_foresee_86 ?_
              refine gi_add hx hb dX1_foresee_89 ?_
              refine lv_istore (lv' := [(4, .int (iI (b + (κ_1 0 2)))), (3, .int (iI (a + (lvS σ (σ 6 i) (lkh σ i) (σ 5 i) (σ 7 i) y0)))), (6, .int (iI (i))), (5, .int (iI (t))), (0, .ref (d 0)), (1, .int (iI (y0))), (2, .int (iI (w0)))]) hx hb dX1_foresee_90 hl (by decide) rfl (fun ls hl => ?_)
              refine lv_iload hx hb dX1_foresee_92 (lv_at hl 3 rfl) ?_
              refine lv_aload_n hx hb dX1_foresee_94 rfl (lv_at hl 4 rfl) ?_
              refine va_get (D := D) (ci := 1) (v := .ref (d 10)) (C := RX1) (T := TX1) (N := 13) hx hb hts hinX1 hown hK hP 0 rfl rfl 11 (by decide) (hts (.fieldLink RX1 48 "TwinOrchard" "looked" "LTwinOrchard$Tree;") (List.mem_of_getElem? (i := 5) rfl)) (fun _ h9 => h9) rfl dX1_foresee_95 ?_
              refine va_getN (host := "TwinOrchard") (D := D) (ci := 0) (v := .int (iI (κ_1 0 3))) (C := RX0) (T := TX0) (N := 4) hx hb hts hinX0 hown hK hP 10 rfl rfl 3 (by decide) (xEx_u hE 5 rfl rfl) (fun _ h9 => h9) rfl dX1_foresee_98 ?_
              have kT2 := hk75.2.2.2
              refine gi_if_eq (tgt := 108) hx hb dX1_foresee_101 (by decide) ⟨by omega, by omega⟩ (fun c101 => ?_) (fun c101 => ?_)
              · skip
                refine lv_iconst (v := iI (0)) hx hb dX1_foresee_108 rfl ?_
                refine gi_add hx hb dX1_foresee_109 ?_
                refine lv_istore (lv' := [(5, .int (iI (t + 0))), (4, .int (iI (b + (κ_1 0 2)))), (3, .int (iI (a + (lvS σ (σ 6 i) (lkh σ i) (σ 5 i) (σ 7 i) y0)))), (6, .int (iI (i))), (0, .ref (d 0)), (1, .int (iI (y0))), (2, .int (iI (w0)))]) hx hb dX1_foresee_110 hl (by decide) rfl (fun ls hl => ?_)
                refine lv_iinc (v := iI (i + 1)) (lv' := [(6, .int (iI (i + 1))), (5, .int (iI (t + 0))), (4, .int (iI (b + (κ_1 0 2)))), (3, .int (iI (a + (lvS σ (σ 6 i) (lkh σ i) (σ 5 i) (σ 7 i) y0)))), (0, .ref (d 0)), (1, .int (iI (y0))), (2, .int (iI (w0)))]) hx hb dX1_foresee_112 hl (k := 3) rfl (iI_add _ _) (by decide) rfl (fun ls hl => ?_)
                refine lv_goto (tgt := 50) hx hb dX1_foresee_115 (by decide) ?_
                exact ih50 (i + 1) (a + (lvS σ (σ 6 i) (lkh σ i) (σ 5 i) (σ 7 i) y0)) (b + (κ_1 0 2)) (t + 0) κ_1 (by omega) (by omega) (by omega) (by rw [isumI_s _ hlo50, ia]; unfold fsA; first | (rw [if_pos (by omega)]; omega) | (rw [if_neg (by omega)]; done)) (by rw [isumI_s _ hlo50, ib]; unfold fsB; first | (rw [if_pos (by omega)]; omega) | (rw [if_neg (by omega), hk75.2.2.1]; done)) (by rw [isumI_s _ hlo50, it]; unfold fsT; first | (rw [if_pos (by omega)]; omega) | (rw [if_neg (by omega), bI_t (by rw [← hk75.2.2.2]; omega)]; done) | (rw [if_neg (by omega), bI_f (by rw [← hk75.2.2.2]; omega)]; done)) H locs ls hP hD hS (lv_sub hl [0, 3, 2, 1, 4, 5, 6] rfl)
              · skip
                refine lv_iconst (v := iI (1)) hx hb dX1_foresee_104 rfl ?_
                refine lv_goto (tgt := 109) hx hb dX1_foresee_105 (by decide) ?_
                refine gi_add hx hb dX1_foresee_109 ?_
                refine lv_istore (lv' := [(5, .int (iI (t + 1))), (4, .int (iI (b + (κ_1 0 2)))), (3, .int (iI (a + (lvS σ (σ 6 i) (lkh σ i) (σ 5 i) (σ 7 i) y0)))), (6, .int (iI (i))), (0, .ref (d 0)), (1, .int (iI (y0))), (2, .int (iI (w0)))]) hx hb dX1_foresee_110 hl (by decide) rfl (fun ls hl => ?_)
                refine lv_iinc (v := iI (i + 1)) (lv' := [(6, .int (iI (i + 1))), (5, .int (iI (t + 1))), (4, .int (iI (b + (κ_1 0 2)))), (3, .int (iI (a + (lvS σ (σ 6 i) (lkh σ i) (σ 5 i) (σ 7 i) y0)))), (0, .ref (d 0)), (1, .int (iI (y0))), (2, .int (iI (w0)))]) hx hb dX1_foresee_112 hl (k := 3) rfl (iI_add _ _) (by decide) rfl (fun ls hl => ?_)
                refine lv_goto (tgt := 50) hx hb dX1_foresee_115 (by decide) ?_
                exact ih50 (i + 1) (a + (lvS σ (σ 6 i) (lkh σ i) (σ 5 i) (σ 7 i) y0)) (b + (κ_1 0 2)) (t + 1) κ_1 (by omega) (by omega) (by omega) (by rw [isumI_s _ hlo50, ia]; unfold fsA; first | (rw [if_pos (by omega)]; omega) | (rw [if_neg (by omega)]; done)) (by rw [isumI_s _ hlo50, ib]; unfold fsB; first | (rw [if_pos (by omega)]; omega) | (rw [if_neg (by omega), hk75.2.2.1]; done)) (by rw [isumI_s _ hlo50, it]; unfold fsT; first | (rw [if_pos (by omega)]; omega) | (rw [if_neg (by omega), bI_t (by rw [← hk75.2.2.2]; omega)]; done) | (rw [if_neg (by omega), bI_f (by rw [← hk75.2.2.2]; omega)]; done)) H locs ls hP hD hS (lv_sub hl [0, 3, 2, 1, 4, 5, 6] rfl)
      exact loop50 (((40 - (0) + 1 : Int)).toNat) 0 0 0 0 κ (by omega) (by omega) (by omega) (by rfl) (by rfl) (by rfl) H locs ls hP hD hS (lv_sub hl [0, 3, 2, 1, 4, 5, 6] rfl)
    · skip
      exact h_throw (cls := eI) (ik := 65) (is := 132) (ic := 69) hx hb hfl hown hTE (List.mem_of_getElem? (i := 9) rfl) (by decide +kernel) (hts _ (List.mem_of_getElem? (i := 3) rfl)) (hts _ (List.mem_of_getElem? (i := 4) rfl)) (Or.inl rfl) h_nI (fun w h => hts w (List.mem_cons_of_mem _ (List.mem_append_right _ (h)))) h_gI hS (hl.1.trans hml.symm) hT hlocks hP hK hD (Or.inr (⟨rfl, by unfold tForesee; rw [if_neg (by omega), if_pos (by omega)]⟩)) dX1_foresee_29 dX1_foresee_32 dX1_foresee_33 dX1_foresee_35 dX1_foresee_38 (by decide) (Nat.le_of_ble_eq_true rfl) (by decide) (by decide) (by decide) (by decide)
  · skip
    exact h_throw (cls := eA) (ik := 76) (is := 165) (ic := 80) hx hb hfl hown hTE (List.mem_of_getElem? (i := 13) rfl) (by decide +kernel) (hts _ (List.mem_of_getElem? (i := 1) rfl)) (hts _ (List.mem_of_getElem? (i := 2) rfl)) (Or.inr (Or.inl rfl)) h_nA (fun w h => hts w (List.mem_cons_of_mem _ (List.mem_append_left _ (List.mem_append_right _ (h))))) h_gA hS (hl.1.trans hml.symm) hT hlocks hP hK hD (Or.inl ⟨rfl, by unfold tForesee; rw [if_pos (by omega)]⟩) dX1_foresee_10 dX1_foresee_13 dX1_foresee_14 dX1_foresee_16 dX1_foresee_19 (by decide) (Nat.le_of_ble_eq_true rfl) (by decide) (by decide) (by decide) (by decide)