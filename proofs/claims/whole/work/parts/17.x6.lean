set_option maxHeartbeats 4000000 in
set_option maxRecDepth 100000 in
theorem kX1_count0 (l : Launch) (D : va_G) (cI cZ : ClassId) (d : Nat → Nat) (σ κ : St)  (w0 : Int) (hwf : xWF σ) (hl_w0 : -2147483648 ≤ w0) (hh_w0 : w0 ≤ 2147483647) (hv : 0 ≤ w0 ∧ w0 ≤ 7) : gMet l yX1_count wsX1_count ({ frames := 2, cells := 0, slots := 0, locals := 46 } : Room) D (tyXs cI cZ) (XW cI cZ d σ κ) [.ref (d 0), .int (iI w0)] xEx (fun _ => some (.int (iI (xCount σ w0)))) (fun κ' => κ' = κ) (fun κ' => XW cI cZ d σ κ') := by
  refine g_start (cc := cX1_count) (maxL := 2) (ret := (some .int)) (by decide) rfl (Nat.le_of_ble_eq_true rfl) ?_
  intro p e s m args below meth c A ls H locs S hr hlocks hname hP hK hD hA hS hE hl
  have S0 := S
  obtain ⟨hx, hb, hml, hown, hts⟩ := S0
  have hl : lv_has ls 2 [(0, .ref (d 0)), (1, .int (iI (w0)))] := hl
  have hinX1 : ∀ w ∈ wsX10, w ∈ wsX1_count := by decide +kernel
  refine lv_iload_n hx hb dX1_count_0 rfl (lv_at hl 1 rfl) ?_
  refine lv_iconst (v := iI (0)) hx hb dX1_count_1 rfl ?_
  refine lv_bipush (v := iI (7)) hx hb dX1_count_2 rfl ?_
  have hPc : va_P D vwCl ([] ++ XW cI cZ d σ κ) H := hP
  have hDc : va_D A ([] ++ XW cI cZ d σ κ) := hD
  refine g_call (va_runS (As := [.int (iI (w0)), .int (iI (0)), .int (iI (7))]) (rest := []) S ((kX1_isWithin l D  w0 0 7 (by first | assumption | omega) (by first | assumption | omega) (by first | assumption | omega) (by first | assumption | omega) (by first | assumption | omega) (by first | assumption | omega)) H.size) (va_cwS 3 hts gX1_count_X1_isWithin rfl rfl rfl (by decide +kernel) ⟨Nat.le_of_ble_eq_true rfl, Nat.le_of_ble_eq_true rfl⟩) (g_preS gEx_t hK [] rfl hPc hDc (fun _ _ _ => trivial)) rfl rfl hl.1 rfl (lv_room (Nat.le_of_ble_eq_true rfl)) dX1_count_4 ⟨Nat.le_of_ble_eq_true rfl, Nat.le_of_ble_eq_true rfl⟩) hPc hDc hS hA (fun κ9 H locs hk hP hD hS => ?_)
  have hP : va_P D vwCl (XW cI cZ d σ κ) H := hP
  have hD : va_D A (XW cI cZ d σ κ) := hD
  show W p l e ({ frames := 2, cells := 0, slots := 0, locals := 46 } : Room) s m args below meth c H locs 0 0 (MQ below (gQ D (tyXs cI cZ) (fun κ' => XW cI cZ d σ κ') A (fun _ => some (.int (iI (xCount σ w0)))) (fun κ' => κ' = κ)) args s 0 0 A) (F0 m 7 ls [.int (iI (bI (0 ≤ w0 ∧ w0 ≤ 7)))])
  refine gb_if_ne (tgt := 20) hx hb dX1_count_7 (by decide)  (fun c7 => ?_) (fun c7 => ?_)
  · skip
    refine lv_iload_n hx hb dX1_count_20 rfl (lv_at hl 1 rfl) ?_
    rcases Int.decEq w0 0 with c21_0 | c21_0
    rotate_left
    · skip
      refine gi_tableIn (tgt := 64) hx hb dX1_count_21 ⟨by omega, by omega⟩ 0 c21_0 (by decide) (by decide) rfl (by decide) ?_
      refine lv_aload_n hx hb dX1_count_64 rfl (lv_at hl 0 rfl) ?_
      refine va_get (D := D) (ci := 1) (v := .int (iI (σ 9 0))) (C := RX1) (T := TX1) (N := 13) hx hb hts hinX1 hown hK hP 0 rfl rfl 9 (by decide) (hts (.fieldLink RX1 38 "TwinOrchard" "year" "I") (List.mem_of_getElem? (i := 3) rfl)) (fun _ h9 => h9) rfl dX1_count_65 ?_
      have er : ((xCount σ w0 : Int)) = (σ 9 0) := by unfold xCount; rw [if_pos (by omega)]; try rfl
      exact g_iret (wo := (fun κ' => XW cI cZ d σ κ')) (kr := (fun κ' => κ' = κ)) (rv := (fun _ => some (.int (iI (xCount σ w0))))) hx hb hr hlocks κ rfl hP hK hD hS rfl (by rw [er]) (Nat.le_of_ble_eq_true rfl) (Nat.le_of_ble_eq_true rfl) dX1_count_68
    rcases Int.decEq w0 1 with c21_1 | c21_1
    rotate_left
    · skip
      refine gi_tableIn (tgt := 69) hx hb dX1_count_21 ⟨by omega, by omega⟩ 1 c21_1 (by decide) (by decide) rfl (by decide) ?_
      refine lv_aload_n hx hb dX1_count_69 rfl (lv_at hl 0 rfl) ?_
      refine va_get (D := D) (ci := 1) (v := .ref (d 9)) (C := RX1) (T := TX1) (N := 13) hx hb hts hinX1 hown hK hP 0 rfl rfl 8 (by decide) (hts (.fieldLink RX1 35 "TwinOrchard" "strength" "[I") (List.mem_of_getElem? (i := 4) rfl)) (fun _ h9 => h9) rfl dX1_count_70 ?_
      refine lv_iconst (v := iI (0)) hx hb dX1_count_73 rfl ?_
      refine gi_iald (a := d 9) (n := 2) (f := σ 8) hx hb hK hP 9 0 rfl rfl (by omega) (by omega) (by decide) dX1_count_74 ?_
      have er : ((xCount σ w0 : Int)) = (σ 8 0) := by unfold xCount; rw [if_neg (by omega), if_pos (by omega)]; try rfl
      exact g_iret (wo := (fun κ' => XW cI cZ d σ κ')) (kr := (fun κ' => κ' = κ)) (rv := (fun _ => some (.int (iI (xCount σ w0))))) hx hb hr hlocks κ rfl hP hK hD hS rfl (by rw [er]) (Nat.le_of_ble_eq_true rfl) (Nat.le_of_ble_eq_true rfl) dX1_count_75
    rcases Int.decEq w0 2 with c21_2 | c21_2
    rotate_left
    · skip
      refine gi_tableIn (tgt := 76) hx hb dX1_count_21 ⟨by omega, by omega⟩ 2 c21_2 (by decide) (by decide) rfl (by decide) ?_
      refine lv_aload_n hx hb dX1_count_76 rfl (lv_at hl 0 rfl) ?_
      refine va_get (D := D) (ci := 1) (v := .ref (d 9)) (C := RX1) (T := TX1) (N := 13) hx hb hts hinX1 hown hK hP 0 rfl rfl 8 (by decide) (hts (.fieldLink RX1 35 "TwinOrchard" "strength" "[I") (List.mem_of_getElem? (i := 4) rfl)) (fun _ h9 => h9) rfl dX1_count_77 ?_
      refine lv_iconst (v := iI (1)) hx hb dX1_count_80 rfl ?_
      refine gi_iald (a := d 9) (n := 2) (f := σ 8) hx hb hK hP 9 0 rfl rfl (by omega) (by omega) (by decide) dX1_count_81 ?_
      have er : ((xCount σ w0 : Int)) = (σ 8 1) := by unfold xCount; rw [if_neg (by omega), if_neg (by omega), if_pos (by omega)]; try rfl
      exact g_iret (wo := (fun κ' => XW cI cZ d σ κ')) (kr := (fun κ' => κ' = κ)) (rv := (fun _ => some (.int (iI (xCount σ w0))))) hx hb hr hlocks κ rfl hP hK hD hS rfl (by rw [er]) (Nat.le_of_ble_eq_true rfl) (Nat.le_of_ble_eq_true rfl) dX1_count_82
    rcases Int.decEq w0 3 with c21_3 | c21_3
    rotate_left
    · skip
      refine gi_tableIn (tgt := 83) hx hb dX1_count_21 ⟨by omega, by omega⟩ 3 c21_3 (by decide) (by decide) rfl (by decide) ?_
      refine lv_aload_n hx hb dX1_count_83 rfl (lv_at hl 0 rfl) ?_
      have hPc : va_P D vwCl (XW cI cZ d σ κ ++ []) H := by rw [List.append_nil]; exact hP
      have hDc : va_D A (XW cI cZ d σ κ ++ []) := by rw [List.append_nil]; exact hD
      refine g_call (va_runV (As := []) (rest := []) S ((kX1_allTrees l D cI cZ d σ κ  (by first | assumption | omega)) H.size) (cwV 0 hts gX1_count_X1_allTrees rfl rfl rfl (by decide +kernel) ⟨Nat.le_of_ble_eq_true rfl, Nat.le_of_ble_eq_true rfl⟩) (g_preV xEx_g hK [0, 1] rfl hPc hDc (fun U _ hW => xEx_w hW hE) (q0 := 0) (ci := 1) rfl rfl rfl) rfl rfl hl.1 rfl (lv_room (Nat.le_of_ble_eq_true rfl)) dX1_count_84 ⟨Nat.le_of_ble_eq_true rfl, Nat.le_of_ble_eq_true rfl⟩) hPc hDc hS hA (fun κ9 H locs hk hP hD hS => ?_)
      have hk : κ = κ9 := hk.symm
      subst hk
      have hP : va_P D vwCl (XW cI cZ d σ κ) H := by have h9 : va_P D vwCl (XW cI cZ d σ κ ++ []) H := hP; rw [List.append_nil] at h9; exact h9
      have hD : va_D A (XW cI cZ d σ κ) := by have h9 : va_D A (XW cI cZ d σ κ ++ []) := hD; rw [List.append_nil] at h9; exact h9
      show W p l e ({ frames := 2, cells := 0, slots := 0, locals := 46 } : Room) s m args below meth c H locs 0 0 (MQ below (gQ D (tyXs cI cZ) (fun κ' => XW cI cZ d σ κ') A (fun _ => some (.int (iI (xCount σ w0)))) (fun κ' => κ' = κ)) args s 0 0 A) (F0 m 87 ls [.int (iI (isumI (fun j => bI (¬ σ 4 j = -1)) 40))])
      have er : ((xCount σ w0 : Int)) = (isumI (fun j => bI (¬ σ 4 j = -1)) 40) := by unfold xCount; rw [if_neg (by omega), if_neg (by omega), if_neg (by omega), if_pos (by omega)]; try rfl
      exact g_iret (wo := (fun κ' => XW cI cZ d σ κ')) (kr := (fun κ' => κ' = κ)) (rv := (fun _ => some (.int (iI (xCount σ w0))))) hx hb hr hlocks κ rfl hP hK hD hS rfl (by rw [er]) (Nat.le_of_ble_eq_true rfl) (Nat.le_of_ble_eq_true rfl) dX1_count_87
    rcases Int.decEq w0 4 with c21_4 | c21_4
    rotate_left
    · skip
      refine gi_tableIn (tgt := 88) hx hb dX1_count_21 ⟨by omega, by omega⟩ 4 c21_4 (by decide) (by decide) rfl (by decide) ?_
      refine lv_aload_n hx hb dX1_count_88 rfl (lv_at hl 0 rfl) ?_
      have hPc : va_P D vwCl (XW cI cZ d σ κ ++ []) H := by rw [List.append_nil]; exact hP
      have hDc : va_D A (XW cI cZ d σ κ ++ []) := by rw [List.append_nil]; exact hD
      refine g_call (va_runV (As := []) (rest := []) S ((kX1_allTired l D cI cZ d σ κ  (by first | assumption | omega)) H.size) (cwV 0 hts gX1_count_X1_allTired rfl rfl rfl (by decide +kernel) ⟨Nat.le_of_ble_eq_true rfl, Nat.le_of_ble_eq_true rfl⟩) (g_preV xEx_g hK [0, 1] rfl hPc hDc (fun U _ hW => xEx_w hW hE) (q0 := 0) (ci := 1) rfl rfl rfl) rfl rfl hl.1 rfl (lv_room (Nat.le_of_ble_eq_true rfl)) dX1_count_89 ⟨Nat.le_of_ble_eq_true rfl, Nat.le_of_ble_eq_true rfl⟩) hPc hDc hS hA (fun κ9 H locs hk hP hD hS => ?_)
      have hk : κ = κ9 := hk.symm
      subst hk
      have hP : va_P D vwCl (XW cI cZ d σ κ) H := by have h9 : va_P D vwCl (XW cI cZ d σ κ ++ []) H := hP; rw [List.append_nil] at h9; exact h9
      have hD : va_D A (XW cI cZ d σ κ) := by have h9 : va_D A (XW cI cZ d σ κ ++ []) := hD; rw [List.append_nil] at h9; exact h9
      show W p l e ({ frames := 2, cells := 0, slots := 0, locals := 46 } : Room) s m args below meth c H locs 0 0 (MQ below (gQ D (tyXs cI cZ) (fun κ' => XW cI cZ d σ κ') A (fun _ => some (.int (iI (xCount σ w0)))) (fun κ' => κ' = κ)) args s 0 0 A) (F0 m 92 ls [.int (iI (isumI (fun j => bI (¬ σ 7 j = 0)) 40))])
      have er : ((xCount σ w0 : Int)) = (isumI (fun j => bI (¬ σ 7 j = 0)) 40) := by unfold xCount; rw [if_neg (by omega), if_neg (by omega), if_neg (by omega), if_neg (by omega), if_pos (by omega)]; try rfl
      exact g_iret (wo := (fun κ' => XW cI cZ d σ κ')) (kr := (fun κ' => κ' = κ)) (rv := (fun _ => some (.int (iI (xCount σ w0))))) hx hb hr hlocks κ rfl hP hK hD hS rfl (by rw [er]) (Nat.le_of_ble_eq_true rfl) (Nat.le_of_ble_eq_true rfl) dX1_count_92
    rcases Int.decEq w0 5 with c21_5 | c21_5
    rotate_left
    · skip
      refine gi_tableIn (tgt := 93) hx hb dX1_count_21 ⟨by omega, by omega⟩ 5 c21_5 (by decide) (by decide) rfl (by decide) ?_
      refine lv_aload_n hx hb dX1_count_93 rfl (lv_at hl 0 rfl) ?_
      have hPc : va_P D vwCl (XW cI cZ d σ κ ++ []) H := by rw [List.append_nil]; exact hP
      have hDc : va_D A (XW cI cZ d σ κ ++ []) := by rw [List.append_nil]; exact hD
      refine g_call (va_runV (As := []) (rest := []) S ((kX1_applesInBarn l D cI cZ d σ κ  ) H.size) (cwV 0 hts gX1_count_X1_applesInBarn rfl rfl rfl (by decide +kernel) ⟨Nat.le_of_ble_eq_true rfl, Nat.le_of_ble_eq_true rfl⟩) (g_preV xEx_g hK [0, 1] rfl hPc hDc (fun U _ hW => xEx_w hW hE) (q0 := 0) (ci := 1) rfl rfl rfl) rfl rfl hl.1 rfl (lv_room (Nat.le_of_ble_eq_true rfl)) dX1_count_94 ⟨Nat.le_of_ble_eq_true rfl, Nat.le_of_ble_eq_true rfl⟩) hPc hDc hS hA (fun κ9 H locs hk hP hD hS => ?_)
      have hk : κ = κ9 := hk.symm
      subst hk
      have hP : va_P D vwCl (XW cI cZ d σ κ) H := by have h9 : va_P D vwCl (XW cI cZ d σ κ ++ []) H := hP; rw [List.append_nil] at h9; exact h9
      have hD : va_D A (XW cI cZ d σ κ) := by have h9 : va_D A (XW cI cZ d σ κ ++ []) := hD; rw [List.append_nil] at h9; exact h9
      show W p l e ({ frames := 2, cells := 0, slots := 0, locals := 46 } : Room) s m args below meth c H locs 0 0 (MQ below (gQ D (tyXs cI cZ) (fun κ' => XW cI cZ d σ κ') A (fun _ => some (.int (iI (xCount σ w0)))) (fun κ' => κ' = κ)) args s 0 0 A) (F0 m 97 ls [.int (iI (isumI (σ 2) 6))])
      have er : ((xCount σ w0 : Int)) = (isumI (σ 2) 6) := by unfold xCount; rw [if_neg (by omega), if_neg (by omega), if_neg (by omega), if_neg (by omega), if_neg (by omega), if_pos (by omega)]; try rfl
      exact g_iret (wo := (fun κ' => XW cI cZ d σ κ')) (kr := (fun κ' => κ' = κ)) (rv := (fun _ => some (.int (iI (xCount σ w0))))) hx hb hr hlocks κ rfl hP hK hD hS rfl (by rw [er]) (Nat.le_of_ble_eq_true rfl) (Nat.le_of_ble_eq_true rfl) dX1_count_97
    rcases Int.decEq w0 6 with c21_6 | c21_6
    rotate_left
    · skip
      refine gi_tableIn (tgt := 98) hx hb dX1_count_21 ⟨by omega, by omega⟩ 6 c21_6 (by decide) (by decide) rfl (by decide) ?_
      refine lv_aload_n hx hb dX1_count_98 rfl (lv_at hl 0 rfl) ?_
      have hPc : va_P D vwCl (XW cI cZ d σ κ ++ []) H := by rw [List.append_nil]; exact hP
      have hDc : va_D A (XW cI cZ d σ κ ++ []) := by rw [List.append_nil]; exact hD
      refine g_call (va_runV (As := []) (rest := []) S ((kX1_weightInBarn l D cI cZ d σ κ  ) H.size) (cwV 0 hts gX1_count_X1_weightInBarn rfl rfl rfl (by decide +kernel) ⟨Nat.le_of_ble_eq_true rfl, Nat.le_of_ble_eq_true rfl⟩) (g_preV xEx_g hK [0, 1] rfl hPc hDc (fun U _ hW => xEx_w hW hE) (q0 := 0) (ci := 1) rfl rfl rfl) rfl rfl hl.1 rfl (lv_room (Nat.le_of_ble_eq_true rfl)) dX1_count_99 ⟨Nat.le_of_ble_eq_true rfl, Nat.le_of_ble_eq_true rfl⟩) hPc hDc hS hA (fun κ9 H locs hk hP hD hS => ?_)
      have hk : κ = κ9 := hk.symm
      subst hk
      have hP : va_P D vwCl (XW cI cZ d σ κ) H := by have h9 : va_P D vwCl (XW cI cZ d σ κ ++ []) H := hP; rw [List.append_nil] at h9; exact h9
      have hD : va_D A (XW cI cZ d σ κ) := by have h9 : va_D A (XW cI cZ d σ κ ++ []) := hD; rw [List.append_nil] at h9; exact h9
      show W p l e ({ frames := 2, cells := 0, slots := 0, locals := 46 } : Room) s m args below meth c H locs 0 0 (MQ below (gQ D (tyXs cI cZ) (fun κ' => XW cI cZ d σ κ') A (fun _ => some (.int (iI (xCount σ w0)))) (fun κ' => κ' = κ)) args s 0 0 A) (F0 m 102 ls [.int (iI (isumI (fun j => σ 2 j * σ 0 j) 6))])
      have er : ((xCount σ w0 : Int)) = (isumI (fun j => σ 2 j * σ 0 j) 6) := by unfold xCount; rw [if_neg (by omega), if_neg (by omega), if_neg (by omega), if_neg (by omega), if_neg (by omega), if_neg (by omega), if_pos (by omega)]; try rfl
      exact g_iret (wo := (fun κ' => XW cI cZ d σ κ')) (kr := (fun κ' => κ' = κ)) (rv := (fun _ => some (.int (iI (xCount σ w0))))) hx hb hr hlocks κ rfl hP hK hD hS rfl (by rw [er]) (Nat.le_of_ble_eq_true rfl) (Nat.le_of_ble_eq_true rfl) dX1_count_102
    refine gi_tableOut (tgt := 103) hx hb dX1_count_21 ⟨by omega, by omega⟩ (by omega) (by decide) ?_
    refine lv_aload_n hx hb dX1_count_103 rfl (lv_at hl 0 rfl) ?_
    have hPc : va_P D vwCl (XW cI cZ d σ κ ++ []) H := by rw [List.append_nil]; exact hP
    have hDc : va_D A (XW cI cZ d σ κ ++ []) := by rw [List.append_nil]; exact hD
    refine g_call (va_runV (As := []) (rest := []) S ((kX1_unlikePairs l D cI cZ d σ κ  (by first | assumption | omega)) H.size) (cwV 0 hts gX1_count_X1_unlikePairs rfl rfl rfl (by decide +kernel) ⟨Nat.le_of_ble_eq_true rfl, Nat.le_of_ble_eq_true rfl⟩) (g_preV xEx_g hK [0, 1] rfl hPc hDc (fun U _ hW => xEx_w hW hE) (q0 := 0) (ci := 1) rfl rfl rfl) rfl rfl hl.1 rfl (lv_room (Nat.le_of_ble_eq_true rfl)) dX1_count_104 ⟨Nat.le_of_ble_eq_true rfl, Nat.le_of_ble_eq_true rfl⟩) hPc hDc hS hA (fun κ9 H locs hk hP hD hS => ?_)
    have hk : κ = κ9 := hk.symm
    subst hk
    have hP : va_P D vwCl (XW cI cZ d σ κ) H := by have h9 : va_P D vwCl (XW cI cZ d σ κ ++ []) H := hP; rw [List.append_nil] at h9; exact h9
    have hD : va_D A (XW cI cZ d σ κ) := by have h9 : va_D A (XW cI cZ d σ κ ++ []) := hD; rw [List.append_nil] at h9; exact h9
    show W p l e ({ frames := 2, cells := 0, slots := 0, locals := 46 } : Room) s m args below meth c H locs 0 0 (MQ below (gQ D (tyXs cI cZ) (fun κ' => XW cI cZ d σ κ') A (fun _ => some (.int (iI (xCount σ w0)))) (fun κ' => κ' = κ)) args s 0 0 A) (F0 m 107 ls [.int (iI (isumI (fun r => isumI (fun q => upr σ r q) 4) 5))])
    have er : ((xCount σ w0 : Int)) = (isumI (fun r => isumI (fun q => upr σ r q) 4) 5) := by unfold xCount; rw [if_neg (by omega), if_neg (by omega), if_neg (by omega), if_neg (by omega), if_neg (by omega), if_neg (by omega), if_neg (by omega)]; try rfl
    exact g_iret (wo := (fun κ' => XW cI cZ d σ κ')) (kr := (fun κ' => κ' = κ)) (rv := (fun _ => some (.int (iI (xCount σ w0))))) hx hb hr hlocks κ rfl hP hK hD hS rfl (by rw [er]) (Nat.le_of_ble_eq_true rfl) (Nat.le_of_ble_eq_true rfl) dX1_count_107
  · skip
    exfalso
    omega
set_option maxHeartbeats 4000000 in
set_option maxRecDepth 100000 in
theorem kX1_sort0 (l : Launch) (D : va_G) (cI cZ : ClassId) (d : Nat → Nat) (σ κ : St)  (a0 : Int) (w0 : Int) (hwf : xWF σ) (hl_a0 : -2147483648 ≤ a0) (hh_a0 : a0 ≤ 2147483647) (hl_w0 : -2147483648 ≤ w0) (hh_w0 : w0 ≤ 2147483647) (hv : (0 ≤ a0 ∧ a0 ≤ 5) ∧ 0 ≤ w0 ∧ w0 ≤ 3) : gMet l yX1_sort wsX1_sort ({ frames := 2, cells := 0, slots := 0, locals := 42 } : Room) D (tyXs cI cZ) (XW cI cZ d σ κ) [.ref (d 0), .int (iI a0), .int (iI w0)] xEx (fun _ => some (.int (iI (xSort σ a0 w0)))) (fun κ' => κ' = κ) (fun κ' => XW cI cZ d σ κ') := by
  refine g_start (cc := cX1_sort) (maxL := 3) (ret := (some .int)) (by decide) rfl (Nat.le_of_ble_eq_true rfl) ?_
  intro p e s m args below meth c A ls H locs S hr hlocks hname hP hK hD hA hS hE hl
  have S0 := S
  obtain ⟨hx, hb, hml, hown, hts⟩ := S0
  have hl : lv_has ls 3 [(0, .ref (d 0)), (1, .int (iI (a0))), (2, .int (iI (w0)))] := hl
  have hinX1 : ∀ w ∈ wsX10, w ∈ wsX1_sort := by decide +kernel
  refine lv_iload_n hx hb dX1_sort_0 rfl (lv_at hl 1 rfl) ?_
  have hPc : va_P D vwCl ([] ++ XW cI cZ d σ κ) H := hP
  have hDc : va_D A ([] ++ XW cI cZ d σ κ) := hD
  refine g_call (va_runS (As := [.int (iI (a0))]) (rest := []) S ((kX1_isSort l D  a0 (by first | assumption | omega) (by first | assumption | omega)) H.size) (va_cwS 1 hts gX1_sort_X1_isSort rfl rfl rfl (by decide +kernel) ⟨Nat.le_of_ble_eq_true rfl, Nat.le_of_ble_eq_true rfl⟩) (g_preS gEx_t hK [] rfl hPc hDc (fun _ _ _ => trivial)) rfl rfl hl.1 rfl (lv_room (Nat.le_of_ble_eq_true rfl)) dX1_sort_1 ⟨Nat.le_of_ble_eq_true rfl, Nat.le_of_ble_eq_true rfl⟩) hPc hDc hS hA (fun κ9 H locs hk hP hD hS => ?_)
  have hP : va_P D vwCl (XW cI cZ d σ κ) H := hP
  have hD : va_D A (XW cI cZ d σ κ) := hD
  show W p l e ({ frames := 2, cells := 0, slots := 0, locals := 42 } : Room) s m args below meth c H locs 0 0 (MQ below (gQ D (tyXs cI cZ) (fun κ' => XW cI cZ d σ κ') A (fun _ => some (.int (iI (xSort σ a0 w0)))) (fun κ' => κ' = κ)) args s 0 0 A) (F0 m 4 ls [.int (iI (bI (0 ≤ a0 ∧ a0 ≤ 5)))])
  refine gb_if_eq (tgt := 16) hx hb dX1_sort_4 (by decide)  (fun c4 => ?_) (fun c4 => ?_)
  · skip
    exfalso
    omega
  · skip
    refine lv_iload_n hx hb dX1_sort_7 rfl (lv_at hl 2 rfl) ?_
    refine lv_iconst (v := iI (0)) hx hb dX1_sort_8 rfl ?_
    refine lv_iconst (v := iI (3)) hx hb dX1_sort_9 rfl ?_
    have hPc : va_P D vwCl ([] ++ XW cI cZ d σ κ) H := hP
    have hDc : va_D A ([] ++ XW cI cZ d σ κ) := hD
    refine g_call (va_runS (As := [.int (iI (w0)), .int (iI (0)), .int (iI (3))]) (rest := []) S ((kX1_isWithin l D  w0 0 3 (by first | assumption | omega) (by first | assumption | omega) (by first | assumption | omega) (by first | assumption | omega) (by first | assumption | omega) (by first | assumption | omega)) H.size) (va_cwS 3 hts gX1_sort_X1_isWithin rfl rfl rfl (by decide +kernel) ⟨Nat.le_of_ble_eq_true rfl, Nat.le_of_ble_eq_true rfl⟩) (g_preS gEx_t hK [] rfl hPc hDc (fun _ _ _ => trivial)) rfl rfl hl.1 rfl (lv_room (Nat.le_of_ble_eq_true rfl)) dX1_sort_10 ⟨Nat.le_of_ble_eq_true rfl, Nat.le_of_ble_eq_true rfl⟩) hPc hDc hS hA (fun κ9 H locs hk hP hD hS => ?_)
    have hP : va_P D vwCl (XW cI cZ d σ κ) H := hP
    have hD : va_D A (XW cI cZ d σ κ) := hD
    show W p l e ({ frames := 2, cells := 0, slots := 0, locals := 42 } : Room) s m args below meth c H locs 0 0 (MQ below (gQ D (tyXs cI cZ) (fun κ' => XW cI cZ d σ κ') A (fun _ => some (.int (iI (xSort σ a0 w0)))) (fun κ' => κ' = κ)) args s 0 0 A) (F0 m 13 ls [.int (iI (bI (0 ≤ w0 ∧ w0 ≤ 3)))])
    refine gb_if_ne (tgt := 26) hx hb dX1_sort_13 (by decide)  (fun c13 => ?_) (fun c13 => ?_)
    · skip
      refine lv_iload_n hx hb dX1_sort_26 rfl (lv_at hl 2 rfl) ?_
      rcases Int.decEq w0 0 with c27_0 | c27_0
      rotate_left
      · skip
        refine gi_tableIn (tgt := 52) hx hb dX1_sort_27 ⟨by omega, by omega⟩ 0 c27_0 (by decide) (by decide) rfl (by decide) ?_
        refine lv_aload_n hx hb dX1_sort_52 rfl (lv_at hl 0 rfl) ?_
        refine va_get (D := D) (ci := 1) (v := .ref (d 1)) (C := RX1) (T := TX1) (N := 13) hx hb hts hinX1 hown hK hP 0 rfl rfl 0 (by decide) (hts (.fieldLink RX1 9 "TwinOrchard" "weights" "[I") (List.mem_of_getElem? (i := 3) rfl)) (fun _ h9 => h9) rfl dX1_sort_53 ?_
        refine lv_iload_n hx hb dX1_sort_56 rfl (lv_at hl 1 rfl) ?_
        refine gi_iald (a := d 1) (n := 6) (f := σ 0) hx hb hK hP 1 0 rfl rfl (by omega) (by omega) (by decide) dX1_sort_57 ?_
        have er : ((xSort σ a0 w0 : Int)) = (σ 0 a0) := by unfold xSort; rw [if_pos (by omega)]; try rfl
        exact g_iret (wo := (fun κ' => XW cI cZ d σ κ')) (kr := (fun κ' => κ' = κ)) (rv := (fun _ => some (.int (iI (xSort σ a0 w0))))) hx hb hr hlocks κ rfl hP hK hD hS rfl (by rw [er]) (Nat.le_of_ble_eq_true rfl) (Nat.le_of_ble_eq_true rfl) dX1_sort_58
      rcases Int.decEq w0 1 with c27_1 | c27_1
      rotate_left
      · skip
        refine gi_tableIn (tgt := 59) hx hb dX1_sort_27 ⟨by omega, by omega⟩ 1 c27_1 (by decide) (by decide) rfl (by decide) ?_
        refine lv_aload_n hx hb dX1_sort_59 rfl (lv_at hl 0 rfl) ?_
        refine va_get (D := D) (ci := 1) (v := .ref (d 2)) (C := RX1) (T := TX1) (N := 13) hx hb hts hinX1 hown hK hP 0 rfl rfl 1 (by decide) (hts (.fieldLink RX1 13 "TwinOrchard" "hardiness" "[I") (List.mem_of_getElem? (i := 4) rfl)) (fun _ h9 => h9) rfl dX1_sort_60 ?_
        refine lv_iload_n hx hb dX1_sort_63 rfl (lv_at hl 1 rfl) ?_
        refine gi_iald (a := d 2) (n := 6) (f := σ 1) hx hb hK hP 2 0 rfl rfl (by omega) (by omega) (by decide) dX1_sort_64 ?_
        have er : ((xSort σ a0 w0 : Int)) = (σ 1 a0) := by unfold xSort; rw [if_neg (by omega), if_pos (by omega)]; try rfl
        exact g_iret (wo := (fun κ' => XW cI cZ d σ κ')) (kr := (fun κ' => κ' = κ)) (rv := (fun _ => some (.int (iI (xSort σ a0 w0))))) hx hb hr hlocks κ rfl hP hK hD hS rfl (by rw [er]) (Nat.le_of_ble_eq_true rfl) (Nat.le_of_ble_eq_true rfl) dX1_sort_65
      rcases Int.decEq w0 2 with c27_2 | c27_2
      rotate_left
      · skip
        refine gi_tableIn (tgt := 66) hx hb dX1_sort_27 ⟨by omega, by omega⟩ 2 c27_2 (by decide) (by decide) rfl (by decide) ?_
        refine lv_aload_n hx hb dX1_sort_66 rfl (lv_at hl 0 rfl) ?_
        refine va_get (D := D) (ci := 1) (v := .ref (d 3)) (C := RX1) (T := TX1) (N := 13) hx hb hts hinX1 hown hK hP 0 rfl rfl 2 (by decide) (hts (.fieldLink RX1 16 "TwinOrchard" "barn" "[I") (List.mem_of_getElem? (i := 5) rfl)) (fun _ h9 => h9) rfl dX1_sort_67 ?_
        refine lv_iload_n hx hb dX1_sort_70 rfl (lv_at hl 1 rfl) ?_
        refine gi_iald (a := d 3) (n := 6) (f := σ 2) hx hb hK hP 3 0 rfl rfl (by omega) (by omega) (by decide) dX1_sort_71 ?_
        have er : ((xSort σ a0 w0 : Int)) = (σ 2 a0) := by unfold xSort; rw [if_neg (by omega), if_neg (by omega), if_pos (by omega)]; try rfl
        exact g_iret (wo := (fun κ' => XW cI cZ d σ κ')) (kr := (fun κ' => κ' = κ)) (rv := (fun _ => some (.int (iI (xSort σ a0 w0))))) hx hb hr hlocks κ rfl hP hK hD hS rfl (by rw [er]) (Nat.le_of_ble_eq_true rfl) (Nat.le_of_ble_eq_true rfl) dX1_sort_72
      refine gi_tableOut (tgt := 73) hx hb dX1_sort_27 ⟨by omega, by omega⟩ (by omega) (by decide) ?_
      refine lv_aload_n hx hb dX1_sort_73 rfl (lv_at hl 0 rfl) ?_
      refine lv_iload_n hx hb dX1_sort_74 rfl (lv_at hl 1 rfl) ?_
      have hPc : va_P D vwCl (XW cI cZ d σ κ ++ []) H := by rw [List.append_nil]; exact hP
      have hDc : va_D A (XW cI cZ d σ κ ++ []) := by rw [List.append_nil]; exact hD
      refine g_call (va_runV (As := [.int (iI (a0))]) (rest := []) S ((kX1_treesOfSort l D cI cZ d σ κ a0 (by first | assumption | omega) (by first | assumption | omega) (by first | assumption | omega)) H.size) (cwV 1 hts gX1_sort_X1_treesOfSort rfl rfl rfl (by decide +kernel) ⟨Nat.le_of_ble_eq_true rfl, Nat.le_of_ble_eq_true rfl⟩) (g_preV xEx_g hK [0, 1] rfl hPc hDc (fun U _ hW => xEx_w hW hE) (q0 := 0) (ci := 1) rfl rfl rfl) rfl rfl hl.1 rfl (lv_room (Nat.le_of_ble_eq_true rfl)) dX1_sort_75 ⟨Nat.le_of_ble_eq_true rfl, Nat.le_of_ble_eq_true rfl⟩) hPc hDc hS hA (fun κ9 H locs hk hP hD hS => ?_)
      have hk : κ = κ9 := hk.symm
      subst hk
      have hP : va_P D vwCl (XW cI cZ d σ κ) H := by have h9 : va_P D vwCl (XW cI cZ d σ κ ++ []) H := hP; rw [List.append_nil] at h9; exact h9
      have hD : va_D A (XW cI cZ d σ κ) := by have h9 : va_D A (XW cI cZ d σ κ ++ []) := hD; rw [List.append_nil] at h9; exact h9
      show W p l e ({ frames := 2, cells := 0, slots := 0, locals := 42 } : Room) s m args below meth c H locs 0 0 (MQ below (gQ D (tyXs cI cZ) (fun κ' => XW cI cZ d σ κ') A (fun _ => some (.int (iI (xSort σ a0 w0)))) (fun κ' => κ' = κ)) args s 0 0 A) (F0 m 78 ls [.int (iI (isumI (fun j => bI (σ 4 j = a0)) 40))])
      have er : ((xSort σ a0 w0 : Int)) = (isumI (fun j => bI (σ 4 j = a0)) 40) := by unfold xSort; rw [if_neg (by omega), if_neg (by omega), if_neg (by omega)]; try rfl
      exact g_iret (wo := (fun κ' => XW cI cZ d σ κ')) (kr := (fun κ' => κ' = κ)) (rv := (fun _ => some (.int (iI (xSort σ a0 w0))))) hx hb hr hlocks κ rfl hP hK hD hS rfl (by rw [er]) (Nat.le_of_ble_eq_true rfl) (Nat.le_of_ble_eq_true rfl) dX1_sort_78
    · skip
      exfalso
      omega
set_option maxHeartbeats 4000000 in
set_option maxRecDepth 100000 in
theorem kX1_tree0 (l : Launch) (D : va_G) (cI cZ : ClassId) (d : Nat → Nat) (σ κ : St)  (r0 : Int) (p0 : Int) (w0 : Int) (hwf : xWF σ) (hl_r0 : -2147483648 ≤ r0) (hh_r0 : r0 ≤ 2147483647) (hl_p0 : -2147483648 ≤ p0) (hh_p0 : p0 ≤ 2147483647) (hl_w0 : -2147483648 ≤ w0) (hh_w0 : w0 ≤ 2147483647) (hv : ((0 ≤ r0 ∧ r0 ≤ 4) ∧ 0 ≤ p0 ∧ p0 ≤ 7) ∧ 0 ≤ w0 ∧ w0 ≤ 5) : gMet l yX1_tree wsX1_tree ({ frames := 3, cells := 0, slots := 0, locals := 63 } : Room) D (tyXs cI cZ) (XW cI cZ d σ κ) [.ref (d 0), .int (iI r0), .int (iI p0), .int (iI w0)] xEx (fun _ => some (.int (iI (xTree σ (r0 * 8 + p0) w0)))) (fun κ' => True) (fun κ' => XW cI cZ d σ κ') := by
  refine g_start (cc := cX1_tree) (maxL := 5) (ret := (some .int)) (by decide) rfl (Nat.le_of_ble_eq_true rfl) ?_
  intro p e s m args below meth c A ls H locs S hr hlocks hname hP hK hD hA hS hE hl
  have S0 := S
  obtain ⟨hx, hb, hml, hown, hts⟩ := S0
  have hl : lv_has ls 5 [(0, .ref (d 0)), (1, .int (iI (r0))), (2, .int (iI (p0))), (3, .int (iI (w0)))] := hl
  have hinX0 : ∀ w ∈ wsX00, w ∈ wsX1_tree := by decide +kernel
  have hinX1 : ∀ w ∈ wsX10, w ∈ wsX1_tree := by decide +kernel
  have k7 := xWF_7 hwf (r0 * 8 + p0)
  refine lv_iload_n hx hb dX1_tree_0 rfl (lv_at hl 1 rfl) ?_
  refine lv_iload_n hx hb dX1_tree_1 rfl (lv_at hl 2 rfl) ?_
  have hPc : va_P D vwCl ([] ++ XW cI cZ d σ κ) H := hP
  have hDc : va_D A ([] ++ XW cI cZ d σ κ) := hD
  refine g_call (va_runS (As := [.int (iI (r0)), .int (iI (p0))]) (rest := []) S ((kX1_isPlace l D  r0 p0 (by first | assumption | omega) (by first | assumption | omega) (by first | assumption | omega) (by first | assumption | omega)) H.size) (va_cwS 2 hts gX1_tree_X1_isPlace rfl rfl rfl (by decide +kernel) ⟨Nat.le_of_ble_eq_true rfl, Nat.le_of_ble_eq_true rfl⟩) (g_preS gEx_t hK [] rfl hPc hDc (fun _ _ _ => trivial)) rfl rfl hl.1 rfl (lv_room (Nat.le_of_ble_eq_true rfl)) dX1_tree_2 ⟨Nat.le_of_ble_eq_true rfl, Nat.le_of_ble_eq_true rfl⟩) hPc hDc hS hA (fun κ9 H locs hk hP hD hS => ?_)
  have hP : va_P D vwCl (XW cI cZ d σ κ) H := hP
  have hD : va_D A (XW cI cZ d σ κ) := hD
  show W p l e ({ frames := 3, cells := 0, slots := 0, locals := 63 } : Room) s m args below meth c H locs 0 0 (MQ below (gQ D (tyXs cI cZ) (fun κ' => XW cI cZ d σ κ') A (fun _ => some (.int (iI (xTree σ (r0 * 8 + p0) w0)))) (fun κ' => True)) args s 0 0 A) (F0 m 5 ls [.int (iI (bI ((0 ≤ r0 ∧ r0 ≤ 4) ∧ 0 ≤ p0 ∧ p0 ≤ 7)))])
  refine gb_if_eq (tgt := 17) hx hb dX1_tree_5 (by decide)  (fun c5 => ?_) (fun c5 => ?_)
  · skip
    exfalso
    omega
  · skip
    refine lv_iload_n hx hb dX1_tree_8 rfl (lv_at hl 3 rfl) ?_
    refine lv_iconst (v := iI (0)) hx hb dX1_tree_9 rfl ?_
    refine lv_iconst (v := iI (5)) hx hb dX1_tree_10 rfl ?_
    have hPc : va_P D vwCl ([] ++ XW cI cZ d σ κ) H := hP
    have hDc : va_D A ([] ++ XW cI cZ d σ κ) := hD
    refine g_call (va_runS (As := [.int (iI (w0)), .int (iI (0)), .int (iI (5))]) (rest := []) S ((kX1_isWithin l D  w0 0 5 (by first | assumption | omega) (by first | assumption | omega) (by first | assumption | omega) (by first | assumption | omega) (by first | assumption | omega) (by first | assumption | omega)) H.size) (va_cwS 3 hts gX1_tree_X1_isWithin rfl rfl rfl (by decide +kernel) ⟨Nat.le_of_ble_eq_true rfl, Nat.le_of_ble_eq_true rfl⟩) (g_preS gEx_t hK [] rfl hPc hDc (fun _ _ _ => trivial)) rfl rfl hl.1 rfl (lv_room (Nat.le_of_ble_eq_true rfl)) dX1_tree_11 ⟨Nat.le_of_ble_eq_true rfl, Nat.le_of_ble_eq_true rfl⟩) hPc hDc hS hA (fun κ9 H locs hk hP hD hS => ?_)
    have hP : va_P D vwCl (XW cI cZ d σ κ) H := hP
    have hD : va_D A (XW cI cZ d σ κ) := hD
    show W p l e ({ frames := 3, cells := 0, slots := 0, locals := 63 } : Room) s m args below meth c H locs 0 0 (MQ below (gQ D (tyXs cI cZ) (fun κ' => XW cI cZ d σ κ') A (fun _ => some (.int (iI (xTree σ (r0 * 8 + p0) w0)))) (fun κ' => True)) args s 0 0 A) (F0 m 14 ls [.int (iI (bI (0 ≤ w0 ∧ w0 ≤ 5)))])
    refine gb_if_ne (tgt := 27) hx hb dX1_tree_14 (by decide)  (fun c14 => ?_) (fun c14 => ?_)
    · skip
      refine lv_iload_n hx hb dX1_tree_27 rfl (lv_at hl 1 rfl) ?_
      refine lv_iload_n hx hb dX1_tree_28 rfl (lv_at hl 2 rfl) ?_
      have hPc : va_P D vwCl ([] ++ XW cI cZ d σ κ) H := hP
      have hDc : va_D A ([] ++ XW cI cZ d σ κ) := hD
      refine g_call (va_runS (As := [.int (iI (r0)), .int (iI (p0))]) (rest := []) S ((kX1_spotOf l D  r0 p0 ) H.size) (va_cwS 2 hts gX1_tree_X1_spotOf rfl rfl rfl (by decide +kernel) ⟨Nat.le_of_ble_eq_true rfl, Nat.le_of_ble_eq_true rfl⟩) (g_preS gEx_t hK [] rfl hPc hDc (fun _ _ _ => trivial)) rfl rfl hl.1 rfl (lv_room (Nat.le_of_ble_eq_true rfl)) dX1_tree_29 ⟨Nat.le_of_ble_eq_true rfl, Nat.le_of_ble_eq_true rfl⟩) hPc hDc hS hA (fun κ9 H locs hk hP hD hS => ?_)
      have hP : va_P D vwCl (XW cI cZ d σ κ) H := hP
      have hD : va_D A (XW cI cZ d σ κ) := hD
      show W p l e ({ frames := 3, cells := 0, slots := 0, locals := 63 } : Room) s m args below meth c H locs 0 0 (MQ below (gQ D (tyXs cI cZ) (fun κ' => XW cI cZ d σ κ') A (fun _ => some (.int (iI (xTree σ (r0 * 8 + p0) w0)))) (fun κ' => True)) args s 0 0 A) (F0 m 32 ls [.int (iI (r0 * 8 + p0))])
      refine lv_istore (lv' := [(4, .int (iI (r0 * 8 + p0))), (0, .ref (d 0)), (1, .int (iI (r0))), (2, .int (iI (p0))), (3, .int (iI (w0)))]) hx hb dX1_tree_32 hl (by decide) rfl (fun ls hl => ?_)
      refine lv_iload_n hx hb dX1_tree_34 rfl (lv_at hl 4 rfl) ?_
      rcases Int.decEq w0 0 with c35_0 | c35_0
      rotate_left
      · skip
        refine gi_tableIn (tgt := 68) hx hb dX1_tree_35 ⟨by omega, by omega⟩ 0 c35_0 (by decide) (by decide) rfl (by decide) ?_
        refine lv_aload_n hx hb dX1_tree_68 rfl (lv_at hl 1 rfl) ?_
        refine lv_iload hx hb dX1_tree_69 (lv_at hl 0 rfl) ?_
        have hPc : va_P D vwCl (XW cI cZ d σ κ ++ []) H := by rw [List.append_nil]; exact hP
        have hDc : va_D A (XW cI cZ d σ κ ++ []) := by rw [List.append_nil]; exact hD
        refine g_call (va_runV (As := [.int (iI (r0 * 8 + p0))]) (rest := []) S ((kX1_hasTree l D cI cZ d σ κ (r0 * 8 + p0) (by first | assumption | omega) (by first | assumption | omega) (by first | assumption | omega)) H.size) (cwV 1 hts gX1_tree_X1_hasTree rfl rfl rfl (by decide +kernel) ⟨Nat.le_of_ble_eq_true rfl, Nat.le_of_ble_eq_true rfl⟩) (g_preV xEx_g hK [0, 1] rfl hPc hDc (fun U _ hW => xEx_w hW hE) (q0 := 0) (ci := 1) rfl rfl rfl) rfl rfl hl.1 rfl (lv_room (Nat.le_of_ble_eq_true rfl)) dX1_tree_71 ⟨Nat.le_of_ble_eq_true rfl, Nat.le_of_ble_eq_true rfl⟩) hPc hDc hS hA (fun κ9 H locs hk hP hD hS => ?_)
        have hk : κ = κ9 := hk.symm
        subst hk
        have hP : va_P D vwCl (XW cI cZ d σ κ) H := by have h9 : va_P D vwCl (XW cI cZ d σ κ ++ []) H := hP; rw [List.append_nil] at h9; exact h9
        have hD : va_D A (XW cI cZ d σ κ) := by have h9 : va_D A (XW cI cZ d σ κ ++ []) := hD; rw [List.append_nil] at h9; exact h9
        show W p l e ({ frames := 3, cells := 0, slots := 0, locals := 63 } : Room) s m args below meth c H locs 0 0 (MQ below (gQ D (tyXs cI cZ) (fun κ' => XW cI cZ d σ κ') A (fun _ => some (.int (iI (xTree σ (r0 * 8 + p0) w0)))) (fun κ' => True)) args s 0 0 A) (F0 m 74 ls [.int (iI (bI (¬ σ 4 (r0 * 8 + p0) = -1)))])
        refine gb_if_eq (tgt := 81) hx hb dX1_tree_74 (by decide)  (fun c74 => ?_) (fun c74 => ?_)
        · skip
          refine lv_iconst (v := iI (0)) hx hb dX1_tree_81 rfl ?_
          have er : ((xTree σ (r0 * 8 + p0) w0 : Int)) = (0) := by unfold xTree; rw [if_pos (by omega)]; first | (rw [bI_t (by omega)]; done) | (rw [bI_f (by omega)]; done)
          exact g_iret (wo := (fun κ' => XW cI cZ d σ κ')) (kr := (fun κ' => True)) (rv := (fun _ => some (.int (iI (xTree σ (r0 * 8 + p0) w0))))) hx hb hr hlocks κ rfl hP hK hD hS trivial (by rw [er]) (Nat.le_of_ble_eq_true rfl) (Nat.le_of_ble_eq_true rfl) dX1_tree_82
        · skip
          refine lv_iconst (v := iI (1)) hx hb dX1_tree_77 rfl ?_
          refine lv_goto (tgt := 82) hx hb dX1_tree_78 (by decide) ?_
          have er : ((xTree σ (r0 * 8 + p0) w0 : Int)) = (1) := by unfold xTree; rw [if_pos (by omega)]; first | (rw [bI_t (by omega)]; done) | (rw [bI_f (by omega)]; done)
          exact g_iret (wo := (fun κ' => XW cI cZ d σ κ')) (kr := (fun κ' => True)) (rv := (fun _ => some (.int (iI (xTree σ (r0 * 8 + p0) w0))))) hx hb hr hlocks κ rfl hP hK hD hS trivial (by rw [er]) (Nat.le_of_ble_eq_true rfl) (Nat.le_of_ble_eq_true rfl) dX1_tree_82
      rcases Int.decEq w0 1 with c35_1 | c35_1
      rotate_left
      · skip
        refine gi_tableIn (tgt := 83) hx hb dX1_tree_35 ⟨by omega, by omega⟩ 1 c35_1 (by decide) (by decide) rfl (by decide) ?_
        refine lv_aload_n hx hb dX1_tree_83 rfl (lv_at hl 1 rfl) ?_
        refine va_get (D := D) (ci := 1) (v := .ref (d 6)) (C := RX1) (T := TX1) (N := 13) hx hb hts hinX1 hown hK hP 0 rfl rfl 5 (by decide) (hts (.fieldLink RX1 25 "TwinOrchard" "branches" "[I") (List.mem_of_getElem? (i := 3) rfl)) (fun _ h9 => h9) rfl dX1_tree_84 ?_
        refine lv_iload hx hb dX1_tree_87 (lv_at hl 0 rfl) ?_
        refine gi_iald (a := d 6) (n := 40) (f := σ 5) hx hb hK hP 6 0 rfl rfl (by omega) (by omega) (by decide) dX1_tree_89 ?_
        have er : ((xTree σ (r0 * 8 + p0) w0 : Int)) = (σ 5 (r0 * 8 + p0)) := by unfold xTree; rw [if_neg (by omega), if_pos (by omega)]; try rfl
        exact g_iret (wo := (fun κ' => XW cI cZ d σ κ')) (kr := (fun κ' => True)) (rv := (fun _ => some (.int (iI (xTree σ (r0 * 8 + p0) w0))))) hx hb hr hlocks κ rfl hP hK hD hS trivial (by rw [er]) (Nat.le_of_ble_eq_true rfl) (Nat.le_of_ble_eq_true rfl) dX1_tree_90
      rcases Int.decEq w0 2 with c35_2 | c35_2
      rotate_left
      · skip
        refine gi_tableIn (tgt := 91) hx hb dX1_tree_35 ⟨by omega, by omega⟩ 2 c35_2 (by decide) (by decide) rfl (by decide) ?_
        refine lv_aload_n hx hb dX1_tree_91 rfl (lv_at hl 1 rfl) ?_
        refine va_get (D := D) (ci := 1) (v := .ref (d 7)) (C := RX1) (T := TX1) (N := 13) hx hb hts hinX1 hown hK hP 0 rfl rfl 6 (by decide) (hts (.fieldLink RX1 28 "TwinOrchard" "vigours" "[I") (List.mem_of_getElem? (i := 4) rfl)) (fun _ h9 => h9) rfl dX1_tree_92 ?_
        refine lv_iload hx hb dX1_tree_95 (lv_at hl 0 rfl) ?_
        refine gi_iald (a := d 7) (n := 40) (f := σ 6) hx hb hK hP 7 0 rfl rfl (by omega) (by omega) (by decide) dX1_tree_97 ?_
        have er : ((xTree σ (r0 * 8 + p0) w0 : Int)) = (σ 6 (r0 * 8 + p0)) := by unfold xTree; rw [if_neg (by omega), if_neg (by omega), if_pos (by omega)]; try rfl
        exact g_iret (wo := (fun κ' => XW cI cZ d σ κ')) (kr := (fun κ' => True)) (rv := (fun _ => some (.int (iI (xTree σ (r0 * 8 + p0) w0))))) hx hb hr hlocks κ rfl hP hK hD hS trivial (by rw [er]) (Nat.le_of_ble_eq_true rfl) (Nat.le_of_ble_eq_true rfl) dX1_tree_98
      rcases Int.decEq w0 3 with c35_3 | c35_3
      rotate_left
      · skip
        refine gi_tableIn (tgt := 99) hx hb dX1_tree_35 ⟨by omega, by omega⟩ 3 c35_3 (by decide) (by decide) rfl (by decide) ?_
        refine lv_aload_n hx hb dX1_tree_99 rfl (lv_at hl 1 rfl) ?_
        refine va_get (D := D) (ci := 1) (v := .ref (d 5)) (C := RX1) (T := TX1) (N := 13) hx hb hts hinX1 hown hK hP 0 rfl rfl 4 (by decide) (hts (.fieldLink RX1 22 "TwinOrchard" "kinds" "[I") (List.mem_of_getElem? (i := 5) rfl)) (fun _ h9 => h9) rfl dX1_tree_100 ?_
        refine lv_iload hx hb dX1_tree_103 (lv_at hl 0 rfl) ?_
        refine gi_iald (a := d 5) (n := 40) (f := σ 4) hx hb hK hP 5 0 rfl rfl (by omega) (by omega) (by decide) dX1_tree_105 ?_
        have er : ((xTree σ (r0 * 8 + p0) w0 : Int)) = (σ 4 (r0 * 8 + p0)) := by unfold xTree; rw [if_neg (by omega), if_neg (by omega), if_neg (by omega), if_pos (by omega)]; try rfl
        exact g_iret (wo := (fun κ' => XW cI cZ d σ κ')) (kr := (fun κ' => True)) (rv := (fun _ => some (.int (iI (xTree σ (r0 * 8 + p0) w0))))) hx hb hr hlocks κ rfl hP hK hD hS trivial (by rw [er]) (Nat.le_of_ble_eq_true rfl) (Nat.le_of_ble_eq_true rfl) dX1_tree_106
      rcases Int.decEq w0 4 with c35_4 | c35_4
      rotate_left
      · skip
        refine gi_tableIn (tgt := 107) hx hb dX1_tree_35 ⟨by omega, by omega⟩ 4 c35_4 (by decide) (by decide) rfl (by decide) ?_
        refine lv_aload_n hx hb dX1_tree_107 rfl (lv_at hl 1 rfl) ?_
        refine va_get (D := D) (ci := 1) (v := .ref (d 8)) (C := RX1) (T := TX1) (N := 13) hx hb hts hinX1 hown hK hP 0 rfl rfl 7 (by decide) (hts (.fieldLink RX1 31 "TwinOrchard" "tired" "[Z") (List.mem_of_getElem? (i := 6) rfl)) (fun _ h9 => h9) rfl dX1_tree_108 ?_
        refine lv_iload hx hb dX1_tree_111 (lv_at hl 0 rfl) ?_
        refine gi_zald (a := d 8) (n := 40) (f := σ 7) hx hb hK hP 8 1 rfl rfl (by omega) (by omega) (by decide) dX1_tree_113 ?_
        refine gi_if_eq (tgt := 121) hx hb dX1_tree_114 (by decide) ⟨by omega, by omega⟩ (fun c114 => ?_) (fun c114 => ?_)
        · skip
          refine lv_iconst (v := iI (0)) hx hb dX1_tree_121 rfl ?_
          have er : ((xTree σ (r0 * 8 + p0) w0 : Int)) = (0) := by unfold xTree; rw [if_neg (by omega), if_neg (by omega), if_neg (by omega), if_neg (by omega), if_pos (by omega)]; first | (rw [bI_t (by omega)]; done) | (rw [bI_f (by omega)]; done)
          exact g_iret (wo := (fun κ' => XW cI cZ d σ κ')) (kr := (fun κ' => True)) (rv := (fun _ => some (.int (iI (xTree σ (r0 * 8 + p0) w0))))) hx hb hr hlocks κ rfl hP hK hD hS trivial (by rw [er]) (Nat.le_of_ble_eq_true rfl) (Nat.le_of_ble_eq_true rfl) dX1_tree_122
        · skip
          refine lv_iconst (v := iI (1)) hx hb dX1_tree_117 rfl ?_
          refine lv_goto (tgt := 122) hx hb dX1_tree_118 (by decide) ?_
          have er : ((xTree σ (r0 * 8 + p0) w0 : Int)) = (1) := by unfold xTree; rw [if_neg (by omega), if_neg (by omega), if_neg (by omega), if_neg (by omega), if_pos (by omega)]; first | (rw [bI_t (by omega)]; done) | (rw [bI_f (by omega)]; done)
          exact g_iret (wo := (fun κ' => XW cI cZ d σ κ')) (kr := (fun κ' => True)) (rv := (fun _ => some (.int (iI (xTree σ (r0 * 8 + p0) w0))))) hx hb hr hlocks κ rfl hP hK hD hS trivial (by rw [er]) (Nat.le_of_ble_eq_true rfl) (Nat.le_of_ble_eq_true rfl) dX1_tree_122
      refine gi_tableOut (tgt := 123) hx hb dX1_tree_35 ⟨by omega, by omega⟩ (by omega) (by decide) ?_
      refine lv_aload_n hx hb dX1_tree_123 rfl (lv_at hl 1 rfl) ?_
      refine lv_iload hx hb dX1_tree_124 (lv_at hl 0 rfl) ?_
      have hPc : va_P D vwCl (XW cI cZ d σ κ ++ []) H := by rw [List.append_nil]; exact hP
      have hDc : va_D A (XW cI cZ d σ κ ++ []) := by rw [List.append_nil]; exact hD
      refine g_call (va_runV (As := [.int (iI (r0 * 8 + p0))]) (rest := []) S ((kX1_applesNow l D cI cZ d σ κ (r0 * 8 + p0) (by first | assumption | omega) (by first | assumption | omega) (by first | assumption | omega)) H.size) (cwV 1 hts gX1_tree_X1_applesNow rfl rfl rfl (by decide +kernel) ⟨Nat.le_of_ble_eq_true rfl, Nat.le_of_ble_eq_true rfl⟩) (g_preV xEx_g hK [0, 1] rfl hPc hDc (fun U _ hW => xEx_w hW hE) (q0 := 0) (ci := 1) rfl rfl rfl) rfl rfl hl.1 rfl (lv_room (Nat.le_of_ble_eq_true rfl)) dX1_tree_126 ⟨Nat.le_of_ble_eq_true rfl, Nat.le_of_ble_eq_true rfl⟩) hPc hDc hS hA (fun κ9 H locs hk hP hD hS => ?_)
      obtain ⟨κ_1, rfl⟩ : ∃ z, z = κ9 := ⟨_, rfl⟩
      have hP : va_P D vwCl (XW cI cZ d σ κ_1) H := by have h9 : va_P D vwCl (XW cI cZ d σ κ_1 ++ []) H := hP; rw [List.append_nil] at h9; exact h9
      have hD : va_D A (XW cI cZ d σ κ_1) := by have h9 : va_D A (XW cI cZ d σ κ_1 ++ []) := hD; rw [List.append_nil] at h9; exact h9
      show W p l e ({ frames := 3, cells := 0, slots := 0, locals := 63 } : Room) s m args below meth c H locs 0 0 (MQ below (gQ D (tyXs cI cZ) (fun κ' => XW cI cZ d σ κ') A (fun _ => some (.int (iI (xTree σ (r0 * 8 + p0) w0)))) (fun κ' => True)) args s 0 0 A) (F0 m 129 ls [.int (iI (apx σ (r0 * 8 + p0)))])
      have er : ((xTree σ (r0 * 8 + p0) w0 : Int)) = (apx σ (r0 * 8 + p0)) := by unfold xTree; rw [if_neg (by omega), if_neg (by omega), if_neg (by omega), if_neg (by omega), if_neg (by omega)]; try rfl
      exact g_iret (wo := (fun κ' => XW cI cZ d σ κ')) (kr := (fun κ' => True)) (rv := (fun _ => some (.int (iI (xTree σ (r0 * 8 + p0) w0))))) hx hb hr hlocks κ_1 rfl hP hK hD hS trivial (by rw [er]) (Nat.le_of_ble_eq_true rfl) (Nat.le_of_ble_eq_true rfl) dX1_tree_129
    · skip
      exfalso
      omega
set_option maxHeartbeats 4000000 in
set_option maxRecDepth 100000 in
theorem kX1_digest (l : Launch) (D : va_G) (cI cZ : ClassId) (d : Nat → Nat) (σ κ : St)   (hwf : xWF σ) : gMet l yX1_digest wsX1_digest ({ frames := 4, cells := 0, slots := 0, locals := 87 } : Room) D (tyXs cI cZ) (XW cI cZ d σ κ) [.ref (d 0)] xEx (fun _ => some (.long (xDig σ))) (fun κ' => True) (fun κ' => XW cI cZ d σ κ') := by
  refine g_start (cc := cX1_digest) (maxL := 5) (ret := (some .long)) (by decide) rfl (Nat.le_of_ble_eq_true rfl) ?_
  intro p e s m args below meth c A ls H locs S hr hlocks hname hP hK hD hA hS hE hl
  have S0 := S
  obtain ⟨hx, hb, hml, hown, hts⟩ := S0
  have hl : lv_has ls 5 [(0, .ref (d 0))] := hl
  have hinX0 : ∀ w ∈ wsX00, w ∈ wsX1_digest := by decide +kernel
  have hinX1 : ∀ w ∈ wsX10, w ∈ wsX1_digest := by decide +kernel
  refine lv_ldc2 (v := 863) hx hb hown (hts _ (List.mem_of_getElem? (i := 1) rfl)) dX1_digest_0 ?_
  refine lv_lstore_n (lv' := [(1, .long ((863 : Int64))), (0, .ref (d 0))]) hx hb dX1_digest_3 rfl hl (by decide) rfl (fun ls hl => ?_)
  refine lv_iconst (v := iI (0)) hx hb dX1_digest_4 rfl ?_
  refine lv_istore_n (lv' := [(3, .int (iI (0))), (1, .long ((863 : Int64))), (0, .ref (d 0))]) hx hb dX1_digest_5 rfl hl (by decide) rfl (fun ls hl => ?_)
  have loop6 : ∀ (n6 : Nat) (i : Int) (x : Int64), (0 ≤ i) → (i ≤ 8) → (8 - i < (n6 : Int)) → (x = dgF (xCount σ) 863 i.toNat) → ∀ (H : Heap) (locs : List Loc) (ls : Array Slot), va_P D vwCl (XW cI cZ d σ κ) H → va_D A (XW cI cZ d σ κ) → va_S A s.heap H locs → lv_has ls 5 [(3, .int (iI (i))), (1, .long (x)), (0, .ref (d 0))] → W p l e ({ frames := 4, cells := 0, slots := 0, locals := 87 } : Room) s m args below meth c H locs 0 0 (MQ below (gQ D (tyXs cI cZ) (fun κ' => XW cI cZ d σ κ') A (fun _ => some (.long (xDig σ))) (fun κ' => True)) args s 0 0 A) (F0 m 6 ls []) := by
    intro n6
    induction n6 with
    | zero =>
      intro i x  hlo6 hhi6 hm6
      omega
    | succ n6 ih6 =>
      intro i x  hlo6 hhi6 hm6 ix H locs ls hP hD hS hl
      refine lv_iload_n hx hb dX1_digest_6 rfl (lv_at hl 0 rfl) ?_
      refine lv_bipush (v := iI (8)) hx hb dX1_digest_7 rfl ?_
      refine gi_icmp_ge (tgt := 31) hx hb dX1_digest_9 (by decide) ⟨by omega, by omega⟩ ⟨by decide, by decide⟩ (fun c9 => ?_) (fun c9 => ?_)
      · skip
        refine lv_iconst (v := iI (0)) hx hb dX1_digest_31 rfl ?_
        refine lv_istore_n (lv' := [(3, .int (iI (0))), (1, .long (x)), (0, .ref (d 0))]) hx hb dX1_digest_32 rfl hl (by decide) rfl (fun ls hl => ?_)
        have loop33 : ∀ (n33 : Nat) (i2 : Int) (x2 : Int64), (0 ≤ i2) → (i2 ≤ 6) → (6 - i2 < (n33 : Int)) → (x2 = dgN (fun a d => dgF (xSort σ a) d 4) (dgC σ) i2.toNat) → ∀ (H : Heap) (locs : List Loc) (ls : Array Slot), va_P D vwCl (XW cI cZ d σ κ) H → va_D A (XW cI cZ d σ κ) → va_S A s.heap H locs → lv_has ls 5 [(3, .int (iI (i2))), (1, .long (x2)), (0, .ref (d 0))] → W p l e ({ frames := 4, cells := 0, slots := 0, locals := 87 } : Room) s m args below meth c H locs 0 0 (MQ below (gQ D (tyXs cI cZ) (fun κ' => XW cI cZ d σ κ') A (fun _ => some (.long (xDig σ))) (fun κ' => True)) args s 0 0 A) (F0 m 33 ls []) := by
          intro n33
          induction n33 with
          | zero =>
            intro i2 x2  hlo33 hhi33 hm33
            omega
          | succ n33 ih33 =>
            intro i2 x2  hlo33 hhi33 hm33 ix2 H locs ls hP hD hS hl
            refine lv_iload_n hx hb dX1_digest_33 rfl (lv_at hl 0 rfl) ?_
            refine lv_bipush (v := iI (6)) hx hb dX1_digest_34 rfl ?_
            refine gi_icmp_ge (tgt := 75) hx hb dX1_digest_36 (by decide) ⟨by omega, by omega⟩ ⟨by decide, by decide⟩ (fun c36 => ?_) (fun c36 => ?_)
            · skip
              refine lv_iconst (v := iI (0)) hx hb dX1_digest_75 rfl ?_
              refine lv_istore_n (lv' := [(3, .int (iI (0))), (1, .long (x2)), (0, .ref (d 0))]) hx hb dX1_digest_76 rfl hl (by decide) rfl (fun ls hl => ?_)
              have loop77 : ∀ (n77 : Nat) (i3 : Int) (x3 : Int64), (0 ≤ i3) → (i3 ≤ 10) → (10 - i3 < (n77 : Int)) → (x3 = dgF (σ 3) (dgSo σ) i3.toNat) → ∀ (H : Heap) (locs : List Loc) (ls : Array Slot), va_P D vwCl (XW cI cZ d σ κ) H → va_D A (XW cI cZ d σ κ) → va_S A s.heap H locs → lv_has ls 5 [(3, .int (iI (i3))), (1, .long (x3)), (0, .ref (d 0))] → W p l e ({ frames := 4, cells := 0, slots := 0, locals := 87 } : Room) s m args below meth c H locs 0 0 (MQ below (gQ D (tyXs cI cZ) (fun κ' => XW cI cZ d σ κ') A (fun _ => some (.long (xDig σ))) (fun κ' => True)) args s 0 0 A) (F0 m 77 ls []) := by
                intro n77
                induction n77 with
                | zero =>
                  intro i3 x3  hlo77 hhi77 hm77
                  omega
                | succ n77 ih77 =>
                  intro i3 x3  hlo77 hhi77 hm77 ix3 H locs ls hP hD hS hl
                  refine lv_iload_n hx hb dX1_digest_77 rfl (lv_at hl 0 rfl) ?_
                  refine lv_bipush (v := iI (10)) hx hb dX1_digest_78 rfl ?_
                  refine gi_icmp_ge (tgt := 103) hx hb dX1_digest_80 (by decide) ⟨by omega, by omega⟩ ⟨by decide, by decide⟩ (fun c80 => ?_) (fun c80 => ?_)
                  · skip
                    refine lv_iconst (v := iI (0)) hx hb dX1_digest_103 rfl ?_
                    refine lv_istore_n (lv' := [(3, .int (iI (0))), (1, .long (x3)), (0, .ref (d 0))]) hx hb dX1_digest_104 rfl hl (by decide) rfl (fun ls hl => ?_)
                    have loop105 : ∀ (n105 : Nat) (i4 : Int) (x4 : Int64) (κ_105 : St), (0 ≤ i4) → (i4 ≤ 40) → (40 - i4 < (n105 : Int)) → (x4 = dgN (fun a d => dgF (xTree σ a) d 6) (dgFr σ) i4.toNat) → ∀ (H : Heap) (locs : List Loc) (ls : Array Slot), va_P D vwCl (XW cI cZ d σ κ_105) H → va_D A (XW cI cZ d σ κ_105) → va_S A s.heap H locs → lv_has ls 5 [(3, .int (iI (i4))), (1, .long (x4)), (0, .ref (d 0))] → W p l e ({ frames := 4, cells := 0, slots := 0, locals := 87 } : Room) s m args below meth c H locs 0 0 (MQ below (gQ D (tyXs cI cZ) (fun κ' => XW cI cZ d σ κ') A (fun _ => some (.long (xDig σ))) (fun κ' => True)) args s 0 0 A) (F0 m 105 ls []) := by
                      intro n105
                      induction n105 with
                      | zero =>
                        intro i4 x4 κ_105 hlo105 hhi105 hm105
                        omega
                      | succ n105 ih105 =>
                        intro i4 x4 κ_105 hlo105 hhi105 hm105 ix4 H locs ls hP hD hS hl
                        refine lv_iload_n hx hb dX1_digest_105 rfl (lv_at hl 0 rfl) ?_
                        refine lv_bipush (v := iI (40)) hx hb dX1_digest_106 rfl ?_
                        refine gi_icmp_ge (tgt := 155) hx hb dX1_digest_108 (by decide) ⟨by omega, by omega⟩ ⟨by decide, by decide⟩ (fun c108 => ?_) (fun c108 => ?_)
                        · skip
                          refine lv_lload_n hx hb dX1_digest_155 rfl (lv_at hl 1 rfl) ?_
                          refine lv_ldc2 (v := 31) hx hb hown (hts _ (List.mem_of_getElem? (i := 2) rfl)) dX1_digest_156 ?_
                          refine lv_lmul hx hb dX1_digest_159 ?_
                          refine lv_aload_n hx hb dX1_digest_160 rfl (lv_at hl 2 rfl) ?_
                          have hPc : va_P D vwCl (XW cI cZ d σ κ_105 ++ []) H := by rw [List.append_nil]; exact hP
                          have hDc : va_D A (XW cI cZ d σ κ_105 ++ []) := by rw [List.append_nil]; exact hD
                          refine g_call (va_runV (As := []) (rest := [.long (x4 * (31 : Int64))]) S ((kX1_tilt l D cI cZ d σ κ_105  ) H.size) (cwV 0 hts gX1_digest_X1_tilt rfl rfl rfl (by decide +kernel) ⟨Nat.le_of_ble_eq_true rfl, Nat.le_of_ble_eq_true rfl⟩) (g_preV xEx_g hK [0, 1] rfl hPc hDc (fun U _ hW => xEx_w hW hE) (q0 := 0) (ci := 1) rfl rfl rfl) rfl rfl hl.1 rfl (lv_room (Nat.le_of_ble_eq_true rfl)) dX1_digest_161 ⟨Nat.le_of_ble_eq_true rfl, Nat.le_of_ble_eq_true rfl⟩) hPc hDc hS hA (fun κ9 H locs hk hP hD hS => ?_)
                          have hk : κ_105 = κ9 := hk.symm
                          subst hk
                          have hP : va_P D vwCl (XW cI cZ d σ κ_105) H := by have h9 : va_P D vwCl (XW cI cZ d σ κ_105 ++ []) H := hP; rw [List.append_nil] at h9; exact h9
                          have hD : va_D A (XW cI cZ d σ κ_105) := by have h9 : va_D A (XW cI cZ d σ κ_105 ++ []) := hD; rw [List.append_nil] at h9; exact h9
                          show W p l e ({ frames := 4, cells := 0, slots := 0, locals := 87 } : Room) s m args below meth c H locs 0 0 (MQ below (gQ D (tyXs cI cZ) (fun κ' => XW cI cZ d σ κ') A (fun _ => some (.long (xDig σ))) (fun κ' => True)) args s 0 0 A) (F0 m 164 ls [.int (iI (σ 9 1)), .long (x4 * (31 : Int64))])
                          refine lv_i2l (v := (iI (σ 9 1)).toInt64) hx hb dX1_digest_164 rfl ?_
                          refine lv_ladd hx hb dX1_digest_165 ?_
                          have er : (xDig σ) = ((x4 * (31 : Int64)) + ((iI (σ 9 1)).toInt64)) := by unfold xDig dgT; rw [show (40 : Nat) = i4.toNat by omega, ← ix4]; rfl
                          exact g_lret (wo := (fun κ' => XW cI cZ d σ κ')) (kr := (fun κ' => True)) (rv := (fun _ => some (.long (xDig σ)))) hx hb hr hlocks κ_105 hP hK hD hS trivial (by rw [er]) (Nat.le_of_ble_eq_true rfl) (Nat.le_of_ble_eq_true rfl) dX1_digest_166
                        · skip
                          refine lv_iconst (v := iI (0)) hx hb dX1_digest_111 rfl ?_
                          refine lv_istore (lv' := [(4, .int (iI (0))), (3, .int (iI (i4))), (1, .long (x4)), (0, .ref (d 0))]) hx hb dX1_digest_112 hl (by decide) rfl (fun ls hl => ?_)
                          have loop114 : ∀ (n114 : Nat) (j4 : Int) (y4 : Int64) (κ_114 : St), (0 ≤ j4) → (j4 ≤ 6) → (6 - j4 < (n114 : Int)) → (y4 = dgF (xTree σ i4) x4 j4.toNat) → ∀ (H : Heap) (locs : List Loc) (ls : Array Slot), va_P D vwCl (XW cI cZ d σ κ_114) H → va_D A (XW cI cZ d σ κ_114) → va_S A s.heap H locs → lv_has ls 5 [(4, .int (iI (j4))), (1, .long (y4)), (3, .int (iI (i4))), (0, .ref (d 0))] → W p l e ({ frames := 4, cells := 0, slots := 0, locals := 87 } : Room) s m args below meth c H locs 0 0 (MQ below (gQ D (tyXs cI cZ) (fun κ' => XW cI cZ d σ κ') A (fun _ => some (.long (xDig σ))) (fun κ' => True)) args s 0 0 A) (F0 m 114 ls []) := by
                            intro n114
                            induction n114 with
                            | zero =>
                              intro j4 y4 κ_114 hlo114 hhi114 hm114
                              omega
                            | succ n114 ih114 =>
                              intro j4 y4 κ_114 hlo114 hhi114 hm114 iy4 H locs ls hP hD hS hl
                              refine lv_iload hx hb dX1_digest_114 (lv_at hl 0 rfl) ?_
                              refine lv_bipush (v := iI (6)) hx hb dX1_digest_116 rfl ?_
                              refine gi_icmp_ge (tgt := 149) hx hb dX1_digest_118 (by decide) ⟨by omega, by omega⟩ ⟨by decide, by decide⟩ (fun c118 => ?_) (fun c118 => ?_)
                              · skip
                                refine lv_iinc (v := iI (i4 + 1)) (lv' := [(3, .int (iI (i4 + 1))), (4, .int (iI (j4))), (1, .long (y4)), (0, .ref (d 0))]) hx hb dX1_digest_149 hl (k := 2) rfl (iI_add _ _) (by decide) rfl (fun ls hl => ?_)
                                refine lv_goto (tgt := 105) hx hb dX1_digest_152 (by decide) ?_
                                exact ih105 (i4 + 1) y4 κ_114 (by omega) (by omega) (by omega) (by rw [dgN_s _ _ hlo105, ← ix4, iy4, show j4.toNat = 6 by omega]) H locs ls hP hD hS (lv_sub hl [0, 2, 3] rfl)
                              · skip
                                refine lv_lload_n hx hb dX1_digest_121 rfl (lv_at hl 1 rfl) ?_
                                refine lv_ldc2 (v := 31) hx hb hown (hts _ (List.mem_of_getElem? (i := 2) rfl)) dX1_digest_122 ?_
                                refine lv_lmul hx hb dX1_digest_125 ?_
                                refine lv_aload_n hx hb dX1_digest_126 rfl (lv_at hl 3 rfl) ?_
                                refine lv_iload_n hx hb dX1_digest_127 rfl (lv_at hl 2 rfl) ?_
                                refine lv_bipush (v := iI (8)) hx hb dX1_digest_128 rfl ?_
                                refine gi_div hx hb ⟨by omega, by omega⟩ ⟨by omega, by omega⟩ dX1_digest_130 ?_
                                refine lv_iload_n hx hb dX1_digest_131 rfl (lv_at hl 2 rfl) ?_
                                refine lv_bipush (v := iI (8)) hx hb dX1_digest_132 rfl ?_
                                refine gi_rem hx hb ⟨by omega, by omega⟩ ⟨by omega, by omega⟩ dX1_digest_134 ?_
                                refine lv_iload hx hb dX1_digest_135 (lv_at hl 0 rfl) ?_
                                have hPc : va_P D vwCl (XW cI cZ d σ κ_114 ++ []) H := by rw [List.append_nil]; exact hP
                                have hDc : va_D A (XW cI cZ d σ κ_114 ++ []) := by rw [List.append_nil]; exact hD
                                refine g_call (va_runV (As := [.int (iI (i4 / 8)), .int (iI (i4 % 8)), .int (iI (j4))]) (rest := [.long (y4 * (31 : Int64))]) S ((kX1_tree0 l D cI cZ d σ κ_114 (i4 / 8) (i4 % 8) j4 (by first | assumption | omega) (by first | assumption | omega) (by first | assumption | omega) (by first | assumption | omega) (by first | assumption | omega) (by first | assumption | omega) (by first | assumption | omega) (by first | assumption | omega)) H.size) (cwV 3 hts gX1_digest_X1_tree rfl rfl rfl (by decide +kernel) ⟨Nat.le_of_ble_eq_true rfl, Nat.le_of_ble_eq_true rfl⟩) (g_preV xEx_g hK [0, 1] rfl hPc hDc (fun U _ hW => xEx_w hW hE) (q0 := 0) (ci := 1) rfl rfl rfl) rfl rfl hl.1 rfl (lv_room (Nat.le_of_ble_eq_true rfl)) dX1_digest_137 ⟨Nat.le_of_ble_eq_true rfl, Nat.le_of_ble_eq_true rfl⟩) hPc hDc hS hA (fun κ9 H locs hk hP hD hS => ?_)
                                obtain ⟨κ_1, rfl⟩ : ∃ z, z = κ9 := ⟨_, rfl⟩
                                have hP : va_P D vwCl (XW cI cZ d σ κ_1) H := by have h9 : va_P D vwCl (XW cI cZ d σ κ_1 ++ []) H := hP; rw [List.append_nil] at h9; exact h9
                                have hD : va_D A (XW cI cZ d σ κ_1) := by have h9 : va_D A (XW cI cZ d σ κ_1 ++ []) := hD; rw [List.append_nil] at h9; exact h9
                                show W p l e ({ frames := 4, cells := 0, slots := 0, locals := 87 } : Room) s m args below meth c H locs 0 0 (MQ below (gQ D (tyXs cI cZ) (fun κ' => XW cI cZ d σ κ') A (fun _ => some (.long (xDig σ))) (fun κ' => True)) args s 0 0 A) (F0 m 140 ls [.int (iI (xTree σ ((i4 / 8) * 8 + (i4 % 8)) j4)), .long (y4 * (31 : Int64))])
                                refine lv_i2l (v := (iI (xTree σ ((i4 / 8) * 8 + (i4 % 8)) j4)).toInt64) hx hb dX1_digest_140 rfl ?_
                                refine lv_ladd hx hb dX1_digest_141 ?_
                                refine lv_lstore_n (lv' := [(1, .long ((y4 * (31 : Int64)) + ((iI (xTree σ ((i4 / 8) * 8 + (i4 % 8)) j4)).toInt64))), (4, .int (iI (j4))), (3, .int (iI (i4))), (0, .ref (d 0))]) hx hb dX1_digest_142 rfl hl (by decide) rfl (fun ls hl => ?_)
                                refine lv_iinc (v := iI (j4 + 1)) (lv' := [(4, .int (iI (j4 + 1))), (1, .long ((y4 * (31 : Int64)) + ((iI (xTree σ ((i4 / 8) * 8 + (i4 % 8)) j4)).toInt64))), (3, .int (iI (i4))), (0, .ref (d 0))]) hx hb dX1_digest_143 hl (k := 1) rfl (iI_add _ _) (by decide) rfl (fun ls hl => ?_)
                                refine lv_goto (tgt := 114) hx hb dX1_digest_146 (by decide) ?_
                                exact ih114 (j4 + 1) ((y4 * (31 : Int64)) + ((iI (xTree σ ((i4 / 8) * 8 + (i4 % 8)) j4)).toInt64)) κ_1 (by omega) (by omega) (by omega) (by rw [dgF_s _ _ hlo114, ← iy4, show i4 / 8 * 8 + i4 % 8 = i4 by omega]; rfl) H locs ls hP hD hS (lv_sub hl [0, 1, 2, 3] rfl)
                          exact loop114 (((6 - (0) + 1 : Int)).toNat) 0 x4 κ_105 (by omega) (by omega) (by omega) (by rfl) H locs ls hP hD hS (lv_sub hl [0, 2, 1, 3] rfl)
                    exact loop105 (((40 - (0) + 1 : Int)).toNat) 0 x3 κ (by omega) (by omega) (by omega) (by rw [ix3, show i3.toNat = 10 by omega]; rfl) H locs ls hP hD hS (lv_sub hl [0, 1, 2] rfl)
                  · skip
                    refine lv_lload_n hx hb dX1_digest_83 rfl (lv_at hl 1 rfl) ?_
                    refine lv_ldc2 (v := 31) hx hb hown (hts _ (List.mem_of_getElem? (i := 2) rfl)) dX1_digest_84 ?_
                    refine lv_lmul hx hb dX1_digest_87 ?_
                    refine lv_aload_n hx hb dX1_digest_88 rfl (lv_at hl 2 rfl) ?_
                    refine va_get (D := D) (ci := 1) (v := .ref (d 4)) (C := RX1) (T := TX1) (N := 13) hx hb hts hinX1 hown hK hP 0 rfl rfl 3 (by decide) (hts (.fieldLink RX1 19 "TwinOrchard" "frosts" "[I") (List.mem_of_getElem? (i := 3) rfl)) (fun _ h9 => h9) rfl dX1_digest_89 ?_
                    refine lv_iload_n hx hb dX1_digest_92 rfl (lv_at hl 0 rfl) ?_
                    refine gi_iald (a := d 4) (n := 10) (f := σ 3) hx hb hK hP 4 0 rfl rfl (by omega) (by omega) (by decide) dX1_digest_93 ?_
                    refine lv_i2l (v := (iI (σ 3 i3)).toInt64) hx hb dX1_digest_94 rfl ?_
                    refine lv_ladd hx hb dX1_digest_95 ?_
                    refine lv_lstore_n (lv' := [(1, .long ((x3 * (31 : Int64)) + ((iI (σ 3 i3)).toInt64))), (3, .int (iI (i3))), (0, .ref (d 0))]) hx hb dX1_digest_96 rfl hl (by decide) rfl (fun ls hl => ?_)
                    refine lv_iinc (v := iI (i3 + 1)) (lv' := [(3, .int (iI (i3 + 1))), (1, .long ((x3 * (31 : Int64)) + ((iI (σ 3 i3)).toInt64))), (0, .ref (d 0))]) hx hb dX1_digest_97 hl (k := 1) rfl (iI_add _ _) (by decide) rfl (fun ls hl => ?_)
                    refine lv_goto (tgt := 77) hx hb dX1_digest_100 (by decide) ?_
                    exact ih77 (i3 + 1) ((x3 * (31 : Int64)) + ((iI (σ 3 i3)).toInt64))  (by omega) (by omega) (by omega) (by rw [dgF_s _ _ hlo77, ← ix3]; rfl) H locs ls hP hD hS (lv_sub hl [0, 1, 2] rfl)
              exact loop77 (((10 - (0) + 1 : Int)).toNat) 0 x2  (by omega) (by omega) (by omega) (by rw [ix2, show i2.toNat = 6 by omega]; rfl) H locs ls hP hD hS (lv_sub hl [0, 1, 2] rfl)
            · skip
              refine lv_iconst (v := iI (0)) hx hb dX1_digest_39 rfl ?_
              refine lv_istore (lv' := [(4, .int (iI (0))), (3, .int (iI (i2))), (1, .long (x2)), (0, .ref (d 0))]) hx hb dX1_digest_40 hl (by decide) rfl (fun ls hl => ?_)
              have loop42 : ∀ (n42 : Nat) (j2 : Int) (y2 : Int64), (0 ≤ j2) → (j2 ≤ 4) → (4 - j2 < (n42 : Int)) → (y2 = dgF (xSort σ i2) x2 j2.toNat) → ∀ (H : Heap) (locs : List Loc) (ls : Array Slot), va_P D vwCl (XW cI cZ d σ κ) H → va_D A (XW cI cZ d σ κ) → va_S A s.heap H locs → lv_has ls 5 [(4, .int (iI (j2))), (1, .long (y2)), (3, .int (iI (i2))), (0, .ref (d 0))] → W p l e ({ frames := 4, cells := 0, slots := 0, locals := 87 } : Room) s m args below meth c H locs 0 0 (MQ below (gQ D (tyXs cI cZ) (fun κ' => XW cI cZ d σ κ') A (fun _ => some (.long (xDig σ))) (fun κ' => True)) args s 0 0 A) (F0 m 42 ls []) := by
                intro n42
                induction n42 with
                | zero =>
                  intro j2 y2  hlo42 hhi42 hm42
                  omega
                | succ n42 ih42 =>
                  intro j2 y2  hlo42 hhi42 hm42 iy2 H locs ls hP hD hS hl
                  refine lv_iload hx hb dX1_digest_42 (lv_at hl 0 rfl) ?_
                  refine lv_iconst (v := iI (4)) hx hb dX1_digest_44 rfl ?_
                  refine gi_icmp_ge (tgt := 69) hx hb dX1_digest_45 (by decide) ⟨by omega, by omega⟩ ⟨by decide, by decide⟩ (fun c45 => ?_) (fun c45 => ?_)
                  · skip
                    refine lv_iinc (v := iI (i2 + 1)) (lv' := [(3, .int (iI (i2 + 1))), (4, .int (iI (j2))), (1, .long (y2)), (0, .ref (d 0))]) hx hb dX1_digest_69 hl (k := 2) rfl (iI_add _ _) (by decide) rfl (fun ls hl => ?_)
                    refine lv_goto (tgt := 33) hx hb dX1_digest_72 (by decide) ?_
                    exact ih33 (i2 + 1) y2  (by omega) (by omega) (by omega) (by rw [dgN_s _ _ hlo33, ← ix2, iy2, show j2.toNat = 4 by omega]) H locs ls hP hD hS (lv_sub hl [0, 2, 3] rfl)
                  · skip
                    refine lv_lload_n hx hb dX1_digest_48 rfl (lv_at hl 1 rfl) ?_
                    refine lv_ldc2 (v := 31) hx hb hown (hts _ (List.mem_of_getElem? (i := 2) rfl)) dX1_digest_49 ?_
                    refine lv_lmul hx hb dX1_digest_52 ?_
                    refine lv_aload_n hx hb dX1_digest_53 rfl (lv_at hl 3 rfl) ?_
                    refine lv_iload_n hx hb dX1_digest_54 rfl (lv_at hl 2 rfl) ?_
                    refine lv_iload hx hb dX1_digest_55 (lv_at hl 0 rfl) ?_
                    have hPc : va_P D vwCl (XW cI cZ d σ κ ++ []) H := by rw [List.append_nil]; exact hP
                    have hDc : va_D A (XW cI cZ d σ κ ++ []) := by rw [List.append_nil]; exact hD
                    refine g_call (va_runV (As := [.int (iI (i2)), .int (iI (j2))]) (rest := [.long (y2 * (31 : Int64))]) S ((kX1_sort0 l D cI cZ d σ κ i2 j2 (by first | assumption | omega) (by first | assumption | omega) (by first | assumption | omega) (by first | assumption | omega) (by first | assumption | omega) (by first | assumption | omega)) H.size) (cwV 2 hts gX1_digest_X1_sort rfl rfl rfl (by decide +kernel) ⟨Nat.le_of_ble_eq_true rfl, Nat.le_of_ble_eq_true rfl⟩) (g_preV xEx_g hK [0, 1] rfl hPc hDc (fun U _ hW => xEx_w hW hE) (q0 := 0) (ci := 1) rfl rfl rfl) rfl rfl hl.1 rfl (lv_room (Nat.le_of_ble_eq_true rfl)) dX1_digest_57 ⟨Nat.le_of_ble_eq_true rfl, Nat.le_of_ble_eq_true rfl⟩) hPc hDc hS hA (fun κ9 H locs hk hP hD hS => ?_)
                    have hk : κ = κ9 := hk.symm
                    subst hk
                    have hP : va_P D vwCl (XW cI cZ d σ κ) H := by have h9 : va_P D vwCl (XW cI cZ d σ κ ++ []) H := hP; rw [List.append_nil] at h9; exact h9
                    have hD : va_D A (XW cI cZ d σ κ) := by have h9 : va_D A (XW cI cZ d σ κ ++ []) := hD; rw [List.append_nil] at h9; exact h9
                    show W p l e ({ frames := 4, cells := 0, slots := 0, locals := 87 } : Room) s m args below meth c H locs 0 0 (MQ below (gQ D (tyXs cI cZ) (fun κ' => XW cI cZ d σ κ') A (fun _ => some (.long (xDig σ))) (fun κ' => True)) args s 0 0 A) (F0 m 60 ls [.int (iI (xSort σ i2 j2)), .long (y2 * (31 : Int64))])
                    refine lv_i2l (v := (iI (xSort σ i2 j2)).toInt64) hx hb dX1_digest_60 rfl ?_
                    refine lv_ladd hx hb dX1_digest_61 ?_
                    refine lv_lstore_n (lv' := [(1, .long ((y2 * (31 : Int64)) + ((iI (xSort σ i2 j2)).toInt64))), (4, .int (iI (j2))), (3, .int (iI (i2))), (0, .ref (d 0))]) hx hb dX1_digest_62 rfl hl (by decide) rfl (fun ls hl => ?_)
                    refine lv_iinc (v := iI (j2 + 1)) (lv' := [(4, .int (iI (j2 + 1))), (1, .long ((y2 * (31 : Int64)) + ((iI (xSort σ i2 j2)).toInt64))), (3, .int (iI (i2))), (0, .ref (d 0))]) hx hb dX1_digest_63 hl (k := 1) rfl (iI_add _ _) (by decide) rfl (fun ls hl => ?_)
                    refine lv_goto (tgt := 42) hx hb dX1_digest_66 (by decide) ?_
                    exact ih42 (j2 + 1) ((y2 * (31 : Int64)) + ((iI (xSort σ i2 j2)).toInt64))  (by omega) (by omega) (by omega) (by rw [dgF_s _ _ hlo42, ← iy2]; rfl) H locs ls hP hD hS (lv_sub hl [0, 1, 2, 3] rfl)
              exact loop42 (((4 - (0) + 1 : Int)).toNat) 0 x2  (by omega) (by omega) (by omega) (by rfl) H locs ls hP hD hS (lv_sub hl [0, 2, 1, 3] rfl)
        exact loop33 (((6 - (0) + 1 : Int)).toNat) 0 x  (by omega) (by omega) (by omega) (by rw [ix, show i.toNat = 8 by omega]; rfl) H locs ls hP hD hS (lv_sub hl [0, 1, 2] rfl)
      · skip
        refine lv_lload_n hx hb dX1_digest_12 rfl (lv_at hl 1 rfl) ?_
        refine lv_ldc2 (v := 31) hx hb hown (hts _ (List.mem_of_getElem? (i := 2) rfl)) dX1_digest_13 ?_
        refine lv_lmul hx hb dX1_digest_16 ?_
        refine lv_aload_n hx hb dX1_digest_17 rfl (lv_at hl 2 rfl) ?_
        refine lv_iload_n hx hb dX1_digest_18 rfl (lv_at hl 0 rfl) ?_
        have hPc : va_P D vwCl (XW cI cZ d σ κ ++ []) H := by rw [List.append_nil]; exact hP
        have hDc : va_D A (XW cI cZ d σ κ ++ []) := by rw [List.append_nil]; exact hD
        refine g_call (va_runV (As := [.int (iI (i))]) (rest := [.long (x * (31 : Int64))]) S ((kX1_count0 l D cI cZ d σ κ i (by first | assumption | omega) (by first | assumption | omega) (by first | assumption | omega) (by first | assumption | omega)) H.size) (cwV 1 hts gX1_digest_X1_count rfl rfl rfl (by decide +kernel) ⟨Nat.le_of_ble_eq_true rfl, Nat.le_of_ble_eq_true rfl⟩) (g_preV xEx_g hK [0, 1] rfl hPc hDc (fun U _ hW => xEx_w hW hE) (q0 := 0) (ci := 1) rfl rfl rfl) rfl rfl hl.1 rfl (lv_room (Nat.le_of_ble_eq_true rfl)) dX1_digest_19 ⟨Nat.le_of_ble_eq_true rfl, Nat.le_of_ble_eq_true rfl⟩) hPc hDc hS hA (fun κ9 H locs hk hP hD hS => ?_)
        have hk : κ = κ9 := hk.symm
        subst hk
        have hP : va_P D vwCl (XW cI cZ d σ κ) H := by have h9 : va_P D vwCl (XW cI cZ d σ κ ++ []) H := hP; rw [List.append_nil] at h9; exact h9
        have hD : va_D A (XW cI cZ d σ κ) := by have h9 : va_D A (XW cI cZ d σ κ ++ []) := hD; rw [List.append_nil] at h9; exact h9
        show W p l e ({ frames := 4, cells := 0, slots := 0, locals := 87 } : Room) s m args below meth c H locs 0 0 (MQ below (gQ D (tyXs cI cZ) (fun κ' => XW cI cZ d σ κ') A (fun _ => some (.long (xDig σ))) (fun κ' => True)) args s 0 0 A) (F0 m 22 ls [.int (iI (xCount σ i)), .long (x * (31 : Int64))])
        refine lv_i2l (v := (iI (xCount σ i)).toInt64) hx hb dX1_digest_22 rfl ?_
        refine lv_ladd hx hb dX1_digest_23 ?_
        refine lv_lstore_n (lv' := [(1, .long ((x * (31 : Int64)) + ((iI (xCount σ i)).toInt64))), (3, .int (iI (i))), (0, .ref (d 0))]) hx hb dX1_digest_24 rfl hl (by decide) rfl (fun ls hl => ?_)
        refine lv_iinc (v := iI (i + 1)) (lv' := [(3, .int (iI (i + 1))), (1, .long ((x * (31 : Int64)) + ((iI (xCount σ i)).toInt64))), (0, .ref (d 0))]) hx hb dX1_digest_25 hl (k := 1) rfl (iI_add _ _) (by decide) rfl (fun ls hl => ?_)
        refine lv_goto (tgt := 6) hx hb dX1_digest_28 (by decide) ?_
        exact ih6 (i + 1) ((x * (31 : Int64)) + ((iI (xCount σ i)).toInt64))  (by omega) (by omega) (by omega) (by rw [dgF_s _ _ hlo6, ← ix]; rfl) H locs ls hP hD hS (lv_sub hl [0, 1, 2] rfl)
  exact loop6 (((8 - (0) + 1 : Int)).toNat) 0 (863 : Int64)  (by omega) (by omega) (by omega) (by rfl) H locs ls hP hD hS (lv_sub hl [0, 1, 2] rfl)
set_option maxHeartbeats 4000000 in
set_option maxRecDepth 100000 in
theorem kX1_mean (l : Launch) (D : va_G) (cI cZ : ClassId) (d : Nat → Nat) (σ κ : St)   (hwf : xWF σ) : gMet l yX1_mean wsX1_mean ({ frames := 2, cells := 0, slots := 0, locals := 43 } : Room) D (tyXs cI cZ) (XW cI cZ d σ κ) [.ref (d 0)] xEx (fun _ => some (.double (xMean σ))) (fun κ' => κ' = κ) (fun κ' => XW cI cZ d σ κ') := by
  refine g_start (cc := cX1_mean) (maxL := 4) (ret := (some .double)) (by decide) rfl (Nat.le_of_ble_eq_true rfl) ?_
  intro p e s m args below meth c A ls H locs S hr hlocks hname hP hK hD hA hS hE hl
  have S0 := S
  obtain ⟨hx, hb, hml, hown, hts⟩ := S0
  have hl : lv_has ls 4 [(0, .ref (d 0))] := hl
  have hinX1 : ∀ w ∈ wsX10, w ∈ wsX1_mean := by decide +kernel
  have kT := xTrees_in σ
  have kB := xBran_in hwf
  refine lv_aload_n hx hb dX1_mean_0 rfl (lv_at hl 0 rfl) ?_
  have hPc : va_P D vwCl (XW cI cZ d σ κ ++ []) H := by rw [List.append_nil]; exact hP
  have hDc : va_D A (XW cI cZ d σ κ ++ []) := by rw [List.append_nil]; exact hD
  refine g_call (va_runV (As := []) (rest := []) S ((kX1_allTrees l D cI cZ d σ κ  (by first | assumption | omega)) H.size) (cwV 0 hts gX1_mean_X1_allTrees rfl rfl rfl (by decide +kernel) ⟨Nat.le_of_ble_eq_true rfl, Nat.le_of_ble_eq_true rfl⟩) (g_preV xEx_g hK [0, 1] rfl hPc hDc (fun U _ hW => xEx_w hW hE) (q0 := 0) (ci := 1) rfl rfl rfl) rfl rfl hl.1 rfl (lv_room (Nat.le_of_ble_eq_true rfl)) dX1_mean_1 ⟨Nat.le_of_ble_eq_true rfl, Nat.le_of_ble_eq_true rfl⟩) hPc hDc hS hA (fun κ9 H locs hk hP hD hS => ?_)
  have hk : κ = κ9 := hk.symm
  subst hk
  have hP : va_P D vwCl (XW cI cZ d σ κ) H := by have h9 : va_P D vwCl (XW cI cZ d σ κ ++ []) H := hP; rw [List.append_nil] at h9; exact h9
  have hD : va_D A (XW cI cZ d σ κ) := by have h9 : va_D A (XW cI cZ d σ κ ++ []) := hD; rw [List.append_nil] at h9; exact h9
  show W p l e ({ frames := 2, cells := 0, slots := 0, locals := 43 } : Room) s m args below meth c H locs 0 0 (MQ below (gQ D (tyXs cI cZ) (fun κ' => XW cI cZ d σ κ') A (fun _ => some (.double (xMean σ))) (fun κ' => κ' = κ)) args s 0 0 A) (F0 m 4 ls [.int (iI (isumI (fun j => bI (¬ σ 4 j = -1)) 40))])
  refine lv_istore_n (lv' := [(1, .int (iI (isumI (fun j => bI (¬ σ 4 j = -1)) 40))), (0, .ref (d 0))]) hx hb dX1_mean_4 rfl hl (by decide) rfl (fun ls hl => ?_)
  have iT : isumI (fun j => bI (¬ σ 4 j = -1)) 40 = xTrees σ := rfl
  refine lv_iload_n hx hb dX1_mean_5 rfl (lv_at hl 0 rfl) ?_
  refine gi_if_ne (tgt := 11) hx hb dX1_mean_6 (by decide) ⟨by omega, by omega⟩ (fun c6 => ?_) (fun c6 => ?_)
  · skip
    refine lv_iconst (v := iI (0)) hx hb dX1_mean_11 rfl ?_
    refine lv_istore_n (lv' := [(2, .int (iI (0))), (1, .int (iI (isumI (fun j => bI (¬ σ 4 j = -1)) 40))), (0, .ref (d 0))]) hx hb dX1_mean_12 rfl hl (by decide) rfl (fun ls hl => ?_)
    refine lv_iconst (v := iI (0)) hx hb dX1_mean_13 rfl ?_
    refine lv_istore_n (lv' := [(3, .int (iI (0))), (2, .int (iI (0))), (1, .int (iI (isumI (fun j => bI (¬ σ 4 j = -1)) 40))), (0, .ref (d 0))]) hx hb dX1_mean_14 rfl hl (by decide) rfl (fun ls hl => ?_)
    have loop15 : ∀ (n15 : Nat) (i : Int) (a : Int), (0 ≤ i) → (i ≤ 40) → (40 - i < (n15 : Int)) → (a = isumI (σ 5) i) → ∀ (H : Heap) (locs : List Loc) (ls : Array Slot), va_P D vwCl (XW cI cZ d σ κ) H → va_D A (XW cI cZ d σ κ) → va_S A s.heap H locs → lv_has ls 4 [(3, .int (iI (i))), (2, .int (iI (a))), (1, .int (iI (isumI (fun j => bI (¬ σ 4 j = -1)) 40))), (0, .ref (d 0))] → W p l e ({ frames := 2, cells := 0, slots := 0, locals := 43 } : Room) s m args below meth c H locs 0 0 (MQ below (gQ D (tyXs cI cZ) (fun κ' => XW cI cZ d σ κ') A (fun _ => some (.double (xMean σ))) (fun κ' => κ' = κ)) args s 0 0 A) (F0 m 15 ls []) := by
      intro n15
      induction n15 with
      | zero =>
        intro i a  hlo15 hhi15 hm15
        omega
      | succ n15 ih15 =>
        intro i a  hlo15 hhi15 hm15 ia15 H locs ls hP hD hS hl
        refine lv_iload_n hx hb dX1_mean_15 rfl (lv_at hl 0 rfl) ?_
        refine lv_bipush (v := iI (40)) hx hb dX1_mean_16 rfl ?_
        refine gi_icmp_ge (tgt := 36) hx hb dX1_mean_18 (by decide) ⟨by omega, by omega⟩ ⟨by decide, by decide⟩ (fun c18 => ?_) (fun c18 => ?_)
        · skip
          have iB : a = xBran σ := by rw [ia15, show i = 40 by omega]; rfl
          have nn : vf_n64 (FP.ddiv (FP.i2d (iI a)) (FP.i2d (iI (isumI (fun j => bI (¬ σ 4 j = -1)) 40)))) := by rw [iB, iT]; exact mn_ok kB (by omega)
          refine lv_iload_n hx hb dX1_mean_36 rfl (lv_at hl 1 rfl) ?_
          refine lv_i2d hx hb dX1_mean_37 ?_
          refine lv_iload_n hx hb dX1_mean_38 rfl (lv_at hl 2 rfl) ?_
          refine lv_i2d hx hb dX1_mean_39 ?_
          refine lv_ddiv hx hb dX1_mean_40 nn ?_
          have er : (xMean σ) = (FP.ddiv (FP.i2d (iI (a))) (FP.i2d (iI (isumI (fun j => bI (¬ σ 4 j = -1)) 40)))) := by unfold xMean; rw [if_neg (by omega), ← iB]; rfl
          exact g_dret (wo := (fun κ' => XW cI cZ d σ κ')) (kr := (fun κ' => κ' = κ)) (rv := (fun _ => some (.double (xMean σ)))) hx hb hr hlocks κ hP hK hD hS rfl (by rw [er]) (Nat.le_of_ble_eq_true rfl) (Nat.le_of_ble_eq_true rfl) dX1_mean_41
        · skip
          refine lv_iload_n hx hb dX1_mean_21 rfl (lv_at hl 1 rfl) ?_
          refine lv_aload_n hx hb dX1_mean_22 rfl (lv_at hl 3 rfl) ?_
          refine va_get (D := D) (ci := 1) (v := .ref (d 6)) (C := RX1) (T := TX1) (N := 13) hx hb hts hinX1 hown hK hP 0 rfl rfl 5 (by decide) (hts (.fieldLink RX1 25 "TwinOrchard" "branches" "[I") (List.mem_of_getElem? (i := 1) rfl)) (fun _ h9 => h9) rfl dX1_mean_23 ?_
          refine lv_iload_n hx hb dX1_mean_26 rfl (lv_at hl 0 rfl) ?_
          refine gi_iald (a := d 6) (n := 40) (f := σ 5) hx hb hK hP 6 0 rfl rfl (by omega) (by omega) (by decide) dX1_mean_27 ?_
          refine gi_add hx hb dX1_mean_28 ?_
          refine lv_istore_n (lv' := [(2, .int (iI (a + (σ 5 i)))), (3, .int (iI (i))), (1, .int (iI (isumI (fun j => bI (¬ σ 4 j = -1)) 40))), (0, .ref (d 0))]) hx hb dX1_mean_29 rfl hl (by decide) rfl (fun ls hl => ?_)
          refine lv_iinc (v := iI (i + 1)) (lv' := [(3, .int (iI (i + 1))), (2, .int (iI (a + (σ 5 i)))), (1, .int (iI (isumI (fun j => bI (¬ σ 4 j = -1)) 40))), (0, .ref (d 0))]) hx hb dX1_mean_30 hl (k := 1) rfl (iI_add _ _) (by decide) rfl (fun ls hl => ?_)
          refine lv_goto (tgt := 15) hx hb dX1_mean_33 (by decide) ?_
          exact ih15 (i + 1) (a + (σ 5 i))  (by omega) (by omega) (by omega) (by rw [isumI_s _ hlo15, ia15]) H locs ls hP hD hS (lv_sub hl [0, 1, 2, 3] rfl)
    exact loop15 (((40 - (0) + 1 : Int)).toNat) 0 0  (by omega) (by omega) (by omega) (by rw [isumI_0]) H locs ls hP hD hS (lv_sub hl [0, 1, 2, 3] rfl)
  · skip
    refine lv_dconst0 hx hb dX1_mean_9 ?_
    have er : (xMean σ) = (FP.dconst0) := by unfold xMean; rw [if_pos (by omega)]
    exact g_dret (wo := (fun κ' => XW cI cZ d σ κ')) (kr := (fun κ' => κ' = κ)) (rv := (fun _ => some (.double (xMean σ)))) hx hb hr hlocks κ hP hK hD hS rfl (by rw [er]) (Nat.le_of_ble_eq_true rfl) (Nat.le_of_ble_eq_true rfl) dX1_mean_10
