set_option maxHeartbeats 4000000 in
set_option maxRecDepth 100000 in
theorem kX1_setSort (l : Launch) (hfl : l.stackTraces = false) (D : va_G) (cI cZ : ClassId) (d : Nat → Nat) (σ κ : St)  (a0 : Int) (w0 : Int) (b0 : Int) (hwf : xWF σ) (hl_a0 : -2147483648 ≤ a0) (hh_a0 : a0 ≤ 2147483647) (hl_w0 : -2147483648 ≤ w0) (hh_w0 : w0 ≤ 2147483647) (hl_b0 : -2147483648 ≤ b0) (hh_b0 : b0 ≤ 2147483647) : hMet l yX1_setSort wsX1_setSort ({ frames := 6, cells := 1, slots := 6, locals := 92 } : Room) D (tyXs cI cZ) (XW cI cZ d σ κ) [.ref (d 0), .int (iI a0), .int (iI w0), .int (iI b0)] (fun _ => some (.int (iI (10 * σ 0 a0 + σ 1 a0)))) (fun κ' => (tSetSort a0 w0 b0) = 0 ∧ (κ' = κ)) (fun κ' => XW cI cZ d (xSetSort σ a0 w0 b0) κ') (fun E => (E = eI ∧ (tSetSort a0 w0 b0) = 1) ∨ (E = eA ∧ (tSetSort a0 w0 b0) = 2)) := by
  refine h_start (cc := cX1_setSort) (maxL := 5) (ret := (some .int)) (by decide) rfl (Nat.le_of_ble_eq_true rfl) ?_
  intro p e s m args below meth c A ls H locs S hr hlocks hT hP hK hD hA hS hTE hl
  have hE := hTE.1
  have S0 := S
  obtain ⟨hx, hb, hml, hown, hts⟩ := S0
  have hl : lv_has ls 5 [(0, .ref (d 0)), (1, .int (iI (a0))), (2, .int (iI (w0))), (3, .int (iI (b0)))] := hl
  have hinX1 : ∀ w ∈ wsX10, w ∈ wsX1_setSort := by decide +kernel
  refine lv_iload_n hx hb dX1_setSort_0 rfl (lv_at hl 1 rfl) ?_
  have hPc : va_P D vwCl ([] ++ XW cI cZ d σ κ) H := hP
  have hDc : va_D A ([] ++ XW cI cZ d σ κ) := hD
  refine g_call (va_runS (As := [.int (iI (a0))]) (rest := []) S ((kX1_isSort l D  a0 (by first | assumption | omega) (by first | assumption | omega)) H.size) (va_cwS 1 hts gX1_setSort_X1_isSort rfl rfl rfl (by decide +kernel) ⟨Nat.le_of_ble_eq_true rfl, Nat.le_of_ble_eq_true rfl⟩) (g_preS gEx_t hK [] rfl hPc hDc (fun _ _ _ => trivial)) rfl rfl hl.1 rfl (lv_room (Nat.le_of_ble_eq_true rfl)) dX1_setSort_1 ⟨Nat.le_of_ble_eq_true rfl, Nat.le_of_ble_eq_true rfl⟩) hPc hDc hS hA (fun κ9 H locs hk hP hD hS => ?_)
  have hP : va_P D vwCl (XW cI cZ d σ κ) H := hP
  have hD : va_D A (XW cI cZ d σ κ) := hD
  show W p l e ({ frames := 6, cells := 1, slots := 6, locals := 92 } : Room) s m args below meth c H locs 0 0 (vx_MQ below (gQ D (tyXs cI cZ) (fun κ' => XW cI cZ d (xSetSort σ a0 w0 b0) κ') A (fun _ => some (.int (iI (10 * σ 0 a0 + σ 1 a0)))) (fun κ' => (tSetSort a0 w0 b0) = 0 ∧ (κ' = κ))) (gX D (tyXs cI cZ) (XW cI cZ d σ κ) A (fun E => (E = eI ∧ (tSetSort a0 w0 b0) = 1) ∨ (E = eA ∧ (tSetSort a0 w0 b0) = 2))) args s 1 6 A) (F0 m 4 ls [.int (iI (bI (0 ≤ a0 ∧ a0 ≤ 5)))])
  refine gb_if_ne (tgt := 17) hx hb dX1_setSort_4 (by decide)  (fun c4 => ?_) (fun c4 => ?_)
  · skip
    refine lv_iload_n hx hb dX1_setSort_17 rfl (lv_at hl 2 rfl) ?_
    refine lv_iconst (v := iI (1)) hx hb dX1_setSort_18 rfl ?_
    refine lv_bipush (v := iI (9)) hx hb dX1_setSort_19 rfl ?_
    have hPc : va_P D vwCl ([] ++ XW cI cZ d σ κ) H := hP
    have hDc : va_D A ([] ++ XW cI cZ d σ κ) := hD
    refine g_call (va_runS (As := [.int (iI (w0)), .int (iI (1)), .int (iI (9))]) (rest := []) S ((kX1_isWithin l D  w0 1 9 (by first | assumption | omega) (by first | assumption | omega) (by first | assumption | omega) (by first | assumption | omega) (by first | assumption | omega) (by first | assumption | omega)) H.size) (va_cwS 3 hts gX1_setSort_X1_isWithin rfl rfl rfl (by decide +kernel) ⟨Nat.le_of_ble_eq_true rfl, Nat.le_of_ble_eq_true rfl⟩) (g_preS gEx_t hK [] rfl hPc hDc (fun _ _ _ => trivial)) rfl rfl hl.1 rfl (lv_room (Nat.le_of_ble_eq_true rfl)) dX1_setSort_21 ⟨Nat.le_of_ble_eq_true rfl, Nat.le_of_ble_eq_true rfl⟩) hPc hDc hS hA (fun κ9 H locs hk hP hD hS => ?_)
    have hP : va_P D vwCl (XW cI cZ d σ κ) H := hP
    have hD : va_D A (XW cI cZ d σ κ) := hD
    show W p l e ({ frames := 6, cells := 1, slots := 6, locals := 92 } : Room) s m args below meth c H locs 0 0 (vx_MQ below (gQ D (tyXs cI cZ) (fun κ' => XW cI cZ d (xSetSort σ a0 w0 b0) κ') A (fun _ => some (.int (iI (10 * σ 0 a0 + σ 1 a0)))) (fun κ' => (tSetSort a0 w0 b0) = 0 ∧ (κ' = κ))) (gX D (tyXs cI cZ) (XW cI cZ d σ κ) A (fun E => (E = eI ∧ (tSetSort a0 w0 b0) = 1) ∨ (E = eA ∧ (tSetSort a0 w0 b0) = 2))) args s 1 6 A) (F0 m 24 ls [.int (iI (bI (1 ≤ w0 ∧ w0 ≤ 9)))])
    refine gb_if_eq (tgt := 37) hx hb dX1_setSort_24 (by decide)  (fun c24 => ?_) (fun c24 => ?_)
    · skip
      exact h_throw (cls := eA) (ik := 76) (is := 78) (ic := 80) hx hb hfl hown hTE (List.mem_of_getElem? (i := 1) rfl) (by decide +kernel) (hts _ (List.mem_of_getElem? (i := 3) rfl)) (hts _ (List.mem_of_getElem? (i := 4) rfl)) (Or.inr (Or.inl rfl)) h_nA (fun w h => hts w (List.mem_cons_of_mem _ (List.mem_append_right _ (h)))) h_gA hS (hl.1.trans hml.symm) hT hlocks hP hK hD (Or.inr (⟨rfl, by unfold tSetSort; rw [if_neg (by omega), if_pos (by omega)]⟩)) dX1_setSort_37 dX1_setSort_40 dX1_setSort_41 dX1_setSort_43 dX1_setSort_46 (by decide) (Nat.le_of_ble_eq_true rfl) (by decide) (by decide) (by decide) (by decide)
    · skip
      refine lv_iload_n hx hb dX1_setSort_27 rfl (lv_at hl 3 rfl) ?_
      refine lv_iconst (v := iI (0)) hx hb dX1_setSort_28 rfl ?_
      refine lv_bipush (v := iI (9)) hx hb dX1_setSort_29 rfl ?_
      have hPc : va_P D vwCl ([] ++ XW cI cZ d σ κ) H := hP
      have hDc : va_D A ([] ++ XW cI cZ d σ κ) := hD
      refine g_call (va_runS (As := [.int (iI (b0)), .int (iI (0)), .int (iI (9))]) (rest := []) S ((kX1_isWithin l D  b0 0 9 (by first | assumption | omega) (by first | assumption | omega) (by first | assumption | omega) (by first | assumption | omega) (by first | assumption | omega) (by first | assumption | omega)) H.size) (va_cwS 3 hts gX1_setSort_X1_isWithin rfl rfl rfl (by decide +kernel) ⟨Nat.le_of_ble_eq_true rfl, Nat.le_of_ble_eq_true rfl⟩) (g_preS gEx_t hK [] rfl hPc hDc (fun _ _ _ => trivial)) rfl rfl hl.1 rfl (lv_room (Nat.le_of_ble_eq_true rfl)) dX1_setSort_31 ⟨Nat.le_of_ble_eq_true rfl, Nat.le_of_ble_eq_true rfl⟩) hPc hDc hS hA (fun κ9 H locs hk hP hD hS => ?_)
      have hP : va_P D vwCl (XW cI cZ d σ κ) H := hP
      have hD : va_D A (XW cI cZ d σ κ) := hD
      show W p l e ({ frames := 6, cells := 1, slots := 6, locals := 92 } : Room) s m args below meth c H locs 0 0 (vx_MQ below (gQ D (tyXs cI cZ) (fun κ' => XW cI cZ d (xSetSort σ a0 w0 b0) κ') A (fun _ => some (.int (iI (10 * σ 0 a0 + σ 1 a0)))) (fun κ' => (tSetSort a0 w0 b0) = 0 ∧ (κ' = κ))) (gX D (tyXs cI cZ) (XW cI cZ d σ κ) A (fun E => (E = eI ∧ (tSetSort a0 w0 b0) = 1) ∨ (E = eA ∧ (tSetSort a0 w0 b0) = 2))) args s 1 6 A) (F0 m 34 ls [.int (iI (bI (0 ≤ b0 ∧ b0 ≤ 9)))])
      refine gb_if_ne (tgt := 47) hx hb dX1_setSort_34 (by decide)  (fun c34 => ?_) (fun c34 => ?_)
      · skip
        refine lv_bipush (v := iI (10)) hx hb dX1_setSort_47 rfl ?_
        refine lv_aload_n hx hb dX1_setSort_49 rfl (lv_at hl 0 rfl) ?_
        refine va_get (D := D) (ci := 1) (v := .ref (d 1)) (C := RX1) (T := TX1) (N := 13) hx hb hts hinX1 hown hK hP 0 rfl rfl 0 (by decide) (hts (.fieldLink RX1 9 "TwinOrchard" "weights" "[I") (List.mem_of_getElem? (i := 5) rfl)) (fun _ h9 => h9) rfl dX1_setSort_50 ?_
        refine lv_iload_n hx hb dX1_setSort_53 rfl (lv_at hl 1 rfl) ?_
        refine gi_iald (a := d 1) (n := 6) (f := σ 0) hx hb hK hP 1 0 rfl rfl (by omega) (by omega) (by decide) dX1_setSort_54 ?_
        refine gi_mul hx hb dX1_setSort_55 ?_
        refine lv_aload_n hx hb dX1_setSort_56 rfl (lv_at hl 0 rfl) ?_
        refine va_get (D := D) (ci := 1) (v := .ref (d 2)) (C := RX1) (T := TX1) (N := 13) hx hb hts hinX1 hown hK hP 0 rfl rfl 1 (by decide) (hts (.fieldLink RX1 13 "TwinOrchard" "hardiness" "[I") (List.mem_of_getElem? (i := 6) rfl)) (fun _ h9 => h9) rfl dX1_setSort_57 ?_
        refine lv_iload_n hx hb dX1_setSort_60 rfl (lv_at hl 1 rfl) ?_
        refine gi_iald (a := d 2) (n := 6) (f := σ 1) hx hb hK hP 2 0 rfl rfl (by omega) (by omega) (by decide) dX1_setSort_61 ?_
        refine gi_add hx hb dX1_setSort_62 ?_
        refine lv_istore (lv' := [(4, .int (iI ((10 * (σ 0 a0)) + (σ 1 a0)))), (0, .ref (d 0)), (1, .int (iI (a0))), (2, .int (iI (w0))), (3, .int (iI (b0)))]) hx hb dX1_setSort_63 hl (by decide) rfl (fun ls hl => ?_)
        refine lv_aload_n hx hb dX1_setSort_65 rfl (lv_at hl 1 rfl) ?_
        refine va_get (D := D) (ci := 1) (v := .ref (d 1)) (C := RX1) (T := TX1) (N := 13) hx hb hts hinX1 hown hK hP 0 rfl rfl 0 (by decide) (hts (.fieldLink RX1 9 "TwinOrchard" "weights" "[I") (List.mem_of_getElem? (i := 5) rfl)) (fun _ h9 => h9) rfl dX1_setSort_66 ?_
        refine lv_iload_n hx hb dX1_setSort_69 rfl (lv_at hl 2 rfl) ?_
        refine lv_iload_n hx hb dX1_setSort_70 rfl (lv_at hl 3 rfl) ?_
        refine gi_iast (a := d 1) (n := 6) (f := σ 0) hx hb hK hP hD hS 1 0 rfl rfl (by omega) (by omega) (by decide) dX1_setSort_71 (fun H locs hP hD hS => ?_)
        have hP : va_P D vwCl (XW cI cZ d (su σ 0 a0 (w0)) κ) H := hP
        have hD : va_D A (XW cI cZ d (su σ 0 a0 (w0)) κ) := hD
        refine lv_aload_n hx hb dX1_setSort_72 rfl (lv_at hl 1 rfl) ?_
        refine va_get (D := D) (ci := 1) (v := .ref (d 2)) (C := RX1) (T := TX1) (N := 13) hx hb hts hinX1 hown hK hP 0 rfl rfl 1 (by decide) (hts (.fieldLink RX1 13 "TwinOrchard" "hardiness" "[I") (List.mem_of_getElem? (i := 6) rfl)) (fun _ h9 => h9) rfl dX1_setSort_73 ?_
        refine lv_iload_n hx hb dX1_setSort_76 rfl (lv_at hl 2 rfl) ?_
        refine lv_iload_n hx hb dX1_setSort_77 rfl (lv_at hl 4 rfl) ?_
        refine gi_iast (a := d 2) (n := 6) (f := (su σ 0 a0 (w0)) 1) hx hb hK hP hD hS 2 0 rfl rfl (by omega) (by omega) (by decide) dX1_setSort_78 (fun H locs hP hD hS => ?_)
        have hP : va_P D vwCl (XW cI cZ d (su (su σ 0 a0 (w0)) 1 a0 (b0)) κ) H := hP
        have hD : va_D A (XW cI cZ d (su (su σ 0 a0 (w0)) 1 a0 (b0)) κ) := hD
        refine lv_iload hx hb dX1_setSort_79 (lv_at hl 0 rfl) ?_
        have es : (xSetSort σ a0 w0 b0) = (su (su σ 0 a0 (w0)) 1 a0 (b0)) := by rfl
        have er : ((10 * σ 0 a0 + σ 1 a0 : Int)) = ((10 * (σ 0 a0)) + (σ 1 a0)) := by rfl
        refine vx_ret ?_; exact g_iret (wo := (fun κ' => XW cI cZ d (xSetSort σ a0 w0 b0) κ')) (kr := (fun κ' => (tSetSort a0 w0 b0) = 0 ∧ (κ' = κ))) (rv := (fun _ => some (.int (iI (10 * σ 0 a0 + σ 1 a0))))) hx hb hr hlocks κ rfl (by rw [es]; exact hP) hK (by rw [es]; exact hD) hS ⟨by unfold tSetSort; rw [if_neg (by omega), if_neg (by omega)], rfl⟩ (by rw [er]) (Nat.le_of_ble_eq_true rfl) (Nat.le_of_ble_eq_true rfl) dX1_setSort_81
      · skip
        exact h_throw (cls := eA) (ik := 76) (is := 78) (ic := 80) hx hb hfl hown hTE (List.mem_of_getElem? (i := 1) rfl) (by decide +kernel) (hts _ (List.mem_of_getElem? (i := 3) rfl)) (hts _ (List.mem_of_getElem? (i := 4) rfl)) (Or.inr (Or.inl rfl)) h_nA (fun w h => hts w (List.mem_cons_of_mem _ (List.mem_append_right _ (h)))) h_gA hS (hl.1.trans hml.symm) hT hlocks hP hK hD (Or.inr (⟨rfl, by unfold tSetSort; rw [if_neg (by omega), if_pos (by omega)]⟩)) dX1_setSort_37 dX1_setSort_40 dX1_setSort_41 dX1_setSort_43 dX1_setSort_46 (by decide) (Nat.le_of_ble_eq_true rfl) (by decide) (by decide) (by decide) (by decide)
  · skip
    exact h_throw (cls := eI) (ik := 65) (is := 67) (ic := 69) hx hb hfl hown hTE (List.mem_of_getElem? (i := 0) rfl) (by decide +kernel) (hts _ (List.mem_of_getElem? (i := 1) rfl)) (hts _ (List.mem_of_getElem? (i := 2) rfl)) (Or.inl rfl) h_nI (fun w h => hts w (List.mem_cons_of_mem _ (List.mem_append_left _ (List.mem_append_right _ (h))))) h_gI hS (hl.1.trans hml.symm) hT hlocks hP hK hD (Or.inl ⟨rfl, by unfold tSetSort; rw [if_pos (by omega)]⟩) dX1_setSort_7 dX1_setSort_10 dX1_setSort_11 dX1_setSort_13 dX1_setSort_16 (by decide) (Nat.le_of_ble_eq_true rfl) (by decide) (by decide) (by decide) (by decide)
set_option maxHeartbeats 4000000 in
set_option maxRecDepth 100000 in
theorem kX1_setFrost (l : Launch) (hfl : l.stackTraces = false) (D : va_G) (cI cZ : ClassId) (d : Nat → Nat) (σ κ : St)  (a0 : Int) (b0 : Int) (hwf : xWF σ) (hl_a0 : -2147483648 ≤ a0) (hh_a0 : a0 ≤ 2147483647) (hl_b0 : -2147483648 ≤ b0) (hh_b0 : b0 ≤ 2147483647) : hMet l yX1_setFrost wsX1_setFrost ({ frames := 6, cells := 1, slots := 6, locals := 92 } : Room) D (tyXs cI cZ) (XW cI cZ d σ κ) [.ref (d 0), .int (iI a0), .int (iI b0)] (fun _ => some (.int (iI (σ 3 a0)))) (fun κ' => (tSetFrost a0 b0) = 0 ∧ (κ' = κ)) (fun κ' => XW cI cZ d (su σ 3 a0 b0) κ') (fun E => (E = eI ∧ (tSetFrost a0 b0) = 1) ∨ (E = eA ∧ (tSetFrost a0 b0) = 2)) := by
  refine h_start (cc := cX1_setFrost) (maxL := 4) (ret := (some .int)) (by decide) rfl (Nat.le_of_ble_eq_true rfl) ?_
  intro p e s m args below meth c A ls H locs S hr hlocks hT hP hK hD hA hS hTE hl
  have hE := hTE.1
  have S0 := S
  obtain ⟨hx, hb, hml, hown, hts⟩ := S0
  have hl : lv_has ls 4 [(0, .ref (d 0)), (1, .int (iI (a0))), (2, .int (iI (b0)))] := hl
  have hinX1 : ∀ w ∈ wsX10, w ∈ wsX1_setFrost := by decide +kernel
  refine lv_iload_n hx hb dX1_setFrost_0 rfl (lv_at hl 1 rfl) ?_
  refine lv_iconst (v := iI (0)) hx hb dX1_setFrost_1 rfl ?_
  refine lv_bipush (v := iI (9)) hx hb dX1_setFrost_2 rfl ?_
  have hPc : va_P D vwCl ([] ++ XW cI cZ d σ κ) H := hP
  have hDc : va_D A ([] ++ XW cI cZ d σ κ) := hD
  refine g_call (va_runS (As := [.int (iI (a0)), .int (iI (0)), .int (iI (9))]) (rest := []) S ((kX1_isWithin l D  a0 0 9 (by first | assumption | omega) (by first | assumption | omega) (by first | assumption | omega) (by first | assumption | omega) (by first | assumption | omega) (by first | assumption | omega)) H.size) (va_cwS 3 hts gX1_setFrost_X1_isWithin rfl rfl rfl (by decide +kernel) ⟨Nat.le_of_ble_eq_true rfl, Nat.le_of_ble_eq_true rfl⟩) (g_preS gEx_t hK [] rfl hPc hDc (fun _ _ _ => trivial)) rfl rfl hl.1 rfl (lv_room (Nat.le_of_ble_eq_true rfl)) dX1_setFrost_4 ⟨Nat.le_of_ble_eq_true rfl, Nat.le_of_ble_eq_true rfl⟩) hPc hDc hS hA (fun κ9 H locs hk hP hD hS => ?_)
  have hP : va_P D vwCl (XW cI cZ d σ κ) H := hP
  have hD : va_D A (XW cI cZ d σ κ) := hD
  show W p l e ({ frames := 6, cells := 1, slots := 6, locals := 92 } : Room) s m args below meth c H locs 0 0 (vx_MQ below (gQ D (tyXs cI cZ) (fun κ' => XW cI cZ d (su σ 3 a0 b0) κ') A (fun _ => some (.int (iI (σ 3 a0)))) (fun κ' => (tSetFrost a0 b0) = 0 ∧ (κ' = κ))) (gX D (tyXs cI cZ) (XW cI cZ d σ κ) A (fun E => (E = eI ∧ (tSetFrost a0 b0) = 1) ∨ (E = eA ∧ (tSetFrost a0 b0) = 2))) args s 1 6 A) (F0 m 7 ls [.int (iI (bI (0 ≤ a0 ∧ a0 ≤ 9)))])
  refine gb_if_ne (tgt := 20) hx hb dX1_setFrost_7 (by decide)  (fun c7 => ?_) (fun c7 => ?_)
  · skip
    refine lv_iload_n hx hb dX1_setFrost_20 rfl (lv_at hl 2 rfl) ?_
    refine lv_iconst (v := iI (0)) hx hb dX1_setFrost_21 rfl ?_
    refine lv_bipush (v := iI (9)) hx hb dX1_setFrost_22 rfl ?_
    have hPc : va_P D vwCl ([] ++ XW cI cZ d σ κ) H := hP
    have hDc : va_D A ([] ++ XW cI cZ d σ κ) := hD
    refine g_call (va_runS (As := [.int (iI (b0)), .int (iI (0)), .int (iI (9))]) (rest := []) S ((kX1_isWithin l D  b0 0 9 (by first | assumption | omega) (by first | assumption | omega) (by first | assumption | omega) (by first | assumption | omega) (by first | assumption | omega) (by first | assumption | omega)) H.size) (va_cwS 3 hts gX1_setFrost_X1_isWithin rfl rfl rfl (by decide +kernel) ⟨Nat.le_of_ble_eq_true rfl, Nat.le_of_ble_eq_true rfl⟩) (g_preS gEx_t hK [] rfl hPc hDc (fun _ _ _ => trivial)) rfl rfl hl.1 rfl (lv_room (Nat.le_of_ble_eq_true rfl)) dX1_setFrost_24 ⟨Nat.le_of_ble_eq_true rfl, Nat.le_of_ble_eq_true rfl⟩) hPc hDc hS hA (fun κ9 H locs hk hP hD hS => ?_)
    have hP : va_P D vwCl (XW cI cZ d σ κ) H := hP
    have hD : va_D A (XW cI cZ d σ κ) := hD
    show W p l e ({ frames := 6, cells := 1, slots := 6, locals := 92 } : Room) s m args below meth c H locs 0 0 (vx_MQ below (gQ D (tyXs cI cZ) (fun κ' => XW cI cZ d (su σ 3 a0 b0) κ') A (fun _ => some (.int (iI (σ 3 a0)))) (fun κ' => (tSetFrost a0 b0) = 0 ∧ (κ' = κ))) (gX D (tyXs cI cZ) (XW cI cZ d σ κ) A (fun E => (E = eI ∧ (tSetFrost a0 b0) = 1) ∨ (E = eA ∧ (tSetFrost a0 b0) = 2))) args s 1 6 A) (F0 m 27 ls [.int (iI (bI (0 ≤ b0 ∧ b0 ≤ 9)))])
    refine gb_if_ne (tgt := 40) hx hb dX1_setFrost_27 (by decide)  (fun c27 => ?_) (fun c27 => ?_)
    · skip
      refine lv_aload_n hx hb dX1_setFrost_40 rfl (lv_at hl 0 rfl) ?_
      refine va_get (D := D) (ci := 1) (v := .ref (d 4)) (C := RX1) (T := TX1) (N := 13) hx hb hts hinX1 hown hK hP 0 rfl rfl 3 (by decide) (hts (.fieldLink RX1 19 "TwinOrchard" "frosts" "[I") (List.mem_of_getElem? (i := 5) rfl)) (fun _ h9 => h9) rfl dX1_setFrost_41 ?_
      refine lv_iload_n hx hb dX1_setFrost_44 rfl (lv_at hl 1 rfl) ?_
      refine gi_iald (a := d 4) (n := 10) (f := σ 3) hx hb hK hP 4 0 rfl rfl (by omega) (by omega) (by decide) dX1_setFrost_45 ?_
      refine lv_istore_n (lv' := [(3, .int (iI (σ 3 a0))), (0, .ref (d 0)), (1, .int (iI (a0))), (2, .int (iI (b0)))]) hx hb dX1_setFrost_46 rfl hl (by decide) rfl (fun ls hl => ?_)
      refine lv_aload_n hx hb dX1_setFrost_47 rfl (lv_at hl 1 rfl) ?_
      refine va_get (D := D) (ci := 1) (v := .ref (d 4)) (C := RX1) (T := TX1) (N := 13) hx hb hts hinX1 hown hK hP 0 rfl rfl 3 (by decide) (hts (.fieldLink RX1 19 "TwinOrchard" "frosts" "[I") (List.mem_of_getElem? (i := 5) rfl)) (fun _ h9 => h9) rfl dX1_setFrost_48 ?_
      refine lv_iload_n hx hb dX1_setFrost_51 rfl (lv_at hl 2 rfl) ?_
      refine lv_iload_n hx hb dX1_setFrost_52 rfl (lv_at hl 3 rfl) ?_
      refine gi_iast (a := d 4) (n := 10) (f := σ 3) hx hb hK hP hD hS 4 0 rfl rfl (by omega) (by omega) (by decide) dX1_setFrost_53 (fun H locs hP hD hS => ?_)
      have hP : va_P D vwCl (XW cI cZ d (su σ 3 a0 (b0)) κ) H := hP
      have hD : va_D A (XW cI cZ d (su σ 3 a0 (b0)) κ) := hD
      refine lv_iload_n hx hb dX1_setFrost_54 rfl (lv_at hl 0 rfl) ?_
      have es : (su σ 3 a0 b0) = (su σ 3 a0 (b0)) := by rfl
      refine vx_ret ?_; exact g_iret (wo := (fun κ' => XW cI cZ d (su σ 3 a0 b0) κ')) (kr := (fun κ' => (tSetFrost a0 b0) = 0 ∧ (κ' = κ))) (rv := (fun _ => some (.int (iI (σ 3 a0))))) hx hb hr hlocks κ rfl (by rw [es]; exact hP) hK (by rw [es]; exact hD) hS ⟨by unfold tSetFrost; rw [if_neg (by omega), if_neg (by omega)], rfl⟩ rfl (Nat.le_of_ble_eq_true rfl) (Nat.le_of_ble_eq_true rfl) dX1_setFrost_55
    · skip
      exact h_throw (cls := eA) (ik := 76) (is := 83) (ic := 80) hx hb hfl hown hTE (List.mem_of_getElem? (i := 3) rfl) (by decide +kernel) (hts _ (List.mem_of_getElem? (i := 3) rfl)) (hts _ (List.mem_of_getElem? (i := 4) rfl)) (Or.inr (Or.inl rfl)) h_nA (fun w h => hts w (List.mem_cons_of_mem _ (List.mem_append_right _ (h)))) h_gA hS (hl.1.trans hml.symm) hT hlocks hP hK hD (Or.inr (⟨rfl, by unfold tSetFrost; rw [if_neg (by omega), if_pos (by omega)]⟩)) dX1_setFrost_30 dX1_setFrost_33 dX1_setFrost_34 dX1_setFrost_36 dX1_setFrost_39 (by decide) (Nat.le_of_ble_eq_true rfl) (by decide) (by decide) (by decide) (by decide)
  · skip
    exact h_throw (cls := eI) (ik := 65) (is := 81) (ic := 69) hx hb hfl hown hTE (List.mem_of_getElem? (i := 2) rfl) (by decide +kernel) (hts _ (List.mem_of_getElem? (i := 1) rfl)) (hts _ (List.mem_of_getElem? (i := 2) rfl)) (Or.inl rfl) h_nI (fun w h => hts w (List.mem_cons_of_mem _ (List.mem_append_left _ (List.mem_append_right _ (h))))) h_gI hS (hl.1.trans hml.symm) hT hlocks hP hK hD (Or.inl ⟨rfl, by unfold tSetFrost; rw [if_pos (by omega)]⟩) dX1_setFrost_10 dX1_setFrost_13 dX1_setFrost_14 dX1_setFrost_16 dX1_setFrost_19 (by decide) (Nat.le_of_ble_eq_true rfl) (by decide) (by decide) (by decide) (by decide)
set_option maxHeartbeats 4000000 in
set_option maxRecDepth 100000 in
theorem kX1_plant (l : Launch) (hfl : l.stackTraces = false) (D : va_G) (cI cZ : ClassId) (d : Nat → Nat) (σ κ : St)  (r0 : Int) (p0 : Int) (n0 : Int) (n1 : Int) (hwf : xWF σ) (hl_r0 : -2147483648 ≤ r0) (hh_r0 : r0 ≤ 2147483647) (hl_p0 : -2147483648 ≤ p0) (hh_p0 : p0 ≤ 2147483647) (hl_n0 : -2147483648 ≤ n0) (hh_n0 : n0 ≤ 2147483647) (hl_n1 : -2147483648 ≤ n1) (hh_n1 : n1 ≤ 2147483647) : hMet l yX1_plant wsX1_plant ({ frames := 6, cells := 1, slots := 6, locals := 92 } : Room) D (tyXs cI cZ) (XW cI cZ d σ κ) [.ref (d 0), .int (iI r0), .int (iI p0), .int (iI n0), .int (iI n1)] (fun _ => some (.int (iI (who (plA σ (r0 * 8 + p0)) (plA (xPlant σ (r0 * 8 + p0) n0 n1) (mir (r0 * 8 + p0))))))) (fun κ' => (tPlant r0 p0 n0 n1) = 0 ∧ (True)) (fun κ' => XW cI cZ d (xPlant (xPlant σ (r0 * 8 + p0) n0 n1) (mir (r0 * 8 + p0)) n0 n1) κ') (fun E => (E = eI ∧ (tPlant r0 p0 n0 n1) = 1) ∨ (E = eA ∧ (tPlant r0 p0 n0 n1) = 2)) := by
  refine h_start (cc := cX1_plant) (maxL := 8) (ret := (some .int)) (by decide) rfl (Nat.le_of_ble_eq_true rfl) ?_
  intro p e s m args below meth c A ls H locs S hr hlocks hT hP hK hD hA hS hTE hl
  have hE := hTE.1
  have S0 := S
  obtain ⟨hx, hb, hml, hown, hts⟩ := S0
  have hl : lv_has ls 8 [(0, .ref (d 0)), (1, .int (iI (r0))), (2, .int (iI (p0))), (3, .int (iI (n0))), (4, .int (iI (n1)))] := hl
  have hinX1 : ∀ w ∈ wsX10, w ∈ wsX1_plant := by decide +kernel
  have km := mir_in (s := r0 * 8 + p0)
  refine lv_iload_n hx hb dX1_plant_0 rfl (lv_at hl 1 rfl) ?_
  refine lv_iload_n hx hb dX1_plant_1 rfl (lv_at hl 2 rfl) ?_
  have hPc : va_P D vwCl ([] ++ XW cI cZ d σ κ) H := hP
  have hDc : va_D A ([] ++ XW cI cZ d σ κ) := hD
  refine g_call (va_runS (As := [.int (iI (r0)), .int (iI (p0))]) (rest := []) S ((kX1_isPlace l D  r0 p0 (by first | assumption | omega) (by first | assumption | omega) (by first | assumption | omega) (by first | assumption | omega)) H.size) (va_cwS 2 hts gX1_plant_X1_isPlace rfl rfl rfl (by decide +kernel) ⟨Nat.le_of_ble_eq_true rfl, Nat.le_of_ble_eq_true rfl⟩) (g_preS gEx_t hK [] rfl hPc hDc (fun _ _ _ => trivial)) rfl rfl hl.1 rfl (lv_room (Nat.le_of_ble_eq_true rfl)) dX1_plant_2 ⟨Nat.le_of_ble_eq_true rfl, Nat.le_of_ble_eq_true rfl⟩) hPc hDc hS hA (fun κ9 H locs hk hP hD hS => ?_)
  have hP : va_P D vwCl (XW cI cZ d σ κ) H := hP
  have hD : va_D A (XW cI cZ d σ κ) := hD
  show W p l e ({ frames := 6, cells := 1, slots := 6, locals := 92 } : Room) s m args below meth c H locs 0 0 (vx_MQ below (gQ D (tyXs cI cZ) (fun κ' => XW cI cZ d (xPlant (xPlant σ (r0 * 8 + p0) n0 n1) (mir (r0 * 8 + p0)) n0 n1) κ') A (fun _ => some (.int (iI (who (plA σ (r0 * 8 + p0)) (plA (xPlant σ (r0 * 8 + p0) n0 n1) (mir (r0 * 8 + p0))))))) (fun κ' => (tPlant r0 p0 n0 n1) = 0 ∧ (True))) (gX D (tyXs cI cZ) (XW cI cZ d σ κ) A (fun E => (E = eI ∧ (tPlant r0 p0 n0 n1) = 1) ∨ (E = eA ∧ (tPlant r0 p0 n0 n1) = 2))) args s 1 6 A) (F0 m 5 ls [.int (iI (bI ((0 ≤ r0 ∧ r0 ≤ 4) ∧ 0 ≤ p0 ∧ p0 ≤ 7)))])
  refine gb_if_ne (tgt := 18) hx hb dX1_plant_5 (by decide)  (fun c5 => ?_) (fun c5 => ?_)
  · skip
    refine lv_iload_n hx hb dX1_plant_18 rfl (lv_at hl 3 rfl) ?_
    have hPc : va_P D vwCl ([] ++ XW cI cZ d σ κ) H := hP
    have hDc : va_D A ([] ++ XW cI cZ d σ κ) := hD
    refine g_call (va_runS (As := [.int (iI (n0))]) (rest := []) S ((kX1_isSort l D  n0 (by first | assumption | omega) (by first | assumption | omega)) H.size) (va_cwS 1 hts gX1_plant_X1_isSort rfl rfl rfl (by decide +kernel) ⟨Nat.le_of_ble_eq_true rfl, Nat.le_of_ble_eq_true rfl⟩) (g_preS gEx_t hK [] rfl hPc hDc (fun _ _ _ => trivial)) rfl rfl hl.1 rfl (lv_room (Nat.le_of_ble_eq_true rfl)) dX1_plant_19 ⟨Nat.le_of_ble_eq_true rfl, Nat.le_of_ble_eq_true rfl⟩) hPc hDc hS hA (fun κ9 H locs hk hP hD hS => ?_)
    have hP : va_P D vwCl (XW cI cZ d σ κ) H := hP
    have hD : va_D A (XW cI cZ d σ κ) := hD
    show W p l e ({ frames := 6, cells := 1, slots := 6, locals := 92 } : Room) s m args below meth c H locs 0 0 (vx_MQ below (gQ D (tyXs cI cZ) (fun κ' => XW cI cZ d (xPlant (xPlant σ (r0 * 8 + p0) n0 n1) (mir (r0 * 8 + p0)) n0 n1) κ') A (fun _ => some (.int (iI (who (plA σ (r0 * 8 + p0)) (plA (xPlant σ (r0 * 8 + p0) n0 n1) (mir (r0 * 8 + p0))))))) (fun κ' => (tPlant r0 p0 n0 n1) = 0 ∧ (True))) (gX D (tyXs cI cZ) (XW cI cZ d σ κ) A (fun E => (E = eI ∧ (tPlant r0 p0 n0 n1) = 1) ∨ (E = eA ∧ (tPlant r0 p0 n0 n1) = 2))) args s 1 6 A) (F0 m 22 ls [.int (iI (bI (0 ≤ n0 ∧ n0 ≤ 5)))])
    refine gb_if_eq (tgt := 36) hx hb dX1_plant_22 (by decide)  (fun c22 => ?_) (fun c22 => ?_)
    · skip
      exact h_throw (cls := eA) (ik := 76) (is := 91) (ic := 80) hx hb hfl hown hTE (List.mem_of_getElem? (i := 5) rfl) (by decide +kernel) (hts _ (List.mem_of_getElem? (i := 3) rfl)) (hts _ (List.mem_of_getElem? (i := 4) rfl)) (Or.inr (Or.inl rfl)) h_nA (fun w h => hts w (List.mem_cons_of_mem _ (List.mem_append_right _ (h)))) h_gA hS (hl.1.trans hml.symm) hT hlocks hP hK hD (Or.inr (⟨rfl, by unfold tPlant; rw [if_neg (by omega), if_pos (by omega)]⟩)) dX1_plant_36 dX1_plant_39 dX1_plant_40 dX1_plant_42 dX1_plant_45 (by decide) (Nat.le_of_ble_eq_true rfl) (by decide) (by decide) (by decide) (by decide)
    · skip
      refine lv_iload hx hb dX1_plant_25 (lv_at hl 4 rfl) ?_
      refine lv_iconst (v := iI (1)) hx hb dX1_plant_27 rfl ?_
      refine lv_bipush (v := iI (9)) hx hb dX1_plant_28 rfl ?_
      have hPc : va_P D vwCl ([] ++ XW cI cZ d σ κ) H := hP
      have hDc : va_D A ([] ++ XW cI cZ d σ κ) := hD
      refine g_call (va_runS (As := [.int (iI (n1)), .int (iI (1)), .int (iI (9))]) (rest := []) S ((kX1_isWithin l D  n1 1 9 (by first | assumption | omega) (by first | assumption | omega) (by first | assumption | omega) (by first | assumption | omega) (by first | assumption | omega) (by first | assumption | omega)) H.size) (va_cwS 3 hts gX1_plant_X1_isWithin rfl rfl rfl (by decide +kernel) ⟨Nat.le_of_ble_eq_true rfl, Nat.le_of_ble_eq_true rfl⟩) (g_preS gEx_t hK [] rfl hPc hDc (fun _ _ _ => trivial)) rfl rfl hl.1 rfl (lv_room (Nat.le_of_ble_eq_true rfl)) dX1_plant_30 ⟨Nat.le_of_ble_eq_true rfl, Nat.le_of_ble_eq_true rfl⟩) hPc hDc hS hA (fun κ9 H locs hk hP hD hS => ?_)
      have hP : va_P D vwCl (XW cI cZ d σ κ) H := hP
      have hD : va_D A (XW cI cZ d σ κ) := hD
      show W p l e ({ frames := 6, cells := 1, slots := 6, locals := 92 } : Room) s m args below meth c H locs 0 0 (vx_MQ below (gQ D (tyXs cI cZ) (fun κ' => XW cI cZ d (xPlant (xPlant σ (r0 * 8 + p0) n0 n1) (mir (r0 * 8 + p0)) n0 n1) κ') A (fun _ => some (.int (iI (who (plA σ (r0 * 8 + p0)) (plA (xPlant σ (r0 * 8 + p0) n0 n1) (mir (r0 * 8 + p0))))))) (fun κ' => (tPlant r0 p0 n0 n1) = 0 ∧ (True))) (gX D (tyXs cI cZ) (XW cI cZ d σ κ) A (fun E => (E = eI ∧ (tPlant r0 p0 n0 n1) = 1) ∨ (E = eA ∧ (tPlant r0 p0 n0 n1) = 2))) args s 1 6 A) (F0 m 33 ls [.int (iI (bI (1 ≤ n1 ∧ n1 ≤ 9)))])
      refine gb_if_ne (tgt := 46) hx hb dX1_plant_33 (by decide)  (fun c33 => ?_) (fun c33 => ?_)
      · skip
        refine lv_iload_n hx hb dX1_plant_46 rfl (lv_at hl 1 rfl) ?_
        refine lv_iload_n hx hb dX1_plant_47 rfl (lv_at hl 2 rfl) ?_
        have hPc : va_P D vwCl ([] ++ XW cI cZ d σ κ) H := hP
        have hDc : va_D A ([] ++ XW cI cZ d σ κ) := hD
        refine g_call (va_runS (As := [.int (iI (r0)), .int (iI (p0))]) (rest := []) S ((kX1_spotOf l D  r0 p0 ) H.size) (va_cwS 2 hts gX1_plant_X1_spotOf rfl rfl rfl (by decide +kernel) ⟨Nat.le_of_ble_eq_true rfl, Nat.le_of_ble_eq_true rfl⟩) (g_preS gEx_t hK [] rfl hPc hDc (fun _ _ _ => trivial)) rfl rfl hl.1 rfl (lv_room (Nat.le_of_ble_eq_true rfl)) dX1_plant_48 ⟨Nat.le_of_ble_eq_true rfl, Nat.le_of_ble_eq_true rfl⟩) hPc hDc hS hA (fun κ9 H locs hk hP hD hS => ?_)
        have hP : va_P D vwCl (XW cI cZ d σ κ) H := hP
        have hD : va_D A (XW cI cZ d σ κ) := hD
        show W p l e ({ frames := 6, cells := 1, slots := 6, locals := 92 } : Room) s m args below meth c H locs 0 0 (vx_MQ below (gQ D (tyXs cI cZ) (fun κ' => XW cI cZ d (xPlant (xPlant σ (r0 * 8 + p0) n0 n1) (mir (r0 * 8 + p0)) n0 n1) κ') A (fun _ => some (.int (iI (who (plA σ (r0 * 8 + p0)) (plA (xPlant σ (r0 * 8 + p0) n0 n1) (mir (r0 * 8 + p0))))))) (fun κ' => (tPlant r0 p0 n0 n1) = 0 ∧ (True))) (gX D (tyXs cI cZ) (XW cI cZ d σ κ) A (fun E => (E = eI ∧ (tPlant r0 p0 n0 n1) = 1) ∨ (E = eA ∧ (tPlant r0 p0 n0 n1) = 2))) args s 1 6 A) (F0 m 51 ls [.int (iI (r0 * 8 + p0))])
        refine lv_istore (lv' := [(5, .int (iI (r0 * 8 + p0))), (0, .ref (d 0)), (1, .int (iI (r0))), (2, .int (iI (p0))), (3, .int (iI (n0))), (4, .int (iI (n1)))]) hx hb dX1_plant_51 hl (by decide) rfl (fun ls hl => ?_)
        refine lv_aload_n hx hb dX1_plant_53 rfl (lv_at hl 1 rfl) ?_
        refine lv_iload hx hb dX1_plant_54 (lv_at hl 0 rfl) ?_
        refine lv_iload_n hx hb dX1_plant_56 rfl (lv_at hl 4 rfl) ?_
        refine lv_iload hx hb dX1_plant_57 (lv_at hl 5 rfl) ?_
        have hPc : va_P D vwCl (XW cI cZ d σ κ ++ []) H := by rw [List.append_nil]; exact hP
        have hDc : va_D A (XW cI cZ d σ κ ++ []) := by rw [List.append_nil]; exact hD
        refine g_call (va_runV (As := [.int (iI (r0 * 8 + p0)), .int (iI (n0)), .int (iI (n1))]) (rest := []) S ((kX1_plantAt l D cI cZ d σ κ (r0 * 8 + p0) n0 n1 (by first | assumption | omega) (by first | assumption | omega) (by first | assumption | omega)) H.size) (cwV 3 hts gX1_plant_X1_plantAt rfl rfl rfl (by decide +kernel) ⟨Nat.le_of_ble_eq_true rfl, Nat.le_of_ble_eq_true rfl⟩) (g_preV xEx_g hK [0, 1] rfl hPc hDc (fun U _ hW => xEx_w hW hE) (q0 := 0) (ci := 1) rfl rfl rfl) rfl rfl hl.1 rfl (lv_room (Nat.le_of_ble_eq_true rfl)) dX1_plant_59 ⟨Nat.le_of_ble_eq_true rfl, Nat.le_of_ble_eq_true rfl⟩) hPc hDc hS hA (fun κ9 H locs hk hP hD hS => ?_)
        have hk : κ = κ9 := hk.symm
        subst hk
        have hP : va_P D vwCl (XW cI cZ d (xPlant σ (r0 * 8 + p0) n0 n1) κ) H := by have h9 : va_P D vwCl (XW cI cZ d (xPlant σ (r0 * 8 + p0) n0 n1) κ ++ []) H := hP; rw [List.append_nil] at h9; exact h9
        have hD : va_D A (XW cI cZ d (xPlant σ (r0 * 8 + p0) n0 n1) κ) := by have h9 : va_D A (XW cI cZ d (xPlant σ (r0 * 8 + p0) n0 n1) κ ++ []) := hD; rw [List.append_nil] at h9; exact h9
        show W p l e ({ frames := 6, cells := 1, slots := 6, locals := 92 } : Room) s m args below meth c H locs 0 0 (vx_MQ below (gQ D (tyXs cI cZ) (fun κ' => XW cI cZ d (xPlant (xPlant σ (r0 * 8 + p0) n0 n1) (mir (r0 * 8 + p0)) n0 n1) κ') A (fun _ => some (.int (iI (who (plA σ (r0 * 8 + p0)) (plA (xPlant σ (r0 * 8 + p0) n0 n1) (mir (r0 * 8 + p0))))))) (fun κ' => (tPlant r0 p0 n0 n1) = 0 ∧ (True))) (gX D (tyXs cI cZ) (XW cI cZ d σ κ) A (fun E => (E = eI ∧ (tPlant r0 p0 n0 n1) = 1) ∨ (E = eA ∧ (tPlant r0 p0 n0 n1) = 2))) args s 1 6 A) (F0 m 62 ls [.int (iI (plA σ (r0 * 8 + p0)))])
        refine lv_istore (lv' := [(6, .int (iI (plA σ (r0 * 8 + p0)))), (5, .int (iI (r0 * 8 + p0))), (0, .ref (d 0)), (1, .int (iI (r0))), (2, .int (iI (p0))), (3, .int (iI (n0))), (4, .int (iI (n1)))]) hx hb dX1_plant_62 hl (by decide) rfl (fun ls hl => ?_)
        refine lv_aload_n hx hb dX1_plant_64 rfl (lv_at hl 2 rfl) ?_
        refine lv_iload hx hb dX1_plant_65 (lv_at hl 1 rfl) ?_
        have hPc : va_P D vwCl ([] ++ XW cI cZ d (xPlant σ (r0 * 8 + p0) n0 n1) κ) H := hP
        have hDc : va_D A ([] ++ XW cI cZ d (xPlant σ (r0 * 8 + p0) n0 n1) κ) := hD
        refine g_call (va_runS (As := [.int (iI (r0 * 8 + p0))]) (rest := [.ref (d 0)]) S ((kX1_mirrorOf l D  (r0 * 8 + p0) (by first | assumption | omega) (by first | assumption | omega)) H.size) (va_cwS 1 hts gX1_plant_X1_mirrorOf rfl rfl rfl (by decide +kernel) ⟨Nat.le_of_ble_eq_true rfl, Nat.le_of_ble_eq_true rfl⟩) (g_preS gEx_t hK [] rfl hPc hDc (fun _ _ _ => trivial)) rfl rfl hl.1 rfl (lv_room (Nat.le_of_ble_eq_true rfl)) dX1_plant_67 ⟨Nat.le_of_ble_eq_true rfl, Nat.le_of_ble_eq_true rfl⟩) hPc hDc hS hA (fun κ9 H locs hk hP hD hS => ?_)
        have hP : va_P D vwCl (XW cI cZ d (xPlant σ (r0 * 8 + p0) n0 n1) κ) H := hP
        have hD : va_D A (XW cI cZ d (xPlant σ (r0 * 8 + p0) n0 n1) κ) := hD
        show W p l e ({ frames := 6, cells := 1, slots := 6, locals := 92 } : Room) s m args below meth c H locs 0 0 (vx_MQ below (gQ D (tyXs cI cZ) (fun κ' => XW cI cZ d (xPlant (xPlant σ (r0 * 8 + p0) n0 n1) (mir (r0 * 8 + p0)) n0 n1) κ') A (fun _ => some (.int (iI (who (plA σ (r0 * 8 + p0)) (plA (xPlant σ (r0 * 8 + p0) n0 n1) (mir (r0 * 8 + p0))))))) (fun κ' => (tPlant r0 p0 n0 n1) = 0 ∧ (True))) (gX D (tyXs cI cZ) (XW cI cZ d σ κ) A (fun E => (E = eI ∧ (tPlant r0 p0 n0 n1) = 1) ∨ (E = eA ∧ (tPlant r0 p0 n0 n1) = 2))) args s 1 6 A) (F0 m 70 ls [.int (iI (mir (r0 * 8 + p0))), .ref (d 0)])
        refine lv_iload_n hx hb dX1_plant_70 rfl (lv_at hl 5 rfl) ?_
        refine lv_iload hx hb dX1_plant_71 (lv_at hl 6 rfl) ?_
        have hPc : va_P D vwCl (XW cI cZ d (xPlant σ (r0 * 8 + p0) n0 n1) κ ++ []) H := by rw [List.append_nil]; exact hP
        have hDc : va_D A (XW cI cZ d (xPlant σ (r0 * 8 + p0) n0 n1) κ ++ []) := by rw [List.append_nil]; exact hD
        refine g_call (va_runV (As := [.int (iI (mir (r0 * 8 + p0))), .int (iI (n0)), .int (iI (n1))]) (rest := []) S ((kX1_plantAt l D cI cZ d (xPlant σ (r0 * 8 + p0) n0 n1) κ (mir (r0 * 8 + p0)) n0 n1 (km (by omega) (by omega)).1 (km (by omega) (by omega)).2 (xWF_plant hwf (by omega) (by omega))) H.size) (cwV 3 hts gX1_plant_X1_plantAt rfl rfl rfl (by decide +kernel) ⟨Nat.le_of_ble_eq_true rfl, Nat.le_of_ble_eq_true rfl⟩) (g_preV xEx_g hK [0, 1] rfl hPc hDc (fun U _ hW => xEx_w hW hE) (q0 := 0) (ci := 1) rfl rfl rfl) rfl rfl hl.1 rfl (lv_room (Nat.le_of_ble_eq_true rfl)) dX1_plant_73 ⟨Nat.le_of_ble_eq_true rfl, Nat.le_of_ble_eq_true rfl⟩) hPc hDc hS hA (fun κ9 H locs hk hP hD hS => ?_)
        have hk : κ = κ9 := hk.symm
        subst hk
        have hP : va_P D vwCl (XW cI cZ d (xPlant (xPlant σ (r0 * 8 + p0) n0 n1) (mir (r0 * 8 + p0)) n0 n1) κ) H := by have h9 : va_P D vwCl (XW cI cZ d (xPlant (xPlant σ (r0 * 8 + p0) n0 n1) (mir (r0 * 8 + p0)) n0 n1) κ ++ []) H := hP; rw [List.append_nil] at h9; exact h9
        have hD : va_D A (XW cI cZ d (xPlant (xPlant σ (r0 * 8 + p0) n0 n1) (mir (r0 * 8 + p0)) n0 n1) κ) := by have h9 : va_D A (XW cI cZ d (xPlant (xPlant σ (r0 * 8 + p0) n0 n1) (mir (r0 * 8 + p0)) n0 n1) κ ++ []) := hD; rw [List.append_nil] at h9; exact h9
        show W p l e ({ frames := 6, cells := 1, slots := 6, locals := 92 } : Room) s m args below meth c H locs 0 0 (vx_MQ below (gQ D (tyXs cI cZ) (fun κ' => XW cI cZ d (xPlant (xPlant σ (r0 * 8 + p0) n0 n1) (mir (r0 * 8 + p0)) n0 n1) κ') A (fun _ => some (.int (iI (who (plA σ (r0 * 8 + p0)) (plA (xPlant σ (r0 * 8 + p0) n0 n1) (mir (r0 * 8 + p0))))))) (fun κ' => (tPlant r0 p0 n0 n1) = 0 ∧ (True))) (gX D (tyXs cI cZ) (XW cI cZ d σ κ) A (fun E => (E = eI ∧ (tPlant r0 p0 n0 n1) = 1) ∨ (E = eA ∧ (tPlant r0 p0 n0 n1) = 2))) args s 1 6 A) (F0 m 76 ls [.int (iI (plA (xPlant σ (r0 * 8 + p0) n0 n1) (mir (r0 * 8 + p0))))])
        refine lv_istore (lv' := [(7, .int (iI (plA (xPlant σ (r0 * 8 + p0) n0 n1) (mir (r0 * 8 + p0))))), (6, .int (iI (plA σ (r0 * 8 + p0)))), (5, .int (iI (r0 * 8 + p0))), (0, .ref (d 0)), (1, .int (iI (r0))), (2, .int (iI (p0))), (3, .int (iI (n0))), (4, .int (iI (n1)))]) hx hb dX1_plant_76 hl (by decide) rfl (fun ls hl => ?_)
        refine lv_iload hx hb dX1_plant_78 (lv_at hl 1 rfl) ?_
        refine lv_iload hx hb dX1_plant_80 (lv_at hl 0 rfl) ?_
        have hPc : va_P D vwCl ([] ++ XW cI cZ d (xPlant (xPlant σ (r0 * 8 + p0) n0 n1) (mir (r0 * 8 + p0)) n0 n1) κ) H := hP
        have hDc : va_D A ([] ++ XW cI cZ d (xPlant (xPlant σ (r0 * 8 + p0) n0 n1) (mir (r0 * 8 + p0)) n0 n1) κ) := hD
        refine g_call (va_runS (As := [.int (iI (plA σ (r0 * 8 + p0))), .int (iI (plA (xPlant σ (r0 * 8 + p0) n0 n1) (mir (r0 * 8 + p0))))]) (rest := []) S ((kX1_whoDidIt l D  (plA σ (r0 * 8 + p0)) (plA (xPlant σ (r0 * 8 + p0) n0 n1) (mir (r0 * 8 + p0))) (plA_r _ _).1 (plA_r _ _).2 (plA_r _ _).1 (plA_r _ _).2) H.size) (va_cwS 2 hts gX1_plant_X1_whoDidIt rfl rfl rfl (by decide +kernel) ⟨Nat.le_of_ble_eq_true rfl, Nat.le_of_ble_eq_true rfl⟩) (g_preS gEx_t hK [] rfl hPc hDc (fun _ _ _ => trivial)) rfl rfl hl.1 rfl (lv_room (Nat.le_of_ble_eq_true rfl)) dX1_plant_82 ⟨Nat.le_of_ble_eq_true rfl, Nat.le_of_ble_eq_true rfl⟩) hPc hDc hS hA (fun κ9 H locs hk hP hD hS => ?_)
        have hP : va_P D vwCl (XW cI cZ d (xPlant (xPlant σ (r0 * 8 + p0) n0 n1) (mir (r0 * 8 + p0)) n0 n1) κ) H := hP
        have hD : va_D A (XW cI cZ d (xPlant (xPlant σ (r0 * 8 + p0) n0 n1) (mir (r0 * 8 + p0)) n0 n1) κ) := hD
        show W p l e ({ frames := 6, cells := 1, slots := 6, locals := 92 } : Room) s m args below meth c H locs 0 0 (vx_MQ below (gQ D (tyXs cI cZ) (fun κ' => XW cI cZ d (xPlant (xPlant σ (r0 * 8 + p0) n0 n1) (mir (r0 * 8 + p0)) n0 n1) κ') A (fun _ => some (.int (iI (who (plA σ (r0 * 8 + p0)) (plA (xPlant σ (r0 * 8 + p0) n0 n1) (mir (r0 * 8 + p0))))))) (fun κ' => (tPlant r0 p0 n0 n1) = 0 ∧ (True))) (gX D (tyXs cI cZ) (XW cI cZ d σ κ) A (fun E => (E = eI ∧ (tPlant r0 p0 n0 n1) = 1) ∨ (E = eA ∧ (tPlant r0 p0 n0 n1) = 2))) args s 1 6 A) (F0 m 85 ls [.int (iI (who (plA σ (r0 * 8 + p0)) (plA (xPlant σ (r0 * 8 + p0) n0 n1) (mir (r0 * 8 + p0)))))])
        refine vx_ret ?_; exact g_iret (wo := (fun κ' => XW cI cZ d (xPlant (xPlant σ (r0 * 8 + p0) n0 n1) (mir (r0 * 8 + p0)) n0 n1) κ')) (kr := (fun κ' => (tPlant r0 p0 n0 n1) = 0 ∧ (True))) (rv := (fun _ => some (.int (iI (who (plA σ (r0 * 8 + p0)) (plA (xPlant σ (r0 * 8 + p0) n0 n1) (mir (r0 * 8 + p0)))))))) hx hb hr hlocks κ rfl hP hK hD hS ⟨by unfold tPlant; rw [if_neg (by omega), if_neg (by omega)], trivial⟩ rfl (Nat.le_of_ble_eq_true rfl) (Nat.le_of_ble_eq_true rfl) dX1_plant_85
      · skip
        exact h_throw (cls := eA) (ik := 76) (is := 91) (ic := 80) hx hb hfl hown hTE (List.mem_of_getElem? (i := 5) rfl) (by decide +kernel) (hts _ (List.mem_of_getElem? (i := 3) rfl)) (hts _ (List.mem_of_getElem? (i := 4) rfl)) (Or.inr (Or.inl rfl)) h_nA (fun w h => hts w (List.mem_cons_of_mem _ (List.mem_append_right _ (h)))) h_gA hS (hl.1.trans hml.symm) hT hlocks hP hK hD (Or.inr (⟨rfl, by unfold tPlant; rw [if_neg (by omega), if_pos (by omega)]⟩)) dX1_plant_36 dX1_plant_39 dX1_plant_40 dX1_plant_42 dX1_plant_45 (by decide) (Nat.le_of_ble_eq_true rfl) (by decide) (by decide) (by decide) (by decide)
  · skip
    exact h_throw (cls := eI) (ik := 65) (is := 89) (ic := 69) hx hb hfl hown hTE (List.mem_of_getElem? (i := 4) rfl) (by decide +kernel) (hts _ (List.mem_of_getElem? (i := 1) rfl)) (hts _ (List.mem_of_getElem? (i := 2) rfl)) (Or.inl rfl) h_nI (fun w h => hts w (List.mem_cons_of_mem _ (List.mem_append_left _ (List.mem_append_right _ (h))))) h_gI hS (hl.1.trans hml.symm) hT hlocks hP hK hD (Or.inl ⟨rfl, by unfold tPlant; rw [if_pos (by omega)]⟩) dX1_plant_8 dX1_plant_11 dX1_plant_12 dX1_plant_14 dX1_plant_17 (by decide) (Nat.le_of_ble_eq_true rfl) (by decide) (by decide) (by decide) (by decide)
set_option maxHeartbeats 4000000 in
set_option maxRecDepth 100000 in
theorem kX1_prune (l : Launch) (hfl : l.stackTraces = false) (D : va_G) (cI cZ : ClassId) (d : Nat → Nat) (σ κ : St)  (r0 : Int) (p0 : Int) (c0 : Int) (hwf : xWF σ) (hl_r0 : -2147483648 ≤ r0) (hh_r0 : r0 ≤ 2147483647) (hl_p0 : -2147483648 ≤ p0) (hh_p0 : p0 ≤ 2147483647) (hl_c0 : -2147483648 ≤ c0) (hh_c0 : c0 ≤ 2147483647) : hMet l yX1_prune wsX1_prune ({ frames := 6, cells := 1, slots := 6, locals := 92 } : Room) D (tyXs cI cZ) (XW cI cZ d σ κ) [.ref (d 0), .int (iI r0), .int (iI p0), .int (iI c0)] (fun _ => some (.int (iI (who (prA σ (r0 * 8 + p0) c0) (prA (xPrune σ (r0 * 8 + p0) c0) (mir (r0 * 8 + p0)) c0))))) (fun κ' => (tPrune r0 p0 c0) = 0 ∧ (True)) (fun κ' => XW cI cZ d (xPrune (xPrune σ (r0 * 8 + p0) c0) (mir (r0 * 8 + p0)) c0) κ') (fun E => (E = eI ∧ (tPrune r0 p0 c0) = 1) ∨ (E = eA ∧ (tPrune r0 p0 c0) = 2)) := by
  refine h_start (cc := cX1_prune) (maxL := 7) (ret := (some .int)) (by decide) rfl (Nat.le_of_ble_eq_true rfl) ?_
  intro p e s m args below meth c A ls H locs S hr hlocks hT hP hK hD hA hS hTE hl
  have hE := hTE.1
  have S0 := S
  obtain ⟨hx, hb, hml, hown, hts⟩ := S0
  have hl : lv_has ls 7 [(0, .ref (d 0)), (1, .int (iI (r0))), (2, .int (iI (p0))), (3, .int (iI (c0)))] := hl
  have hinX0 : ∀ w ∈ wsX00, w ∈ wsX1_prune := by decide +kernel
  have hinX1 : ∀ w ∈ wsX10, w ∈ wsX1_prune := by decide +kernel
  have km := mir_in (s := r0 * 8 + p0)
  refine lv_iload_n hx hb dX1_prune_0 rfl (lv_at hl 1 rfl) ?_
  refine lv_iload_n hx hb dX1_prune_1 rfl (lv_at hl 2 rfl) ?_
  have hPc : va_P D vwCl ([] ++ XW cI cZ d σ κ) H := hP
  have hDc : va_D A ([] ++ XW cI cZ d σ κ) := hD
  refine g_call (va_runS (As := [.int (iI (r0)), .int (iI (p0))]) (rest := []) S ((kX1_isPlace l D  r0 p0 (by first | assumption | omega) (by first | assumption | omega) (by first | assumption | omega) (by first | assumption | omega)) H.size) (va_cwS 2 hts gX1_prune_X1_isPlace rfl rfl rfl (by decide +kernel) ⟨Nat.le_of_ble_eq_true rfl, Nat.le_of_ble_eq_true rfl⟩) (g_preS gEx_t hK [] rfl hPc hDc (fun _ _ _ => trivial)) rfl rfl hl.1 rfl (lv_room (Nat.le_of_ble_eq_true rfl)) dX1_prune_2 ⟨Nat.le_of_ble_eq_true rfl, Nat.le_of_ble_eq_true rfl⟩) hPc hDc hS hA (fun κ9 H locs hk hP hD hS => ?_)
  have hP : va_P D vwCl (XW cI cZ d σ κ) H := hP
  have hD : va_D A (XW cI cZ d σ κ) := hD
  show W p l e ({ frames := 6, cells := 1, slots := 6, locals := 92 } : Room) s m args below meth c H locs 0 0 (vx_MQ below (gQ D (tyXs cI cZ) (fun κ' => XW cI cZ d (xPrune (xPrune σ (r0 * 8 + p0) c0) (mir (r0 * 8 + p0)) c0) κ') A (fun _ => some (.int (iI (who (prA σ (r0 * 8 + p0) c0) (prA (xPrune σ (r0 * 8 + p0) c0) (mir (r0 * 8 + p0)) c0))))) (fun κ' => (tPrune r0 p0 c0) = 0 ∧ (True))) (gX D (tyXs cI cZ) (XW cI cZ d σ κ) A (fun E => (E = eI ∧ (tPrune r0 p0 c0) = 1) ∨ (E = eA ∧ (tPrune r0 p0 c0) = 2))) args s 1 6 A) (F0 m 5 ls [.int (iI (bI ((0 ≤ r0 ∧ r0 ≤ 4) ∧ 0 ≤ p0 ∧ p0 ≤ 7)))])
  refine gb_if_ne (tgt := 18) hx hb dX1_prune_5 (by decide)  (fun c5 => ?_) (fun c5 => ?_)
  · skip
    refine lv_iload_n hx hb dX1_prune_18 rfl (lv_at hl 3 rfl) ?_
    refine lv_iconst (v := iI (1)) hx hb dX1_prune_19 rfl ?_
    refine lv_bipush (v := iI (9)) hx hb dX1_prune_20 rfl ?_
    have hPc : va_P D vwCl ([] ++ XW cI cZ d σ κ) H := hP
    have hDc : va_D A ([] ++ XW cI cZ d σ κ) := hD
    refine g_call (va_runS (As := [.int (iI (c0)), .int (iI (1)), .int (iI (9))]) (rest := []) S ((kX1_isWithin l D  c0 1 9 (by first | assumption | omega) (by first | assumption | omega) (by first | assumption | omega) (by first | assumption | omega) (by first | assumption | omega) (by first | assumption | omega)) H.size) (va_cwS 3 hts gX1_prune_X1_isWithin rfl rfl rfl (by decide +kernel) ⟨Nat.le_of_ble_eq_true rfl, Nat.le_of_ble_eq_true rfl⟩) (g_preS gEx_t hK [] rfl hPc hDc (fun _ _ _ => trivial)) rfl rfl hl.1 rfl (lv_room (Nat.le_of_ble_eq_true rfl)) dX1_prune_22 ⟨Nat.le_of_ble_eq_true rfl, Nat.le_of_ble_eq_true rfl⟩) hPc hDc hS hA (fun κ9 H locs hk hP hD hS => ?_)
    have hP : va_P D vwCl (XW cI cZ d σ κ) H := hP
    have hD : va_D A (XW cI cZ d σ κ) := hD
    show W p l e ({ frames := 6, cells := 1, slots := 6, locals := 92 } : Room) s m args below meth c H locs 0 0 (vx_MQ below (gQ D (tyXs cI cZ) (fun κ' => XW cI cZ d (xPrune (xPrune σ (r0 * 8 + p0) c0) (mir (r0 * 8 + p0)) c0) κ') A (fun _ => some (.int (iI (who (prA σ (r0 * 8 + p0) c0) (prA (xPrune σ (r0 * 8 + p0) c0) (mir (r0 * 8 + p0)) c0))))) (fun κ' => (tPrune r0 p0 c0) = 0 ∧ (True))) (gX D (tyXs cI cZ) (XW cI cZ d σ κ) A (fun E => (E = eI ∧ (tPrune r0 p0 c0) = 1) ∨ (E = eA ∧ (tPrune r0 p0 c0) = 2))) args s 1 6 A) (F0 m 25 ls [.int (iI (bI (1 ≤ c0 ∧ c0 ≤ 9)))])
    refine gb_if_ne (tgt := 38) hx hb dX1_prune_25 (by decide)  (fun c25 => ?_) (fun c25 => ?_)
    · skip
      refine lv_iload_n hx hb dX1_prune_38 rfl (lv_at hl 1 rfl) ?_
      refine lv_iload_n hx hb dX1_prune_39 rfl (lv_at hl 2 rfl) ?_
      have hPc : va_P D vwCl ([] ++ XW cI cZ d σ κ) H := hP
      have hDc : va_D A ([] ++ XW cI cZ d σ κ) := hD
      refine g_call (va_runS (As := [.int (iI (r0)), .int (iI (p0))]) (rest := []) S ((kX1_spotOf l D  r0 p0 ) H.size) (va_cwS 2 hts gX1_prune_X1_spotOf rfl rfl rfl (by decide +kernel) ⟨Nat.le_of_ble_eq_true rfl, Nat.le_of_ble_eq_true rfl⟩) (g_preS gEx_t hK [] rfl hPc hDc (fun _ _ _ => trivial)) rfl rfl hl.1 rfl (lv_room (Nat.le_of_ble_eq_true rfl)) dX1_prune_40 ⟨Nat.le_of_ble_eq_true rfl, Nat.le_of_ble_eq_true rfl⟩) hPc hDc hS hA (fun κ9 H locs hk hP hD hS => ?_)
      have hP : va_P D vwCl (XW cI cZ d σ κ) H := hP
      have hD : va_D A (XW cI cZ d σ κ) := hD
      show W p l e ({ frames := 6, cells := 1, slots := 6, locals := 92 } : Room) s m args below meth c H locs 0 0 (vx_MQ below (gQ D (tyXs cI cZ) (fun κ' => XW cI cZ d (xPrune (xPrune σ (r0 * 8 + p0) c0) (mir (r0 * 8 + p0)) c0) κ') A (fun _ => some (.int (iI (who (prA σ (r0 * 8 + p0) c0) (prA (xPrune σ (r0 * 8 + p0) c0) (mir (r0 * 8 + p0)) c0))))) (fun κ' => (tPrune r0 p0 c0) = 0 ∧ (True))) (gX D (tyXs cI cZ) (XW cI cZ d σ κ) A (fun E => (E = eI ∧ (tPrune r0 p0 c0) = 1) ∨ (E = eA ∧ (tPrune r0 p0 c0) = 2))) args s 1 6 A) (F0 m 43 ls [.int (iI (r0 * 8 + p0))])
      refine lv_istore (lv' := [(4, .int (iI (r0 * 8 + p0))), (0, .ref (d 0)), (1, .int (iI (r0))), (2, .int (iI (p0))), (3, .int (iI (c0)))]) hx hb dX1_prune_43 hl (by decide) rfl (fun ls hl => ?_)
      refine lv_aload_n hx hb dX1_prune_45 rfl (lv_at hl 1 rfl) ?_
      refine lv_iload hx hb dX1_prune_46 (lv_at hl 0 rfl) ?_
      refine lv_iload_n hx hb dX1_prune_48 rfl (lv_at hl 4 rfl) ?_
      have hPc : va_P D vwCl (XW cI cZ d σ κ ++ []) H := by rw [List.append_nil]; exact hP
      have hDc : va_D A (XW cI cZ d σ κ ++ []) := by rw [List.append_nil]; exact hD
      refine g_call (va_runV (As := [.int (iI (r0 * 8 + p0)), .int (iI (c0))]) (rest := []) S ((kX1_pruneAt l D cI cZ d σ κ (r0 * 8 + p0) c0 (by first | assumption | omega) (by first | assumption | omega) (by first | assumption | omega) (by first | assumption | omega) (by first | assumption | omega)) H.size) (cwV 2 hts gX1_prune_X1_pruneAt rfl rfl rfl (by decide +kernel) ⟨Nat.le_of_ble_eq_true rfl, Nat.le_of_ble_eq_true rfl⟩) (g_preV xEx_g hK [0, 1] rfl hPc hDc (fun U _ hW => xEx_w hW hE) (q0 := 0) (ci := 1) rfl rfl rfl) rfl rfl hl.1 rfl (lv_room (Nat.le_of_ble_eq_true rfl)) dX1_prune_49 ⟨Nat.le_of_ble_eq_true rfl, Nat.le_of_ble_eq_true rfl⟩) hPc hDc hS hA (fun κ9 H locs hk hP hD hS => ?_)
      obtain ⟨κ_1, rfl⟩ : ∃ z, z = κ9 := ⟨_, rfl⟩
      have hP : va_P D vwCl (XW cI cZ d (xPrune σ (r0 * 8 + p0) c0) κ_1) H := by have h9 : va_P D vwCl (XW cI cZ d (xPrune σ (r0 * 8 + p0) c0) κ_1 ++ []) H := hP; rw [List.append_nil] at h9; exact h9
      have hD : va_D A (XW cI cZ d (xPrune σ (r0 * 8 + p0) c0) κ_1) := by have h9 : va_D A (XW cI cZ d (xPrune σ (r0 * 8 + p0) c0) κ_1 ++ []) := hD; rw [List.append_nil] at h9; exact h9
      show W p l e ({ frames := 6, cells := 1, slots := 6, locals := 92 } : Room) s m args below meth c H locs 0 0 (vx_MQ below (gQ D (tyXs cI cZ) (fun κ' => XW cI cZ d (xPrune (xPrune σ (r0 * 8 + p0) c0) (mir (r0 * 8 + p0)) c0) κ') A (fun _ => some (.int (iI (who (prA σ (r0 * 8 + p0) c0) (prA (xPrune σ (r0 * 8 + p0) c0) (mir (r0 * 8 + p0)) c0))))) (fun κ' => (tPrune r0 p0 c0) = 0 ∧ (True))) (gX D (tyXs cI cZ) (XW cI cZ d σ κ) A (fun E => (E = eI ∧ (tPrune r0 p0 c0) = 1) ∨ (E = eA ∧ (tPrune r0 p0 c0) = 2))) args s 1 6 A) (F0 m 52 ls [.int (iI (prA σ (r0 * 8 + p0) c0))])
      refine lv_istore (lv' := [(5, .int (iI (prA σ (r0 * 8 + p0) c0))), (4, .int (iI (r0 * 8 + p0))), (0, .ref (d 0)), (1, .int (iI (r0))), (2, .int (iI (p0))), (3, .int (iI (c0)))]) hx hb dX1_prune_52 hl (by decide) rfl (fun ls hl => ?_)
      refine lv_aload_n hx hb dX1_prune_54 rfl (lv_at hl 2 rfl) ?_
      refine lv_iload hx hb dX1_prune_55 (lv_at hl 1 rfl) ?_
      have hPc : va_P D vwCl ([] ++ XW cI cZ d (xPrune σ (r0 * 8 + p0) c0) κ_1) H := hP
      have hDc : va_D A ([] ++ XW cI cZ d (xPrune σ (r0 * 8 + p0) c0) κ_1) := hD
      refine g_call (va_runS (As := [.int (iI (r0 * 8 + p0))]) (rest := [.ref (d 0)]) S ((kX1_mirrorOf l D  (r0 * 8 + p0) (by first | assumption | omega) (by first | assumption | omega)) H.size) (va_cwS 1 hts gX1_prune_X1_mirrorOf rfl rfl rfl (by decide +kernel) ⟨Nat.le_of_ble_eq_true rfl, Nat.le_of_ble_eq_true rfl⟩) (g_preS gEx_t hK [] rfl hPc hDc (fun _ _ _ => trivial)) rfl rfl hl.1 rfl (lv_room (Nat.le_of_ble_eq_true rfl)) dX1_prune_57 ⟨Nat.le_of_ble_eq_true rfl, Nat.le_of_ble_eq_true rfl⟩) hPc hDc hS hA (fun κ9 H locs hk hP hD hS => ?_)
      have hP : va_P D vwCl (XW cI cZ d (xPrune σ (r0 * 8 + p0) c0) κ_1) H := hP
      have hD : va_D A (XW cI cZ d (xPrune σ (r0 * 8 + p0) c0) κ_1) := hD
      show W p l e ({ frames := 6, cells := 1, slots := 6, locals := 92 } : Room) s m args below meth c H locs 0 0 (vx_MQ below (gQ D (tyXs cI cZ) (fun κ' => XW cI cZ d (xPrune (xPrune σ (r0 * 8 + p0) c0) (mir (r0 * 8 + p0)) c0) κ') A (fun _ => some (.int (iI (who (prA σ (r0 * 8 + p0) c0) (prA (xPrune σ (r0 * 8 + p0) c0) (mir (r0 * 8 + p0)) c0))))) (fun κ' => (tPrune r0 p0 c0) = 0 ∧ (True))) (gX D (tyXs cI cZ) (XW cI cZ d σ κ) A (fun E => (E = eI ∧ (tPrune r0 p0 c0) = 1) ∨ (E = eA ∧ (tPrune r0 p0 c0) = 2))) args s 1 6 A) (F0 m 60 ls [.int (iI (mir (r0 * 8 + p0))), .ref (d 0)])
      refine lv_iload_n hx hb dX1_prune_60 rfl (lv_at hl 5 rfl) ?_
      have hPc : va_P D vwCl (XW cI cZ d (xPrune σ (r0 * 8 + p0) c0) κ_1 ++ []) H := by rw [List.append_nil]; exact hP
      have hDc : va_D A (XW cI cZ d (xPrune σ (r0 * 8 + p0) c0) κ_1 ++ []) := by rw [List.append_nil]; exact hD
      refine g_call (va_runV (As := [.int (iI (mir (r0 * 8 + p0))), .int (iI (c0))]) (rest := []) S ((kX1_pruneAt l D cI cZ d (xPrune σ (r0 * 8 + p0) c0) κ_1 (mir (r0 * 8 + p0)) c0 (km (by omega) (by omega)).1 (km (by omega) (by omega)).2 (xWF_prune hwf (by omega)) (by first | assumption | omega) (by first | assumption | omega)) H.size) (cwV 2 hts gX1_prune_X1_pruneAt rfl rfl rfl (by decide +kernel) ⟨Nat.le_of_ble_eq_true rfl, Nat.le_of_ble_eq_true rfl⟩) (g_preV xEx_g hK [0, 1] rfl hPc hDc (fun U _ hW => xEx_w hW hE) (q0 := 0) (ci := 1) rfl rfl rfl) rfl rfl hl.1 rfl (lv_room (Nat.le_of_ble_eq_true rfl)) dX1_prune_61 ⟨Nat.le_of_ble_eq_true rfl, Nat.le_of_ble_eq_true rfl⟩) hPc hDc hS hA (fun κ9 H locs hk hP hD hS => ?_)
      obtain ⟨κ_2, rfl⟩ : ∃ z, z = κ9 := ⟨_, rfl⟩
      have hP : va_P D vwCl (XW cI cZ d (xPrune (xPrune σ (r0 * 8 + p0) c0) (mir (r0 * 8 + p0)) c0) κ_2) H := by have h9 : va_P D vwCl (XW cI cZ d (xPrune (xPrune σ (r0 * 8 + p0) c0) (mir (r0 * 8 + p0)) c0) κ_2 ++ []) H := hP; rw [List.append_nil] at h9; exact h9
      have hD : va_D A (XW cI cZ d (xPrune (xPrune σ (r0 * 8 + p0) c0) (mir (r0 * 8 + p0)) c0) κ_2) := by have h9 : va_D A (XW cI cZ d (xPrune (xPrune σ (r0 * 8 + p0) c0) (mir (r0 * 8 + p0)) c0) κ_2 ++ []) := hD; rw [List.append_nil] at h9; exact h9
      show W p l e ({ frames := 6, cells := 1, slots := 6, locals := 92 } : Room) s m args below meth c H locs 0 0 (vx_MQ below (gQ D (tyXs cI cZ) (fun κ' => XW cI cZ d (xPrune (xPrune σ (r0 * 8 + p0) c0) (mir (r0 * 8 + p0)) c0) κ') A (fun _ => some (.int (iI (who (prA σ (r0 * 8 + p0) c0) (prA (xPrune σ (r0 * 8 + p0) c0) (mir (r0 * 8 + p0)) c0))))) (fun κ' => (tPrune r0 p0 c0) = 0 ∧ (True))) (gX D (tyXs cI cZ) (XW cI cZ d σ κ) A (fun E => (E = eI ∧ (tPrune r0 p0 c0) = 1) ∨ (E = eA ∧ (tPrune r0 p0 c0) = 2))) args s 1 6 A) (F0 m 64 ls [.int (iI (prA (xPrune σ (r0 * 8 + p0) c0) (mir (r0 * 8 + p0)) c0))])
      refine lv_istore (lv' := [(6, .int (iI (prA (xPrune σ (r0 * 8 + p0) c0) (mir (r0 * 8 + p0)) c0))), (5, .int (iI (prA σ (r0 * 8 + p0) c0))), (4, .int (iI (r0 * 8 + p0))), (0, .ref (d 0)), (1, .int (iI (r0))), (2, .int (iI (p0))), (3, .int (iI (c0)))]) hx hb dX1_prune_64 hl (by decide) rfl (fun ls hl => ?_)
      refine lv_iload hx hb dX1_prune_66 (lv_at hl 1 rfl) ?_
      refine lv_iload hx hb dX1_prune_68 (lv_at hl 0 rfl) ?_
      have hPc : va_P D vwCl ([] ++ XW cI cZ d (xPrune (xPrune σ (r0 * 8 + p0) c0) (mir (r0 * 8 + p0)) c0) κ_2) H := hP
      have hDc : va_D A ([] ++ XW cI cZ d (xPrune (xPrune σ (r0 * 8 + p0) c0) (mir (r0 * 8 + p0)) c0) κ_2) := hD
      refine g_call (va_runS (As := [.int (iI (prA σ (r0 * 8 + p0) c0)), .int (iI (prA (xPrune σ (r0 * 8 + p0) c0) (mir (r0 * 8 + p0)) c0))]) (rest := []) S ((kX1_whoDidIt l D  (prA σ (r0 * 8 + p0) c0) (prA (xPrune σ (r0 * 8 + p0) c0) (mir (r0 * 8 + p0)) c0) (prA_r _ _ _).1 (prA_r _ _ _).2 (prA_r _ _ _).1 (prA_r _ _ _).2) H.size) (va_cwS 2 hts gX1_prune_X1_whoDidIt rfl rfl rfl (by decide +kernel) ⟨Nat.le_of_ble_eq_true rfl, Nat.le_of_ble_eq_true rfl⟩) (g_preS gEx_t hK [] rfl hPc hDc (fun _ _ _ => trivial)) rfl rfl hl.1 rfl (lv_room (Nat.le_of_ble_eq_true rfl)) dX1_prune_70 ⟨Nat.le_of_ble_eq_true rfl, Nat.le_of_ble_eq_true rfl⟩) hPc hDc hS hA (fun κ9 H locs hk hP hD hS => ?_)
      have hP : va_P D vwCl (XW cI cZ d (xPrune (xPrune σ (r0 * 8 + p0) c0) (mir (r0 * 8 + p0)) c0) κ_2) H := hP
      have hD : va_D A (XW cI cZ d (xPrune (xPrune σ (r0 * 8 + p0) c0) (mir (r0 * 8 + p0)) c0) κ_2) := hD
      show W p l e ({ frames := 6, cells := 1, slots := 6, locals := 92 } : Room) s m args below meth c H locs 0 0 (vx_MQ below (gQ D (tyXs cI cZ) (fun κ' => XW cI cZ d (xPrune (xPrune σ (r0 * 8 + p0) c0) (mir (r0 * 8 + p0)) c0) κ') A (fun _ => some (.int (iI (who (prA σ (r0 * 8 + p0) c0) (prA (xPrune σ (r0 * 8 + p0) c0) (mir (r0 * 8 + p0)) c0))))) (fun κ' => (tPrune r0 p0 c0) = 0 ∧ (True))) (gX D (tyXs cI cZ) (XW cI cZ d σ κ) A (fun E => (E = eI ∧ (tPrune r0 p0 c0) = 1) ∨ (E = eA ∧ (tPrune r0 p0 c0) = 2))) args s 1 6 A) (F0 m 73 ls [.int (iI (who (prA σ (r0 * 8 + p0) c0) (prA (xPrune σ (r0 * 8 + p0) c0) (mir (r0 * 8 + p0)) c0)))])
      refine vx_ret ?_; exact g_iret (wo := (fun κ' => XW cI cZ d (xPrune (xPrune σ (r0 * 8 + p0) c0) (mir (r0 * 8 + p0)) c0) κ')) (kr := (fun κ' => (tPrune r0 p0 c0) = 0 ∧ (True))) (rv := (fun _ => some (.int (iI (who (prA σ (r0 * 8 + p0) c0) (prA (xPrune σ (r0 * 8 + p0) c0) (mir (r0 * 8 + p0)) c0)))))) hx hb hr hlocks κ_2 rfl hP hK hD hS ⟨by unfold tPrune; rw [if_neg (by omega), if_neg (by omega)], trivial⟩ rfl (Nat.le_of_ble_eq_true rfl) (Nat.le_of_ble_eq_true rfl) dX1_prune_73
    · skip
      exact h_throw (cls := eA) (ik := 76) (is := 108) (ic := 80) hx hb hfl hown hTE (List.mem_of_getElem? (i := 6) rfl) (by decide +kernel) (hts _ (List.mem_of_getElem? (i := 3) rfl)) (hts _ (List.mem_of_getElem? (i := 4) rfl)) (Or.inr (Or.inl rfl)) h_nA (fun w h => hts w (List.mem_cons_of_mem _ (List.mem_append_right _ (h)))) h_gA hS (hl.1.trans hml.symm) hT hlocks hP hK hD (Or.inr (⟨rfl, by unfold tPrune; rw [if_neg (by omega), if_pos (by omega)]⟩)) dX1_prune_28 dX1_prune_31 dX1_prune_32 dX1_prune_34 dX1_prune_37 (by decide) (Nat.le_of_ble_eq_true rfl) (by decide) (by decide) (by decide) (by decide)
  · skip
    exact h_throw (cls := eI) (ik := 65) (is := 89) (ic := 69) hx hb hfl hown hTE (List.mem_of_getElem? (i := 4) rfl) (by decide +kernel) (hts _ (List.mem_of_getElem? (i := 1) rfl)) (hts _ (List.mem_of_getElem? (i := 2) rfl)) (Or.inl rfl) h_nI (fun w h => hts w (List.mem_cons_of_mem _ (List.mem_append_left _ (List.mem_append_right _ (h))))) h_gI hS (hl.1.trans hml.symm) hT hlocks hP hK hD (Or.inl ⟨rfl, by unfold tPrune; rw [if_pos (by omega)]⟩) dX1_prune_8 dX1_prune_11 dX1_prune_12 dX1_prune_14 dX1_prune_17 (by decide) (Nat.le_of_ble_eq_true rfl) (by decide) (by decide) (by decide) (by decide)
set_option maxHeartbeats 4000000 in
set_option maxRecDepth 100000 in
theorem kX1_graft (l : Launch) (hfl : l.stackTraces = false) (D : va_G) (cI cZ : ClassId) (d : Nat → Nat) (σ κ : St)  (r0 : Int) (p0 : Int) (n0 : Int) (hwf : xWF σ) (hl_r0 : -2147483648 ≤ r0) (hh_r0 : r0 ≤ 2147483647) (hl_p0 : -2147483648 ≤ p0) (hh_p0 : p0 ≤ 2147483647) (hl_n0 : -2147483648 ≤ n0) (hh_n0 : n0 ≤ 2147483647) : hMet l yX1_graft wsX1_graft ({ frames := 6, cells := 1, slots := 6, locals := 92 } : Room) D (tyXs cI cZ) (XW cI cZ d σ κ) [.ref (d 0), .int (iI r0), .int (iI p0), .int (iI n0)] (fun _ => some (.int (iI (who (grA σ (r0 * 8 + p0) n0) (grA (xGraft σ (r0 * 8 + p0) n0) (mir (r0 * 8 + p0)) n0))))) (fun κ' => (tGraft r0 p0 n0) = 0 ∧ (True)) (fun κ' => XW cI cZ d (xGraft (xGraft σ (r0 * 8 + p0) n0) (mir (r0 * 8 + p0)) n0) κ') (fun E => (E = eI ∧ (tGraft r0 p0 n0) = 1) ∨ (E = eA ∧ (tGraft r0 p0 n0) = 2)) := by
  refine h_start (cc := cX1_graft) (maxL := 7) (ret := (some .int)) (by decide) rfl (Nat.le_of_ble_eq_true rfl) ?_
  intro p e s m args below meth c A ls H locs S hr hlocks hT hP hK hD hA hS hTE hl
  have hE := hTE.1
  have S0 := S
  obtain ⟨hx, hb, hml, hown, hts⟩ := S0
  have hl : lv_has ls 7 [(0, .ref (d 0)), (1, .int (iI (r0))), (2, .int (iI (p0))), (3, .int (iI (n0)))] := hl
  have hinX1 : ∀ w ∈ wsX10, w ∈ wsX1_graft := by decide +kernel
  have km := mir_in (s := r0 * 8 + p0)
  refine lv_iload_n hx hb dX1_graft_0 rfl (lv_at hl 1 rfl) ?_
  refine lv_iload_n hx hb dX1_graft_1 rfl (lv_at hl 2 rfl) ?_
  have hPc : va_P D vwCl ([] ++ XW cI cZ d σ κ) H := hP
  have hDc : va_D A ([] ++ XW cI cZ d σ κ) := hD
  refine g_call (va_runS (As := [.int (iI (r0)), .int (iI (p0))]) (rest := []) S ((kX1_isPlace l D  r0 p0 (by first | assumption | omega) (by first | assumption | omega) (by first | assumption | omega) (by first | assumption | omega)) H.size) (va_cwS 2 hts gX1_graft_X1_isPlace rfl rfl rfl (by decide +kernel) ⟨Nat.le_of_ble_eq_true rfl, Nat.le_of_ble_eq_true rfl⟩) (g_preS gEx_t hK [] rfl hPc hDc (fun _ _ _ => trivial)) rfl rfl hl.1 rfl (lv_room (Nat.le_of_ble_eq_true rfl)) dX1_graft_2 ⟨Nat.le_of_ble_eq_true rfl, Nat.le_of_ble_eq_true rfl⟩) hPc hDc hS hA (fun κ9 H locs hk hP hD hS => ?_)
  have hP : va_P D vwCl (XW cI cZ d σ κ) H := hP
  have hD : va_D A (XW cI cZ d σ κ) := hD
  show W p l e ({ frames := 6, cells := 1, slots := 6, locals := 92 } : Room) s m args below meth c H locs 0 0 (vx_MQ below (gQ D (tyXs cI cZ) (fun κ' => XW cI cZ d (xGraft (xGraft σ (r0 * 8 + p0) n0) (mir (r0 * 8 + p0)) n0) κ') A (fun _ => some (.int (iI (who (grA σ (r0 * 8 + p0) n0) (grA (xGraft σ (r0 * 8 + p0) n0) (mir (r0 * 8 + p0)) n0))))) (fun κ' => (tGraft r0 p0 n0) = 0 ∧ (True))) (gX D (tyXs cI cZ) (XW cI cZ d σ κ) A (fun E => (E = eI ∧ (tGraft r0 p0 n0) = 1) ∨ (E = eA ∧ (tGraft r0 p0 n0) = 2))) args s 1 6 A) (F0 m 5 ls [.int (iI (bI ((0 ≤ r0 ∧ r0 ≤ 4) ∧ 0 ≤ p0 ∧ p0 ≤ 7)))])
  refine gb_if_ne (tgt := 18) hx hb dX1_graft_5 (by decide)  (fun c5 => ?_) (fun c5 => ?_)
  · skip
    refine lv_iload_n hx hb dX1_graft_18 rfl (lv_at hl 3 rfl) ?_
    have hPc : va_P D vwCl ([] ++ XW cI cZ d σ κ) H := hP
    have hDc : va_D A ([] ++ XW cI cZ d σ κ) := hD
    refine g_call (va_runS (As := [.int (iI (n0))]) (rest := []) S ((kX1_isSort l D  n0 (by first | assumption | omega) (by first | assumption | omega)) H.size) (va_cwS 1 hts gX1_graft_X1_isSort rfl rfl rfl (by decide +kernel) ⟨Nat.le_of_ble_eq_true rfl, Nat.le_of_ble_eq_true rfl⟩) (g_preS gEx_t hK [] rfl hPc hDc (fun _ _ _ => trivial)) rfl rfl hl.1 rfl (lv_room (Nat.le_of_ble_eq_true rfl)) dX1_graft_19 ⟨Nat.le_of_ble_eq_true rfl, Nat.le_of_ble_eq_true rfl⟩) hPc hDc hS hA (fun κ9 H locs hk hP hD hS => ?_)
    have hP : va_P D vwCl (XW cI cZ d σ κ) H := hP
    have hD : va_D A (XW cI cZ d σ κ) := hD
    show W p l e ({ frames := 6, cells := 1, slots := 6, locals := 92 } : Room) s m args below meth c H locs 0 0 (vx_MQ below (gQ D (tyXs cI cZ) (fun κ' => XW cI cZ d (xGraft (xGraft σ (r0 * 8 + p0) n0) (mir (r0 * 8 + p0)) n0) κ') A (fun _ => some (.int (iI (who (grA σ (r0 * 8 + p0) n0) (grA (xGraft σ (r0 * 8 + p0) n0) (mir (r0 * 8 + p0)) n0))))) (fun κ' => (tGraft r0 p0 n0) = 0 ∧ (True))) (gX D (tyXs cI cZ) (XW cI cZ d σ κ) A (fun E => (E = eI ∧ (tGraft r0 p0 n0) = 1) ∨ (E = eA ∧ (tGraft r0 p0 n0) = 2))) args s 1 6 A) (F0 m 22 ls [.int (iI (bI (0 ≤ n0 ∧ n0 ≤ 5)))])
    refine gb_if_ne (tgt := 35) hx hb dX1_graft_22 (by decide)  (fun c22 => ?_) (fun c22 => ?_)
    · skip
      refine lv_iload_n hx hb dX1_graft_35 rfl (lv_at hl 1 rfl) ?_
      refine lv_iload_n hx hb dX1_graft_36 rfl (lv_at hl 2 rfl) ?_
      have hPc : va_P D vwCl ([] ++ XW cI cZ d σ κ) H := hP
      have hDc : va_D A ([] ++ XW cI cZ d σ κ) := hD
      refine g_call (va_runS (As := [.int (iI (r0)), .int (iI (p0))]) (rest := []) S ((kX1_spotOf l D  r0 p0 ) H.size) (va_cwS 2 hts gX1_graft_X1_spotOf rfl rfl rfl (by decide +kernel) ⟨Nat.le_of_ble_eq_true rfl, Nat.le_of_ble_eq_true rfl⟩) (g_preS gEx_t hK [] rfl hPc hDc (fun _ _ _ => trivial)) rfl rfl hl.1 rfl (lv_room (Nat.le_of_ble_eq_true rfl)) dX1_graft_37 ⟨Nat.le_of_ble_eq_true rfl, Nat.le_of_ble_eq_true rfl⟩) hPc hDc hS hA (fun κ9 H locs hk hP hD hS => ?_)
      have hP : va_P D vwCl (XW cI cZ d σ κ) H := hP
      have hD : va_D A (XW cI cZ d σ κ) := hD
      show W p l e ({ frames := 6, cells := 1, slots := 6, locals := 92 } : Room) s m args below meth c H locs 0 0 (vx_MQ below (gQ D (tyXs cI cZ) (fun κ' => XW cI cZ d (xGraft (xGraft σ (r0 * 8 + p0) n0) (mir (r0 * 8 + p0)) n0) κ') A (fun _ => some (.int (iI (who (grA σ (r0 * 8 + p0) n0) (grA (xGraft σ (r0 * 8 + p0) n0) (mir (r0 * 8 + p0)) n0))))) (fun κ' => (tGraft r0 p0 n0) = 0 ∧ (True))) (gX D (tyXs cI cZ) (XW cI cZ d σ κ) A (fun E => (E = eI ∧ (tGraft r0 p0 n0) = 1) ∨ (E = eA ∧ (tGraft r0 p0 n0) = 2))) args s 1 6 A) (F0 m 40 ls [.int (iI (r0 * 8 + p0))])
      refine lv_istore (lv' := [(4, .int (iI (r0 * 8 + p0))), (0, .ref (d 0)), (1, .int (iI (r0))), (2, .int (iI (p0))), (3, .int (iI (n0)))]) hx hb dX1_graft_40 hl (by decide) rfl (fun ls hl => ?_)
      refine lv_aload_n hx hb dX1_graft_42 rfl (lv_at hl 1 rfl) ?_
      refine lv_iload hx hb dX1_graft_43 (lv_at hl 0 rfl) ?_
      refine lv_iload_n hx hb dX1_graft_45 rfl (lv_at hl 4 rfl) ?_
      have hPc : va_P D vwCl (XW cI cZ d σ κ ++ []) H := by rw [List.append_nil]; exact hP
      have hDc : va_D A (XW cI cZ d σ κ ++ []) := by rw [List.append_nil]; exact hD
      refine g_call (va_runV (As := [.int (iI (r0 * 8 + p0)), .int (iI (n0))]) (rest := []) S ((kX1_graftAt l D cI cZ d σ κ (r0 * 8 + p0) n0 (by first | assumption | omega) (by first | assumption | omega) (by first | assumption | omega) (by first | assumption | omega) (by first | assumption | omega)) H.size) (cwV 2 hts gX1_graft_X1_graftAt rfl rfl rfl (by decide +kernel) ⟨Nat.le_of_ble_eq_true rfl, Nat.le_of_ble_eq_true rfl⟩) (g_preV xEx_g hK [0, 1] rfl hPc hDc (fun U _ hW => xEx_w hW hE) (q0 := 0) (ci := 1) rfl rfl rfl) rfl rfl hl.1 rfl (lv_room (Nat.le_of_ble_eq_true rfl)) dX1_graft_46 ⟨Nat.le_of_ble_eq_true rfl, Nat.le_of_ble_eq_true rfl⟩) hPc hDc hS hA (fun κ9 H locs hk hP hD hS => ?_)
      have hk : κ = κ9 := hk.symm
      subst hk
      have hP : va_P D vwCl (XW cI cZ d (xGraft σ (r0 * 8 + p0) n0) κ) H := by have h9 : va_P D vwCl (XW cI cZ d (xGraft σ (r0 * 8 + p0) n0) κ ++ []) H := hP; rw [List.append_nil] at h9; exact h9
      have hD : va_D A (XW cI cZ d (xGraft σ (r0 * 8 + p0) n0) κ) := by have h9 : va_D A (XW cI cZ d (xGraft σ (r0 * 8 + p0) n0) κ ++ []) := hD; rw [List.append_nil] at h9; exact h9
      show W p l e ({ frames := 6, cells := 1, slots := 6, locals := 92 } : Room) s m args below meth c H locs 0 0 (vx_MQ below (gQ D (tyXs cI cZ) (fun κ' => XW cI cZ d (xGraft (xGraft σ (r0 * 8 + p0) n0) (mir (r0 * 8 + p0)) n0) κ') A (fun _ => some (.int (iI (who (grA σ (r0 * 8 + p0) n0) (grA (xGraft σ (r0 * 8 + p0) n0) (mir (r0 * 8 + p0)) n0))))) (fun κ' => (tGraft r0 p0 n0) = 0 ∧ (True))) (gX D (tyXs cI cZ) (XW cI cZ d σ κ) A (fun E => (E = eI ∧ (tGraft r0 p0 n0) = 1) ∨ (E = eA ∧ (tGraft r0 p0 n0) = 2))) args s 1 6 A) (F0 m 49 ls [.int (iI (grA σ (r0 * 8 + p0) n0))])
      refine lv_istore (lv' := [(5, .int (iI (grA σ (r0 * 8 + p0) n0))), (4, .int (iI (r0 * 8 + p0))), (0, .ref (d 0)), (1, .int (iI (r0))), (2, .int (iI (p0))), (3, .int (iI (n0)))]) hx hb dX1_graft_49 hl (by decide) rfl (fun ls hl => ?_)
      refine lv_aload_n hx hb dX1_graft_51 rfl (lv_at hl 2 rfl) ?_
      refine lv_iload hx hb dX1_graft_52 (lv_at hl 1 rfl) ?_
      have hPc : va_P D vwCl ([] ++ XW cI cZ d (xGraft σ (r0 * 8 + p0) n0) κ) H := hP
      have hDc : va_D A ([] ++ XW cI cZ d (xGraft σ (r0 * 8 + p0) n0) κ) := hD
      refine g_call (va_runS (As := [.int (iI (r0 * 8 + p0))]) (rest := [.ref (d 0)]) S ((kX1_mirrorOf l D  (r0 * 8 + p0) (by first | assumption | omega) (by first | assumption | omega)) H.size) (va_cwS 1 hts gX1_graft_X1_mirrorOf rfl rfl rfl (by decide +kernel) ⟨Nat.le_of_ble_eq_true rfl, Nat.le_of_ble_eq_true rfl⟩) (g_preS gEx_t hK [] rfl hPc hDc (fun _ _ _ => trivial)) rfl rfl hl.1 rfl (lv_room (Nat.le_of_ble_eq_true rfl)) dX1_graft_54 ⟨Nat.le_of_ble_eq_true rfl, Nat.le_of_ble_eq_true rfl⟩) hPc hDc hS hA (fun κ9 H locs hk hP hD hS => ?_)
      have hP : va_P D vwCl (XW cI cZ d (xGraft σ (r0 * 8 + p0) n0) κ) H := hP
      have hD : va_D A (XW cI cZ d (xGraft σ (r0 * 8 + p0) n0) κ) := hD
      show W p l e ({ frames := 6, cells := 1, slots := 6, locals := 92 } : Room) s m args below meth c H locs 0 0 (vx_MQ below (gQ D (tyXs cI cZ) (fun κ' => XW cI cZ d (xGraft (xGraft σ (r0 * 8 + p0) n0) (mir (r0 * 8 + p0)) n0) κ') A (fun _ => some (.int (iI (who (grA σ (r0 * 8 + p0) n0) (grA (xGraft σ (r0 * 8 + p0) n0) (mir (r0 * 8 + p0)) n0))))) (fun κ' => (tGraft r0 p0 n0) = 0 ∧ (True))) (gX D (tyXs cI cZ) (XW cI cZ d σ κ) A (fun E => (E = eI ∧ (tGraft r0 p0 n0) = 1) ∨ (E = eA ∧ (tGraft r0 p0 n0) = 2))) args s 1 6 A) (F0 m 57 ls [.int (iI (mir (r0 * 8 + p0))), .ref (d 0)])
      refine lv_iload_n hx hb dX1_graft_57 rfl (lv_at hl 5 rfl) ?_
      have hPc : va_P D vwCl (XW cI cZ d (xGraft σ (r0 * 8 + p0) n0) κ ++ []) H := by rw [List.append_nil]; exact hP
      have hDc : va_D A (XW cI cZ d (xGraft σ (r0 * 8 + p0) n0) κ ++ []) := by rw [List.append_nil]; exact hD
      refine g_call (va_runV (As := [.int (iI (mir (r0 * 8 + p0))), .int (iI (n0))]) (rest := []) S ((kX1_graftAt l D cI cZ d (xGraft σ (r0 * 8 + p0) n0) κ (mir (r0 * 8 + p0)) n0 (km (by omega) (by omega)).1 (km (by omega) (by omega)).2 (xWF_graft hwf (by omega)) (by first | assumption | omega) (by first | assumption | omega)) H.size) (cwV 2 hts gX1_graft_X1_graftAt rfl rfl rfl (by decide +kernel) ⟨Nat.le_of_ble_eq_true rfl, Nat.le_of_ble_eq_true rfl⟩) (g_preV xEx_g hK [0, 1] rfl hPc hDc (fun U _ hW => xEx_w hW hE) (q0 := 0) (ci := 1) rfl rfl rfl) rfl rfl hl.1 rfl (lv_room (Nat.le_of_ble_eq_true rfl)) dX1_graft_58 ⟨Nat.le_of_ble_eq_true rfl, Nat.le_of_ble_eq_true rfl⟩) hPc hDc hS hA (fun κ9 H locs hk hP hD hS => ?_)
      have hk : κ = κ9 := hk.symm
      subst hk
      have hP : va_P D vwCl (XW cI cZ d (xGraft (xGraft σ (r0 * 8 + p0) n0) (mir (r0 * 8 + p0)) n0) κ) H := by have h9 : va_P D vwCl (XW cI cZ d (xGraft (xGraft σ (r0 * 8 + p0) n0) (mir (r0 * 8 + p0)) n0) κ ++ []) H := hP; rw [List.append_nil] at h9; exact h9
      have hD : va_D A (XW cI cZ d (xGraft (xGraft σ (r0 * 8 + p0) n0) (mir (r0 * 8 + p0)) n0) κ) := by have h9 : va_D A (XW cI cZ d (xGraft (xGraft σ (r0 * 8 + p0) n0) (mir (r0 * 8 + p0)) n0) κ ++ []) := hD; rw [List.append_nil] at h9; exact h9
      show W p l e ({ frames := 6, cells := 1, slots := 6, locals := 92 } : Room) s m args below meth c H locs 0 0 (vx_MQ below (gQ D (tyXs cI cZ) (fun κ' => XW cI cZ d (xGraft (xGraft σ (r0 * 8 + p0) n0) (mir (r0 * 8 + p0)) n0) κ') A (fun _ => some (.int (iI (who (grA σ (r0 * 8 + p0) n0) (grA (xGraft σ (r0 * 8 + p0) n0) (mir (r0 * 8 + p0)) n0))))) (fun κ' => (tGraft r0 p0 n0) = 0 ∧ (True))) (gX D (tyXs cI cZ) (XW cI cZ d σ κ) A (fun E => (E = eI ∧ (tGraft r0 p0 n0) = 1) ∨ (E = eA ∧ (tGraft r0 p0 n0) = 2))) args s 1 6 A) (F0 m 61 ls [.int (iI (grA (xGraft σ (r0 * 8 + p0) n0) (mir (r0 * 8 + p0)) n0))])
      refine lv_istore (lv' := [(6, .int (iI (grA (xGraft σ (r0 * 8 + p0) n0) (mir (r0 * 8 + p0)) n0))), (5, .int (iI (grA σ (r0 * 8 + p0) n0))), (4, .int (iI (r0 * 8 + p0))), (0, .ref (d 0)), (1, .int (iI (r0))), (2, .int (iI (p0))), (3, .int (iI (n0)))]) hx hb dX1_graft_61 hl (by decide) rfl (fun ls hl => ?_)
      refine lv_iload hx hb dX1_graft_63 (lv_at hl 1 rfl) ?_
      refine lv_iload hx hb dX1_graft_65 (lv_at hl 0 rfl) ?_
      have hPc : va_P D vwCl ([] ++ XW cI cZ d (xGraft (xGraft σ (r0 * 8 + p0) n0) (mir (r0 * 8 + p0)) n0) κ) H := hP
      have hDc : va_D A ([] ++ XW cI cZ d (xGraft (xGraft σ (r0 * 8 + p0) n0) (mir (r0 * 8 + p0)) n0) κ) := hD
      refine g_call (va_runS (As := [.int (iI (grA σ (r0 * 8 + p0) n0)), .int (iI (grA (xGraft σ (r0 * 8 + p0) n0) (mir (r0 * 8 + p0)) n0))]) (rest := []) S ((kX1_whoDidIt l D  (grA σ (r0 * 8 + p0) n0) (grA (xGraft σ (r0 * 8 + p0) n0) (mir (r0 * 8 + p0)) n0) (grA_r _ _ _).1 (grA_r _ _ _).2 (grA_r _ _ _).1 (grA_r _ _ _).2) H.size) (va_cwS 2 hts gX1_graft_X1_whoDidIt rfl rfl rfl (by decide +kernel) ⟨Nat.le_of_ble_eq_true rfl, Nat.le_of_ble_eq_true rfl⟩) (g_preS gEx_t hK [] rfl hPc hDc (fun _ _ _ => trivial)) rfl rfl hl.1 rfl (lv_room (Nat.le_of_ble_eq_true rfl)) dX1_graft_67 ⟨Nat.le_of_ble_eq_true rfl, Nat.le_of_ble_eq_true rfl⟩) hPc hDc hS hA (fun κ9 H locs hk hP hD hS => ?_)
      have hP : va_P D vwCl (XW cI cZ d (xGraft (xGraft σ (r0 * 8 + p0) n0) (mir (r0 * 8 + p0)) n0) κ) H := hP
      have hD : va_D A (XW cI cZ d (xGraft (xGraft σ (r0 * 8 + p0) n0) (mir (r0 * 8 + p0)) n0) κ) := hD
      show W p l e ({ frames := 6, cells := 1, slots := 6, locals := 92 } : Room) s m args below meth c H locs 0 0 (vx_MQ below (gQ D (tyXs cI cZ) (fun κ' => XW cI cZ d (xGraft (xGraft σ (r0 * 8 + p0) n0) (mir (r0 * 8 + p0)) n0) κ') A (fun _ => some (.int (iI (who (grA σ (r0 * 8 + p0) n0) (grA (xGraft σ (r0 * 8 + p0) n0) (mir (r0 * 8 + p0)) n0))))) (fun κ' => (tGraft r0 p0 n0) = 0 ∧ (True))) (gX D (tyXs cI cZ) (XW cI cZ d σ κ) A (fun E => (E = eI ∧ (tGraft r0 p0 n0) = 1) ∨ (E = eA ∧ (tGraft r0 p0 n0) = 2))) args s 1 6 A) (F0 m 70 ls [.int (iI (who (grA σ (r0 * 8 + p0) n0) (grA (xGraft σ (r0 * 8 + p0) n0) (mir (r0 * 8 + p0)) n0)))])
      refine vx_ret ?_; exact g_iret (wo := (fun κ' => XW cI cZ d (xGraft (xGraft σ (r0 * 8 + p0) n0) (mir (r0 * 8 + p0)) n0) κ')) (kr := (fun κ' => (tGraft r0 p0 n0) = 0 ∧ (True))) (rv := (fun _ => some (.int (iI (who (grA σ (r0 * 8 + p0) n0) (grA (xGraft σ (r0 * 8 + p0) n0) (mir (r0 * 8 + p0)) n0)))))) hx hb hr hlocks κ rfl hP hK hD hS ⟨by unfold tGraft; rw [if_neg (by omega), if_neg (by omega)], trivial⟩ rfl (Nat.le_of_ble_eq_true rfl) (Nat.le_of_ble_eq_true rfl) dX1_graft_70
    · skip
      exact h_throw (cls := eA) (ik := 76) (is := 67) (ic := 80) hx hb hfl hown hTE (List.mem_of_getElem? (i := 0) rfl) (by decide +kernel) (hts _ (List.mem_of_getElem? (i := 3) rfl)) (hts _ (List.mem_of_getElem? (i := 4) rfl)) (Or.inr (Or.inl rfl)) h_nA (fun w h => hts w (List.mem_cons_of_mem _ (List.mem_append_right _ (h)))) h_gA hS (hl.1.trans hml.symm) hT hlocks hP hK hD (Or.inr (⟨rfl, by unfold tGraft; rw [if_neg (by omega), if_pos (by omega)]⟩)) dX1_graft_25 dX1_graft_28 dX1_graft_29 dX1_graft_31 dX1_graft_34 (by decide) (Nat.le_of_ble_eq_true rfl) (by decide) (by decide) (by decide) (by decide)
  · skip
    exact h_throw (cls := eI) (ik := 65) (is := 89) (ic := 69) hx hb hfl hown hTE (List.mem_of_getElem? (i := 4) rfl) (by decide +kernel) (hts _ (List.mem_of_getElem? (i := 1) rfl)) (hts _ (List.mem_of_getElem? (i := 2) rfl)) (Or.inl rfl) h_nI (fun w h => hts w (List.mem_cons_of_mem _ (List.mem_append_left _ (List.mem_append_right _ (h))))) h_gI hS (hl.1.trans hml.symm) hT hlocks hP hK hD (Or.inl ⟨rfl, by unfold tGraft; rw [if_pos (by omega)]⟩) dX1_graft_8 dX1_graft_11 dX1_graft_12 dX1_graft_14 dX1_graft_17 (by decide) (Nat.le_of_ble_eq_true rfl) (by decide) (by decide) (by decide) (by decide)
set_option maxHeartbeats 4000000 in
set_option maxRecDepth 100000 in
theorem kX1_fell (l : Launch) (hfl : l.stackTraces = false) (D : va_G) (cI cZ : ClassId) (d : Nat → Nat) (σ κ : St)  (r0 : Int) (p0 : Int) (hwf : xWF σ) (hl_r0 : -2147483648 ≤ r0) (hh_r0 : r0 ≤ 2147483647) (hl_p0 : -2147483648 ≤ p0) (hh_p0 : p0 ≤ 2147483647) : hMet l yX1_fell wsX1_fell ({ frames := 6, cells := 1, slots := 6, locals := 92 } : Room) D (tyXs cI cZ) (XW cI cZ d σ κ) [.ref (d 0), .int (iI r0), .int (iI p0)] (fun _ => some (.int (iI (who (feA σ (r0 * 8 + p0)) (feA (xFell σ (r0 * 8 + p0)) (mir (r0 * 8 + p0))))))) (fun κ' => (tFell r0 p0) = 0 ∧ (True)) (fun κ' => XW cI cZ d (xFell (xFell σ (r0 * 8 + p0)) (mir (r0 * 8 + p0))) κ') (fun E => (E = eI ∧ (tFell r0 p0) = 1)) := by
  refine h_start (cc := cX1_fell) (maxL := 6) (ret := (some .int)) (by decide) rfl (Nat.le_of_ble_eq_true rfl) ?_
  intro p e s m args below meth c A ls H locs S hr hlocks hT hP hK hD hA hS hTE hl
  have hE := hTE.1
  have S0 := S
  obtain ⟨hx, hb, hml, hown, hts⟩ := S0
  have hl : lv_has ls 6 [(0, .ref (d 0)), (1, .int (iI (r0))), (2, .int (iI (p0)))] := hl
  have hinX1 : ∀ w ∈ wsX10, w ∈ wsX1_fell := by decide +kernel
  have km := mir_in (s := r0 * 8 + p0)
  refine lv_iload_n hx hb dX1_fell_0 rfl (lv_at hl 1 rfl) ?_
  refine lv_iload_n hx hb dX1_fell_1 rfl (lv_at hl 2 rfl) ?_
  have hPc : va_P D vwCl ([] ++ XW cI cZ d σ κ) H := hP
  have hDc : va_D A ([] ++ XW cI cZ d σ κ) := hD
  refine g_call (va_runS (As := [.int (iI (r0)), .int (iI (p0))]) (rest := []) S ((kX1_isPlace l D  r0 p0 (by first | assumption | omega) (by first | assumption | omega) (by first | assumption | omega) (by first | assumption | omega)) H.size) (va_cwS 2 hts gX1_fell_X1_isPlace rfl rfl rfl (by decide +kernel) ⟨Nat.le_of_ble_eq_true rfl, Nat.le_of_ble_eq_true rfl⟩) (g_preS gEx_t hK [] rfl hPc hDc (fun _ _ _ => trivial)) rfl rfl hl.1 rfl (lv_room (Nat.le_of_ble_eq_true rfl)) dX1_fell_2 ⟨Nat.le_of_ble_eq_true rfl, Nat.le_of_ble_eq_true rfl⟩) hPc hDc hS hA (fun κ9 H locs hk hP hD hS => ?_)
  have hP : va_P D vwCl (XW cI cZ d σ κ) H := hP
  have hD : va_D A (XW cI cZ d σ κ) := hD
  show W p l e ({ frames := 6, cells := 1, slots := 6, locals := 92 } : Room) s m args below meth c H locs 0 0 (vx_MQ below (gQ D (tyXs cI cZ) (fun κ' => XW cI cZ d (xFell (xFell σ (r0 * 8 + p0)) (mir (r0 * 8 + p0))) κ') A (fun _ => some (.int (iI (who (feA σ (r0 * 8 + p0)) (feA (xFell σ (r0 * 8 + p0)) (mir (r0 * 8 + p0))))))) (fun κ' => (tFell r0 p0) = 0 ∧ (True))) (gX D (tyXs cI cZ) (XW cI cZ d σ κ) A (fun E => (E = eI ∧ (tFell r0 p0) = 1))) args s 1 6 A) (F0 m 5 ls [.int (iI (bI ((0 ≤ r0 ∧ r0 ≤ 4) ∧ 0 ≤ p0 ∧ p0 ≤ 7)))])
  refine gb_if_ne (tgt := 18) hx hb dX1_fell_5 (by decide)  (fun c5 => ?_) (fun c5 => ?_)
  · skip
    refine lv_iload_n hx hb dX1_fell_18 rfl (lv_at hl 1 rfl) ?_
    refine lv_iload_n hx hb dX1_fell_19 rfl (lv_at hl 2 rfl) ?_
    have hPc : va_P D vwCl ([] ++ XW cI cZ d σ κ) H := hP
    have hDc : va_D A ([] ++ XW cI cZ d σ κ) := hD
    refine g_call (va_runS (As := [.int (iI (r0)), .int (iI (p0))]) (rest := []) S ((kX1_spotOf l D  r0 p0 ) H.size) (va_cwS 2 hts gX1_fell_X1_spotOf rfl rfl rfl (by decide +kernel) ⟨Nat.le_of_ble_eq_true rfl, Nat.le_of_ble_eq_true rfl⟩) (g_preS gEx_t hK [] rfl hPc hDc (fun _ _ _ => trivial)) rfl rfl hl.1 rfl (lv_room (Nat.le_of_ble_eq_true rfl)) dX1_fell_20 ⟨Nat.le_of_ble_eq_true rfl, Nat.le_of_ble_eq_true rfl⟩) hPc hDc hS hA (fun κ9 H locs hk hP hD hS => ?_)
    have hP : va_P D vwCl (XW cI cZ d σ κ) H := hP
    have hD : va_D A (XW cI cZ d σ κ) := hD
    show W p l e ({ frames := 6, cells := 1, slots := 6, locals := 92 } : Room) s m args below meth c H locs 0 0 (vx_MQ below (gQ D (tyXs cI cZ) (fun κ' => XW cI cZ d (xFell (xFell σ (r0 * 8 + p0)) (mir (r0 * 8 + p0))) κ') A (fun _ => some (.int (iI (who (feA σ (r0 * 8 + p0)) (feA (xFell σ (r0 * 8 + p0)) (mir (r0 * 8 + p0))))))) (fun κ' => (tFell r0 p0) = 0 ∧ (True))) (gX D (tyXs cI cZ) (XW cI cZ d σ κ) A (fun E => (E = eI ∧ (tFell r0 p0) = 1))) args s 1 6 A) (F0 m 23 ls [.int (iI (r0 * 8 + p0))])
    refine lv_istore_n (lv' := [(3, .int (iI (r0 * 8 + p0))), (0, .ref (d 0)), (1, .int (iI (r0))), (2, .int (iI (p0)))]) hx hb dX1_fell_23 rfl hl (by decide) rfl (fun ls hl => ?_)
    refine lv_aload_n hx hb dX1_fell_24 rfl (lv_at hl 1 rfl) ?_
    refine lv_iload_n hx hb dX1_fell_25 rfl (lv_at hl 0 rfl) ?_
    have hPc : va_P D vwCl (XW cI cZ d σ κ ++ []) H := by rw [List.append_nil]; exact hP
    have hDc : va_D A (XW cI cZ d σ κ ++ []) := by rw [List.append_nil]; exact hD
    refine g_call (va_runV (As := [.int (iI (r0 * 8 + p0))]) (rest := []) S ((kX1_fellAt l D cI cZ d σ κ (r0 * 8 + p0) (by first | assumption | omega) (by first | assumption | omega) (by first | assumption | omega)) H.size) (cwV 1 hts gX1_fell_X1_fellAt rfl rfl rfl (by decide +kernel) ⟨Nat.le_of_ble_eq_true rfl, Nat.le_of_ble_eq_true rfl⟩) (g_preV xEx_g hK [0, 1] rfl hPc hDc (fun U _ hW => xEx_w hW hE) (q0 := 0) (ci := 1) rfl rfl rfl) rfl rfl hl.1 rfl (lv_room (Nat.le_of_ble_eq_true rfl)) dX1_fell_26 ⟨Nat.le_of_ble_eq_true rfl, Nat.le_of_ble_eq_true rfl⟩) hPc hDc hS hA (fun κ9 H locs hk hP hD hS => ?_)
    have hk : κ = κ9 := hk.symm
    subst hk
    have hP : va_P D vwCl (XW cI cZ d (xFell σ (r0 * 8 + p0)) κ) H := by have h9 : va_P D vwCl (XW cI cZ d (xFell σ (r0 * 8 + p0)) κ ++ []) H := hP; rw [List.append_nil] at h9; exact h9
    have hD : va_D A (XW cI cZ d (xFell σ (r0 * 8 + p0)) κ) := by have h9 : va_D A (XW cI cZ d (xFell σ (r0 * 8 + p0)) κ ++ []) := hD; rw [List.append_nil] at h9; exact h9
    show W p l e ({ frames := 6, cells := 1, slots := 6, locals := 92 } : Room) s m args below meth c H locs 0 0 (vx_MQ below (gQ D (tyXs cI cZ) (fun κ' => XW cI cZ d (xFell (xFell σ (r0 * 8 + p0)) (mir (r0 * 8 + p0))) κ') A (fun _ => some (.int (iI (who (feA σ (r0 * 8 + p0)) (feA (xFell σ (r0 * 8 + p0)) (mir (r0 * 8 + p0))))))) (fun κ' => (tFell r0 p0) = 0 ∧ (True))) (gX D (tyXs cI cZ) (XW cI cZ d σ κ) A (fun E => (E = eI ∧ (tFell r0 p0) = 1))) args s 1 6 A) (F0 m 29 ls [.int (iI (feA σ (r0 * 8 + p0)))])
    refine lv_istore (lv' := [(4, .int (iI (feA σ (r0 * 8 + p0)))), (3, .int (iI (r0 * 8 + p0))), (0, .ref (d 0)), (1, .int (iI (r0))), (2, .int (iI (p0)))]) hx hb dX1_fell_29 hl (by decide) rfl (fun ls hl => ?_)
    refine lv_aload_n hx hb dX1_fell_31 rfl (lv_at hl 2 rfl) ?_
    refine lv_iload_n hx hb dX1_fell_32 rfl (lv_at hl 1 rfl) ?_
    have hPc : va_P D vwCl ([] ++ XW cI cZ d (xFell σ (r0 * 8 + p0)) κ) H := hP
    have hDc : va_D A ([] ++ XW cI cZ d (xFell σ (r0 * 8 + p0)) κ) := hD
    refine g_call (va_runS (As := [.int (iI (r0 * 8 + p0))]) (rest := [.ref (d 0)]) S ((kX1_mirrorOf l D  (r0 * 8 + p0) (by first | assumption | omega) (by first | assumption | omega)) H.size) (va_cwS 1 hts gX1_fell_X1_mirrorOf rfl rfl rfl (by decide +kernel) ⟨Nat.le_of_ble_eq_true rfl, Nat.le_of_ble_eq_true rfl⟩) (g_preS gEx_t hK [] rfl hPc hDc (fun _ _ _ => trivial)) rfl rfl hl.1 rfl (lv_room (Nat.le_of_ble_eq_true rfl)) dX1_fell_33 ⟨Nat.le_of_ble_eq_true rfl, Nat.le_of_ble_eq_true rfl⟩) hPc hDc hS hA (fun κ9 H locs hk hP hD hS => ?_)
    have hP : va_P D vwCl (XW cI cZ d (xFell σ (r0 * 8 + p0)) κ) H := hP
    have hD : va_D A (XW cI cZ d (xFell σ (r0 * 8 + p0)) κ) := hD
    show W p l e ({ frames := 6, cells := 1, slots := 6, locals := 92 } : Room) s m args below meth c H locs 0 0 (vx_MQ below (gQ D (tyXs cI cZ) (fun κ' => XW cI cZ d (xFell (xFell σ (r0 * 8 + p0)) (mir (r0 * 8 + p0))) κ') A (fun _ => some (.int (iI (who (feA σ (r0 * 8 + p0)) (feA (xFell σ (r0 * 8 + p0)) (mir (r0 * 8 + p0))))))) (fun κ' => (tFell r0 p0) = 0 ∧ (True))) (gX D (tyXs cI cZ) (XW cI cZ d σ κ) A (fun E => (E = eI ∧ (tFell r0 p0) = 1))) args s 1 6 A) (F0 m 36 ls [.int (iI (mir (r0 * 8 + p0))), .ref (d 0)])
    have hPc : va_P D vwCl (XW cI cZ d (xFell σ (r0 * 8 + p0)) κ ++ []) H := by rw [List.append_nil]; exact hP
    have hDc : va_D A (XW cI cZ d (xFell σ (r0 * 8 + p0)) κ ++ []) := by rw [List.append_nil]; exact hD
    refine g_call (va_runV (As := [.int (iI (mir (r0 * 8 + p0)))]) (rest := []) S ((kX1_fellAt l D cI cZ d (xFell σ (r0 * 8 + p0)) κ (mir (r0 * 8 + p0)) (km (by omega) (by omega)).1 (km (by omega) (by omega)).2 (xWF_fell hwf)) H.size) (cwV 1 hts gX1_fell_X1_fellAt rfl rfl rfl (by decide +kernel) ⟨Nat.le_of_ble_eq_true rfl, Nat.le_of_ble_eq_true rfl⟩) (g_preV xEx_g hK [0, 1] rfl hPc hDc (fun U _ hW => xEx_w hW hE) (q0 := 0) (ci := 1) rfl rfl rfl) rfl rfl hl.1 rfl (lv_room (Nat.le_of_ble_eq_true rfl)) dX1_fell_36 ⟨Nat.le_of_ble_eq_true rfl, Nat.le_of_ble_eq_true rfl⟩) hPc hDc hS hA (fun κ9 H locs hk hP hD hS => ?_)
    have hk : κ = κ9 := hk.symm
    subst hk
    have hP : va_P D vwCl (XW cI cZ d (xFell (xFell σ (r0 * 8 + p0)) (mir (r0 * 8 + p0))) κ) H := by have h9 : va_P D vwCl (XW cI cZ d (xFell (xFell σ (r0 * 8 + p0)) (mir (r0 * 8 + p0))) κ ++ []) H := hP; rw [List.append_nil] at h9; exact h9
    have hD : va_D A (XW cI cZ d (xFell (xFell σ (r0 * 8 + p0)) (mir (r0 * 8 + p0))) κ) := by have h9 : va_D A (XW cI cZ d (xFell (xFell σ (r0 * 8 + p0)) (mir (r0 * 8 + p0))) κ ++ []) := hD; rw [List.append_nil] at h9; exact h9
    show W p l e ({ frames := 6, cells := 1, slots := 6, locals := 92 } : Room) s m args below meth c H locs 0 0 (vx_MQ below (gQ D (tyXs cI cZ) (fun κ' => XW cI cZ d (xFell (xFell σ (r0 * 8 + p0)) (mir (r0 * 8 + p0))) κ') A (fun _ => some (.int (iI (who (feA σ (r0 * 8 + p0)) (feA (xFell σ (r0 * 8 + p0)) (mir (r0 * 8 + p0))))))) (fun κ' => (tFell r0 p0) = 0 ∧ (True))) (gX D (tyXs cI cZ) (XW cI cZ d σ κ) A (fun E => (E = eI ∧ (tFell r0 p0) = 1))) args s 1 6 A) (F0 m 39 ls [.int (iI (feA (xFell σ (r0 * 8 + p0)) (mir (r0 * 8 + p0))))])
    refine lv_istore (lv' := [(5, .int (iI (feA (xFell σ (r0 * 8 + p0)) (mir (r0 * 8 + p0))))), (4, .int (iI (feA σ (r0 * 8 + p0)))), (3, .int (iI (r0 * 8 + p0))), (0, .ref (d 0)), (1, .int (iI (r0))), (2, .int (iI (p0)))]) hx hb dX1_fell_39 hl (by decide) rfl (fun ls hl => ?_)
    refine lv_iload hx hb dX1_fell_41 (lv_at hl 1 rfl) ?_
    refine lv_iload hx hb dX1_fell_43 (lv_at hl 0 rfl) ?_
    have hPc : va_P D vwCl ([] ++ XW cI cZ d (xFell (xFell σ (r0 * 8 + p0)) (mir (r0 * 8 + p0))) κ) H := hP
    have hDc : va_D A ([] ++ XW cI cZ d (xFell (xFell σ (r0 * 8 + p0)) (mir (r0 * 8 + p0))) κ) := hD
    refine g_call (va_runS (As := [.int (iI (feA σ (r0 * 8 + p0))), .int (iI (feA (xFell σ (r0 * 8 + p0)) (mir (r0 * 8 + p0))))]) (rest := []) S ((kX1_whoDidIt l D  (feA σ (r0 * 8 + p0)) (feA (xFell σ (r0 * 8 + p0)) (mir (r0 * 8 + p0))) (feA_r _ _).1 (feA_r _ _).2 (feA_r _ _).1 (feA_r _ _).2) H.size) (va_cwS 2 hts gX1_fell_X1_whoDidIt rfl rfl rfl (by decide +kernel) ⟨Nat.le_of_ble_eq_true rfl, Nat.le_of_ble_eq_true rfl⟩) (g_preS gEx_t hK [] rfl hPc hDc (fun _ _ _ => trivial)) rfl rfl hl.1 rfl (lv_room (Nat.le_of_ble_eq_true rfl)) dX1_fell_45 ⟨Nat.le_of_ble_eq_true rfl, Nat.le_of_ble_eq_true rfl⟩) hPc hDc hS hA (fun κ9 H locs hk hP hD hS => ?_)
    have hP : va_P D vwCl (XW cI cZ d (xFell (xFell σ (r0 * 8 + p0)) (mir (r0 * 8 + p0))) κ) H := hP
    have hD : va_D A (XW cI cZ d (xFell (xFell σ (r0 * 8 + p0)) (mir (r0 * 8 + p0))) κ) := hD
    show W p l e ({ frames := 6, cells := 1, slots := 6, locals := 92 } : Room) s m args below meth c H locs 0 0 (vx_MQ below (gQ D (tyXs cI cZ) (fun κ' => XW cI cZ d (xFell (xFell σ (r0 * 8 + p0)) (mir (r0 * 8 + p0))) κ') A (fun _ => some (.int (iI (who (feA σ (r0 * 8 + p0)) (feA (xFell σ (r0 * 8 + p0)) (mir (r0 * 8 + p0))))))) (fun κ' => (tFell r0 p0) = 0 ∧ (True))) (gX D (tyXs cI cZ) (XW cI cZ d σ κ) A (fun E => (E = eI ∧ (tFell r0 p0) = 1))) args s 1 6 A) (F0 m 48 ls [.int (iI (who (feA σ (r0 * 8 + p0)) (feA (xFell σ (r0 * 8 + p0)) (mir (r0 * 8 + p0)))))])
    refine vx_ret ?_; exact g_iret (wo := (fun κ' => XW cI cZ d (xFell (xFell σ (r0 * 8 + p0)) (mir (r0 * 8 + p0))) κ')) (kr := (fun κ' => (tFell r0 p0) = 0 ∧ (True))) (rv := (fun _ => some (.int (iI (who (feA σ (r0 * 8 + p0)) (feA (xFell σ (r0 * 8 + p0)) (mir (r0 * 8 + p0)))))))) hx hb hr hlocks κ rfl hP hK hD hS ⟨by unfold tFell; rw [if_neg (by omega)], trivial⟩ rfl (Nat.le_of_ble_eq_true rfl) (Nat.le_of_ble_eq_true rfl) dX1_fell_48
  · skip
    exact h_throw (cls := eI) (ik := 65) (is := 89) (ic := 69) hx hb hfl hown hTE (List.mem_of_getElem? (i := 4) rfl) (by decide +kernel) (hts _ (List.mem_of_getElem? (i := 1) rfl)) (hts _ (List.mem_of_getElem? (i := 2) rfl)) (Or.inl rfl) h_nI (fun w h => hts w (List.mem_cons_of_mem _ (List.mem_append_right _ (h)))) h_gI hS (hl.1.trans hml.symm) hT hlocks hP hK hD (⟨rfl, by unfold tFell; rw [if_pos (by omega)]⟩) dX1_fell_8 dX1_fell_11 dX1_fell_12 dX1_fell_14 dX1_fell_17 (by decide) (Nat.le_of_ble_eq_true rfl) (by decide) (by decide) (by decide) (by decide)
set_option maxHeartbeats 4000000 in
set_option maxRecDepth 100000 in
theorem kX1_tree (l : Launch) (hfl : l.stackTraces = false) (D : va_G) (cI cZ : ClassId) (d : Nat → Nat) (σ κ : St)  (r0 : Int) (p0 : Int) (w0 : Int) (hwf : xWF σ) (hl_r0 : -2147483648 ≤ r0) (hh_r0 : r0 ≤ 2147483647) (hl_p0 : -2147483648 ≤ p0) (hh_p0 : p0 ≤ 2147483647) (hl_w0 : -2147483648 ≤ w0) (hh_w0 : w0 ≤ 2147483647) : hMet l yX1_tree wsX1_tree ({ frames := 6, cells := 1, slots := 6, locals := 92 } : Room) D (tyXs cI cZ) (XW cI cZ d σ κ) [.ref (d 0), .int (iI r0), .int (iI p0), .int (iI w0)] (fun _ => some (.int (iI (xTree σ (r0 * 8 + p0) w0)))) (fun κ' => (tTree r0 p0 w0) = 0 ∧ (True)) (fun κ' => XW cI cZ d σ κ') (fun E => (E = eI ∧ (tTree r0 p0 w0) = 1)) := by
  refine h_start (cc := cX1_tree) (maxL := 5) (ret := (some .int)) (by decide) rfl (Nat.le_of_ble_eq_true rfl) ?_
  intro p e s m args below meth c A ls H locs S hr hlocks hT hP hK hD hA hS hTE hl
  have hE := hTE.1
  have S0 := S
  obtain ⟨hx, hb, hml, hown, hts⟩ := S0
  have hl : lv_has ls 5 [(0, .ref (d 0)), (1, .int (iI (r0))), (2, .int (iI (p0))), (3, .int (iI (w0)))] := hl
  have hinX0 : ∀ w ∈ wsX00, w ∈ wsX1_tree := by decide +kernel
  have hinX1 : ∀ w ∈ wsX10, w ∈ wsX1_tree := by decide +kernel
  have k7 := xWF_7 hwf (r0 * 8 + p0)
  refine lv_iload_n hx hb dX1_tree_0 rfl (lv_at hl 1 rfl) ?_
  refine lv_iload_n hx hb dX1_tree_1 rfl (lv_at hl 2 rfl) ?_
  have hPc : va_P D vwCl ([] ++ XW cI cZ d σ κ) H := hP
  have hDc : va_D A ([] ++ XW cI cZ d σ κ) := hD
  refine g_call (va_runS (As := [.int (iI (r0)), .int (iI (p0))]) (rest := []) S ((kX1_isPlace l D  r0 p0 (by first | assumption | omega) (by first | assumption | omega) (by first | assumption | omega) (by first | assumption | omega)) H.size) (va_cwS 2 hts gX1_tree_X1_isPlace rfl rfl rfl (by decide +kernel) ⟨Nat.le_of_ble_eq_true rfl, Nat.le_of_ble_eq_true rfl⟩) (g_preS gEx_t hK [] rfl hPc hDc (fun _ _ _ => trivial)) rfl rfl hl.1 rfl (lv_room (Nat.le_of_ble_eq_true rfl)) dX1_tree_2 ⟨Nat.le_of_ble_eq_true rfl, Nat.le_of_ble_eq_true rfl⟩) hPc hDc hS hA (fun κ9 H locs hk hP hD hS => ?_)
  have hP : va_P D vwCl (XW cI cZ d σ κ) H := hP
  have hD : va_D A (XW cI cZ d σ κ) := hD
  show W p l e ({ frames := 6, cells := 1, slots := 6, locals := 92 } : Room) s m args below meth c H locs 0 0 (vx_MQ below (gQ D (tyXs cI cZ) (fun κ' => XW cI cZ d σ κ') A (fun _ => some (.int (iI (xTree σ (r0 * 8 + p0) w0)))) (fun κ' => (tTree r0 p0 w0) = 0 ∧ (True))) (gX D (tyXs cI cZ) (XW cI cZ d σ κ) A (fun E => (E = eI ∧ (tTree r0 p0 w0) = 1))) args s 1 6 A) (F0 m 5 ls [.int (iI (bI ((0 ≤ r0 ∧ r0 ≤ 4) ∧ 0 ≤ p0 ∧ p0 ≤ 7)))])
  refine gb_if_eq (tgt := 17) hx hb dX1_tree_5 (by decide)  (fun c5 => ?_) (fun c5 => ?_)
  · skip
    exact h_throw (cls := eI) (ik := 65) (is := 119) (ic := 69) hx hb hfl hown hTE (List.mem_of_getElem? (i := 7) rfl) (by decide +kernel) (hts _ (List.mem_of_getElem? (i := 1) rfl)) (hts _ (List.mem_of_getElem? (i := 2) rfl)) (Or.inl rfl) h_nI (fun w h => hts w (List.mem_cons_of_mem _ (List.mem_append_right _ (h)))) h_gI hS (hl.1.trans hml.symm) hT hlocks hP hK hD (⟨rfl, by unfold tTree; rw [if_pos (by omega)]⟩) dX1_tree_17 dX1_tree_20 dX1_tree_21 dX1_tree_23 dX1_tree_26 (by decide) (Nat.le_of_ble_eq_true rfl) (by decide) (by decide) (by decide) (by decide)
  · skip
    refine lv_iload_n hx hb dX1_tree_8 rfl (lv_at hl 3 rfl) ?_
    refine lv_iconst (v := iI (0)) hx hb dX1_tree_9 rfl ?_
    refine lv_iconst (v := iI (5)) hx hb dX1_tree_10 rfl ?_
    have hPc : va_P D vwCl ([] ++ XW cI cZ d σ κ) H := hP
    have hDc : va_D A ([] ++ XW cI cZ d σ κ) := hD
    refine g_call (va_runS (As := [.int (iI (w0)), .int (iI (0)), .int (iI (5))]) (rest := []) S ((kX1_isWithin l D  w0 0 5 (by first | assumption | omega) (by first | assumption | omega) (by first | assumption | omega) (by first | assumption | omega) (by first | assumption | omega) (by first | assumption | omega)) H.size) (va_cwS 3 hts gX1_tree_X1_isWithin rfl rfl rfl (by decide +kernel) ⟨Nat.le_of_ble_eq_true rfl, Nat.le_of_ble_eq_true rfl⟩) (g_preS gEx_t hK [] rfl hPc hDc (fun _ _ _ => trivial)) rfl rfl hl.1 rfl (lv_room (Nat.le_of_ble_eq_true rfl)) dX1_tree_11 ⟨Nat.le_of_ble_eq_true rfl, Nat.le_of_ble_eq_true rfl⟩) hPc hDc hS hA (fun κ9 H locs hk hP hD hS => ?_)
    have hP : va_P D vwCl (XW cI cZ d σ κ) H := hP
    have hD : va_D A (XW cI cZ d σ κ) := hD
    show W p l e ({ frames := 6, cells := 1, slots := 6, locals := 92 } : Room) s m args below meth c H locs 0 0 (vx_MQ below (gQ D (tyXs cI cZ) (fun κ' => XW cI cZ d σ κ') A (fun _ => some (.int (iI (xTree σ (r0 * 8 + p0) w0)))) (fun κ' => (tTree r0 p0 w0) = 0 ∧ (True))) (gX D (tyXs cI cZ) (XW cI cZ d σ κ) A (fun E => (E = eI ∧ (tTree r0 p0 w0) = 1))) args s 1 6 A) (F0 m 14 ls [.int (iI (bI (0 ≤ w0 ∧ w0 ≤ 5)))])
    refine gb_if_ne (tgt := 27) hx hb dX1_tree_14 (by decide)  (fun c14 => ?_) (fun c14 => ?_)
    · skip
      refine lv_iload_n hx hb dX1_tree_27 rfl (lv_at hl 1 rfl) ?_
      refine lv_iload_n hx hb dX1_tree_28 rfl (lv_at hl 2 rfl) ?_
      have hPc : va_P D vwCl ([] ++ XW cI cZ d σ κ) H := hP
      have hDc : va_D A ([] ++ XW cI cZ d σ κ) := hD
      refine g_call (va_runS (As := [.int (iI (r0)), .int (iI (p0))]) (rest := []) S ((kX1_spotOf l D  r0 p0 ) H.size) (va_cwS 2 hts gX1_tree_X1_spotOf rfl rfl rfl (by decide +kernel) ⟨Nat.le_of_ble_eq_true rfl, Nat.le_of_ble_eq_true rfl⟩) (g_preS gEx_t hK [] rfl hPc hDc (fun _ _ _ => trivial)) rfl rfl hl.1 rfl (lv_room (Nat.le_of_ble_eq_true rfl)) dX1_tree_29 ⟨Nat.le_of_ble_eq_true rfl, Nat.le_of_ble_eq_true rfl⟩) hPc hDc hS hA (fun κ9 H locs hk hP hD hS => ?_)
      have hP : va_P D vwCl (XW cI cZ d σ κ) H := hP
      have hD : va_D A (XW cI cZ d σ κ) := hD
      show W p l e ({ frames := 6, cells := 1, slots := 6, locals := 92 } : Room) s m args below meth c H locs 0 0 (vx_MQ below (gQ D (tyXs cI cZ) (fun κ' => XW cI cZ d σ κ') A (fun _ => some (.int (iI (xTree σ (r0 * 8 + p0) w0)))) (fun κ' => (tTree r0 p0 w0) = 0 ∧ (True))) (gX D (tyXs cI cZ) (XW cI cZ d σ κ) A (fun E => (E = eI ∧ (tTree r0 p0 w0) = 1))) args s 1 6 A) (F0 m 32 ls [.int (iI (r0 * 8 + p0))])
      refine lv_istore (lv' := [(4, .int (iI (r0 * 8 + p0))), (0, .ref (d 0)), (1, .int (iI (r0))), (2, .int (iI (p0))), (3, .int (iI (w0)))]) hx hb dX1_tree_32 hl (by decide) rfl (fun ls hl => ?_)
      refine lv_iload_n hx hb dX1_tree_34 rfl (lv_at hl 4 rfl) ?_
      rcases Int.decEq w0 0 with c35_0 | c35_0
      rotate_left
      · skip
        refine gi_tableIn (tgt := 68) hx hb dX1_tree_35 ⟨by omega, by omega⟩ 0 c35_0 (by decide) (by decide) rfl (by decide) ?_
        refine lv_aload_n hx hb dX1_tree_68 rfl (lv_at hl 1 rfl) ?_
        refine lv_iload hx hb dX1_tree_69 (lv_at hl 0 rfl) ?_
        have hPc : va_P D vwCl (XW cI cZ d σ κ ++ []) H := by rw [List.append_nil]; exact hP
        have hDc : va_D A (XW cI cZ d σ κ ++ []) := by rw [List.append_nil]; exact hD
        refine g_call (va_runV (As := [.int (iI (r0 * 8 + p0))]) (rest := []) S ((kX1_hasTree l D cI cZ d σ κ (r0 * 8 + p0) (by first | assumption | omega) (by first | assumption | omega) (by first | assumption | omega)) H.size) (cwV 1 hts gX1_tree_X1_hasTree rfl rfl rfl (by decide +kernel) ⟨Nat.le_of_ble_eq_true rfl, Nat.le_of_ble_eq_true rfl⟩) (g_preV xEx_g hK [0, 1] rfl hPc hDc (fun U _ hW => xEx_w hW hE) (q0 := 0) (ci := 1) rfl rfl rfl) rfl rfl hl.1 rfl (lv_room (Nat.le_of_ble_eq_true rfl)) dX1_tree_71 ⟨Nat.le_of_ble_eq_true rfl, Nat.le_of_ble_eq_true rfl⟩) hPc hDc hS hA (fun κ9 H locs hk hP hD hS => ?_)
        have hk : κ = κ9 := hk.symm
        subst hk
        have hP : va_P D vwCl (XW cI cZ d σ κ) H := by have h9 : va_P D vwCl (XW cI cZ d σ κ ++ []) H := hP; rw [List.append_nil] at h9; exact h9
        have hD : va_D A (XW cI cZ d σ κ) := by have h9 : va_D A (XW cI cZ d σ κ ++ []) := hD; rw [List.append_nil] at h9; exact h9
        show W p l e ({ frames := 6, cells := 1, slots := 6, locals := 92 } : Room) s m args below meth c H locs 0 0 (vx_MQ below (gQ D (tyXs cI cZ) (fun κ' => XW cI cZ d σ κ') A (fun _ => some (.int (iI (xTree σ (r0 * 8 + p0) w0)))) (fun κ' => (tTree r0 p0 w0) = 0 ∧ (True))) (gX D (tyXs cI cZ) (XW cI cZ d σ κ) A (fun E => (E = eI ∧ (tTree r0 p0 w0) = 1))) args s 1 6 A) (F0 m 74 ls [.int (iI (bI (¬ σ 4 (r0 * 8 + p0) = -1)))])
        refine gb_if_eq (tgt := 81) hx hb dX1_tree_74 (by decide)  (fun c74 => ?_) (fun c74 => ?_)
        · skip
          refine lv_iconst (v := iI (0)) hx hb dX1_tree_81 rfl ?_
          have er : ((xTree σ (r0 * 8 + p0) w0 : Int)) = (0) := by unfold xTree; rw [if_pos (by omega)]; first | (rw [bI_t (by omega)]; done) | (rw [bI_f (by omega)]; done)
          refine vx_ret ?_; exact g_iret (wo := (fun κ' => XW cI cZ d σ κ')) (kr := (fun κ' => (tTree r0 p0 w0) = 0 ∧ (True))) (rv := (fun _ => some (.int (iI (xTree σ (r0 * 8 + p0) w0))))) hx hb hr hlocks κ rfl hP hK hD hS ⟨by unfold tTree; rw [if_neg (by omega)], trivial⟩ (by rw [er]) (Nat.le_of_ble_eq_true rfl) (Nat.le_of_ble_eq_true rfl) dX1_tree_82
        · skip
          refine lv_iconst (v := iI (1)) hx hb dX1_tree_77 rfl ?_
          refine lv_goto (tgt := 82) hx hb dX1_tree_78 (by decide) ?_
          have er : ((xTree σ (r0 * 8 + p0) w0 : Int)) = (1) := by unfold xTree; rw [if_pos (by omega)]; first | (rw [bI_t (by omega)]; done) | (rw [bI_f (by omega)]; done)
          refine vx_ret ?_; exact g_iret (wo := (fun κ' => XW cI cZ d σ κ')) (kr := (fun κ' => (tTree r0 p0 w0) = 0 ∧ (True))) (rv := (fun _ => some (.int (iI (xTree σ (r0 * 8 + p0) w0))))) hx hb hr hlocks κ rfl hP hK hD hS ⟨by unfold tTree; rw [if_neg (by omega)], trivial⟩ (by rw [er]) (Nat.le_of_ble_eq_true rfl) (Nat.le_of_ble_eq_true rfl) dX1_tree_82
      rcases Int.decEq w0 1 with c35_1 | c35_1
      rotate_left
      · skip
        refine gi_tableIn (tgt := 83) hx hb dX1_tree_35 ⟨by omega, by omega⟩ 1 c35_1 (by decide) (by decide) rfl (by decide) ?_
        refine lv_aload_n hx hb dX1_tree_83 rfl (lv_at hl 1 rfl) ?_
        refine va_get (D := D) (ci := 1) (v := .ref (d 6)) (C := RX1) (T := TX1) (N := 13) hx hb hts hinX1 hown hK hP 0 rfl rfl 5 (by decide) (hts (.fieldLink RX1 25 "TwinOrchard" "branches" "[I") (List.mem_of_getElem? (i := 3) rfl)) (fun _ h9 => h9) rfl dX1_tree_84 ?_
        refine lv_iload hx hb dX1_tree_87 (lv_at hl 0 rfl) ?_
        refine gi_iald (a := d 6) (n := 40) (f := σ 5) hx hb hK hP 6 0 rfl rfl (by omega) (by omega) (by decide) dX1_tree_89 ?_
        have er : ((xTree σ (r0 * 8 + p0) w0 : Int)) = (σ 5 (r0 * 8 + p0)) := by unfold xTree; rw [if_neg (by omega), if_pos (by omega)]; try rfl
        refine vx_ret ?_; exact g_iret (wo := (fun κ' => XW cI cZ d σ κ')) (kr := (fun κ' => (tTree r0 p0 w0) = 0 ∧ (True))) (rv := (fun _ => some (.int (iI (xTree σ (r0 * 8 + p0) w0))))) hx hb hr hlocks κ rfl hP hK hD hS ⟨by unfold tTree; rw [if_neg (by omega)], trivial⟩ (by rw [er]) (Nat.le_of_ble_eq_true rfl) (Nat.le_of_ble_eq_true rfl) dX1_tree_90
      rcases Int.decEq w0 2 with c35_2 | c35_2
      rotate_left
      · skip
        refine gi_tableIn (tgt := 91) hx hb dX1_tree_35 ⟨by omega, by omega⟩ 2 c35_2 (by decide) (by decide) rfl (by decide) ?_
        refine lv_aload_n hx hb dX1_tree_91 rfl (lv_at hl 1 rfl) ?_
        refine va_get (D := D) (ci := 1) (v := .ref (d 7)) (C := RX1) (T := TX1) (N := 13) hx hb hts hinX1 hown hK hP 0 rfl rfl 6 (by decide) (hts (.fieldLink RX1 28 "TwinOrchard" "vigours" "[I") (List.mem_of_getElem? (i := 4) rfl)) (fun _ h9 => h9) rfl dX1_tree_92 ?_
        refine lv_iload hx hb dX1_tree_95 (lv_at hl 0 rfl) ?_
        refine gi_iald (a := d 7) (n := 40) (f := σ 6) hx hb hK hP 7 0 rfl rfl (by omega) (by omega) (by decide) dX1_tree_97 ?_
        have er : ((xTree σ (r0 * 8 + p0) w0 : Int)) = (σ 6 (r0 * 8 + p0)) := by unfold xTree; rw [if_neg (by omega), if_neg (by omega), if_pos (by omega)]; try rfl
        refine vx_ret ?_; exact g_iret (wo := (fun κ' => XW cI cZ d σ κ')) (kr := (fun κ' => (tTree r0 p0 w0) = 0 ∧ (True))) (rv := (fun _ => some (.int (iI (xTree σ (r0 * 8 + p0) w0))))) hx hb hr hlocks κ rfl hP hK hD hS ⟨by unfold tTree; rw [if_neg (by omega)], trivial⟩ (by rw [er]) (Nat.le_of_ble_eq_true rfl) (Nat.le_of_ble_eq_true rfl) dX1_tree_98
      rcases Int.decEq w0 3 with c35_3 | c35_3
      rotate_left
      · skip
        refine gi_tableIn (tgt := 99) hx hb dX1_tree_35 ⟨by omega, by omega⟩ 3 c35_3 (by decide) (by decide) rfl (by decide) ?_
        refine lv_aload_n hx hb dX1_tree_99 rfl (lv_at hl 1 rfl) ?_
        refine va_get (D := D) (ci := 1) (v := .ref (d 5)) (C := RX1) (T := TX1) (N := 13) hx hb hts hinX1 hown hK hP 0 rfl rfl 4 (by decide) (hts (.fieldLink RX1 22 "TwinOrchard" "kinds" "[I") (List.mem_of_getElem? (i := 5) rfl)) (fun _ h9 => h9) rfl dX1_tree_100 ?_
        refine lv_iload hx hb dX1_tree_103 (lv_at hl 0 rfl) ?_
        refine gi_iald (a := d 5) (n := 40) (f := σ 4) hx hb hK hP 5 0 rfl rfl (by omega) (by omega) (by decide) dX1_tree_105 ?_
        have er : ((xTree σ (r0 * 8 + p0) w0 : Int)) = (σ 4 (r0 * 8 + p0)) := by unfold xTree; rw [if_neg (by omega), if_neg (by omega), if_neg (by omega), if_pos (by omega)]; try rfl
        refine vx_ret ?_; exact g_iret (wo := (fun κ' => XW cI cZ d σ κ')) (kr := (fun κ' => (tTree r0 p0 w0) = 0 ∧ (True))) (rv := (fun _ => some (.int (iI (xTree σ (r0 * 8 + p0) w0))))) hx hb hr hlocks κ rfl hP hK hD hS ⟨by unfold tTree; rw [if_neg (by omega)], trivial⟩ (by rw [er]) (Nat.le_of_ble_eq_true rfl) (Nat.le_of_ble_eq_true rfl) dX1_tree_106
      rcases Int.decEq w0 4 with c35_4 | c35_4
      rotate_left
      · skip
        refine gi_tableIn (tgt := 107) hx hb dX1_tree_35 ⟨by omega, by omega⟩ 4 c35_4 (by decide) (by decide) rfl (by decide) ?_
        refine lv_aload_n hx hb dX1_tree_107 rfl (lv_at hl 1 rfl) ?_
        refine va_get (D := D) (ci := 1) (v := .ref (d 8)) (C := RX1) (T := TX1) (N := 13) hx hb hts hinX1 hown hK hP 0 rfl rfl 7 (by decide) (hts (.fieldLink RX1 31 "TwinOrchard" "tired" "[Z") (List.mem_of_getElem? (i := 6) rfl)) (fun _ h9 => h9) rfl dX1_tree_108 ?_
        refine lv_iload hx hb dX1_tree_111 (lv_at hl 0 rfl) ?_
        refine gi_zald (a := d 8) (n := 40) (f := σ 7) hx hb hK hP 8 1 rfl rfl (by omega) (by omega) (by decide) dX1_tree_113 ?_
        refine gi_if_eq (tgt := 121) hx hb dX1_tree_114 (by decide) ⟨by omega, by omega⟩ (fun c114 => ?_) (fun c114 => ?_)
        · skip
          refine lv_iconst (v := iI (0)) hx hb dX1_tree_121 rfl ?_
          have er : ((xTree σ (r0 * 8 + p0) w0 : Int)) = (0) := by unfold xTree; rw [if_neg (by omega), if_neg (by omega), if_neg (by omega), if_neg (by omega), if_pos (by omega)]; first | (rw [bI_t (by omega)]; done) | (rw [bI_f (by omega)]; done)
          refine vx_ret ?_; exact g_iret (wo := (fun κ' => XW cI cZ d σ κ')) (kr := (fun κ' => (tTree r0 p0 w0) = 0 ∧ (True))) (rv := (fun _ => some (.int (iI (xTree σ (r0 * 8 + p0) w0))))) hx hb hr hlocks κ rfl hP hK hD hS ⟨by unfold tTree; rw [if_neg (by omega)], trivial⟩ (by rw [er]) (Nat.le_of_ble_eq_true rfl) (Nat.le_of_ble_eq_true rfl) dX1_tree_122
        · skip
          refine lv_iconst (v := iI (1)) hx hb dX1_tree_117 rfl ?_
          refine lv_goto (tgt := 122) hx hb dX1_tree_118 (by decide) ?_
          have er : ((xTree σ (r0 * 8 + p0) w0 : Int)) = (1) := by unfold xTree; rw [if_neg (by omega), if_neg (by omega), if_neg (by omega), if_neg (by omega), if_pos (by omega)]; first | (rw [bI_t (by omega)]; done) | (rw [bI_f (by omega)]; done)
          refine vx_ret ?_; exact g_iret (wo := (fun κ' => XW cI cZ d σ κ')) (kr := (fun κ' => (tTree r0 p0 w0) = 0 ∧ (True))) (rv := (fun _ => some (.int (iI (xTree σ (r0 * 8 + p0) w0))))) hx hb hr hlocks κ rfl hP hK hD hS ⟨by unfold tTree; rw [if_neg (by omega)], trivial⟩ (by rw [er]) (Nat.le_of_ble_eq_true rfl) (Nat.le_of_ble_eq_true rfl) dX1_tree_122
      refine gi_tableOut (tgt := 123) hx hb dX1_tree_35 ⟨by omega, by omega⟩ (by omega) (by decide) ?_
      refine lv_aload_n hx hb dX1_tree_123 rfl (lv_at hl 1 rfl) ?_
      refine lv_iload hx hb dX1_tree_124 (lv_at hl 0 rfl) ?_
      have hPc : va_P D vwCl (XW cI cZ d σ κ ++ []) H := by rw [List.append_nil]; exact hP
      have hDc : va_D A (XW cI cZ d σ κ ++ []) := by rw [List.append_nil]; exact hD
      refine g_call (va_runV (As := [.int (iI (r0 * 8 + p0))]) (rest := []) S ((kX1_applesNow l D cI cZ d σ κ (r0 * 8 + p0) (by first | assumption | omega) (by first | assumption | omega) (by first | assumption | omega)) H.size) (cwV 1 hts gX1_tree_X1_applesNow rfl rfl rfl (by decide +kernel) ⟨Nat.le_of_ble_eq_true rfl, Nat.le_of_ble_eq_true rfl⟩) (g_preV xEx_g hK [0, 1] rfl hPc hDc (fun U _ hW => xEx_w hW hE) (q0 := 0) (ci := 1) rfl rfl rfl) rfl rfl hl.1 rfl (lv_room (Nat.le_of_ble_eq_true rfl)) dX1_tree_126 ⟨Nat.le_of_ble_eq_true rfl, Nat.le_of_ble_eq_true rfl⟩) hPc hDc hS hA (fun κ9 H locs hk hP hD hS => ?_)
      obtain ⟨κ_1, rfl⟩ : ∃ z, z = κ9 := ⟨_, rfl⟩
      have hP : va_P D vwCl (XW cI cZ d σ κ_1) H := by have h9 : va_P D vwCl (XW cI cZ d σ κ_1 ++ []) H := hP; rw [List.append_nil] at h9; exact h9
      have hD : va_D A (XW cI cZ d σ κ_1) := by have h9 : va_D A (XW cI cZ d σ κ_1 ++ []) := hD; rw [List.append_nil] at h9; exact h9
      show W p l e ({ frames := 6, cells := 1, slots := 6, locals := 92 } : Room) s m args below meth c H locs 0 0 (vx_MQ below (gQ D (tyXs cI cZ) (fun κ' => XW cI cZ d σ κ') A (fun _ => some (.int (iI (xTree σ (r0 * 8 + p0) w0)))) (fun κ' => (tTree r0 p0 w0) = 0 ∧ (True))) (gX D (tyXs cI cZ) (XW cI cZ d σ κ) A (fun E => (E = eI ∧ (tTree r0 p0 w0) = 1))) args s 1 6 A) (F0 m 129 ls [.int (iI (apx σ (r0 * 8 + p0)))])
      have er : ((xTree σ (r0 * 8 + p0) w0 : Int)) = (apx σ (r0 * 8 + p0)) := by unfold xTree; rw [if_neg (by omega), if_neg (by omega), if_neg (by omega), if_neg (by omega), if_neg (by omega)]; try rfl
      refine vx_ret ?_; exact g_iret (wo := (fun κ' => XW cI cZ d σ κ')) (kr := (fun κ' => (tTree r0 p0 w0) = 0 ∧ (True))) (rv := (fun _ => some (.int (iI (xTree σ (r0 * 8 + p0) w0))))) hx hb hr hlocks κ_1 rfl hP hK hD hS ⟨by unfold tTree; rw [if_neg (by omega)], trivial⟩ (by rw [er]) (Nat.le_of_ble_eq_true rfl) (Nat.le_of_ble_eq_true rfl) dX1_tree_129
    · skip
      exact h_throw (cls := eI) (ik := 65) (is := 119) (ic := 69) hx hb hfl hown hTE (List.mem_of_getElem? (i := 7) rfl) (by decide +kernel) (hts _ (List.mem_of_getElem? (i := 1) rfl)) (hts _ (List.mem_of_getElem? (i := 2) rfl)) (Or.inl rfl) h_nI (fun w h => hts w (List.mem_cons_of_mem _ (List.mem_append_right _ (h)))) h_gI hS (hl.1.trans hml.symm) hT hlocks hP hK hD (⟨rfl, by unfold tTree; rw [if_pos (by omega)]⟩) dX1_tree_17 dX1_tree_20 dX1_tree_21 dX1_tree_23 dX1_tree_26 (by decide) (Nat.le_of_ble_eq_true rfl) (by decide) (by decide) (by decide) (by decide)
set_option maxHeartbeats 4000000 in
set_option maxRecDepth 100000 in
theorem kX1_sort (l : Launch) (hfl : l.stackTraces = false) (D : va_G) (cI cZ : ClassId) (d : Nat → Nat) (σ κ : St)  (a0 : Int) (w0 : Int) (hwf : xWF σ) (hl_a0 : -2147483648 ≤ a0) (hh_a0 : a0 ≤ 2147483647) (hl_w0 : -2147483648 ≤ w0) (hh_w0 : w0 ≤ 2147483647) : hMet l yX1_sort wsX1_sort ({ frames := 6, cells := 1, slots := 6, locals := 92 } : Room) D (tyXs cI cZ) (XW cI cZ d σ κ) [.ref (d 0), .int (iI a0), .int (iI w0)] (fun _ => some (.int (iI (xSort σ a0 w0)))) (fun κ' => (tSort a0 w0) = 0 ∧ (κ' = κ)) (fun κ' => XW cI cZ d σ κ') (fun E => (E = eI ∧ (tSort a0 w0) = 1)) := by
  refine h_start (cc := cX1_sort) (maxL := 3) (ret := (some .int)) (by decide) rfl (Nat.le_of_ble_eq_true rfl) ?_
  intro p e s m args below meth c A ls H locs S hr hlocks hT hP hK hD hA hS hTE hl
  have hE := hTE.1
  have S0 := S
  obtain ⟨hx, hb, hml, hown, hts⟩ := S0
  have hl : lv_has ls 3 [(0, .ref (d 0)), (1, .int (iI (a0))), (2, .int (iI (w0)))] := hl
  have hinX1 : ∀ w ∈ wsX10, w ∈ wsX1_sort := by decide +kernel
  refine lv_iload_n hx hb dX1_sort_0 rfl (lv_at hl 1 rfl) ?_
  have hPc : va_P D vwCl ([] ++ XW cI cZ d σ κ) H := hP
  have hDc : va_D A ([] ++ XW cI cZ d σ κ) := hD
  refine g_call (va_runS (As := [.int (iI (a0))]) (rest := []) S ((kX1_isSort l D  a0 (by first | assumption | omega) (by first | assumption | omega)) H.size) (va_cwS 1 hts gX1_sort_X1_isSort rfl rfl rfl (by decide +kernel) ⟨Nat.le_of_ble_eq_true rfl, Nat.le_of_ble_eq_true rfl⟩) (g_preS gEx_t hK [] rfl hPc hDc (fun _ _ _ => trivial)) rfl rfl hl.1 rfl (lv_room (Nat.le_of_ble_eq_true rfl)) dX1_sort_1 ⟨Nat.le_of_ble_eq_true rfl, Nat.le_of_ble_eq_true rfl⟩) hPc hDc hS hA (fun κ9 H locs hk hP hD hS => ?_)
  have hP : va_P D vwCl (XW cI cZ d σ κ) H := hP
  have hD : va_D A (XW cI cZ d σ κ) := hD
  show W p l e ({ frames := 6, cells := 1, slots := 6, locals := 92 } : Room) s m args below meth c H locs 0 0 (vx_MQ below (gQ D (tyXs cI cZ) (fun κ' => XW cI cZ d σ κ') A (fun _ => some (.int (iI (xSort σ a0 w0)))) (fun κ' => (tSort a0 w0) = 0 ∧ (κ' = κ))) (gX D (tyXs cI cZ) (XW cI cZ d σ κ) A (fun E => (E = eI ∧ (tSort a0 w0) = 1))) args s 1 6 A) (F0 m 4 ls [.int (iI (bI (0 ≤ a0 ∧ a0 ≤ 5)))])
  refine gb_if_eq (tgt := 16) hx hb dX1_sort_4 (by decide)  (fun c4 => ?_) (fun c4 => ?_)
  · skip
    exact h_throw (cls := eI) (ik := 65) (is := 127) (ic := 69) hx hb hfl hown hTE (List.mem_of_getElem? (i := 8) rfl) (by decide +kernel) (hts _ (List.mem_of_getElem? (i := 1) rfl)) (hts _ (List.mem_of_getElem? (i := 2) rfl)) (Or.inl rfl) h_nI (fun w h => hts w (List.mem_cons_of_mem _ (List.mem_append_right _ (h)))) h_gI hS (hl.1.trans hml.symm) hT hlocks hP hK hD (⟨rfl, by unfold tSort; rw [if_pos (by omega)]⟩) dX1_sort_16 dX1_sort_19 dX1_sort_20 dX1_sort_22 dX1_sort_25 (by decide) (Nat.le_of_ble_eq_true rfl) (by decide) (by decide) (by decide) (by decide)
  · skip
    refine lv_iload_n hx hb dX1_sort_7 rfl (lv_at hl 2 rfl) ?_
    refine lv_iconst (v := iI (0)) hx hb dX1_sort_8 rfl ?_
    refine lv_iconst (v := iI (3)) hx hb dX1_sort_9 rfl ?_
    have hPc : va_P D vwCl ([] ++ XW cI cZ d σ κ) H := hP
    have hDc : va_D A ([] ++ XW cI cZ d σ κ) := hD
    refine g_call (va_runS (As := [.int (iI (w0)), .int (iI (0)), .int (iI (3))]) (rest := []) S ((kX1_isWithin l D  w0 0 3 (by first | assumption | omega) (by first | assumption | omega) (by first | assumption | omega) (by first | assumption | omega) (by first | assumption | omega) (by first | assumption | omega)) H.size) (va_cwS 3 hts gX1_sort_X1_isWithin rfl rfl rfl (by decide +kernel) ⟨Nat.le_of_ble_eq_true rfl, Nat.le_of_ble_eq_true rfl⟩) (g_preS gEx_t hK [] rfl hPc hDc (fun _ _ _ => trivial)) rfl rfl hl.1 rfl (lv_room (Nat.le_of_ble_eq_true rfl)) dX1_sort_10 ⟨Nat.le_of_ble_eq_true rfl, Nat.le_of_ble_eq_true rfl⟩) hPc hDc hS hA (fun κ9 H locs hk hP hD hS => ?_)
    have hP : va_P D vwCl (XW cI cZ d σ κ) H := hP
    have hD : va_D A (XW cI cZ d σ κ) := hD
    show W p l e ({ frames := 6, cells := 1, slots := 6, locals := 92 } : Room) s m args below meth c H locs 0 0 (vx_MQ below (gQ D (tyXs cI cZ) (fun κ' => XW cI cZ d σ κ') A (fun _ => some (.int (iI (xSort σ a0 w0)))) (fun κ' => (tSort a0 w0) = 0 ∧ (κ' = κ))) (gX D (tyXs cI cZ) (XW cI cZ d σ κ) A (fun E => (E = eI ∧ (tSort a0 w0) = 1))) args s 1 6 A) (F0 m 13 ls [.int (iI (bI (0 ≤ w0 ∧ w0 ≤ 3)))])
    refine gb_if_ne (tgt := 26) hx hb dX1_sort_13 (by decide)  (fun c13 => ?_) (fun c13 => ?_)
    · skip
      refine lv_iload_n hx hb dX1_sort_26 rfl (lv_at hl 2 rfl) ?_
      rcases Int.decEq w0 0 with c27_0 | c27_0
      rotate_left
      · skip
        refine gi_tableIn (tgt := 52) hx hb dX1_sort_27 ⟨by omega, by omega⟩ 0 c27_0 (by decide) (by decide) rfl (by decide) ?_
        refine lv_aload_n hx hb dX1_sort_52 rfl (lv_at hl 0 rfl) ?_
        refine va_get (D := D) (ci := 1) (v := .ref (d 1)) (C := RX1) (T := TX1) (N := 13) hx hb hts hinX1 hown hK hP 0 rfl rfl 0 (by decide) (hts (.fieldLink RX1 9 "TwinOrchard" "weights" "[I") (List.mem_of_getElem? (i := 3) rfl)) (fun _ h9 => h9) rfl dX1_sort_53 ?_
        refine lv_iload_n hx hb dX1_sort_56 rfl (lv_at hl 1 rfl) ?_
        refine gi_iald (a := d 1) (n := 6) (f := σ 0) hx hb hK hP 1 0 rfl rfl (by omega) (by omega) (by decide) dX1_sort_57 ?_
        have er : ((xSort σ a0 w0 : Int)) = (σ 0 a0) := by unfold xSort; rw [if_pos (by omega)]; try rfl
        refine vx_ret ?_; exact g_iret (wo := (fun κ' => XW cI cZ d σ κ')) (kr := (fun κ' => (tSort a0 w0) = 0 ∧ (κ' = κ))) (rv := (fun _ => some (.int (iI (xSort σ a0 w0))))) hx hb hr hlocks κ rfl hP hK hD hS ⟨by unfold tSort; rw [if_neg (by omega)], rfl⟩ (by rw [er]) (Nat.le_of_ble_eq_true rfl) (Nat.le_of_ble_eq_true rfl) dX1_sort_58
      rcases Int.decEq w0 1 with c27_1 | c27_1
      rotate_left
      · skip
        refine gi_tableIn (tgt := 59) hx hb dX1_sort_27 ⟨by omega, by omega⟩ 1 c27_1 (by decide) (by decide) rfl (by decide) ?_
        refine lv_aload_n hx hb dX1_sort_59 rfl (lv_at hl 0 rfl) ?_
        refine va_get (D := D) (ci := 1) (v := .ref (d 2)) (C := RX1) (T := TX1) (N := 13) hx hb hts hinX1 hown hK hP 0 rfl rfl 1 (by decide) (hts (.fieldLink RX1 13 "TwinOrchard" "hardiness" "[I") (List.mem_of_getElem? (i := 4) rfl)) (fun _ h9 => h9) rfl dX1_sort_60 ?_
        refine lv_iload_n hx hb dX1_sort_63 rfl (lv_at hl 1 rfl) ?_
        refine gi_iald (a := d 2) (n := 6) (f := σ 1) hx hb hK hP 2 0 rfl rfl (by omega) (by omega) (by decide) dX1_sort_64 ?_
        have er : ((xSort σ a0 w0 : Int)) = (σ 1 a0) := by unfold xSort; rw [if_neg (by omega), if_pos (by omega)]; try rfl
        refine vx_ret ?_; exact g_iret (wo := (fun κ' => XW cI cZ d σ κ')) (kr := (fun κ' => (tSort a0 w0) = 0 ∧ (κ' = κ))) (rv := (fun _ => some (.int (iI (xSort σ a0 w0))))) hx hb hr hlocks κ rfl hP hK hD hS ⟨by unfold tSort; rw [if_neg (by omega)], rfl⟩ (by rw [er]) (Nat.le_of_ble_eq_true rfl) (Nat.le_of_ble_eq_true rfl) dX1_sort_65
      rcases Int.decEq w0 2 with c27_2 | c27_2
      rotate_left
      · skip
        refine gi_tableIn (tgt := 66) hx hb dX1_sort_27 ⟨by omega, by omega⟩ 2 c27_2 (by decide) (by decide) rfl (by decide) ?_
        refine lv_aload_n hx hb dX1_sort_66 rfl (lv_at hl 0 rfl) ?_
        refine va_get (D := D) (ci := 1) (v := .ref (d 3)) (C := RX1) (T := TX1) (N := 13) hx hb hts hinX1 hown hK hP 0 rfl rfl 2 (by decide) (hts (.fieldLink RX1 16 "TwinOrchard" "barn" "[I") (List.mem_of_getElem? (i := 5) rfl)) (fun _ h9 => h9) rfl dX1_sort_67 ?_
        refine lv_iload_n hx hb dX1_sort_70 rfl (lv_at hl 1 rfl) ?_
        refine gi_iald (a := d 3) (n := 6) (f := σ 2) hx hb hK hP 3 0 rfl rfl (by omega) (by omega) (by decide) dX1_sort_71 ?_
        have er : ((xSort σ a0 w0 : Int)) = (σ 2 a0) := by unfold xSort; rw [if_neg (by omega), if_neg (by omega), if_pos (by omega)]; try rfl
        refine vx_ret ?_; exact g_iret (wo := (fun κ' => XW cI cZ d σ κ')) (kr := (fun κ' => (tSort a0 w0) = 0 ∧ (κ' = κ))) (rv := (fun _ => some (.int (iI (xSort σ a0 w0))))) hx hb hr hlocks κ rfl hP hK hD hS ⟨by unfold tSort; rw [if_neg (by omega)], rfl⟩ (by rw [er]) (Nat.le_of_ble_eq_true rfl) (Nat.le_of_ble_eq_true rfl) dX1_sort_72
      refine gi_tableOut (tgt := 73) hx hb dX1_sort_27 ⟨by omega, by omega⟩ (by omega) (by decide) ?_
      refine lv_aload_n hx hb dX1_sort_73 rfl (lv_at hl 0 rfl) ?_
      refine lv_iload_n hx hb dX1_sort_74 rfl (lv_at hl 1 rfl) ?_
      have hPc : va_P D vwCl (XW cI cZ d σ κ ++ []) H := by rw [List.append_nil]; exact hP
      have hDc : va_D A (XW cI cZ d σ κ ++ []) := by rw [List.append_nil]; exact hD
      refine g_call (va_runV (As := [.int (iI (a0))]) (rest := []) S ((kX1_treesOfSort l D cI cZ d σ κ a0 (by first | assumption | omega) (by first | assumption | omega) (by first | assumption | omega)) H.size) (cwV 1 hts gX1_sort_X1_treesOfSort rfl rfl rfl (by decide +kernel) ⟨Nat.le_of_ble_eq_true rfl, Nat.le_of_ble_eq_true rfl⟩) (g_preV xEx_g hK [0, 1] rfl hPc hDc (fun U _ hW => xEx_w hW hE) (q0 := 0) (ci := 1) rfl rfl rfl) rfl rfl hl.1 rfl (lv_room (Nat.le_of_ble_eq_true rfl)) dX1_sort_75 ⟨Nat.le_of_ble_eq_true rfl, Nat.le_of_ble_eq_true rfl⟩) hPc hDc hS hA (fun κ9 H locs hk hP hD hS => ?_)
      have hk : κ = κ9 := hk.symm
      subst hk
      have hP : va_P D vwCl (XW cI cZ d σ κ) H := by have h9 : va_P D vwCl (XW cI cZ d σ κ ++ []) H := hP; rw [List.append_nil] at h9; exact h9
      have hD : va_D A (XW cI cZ d σ κ) := by have h9 : va_D A (XW cI cZ d σ κ ++ []) := hD; rw [List.append_nil] at h9; exact h9
      show W p l e ({ frames := 6, cells := 1, slots := 6, locals := 92 } : Room) s m args below meth c H locs 0 0 (vx_MQ below (gQ D (tyXs cI cZ) (fun κ' => XW cI cZ d σ κ') A (fun _ => some (.int (iI (xSort σ a0 w0)))) (fun κ' => (tSort a0 w0) = 0 ∧ (κ' = κ))) (gX D (tyXs cI cZ) (XW cI cZ d σ κ) A (fun E => (E = eI ∧ (tSort a0 w0) = 1))) args s 1 6 A) (F0 m 78 ls [.int (iI (isumI (fun j => bI (σ 4 j = a0)) 40))])
      have er : ((xSort σ a0 w0 : Int)) = (isumI (fun j => bI (σ 4 j = a0)) 40) := by unfold xSort; rw [if_neg (by omega), if_neg (by omega), if_neg (by omega)]; try rfl
      refine vx_ret ?_; exact g_iret (wo := (fun κ' => XW cI cZ d σ κ')) (kr := (fun κ' => (tSort a0 w0) = 0 ∧ (κ' = κ))) (rv := (fun _ => some (.int (iI (xSort σ a0 w0))))) hx hb hr hlocks κ rfl hP hK hD hS ⟨by unfold tSort; rw [if_neg (by omega)], rfl⟩ (by rw [er]) (Nat.le_of_ble_eq_true rfl) (Nat.le_of_ble_eq_true rfl) dX1_sort_78
    · skip
      exact h_throw (cls := eI) (ik := 65) (is := 127) (ic := 69) hx hb hfl hown hTE (List.mem_of_getElem? (i := 8) rfl) (by decide +kernel) (hts _ (List.mem_of_getElem? (i := 1) rfl)) (hts _ (List.mem_of_getElem? (i := 2) rfl)) (Or.inl rfl) h_nI (fun w h => hts w (List.mem_cons_of_mem _ (List.mem_append_right _ (h)))) h_gI hS (hl.1.trans hml.symm) hT hlocks hP hK hD (⟨rfl, by unfold tSort; rw [if_pos (by omega)]⟩) dX1_sort_16 dX1_sort_19 dX1_sort_20 dX1_sort_22 dX1_sort_25 (by decide) (Nat.le_of_ble_eq_true rfl) (by decide) (by decide) (by decide) (by decide)
set_option maxHeartbeats 4000000 in
set_option maxRecDepth 100000 in
theorem kX1_count (l : Launch) (hfl : l.stackTraces = false) (D : va_G) (cI cZ : ClassId) (d : Nat → Nat) (σ κ : St)  (w0 : Int) (hwf : xWF σ) (hl_w0 : -2147483648 ≤ w0) (hh_w0 : w0 ≤ 2147483647) : hMet l yX1_count wsX1_count ({ frames := 6, cells := 1, slots := 6, locals := 92 } : Room) D (tyXs cI cZ) (XW cI cZ d σ κ) [.ref (d 0), .int (iI w0)] (fun _ => some (.int (iI (xCount σ w0)))) (fun κ' => (tCount w0) = 0 ∧ (κ' = κ)) (fun κ' => XW cI cZ d σ κ') (fun E => (E = eI ∧ (tCount w0) = 1)) := by
  refine h_start (cc := cX1_count) (maxL := 2) (ret := (some .int)) (by decide) rfl (Nat.le_of_ble_eq_true rfl) ?_
  intro p e s m args below meth c A ls H locs S hr hlocks hT hP hK hD hA hS hTE hl
  have hE := hTE.1
  have S0 := S
  obtain ⟨hx, hb, hml, hown, hts⟩ := S0
  have hl : lv_has ls 2 [(0, .ref (d 0)), (1, .int (iI (w0)))] := hl
  have hinX1 : ∀ w ∈ wsX10, w ∈ wsX1_count := by decide +kernel
  refine lv_iload_n hx hb dX1_count_0 rfl (lv_at hl 1 rfl) ?_
  refine lv_iconst (v := iI (0)) hx hb dX1_count_1 rfl ?_
  refine lv_bipush (v := iI (7)) hx hb dX1_count_2 rfl ?_
  have hPc : va_P D vwCl ([] ++ XW cI cZ d σ κ) H := hP
  have hDc : va_D A ([] ++ XW cI cZ d σ κ) := hD
  refine g_call (va_runS (As := [.int (iI (w0)), .int (iI (0)), .int (iI (7))]) (rest := []) S ((kX1_isWithin l D  w0 0 7 (by first | assumption | omega) (by first | assumption | omega) (by first | assumption | omega) (by first | assumption | omega) (by first | assumption | omega) (by first | assumption | omega)) H.size) (va_cwS 3 hts gX1_count_X1_isWithin rfl rfl rfl (by decide +kernel) ⟨Nat.le_of_ble_eq_true rfl, Nat.le_of_ble_eq_true rfl⟩) (g_preS gEx_t hK [] rfl hPc hDc (fun _ _ _ => trivial)) rfl rfl hl.1 rfl (lv_room (Nat.le_of_ble_eq_true rfl)) dX1_count_4 ⟨Nat.le_of_ble_eq_true rfl, Nat.le_of_ble_eq_true rfl⟩) hPc hDc hS hA (fun κ9 H locs hk hP hD hS => ?_)
  have hP : va_P D vwCl (XW cI cZ d σ κ) H := hP
  have hD : va_D A (XW cI cZ d σ κ) := hD
  show W p l e ({ frames := 6, cells := 1, slots := 6, locals := 92 } : Room) s m args below meth c H locs 0 0 (vx_MQ below (gQ D (tyXs cI cZ) (fun κ' => XW cI cZ d σ κ') A (fun _ => some (.int (iI (xCount σ w0)))) (fun κ' => (tCount w0) = 0 ∧ (κ' = κ))) (gX D (tyXs cI cZ) (XW cI cZ d σ κ) A (fun E => (E = eI ∧ (tCount w0) = 1))) args s 1 6 A) (F0 m 7 ls [.int (iI (bI (0 ≤ w0 ∧ w0 ≤ 7)))])
  refine gb_if_ne (tgt := 20) hx hb dX1_count_7 (by decide)  (fun c7 => ?_) (fun c7 => ?_)
  · skip
    refine lv_iload_n hx hb dX1_count_20 rfl (lv_at hl 1 rfl) ?_
    rcases Int.decEq w0 0 with c21_0 | c21_0
    rotate_left
    · skip
      refine gi_tableIn (tgt := 64) hx hb dX1_count_21 ⟨by omega, by omega⟩ 0 c21_0 (by decide) (by decide) rfl (by decide) ?_
      refine lv_aload_n hx hb dX1_count_64 rfl (lv_at hl 0 rfl) ?_
      refine va_get (D := D) (ci := 1) (v := .int (iI (σ 9 0))) (C := RX1) (T := TX1) (N := 13) hx hb hts hinX1 hown hK hP 0 rfl rfl 9 (by decide) (hts (.fieldLink RX1 38 "TwinOrchard" "year" "I") (List.mem_of_getElem? (i := 3) rfl)) (fun _ h9 => h9) rfl dX1_count_65 ?_
      have er : ((xCount σ w0 : Int)) = (σ 9 0) := by unfold xCount; rw [if_pos (by omega)]; try rfl
      refine vx_ret ?_; exact g_iret (wo := (fun κ' => XW cI cZ d σ κ')) (kr := (fun κ' => (tCount w0) = 0 ∧ (κ' = κ))) (rv := (fun _ => some (.int (iI (xCount σ w0))))) hx hb hr hlocks κ rfl hP hK hD hS ⟨by unfold tCount; rw [if_neg (by omega)], rfl⟩ (by rw [er]) (Nat.le_of_ble_eq_true rfl) (Nat.le_of_ble_eq_true rfl) dX1_count_68
    rcases Int.decEq w0 1 with c21_1 | c21_1
    rotate_left
    · skip
      refine gi_tableIn (tgt := 69) hx hb dX1_count_21 ⟨by omega, by omega⟩ 1 c21_1 (by decide) (by decide) rfl (by decide) ?_
      refine lv_aload_n hx hb dX1_count_69 rfl (lv_at hl 0 rfl) ?_
      refine va_get (D := D) (ci := 1) (v := .ref (d 9)) (C := RX1) (T := TX1) (N := 13) hx hb hts hinX1 hown hK hP 0 rfl rfl 8 (by decide) (hts (.fieldLink RX1 35 "TwinOrchard" "strength" "[I") (List.mem_of_getElem? (i := 4) rfl)) (fun _ h9 => h9) rfl dX1_count_70 ?_
      refine lv_iconst (v := iI (0)) hx hb dX1_count_73 rfl ?_
      refine gi_iald (a := d 9) (n := 2) (f := σ 8) hx hb hK hP 9 0 rfl rfl (by omega) (by omega) (by decide) dX1_count_74 ?_
      have er : ((xCount σ w0 : Int)) = (σ 8 0) := by unfold xCount; rw [if_neg (by omega), if_pos (by omega)]; try rfl
      refine vx_ret ?_; exact g_iret (wo := (fun κ' => XW cI cZ d σ κ')) (kr := (fun κ' => (tCount w0) = 0 ∧ (κ' = κ))) (rv := (fun _ => some (.int (iI (xCount σ w0))))) hx hb hr hlocks κ rfl hP hK hD hS ⟨by unfold tCount; rw [if_neg (by omega)], rfl⟩ (by rw [er]) (Nat.le_of_ble_eq_true rfl) (Nat.le_of_ble_eq_true rfl) dX1_count_75
    rcases Int.decEq w0 2 with c21_2 | c21_2
    rotate_left
    · skip
      refine gi_tableIn (tgt := 76) hx hb dX1_count_21 ⟨by omega, by omega⟩ 2 c21_2 (by decide) (by decide) rfl (by decide) ?_
      refine lv_aload_n hx hb dX1_count_76 rfl (lv_at hl 0 rfl) ?_
      refine va_get (D := D) (ci := 1) (v := .ref (d 9)) (C := RX1) (T := TX1) (N := 13) hx hb hts hinX1 hown hK hP 0 rfl rfl 8 (by decide) (hts (.fieldLink RX1 35 "TwinOrchard" "strength" "[I") (List.mem_of_getElem? (i := 4) rfl)) (fun _ h9 => h9) rfl dX1_count_77 ?_
      refine lv_iconst (v := iI (1)) hx hb dX1_count_80 rfl ?_
      refine gi_iald (a := d 9) (n := 2) (f := σ 8) hx hb hK hP 9 0 rfl rfl (by omega) (by omega) (by decide) dX1_count_81 ?_
      have er : ((xCount σ w0 : Int)) = (σ 8 1) := by unfold xCount; rw [if_neg (by omega), if_neg (by omega), if_pos (by omega)]; try rfl
      refine vx_ret ?_; exact g_iret (wo := (fun κ' => XW cI cZ d σ κ')) (kr := (fun κ' => (tCount w0) = 0 ∧ (κ' = κ))) (rv := (fun _ => some (.int (iI (xCount σ w0))))) hx hb hr hlocks κ rfl hP hK hD hS ⟨by unfold tCount; rw [if_neg (by omega)], rfl⟩ (by rw [er]) (Nat.le_of_ble_eq_true rfl) (Nat.le_of_ble_eq_true rfl) dX1_count_82
    rcases Int.decEq w0 3 with c21_3 | c21_3
    rotate_left
    · skip
      refine gi_tableIn (tgt := 83) hx hb dX1_count_21 ⟨by omega, by omega⟩ 3 c21_3 (by decide) (by decide) rfl (by decide) ?_
      refine lv_aload_n hx hb dX1_count_83 rfl (lv_at hl 0 rfl) ?_
      have hPc : va_P D vwCl (XW cI cZ d σ κ ++ []) H := by rw [List.append_nil]; exact hP
      have hDc : va_D A (XW cI cZ d σ κ ++ []) := by rw [List.append_nil]; exact hD
      refine g_call (va_runV (As := []) (rest := []) S ((kX1_allTrees l D cI cZ d σ κ  (by first | assumption | omega)) H.size) (cwV 0 hts gX1_count_X1_allTrees rfl rfl rfl (by decide +kernel) ⟨Nat.le_of_ble_eq_true rfl, Nat.le_of_ble_eq_true rfl⟩) (g_preV xEx_g hK [0, 1] rfl hPc hDc (fun U _ hW => xEx_w hW hE) (q0 := 0) (ci := 1) rfl rfl rfl) rfl rfl hl.1 rfl (lv_room (Nat.le_of_ble_eq_true rfl)) dX1_count_84 ⟨Nat.le_of_ble_eq_true rfl, Nat.le_of_ble_eq_true rfl⟩) hPc hDc hS hA (fun κ9 H locs hk hP hD hS => ?_)
      have hk : κ = κ9 := hk.symm
      subst hk
      have hP : va_P D vwCl (XW cI cZ d σ κ) H := by have h9 : va_P D vwCl (XW cI cZ d σ κ ++ []) H := hP; rw [List.append_nil] at h9; exact h9
      have hD : va_D A (XW cI cZ d σ κ) := by have h9 : va_D A (XW cI cZ d σ κ ++ []) := hD; rw [List.append_nil] at h9; exact h9
      show W p l e ({ frames := 6, cells := 1, slots := 6, locals := 92 } : Room) s m args below meth c H locs 0 0 (vx_MQ below (gQ D (tyXs cI cZ) (fun κ' => XW cI cZ d σ κ') A (fun _ => some (.int (iI (xCount σ w0)))) (fun κ' => (tCount w0) = 0 ∧ (κ' = κ))) (gX D (tyXs cI cZ) (XW cI cZ d σ κ) A (fun E => (E = eI ∧ (tCount w0) = 1))) args s 1 6 A) (F0 m 87 ls [.int (iI (isumI (fun j => bI (¬ σ 4 j = -1)) 40))])
      have er : ((xCount σ w0 : Int)) = (isumI (fun j => bI (¬ σ 4 j = -1)) 40) := by unfold xCount; rw [if_neg (by omega), if_neg (by omega), if_neg (by omega), if_pos (by omega)]; try rfl
      refine vx_ret ?_; exact g_iret (wo := (fun κ' => XW cI cZ d σ κ')) (kr := (fun κ' => (tCount w0) = 0 ∧ (κ' = κ))) (rv := (fun _ => some (.int (iI (xCount σ w0))))) hx hb hr hlocks κ rfl hP hK hD hS ⟨by unfold tCount; rw [if_neg (by omega)], rfl⟩ (by rw [er]) (Nat.le_of_ble_eq_true rfl) (Nat.le_of_ble_eq_true rfl) dX1_count_87
    rcases Int.decEq w0 4 with c21_4 | c21_4
    rotate_left
    · skip
      refine gi_tableIn (tgt := 88) hx hb dX1_count_21 ⟨by omega, by omega⟩ 4 c21_4 (by decide) (by decide) rfl (by decide) ?_
      refine lv_aload_n hx hb dX1_count_88 rfl (lv_at hl 0 rfl) ?_
      have hPc : va_P D vwCl (XW cI cZ d σ κ ++ []) H := by rw [List.append_nil]; exact hP
      have hDc : va_D A (XW cI cZ d σ κ ++ []) := by rw [List.append_nil]; exact hD
      refine g_call (va_runV (As := []) (rest := []) S ((kX1_allTired l D cI cZ d σ κ  (by first | assumption | omega)) H.size) (cwV 0 hts gX1_count_X1_allTired rfl rfl rfl (by decide +kernel) ⟨Nat.le_of_ble_eq_true rfl, Nat.le_of_ble_eq_true rfl⟩) (g_preV xEx_g hK [0, 1] rfl hPc hDc (fun U _ hW => xEx_w hW hE) (q0 := 0) (ci := 1) rfl rfl rfl) rfl rfl hl.1 rfl (lv_room (Nat.le_of_ble_eq_true rfl)) dX1_count_89 ⟨Nat.le_of_ble_eq_true rfl, Nat.le_of_ble_eq_true rfl⟩) hPc hDc hS hA (fun κ9 H locs hk hP hD hS => ?_)
      have hk : κ = κ9 := hk.symm
      subst hk
      have hP : va_P D vwCl (XW cI cZ d σ κ) H := by have h9 : va_P D vwCl (XW cI cZ d σ κ ++ []) H := hP; rw [List.append_nil] at h9; exact h9
      have hD : va_D A (XW cI cZ d σ κ) := by have h9 : va_D A (XW cI cZ d σ κ ++ []) := hD; rw [List.append_nil] at h9; exact h9
      show W p l e ({ frames := 6, cells := 1, slots := 6, locals := 92 } : Room) s m args below meth c H locs 0 0 (vx_MQ below (gQ D (tyXs cI cZ) (fun κ' => XW cI cZ d σ κ') A (fun _ => some (.int (iI (xCount σ w0)))) (fun κ' => (tCount w0) = 0 ∧ (κ' = κ))) (gX D (tyXs cI cZ) (XW cI cZ d σ κ) A (fun E => (E = eI ∧ (tCount w0) = 1))) args s 1 6 A) (F0 m 92 ls [.int (iI (isumI (fun j => bI (¬ σ 7 j = 0)) 40))])
      have er : ((xCount σ w0 : Int)) = (isumI (fun j => bI (¬ σ 7 j = 0)) 40) := by unfold xCount; rw [if_neg (by omega), if_neg (by omega), if_neg (by omega), if_neg (by omega), if_pos (by omega)]; try rfl
      refine vx_ret ?_; exact g_iret (wo := (fun κ' => XW cI cZ d σ κ')) (kr := (fun κ' => (tCount w0) = 0 ∧ (κ' = κ))) (rv := (fun _ => some (.int (iI (xCount σ w0))))) hx hb hr hlocks κ rfl hP hK hD hS ⟨by unfold tCount; rw [if_neg (by omega)], rfl⟩ (by rw [er]) (Nat.le_of_ble_eq_true rfl) (Nat.le_of_ble_eq_true rfl) dX1_count_92
    rcases Int.decEq w0 5 with c21_5 | c21_5
    rotate_left
    · skip
      refine gi_tableIn (tgt := 93) hx hb dX1_count_21 ⟨by omega, by omega⟩ 5 c21_5 (by decide) (by decide) rfl (by decide) ?_
      refine lv_aload_n hx hb dX1_count_93 rfl (lv_at hl 0 rfl) ?_
      have hPc : va_P D vwCl (XW cI cZ d σ κ ++ []) H := by rw [List.append_nil]; exact hP
      have hDc : va_D A (XW cI cZ d σ κ ++ []) := by rw [List.append_nil]; exact hD
      refine g_call (va_runV (As := []) (rest := []) S ((kX1_applesInBarn l D cI cZ d σ κ  ) H.size) (cwV 0 hts gX1_count_X1_applesInBarn rfl rfl rfl (by decide +kernel) ⟨Nat.le_of_ble_eq_true rfl, Nat.le_of_ble_eq_true rfl⟩) (g_preV xEx_g hK [0, 1] rfl hPc hDc (fun U _ hW => xEx_w hW hE) (q0 := 0) (ci := 1) rfl rfl rfl) rfl rfl hl.1 rfl (lv_room (Nat.le_of_ble_eq_true rfl)) dX1_count_94 ⟨Nat.le_of_ble_eq_true rfl, Nat.le_of_ble_eq_true rfl⟩) hPc hDc hS hA (fun κ9 H locs hk hP hD hS => ?_)
      have hk : κ = κ9 := hk.symm
      subst hk
      have hP : va_P D vwCl (XW cI cZ d σ κ) H := by have h9 : va_P D vwCl (XW cI cZ d σ κ ++ []) H := hP; rw [List.append_nil] at h9; exact h9
      have hD : va_D A (XW cI cZ d σ κ) := by have h9 : va_D A (XW cI cZ d σ κ ++ []) := hD; rw [List.append_nil] at h9; exact h9
      show W p l e ({ frames := 6, cells := 1, slots := 6, locals := 92 } : Room) s m args below meth c H locs 0 0 (vx_MQ below (gQ D (tyXs cI cZ) (fun κ' => XW cI cZ d σ κ') A (fun _ => some (.int (iI (xCount σ w0)))) (fun κ' => (tCount w0) = 0 ∧ (κ' = κ))) (gX D (tyXs cI cZ) (XW cI cZ d σ κ) A (fun E => (E = eI ∧ (tCount w0) = 1))) args s 1 6 A) (F0 m 97 ls [.int (iI (isumI (σ 2) 6))])
      have er : ((xCount σ w0 : Int)) = (isumI (σ 2) 6) := by unfold xCount; rw [if_neg (by omega), if_neg (by omega), if_neg (by omega), if_neg (by omega), if_neg (by omega), if_pos (by omega)]; try rfl
      refine vx_ret ?_; exact g_iret (wo := (fun κ' => XW cI cZ d σ κ')) (kr := (fun κ' => (tCount w0) = 0 ∧ (κ' = κ))) (rv := (fun _ => some (.int (iI (xCount σ w0))))) hx hb hr hlocks κ rfl hP hK hD hS ⟨by unfold tCount; rw [if_neg (by omega)], rfl⟩ (by rw [er]) (Nat.le_of_ble_eq_true rfl) (Nat.le_of_ble_eq_true rfl) dX1_count_97
    rcases Int.decEq w0 6 with c21_6 | c21_6
    rotate_left
    · skip
      refine gi_tableIn (tgt := 98) hx hb dX1_count_21 ⟨by omega, by omega⟩ 6 c21_6 (by decide) (by decide) rfl (by decide) ?_
      refine lv_aload_n hx hb dX1_count_98 rfl (lv_at hl 0 rfl) ?_
      have hPc : va_P D vwCl (XW cI cZ d σ κ ++ []) H := by rw [List.append_nil]; exact hP
      have hDc : va_D A (XW cI cZ d σ κ ++ []) := by rw [List.append_nil]; exact hD
      refine g_call (va_runV (As := []) (rest := []) S ((kX1_weightInBarn l D cI cZ d σ κ  ) H.size) (cwV 0 hts gX1_count_X1_weightInBarn rfl rfl rfl (by decide +kernel) ⟨Nat.le_of_ble_eq_true rfl, Nat.le_of_ble_eq_true rfl⟩) (g_preV xEx_g hK [0, 1] rfl hPc hDc (fun U _ hW => xEx_w hW hE) (q0 := 0) (ci := 1) rfl rfl rfl) rfl rfl hl.1 rfl (lv_room (Nat.le_of_ble_eq_true rfl)) dX1_count_99 ⟨Nat.le_of_ble_eq_true rfl, Nat.le_of_ble_eq_true rfl⟩) hPc hDc hS hA (fun κ9 H locs hk hP hD hS => ?_)
      have hk : κ = κ9 := hk.symm
      subst hk
      have hP : va_P D vwCl (XW cI cZ d σ κ) H := by have h9 : va_P D vwCl (XW cI cZ d σ κ ++ []) H := hP; rw [List.append_nil] at h9; exact h9
      have hD : va_D A (XW cI cZ d σ κ) := by have h9 : va_D A (XW cI cZ d σ κ ++ []) := hD; rw [List.append_nil] at h9; exact h9
      show W p l e ({ frames := 6, cells := 1, slots := 6, locals := 92 } : Room) s m args below meth c H locs 0 0 (vx_MQ below (gQ D (tyXs cI cZ) (fun κ' => XW cI cZ d σ κ') A (fun _ => some (.int (iI (xCount σ w0)))) (fun κ' => (tCount w0) = 0 ∧ (κ' = κ))) (gX D (tyXs cI cZ) (XW cI cZ d σ κ) A (fun E => (E = eI ∧ (tCount w0) = 1))) args s 1 6 A) (F0 m 102 ls [.int (iI (isumI (fun j => σ 2 j * σ 0 j) 6))])
      have er : ((xCount σ w0 : Int)) = (isumI (fun j => σ 2 j * σ 0 j) 6) := by unfold xCount; rw [if_neg (by omega), if_neg (by omega), if_neg (by omega), if_neg (by omega), if_neg (by omega), if_neg (by omega), if_pos (by omega)]; try rfl
      refine vx_ret ?_; exact g_iret (wo := (fun κ' => XW cI cZ d σ κ')) (kr := (fun κ' => (tCount w0) = 0 ∧ (κ' = κ))) (rv := (fun _ => some (.int (iI (xCount σ w0))))) hx hb hr hlocks κ rfl hP hK hD hS ⟨by unfold tCount; rw [if_neg (by omega)], rfl⟩ (by rw [er]) (Nat.le_of_ble_eq_true rfl) (Nat.le_of_ble_eq_true rfl) dX1_count_102
    refine gi_tableOut (tgt := 103) hx hb dX1_count_21 ⟨by omega, by omega⟩ (by omega) (by decide) ?_
    refine lv_aload_n hx hb dX1_count_103 rfl (lv_at hl 0 rfl) ?_
    have hPc : va_P D vwCl (XW cI cZ d σ κ ++ []) H := by rw [List.append_nil]; exact hP
    have hDc : va_D A (XW cI cZ d σ κ ++ []) := by rw [List.append_nil]; exact hD
    refine g_call (va_runV (As := []) (rest := []) S ((kX1_unlikePairs l D cI cZ d σ κ  (by first | assumption | omega)) H.size) (cwV 0 hts gX1_count_X1_unlikePairs rfl rfl rfl (by decide +kernel) ⟨Nat.le_of_ble_eq_true rfl, Nat.le_of_ble_eq_true rfl⟩) (g_preV xEx_g hK [0, 1] rfl hPc hDc (fun U _ hW => xEx_w hW hE) (q0 := 0) (ci := 1) rfl rfl rfl) rfl rfl hl.1 rfl (lv_room (Nat.le_of_ble_eq_true rfl)) dX1_count_104 ⟨Nat.le_of_ble_eq_true rfl, Nat.le_of_ble_eq_true rfl⟩) hPc hDc hS hA (fun κ9 H locs hk hP hD hS => ?_)
    have hk : κ = κ9 := hk.symm
    subst hk
    have hP : va_P D vwCl (XW cI cZ d σ κ) H := by have h9 : va_P D vwCl (XW cI cZ d σ κ ++ []) H := hP; rw [List.append_nil] at h9; exact h9
    have hD : va_D A (XW cI cZ d σ κ) := by have h9 : va_D A (XW cI cZ d σ κ ++ []) := hD; rw [List.append_nil] at h9; exact h9
    show W p l e ({ frames := 6, cells := 1, slots := 6, locals := 92 } : Room) s m args below meth c H locs 0 0 (vx_MQ below (gQ D (tyXs cI cZ) (fun κ' => XW cI cZ d σ κ') A (fun _ => some (.int (iI (xCount σ w0)))) (fun κ' => (tCount w0) = 0 ∧ (κ' = κ))) (gX D (tyXs cI cZ) (XW cI cZ d σ κ) A (fun E => (E = eI ∧ (tCount w0) = 1))) args s 1 6 A) (F0 m 107 ls [.int (iI (isumI (fun r => isumI (fun q => upr σ r q) 4) 5))])
    have er : ((xCount σ w0 : Int)) = (isumI (fun r => isumI (fun q => upr σ r q) 4) 5) := by unfold xCount; rw [if_neg (by omega), if_neg (by omega), if_neg (by omega), if_neg (by omega), if_neg (by omega), if_neg (by omega), if_neg (by omega)]; try rfl
    refine vx_ret ?_; exact g_iret (wo := (fun κ' => XW cI cZ d σ κ')) (kr := (fun κ' => (tCount w0) = 0 ∧ (κ' = κ))) (rv := (fun _ => some (.int (iI (xCount σ w0))))) hx hb hr hlocks κ rfl hP hK hD hS ⟨by unfold tCount; rw [if_neg (by omega)], rfl⟩ (by rw [er]) (Nat.le_of_ble_eq_true rfl) (Nat.le_of_ble_eq_true rfl) dX1_count_107
  · skip
    exact h_throw (cls := eI) (ik := 65) (is := 132) (ic := 69) hx hb hfl hown hTE (List.mem_of_getElem? (i := 9) rfl) (by decide +kernel) (hts _ (List.mem_of_getElem? (i := 1) rfl)) (hts _ (List.mem_of_getElem? (i := 2) rfl)) (Or.inl rfl) h_nI (fun w h => hts w (List.mem_cons_of_mem _ (List.mem_append_right _ (h)))) h_gI hS (hl.1.trans hml.symm) hT hlocks hP hK hD (⟨rfl, by unfold tCount; rw [if_pos (by omega)]⟩) dX1_count_10 dX1_count_13 dX1_count_14 dX1_count_16 dX1_count_19 (by decide) (Nat.le_of_ble_eq_true rfl) (by decide) (by decide) (by decide) (by decide)
set_option maxHeartbeats 4000000 in
set_option maxRecDepth 100000 in
theorem kX1_leans (l : Launch) (hfl : l.stackTraces = false) (D : va_G) (cI cZ : ClassId) (d : Nat → Nat) (σ κ : St)  (r0 : Int) (hwf : xWF σ) (hl_r0 : -2147483648 ≤ r0) (hh_r0 : r0 ≤ 2147483647) : hMet l yX1_leans wsX1_leans ({ frames := 6, cells := 1, slots := 6, locals := 92 } : Room) D (tyXs cI cZ) (XW cI cZ d σ κ) [.ref (d 0), .int (iI r0)] (fun _ => some (.int (iI (xLeans σ r0)))) (fun κ' => (tLeans r0) = 0 ∧ (True)) (fun κ' => XW cI cZ d σ κ') (fun E => (E = eI ∧ (tLeans r0) = 1)) := by
  refine h_start (cc := cX1_leans) (maxL := 5) (ret := (some .int)) (by decide) rfl (Nat.le_of_ble_eq_true rfl) ?_
  intro p e s m args below meth c A ls H locs S hr hlocks hT hP hK hD hA hS hTE hl
  have hE := hTE.1
  have S0 := S
  obtain ⟨hx, hb, hml, hown, hts⟩ := S0
  have hl : lv_has ls 5 [(0, .ref (d 0)), (1, .int (iI (r0)))] := hl
  have hinX0 : ∀ w ∈ wsX00, w ∈ wsX1_leans := by decide +kernel
  have hinX1 : ∀ w ∈ wsX10, w ∈ wsX1_leans := by decide +kernel
  refine lv_iload_n hx hb dX1_leans_0 rfl (lv_at hl 1 rfl) ?_
  refine lv_iconst (v := iI (0)) hx hb dX1_leans_1 rfl ?_
  refine lv_iconst (v := iI (4)) hx hb dX1_leans_2 rfl ?_
  have hPc : va_P D vwCl ([] ++ XW cI cZ d σ κ) H := hP
  have hDc : va_D A ([] ++ XW cI cZ d σ κ) := hD
  refine g_call (va_runS (As := [.int (iI (r0)), .int (iI (0)), .int (iI (4))]) (rest := []) S ((kX1_isWithin l D  r0 0 4 (by first | assumption | omega) (by first | assumption | omega) (by first | assumption | omega) (by first | assumption | omega) (by first | assumption | omega) (by first | assumption | omega)) H.size) (va_cwS 3 hts gX1_leans_X1_isWithin rfl rfl rfl (by decide +kernel) ⟨Nat.le_of_ble_eq_true rfl, Nat.le_of_ble_eq_true rfl⟩) (g_preS gEx_t hK [] rfl hPc hDc (fun _ _ _ => trivial)) rfl rfl hl.1 rfl (lv_room (Nat.le_of_ble_eq_true rfl)) dX1_leans_3 ⟨Nat.le_of_ble_eq_true rfl, Nat.le_of_ble_eq_true rfl⟩) hPc hDc hS hA (fun κ9 H locs hk hP hD hS => ?_)
  have hP : va_P D vwCl (XW cI cZ d σ κ) H := hP
  have hD : va_D A (XW cI cZ d σ κ) := hD
  show W p l e ({ frames := 6, cells := 1, slots := 6, locals := 92 } : Room) s m args below meth c H locs 0 0 (vx_MQ below (gQ D (tyXs cI cZ) (fun κ' => XW cI cZ d σ κ') A (fun _ => some (.int (iI (xLeans σ r0)))) (fun κ' => (tLeans r0) = 0 ∧ (True))) (gX D (tyXs cI cZ) (XW cI cZ d σ κ) A (fun E => (E = eI ∧ (tLeans r0) = 1))) args s 1 6 A) (F0 m 6 ls [.int (iI (bI (0 ≤ r0 ∧ r0 ≤ 4)))])
  refine gb_if_ne (tgt := 19) hx hb dX1_leans_6 (by decide)  (fun c6 => ?_) (fun c6 => ?_)
  · skip
    refine lv_iconst (v := iI (0)) hx hb dX1_leans_19 rfl ?_
    refine lv_istore_n (lv' := [(2, .int (iI (0))), (0, .ref (d 0)), (1, .int (iI (r0)))]) hx hb dX1_leans_20 rfl hl (by decide) rfl (fun ls hl => ?_)
    refine lv_iconst (v := iI (0)) hx hb dX1_leans_21 rfl ?_
    refine lv_istore_n (lv' := [(3, .int (iI (0))), (2, .int (iI (0))), (0, .ref (d 0)), (1, .int (iI (r0)))]) hx hb dX1_leans_22 rfl hl (by decide) rfl (fun ls hl => ?_)
    have loop23 : ∀ (n23 : Nat) (i a : Int) (κ_23 : St), (0 ≤ i) → (i ≤ 4) → (4 - i < (n23 : Int)) → (a = isumI (fun q => apx σ (r0 * 8 + q) - apx σ (mir (r0 * 8 + q))) i) → ∀ (H : Heap) (locs : List Loc) (ls : Array Slot), va_P D vwCl (XW cI cZ d σ κ_23) H → va_D A (XW cI cZ d σ κ_23) → va_S A s.heap H locs → lv_has ls 5 [(3, .int (iI (i))), (2, .int (iI (a))), (0, .ref (d 0)), (1, .int (iI (r0)))] → W p l e ({ frames := 6, cells := 1, slots := 6, locals := 92 } : Room) s m args below meth c H locs 0 0 (vx_MQ below (gQ D (tyXs cI cZ) (fun κ' => XW cI cZ d σ κ') A (fun _ => some (.int (iI (xLeans σ r0)))) (fun κ' => (tLeans r0) = 0 ∧ (True))) (gX D (tyXs cI cZ) (XW cI cZ d σ κ) A (fun E => (E = eI ∧ (tLeans r0) = 1))) args s 1 6 A) (F0 m 23 ls []) := by
      intro n23
      induction n23 with
      | zero =>
        intro i a κ_23 hlo23 hhi23 hm23
        omega
      | succ n23 ih23 =>
        intro i a κ_23 hlo23 hhi23 hm23 ia23 H locs ls hP hD hS hl
        have km := mir_in (s := r0 * 8 + i)
        refine lv_iload_n hx hb dX1_leans_23 rfl (lv_at hl 0 rfl) ?_
        refine lv_iconst (v := iI (4)) hx hb dX1_leans_24 rfl ?_
        refine gi_icmp_ge (tgt := 60) hx hb dX1_leans_25 (by decide) ⟨by omega, by omega⟩ ⟨by decide, by decide⟩ (fun c25 => ?_) (fun c25 => ?_)
        · skip
          refine lv_iload_n hx hb dX1_leans_60 rfl (lv_at hl 1 rfl) ?_
          have er : ((xLeans σ r0 : Int)) = (a) := by unfold xLeans; rw [ia23, show i = 4 by omega]
          refine vx_ret ?_; exact g_iret (wo := (fun κ' => XW cI cZ d σ κ')) (kr := (fun κ' => (tLeans r0) = 0 ∧ (True))) (rv := (fun _ => some (.int (iI (xLeans σ r0))))) hx hb hr hlocks κ_23 rfl hP hK hD hS ⟨by unfold tLeans; rw [if_neg (by omega)], trivial⟩ (by rw [er]) (Nat.le_of_ble_eq_true rfl) (Nat.le_of_ble_eq_true rfl) dX1_leans_61
        · skip
          refine lv_iload_n hx hb dX1_leans_28 rfl (lv_at hl 3 rfl) ?_
          refine lv_iload_n hx hb dX1_leans_29 rfl (lv_at hl 0 rfl) ?_
          have hPc : va_P D vwCl ([] ++ XW cI cZ d σ κ_23) H := hP
          have hDc : va_D A ([] ++ XW cI cZ d σ κ_23) := hD
          refine g_call (va_runS (As := [.int (iI (r0)), .int (iI (i))]) (rest := []) S ((kX1_spotOf l D  r0 i ) H.size) (va_cwS 2 hts gX1_leans_X1_spotOf rfl rfl rfl (by decide +kernel) ⟨Nat.le_of_ble_eq_true rfl, Nat.le_of_ble_eq_true rfl⟩) (g_preS gEx_t hK [] rfl hPc hDc (fun _ _ _ => trivial)) rfl rfl hl.1 rfl (lv_room (Nat.le_of_ble_eq_true rfl)) dX1_leans_30 ⟨Nat.le_of_ble_eq_true rfl, Nat.le_of_ble_eq_true rfl⟩) hPc hDc hS hA (fun κ9 H locs hk hP hD hS => ?_)
          have hP : va_P D vwCl (XW cI cZ d σ κ_23) H := hP
          have hD : va_D A (XW cI cZ d σ κ_23) := hD
          show W p l e ({ frames := 6, cells := 1, slots := 6, locals := 92 } : Room) s m args below meth c H locs 0 0 (vx_MQ below (gQ D (tyXs cI cZ) (fun κ' => XW cI cZ d σ κ') A (fun _ => some (.int (iI (xLeans σ r0)))) (fun κ' => (tLeans r0) = 0 ∧ (True))) (gX D (tyXs cI cZ) (XW cI cZ d σ κ) A (fun E => (E = eI ∧ (tLeans r0) = 1))) args s 1 6 A) (F0 m 33 ls [.int (iI (r0 * 8 + i))])
          refine lv_istore (lv' := [(4, .int (iI (r0 * 8 + i))), (3, .int (iI (i))), (2, .int (iI (a))), (0, .ref (d 0)), (1, .int (iI (r0)))]) hx hb dX1_leans_33 hl (by decide) rfl (fun ls hl => ?_)
          refine lv_iload_n hx hb dX1_leans_35 rfl (lv_at hl 2 rfl) ?_
          refine lv_aload_n hx hb dX1_leans_36 rfl (lv_at hl 3 rfl) ?_
          refine lv_iload hx hb dX1_leans_37 (lv_at hl 0 rfl) ?_
          have hPc : va_P D vwCl (XW cI cZ d σ κ_23 ++ []) H := by rw [List.append_nil]; exact hP
          have hDc : va_D A (XW cI cZ d σ κ_23 ++ []) := by rw [List.append_nil]; exact hD
          refine g_call (va_runV (As := [.int (iI (r0 * 8 + i))]) (rest := [.int (iI (a))]) S ((kX1_applesNow l D cI cZ d σ κ_23 (r0 * 8 + i) (by first | assumption | omega) (by first | assumption | omega) (by first | assumption | omega)) H.size) (cwV 1 hts gX1_leans_X1_applesNow rfl rfl rfl (by decide +kernel) ⟨Nat.le_of_ble_eq_true rfl, Nat.le_of_ble_eq_true rfl⟩) (g_preV xEx_g hK [0, 1] rfl hPc hDc (fun U _ hW => xEx_w hW hE) (q0 := 0) (ci := 1) rfl rfl rfl) rfl rfl hl.1 rfl (lv_room (Nat.le_of_ble_eq_true rfl)) dX1_leans_39 ⟨Nat.le_of_ble_eq_true rfl, Nat.le_of_ble_eq_true rfl⟩) hPc hDc hS hA (fun κ9 H locs hk hP hD hS => ?_)
          obtain ⟨κ_1, rfl⟩ : ∃ z, z = κ9 := ⟨_, rfl⟩
          have hP : va_P D vwCl (XW cI cZ d σ κ_1) H := by have h9 : va_P D vwCl (XW cI cZ d σ κ_1 ++ []) H := hP; rw [List.append_nil] at h9; exact h9
          have hD : va_D A (XW cI cZ d σ κ_1) := by have h9 : va_D A (XW cI cZ d σ κ_1 ++ []) := hD; rw [List.append_nil] at h9; exact h9
          show W p l e ({ frames := 6, cells := 1, slots := 6, locals := 92 } : Room) s m args below meth c H locs 0 0 (vx_MQ below (gQ D (tyXs cI cZ) (fun κ' => XW cI cZ d σ κ') A (fun _ => some (.int (iI (xLeans σ r0)))) (fun κ' => (tLeans r0) = 0 ∧ (True))) (gX D (tyXs cI cZ) (XW cI cZ d σ κ) A (fun E => (E = eI ∧ (tLeans r0) = 1))) args s 1 6 A) (F0 m 42 ls [.int (iI (apx σ (r0 * 8 + i))), .int (iI (a))])
          refine lv_aload_n hx hb dX1_leans_42 rfl (lv_at hl 3 rfl) ?_
          refine lv_iload hx hb dX1_leans_43 (lv_at hl 0 rfl) ?_
          have hPc : va_P D vwCl ([] ++ XW cI cZ d σ κ_1) H := hP
          have hDc : va_D A ([] ++ XW cI cZ d σ κ_1) := hD
          refine g_call (va_runS (As := [.int (iI (r0 * 8 + i))]) (rest := [.ref (d 0), .int (iI (apx σ (r0 * 8 + i))), .int (iI (a))]) S ((kX1_mirrorOf l D  (r0 * 8 + i) (by first | assumption | omega) (by first | assumption | omega)) H.size) (va_cwS 1 hts gX1_leans_X1_mirrorOf rfl rfl rfl (by decide +kernel) ⟨Nat.le_of_ble_eq_true rfl, Nat.le_of_ble_eq_true rfl⟩) (g_preS gEx_t hK [] rfl hPc hDc (fun _ _ _ => trivial)) rfl rfl hl.1 rfl (lv_room (Nat.le_of_ble_eq_true rfl)) dX1_leans_45 ⟨Nat.le_of_ble_eq_true rfl, Nat.le_of_ble_eq_true rfl⟩) hPc hDc hS hA (fun κ9 H locs hk hP hD hS => ?_)
          have hP : va_P D vwCl (XW cI cZ d σ κ_1) H := hP
          have hD : va_D A (XW cI cZ d σ κ_1) := hD
          show W p l e ({ frames := 6, cells := 1, slots := 6, locals := 92 } : Room) s m args below meth c H locs 0 0 (vx_MQ below (gQ D (tyXs cI cZ) (fun κ' => XW cI cZ d σ κ') A (fun _ => some (.int (iI (xLeans σ r0)))) (fun κ' => (tLeans r0) = 0 ∧ (True))) (gX D (tyXs cI cZ) (XW cI cZ d σ κ) A (fun E => (E = eI ∧ (tLeans r0) = 1))) args s 1 6 A) (F0 m 48 ls [.int (iI (mir (r0 * 8 + i))), .ref (d 0), .int (iI (apx σ (r0 * 8 + i))), .int (iI (a))])
          have hPc : va_P D vwCl (XW cI cZ d σ κ_1 ++ []) H := by rw [List.append_nil]; exact hP
          have hDc : va_D A (XW cI cZ d σ κ_1 ++ []) := by rw [List.append_nil]; exact hD
          refine g_call (va_runV (As := [.int (iI (mir (r0 * 8 + i)))]) (rest := [.int (iI (apx σ (r0 * 8 + i))), .int (iI (a))]) S ((kX1_applesNow l D cI cZ d σ κ_1 (mir (r0 * 8 + i)) (km (by omega) (by omega)).1 (km (by omega) (by omega)).2 (by first | assumption | omega)) H.size) (cwV 1 hts gX1_leans_X1_applesNow rfl rfl rfl (by decide +kernel) ⟨Nat.le_of_ble_eq_true rfl, Nat.le_of_ble_eq_true rfl⟩) (g_preV xEx_g hK [0, 1] rfl hPc hDc (fun U _ hW => xEx_w hW hE) (q0 := 0) (ci := 1) rfl rfl rfl) rfl rfl hl.1 rfl (lv_room (Nat.le_of_ble_eq_true rfl)) dX1_leans_48 ⟨Nat.le_of_ble_eq_true rfl, Nat.le_of_ble_eq_true rfl⟩) hPc hDc hS hA (fun κ9 H locs hk hP hD hS => ?_)
          obtain ⟨κ_2, rfl⟩ : ∃ z, z = κ9 := ⟨_, rfl⟩
          have hP : va_P D vwCl (XW cI cZ d σ κ_2) H := by have h9 : va_P D vwCl (XW cI cZ d σ κ_2 ++ []) H := hP; rw [List.append_nil] at h9; exact h9
          have hD : va_D A (XW cI cZ d σ κ_2) := by have h9 : va_D A (XW cI cZ d σ κ_2 ++ []) := hD; rw [List.append_nil] at h9; exact h9
          show W p l e ({ frames := 6, cells := 1, slots := 6, locals := 92 } : Room) s m args below meth c H locs 0 0 (vx_MQ below (gQ D (tyXs cI cZ) (fun κ' => XW cI cZ d σ κ') A (fun _ => some (.int (iI (xLeans σ r0)))) (fun κ' => (tLeans r0) = 0 ∧ (True))) (gX D (tyXs cI cZ) (XW cI cZ d σ κ) A (fun E => (E = eI ∧ (tLeans r0) = 1))) args s 1 6 A) (F0 m 51 ls [.int (iI (apx σ (mir (r0 * 8 + i)))), .int (iI (apx σ (r0 * 8 + i))), .int (iI (a))])
          refine gi_sub hx hb dX1_leans_51 ?_
          refine gi_add hx hb dX1_leans_52 ?_
          refine lv_istore_n (lv' := [(2, .int (iI (a + ((apx σ (r0 * 8 + i)) - (apx σ (mir (r0 * 8 + i))))))), (4, .int (iI (r0 * 8 + i))), (3, .int (iI (i))), (0, .ref (d 0)), (1, .int (iI (r0)))]) hx hb dX1_leans_53 rfl hl (by decide) rfl (fun ls hl => ?_)
          refine lv_iinc (v := iI (i + 1)) (lv' := [(3, .int (iI (i + 1))), (2, .int (iI (a + ((apx σ (r0 * 8 + i)) - (apx σ (mir (r0 * 8 + i))))))), (4, .int (iI (r0 * 8 + i))), (0, .ref (d 0)), (1, .int (iI (r0)))]) hx hb dX1_leans_54 hl (k := 2) rfl (iI_add _ _) (by decide) rfl (fun ls hl => ?_)
          refine lv_goto (tgt := 23) hx hb dX1_leans_57 (by decide) ?_
          exact ih23 (i + 1) (a + ((apx σ (r0 * 8 + i)) - (apx σ (mir (r0 * 8 + i))))) κ_2 (by omega) (by omega) (by omega) (by rw [isumI_s _ hlo23, ia23]) H locs ls hP hD hS (lv_sub hl [0, 1, 3, 4] rfl)
    exact loop23 (((4 - (0) + 1 : Int)).toNat) 0 0 κ (by omega) (by omega) (by omega) (by rw [isumI_0]) H locs ls hP hD hS (lv_sub hl [0, 1, 2, 3] rfl)
  · skip
    exact h_throw (cls := eI) (ik := 65) (is := 150) (ic := 69) hx hb hfl hown hTE (List.mem_of_getElem? (i := 10) rfl) (by decide +kernel) (hts _ (List.mem_of_getElem? (i := 1) rfl)) (hts _ (List.mem_of_getElem? (i := 2) rfl)) (Or.inl rfl) h_nI (fun w h => hts w (List.mem_cons_of_mem _ (List.mem_append_right _ (h)))) h_gI hS (hl.1.trans hml.symm) hT hlocks hP hK hD (⟨rfl, by unfold tLeans; rw [if_pos (by omega)]⟩) dX1_leans_9 dX1_leans_12 dX1_leans_13 dX1_leans_15 dX1_leans_18 (by decide) (Nat.le_of_ble_eq_true rfl) (by decide) (by decide) (by decide) (by decide)
set_option maxHeartbeats 4000000 in
set_option maxRecDepth 100000 in
theorem kX1_carry (l : Launch) (hfl : l.stackTraces = false) (D : va_G) (cI cZ : ClassId) (d : Nat → Nat) (σ κ : St)  (a0 : Int) (x0 : Int) (y0 : Int) (hwf : xWF σ) (hl_a0 : -2147483648 ≤ a0) (hh_a0 : a0 ≤ 2147483647) (hl_x0 : -2147483648 ≤ x0) (hh_x0 : x0 ≤ 2147483647) (hl_y0 : -2147483648 ≤ y0) (hh_y0 : y0 ≤ 2147483647) : hMet l yX1_carry wsX1_carry ({ frames := 6, cells := 1, slots := 6, locals := 92 } : Room) D (tyXs cI cZ) (XW cI cZ d σ κ) [.ref (d 0), .int (iI a0), .int (iI x0), .int (iI y0)] (fun _ => some (.int (iI (σ 2 a0 - (x0 + y0))))) (fun κ' => (tCarry σ a0 x0 y0) = 0 ∧ (κ' = κ)) (fun κ' => XW cI cZ d (xCarry σ a0 x0 y0) κ') (fun E => (E = eI ∧ (tCarry σ a0 x0 y0) = 1) ∨ (E = eA ∧ (tCarry σ a0 x0 y0) = 2) ∨ (E = eS ∧ (tCarry σ a0 x0 y0) = 3)) := by
  refine h_start (cc := cX1_carry) (maxL := 4) (ret := (some .int)) (by decide) rfl (Nat.le_of_ble_eq_true rfl) ?_
  intro p e s m args below meth c A ls H locs S hr hlocks hT hP hK hD hA hS hTE hl
  have hE := hTE.1
  have S0 := S
  obtain ⟨hx, hb, hml, hown, hts⟩ := S0
  have hl : lv_has ls 4 [(0, .ref (d 0)), (1, .int (iI (a0))), (2, .int (iI (x0))), (3, .int (iI (y0)))] := hl
  have hinX1 : ∀ w ∈ wsX10, w ∈ wsX1_carry := by decide +kernel
  have k2 := xWF_2 hwf a0
  refine lv_iload_n hx hb dX1_carry_0 rfl (lv_at hl 1 rfl) ?_
  have hPc : va_P D vwCl ([] ++ XW cI cZ d σ κ) H := hP
  have hDc : va_D A ([] ++ XW cI cZ d σ κ) := hD
  refine g_call (va_runS (As := [.int (iI (a0))]) (rest := []) S ((kX1_isSort l D  a0 (by first | assumption | omega) (by first | assumption | omega)) H.size) (va_cwS 1 hts gX1_carry_X1_isSort rfl rfl rfl (by decide +kernel) ⟨Nat.le_of_ble_eq_true rfl, Nat.le_of_ble_eq_true rfl⟩) (g_preS gEx_t hK [] rfl hPc hDc (fun _ _ _ => trivial)) rfl rfl hl.1 rfl (lv_room (Nat.le_of_ble_eq_true rfl)) dX1_carry_1 ⟨Nat.le_of_ble_eq_true rfl, Nat.le_of_ble_eq_true rfl⟩) hPc hDc hS hA (fun κ9 H locs hk hP hD hS => ?_)
  have hP : va_P D vwCl (XW cI cZ d σ κ) H := hP
  have hD : va_D A (XW cI cZ d σ κ) := hD
  show W p l e ({ frames := 6, cells := 1, slots := 6, locals := 92 } : Room) s m args below meth c H locs 0 0 (vx_MQ below (gQ D (tyXs cI cZ) (fun κ' => XW cI cZ d (xCarry σ a0 x0 y0) κ') A (fun _ => some (.int (iI (σ 2 a0 - (x0 + y0))))) (fun κ' => (tCarry σ a0 x0 y0) = 0 ∧ (κ' = κ))) (gX D (tyXs cI cZ) (XW cI cZ d σ κ) A (fun E => (E = eI ∧ (tCarry σ a0 x0 y0) = 1) ∨ (E = eA ∧ (tCarry σ a0 x0 y0) = 2) ∨ (E = eS ∧ (tCarry σ a0 x0 y0) = 3))) args s 1 6 A) (F0 m 4 ls [.int (iI (bI (0 ≤ a0 ∧ a0 ≤ 5)))])
  refine gb_if_ne (tgt := 17) hx hb dX1_carry_4 (by decide)  (fun c4 => ?_) (fun c4 => ?_)
  · skip
    refine lv_iload_n hx hb dX1_carry_17 rfl (lv_at hl 2 rfl) ?_
    refine lv_iconst (v := iI (0)) hx hb dX1_carry_18 rfl ?_
    refine lv_sipush (v := iI (200)) hx hb dX1_carry_19 rfl ?_
    have hPc : va_P D vwCl ([] ++ XW cI cZ d σ κ) H := hP
    have hDc : va_D A ([] ++ XW cI cZ d σ κ) := hD
    refine g_call (va_runS (As := [.int (iI (x0)), .int (iI (0)), .int (iI (200))]) (rest := []) S ((kX1_isWithin l D  x0 0 200 (by first | assumption | omega) (by first | assumption | omega) (by first | assumption | omega) (by first | assumption | omega) (by first | assumption | omega) (by first | assumption | omega)) H.size) (va_cwS 3 hts gX1_carry_X1_isWithin rfl rfl rfl (by decide +kernel) ⟨Nat.le_of_ble_eq_true rfl, Nat.le_of_ble_eq_true rfl⟩) (g_preS gEx_t hK [] rfl hPc hDc (fun _ _ _ => trivial)) rfl rfl hl.1 rfl (lv_room (Nat.le_of_ble_eq_true rfl)) dX1_carry_22 ⟨Nat.le_of_ble_eq_true rfl, Nat.le_of_ble_eq_true rfl⟩) hPc hDc hS hA (fun κ9 H locs hk hP hD hS => ?_)
    have hP : va_P D vwCl (XW cI cZ d σ κ) H := hP
    have hD : va_D A (XW cI cZ d σ κ) := hD
    show W p l e ({ frames := 6, cells := 1, slots := 6, locals := 92 } : Room) s m args below meth c H locs 0 0 (vx_MQ below (gQ D (tyXs cI cZ) (fun κ' => XW cI cZ d (xCarry σ a0 x0 y0) κ') A (fun _ => some (.int (iI (σ 2 a0 - (x0 + y0))))) (fun κ' => (tCarry σ a0 x0 y0) = 0 ∧ (κ' = κ))) (gX D (tyXs cI cZ) (XW cI cZ d σ κ) A (fun E => (E = eI ∧ (tCarry σ a0 x0 y0) = 1) ∨ (E = eA ∧ (tCarry σ a0 x0 y0) = 2) ∨ (E = eS ∧ (tCarry σ a0 x0 y0) = 3))) args s 1 6 A) (F0 m 25 ls [.int (iI (bI (0 ≤ x0 ∧ x0 ≤ 200)))])
    refine gb_if_eq (tgt := 45) hx hb dX1_carry_25 (by decide)  (fun c25 => ?_) (fun c25 => ?_)
    · skip
      exact h_throw (cls := eA) (ik := 76) (is := 152) (ic := 80) hx hb hfl hown hTE (List.mem_of_getElem? (i := 11) rfl) (by decide +kernel) (hts _ (List.mem_of_getElem? (i := 3) rfl)) (hts _ (List.mem_of_getElem? (i := 4) rfl)) (Or.inr (Or.inl rfl)) h_nA (fun w h => hts w (List.mem_cons_of_mem _ (List.mem_append_left _ (List.mem_append_right _ (h))))) h_gA hS (hl.1.trans hml.symm) hT hlocks hP hK hD (Or.inr (Or.inl ⟨rfl, by unfold tCarry; rw [if_neg (by omega), if_pos (by omega)]⟩)) dX1_carry_45 dX1_carry_48 dX1_carry_49 dX1_carry_51 dX1_carry_54 (by decide) (Nat.le_of_ble_eq_true rfl) (by decide) (by decide) (by decide) (by decide)
    · skip
      refine lv_iload_n hx hb dX1_carry_28 rfl (lv_at hl 3 rfl) ?_
      refine lv_iconst (v := iI (0)) hx hb dX1_carry_29 rfl ?_
      refine lv_sipush (v := iI (200)) hx hb dX1_carry_30 rfl ?_
      have hPc : va_P D vwCl ([] ++ XW cI cZ d σ κ) H := hP
      have hDc : va_D A ([] ++ XW cI cZ d σ κ) := hD
      refine g_call (va_runS (As := [.int (iI (y0)), .int (iI (0)), .int (iI (200))]) (rest := []) S ((kX1_isWithin l D  y0 0 200 (by first | assumption | omega) (by first | assumption | omega) (by first | assumption | omega) (by first | assumption | omega) (by first | assumption | omega) (by first | assumption | omega)) H.size) (va_cwS 3 hts gX1_carry_X1_isWithin rfl rfl rfl (by decide +kernel) ⟨Nat.le_of_ble_eq_true rfl, Nat.le_of_ble_eq_true rfl⟩) (g_preS gEx_t hK [] rfl hPc hDc (fun _ _ _ => trivial)) rfl rfl hl.1 rfl (lv_room (Nat.le_of_ble_eq_true rfl)) dX1_carry_33 ⟨Nat.le_of_ble_eq_true rfl, Nat.le_of_ble_eq_true rfl⟩) hPc hDc hS hA (fun κ9 H locs hk hP hD hS => ?_)
      have hP : va_P D vwCl (XW cI cZ d σ κ) H := hP
      have hD : va_D A (XW cI cZ d σ κ) := hD
      show W p l e ({ frames := 6, cells := 1, slots := 6, locals := 92 } : Room) s m args below meth c H locs 0 0 (vx_MQ below (gQ D (tyXs cI cZ) (fun κ' => XW cI cZ d (xCarry σ a0 x0 y0) κ') A (fun _ => some (.int (iI (σ 2 a0 - (x0 + y0))))) (fun κ' => (tCarry σ a0 x0 y0) = 0 ∧ (κ' = κ))) (gX D (tyXs cI cZ) (XW cI cZ d σ κ) A (fun E => (E = eI ∧ (tCarry σ a0 x0 y0) = 1) ∨ (E = eA ∧ (tCarry σ a0 x0 y0) = 2) ∨ (E = eS ∧ (tCarry σ a0 x0 y0) = 3))) args s 1 6 A) (F0 m 36 ls [.int (iI (bI (0 ≤ y0 ∧ y0 ≤ 200)))])
      refine gb_if_eq (tgt := 45) hx hb dX1_carry_36 (by decide)  (fun c36 => ?_) (fun c36 => ?_)
      · skip
        exact h_throw (cls := eA) (ik := 76) (is := 152) (ic := 80) hx hb hfl hown hTE (List.mem_of_getElem? (i := 11) rfl) (by decide +kernel) (hts _ (List.mem_of_getElem? (i := 3) rfl)) (hts _ (List.mem_of_getElem? (i := 4) rfl)) (Or.inr (Or.inl rfl)) h_nA (fun w h => hts w (List.mem_cons_of_mem _ (List.mem_append_left _ (List.mem_append_right _ (h))))) h_gA hS (hl.1.trans hml.symm) hT hlocks hP hK hD (Or.inr (Or.inl ⟨rfl, by unfold tCarry; rw [if_neg (by omega), if_pos (by omega)]⟩)) dX1_carry_45 dX1_carry_48 dX1_carry_49 dX1_carry_51 dX1_carry_54 (by decide) (Nat.le_of_ble_eq_true rfl) (by decide) (by decide) (by decide) (by decide)
      · skip
        refine lv_iload_n hx hb dX1_carry_39 rfl (lv_at hl 2 rfl) ?_
        refine lv_iload_n hx hb dX1_carry_40 rfl (lv_at hl 3 rfl) ?_
        refine gi_add hx hb dX1_carry_41 ?_
        refine gi_if_ne (tgt := 55) hx hb dX1_carry_42 (by decide) ⟨by omega, by omega⟩ (fun c42 => ?_) (fun c42 => ?_)
        · skip
          refine lv_iload_n hx hb dX1_carry_55 rfl (lv_at hl 2 rfl) ?_
          refine lv_iload_n hx hb dX1_carry_56 rfl (lv_at hl 3 rfl) ?_
          refine gi_add hx hb dX1_carry_57 ?_
          refine lv_aload_n hx hb dX1_carry_58 rfl (lv_at hl 0 rfl) ?_
          refine va_get (D := D) (ci := 1) (v := .ref (d 3)) (C := RX1) (T := TX1) (N := 13) hx hb hts hinX1 hown hK hP 0 rfl rfl 2 (by decide) (hts (.fieldLink RX1 16 "TwinOrchard" "barn" "[I") (List.mem_of_getElem? (i := 7) rfl)) (fun _ h9 => h9) rfl dX1_carry_59 ?_
          refine lv_iload_n hx hb dX1_carry_62 rfl (lv_at hl 1 rfl) ?_
          refine gi_iald (a := d 3) (n := 6) (f := σ 2) hx hb hK hP 3 0 rfl rfl (by omega) (by omega) (by decide) dX1_carry_63 ?_
          refine gi_icmp_le (tgt := 77) hx hb dX1_carry_64 (by decide) ⟨by omega, by omega⟩ ⟨by omega, by omega⟩ (fun c64 => ?_) (fun c64 => ?_)
          · skip
            refine lv_aload_n hx hb dX1_carry_77 rfl (lv_at hl 0 rfl) ?_
            refine va_get (D := D) (ci := 1) (v := .ref (d 3)) (C := RX1) (T := TX1) (N := 13) hx hb hts hinX1 hown hK hP 0 rfl rfl 2 (by decide) (hts (.fieldLink RX1 16 "TwinOrchard" "barn" "[I") (List.mem_of_getElem? (i := 7) rfl)) (fun _ h9 => h9) rfl dX1_carry_78 ?_
            refine lv_iload_n hx hb dX1_carry_81 rfl (lv_at hl 1 rfl) ?_
            refine lv_dup2_11 hx hb dX1_carry_82 rfl rfl ?_
            refine gi_iald (a := d 3) (n := 6) (f := σ 2) hx hb hK hP 3 0 rfl rfl (by omega) (by omega) (by decide) dX1_carry_83 ?_
            refine lv_iload_n hx hb dX1_carry_84 rfl (lv_at hl 2 rfl) ?_
            refine lv_iload_n hx hb dX1_carry_85 rfl (lv_at hl 3 rfl) ?_
            refine gi_add hx hb dX1_carry_86 ?_
            refine gi_sub hx hb dX1_carry_87 ?_
            refine gi_iast (a := d 3) (n := 6) (f := σ 2) hx hb hK hP hD hS 3 0 rfl rfl (by omega) (by omega) (by decide) dX1_carry_88 (fun H locs hP hD hS => ?_)
            have hP : va_P D vwCl (XW cI cZ d (su σ 2 a0 ((σ 2 a0) - (x0 + y0))) κ) H := hP
            have hD : va_D A (XW cI cZ d (su σ 2 a0 ((σ 2 a0) - (x0 + y0))) κ) := hD
            refine lv_aload_n hx hb dX1_carry_89 rfl (lv_at hl 0 rfl) ?_
            refine lv_dup hx hb dX1_carry_90 rfl ?_
            refine va_get (D := D) (ci := 1) (v := .int (iI ((su σ 2 a0 ((σ 2 a0) - (x0 + y0))) 9 1))) (C := RX1) (T := TX1) (N := 13) hx hb hts hinX1 hown hK hP 0 rfl rfl 10 (by decide) (hts (.fieldLink RX1 42 "TwinOrchard" "carriedLeftMore" "I") (List.mem_of_getElem? (i := 8) rfl)) (fun _ h9 => h9) rfl dX1_carry_91 ?_
            rw [show ((su σ 2 a0 ((σ 2 a0) - (x0 + y0))) 9 1) = (σ 9 1) from by rfl]
            refine lv_iload_n hx hb dX1_carry_94 rfl (lv_at hl 2 rfl) ?_
            refine lv_iload_n hx hb dX1_carry_95 rfl (lv_at hl 3 rfl) ?_
            refine gi_sub hx hb dX1_carry_96 ?_
            refine lv_aload_n hx hb dX1_carry_97 rfl (lv_at hl 0 rfl) ?_
            refine va_get (D := D) (ci := 1) (v := .ref (d 1)) (C := RX1) (T := TX1) (N := 13) hx hb hts hinX1 hown hK hP 0 rfl rfl 0 (by decide) (hts (.fieldLink RX1 9 "TwinOrchard" "weights" "[I") (List.mem_of_getElem? (i := 9) rfl)) (fun _ h9 => h9) rfl dX1_carry_98 ?_
            refine lv_iload_n hx hb dX1_carry_101 rfl (lv_at hl 1 rfl) ?_
            refine gi_iald (a := d 1) (n := 6) (f := (su σ 2 a0 ((σ 2 a0) - (x0 + y0))) 0) hx hb hK hP 1 0 rfl rfl (by omega) (by omega) (by decide) dX1_carry_102 ?_
            rw [show ((su σ 2 a0 ((σ 2 a0) - (x0 + y0))) 0 a0) = (σ 0 a0) from by rfl]
            refine gi_mul hx hb dX1_carry_103 ?_
            refine gi_add hx hb dX1_carry_104 ?_
            refine va_put (D := D) (ci := 1) (v := .int (iI ((σ 9 1) + ((x0 - y0) * (σ 0 a0))))) (ty := .int) (C := RX1) (T := TX1) (N := 13) hx hb hts hinX1 tyX1 tyX1_ok nmX1 hown hK hP hD hS 0 rfl rfl 10 (by decide) (hts (.fieldLink RX1 42 "TwinOrchard" "carriedLeftMore" "I") (List.mem_of_getElem? (i := 8) rfl)) (fun _ h9 => h9) rfl (by decide +kernel) rfl rfl (Nat.le_of_ble_eq_true rfl) dX1_carry_105 (fun H locs hP hD hS => ?_)
            have hP : va_P D vwCl (XW cI cZ d (su (su σ 2 a0 ((σ 2 a0) - (x0 + y0))) 9 1 ((σ 9 1) + ((x0 - y0) * (σ 0 a0)))) κ) H := hP
            have hD : va_D A (XW cI cZ d (su (su σ 2 a0 ((σ 2 a0) - (x0 + y0))) 9 1 ((σ 9 1) + ((x0 - y0) * (σ 0 a0)))) κ) := hD
            refine lv_aload_n hx hb dX1_carry_108 rfl (lv_at hl 0 rfl) ?_
            refine va_get (D := D) (ci := 1) (v := .ref (d 3)) (C := RX1) (T := TX1) (N := 13) hx hb hts hinX1 hown hK hP 0 rfl rfl 2 (by decide) (hts (.fieldLink RX1 16 "TwinOrchard" "barn" "[I") (List.mem_of_getElem? (i := 7) rfl)) (fun _ h9 => h9) rfl dX1_carry_109 ?_
            refine lv_iload_n hx hb dX1_carry_112 rfl (lv_at hl 1 rfl) ?_
            refine gi_iald (a := d 3) (n := 6) (f := (su (su σ 2 a0 ((σ 2 a0) - (x0 + y0))) 9 1 ((σ 9 1) + ((x0 - y0) * (σ 0 a0)))) 2) hx hb hK hP 3 0 rfl rfl (by omega) (by omega) (by decide) dX1_carry_113 ?_
            rw [show ((su (su σ 2 a0 ((σ 2 a0) - (x0 + y0))) 9 1 ((σ 9 1) + ((x0 - y0) * (σ 0 a0)))) 2 a0) = ((σ 2 a0) - (x0 + y0)) from by simp [su, fu]]
            have es : (xCarry σ a0 x0 y0) = (su (su σ 2 a0 ((σ 2 a0) - (x0 + y0))) 9 1 ((σ 9 1) + ((x0 - y0) * (σ 0 a0)))) := by rfl
            have er : ((σ 2 a0 - (x0 + y0) : Int)) = ((σ 2 a0) - (x0 + y0)) := by first | rfl | omega | (simp [bI, *]; done)
            refine vx_ret ?_; exact g_iret (wo := (fun κ' => XW cI cZ d (xCarry σ a0 x0 y0) κ')) (kr := (fun κ' => (tCarry σ a0 x0 y0) = 0 ∧ (κ' = κ))) (rv := (fun _ => some (.int (iI (σ 2 a0 - (x0 + y0)))))) hx hb hr hlocks κ rfl (by rw [es]; exact hP) hK (by rw [es]; exact hD) hS ⟨by unfold tCarry; rw [if_neg (by omega), if_neg (by omega), if_neg (by omega)], rfl⟩ (by rw [er]) (Nat.le_of_ble_eq_true rfl) (Nat.le_of_ble_eq_true rfl) dX1_carry_114
          · skip
            exact h_throw (cls := eS) (ik := 154) (is := 156) (ic := 158) hx hb hfl hown hTE (List.mem_of_getElem? (i := 12) rfl) (by decide +kernel) (hts _ (List.mem_of_getElem? (i := 5) rfl)) (hts _ (List.mem_of_getElem? (i := 6) rfl)) (Or.inr (Or.inr rfl)) h_nS (fun w h => hts w (List.mem_cons_of_mem _ (List.mem_append_right _ (h)))) h_gS hS (hl.1.trans hml.symm) hT hlocks hP hK hD (Or.inr (Or.inr (⟨rfl, by unfold tCarry; rw [if_neg (by omega), if_neg (by omega), if_pos (by omega)]⟩))) dX1_carry_67 dX1_carry_70 dX1_carry_71 dX1_carry_73 dX1_carry_76 (by decide) (Nat.le_of_ble_eq_true rfl) (by decide) (by decide) (by decide) (by decide)
        · skip
          exact h_throw (cls := eA) (ik := 76) (is := 152) (ic := 80) hx hb hfl hown hTE (List.mem_of_getElem? (i := 11) rfl) (by decide +kernel) (hts _ (List.mem_of_getElem? (i := 3) rfl)) (hts _ (List.mem_of_getElem? (i := 4) rfl)) (Or.inr (Or.inl rfl)) h_nA (fun w h => hts w (List.mem_cons_of_mem _ (List.mem_append_left _ (List.mem_append_right _ (h))))) h_gA hS (hl.1.trans hml.symm) hT hlocks hP hK hD (Or.inr (Or.inl ⟨rfl, by unfold tCarry; rw [if_neg (by omega), if_pos (by omega)]⟩)) dX1_carry_45 dX1_carry_48 dX1_carry_49 dX1_carry_51 dX1_carry_54 (by decide) (Nat.le_of_ble_eq_true rfl) (by decide) (by decide) (by decide) (by decide)
  · skip
    exact h_throw (cls := eI) (ik := 65) (is := 67) (ic := 69) hx hb hfl hown hTE (List.mem_of_getElem? (i := 0) rfl) (by decide +kernel) (hts _ (List.mem_of_getElem? (i := 1) rfl)) (hts _ (List.mem_of_getElem? (i := 2) rfl)) (Or.inl rfl) h_nI (fun w h => hts w (List.mem_cons_of_mem _ (List.mem_append_left _ (List.mem_append_left _ (List.mem_append_right _ (h)))))) h_gI hS (hl.1.trans hml.symm) hT hlocks hP hK hD (Or.inl ⟨rfl, by unfold tCarry; rw [if_pos (by omega)]⟩) dX1_carry_7 dX1_carry_10 dX1_carry_11 dX1_carry_13 dX1_carry_16 (by decide) (Nat.le_of_ble_eq_true rfl) (by decide) (by decide) (by decide) (by decide)
set_option maxHeartbeats 4000000 in
set_option maxRecDepth 100000 in
theorem kX1_tilt (l : Launch) (D : va_G) (cI cZ : ClassId) (d : Nat → Nat) (σ κ : St)    : gMet l yX1_tilt wsX1_tilt ({ frames := 0, cells := 0, slots := 0, locals := 0 } : Room) D (tyXs cI cZ) (XW cI cZ d σ κ) [.ref (d 0)] xEx (fun _ => some (.int (iI (σ 9 1)))) (fun κ' => κ' = κ) (fun κ' => XW cI cZ d σ κ') := by
  refine g_start (cc := cX1_tilt) (maxL := 1) (ret := (some .int)) (by decide) rfl (Nat.le_of_ble_eq_true rfl) ?_
  intro p e s m args below meth c A ls H locs S hr hlocks hname hP hK hD hA hS hE hl
  have S0 := S
  obtain ⟨hx, hb, hml, hown, hts⟩ := S0
  have hl : lv_has ls 1 [(0, .ref (d 0))] := hl
  have hinX1 : ∀ w ∈ wsX10, w ∈ wsX1_tilt := by decide +kernel
  refine lv_aload_n hx hb dX1_tilt_0 rfl (lv_at hl 0 rfl) ?_
  refine va_get (D := D) (ci := 1) (v := .int (iI (σ 9 1))) (C := RX1) (T := TX1) (N := 13) hx hb hts hinX1 hown hK hP 0 rfl rfl 10 (by decide) (hts (.fieldLink RX1 42 "TwinOrchard" "carriedLeftMore" "I") (List.mem_of_getElem? (i := 1) rfl)) (fun _ h9 => h9) rfl dX1_tilt_1 ?_
  exact g_iret (wo := (fun κ' => XW cI cZ d σ κ')) (kr := (fun κ' => κ' = κ)) (rv := (fun _ => some (.int (iI (σ 9 1))))) hx hb hr hlocks κ rfl hP hK hD hS rfl rfl (Nat.le_of_ble_eq_true rfl) (Nat.le_of_ble_eq_true rfl) dX1_tilt_4
