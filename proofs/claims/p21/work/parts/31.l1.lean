set_option maxHeartbeats 4000000 in
set_option maxRecDepth 100000 in
theorem kL_below (l : Launch) (D : va_G) (cI cZ cT cU cQ : ClassId) (n0 : Int) (n1 : Int) (h1 : 0 < n1 ∧ n1 ≤ 2147483647) : gMet l yL_below wsL_below ({ frames := 0, cells := 0, slots := 0, locals := 0 } : Room) D (tyA cI cZ cT cU cQ) (([] : va_W)) [.int (iI (n0)), .int (iI (n1))] (fun _ => True) (fun _ => some (.int (iI (blw n0 n1)))) (fun κ' => True) (fun κ' => ([] : va_W)) := by
  refine g_start (cc := cL_below) (maxL := 2) (ret := (some .int)) (by decide) rfl (Nat.le_of_ble_eq_true rfl) ?_
  intro p e s m args below meth c A ls H locs S hr hlocks hname hP hK hD hA hS hE hl
  have S0 := S
  obtain ⟨hx, hb, hml, hown, hts⟩ := S0
  have hl : lv_has ls 2 [(0, .int (iI (n0))), (1, .int (iI (n1)))] := hl
  refine lv_iload_n hx hb dL_below_0 rfl (lv_at hl 0 rfl) ?_
  refine lv_ldc (v := iI (2147483647)) hx hb hown (hts _ (List.mem_of_getElem? (i := 1) rfl)) dL_below_1 ?_
  refine gi_and hx hb dL_below_3 ?_
  refine lv_iload_n hx hb dL_below_4 rfl (lv_at hl 1 rfl) ?_
  refine gi_rem hx hb (ian_nn n0) ⟨by omega, by omega⟩ dL_below_5 ?_
  have er : ((blw n0 n1 : Int)) = ((ian n0 2147483647) % n1) := by rfl
  exact g_iret (wo := (fun κ' => ([] : va_W))) (kr := (fun κ' => True)) (rv := (fun _ => some (.int (iI (blw n0 n1))))) hx hb hr hlocks (fun _ _ => 0) rfl hP hK hD hS trivial (by rw [er]) (Nat.le_of_ble_eq_true rfl) (Nat.le_of_ble_eq_true rfl) dL_below_6
set_option maxHeartbeats 4000000 in
set_option maxRecDepth 100000 in
theorem kL_cell (l : Launch) (D : va_G) (cI cZ cT cU cQ : ClassId) (b L : Nat) (xs : Nat → Int32) (hL : L ≤ 260) (k0 : Int) (hk : 0 ≤ k0 ∧ k0 ≤ 1000) : gMet l yL_cell wsL_cell ({ frames := 0, cells := 0, slots := 0, locals := 0 } : Room) D (tyA cI cZ cT cU cQ) (([] : va_W)) [.ref (b), .int (iI (k0))] (sEx b L xs []) (fun _ => some (.int (iI (cel L xs k0)))) (fun κ' => True) (fun κ' => ([] : va_W)) := by
  refine g_startC (cc := cL_cell) (maxL := 2) (ret := (some .int)) (by decide) rfl (Nat.le_of_ble_eq_true rfl) ?_
  intro p e s m args below meth c A ls H locs S hr hlocks hP hK hD hA hS hX9 hl
  have S0 := S
  obtain ⟨hx, hb, hml, hown, hts⟩ := S0
  have hl : lv_has ls 2 [(0, .ref (b)), (1, .int (iI (k0)))] := hl
  refine lv_iload_n hx hb dL_cell_0 rfl (lv_at hl 1 rfl) ?_
  refine lv_aload_n hx hb dL_cell_1 rfl (lv_at hl 0 rfl) ?_
  refine va_slen hx hb hX9.1 hX9.2.1 hX9.2.2 hS dL_cell_2 ?_
  rw [iI_ofNat]
  refine gi_icmp_ge (tgt := 12) hx hb dL_cell_3 (by decide) ⟨by omega, by omega⟩ ⟨by omega, by omega⟩ (fun c3 => ?_) (fun c3 => ?_)
  · skip
    refine lv_ldc (v := iI (790386105)) hx hb hown (hts _ (List.mem_of_getElem? (i := 1) rfl)) dL_cell_12 ?_
    refine lv_iload_n hx hb dL_cell_14 rfl (lv_at hl 1 rfl) ?_
    refine lv_iconst (v := iI (3)) hx hb dL_cell_15 rfl ?_
    refine gi_add hx hb dL_cell_16 ?_
    refine gi_mul hx hb dL_cell_17 ?_
    have er : ((cel L xs k0 : Int)) = (790386105 * (k0 + 3)) := by unfold cel; first | (rw [if_pos (by omega)]; done) | (rw [if_neg (by omega)]; done)
    exact g_iret (wo := (fun κ' => ([] : va_W))) (kr := (fun κ' => True)) (rv := (fun _ => some (.int (iI (cel L xs k0))))) hx hb hr hlocks (fun _ _ => 0) rfl hP hK hD hS trivial (by rw [er]) (Nat.le_of_ble_eq_true rfl) (Nat.le_of_ble_eq_true rfl) dL_cell_18
  · skip
    refine lv_aload_n hx hb dL_cell_6 rfl (lv_at hl 0 rfl) ?_
    refine lv_iload_n hx hb dL_cell_7 rfl (lv_at hl 1 rfl) ?_
    have e9 := iI_in (z := k0) (n := L) (by omega) (by omega) (by omega)
    refine va_sld hx hb hX9.1 hX9.2.1 hX9.2.2 hS e9.1 dL_cell_8 ?_
    rw [show (iI k0).toNatClampNeg = (k0).toNat by omega, iI_of (xs (k0).toNat)]
    refine lv_goto (tgt := 18) hx hb dL_cell_9 (by decide) ?_
    have er : ((cel L xs k0 : Int)) = ((xs (k0).toNat).toInt) := by unfold cel; first | (rw [if_pos (by omega)]; done) | (rw [if_neg (by omega)]; done)
    exact g_iret (wo := (fun κ' => ([] : va_W))) (kr := (fun κ' => True)) (rv := (fun _ => some (.int (iI (cel L xs k0))))) hx hb hr hlocks (fun _ _ => 0) rfl hP hK hD hS trivial (by rw [er]) (Nat.le_of_ble_eq_true rfl) (Nat.le_of_ble_eq_true rfl) dL_cell_18
set_option maxHeartbeats 4000000 in
set_option maxRecDepth 100000 in
theorem kL_act (l : Launch) (hfl : l.stackTraces = false) (D : va_G) (cI cZ cT cU cQ : ClassId) (d : Nat → Nat) (σ κ : St) (ds : Nat → Nat) (ι : Int → Int) (x0 : Int) (hwf : xWF σ) : gMet l yL_act wsL_act ({ frames := 7, cells := 3, slots := 14, locals := 119 } : Room) D (tyA cI cZ cT cU cQ) ((XW cI cZ d σ κ) ++ (SW cI cT cU ds σ ι)) [.ref (d 0), .ref (ds 0), .int (iI (x0))] (lEx ((XW cI cZ d σ κ) ++ (SW cI cT cU ds σ ι))) (fun _ => some (.int (iI (1)))) (fun κ' => True) (fun κ' => (XW cI cZ d (actS σ x0) κ') ++ (SW cI cT cU ds (actS σ x0) (κ' 2))) := by
  refine g_startL (cc := cL_act) (maxL := 11) (ret := (some .boolean)) (by decide) rfl (Nat.le_of_ble_eq_true rfl) ?_
  intro p e s m args below meth c A ls H locs S hr hlocks hP hK hD hA hS hTE hN hl
  have hE := hTE.1
  have S0 := S
  obtain ⟨hx, hb, hml, hown, hts⟩ := S0
  have hl : lv_has ls 11 [(0, .ref (d 0)), (1, .ref (ds 0)), (2, .int (iI (x0)))] := hl
  have hinX0 : ∀ w ∈ wsX00, w ∈ wsL_act := by decide +kernel
  have hinX1 : ∀ w ∈ wsX10, w ∈ wsL_act := by decide +kernel
  have hinX2 : ∀ w ∈ wsX20, w ∈ wsL_act := by decide +kernel
  have hinX3 : ∀ w ∈ wsX30, w ∈ wsL_act := by decide +kernel
  have kr := blw_in x0 (n := 5) (by decide)
  have kp := blw_in (shr x0 2) (n := 8) (by decide)
  have ko := blw_in (shr x0 4) (n := 6) (by decide)
  have kh := blw_in (shr x0 7) (n := 8) (by decide)
  have kv := blw_in (shr x0 3) (n := 9) (by decide)
  have kc9 := blw_in (shr x0 5) (n := 9) (by decide)
  have kc3 := blw_in (shr x0 5) (n := 3) (by decide)
  have k22 := blw_in x0 (n := 2) (by decide)
  have k2 := xWF_2 hwf (blw (shr x0 4) 6)
  refine lv_iload_n hx hb dL_act_0 rfl (lv_at hl 2 rfl) ?_
  refine lv_iconst (v := iI (5)) hx hb dL_act_1 rfl ?_
  have hPc : va_P D vwCl ((XW cI cZ d σ κ) ++ (SW cI cT cU ds σ ι)) H := hP
  have hDc : va_D A ((XW cI cZ d σ κ) ++ (SW cI cT cU ds σ ι)) := hD
  have hPc : va_P D vwCl ([] ++ ((XW cI cZ d σ κ) ++ (SW cI cT cU ds σ ι))) H := hPc
  have hDc : va_D A ([] ++ ((XW cI cZ d σ κ) ++ (SW cI cT cU ds σ ι))) := hDc
  refine g_call (va_runS (As := [.int (iI (x0)), .int (iI (5))]) (rest := []) S ((kL_below l D cI cZ cT cU cQ x0 5 (by first | assumption | omega)) H.size) (va_cwS 2 hts gL_act_L_below rfl rfl rfl (by decide +kernel) ⟨Nat.le_of_ble_eq_true rfl, Nat.le_of_ble_eq_true rfl⟩) (g_preS (As := [.int (iI (x0)), .int (iI (5))]) gEx_t hK [0, 1, 2, 3, 4] rfl hPc hDc (fun _ _ _ => trivial)) rfl rfl hl.1 rfl (lv_room (Nat.le_of_ble_eq_true rfl)) dL_act_2 ⟨Nat.le_of_ble_eq_true rfl, Nat.le_of_ble_eq_true rfl⟩) hPc hDc hS hA (fun κ9 H locs hk hP hD hS => ?_)
  obtain ⟨z1, ezz1⟩ : ∃ z, z = κ9 := ⟨_, rfl⟩
  subst ezz1
  have hP : va_P D vwCl ((XW cI cZ d σ κ) ++ (SW cI cT cU ds σ ι)) H := hP
  have hD : va_D A ((XW cI cZ d σ κ) ++ (SW cI cT cU ds σ ι)) := hD
  show W p l e ({ frames := 7, cells := 3, slots := 14, locals := 119 } : Room) s m args below meth c H locs 0 0 (MQ below (gQ D (tyA cI cZ cT cU cQ) (fun κ' => (XW cI cZ d (actS σ x0) κ') ++ (SW cI cT cU ds (actS σ x0) (κ' 2))) A (fun _ => some (.int (iI (1)))) (fun κ' => True)) args s 3 14 A) (F0 m 5 ls [.int (iI (blw x0 5))])
  refine lv_istore_n (lv' := [(3, .int (iI (blw x0 5))), (0, .ref (d 0)), (1, .ref (ds 0)), (2, .int (iI (x0)))]) hx hb dL_act_5 rfl hl (by decide) rfl (fun ls hl => ?_)
  refine lv_iload_n hx hb dL_act_6 rfl (lv_at hl 3 rfl) ?_
  refine lv_iconst (v := iI (2)) hx hb dL_act_7 rfl ?_
  refine gi_shr hx hb dL_act_8 ?_
  refine lv_bipush (v := iI (8)) hx hb dL_act_9 rfl ?_
  have hPc : va_P D vwCl ((XW cI cZ d σ κ) ++ (SW cI cT cU ds σ ι)) H := hP
  have hDc : va_D A ((XW cI cZ d σ κ) ++ (SW cI cT cU ds σ ι)) := hD
  have hPc : va_P D vwCl ([] ++ ((XW cI cZ d σ κ) ++ (SW cI cT cU ds σ ι))) H := hPc
  have hDc : va_D A ([] ++ ((XW cI cZ d σ κ) ++ (SW cI cT cU ds σ ι))) := hDc
  refine g_call (va_runS (As := [.int (iI (shr x0 2)), .int (iI (8))]) (rest := []) S ((kL_below l D cI cZ cT cU cQ (shr x0 2) 8 (by first | assumption | omega)) H.size) (va_cwS 2 hts gL_act_L_below rfl rfl rfl (by decide +kernel) ⟨Nat.le_of_ble_eq_true rfl, Nat.le_of_ble_eq_true rfl⟩) (g_preS (As := [.int (iI (shr x0 2)), .int (iI (8))]) gEx_t hK [0, 1, 2, 3, 4] rfl hPc hDc (fun _ _ _ => trivial)) rfl rfl hl.1 rfl (lv_room (Nat.le_of_ble_eq_true rfl)) dL_act_11 ⟨Nat.le_of_ble_eq_true rfl, Nat.le_of_ble_eq_true rfl⟩) hPc hDc hS hA (fun κ9 H locs hk hP hD hS => ?_)
  obtain ⟨z2, ezz2⟩ : ∃ z, z = κ9 := ⟨_, rfl⟩
  subst ezz2
  have hP : va_P D vwCl ((XW cI cZ d σ κ) ++ (SW cI cT cU ds σ ι)) H := hP
  have hD : va_D A ((XW cI cZ d σ κ) ++ (SW cI cT cU ds σ ι)) := hD
  show W p l e ({ frames := 7, cells := 3, slots := 14, locals := 119 } : Room) s m args below meth c H locs 0 0 (MQ below (gQ D (tyA cI cZ cT cU cQ) (fun κ' => (XW cI cZ d (actS σ x0) κ') ++ (SW cI cT cU ds (actS σ x0) (κ' 2))) A (fun _ => some (.int (iI (1)))) (fun κ' => True)) args s 3 14 A) (F0 m 14 ls [.int (iI (blw (shr x0 2) 8))])
  refine lv_istore (lv' := [(4, .int (iI (blw (shr x0 2) 8))), (3, .int (iI (blw x0 5))), (0, .ref (d 0)), (1, .ref (ds 0)), (2, .int (iI (x0)))]) hx hb dL_act_14 hl (by decide) rfl (fun ls hl => ?_)
  refine lv_iload_n hx hb dL_act_16 rfl (lv_at hl 4 rfl) ?_
  refine lv_iconst (v := iI (4)) hx hb dL_act_17 rfl ?_
  refine gi_shr hx hb dL_act_18 ?_
  refine lv_bipush (v := iI (6)) hx hb dL_act_19 rfl ?_
  have hPc : va_P D vwCl ((XW cI cZ d σ κ) ++ (SW cI cT cU ds σ ι)) H := hP
  have hDc : va_D A ((XW cI cZ d σ κ) ++ (SW cI cT cU ds σ ι)) := hD
  have hPc : va_P D vwCl ([] ++ ((XW cI cZ d σ κ) ++ (SW cI cT cU ds σ ι))) H := hPc
  have hDc : va_D A ([] ++ ((XW cI cZ d σ κ) ++ (SW cI cT cU ds σ ι))) := hDc
  refine g_call (va_runS (As := [.int (iI (shr x0 4)), .int (iI (6))]) (rest := []) S ((kL_below l D cI cZ cT cU cQ (shr x0 4) 6 (by first | assumption | omega)) H.size) (va_cwS 2 hts gL_act_L_below rfl rfl rfl (by decide +kernel) ⟨Nat.le_of_ble_eq_true rfl, Nat.le_of_ble_eq_true rfl⟩) (g_preS (As := [.int (iI (shr x0 4)), .int (iI (6))]) gEx_t hK [0, 1, 2, 3, 4] rfl hPc hDc (fun _ _ _ => trivial)) rfl rfl hl.1 rfl (lv_room (Nat.le_of_ble_eq_true rfl)) dL_act_21 ⟨Nat.le_of_ble_eq_true rfl, Nat.le_of_ble_eq_true rfl⟩) hPc hDc hS hA (fun κ9 H locs hk hP hD hS => ?_)
  obtain ⟨z3, ezz3⟩ : ∃ z, z = κ9 := ⟨_, rfl⟩
  subst ezz3
  have hP : va_P D vwCl ((XW cI cZ d σ κ) ++ (SW cI cT cU ds σ ι)) H := hP
  have hD : va_D A ((XW cI cZ d σ κ) ++ (SW cI cT cU ds σ ι)) := hD
  show W p l e ({ frames := 7, cells := 3, slots := 14, locals := 119 } : Room) s m args below meth c H locs 0 0 (MQ below (gQ D (tyA cI cZ cT cU cQ) (fun κ' => (XW cI cZ d (actS σ x0) κ') ++ (SW cI cT cU ds (actS σ x0) (κ' 2))) A (fun _ => some (.int (iI (1)))) (fun κ' => True)) args s 3 14 A) (F0 m 24 ls [.int (iI (blw (shr x0 4) 6))])
  refine lv_istore (lv' := [(5, .int (iI (blw (shr x0 4) 6))), (4, .int (iI (blw (shr x0 2) 8))), (3, .int (iI (blw x0 5))), (0, .ref (d 0)), (1, .ref (ds 0)), (2, .int (iI (x0)))]) hx hb dL_act_24 hl (by decide) rfl (fun ls hl => ?_)
  refine lv_iload_n hx hb dL_act_26 rfl (lv_at hl 5 rfl) ?_
  refine lv_bipush (v := iI (7)) hx hb dL_act_27 rfl ?_
  refine gi_shr hx hb dL_act_29 ?_
  refine lv_bipush (v := iI (8)) hx hb dL_act_30 rfl ?_
  have hPc : va_P D vwCl ((XW cI cZ d σ κ) ++ (SW cI cT cU ds σ ι)) H := hP
  have hDc : va_D A ((XW cI cZ d σ κ) ++ (SW cI cT cU ds σ ι)) := hD
  have hPc : va_P D vwCl ([] ++ ((XW cI cZ d σ κ) ++ (SW cI cT cU ds σ ι))) H := hPc
  have hDc : va_D A ([] ++ ((XW cI cZ d σ κ) ++ (SW cI cT cU ds σ ι))) := hDc
  refine g_call (va_runS (As := [.int (iI (shr x0 7)), .int (iI (8))]) (rest := []) S ((kL_below l D cI cZ cT cU cQ (shr x0 7) 8 (by first | assumption | omega)) H.size) (va_cwS 2 hts gL_act_L_below rfl rfl rfl (by decide +kernel) ⟨Nat.le_of_ble_eq_true rfl, Nat.le_of_ble_eq_true rfl⟩) (g_preS (As := [.int (iI (shr x0 7)), .int (iI (8))]) gEx_t hK [0, 1, 2, 3, 4] rfl hPc hDc (fun _ _ _ => trivial)) rfl rfl hl.1 rfl (lv_room (Nat.le_of_ble_eq_true rfl)) dL_act_32 ⟨Nat.le_of_ble_eq_true rfl, Nat.le_of_ble_eq_true rfl⟩) hPc hDc hS hA (fun κ9 H locs hk hP hD hS => ?_)
  obtain ⟨z4, ezz4⟩ : ∃ z, z = κ9 := ⟨_, rfl⟩
  subst ezz4
  have hP : va_P D vwCl ((XW cI cZ d σ κ) ++ (SW cI cT cU ds σ ι)) H := hP
  have hD : va_D A ((XW cI cZ d σ κ) ++ (SW cI cT cU ds σ ι)) := hD
  show W p l e ({ frames := 7, cells := 3, slots := 14, locals := 119 } : Room) s m args below meth c H locs 0 0 (MQ below (gQ D (tyA cI cZ cT cU cQ) (fun κ' => (XW cI cZ d (actS σ x0) κ') ++ (SW cI cT cU ds (actS σ x0) (κ' 2))) A (fun _ => some (.int (iI (1)))) (fun κ' => True)) args s 3 14 A) (F0 m 35 ls [.int (iI (blw (shr x0 7) 8))])
  rcases Int.decEq (blw (shr x0 7) 8) 0 with c35_0 | c35_0
  rotate_left
  · skip
    refine gi_tableIn (tgt := 76) hx hb dL_act_35 ⟨by omega, by omega⟩ 0 c35_0 (by decide) (by decide) rfl (by decide) ?_
    refine lv_iconst (v := iI (1)) hx hb dL_act_76 rfl ?_
    refine lv_iload_n hx hb dL_act_77 rfl (lv_at hl 5 rfl) ?_
    refine lv_iconst (v := iI (3)) hx hb dL_act_78 rfl ?_
    refine gi_shr hx hb dL_act_79 ?_
    refine lv_bipush (v := iI (9)) hx hb dL_act_80 rfl ?_
    have hPc : va_P D vwCl ((XW cI cZ d σ κ) ++ (SW cI cT cU ds σ ι)) H := hP
    have hDc : va_D A ((XW cI cZ d σ κ) ++ (SW cI cT cU ds σ ι)) := hD
    have hPc : va_P D vwCl ([] ++ ((XW cI cZ d σ κ) ++ (SW cI cT cU ds σ ι))) H := hPc
    have hDc : va_D A ([] ++ ((XW cI cZ d σ κ) ++ (SW cI cT cU ds σ ι))) := hDc
    refine g_call (va_runS (As := [.int (iI (shr x0 3)), .int (iI (9))]) (rest := [.int (iI (1))]) S ((kL_below l D cI cZ cT cU cQ (shr x0 3) 9 (by first | assumption | omega)) H.size) (va_cwS 2 hts gL_act_L_below rfl rfl rfl (by decide +kernel) ⟨Nat.le_of_ble_eq_true rfl, Nat.le_of_ble_eq_true rfl⟩) (g_preS (As := [.int (iI (shr x0 3)), .int (iI (9))]) gEx_t hK [0, 1, 2, 3, 4] rfl hPc hDc (fun _ _ _ => trivial)) rfl rfl hl.1 rfl (lv_room (Nat.le_of_ble_eq_true rfl)) dL_act_82 ⟨Nat.le_of_ble_eq_true rfl, Nat.le_of_ble_eq_true rfl⟩) hPc hDc hS hA (fun κ9 H locs hk hP hD hS => ?_)
    obtain ⟨z5, ezz5⟩ : ∃ z, z = κ9 := ⟨_, rfl⟩
    subst ezz5
    have hP : va_P D vwCl ((XW cI cZ d σ κ) ++ (SW cI cT cU ds σ ι)) H := hP
    have hD : va_D A ((XW cI cZ d σ κ) ++ (SW cI cT cU ds σ ι)) := hD
    show W p l e ({ frames := 7, cells := 3, slots := 14, locals := 119 } : Room) s m args below meth c H locs 0 0 (MQ below (gQ D (tyA cI cZ cT cU cQ) (fun κ' => (XW cI cZ d (actS σ x0) κ') ++ (SW cI cT cU ds (actS σ x0) (κ' 2))) A (fun _ => some (.int (iI (1)))) (fun κ' => True)) args s 3 14 A) (F0 m 85 ls [.int (iI (blw (shr x0 3) 9)), .int (iI (1))])
    refine gi_add hx hb dL_act_85 ?_
    refine lv_istore (lv' := [(6, .int (iI (1 + (blw (shr x0 3) 9)))), (5, .int (iI (blw (shr x0 4) 6))), (4, .int (iI (blw (shr x0 2) 8))), (3, .int (iI (blw x0 5))), (0, .ref (d 0)), (1, .ref (ds 0)), (2, .int (iI (x0)))]) hx hb dL_act_86 hl (by decide) rfl (fun ls hl => ?_)
    refine lv_aload_n hx hb dL_act_88 rfl (lv_at hl 4 rfl) ?_
    refine lv_iload_n hx hb dL_act_89 rfl (lv_at hl 3 rfl) ?_
    refine lv_iload hx hb dL_act_90 (lv_at hl 2 rfl) ?_
    refine lv_iload hx hb dL_act_92 (lv_at hl 1 rfl) ?_
    refine lv_iload hx hb dL_act_94 (lv_at hl 0 rfl) ?_
    have hPc : va_P D vwCl ((XW cI cZ d σ κ) ++ (SW cI cT cU ds σ ι)) H := hP
    have hDc : va_D A ((XW cI cZ d σ κ) ++ (SW cI cT cU ds σ ι)) := hD
    refine h_call0 (vx_runV (As := [.int (iI (blw x0 5)), .int (iI (blw (shr x0 2) 8)), .int (iI (blw (shr x0 4) 6)), .int (iI (1 + (blw (shr x0 3) 9)))]) (rest := []) S ((kX1_plant l hfl D cI cZ d σ κ (blw x0 5) (blw (shr x0 2) 8) (blw (shr x0 4) 6) (1 + (blw (shr x0 3) 9)) (by first | assumption | omega) (by first | assumption | omega) (by first | assumption | omega) (by first | assumption | omega) (by first | assumption | omega) (by first | assumption | omega) (by first | assumption | omega) (by first | assumption | omega) (by first | assumption | omega)) H.size) (cwV 4 hts gL_act_X1_plant rfl rfl rfl (by decide +kernel) ⟨Nat.le_of_ble_eq_true rfl, Nat.le_of_ble_eq_true rfl⟩) (h_preV hK [0, 1] rfl hPc hDc hS hA hTE (q0 := 0) (ci := 1) rfl rfl rfl) rfl rfl hl.1 rfl (lv_room (Nat.le_of_ble_eq_true rfl)) dL_act_96 ⟨Nat.le_of_ble_eq_true rfl, Nat.le_of_ble_eq_true rfl⟩) hPc hDc hS hA (fun E h => (by have h0 : (tPlant (blw x0 5) (blw (shr x0 2) 8) (blw (shr x0 4) 6) (1 + (blw (shr x0 3) 9))) = 0 := (by unfold tPlant; rw [if_neg (by omega), if_neg (by omega)]); rcases h with ⟨_, h⟩ | ⟨_, h⟩ <;> omega)) (fun κ9 H locs hk hP hD hS => ?_)
    obtain ⟨z6, ezz6⟩ : ∃ z, z = κ9 := ⟨_, rfl⟩
    subst ezz6
    have hP : va_P D vwCl ((XW cI cZ d (xPlant (xPlant σ ((blw x0 5) * 8 + (blw (shr x0 2) 8)) (blw (shr x0 4) 6) (1 + (blw (shr x0 3) 9))) (mir ((blw x0 5) * 8 + (blw (shr x0 2) 8))) (blw (shr x0 4) 6) (1 + (blw (shr x0 3) 9))) z6) ++ (SW cI cT cU ds σ ι)) H := hP
    have hD : va_D A ((XW cI cZ d (xPlant (xPlant σ ((blw x0 5) * 8 + (blw (shr x0 2) 8)) (blw (shr x0 4) 6) (1 + (blw (shr x0 3) 9))) (mir ((blw x0 5) * 8 + (blw (shr x0 2) 8))) (blw (shr x0 4) 6) (1 + (blw (shr x0 3) 9))) z6) ++ (SW cI cT cU ds σ ι)) := hD
    show W p l e ({ frames := 7, cells := 3, slots := 14, locals := 119 } : Room) s m args below meth c H locs 1 6 (MQ below (gQ D (tyA cI cZ cT cU cQ) (fun κ' => (XW cI cZ d (actS σ x0) κ') ++ (SW cI cT cU ds (actS σ x0) (κ' 2))) A (fun _ => some (.int (iI (1)))) (fun κ' => True)) args s 3 14 A) (F0 m 99 ls [.int (iI (who (plA σ ((blw x0 5) * 8 + (blw (shr x0 2) 8))) (plA (xPlant σ ((blw x0 5) * 8 + (blw (shr x0 2) 8)) (blw (shr x0 4) 6) (1 + (blw (shr x0 3) 9))) (mir ((blw x0 5) * 8 + (blw (shr x0 2) 8))))))])
    refine lv_aload_n hx hb dL_act_99 rfl (lv_at hl 5 rfl) ?_
    refine lv_iconst (v := iI (0)) hx hb dL_act_100 rfl ?_
    refine lv_iload_n hx hb dL_act_101 rfl (lv_at hl 3 rfl) ?_
    refine lv_iload hx hb dL_act_102 (lv_at hl 2 rfl) ?_
    refine lv_iload hx hb dL_act_104 (lv_at hl 1 rfl) ?_
    refine lv_iload hx hb dL_act_106 (lv_at hl 0 rfl) ?_
    have hp9 : ((SW cI cT cU ds σ ι) ++ (XW cI cZ d (xPlant (xPlant σ ((blw x0 5) * 8 + (blw (shr x0 2) 8)) (blw (shr x0 4) 6) (1 + (blw (shr x0 3) 9))) (mir ((blw x0 5) * 8 + (blw (shr x0 2) 8))) (blw (shr x0 4) 6) (1 + (blw (shr x0 3) 9))) z6) : va_W).Perm ((XW cI cZ d (xPlant (xPlant σ ((blw x0 5) * 8 + (blw (shr x0 2) 8)) (blw (shr x0 4) 6) (1 + (blw (shr x0 3) 9))) (mir ((blw x0 5) * 8 + (blw (shr x0 2) 8))) (blw (shr x0 4) 6) (1 + (blw (shr x0 3) 9))) z6) ++ (SW cI cT cU ds σ ι) : va_W) := List.perm_append_comm
    have hPc : va_P D vwCl ((SW cI cT cU ds σ ι) ++ (XW cI cZ d (xPlant (xPlant σ ((blw x0 5) * 8 + (blw (shr x0 2) 8)) (blw (shr x0 4) 6) (1 + (blw (shr x0 3) 9))) (mir ((blw x0 5) * 8 + (blw (shr x0 2) 8))) (blw (shr x0 4) 6) (1 + (blw (shr x0 3) 9))) z6)) H := va_mem hP (fun q9 hq9 => hp9.mem_iff.mp hq9)
    have hDc : va_D A ((SW cI cT cU ds σ ι) ++ (XW cI cZ d (xPlant (xPlant σ ((blw x0 5) * 8 + (blw (shr x0 2) 8)) (blw (shr x0 4) 6) (1 + (blw (shr x0 3) 9))) (mir ((blw x0 5) * 8 + (blw (shr x0 2) 8))) (blw (shr x0 4) 6) (1 + (blw (shr x0 3) 9))) z6)) := va_Dp hD hp9
    refine g_call (va_runV (As := [.int (iI (0)), .int (iI (blw x0 5)), .int (iI (blw (shr x0 2) 8)), .int (iI (blw (shr x0 4) 6)), .int (iI (1 + (blw (shr x0 3) 9)))]) (rest := [.int (iI (who (plA σ ((blw x0 5) * 8 + (blw (shr x0 2) 8))) (plA (xPlant σ ((blw x0 5) * 8 + (blw (shr x0 2) 8)) (blw (shr x0 4) 6) (1 + (blw (shr x0 3) 9))) (mir ((blw x0 5) * 8 + (blw (shr x0 2) 8))))))]) S ((kX2_work_0 l D cI cZ cT cU cQ ds σ ι (blw x0 5) (blw (shr x0 2) 8) (blw (shr x0 4) 6) (1 + (blw (shr x0 3) 9)) (by first | assumption | omega) (by first | assumption | omega) (by first | assumption | omega) (by first | assumption | omega) (by first | assumption | omega)) H.size) (cwV 5 hts gL_act_X2_work rfl rfl rfl (by decide +kernel) ⟨Nat.le_of_ble_eq_true rfl, Nat.le_of_ble_eq_true rfl⟩) (g_preV nst_g hK [0, 1, 2, 3, 4] rfl hPc hDc (fun U _ hW => nst_w hW hN) (q0 := 0) (ci := 2) rfl rfl rfl) rfl rfl hl.1 rfl (lv_room (Nat.le_of_ble_eq_true rfl)) dL_act_108 ⟨Nat.le_of_ble_eq_true rfl, Nat.le_of_ble_eq_true rfl⟩) hPc hDc hS hA (fun κ9 H locs hk hP hD hS => ?_)
    obtain ⟨z7, ezz7⟩ : ∃ z, z = κ9 := ⟨_, rfl⟩
    subst ezz7
    have hP : va_P D vwCl ((SW cI cT cU ds (xPlant (xPlant σ ((blw x0 5) * 8 + (blw (shr x0 2) 8)) (blw (shr x0 4) 6) (1 + (blw (shr x0 3) 9))) (mir ((blw x0 5) * 8 + (blw (shr x0 2) 8))) (blw (shr x0 4) 6) (1 + (blw (shr x0 3) 9))) (z7 2)) ++ (XW cI cZ d (xPlant (xPlant σ ((blw x0 5) * 8 + (blw (shr x0 2) 8)) (blw (shr x0 4) 6) (1 + (blw (shr x0 3) 9))) (mir ((blw x0 5) * 8 + (blw (shr x0 2) 8))) (blw (shr x0 4) 6) (1 + (blw (shr x0 3) 9))) z6)) H := hP
    have hD : va_D A ((SW cI cT cU ds (xPlant (xPlant σ ((blw x0 5) * 8 + (blw (shr x0 2) 8)) (blw (shr x0 4) 6) (1 + (blw (shr x0 3) 9))) (mir ((blw x0 5) * 8 + (blw (shr x0 2) 8))) (blw (shr x0 4) 6) (1 + (blw (shr x0 3) 9))) (z7 2)) ++ (XW cI cZ d (xPlant (xPlant σ ((blw x0 5) * 8 + (blw (shr x0 2) 8)) (blw (shr x0 4) 6) (1 + (blw (shr x0 3) 9))) (mir ((blw x0 5) * 8 + (blw (shr x0 2) 8))) (blw (shr x0 4) 6) (1 + (blw (shr x0 3) 9))) z6)) := hD
    have hp9 : ((XW cI cZ d (xPlant (xPlant σ ((blw x0 5) * 8 + (blw (shr x0 2) 8)) (blw (shr x0 4) 6) (1 + (blw (shr x0 3) 9))) (mir ((blw x0 5) * 8 + (blw (shr x0 2) 8))) (blw (shr x0 4) 6) (1 + (blw (shr x0 3) 9))) z6) ++ (SW cI cT cU ds (xPlant (xPlant σ ((blw x0 5) * 8 + (blw (shr x0 2) 8)) (blw (shr x0 4) 6) (1 + (blw (shr x0 3) 9))) (mir ((blw x0 5) * 8 + (blw (shr x0 2) 8))) (blw (shr x0 4) 6) (1 + (blw (shr x0 3) 9))) (z7 2)) : va_W).Perm ((SW cI cT cU ds (xPlant (xPlant σ ((blw x0 5) * 8 + (blw (shr x0 2) 8)) (blw (shr x0 4) 6) (1 + (blw (shr x0 3) 9))) (mir ((blw x0 5) * 8 + (blw (shr x0 2) 8))) (blw (shr x0 4) 6) (1 + (blw (shr x0 3) 9))) (z7 2)) ++ (XW cI cZ d (xPlant (xPlant σ ((blw x0 5) * 8 + (blw (shr x0 2) 8)) (blw (shr x0 4) 6) (1 + (blw (shr x0 3) 9))) (mir ((blw x0 5) * 8 + (blw (shr x0 2) 8))) (blw (shr x0 4) 6) (1 + (blw (shr x0 3) 9))) z6) : va_W) := List.perm_append_comm
    have hP : va_P D vwCl ((XW cI cZ d (xPlant (xPlant σ ((blw x0 5) * 8 + (blw (shr x0 2) 8)) (blw (shr x0 4) 6) (1 + (blw (shr x0 3) 9))) (mir ((blw x0 5) * 8 + (blw (shr x0 2) 8))) (blw (shr x0 4) 6) (1 + (blw (shr x0 3) 9))) z6) ++ (SW cI cT cU ds (xPlant (xPlant σ ((blw x0 5) * 8 + (blw (shr x0 2) 8)) (blw (shr x0 4) 6) (1 + (blw (shr x0 3) 9))) (mir ((blw x0 5) * 8 + (blw (shr x0 2) 8))) (blw (shr x0 4) 6) (1 + (blw (shr x0 3) 9))) (z7 2))) H := va_mem hP (fun q9 hq9 => hp9.mem_iff.mp hq9)
    have hD : va_D A ((XW cI cZ d (xPlant (xPlant σ ((blw x0 5) * 8 + (blw (shr x0 2) 8)) (blw (shr x0 4) 6) (1 + (blw (shr x0 3) 9))) (mir ((blw x0 5) * 8 + (blw (shr x0 2) 8))) (blw (shr x0 4) 6) (1 + (blw (shr x0 3) 9))) z6) ++ (SW cI cT cU ds (xPlant (xPlant σ ((blw x0 5) * 8 + (blw (shr x0 2) 8)) (blw (shr x0 4) 6) (1 + (blw (shr x0 3) 9))) (mir ((blw x0 5) * 8 + (blw (shr x0 2) 8))) (blw (shr x0 4) 6) (1 + (blw (shr x0 3) 9))) (z7 2))) := va_Dp hD hp9
    show W p l e ({ frames := 7, cells := 3, slots := 14, locals := 119 } : Room) s m args below meth c H locs 3 14 (MQ below (gQ D (tyA cI cZ cT cU cQ) (fun κ' => (XW cI cZ d (actS σ x0) κ') ++ (SW cI cT cU ds (actS σ x0) (κ' 2))) A (fun _ => some (.int (iI (1)))) (fun κ' => True)) args s 3 14 A) (F0 m 111 ls [.int (iI (who (plA σ ((blw x0 5) * 8 + (blw (shr x0 2) 8))) (plA (xPlant σ ((blw x0 5) * 8 + (blw (shr x0 2) 8)) (blw (shr x0 4) 6) (1 + (blw (shr x0 3) 9))) (mir ((blw x0 5) * 8 + (blw (shr x0 2) 8)))))), .int (iI (who (plA σ ((blw x0 5) * 8 + (blw (shr x0 2) 8))) (plA (xPlant σ ((blw x0 5) * 8 + (blw (shr x0 2) 8)) (blw (shr x0 4) 6) (1 + (blw (shr x0 3) 9))) (mir ((blw x0 5) * 8 + (blw (shr x0 2) 8))))))])
    refine gi_icmp_ne (tgt := 118) hx hb dL_act_111 (by decide) (whoR _ _) (whoR _ _) (fun c111 => ?_) (fun c111 => ?_)
    · skip
      exact absurd rfl c111
    · skip
      refine lv_iconst (v := iI (1)) hx hb dL_act_114 rfl ?_
      refine lv_goto (tgt := 119) hx hb dL_act_115 (by decide) ?_
      have esx : (actS σ x0) = (xPlant (xPlant σ ((blw x0 5) * 8 + (blw (shr x0 2) 8)) (blw (shr x0 4) 6) (1 + (blw (shr x0 3) 9))) (mir ((blw x0 5) * 8 + (blw (shr x0 2) 8))) (blw (shr x0 4) 6) (1 + (blw (shr x0 3) 9))) := by unfold actS; rw [if_pos (show acH x0 < 3 by unfold acH; omega)]; rfl
      have hP : va_P D vwCl ((XW cI cZ d (actS σ x0) z6) ++ (SW cI cT cU ds (actS σ x0) (z7 2))) H := by rw [esx]; exact hP
      have hD : va_D A ((XW cI cZ d (actS σ x0) z6) ++ (SW cI cT cU ds (actS σ x0) (z7 2))) := by rw [esx]; exact hD
      exact g_iret (wo := (fun κ' => (XW cI cZ d (actS σ x0) κ') ++ (SW cI cT cU ds (actS σ x0) (κ' 2)))) (kr := (fun κ' => True)) (rv := (fun _ => some (.int (iI (1))))) hx hb hr hlocks (fun a => if a = 2 then z7 2 else z6 a) (nar_z (Or.inr rfl)) hP hK hD hS trivial rfl (Nat.le_of_ble_eq_true rfl) (Nat.le_of_ble_eq_true rfl) dL_act_119
  rcases Int.decEq (blw (shr x0 7) 8) 1 with c35_1 | c35_1
  rotate_left
  · skip
    refine gi_tableIn (tgt := 76) hx hb dL_act_35 ⟨by omega, by omega⟩ 1 c35_1 (by decide) (by decide) rfl (by decide) ?_
    refine lv_iconst (v := iI (1)) hx hb dL_act_76 rfl ?_
    refine lv_iload_n hx hb dL_act_77 rfl (lv_at hl 5 rfl) ?_
    refine lv_iconst (v := iI (3)) hx hb dL_act_78 rfl ?_
    refine gi_shr hx hb dL_act_79 ?_
    refine lv_bipush (v := iI (9)) hx hb dL_act_80 rfl ?_
    have hPc : va_P D vwCl ((XW cI cZ d σ κ) ++ (SW cI cT cU ds σ ι)) H := hP
    have hDc : va_D A ((XW cI cZ d σ κ) ++ (SW cI cT cU ds σ ι)) := hD
    have hPc : va_P D vwCl ([] ++ ((XW cI cZ d σ κ) ++ (SW cI cT cU ds σ ι))) H := hPc
    have hDc : va_D A ([] ++ ((XW cI cZ d σ κ) ++ (SW cI cT cU ds σ ι))) := hDc
    refine g_call (va_runS (As := [.int (iI (shr x0 3)), .int (iI (9))]) (rest := [.int (iI (1))]) S ((kL_below l D cI cZ cT cU cQ (shr x0 3) 9 (by first | assumption | omega)) H.size) (va_cwS 2 hts gL_act_L_below rfl rfl rfl (by decide +kernel) ⟨Nat.le_of_ble_eq_true rfl, Nat.le_of_ble_eq_true rfl⟩) (g_preS (As := [.int (iI (shr x0 3)), .int (iI (9))]) gEx_t hK [0, 1, 2, 3, 4] rfl hPc hDc (fun _ _ _ => trivial)) rfl rfl hl.1 rfl (lv_room (Nat.le_of_ble_eq_true rfl)) dL_act_82 ⟨Nat.le_of_ble_eq_true rfl, Nat.le_of_ble_eq_true rfl⟩) hPc hDc hS hA (fun κ9 H locs hk hP hD hS => ?_)
    obtain ⟨z8, ezz8⟩ : ∃ z, z = κ9 := ⟨_, rfl⟩
    subst ezz8
    have hP : va_P D vwCl ((XW cI cZ d σ κ) ++ (SW cI cT cU ds σ ι)) H := hP
    have hD : va_D A ((XW cI cZ d σ κ) ++ (SW cI cT cU ds σ ι)) := hD
    show W p l e ({ frames := 7, cells := 3, slots := 14, locals := 119 } : Room) s m args below meth c H locs 0 0 (MQ below (gQ D (tyA cI cZ cT cU cQ) (fun κ' => (XW cI cZ d (actS σ x0) κ') ++ (SW cI cT cU ds (actS σ x0) (κ' 2))) A (fun _ => some (.int (iI (1)))) (fun κ' => True)) args s 3 14 A) (F0 m 85 ls [.int (iI (blw (shr x0 3) 9)), .int (iI (1))])
    refine gi_add hx hb dL_act_85 ?_
    refine lv_istore (lv' := [(6, .int (iI (1 + (blw (shr x0 3) 9)))), (5, .int (iI (blw (shr x0 4) 6))), (4, .int (iI (blw (shr x0 2) 8))), (3, .int (iI (blw x0 5))), (0, .ref (d 0)), (1, .ref (ds 0)), (2, .int (iI (x0)))]) hx hb dL_act_86 hl (by decide) rfl (fun ls hl => ?_)
    refine lv_aload_n hx hb dL_act_88 rfl (lv_at hl 4 rfl) ?_
    refine lv_iload_n hx hb dL_act_89 rfl (lv_at hl 3 rfl) ?_
    refine lv_iload hx hb dL_act_90 (lv_at hl 2 rfl) ?_
    refine lv_iload hx hb dL_act_92 (lv_at hl 1 rfl) ?_
    refine lv_iload hx hb dL_act_94 (lv_at hl 0 rfl) ?_
    have hPc : va_P D vwCl ((XW cI cZ d σ κ) ++ (SW cI cT cU ds σ ι)) H := hP
    have hDc : va_D A ((XW cI cZ d σ κ) ++ (SW cI cT cU ds σ ι)) := hD
    refine h_call0 (vx_runV (As := [.int (iI (blw x0 5)), .int (iI (blw (shr x0 2) 8)), .int (iI (blw (shr x0 4) 6)), .int (iI (1 + (blw (shr x0 3) 9)))]) (rest := []) S ((kX1_plant l hfl D cI cZ d σ κ (blw x0 5) (blw (shr x0 2) 8) (blw (shr x0 4) 6) (1 + (blw (shr x0 3) 9)) (by first | assumption | omega) (by first | assumption | omega) (by first | assumption | omega) (by first | assumption | omega) (by first | assumption | omega) (by first | assumption | omega) (by first | assumption | omega) (by first | assumption | omega) (by first | assumption | omega)) H.size) (cwV 4 hts gL_act_X1_plant rfl rfl rfl (by decide +kernel) ⟨Nat.le_of_ble_eq_true rfl, Nat.le_of_ble_eq_true rfl⟩) (h_preV hK [0, 1] rfl hPc hDc hS hA hTE (q0 := 0) (ci := 1) rfl rfl rfl) rfl rfl hl.1 rfl (lv_room (Nat.le_of_ble_eq_true rfl)) dL_act_96 ⟨Nat.le_of_ble_eq_true rfl, Nat.le_of_ble_eq_true rfl⟩) hPc hDc hS hA (fun E h => (by have h0 : (tPlant (blw x0 5) (blw (shr x0 2) 8) (blw (shr x0 4) 6) (1 + (blw (shr x0 3) 9))) = 0 := (by unfold tPlant; rw [if_neg (by omega), if_neg (by omega)]); rcases h with ⟨_, h⟩ | ⟨_, h⟩ <;> omega)) (fun κ9 H locs hk hP hD hS => ?_)
    obtain ⟨z9, ezz9⟩ : ∃ z, z = κ9 := ⟨_, rfl⟩
    subst ezz9
    have hP : va_P D vwCl ((XW cI cZ d (xPlant (xPlant σ ((blw x0 5) * 8 + (blw (shr x0 2) 8)) (blw (shr x0 4) 6) (1 + (blw (shr x0 3) 9))) (mir ((blw x0 5) * 8 + (blw (shr x0 2) 8))) (blw (shr x0 4) 6) (1 + (blw (shr x0 3) 9))) z9) ++ (SW cI cT cU ds σ ι)) H := hP
    have hD : va_D A ((XW cI cZ d (xPlant (xPlant σ ((blw x0 5) * 8 + (blw (shr x0 2) 8)) (blw (shr x0 4) 6) (1 + (blw (shr x0 3) 9))) (mir ((blw x0 5) * 8 + (blw (shr x0 2) 8))) (blw (shr x0 4) 6) (1 + (blw (shr x0 3) 9))) z9) ++ (SW cI cT cU ds σ ι)) := hD
    show W p l e ({ frames := 7, cells := 3, slots := 14, locals := 119 } : Room) s m args below meth c H locs 1 6 (MQ below (gQ D (tyA cI cZ cT cU cQ) (fun κ' => (XW cI cZ d (actS σ x0) κ') ++ (SW cI cT cU ds (actS σ x0) (κ' 2))) A (fun _ => some (.int (iI (1)))) (fun κ' => True)) args s 3 14 A) (F0 m 99 ls [.int (iI (who (plA σ ((blw x0 5) * 8 + (blw (shr x0 2) 8))) (plA (xPlant σ ((blw x0 5) * 8 + (blw (shr x0 2) 8)) (blw (shr x0 4) 6) (1 + (blw (shr x0 3) 9))) (mir ((blw x0 5) * 8 + (blw (shr x0 2) 8))))))])
    refine lv_aload_n hx hb dL_act_99 rfl (lv_at hl 5 rfl) ?_
    refine lv_iconst (v := iI (0)) hx hb dL_act_100 rfl ?_
    refine lv_iload_n hx hb dL_act_101 rfl (lv_at hl 3 rfl) ?_
    refine lv_iload hx hb dL_act_102 (lv_at hl 2 rfl) ?_
    refine lv_iload hx hb dL_act_104 (lv_at hl 1 rfl) ?_
    refine lv_iload hx hb dL_act_106 (lv_at hl 0 rfl) ?_
    have hp9 : ((SW cI cT cU ds σ ι) ++ (XW cI cZ d (xPlant (xPlant σ ((blw x0 5) * 8 + (blw (shr x0 2) 8)) (blw (shr x0 4) 6) (1 + (blw (shr x0 3) 9))) (mir ((blw x0 5) * 8 + (blw (shr x0 2) 8))) (blw (shr x0 4) 6) (1 + (blw (shr x0 3) 9))) z9) : va_W).Perm ((XW cI cZ d (xPlant (xPlant σ ((blw x0 5) * 8 + (blw (shr x0 2) 8)) (blw (shr x0 4) 6) (1 + (blw (shr x0 3) 9))) (mir ((blw x0 5) * 8 + (blw (shr x0 2) 8))) (blw (shr x0 4) 6) (1 + (blw (shr x0 3) 9))) z9) ++ (SW cI cT cU ds σ ι) : va_W) := List.perm_append_comm
    have hPc : va_P D vwCl ((SW cI cT cU ds σ ι) ++ (XW cI cZ d (xPlant (xPlant σ ((blw x0 5) * 8 + (blw (shr x0 2) 8)) (blw (shr x0 4) 6) (1 + (blw (shr x0 3) 9))) (mir ((blw x0 5) * 8 + (blw (shr x0 2) 8))) (blw (shr x0 4) 6) (1 + (blw (shr x0 3) 9))) z9)) H := va_mem hP (fun q9 hq9 => hp9.mem_iff.mp hq9)
    have hDc : va_D A ((SW cI cT cU ds σ ι) ++ (XW cI cZ d (xPlant (xPlant σ ((blw x0 5) * 8 + (blw (shr x0 2) 8)) (blw (shr x0 4) 6) (1 + (blw (shr x0 3) 9))) (mir ((blw x0 5) * 8 + (blw (shr x0 2) 8))) (blw (shr x0 4) 6) (1 + (blw (shr x0 3) 9))) z9)) := va_Dp hD hp9
    refine g_call (va_runV (As := [.int (iI (0)), .int (iI (blw x0 5)), .int (iI (blw (shr x0 2) 8)), .int (iI (blw (shr x0 4) 6)), .int (iI (1 + (blw (shr x0 3) 9)))]) (rest := [.int (iI (who (plA σ ((blw x0 5) * 8 + (blw (shr x0 2) 8))) (plA (xPlant σ ((blw x0 5) * 8 + (blw (shr x0 2) 8)) (blw (shr x0 4) 6) (1 + (blw (shr x0 3) 9))) (mir ((blw x0 5) * 8 + (blw (shr x0 2) 8))))))]) S ((kX2_work_0 l D cI cZ cT cU cQ ds σ ι (blw x0 5) (blw (shr x0 2) 8) (blw (shr x0 4) 6) (1 + (blw (shr x0 3) 9)) (by first | assumption | omega) (by first | assumption | omega) (by first | assumption | omega) (by first | assumption | omega) (by first | assumption | omega)) H.size) (cwV 5 hts gL_act_X2_work rfl rfl rfl (by decide +kernel) ⟨Nat.le_of_ble_eq_true rfl, Nat.le_of_ble_eq_true rfl⟩) (g_preV nst_g hK [0, 1, 2, 3, 4] rfl hPc hDc (fun U _ hW => nst_w hW hN) (q0 := 0) (ci := 2) rfl rfl rfl) rfl rfl hl.1 rfl (lv_room (Nat.le_of_ble_eq_true rfl)) dL_act_108 ⟨Nat.le_of_ble_eq_true rfl, Nat.le_of_ble_eq_true rfl⟩) hPc hDc hS hA (fun κ9 H locs hk hP hD hS => ?_)
    obtain ⟨z10, ezz10⟩ : ∃ z, z = κ9 := ⟨_, rfl⟩
    subst ezz10
    have hP : va_P D vwCl ((SW cI cT cU ds (xPlant (xPlant σ ((blw x0 5) * 8 + (blw (shr x0 2) 8)) (blw (shr x0 4) 6) (1 + (blw (shr x0 3) 9))) (mir ((blw x0 5) * 8 + (blw (shr x0 2) 8))) (blw (shr x0 4) 6) (1 + (blw (shr x0 3) 9))) (z10 2)) ++ (XW cI cZ d (xPlant (xPlant σ ((blw x0 5) * 8 + (blw (shr x0 2) 8)) (blw (shr x0 4) 6) (1 + (blw (shr x0 3) 9))) (mir ((blw x0 5) * 8 + (blw (shr x0 2) 8))) (blw (shr x0 4) 6) (1 + (blw (shr x0 3) 9))) z9)) H := hP
    have hD : va_D A ((SW cI cT cU ds (xPlant (xPlant σ ((blw x0 5) * 8 + (blw (shr x0 2) 8)) (blw (shr x0 4) 6) (1 + (blw (shr x0 3) 9))) (mir ((blw x0 5) * 8 + (blw (shr x0 2) 8))) (blw (shr x0 4) 6) (1 + (blw (shr x0 3) 9))) (z10 2)) ++ (XW cI cZ d (xPlant (xPlant σ ((blw x0 5) * 8 + (blw (shr x0 2) 8)) (blw (shr x0 4) 6) (1 + (blw (shr x0 3) 9))) (mir ((blw x0 5) * 8 + (blw (shr x0 2) 8))) (blw (shr x0 4) 6) (1 + (blw (shr x0 3) 9))) z9)) := hD
    have hp9 : ((XW cI cZ d (xPlant (xPlant σ ((blw x0 5) * 8 + (blw (shr x0 2) 8)) (blw (shr x0 4) 6) (1 + (blw (shr x0 3) 9))) (mir ((blw x0 5) * 8 + (blw (shr x0 2) 8))) (blw (shr x0 4) 6) (1 + (blw (shr x0 3) 9))) z9) ++ (SW cI cT cU ds (xPlant (xPlant σ ((blw x0 5) * 8 + (blw (shr x0 2) 8)) (blw (shr x0 4) 6) (1 + (blw (shr x0 3) 9))) (mir ((blw x0 5) * 8 + (blw (shr x0 2) 8))) (blw (shr x0 4) 6) (1 + (blw (shr x0 3) 9))) (z10 2)) : va_W).Perm ((SW cI cT cU ds (xPlant (xPlant σ ((blw x0 5) * 8 + (blw (shr x0 2) 8)) (blw (shr x0 4) 6) (1 + (blw (shr x0 3) 9))) (mir ((blw x0 5) * 8 + (blw (shr x0 2) 8))) (blw (shr x0 4) 6) (1 + (blw (shr x0 3) 9))) (z10 2)) ++ (XW cI cZ d (xPlant (xPlant σ ((blw x0 5) * 8 + (blw (shr x0 2) 8)) (blw (shr x0 4) 6) (1 + (blw (shr x0 3) 9))) (mir ((blw x0 5) * 8 + (blw (shr x0 2) 8))) (blw (shr x0 4) 6) (1 + (blw (shr x0 3) 9))) z9) : va_W) := List.perm_append_comm
    have hP : va_P D vwCl ((XW cI cZ d (xPlant (xPlant σ ((blw x0 5) * 8 + (blw (shr x0 2) 8)) (blw (shr x0 4) 6) (1 + (blw (shr x0 3) 9))) (mir ((blw x0 5) * 8 + (blw (shr x0 2) 8))) (blw (shr x0 4) 6) (1 + (blw (shr x0 3) 9))) z9) ++ (SW cI cT cU ds (xPlant (xPlant σ ((blw x0 5) * 8 + (blw (shr x0 2) 8)) (blw (shr x0 4) 6) (1 + (blw (shr x0 3) 9))) (mir ((blw x0 5) * 8 + (blw (shr x0 2) 8))) (blw (shr x0 4) 6) (1 + (blw (shr x0 3) 9))) (z10 2))) H := va_mem hP (fun q9 hq9 => hp9.mem_iff.mp hq9)
    have hD : va_D A ((XW cI cZ d (xPlant (xPlant σ ((blw x0 5) * 8 + (blw (shr x0 2) 8)) (blw (shr x0 4) 6) (1 + (blw (shr x0 3) 9))) (mir ((blw x0 5) * 8 + (blw (shr x0 2) 8))) (blw (shr x0 4) 6) (1 + (blw (shr x0 3) 9))) z9) ++ (SW cI cT cU ds (xPlant (xPlant σ ((blw x0 5) * 8 + (blw (shr x0 2) 8)) (blw (shr x0 4) 6) (1 + (blw (shr x0 3) 9))) (mir ((blw x0 5) * 8 + (blw (shr x0 2) 8))) (blw (shr x0 4) 6) (1 + (blw (shr x0 3) 9))) (z10 2))) := va_Dp hD hp9
    show W p l e ({ frames := 7, cells := 3, slots := 14, locals := 119 } : Room) s m args below meth c H locs 3 14 (MQ below (gQ D (tyA cI cZ cT cU cQ) (fun κ' => (XW cI cZ d (actS σ x0) κ') ++ (SW cI cT cU ds (actS σ x0) (κ' 2))) A (fun _ => some (.int (iI (1)))) (fun κ' => True)) args s 3 14 A) (F0 m 111 ls [.int (iI (who (plA σ ((blw x0 5) * 8 + (blw (shr x0 2) 8))) (plA (xPlant σ ((blw x0 5) * 8 + (blw (shr x0 2) 8)) (blw (shr x0 4) 6) (1 + (blw (shr x0 3) 9))) (mir ((blw x0 5) * 8 + (blw (shr x0 2) 8)))))), .int (iI (who (plA σ ((blw x0 5) * 8 + (blw (shr x0 2) 8))) (plA (xPlant σ ((blw x0 5) * 8 + (blw (shr x0 2) 8)) (blw (shr x0 4) 6) (1 + (blw (shr x0 3) 9))) (mir ((blw x0 5) * 8 + (blw (shr x0 2) 8))))))])
    refine gi_icmp_ne (tgt := 118) hx hb dL_act_111 (by decide) (whoR _ _) (whoR _ _) (fun c111 => ?_) (fun c111 => ?_)
    · skip
      exact absurd rfl c111
    · skip
      refine lv_iconst (v := iI (1)) hx hb dL_act_114 rfl ?_
      refine lv_goto (tgt := 119) hx hb dL_act_115 (by decide) ?_
      have esx : (actS σ x0) = (xPlant (xPlant σ ((blw x0 5) * 8 + (blw (shr x0 2) 8)) (blw (shr x0 4) 6) (1 + (blw (shr x0 3) 9))) (mir ((blw x0 5) * 8 + (blw (shr x0 2) 8))) (blw (shr x0 4) 6) (1 + (blw (shr x0 3) 9))) := by unfold actS; rw [if_pos (show acH x0 < 3 by unfold acH; omega)]; rfl
      have hP : va_P D vwCl ((XW cI cZ d (actS σ x0) z9) ++ (SW cI cT cU ds (actS σ x0) (z10 2))) H := by rw [esx]; exact hP
      have hD : va_D A ((XW cI cZ d (actS σ x0) z9) ++ (SW cI cT cU ds (actS σ x0) (z10 2))) := by rw [esx]; exact hD
      exact g_iret (wo := (fun κ' => (XW cI cZ d (actS σ x0) κ') ++ (SW cI cT cU ds (actS σ x0) (κ' 2)))) (kr := (fun κ' => True)) (rv := (fun _ => some (.int (iI (1))))) hx hb hr hlocks (fun a => if a = 2 then z10 2 else z9 a) (nar_z (Or.inr rfl)) hP hK hD hS trivial rfl (Nat.le_of_ble_eq_true rfl) (Nat.le_of_ble_eq_true rfl) dL_act_119
  rcases Int.decEq (blw (shr x0 7) 8) 2 with c35_2 | c35_2
  rotate_left
  · skip
    refine gi_tableIn (tgt := 76) hx hb dL_act_35 ⟨by omega, by omega⟩ 2 c35_2 (by decide) (by decide) rfl (by decide) ?_
    refine lv_iconst (v := iI (1)) hx hb dL_act_76 rfl ?_
    refine lv_iload_n hx hb dL_act_77 rfl (lv_at hl 5 rfl) ?_
    refine lv_iconst (v := iI (3)) hx hb dL_act_78 rfl ?_
    refine gi_shr hx hb dL_act_79 ?_
    refine lv_bipush (v := iI (9)) hx hb dL_act_80 rfl ?_
    have hPc : va_P D vwCl ((XW cI cZ d σ κ) ++ (SW cI cT cU ds σ ι)) H := hP
    have hDc : va_D A ((XW cI cZ d σ κ) ++ (SW cI cT cU ds σ ι)) := hD
    have hPc : va_P D vwCl ([] ++ ((XW cI cZ d σ κ) ++ (SW cI cT cU ds σ ι))) H := hPc
    have hDc : va_D A ([] ++ ((XW cI cZ d σ κ) ++ (SW cI cT cU ds σ ι))) := hDc
    refine g_call (va_runS (As := [.int (iI (shr x0 3)), .int (iI (9))]) (rest := [.int (iI (1))]) S ((kL_below l D cI cZ cT cU cQ (shr x0 3) 9 (by first | assumption | omega)) H.size) (va_cwS 2 hts gL_act_L_below rfl rfl rfl (by decide +kernel) ⟨Nat.le_of_ble_eq_true rfl, Nat.le_of_ble_eq_true rfl⟩) (g_preS (As := [.int (iI (shr x0 3)), .int (iI (9))]) gEx_t hK [0, 1, 2, 3, 4] rfl hPc hDc (fun _ _ _ => trivial)) rfl rfl hl.1 rfl (lv_room (Nat.le_of_ble_eq_true rfl)) dL_act_82 ⟨Nat.le_of_ble_eq_true rfl, Nat.le_of_ble_eq_true rfl⟩) hPc hDc hS hA (fun κ9 H locs hk hP hD hS => ?_)
    obtain ⟨z11, ezz11⟩ : ∃ z, z = κ9 := ⟨_, rfl⟩
    subst ezz11
    have hP : va_P D vwCl ((XW cI cZ d σ κ) ++ (SW cI cT cU ds σ ι)) H := hP
    have hD : va_D A ((XW cI cZ d σ κ) ++ (SW cI cT cU ds σ ι)) := hD
    show W p l e ({ frames := 7, cells := 3, slots := 14, locals := 119 } : Room) s m args below meth c H locs 0 0 (MQ below (gQ D (tyA cI cZ cT cU cQ) (fun κ' => (XW cI cZ d (actS σ x0) κ') ++ (SW cI cT cU ds (actS σ x0) (κ' 2))) A (fun _ => some (.int (iI (1)))) (fun κ' => True)) args s 3 14 A) (F0 m 85 ls [.int (iI (blw (shr x0 3) 9)), .int (iI (1))])
    refine gi_add hx hb dL_act_85 ?_
    refine lv_istore (lv' := [(6, .int (iI (1 + (blw (shr x0 3) 9)))), (5, .int (iI (blw (shr x0 4) 6))), (4, .int (iI (blw (shr x0 2) 8))), (3, .int (iI (blw x0 5))), (0, .ref (d 0)), (1, .ref (ds 0)), (2, .int (iI (x0)))]) hx hb dL_act_86 hl (by decide) rfl (fun ls hl => ?_)
    refine lv_aload_n hx hb dL_act_88 rfl (lv_at hl 4 rfl) ?_
    refine lv_iload_n hx hb dL_act_89 rfl (lv_at hl 3 rfl) ?_
    refine lv_iload hx hb dL_act_90 (lv_at hl 2 rfl) ?_
    refine lv_iload hx hb dL_act_92 (lv_at hl 1 rfl) ?_
    refine lv_iload hx hb dL_act_94 (lv_at hl 0 rfl) ?_
    have hPc : va_P D vwCl ((XW cI cZ d σ κ) ++ (SW cI cT cU ds σ ι)) H := hP
    have hDc : va_D A ((XW cI cZ d σ κ) ++ (SW cI cT cU ds σ ι)) := hD
    refine h_call0 (vx_runV (As := [.int (iI (blw x0 5)), .int (iI (blw (shr x0 2) 8)), .int (iI (blw (shr x0 4) 6)), .int (iI (1 + (blw (shr x0 3) 9)))]) (rest := []) S ((kX1_plant l hfl D cI cZ d σ κ (blw x0 5) (blw (shr x0 2) 8) (blw (shr x0 4) 6) (1 + (blw (shr x0 3) 9)) (by first | assumption | omega) (by first | assumption | omega) (by first | assumption | omega) (by first | assumption | omega) (by first | assumption | omega) (by first | assumption | omega) (by first | assumption | omega) (by first | assumption | omega) (by first | assumption | omega)) H.size) (cwV 4 hts gL_act_X1_plant rfl rfl rfl (by decide +kernel) ⟨Nat.le_of_ble_eq_true rfl, Nat.le_of_ble_eq_true rfl⟩) (h_preV hK [0, 1] rfl hPc hDc hS hA hTE (q0 := 0) (ci := 1) rfl rfl rfl) rfl rfl hl.1 rfl (lv_room (Nat.le_of_ble_eq_true rfl)) dL_act_96 ⟨Nat.le_of_ble_eq_true rfl, Nat.le_of_ble_eq_true rfl⟩) hPc hDc hS hA (fun E h => (by have h0 : (tPlant (blw x0 5) (blw (shr x0 2) 8) (blw (shr x0 4) 6) (1 + (blw (shr x0 3) 9))) = 0 := (by unfold tPlant; rw [if_neg (by omega), if_neg (by omega)]); rcases h with ⟨_, h⟩ | ⟨_, h⟩ <;> omega)) (fun κ9 H locs hk hP hD hS => ?_)
    obtain ⟨z12, ezz12⟩ : ∃ z, z = κ9 := ⟨_, rfl⟩
    subst ezz12
    have hP : va_P D vwCl ((XW cI cZ d (xPlant (xPlant σ ((blw x0 5) * 8 + (blw (shr x0 2) 8)) (blw (shr x0 4) 6) (1 + (blw (shr x0 3) 9))) (mir ((blw x0 5) * 8 + (blw (shr x0 2) 8))) (blw (shr x0 4) 6) (1 + (blw (shr x0 3) 9))) z12) ++ (SW cI cT cU ds σ ι)) H := hP
    have hD : va_D A ((XW cI cZ d (xPlant (xPlant σ ((blw x0 5) * 8 + (blw (shr x0 2) 8)) (blw (shr x0 4) 6) (1 + (blw (shr x0 3) 9))) (mir ((blw x0 5) * 8 + (blw (shr x0 2) 8))) (blw (shr x0 4) 6) (1 + (blw (shr x0 3) 9))) z12) ++ (SW cI cT cU ds σ ι)) := hD
    show W p l e ({ frames := 7, cells := 3, slots := 14, locals := 119 } : Room) s m args below meth c H locs 1 6 (MQ below (gQ D (tyA cI cZ cT cU cQ) (fun κ' => (XW cI cZ d (actS σ x0) κ') ++ (SW cI cT cU ds (actS σ x0) (κ' 2))) A (fun _ => some (.int (iI (1)))) (fun κ' => True)) args s 3 14 A) (F0 m 99 ls [.int (iI (who (plA σ ((blw x0 5) * 8 + (blw (shr x0 2) 8))) (plA (xPlant σ ((blw x0 5) * 8 + (blw (shr x0 2) 8)) (blw (shr x0 4) 6) (1 + (blw (shr x0 3) 9))) (mir ((blw x0 5) * 8 + (blw (shr x0 2) 8))))))])
    refine lv_aload_n hx hb dL_act_99 rfl (lv_at hl 5 rfl) ?_
    refine lv_iconst (v := iI (0)) hx hb dL_act_100 rfl ?_
    refine lv_iload_n hx hb dL_act_101 rfl (lv_at hl 3 rfl) ?_
    refine lv_iload hx hb dL_act_102 (lv_at hl 2 rfl) ?_
    refine lv_iload hx hb dL_act_104 (lv_at hl 1 rfl) ?_
    refine lv_iload hx hb dL_act_106 (lv_at hl 0 rfl) ?_
    have hp9 : ((SW cI cT cU ds σ ι) ++ (XW cI cZ d (xPlant (xPlant σ ((blw x0 5) * 8 + (blw (shr x0 2) 8)) (blw (shr x0 4) 6) (1 + (blw (shr x0 3) 9))) (mir ((blw x0 5) * 8 + (blw (shr x0 2) 8))) (blw (shr x0 4) 6) (1 + (blw (shr x0 3) 9))) z12) : va_W).Perm ((XW cI cZ d (xPlant (xPlant σ ((blw x0 5) * 8 + (blw (shr x0 2) 8)) (blw (shr x0 4) 6) (1 + (blw (shr x0 3) 9))) (mir ((blw x0 5) * 8 + (blw (shr x0 2) 8))) (blw (shr x0 4) 6) (1 + (blw (shr x0 3) 9))) z12) ++ (SW cI cT cU ds σ ι) : va_W) := List.perm_append_comm
    have hPc : va_P D vwCl ((SW cI cT cU ds σ ι) ++ (XW cI cZ d (xPlant (xPlant σ ((blw x0 5) * 8 + (blw (shr x0 2) 8)) (blw (shr x0 4) 6) (1 + (blw (shr x0 3) 9))) (mir ((blw x0 5) * 8 + (blw (shr x0 2) 8))) (blw (shr x0 4) 6) (1 + (blw (shr x0 3) 9))) z12)) H := va_mem hP (fun q9 hq9 => hp9.mem_iff.mp hq9)
    have hDc : va_D A ((SW cI cT cU ds σ ι) ++ (XW cI cZ d (xPlant (xPlant σ ((blw x0 5) * 8 + (blw (shr x0 2) 8)) (blw (shr x0 4) 6) (1 + (blw (shr x0 3) 9))) (mir ((blw x0 5) * 8 + (blw (shr x0 2) 8))) (blw (shr x0 4) 6) (1 + (blw (shr x0 3) 9))) z12)) := va_Dp hD hp9
    refine g_call (va_runV (As := [.int (iI (0)), .int (iI (blw x0 5)), .int (iI (blw (shr x0 2) 8)), .int (iI (blw (shr x0 4) 6)), .int (iI (1 + (blw (shr x0 3) 9)))]) (rest := [.int (iI (who (plA σ ((blw x0 5) * 8 + (blw (shr x0 2) 8))) (plA (xPlant σ ((blw x0 5) * 8 + (blw (shr x0 2) 8)) (blw (shr x0 4) 6) (1 + (blw (shr x0 3) 9))) (mir ((blw x0 5) * 8 + (blw (shr x0 2) 8))))))]) S ((kX2_work_0 l D cI cZ cT cU cQ ds σ ι (blw x0 5) (blw (shr x0 2) 8) (blw (shr x0 4) 6) (1 + (blw (shr x0 3) 9)) (by first | assumption | omega) (by first | assumption | omega) (by first | assumption | omega) (by first | assumption | omega) (by first | assumption | omega)) H.size) (cwV 5 hts gL_act_X2_work rfl rfl rfl (by decide +kernel) ⟨Nat.le_of_ble_eq_true rfl, Nat.le_of_ble_eq_true rfl⟩) (g_preV nst_g hK [0, 1, 2, 3, 4] rfl hPc hDc (fun U _ hW => nst_w hW hN) (q0 := 0) (ci := 2) rfl rfl rfl) rfl rfl hl.1 rfl (lv_room (Nat.le_of_ble_eq_true rfl)) dL_act_108 ⟨Nat.le_of_ble_eq_true rfl, Nat.le_of_ble_eq_true rfl⟩) hPc hDc hS hA (fun κ9 H locs hk hP hD hS => ?_)
    obtain ⟨z13, ezz13⟩ : ∃ z, z = κ9 := ⟨_, rfl⟩
    subst ezz13
    have hP : va_P D vwCl ((SW cI cT cU ds (xPlant (xPlant σ ((blw x0 5) * 8 + (blw (shr x0 2) 8)) (blw (shr x0 4) 6) (1 + (blw (shr x0 3) 9))) (mir ((blw x0 5) * 8 + (blw (shr x0 2) 8))) (blw (shr x0 4) 6) (1 + (blw (shr x0 3) 9))) (z13 2)) ++ (XW cI cZ d (xPlant (xPlant σ ((blw x0 5) * 8 + (blw (shr x0 2) 8)) (blw (shr x0 4) 6) (1 + (blw (shr x0 3) 9))) (mir ((blw x0 5) * 8 + (blw (shr x0 2) 8))) (blw (shr x0 4) 6) (1 + (blw (shr x0 3) 9))) z12)) H := hP
    have hD : va_D A ((SW cI cT cU ds (xPlant (xPlant σ ((blw x0 5) * 8 + (blw (shr x0 2) 8)) (blw (shr x0 4) 6) (1 + (blw (shr x0 3) 9))) (mir ((blw x0 5) * 8 + (blw (shr x0 2) 8))) (blw (shr x0 4) 6) (1 + (blw (shr x0 3) 9))) (z13 2)) ++ (XW cI cZ d (xPlant (xPlant σ ((blw x0 5) * 8 + (blw (shr x0 2) 8)) (blw (shr x0 4) 6) (1 + (blw (shr x0 3) 9))) (mir ((blw x0 5) * 8 + (blw (shr x0 2) 8))) (blw (shr x0 4) 6) (1 + (blw (shr x0 3) 9))) z12)) := hD
    have hp9 : ((XW cI cZ d (xPlant (xPlant σ ((blw x0 5) * 8 + (blw (shr x0 2) 8)) (blw (shr x0 4) 6) (1 + (blw (shr x0 3) 9))) (mir ((blw x0 5) * 8 + (blw (shr x0 2) 8))) (blw (shr x0 4) 6) (1 + (blw (shr x0 3) 9))) z12) ++ (SW cI cT cU ds (xPlant (xPlant σ ((blw x0 5) * 8 + (blw (shr x0 2) 8)) (blw (shr x0 4) 6) (1 + (blw (shr x0 3) 9))) (mir ((blw x0 5) * 8 + (blw (shr x0 2) 8))) (blw (shr x0 4) 6) (1 + (blw (shr x0 3) 9))) (z13 2)) : va_W).Perm ((SW cI cT cU ds (xPlant (xPlant σ ((blw x0 5) * 8 + (blw (shr x0 2) 8)) (blw (shr x0 4) 6) (1 + (blw (shr x0 3) 9))) (mir ((blw x0 5) * 8 + (blw (shr x0 2) 8))) (blw (shr x0 4) 6) (1 + (blw (shr x0 3) 9))) (z13 2)) ++ (XW cI cZ d (xPlant (xPlant σ ((blw x0 5) * 8 + (blw (shr x0 2) 8)) (blw (shr x0 4) 6) (1 + (blw (shr x0 3) 9))) (mir ((blw x0 5) * 8 + (blw (shr x0 2) 8))) (blw (shr x0 4) 6) (1 + (blw (shr x0 3) 9))) z12) : va_W) := List.perm_append_comm
    have hP : va_P D vwCl ((XW cI cZ d (xPlant (xPlant σ ((blw x0 5) * 8 + (blw (shr x0 2) 8)) (blw (shr x0 4) 6) (1 + (blw (shr x0 3) 9))) (mir ((blw x0 5) * 8 + (blw (shr x0 2) 8))) (blw (shr x0 4) 6) (1 + (blw (shr x0 3) 9))) z12) ++ (SW cI cT cU ds (xPlant (xPlant σ ((blw x0 5) * 8 + (blw (shr x0 2) 8)) (blw (shr x0 4) 6) (1 + (blw (shr x0 3) 9))) (mir ((blw x0 5) * 8 + (blw (shr x0 2) 8))) (blw (shr x0 4) 6) (1 + (blw (shr x0 3) 9))) (z13 2))) H := va_mem hP (fun q9 hq9 => hp9.mem_iff.mp hq9)
    have hD : va_D A ((XW cI cZ d (xPlant (xPlant σ ((blw x0 5) * 8 + (blw (shr x0 2) 8)) (blw (shr x0 4) 6) (1 + (blw (shr x0 3) 9))) (mir ((blw x0 5) * 8 + (blw (shr x0 2) 8))) (blw (shr x0 4) 6) (1 + (blw (shr x0 3) 9))) z12) ++ (SW cI cT cU ds (xPlant (xPlant σ ((blw x0 5) * 8 + (blw (shr x0 2) 8)) (blw (shr x0 4) 6) (1 + (blw (shr x0 3) 9))) (mir ((blw x0 5) * 8 + (blw (shr x0 2) 8))) (blw (shr x0 4) 6) (1 + (blw (shr x0 3) 9))) (z13 2))) := va_Dp hD hp9
    show W p l e ({ frames := 7, cells := 3, slots := 14, locals := 119 } : Room) s m args below meth c H locs 3 14 (MQ below (gQ D (tyA cI cZ cT cU cQ) (fun κ' => (XW cI cZ d (actS σ x0) κ') ++ (SW cI cT cU ds (actS σ x0) (κ' 2))) A (fun _ => some (.int (iI (1)))) (fun κ' => True)) args s 3 14 A) (F0 m 111 ls [.int (iI (who (plA σ ((blw x0 5) * 8 + (blw (shr x0 2) 8))) (plA (xPlant σ ((blw x0 5) * 8 + (blw (shr x0 2) 8)) (blw (shr x0 4) 6) (1 + (blw (shr x0 3) 9))) (mir ((blw x0 5) * 8 + (blw (shr x0 2) 8)))))), .int (iI (who (plA σ ((blw x0 5) * 8 + (blw (shr x0 2) 8))) (plA (xPlant σ ((blw x0 5) * 8 + (blw (shr x0 2) 8)) (blw (shr x0 4) 6) (1 + (blw (shr x0 3) 9))) (mir ((blw x0 5) * 8 + (blw (shr x0 2) 8))))))])
    refine gi_icmp_ne (tgt := 118) hx hb dL_act_111 (by decide) (whoR _ _) (whoR _ _) (fun c111 => ?_) (fun c111 => ?_)
    · skip
      exact absurd rfl c111
    · skip
      refine lv_iconst (v := iI (1)) hx hb dL_act_114 rfl ?_
      refine lv_goto (tgt := 119) hx hb dL_act_115 (by decide) ?_
      have esx : (actS σ x0) = (xPlant (xPlant σ ((blw x0 5) * 8 + (blw (shr x0 2) 8)) (blw (shr x0 4) 6) (1 + (blw (shr x0 3) 9))) (mir ((blw x0 5) * 8 + (blw (shr x0 2) 8))) (blw (shr x0 4) 6) (1 + (blw (shr x0 3) 9))) := by unfold actS; rw [if_pos (show acH x0 < 3 by unfold acH; omega)]; rfl
      have hP : va_P D vwCl ((XW cI cZ d (actS σ x0) z12) ++ (SW cI cT cU ds (actS σ x0) (z13 2))) H := by rw [esx]; exact hP
      have hD : va_D A ((XW cI cZ d (actS σ x0) z12) ++ (SW cI cT cU ds (actS σ x0) (z13 2))) := by rw [esx]; exact hD
      exact g_iret (wo := (fun κ' => (XW cI cZ d (actS σ x0) κ') ++ (SW cI cT cU ds (actS σ x0) (κ' 2)))) (kr := (fun κ' => True)) (rv := (fun _ => some (.int (iI (1))))) hx hb hr hlocks (fun a => if a = 2 then z13 2 else z12 a) (nar_z (Or.inr rfl)) hP hK hD hS trivial rfl (Nat.le_of_ble_eq_true rfl) (Nat.le_of_ble_eq_true rfl) dL_act_119
  rcases Int.decEq (blw (shr x0 7) 8) 3 with c35_3 | c35_3
  rotate_left
  · skip
    refine gi_tableIn (tgt := 120) hx hb dL_act_35 ⟨by omega, by omega⟩ 3 c35_3 (by decide) (by decide) rfl (by decide) ?_
    refine lv_iconst (v := iI (1)) hx hb dL_act_120 rfl ?_
    refine lv_iload_n hx hb dL_act_121 rfl (lv_at hl 5 rfl) ?_
    refine lv_iconst (v := iI (5)) hx hb dL_act_122 rfl ?_
    refine gi_shr hx hb dL_act_123 ?_
    refine lv_iload_n hx hb dL_act_124 rfl (lv_at hl 5 rfl) ?_
    refine lv_iconst (v := iI (2)) hx hb dL_act_125 rfl ?_
    have hPc : va_P D vwCl ((XW cI cZ d σ κ) ++ (SW cI cT cU ds σ ι)) H := hP
    have hDc : va_D A ((XW cI cZ d σ κ) ++ (SW cI cT cU ds σ ι)) := hD
    have hPc : va_P D vwCl ([] ++ ((XW cI cZ d σ κ) ++ (SW cI cT cU ds σ ι))) H := hPc
    have hDc : va_D A ([] ++ ((XW cI cZ d σ κ) ++ (SW cI cT cU ds σ ι))) := hDc
    refine g_call (va_runS (As := [.int (iI (x0)), .int (iI (2))]) (rest := [.int (iI (shr x0 5)), .int (iI (1))]) S ((kL_below l D cI cZ cT cU cQ x0 2 (by first | assumption | omega)) H.size) (va_cwS 2 hts gL_act_L_below rfl rfl rfl (by decide +kernel) ⟨Nat.le_of_ble_eq_true rfl, Nat.le_of_ble_eq_true rfl⟩) (g_preS (As := [.int (iI (x0)), .int (iI (2))]) gEx_t hK [0, 1, 2, 3, 4] rfl hPc hDc (fun _ _ _ => trivial)) rfl rfl hl.1 rfl (lv_room (Nat.le_of_ble_eq_true rfl)) dL_act_126 ⟨Nat.le_of_ble_eq_true rfl, Nat.le_of_ble_eq_true rfl⟩) hPc hDc hS hA (fun κ9 H locs hk hP hD hS => ?_)
    obtain ⟨z14, ezz14⟩ : ∃ z, z = κ9 := ⟨_, rfl⟩
    subst ezz14
    have hP : va_P D vwCl ((XW cI cZ d σ κ) ++ (SW cI cT cU ds σ ι)) H := hP
    have hD : va_D A ((XW cI cZ d σ κ) ++ (SW cI cT cU ds σ ι)) := hD
    show W p l e ({ frames := 7, cells := 3, slots := 14, locals := 119 } : Room) s m args below meth c H locs 0 0 (MQ below (gQ D (tyA cI cZ cT cU cQ) (fun κ' => (XW cI cZ d (actS σ x0) κ') ++ (SW cI cT cU ds (actS σ x0) (κ' 2))) A (fun _ => some (.int (iI (1)))) (fun κ' => True)) args s 3 14 A) (F0 m 129 ls [.int (iI (blw x0 2)), .int (iI (shr x0 5)), .int (iI (1))])
    refine gi_if_ne (tgt := 137) hx hb dL_act_129 (by decide) ⟨by omega, by omega⟩ (fun c129 => ?_) (fun c129 => ?_)
    · skip
      refine lv_iconst (v := iI (3)) hx hb dL_act_137 rfl ?_
      have hPc : va_P D vwCl ((XW cI cZ d σ κ) ++ (SW cI cT cU ds σ ι)) H := hP
      have hDc : va_D A ((XW cI cZ d σ κ) ++ (SW cI cT cU ds σ ι)) := hD
      have hPc : va_P D vwCl ([] ++ ((XW cI cZ d σ κ) ++ (SW cI cT cU ds σ ι))) H := hPc
      have hDc : va_D A ([] ++ ((XW cI cZ d σ κ) ++ (SW cI cT cU ds σ ι))) := hDc
      refine g_call (va_runS (As := [.int (iI (shr x0 5)), .int (iI (3))]) (rest := [.int (iI (1))]) S ((kL_below l D cI cZ cT cU cQ (shr x0 5) 3 (by first | assumption | omega)) H.size) (va_cwS 2 hts gL_act_L_below rfl rfl rfl (by decide +kernel) ⟨Nat.le_of_ble_eq_true rfl, Nat.le_of_ble_eq_true rfl⟩) (g_preS (As := [.int (iI (shr x0 5)), .int (iI (3))]) gEx_t hK [0, 1, 2, 3, 4] rfl hPc hDc (fun _ _ _ => trivial)) rfl rfl hl.1 rfl (lv_room (Nat.le_of_ble_eq_true rfl)) dL_act_138 ⟨Nat.le_of_ble_eq_true rfl, Nat.le_of_ble_eq_true rfl⟩) hPc hDc hS hA (fun κ9 H locs hk hP hD hS => ?_)
      obtain ⟨z15, ezz15⟩ : ∃ z, z = κ9 := ⟨_, rfl⟩
      subst ezz15
      have hP : va_P D vwCl ((XW cI cZ d σ κ) ++ (SW cI cT cU ds σ ι)) H := hP
      have hD : va_D A ((XW cI cZ d σ κ) ++ (SW cI cT cU ds σ ι)) := hD
      show W p l e ({ frames := 7, cells := 3, slots := 14, locals := 119 } : Room) s m args below meth c H locs 0 0 (MQ below (gQ D (tyA cI cZ cT cU cQ) (fun κ' => (XW cI cZ d (actS σ x0) κ') ++ (SW cI cT cU ds (actS σ x0) (κ' 2))) A (fun _ => some (.int (iI (1)))) (fun κ' => True)) args s 3 14 A) (F0 m 141 ls [.int (iI (blw (shr x0 5) 3)), .int (iI (1))])
      refine gi_add hx hb dL_act_141 ?_
      refine lv_istore (lv' := [(7, .int (iI (1 + (blw (shr x0 5) 3)))), (5, .int (iI (blw (shr x0 4) 6))), (4, .int (iI (blw (shr x0 2) 8))), (3, .int (iI (blw x0 5))), (0, .ref (d 0)), (1, .ref (ds 0)), (2, .int (iI (x0)))]) hx hb dL_act_142 hl (by decide) rfl (fun ls hl => ?_)
      refine lv_aload_n hx hb dL_act_144 rfl (lv_at hl 4 rfl) ?_
      refine lv_iload_n hx hb dL_act_145 rfl (lv_at hl 3 rfl) ?_
      refine lv_iload hx hb dL_act_146 (lv_at hl 2 rfl) ?_
      refine lv_iload hx hb dL_act_148 (lv_at hl 0 rfl) ?_
      have hPc : va_P D vwCl ((XW cI cZ d σ κ) ++ (SW cI cT cU ds σ ι)) H := hP
      have hDc : va_D A ((XW cI cZ d σ κ) ++ (SW cI cT cU ds σ ι)) := hD
      refine h_call0 (vx_runV (As := [.int (iI (blw x0 5)), .int (iI (blw (shr x0 2) 8)), .int (iI (1 + (blw (shr x0 5) 3)))]) (rest := []) S ((kX1_prune l hfl D cI cZ d σ κ (blw x0 5) (blw (shr x0 2) 8) (1 + (blw (shr x0 5) 3)) (by first | assumption | omega) (by first | assumption | omega) (by first | assumption | omega) (by first | assumption | omega) (by first | assumption | omega) (by first | assumption | omega) (by first | assumption | omega)) H.size) (cwV 3 hts gL_act_X1_prune rfl rfl rfl (by decide +kernel) ⟨Nat.le_of_ble_eq_true rfl, Nat.le_of_ble_eq_true rfl⟩) (h_preV hK [0, 1] rfl hPc hDc hS hA hTE (q0 := 0) (ci := 1) rfl rfl rfl) rfl rfl hl.1 rfl (lv_room (Nat.le_of_ble_eq_true rfl)) dL_act_150 ⟨Nat.le_of_ble_eq_true rfl, Nat.le_of_ble_eq_true rfl⟩) hPc hDc hS hA (fun E h => (by have h0 : (tPrune (blw x0 5) (blw (shr x0 2) 8) (1 + (blw (shr x0 5) 3))) = 0 := (by unfold tPrune; rw [if_neg (by omega), if_neg (by omega)]); rcases h with ⟨_, h⟩ | ⟨_, h⟩ <;> omega)) (fun κ9 H locs hk hP hD hS => ?_)
      obtain ⟨z16, ezz16⟩ : ∃ z, z = κ9 := ⟨_, rfl⟩
      subst ezz16
      have hP : va_P D vwCl ((XW cI cZ d (xPrune (xPrune σ ((blw x0 5) * 8 + (blw (shr x0 2) 8)) (1 + (blw (shr x0 5) 3))) (mir ((blw x0 5) * 8 + (blw (shr x0 2) 8))) (1 + (blw (shr x0 5) 3))) z16) ++ (SW cI cT cU ds σ ι)) H := hP
      have hD : va_D A ((XW cI cZ d (xPrune (xPrune σ ((blw x0 5) * 8 + (blw (shr x0 2) 8)) (1 + (blw (shr x0 5) 3))) (mir ((blw x0 5) * 8 + (blw (shr x0 2) 8))) (1 + (blw (shr x0 5) 3))) z16) ++ (SW cI cT cU ds σ ι)) := hD
      show W p l e ({ frames := 7, cells := 3, slots := 14, locals := 119 } : Room) s m args below meth c H locs 1 6 (MQ below (gQ D (tyA cI cZ cT cU cQ) (fun κ' => (XW cI cZ d (actS σ x0) κ') ++ (SW cI cT cU ds (actS σ x0) (κ' 2))) A (fun _ => some (.int (iI (1)))) (fun κ' => True)) args s 3 14 A) (F0 m 153 ls [.int (iI (who (prA σ ((blw x0 5) * 8 + (blw (shr x0 2) 8)) (1 + (blw (shr x0 5) 3))) (prA (xPrune σ ((blw x0 5) * 8 + (blw (shr x0 2) 8)) (1 + (blw (shr x0 5) 3))) (mir ((blw x0 5) * 8 + (blw (shr x0 2) 8))) (1 + (blw (shr x0 5) 3)))))])
      refine lv_aload_n hx hb dL_act_153 rfl (lv_at hl 5 rfl) ?_
      refine lv_iconst (v := iI (1)) hx hb dL_act_154 rfl ?_
      refine lv_iload_n hx hb dL_act_155 rfl (lv_at hl 3 rfl) ?_
      refine lv_iload hx hb dL_act_156 (lv_at hl 2 rfl) ?_
      refine lv_iload hx hb dL_act_158 (lv_at hl 0 rfl) ?_
      refine lv_iconst (v := iI (0)) hx hb dL_act_160 rfl ?_
      have hp9 : ((SW cI cT cU ds σ ι) ++ (XW cI cZ d (xPrune (xPrune σ ((blw x0 5) * 8 + (blw (shr x0 2) 8)) (1 + (blw (shr x0 5) 3))) (mir ((blw x0 5) * 8 + (blw (shr x0 2) 8))) (1 + (blw (shr x0 5) 3))) z16) : va_W).Perm ((XW cI cZ d (xPrune (xPrune σ ((blw x0 5) * 8 + (blw (shr x0 2) 8)) (1 + (blw (shr x0 5) 3))) (mir ((blw x0 5) * 8 + (blw (shr x0 2) 8))) (1 + (blw (shr x0 5) 3))) z16) ++ (SW cI cT cU ds σ ι) : va_W) := List.perm_append_comm
      have hPc : va_P D vwCl ((SW cI cT cU ds σ ι) ++ (XW cI cZ d (xPrune (xPrune σ ((blw x0 5) * 8 + (blw (shr x0 2) 8)) (1 + (blw (shr x0 5) 3))) (mir ((blw x0 5) * 8 + (blw (shr x0 2) 8))) (1 + (blw (shr x0 5) 3))) z16)) H := va_mem hP (fun q9 hq9 => hp9.mem_iff.mp hq9)
      have hDc : va_D A ((SW cI cT cU ds σ ι) ++ (XW cI cZ d (xPrune (xPrune σ ((blw x0 5) * 8 + (blw (shr x0 2) 8)) (1 + (blw (shr x0 5) 3))) (mir ((blw x0 5) * 8 + (blw (shr x0 2) 8))) (1 + (blw (shr x0 5) 3))) z16)) := va_Dp hD hp9
      refine g_call (va_runV (As := [.int (iI (1)), .int (iI (blw x0 5)), .int (iI (blw (shr x0 2) 8)), .int (iI (1 + (blw (shr x0 5) 3))), .int (iI (0))]) (rest := [.int (iI (who (prA σ ((blw x0 5) * 8 + (blw (shr x0 2) 8)) (1 + (blw (shr x0 5) 3))) (prA (xPrune σ ((blw x0 5) * 8 + (blw (shr x0 2) 8)) (1 + (blw (shr x0 5) 3))) (mir ((blw x0 5) * 8 + (blw (shr x0 2) 8))) (1 + (blw (shr x0 5) 3)))))]) S ((kX2_work_1 l D cI cZ cT cU cQ ds σ ι (blw x0 5) (blw (shr x0 2) 8) (1 + (blw (shr x0 5) 3)) (by first | assumption | omega) (by first | assumption | omega) (by first | assumption | omega) (by first | assumption | omega)) H.size) (cwV 5 hts gL_act_X2_work rfl rfl rfl (by decide +kernel) ⟨Nat.le_of_ble_eq_true rfl, Nat.le_of_ble_eq_true rfl⟩) (g_preV nst_g hK [0, 1, 2, 3, 4] rfl hPc hDc (fun U _ hW => nst_w hW hN) (q0 := 0) (ci := 2) rfl rfl rfl) rfl rfl hl.1 rfl (lv_room (Nat.le_of_ble_eq_true rfl)) dL_act_161 ⟨Nat.le_of_ble_eq_true rfl, Nat.le_of_ble_eq_true rfl⟩) hPc hDc hS hA (fun κ9 H locs hk hP hD hS => ?_)
      obtain ⟨z17, ezz17⟩ : ∃ z, z = κ9 := ⟨_, rfl⟩
      subst ezz17
      have hP : va_P D vwCl ((SW cI cT cU ds (xPrune (xPrune σ ((blw x0 5) * 8 + (blw (shr x0 2) 8)) (1 + (blw (shr x0 5) 3))) (mir ((blw x0 5) * 8 + (blw (shr x0 2) 8))) (1 + (blw (shr x0 5) 3))) (z17 2)) ++ (XW cI cZ d (xPrune (xPrune σ ((blw x0 5) * 8 + (blw (shr x0 2) 8)) (1 + (blw (shr x0 5) 3))) (mir ((blw x0 5) * 8 + (blw (shr x0 2) 8))) (1 + (blw (shr x0 5) 3))) z16)) H := hP
      have hD : va_D A ((SW cI cT cU ds (xPrune (xPrune σ ((blw x0 5) * 8 + (blw (shr x0 2) 8)) (1 + (blw (shr x0 5) 3))) (mir ((blw x0 5) * 8 + (blw (shr x0 2) 8))) (1 + (blw (shr x0 5) 3))) (z17 2)) ++ (XW cI cZ d (xPrune (xPrune σ ((blw x0 5) * 8 + (blw (shr x0 2) 8)) (1 + (blw (shr x0 5) 3))) (mir ((blw x0 5) * 8 + (blw (shr x0 2) 8))) (1 + (blw (shr x0 5) 3))) z16)) := hD
      have hp9 : ((XW cI cZ d (xPrune (xPrune σ ((blw x0 5) * 8 + (blw (shr x0 2) 8)) (1 + (blw (shr x0 5) 3))) (mir ((blw x0 5) * 8 + (blw (shr x0 2) 8))) (1 + (blw (shr x0 5) 3))) z16) ++ (SW cI cT cU ds (xPrune (xPrune σ ((blw x0 5) * 8 + (blw (shr x0 2) 8)) (1 + (blw (shr x0 5) 3))) (mir ((blw x0 5) * 8 + (blw (shr x0 2) 8))) (1 + (blw (shr x0 5) 3))) (z17 2)) : va_W).Perm ((SW cI cT cU ds (xPrune (xPrune σ ((blw x0 5) * 8 + (blw (shr x0 2) 8)) (1 + (blw (shr x0 5) 3))) (mir ((blw x0 5) * 8 + (blw (shr x0 2) 8))) (1 + (blw (shr x0 5) 3))) (z17 2)) ++ (XW cI cZ d (xPrune (xPrune σ ((blw x0 5) * 8 + (blw (shr x0 2) 8)) (1 + (blw (shr x0 5) 3))) (mir ((blw x0 5) * 8 + (blw (shr x0 2) 8))) (1 + (blw (shr x0 5) 3))) z16) : va_W) := List.perm_append_comm
      have hP : va_P D vwCl ((XW cI cZ d (xPrune (xPrune σ ((blw x0 5) * 8 + (blw (shr x0 2) 8)) (1 + (blw (shr x0 5) 3))) (mir ((blw x0 5) * 8 + (blw (shr x0 2) 8))) (1 + (blw (shr x0 5) 3))) z16) ++ (SW cI cT cU ds (xPrune (xPrune σ ((blw x0 5) * 8 + (blw (shr x0 2) 8)) (1 + (blw (shr x0 5) 3))) (mir ((blw x0 5) * 8 + (blw (shr x0 2) 8))) (1 + (blw (shr x0 5) 3))) (z17 2))) H := va_mem hP (fun q9 hq9 => hp9.mem_iff.mp hq9)
      have hD : va_D A ((XW cI cZ d (xPrune (xPrune σ ((blw x0 5) * 8 + (blw (shr x0 2) 8)) (1 + (blw (shr x0 5) 3))) (mir ((blw x0 5) * 8 + (blw (shr x0 2) 8))) (1 + (blw (shr x0 5) 3))) z16) ++ (SW cI cT cU ds (xPrune (xPrune σ ((blw x0 5) * 8 + (blw (shr x0 2) 8)) (1 + (blw (shr x0 5) 3))) (mir ((blw x0 5) * 8 + (blw (shr x0 2) 8))) (1 + (blw (shr x0 5) 3))) (z17 2))) := va_Dp hD hp9
      show W p l e ({ frames := 7, cells := 3, slots := 14, locals := 119 } : Room) s m args below meth c H locs 1 6 (MQ below (gQ D (tyA cI cZ cT cU cQ) (fun κ' => (XW cI cZ d (actS σ x0) κ') ++ (SW cI cT cU ds (actS σ x0) (κ' 2))) A (fun _ => some (.int (iI (1)))) (fun κ' => True)) args s 3 14 A) (F0 m 164 ls [.int (iI (who (prA σ ((blw x0 5) * 8 + (blw (shr x0 2) 8)) (1 + (blw (shr x0 5) 3))) (prA (xPrune σ ((blw x0 5) * 8 + (blw (shr x0 2) 8)) (1 + (blw (shr x0 5) 3))) (mir ((blw x0 5) * 8 + (blw (shr x0 2) 8))) (1 + (blw (shr x0 5) 3))))), .int (iI (who (prA σ ((blw x0 5) * 8 + (blw (shr x0 2) 8)) (1 + (blw (shr x0 5) 3))) (prA (xPrune σ ((blw x0 5) * 8 + (blw (shr x0 2) 8)) (1 + (blw (shr x0 5) 3))) (mir ((blw x0 5) * 8 + (blw (shr x0 2) 8))) (1 + (blw (shr x0 5) 3)))))])
      refine gi_icmp_ne (tgt := 171) hx hb dL_act_164 (by decide) (whoR _ _) (whoR _ _) (fun c164 => ?_) (fun c164 => ?_)
      · skip
        exact absurd rfl c164
      · skip
        refine lv_iconst (v := iI (1)) hx hb dL_act_167 rfl ?_
        refine lv_goto (tgt := 172) hx hb dL_act_168 (by decide) ?_
        have esx : (actS σ x0) = (xPrune (xPrune σ ((blw x0 5) * 8 + (blw (shr x0 2) 8)) (1 + (blw (shr x0 5) 3))) (mir ((blw x0 5) * 8 + (blw (shr x0 2) 8))) (1 + (blw (shr x0 5) 3))) := by unfold actS; rw [if_neg (show ¬ acH x0 < 3 by unfold acH; omega), if_pos (show acH x0 < 5 by unfold acH; omega)]; unfold acC; first | (rw [if_pos (by omega)]; rfl) | (rw [if_neg (by omega)]; rfl)
        have hP : va_P D vwCl ((XW cI cZ d (actS σ x0) z16) ++ (SW cI cT cU ds (actS σ x0) (z17 2))) H := by rw [esx]; exact hP
        have hD : va_D A ((XW cI cZ d (actS σ x0) z16) ++ (SW cI cT cU ds (actS σ x0) (z17 2))) := by rw [esx]; exact hD
        exact g_iret (wo := (fun κ' => (XW cI cZ d (actS σ x0) κ') ++ (SW cI cT cU ds (actS σ x0) (κ' 2)))) (kr := (fun κ' => True)) (rv := (fun _ => some (.int (iI (1))))) hx hb hr hlocks (fun a => if a = 2 then z17 2 else z16 a) (nar_z (Or.inr rfl)) hP hK hD hS trivial rfl (Nat.le_of_ble_eq_true rfl) (Nat.le_of_ble_eq_true rfl) dL_act_172
    · skip
      refine lv_bipush (v := iI (9)) hx hb dL_act_132 rfl ?_
      refine lv_goto (tgt := 138) hx hb dL_act_134 (by decide) ?_
      have hPc : va_P D vwCl ((XW cI cZ d σ κ) ++ (SW cI cT cU ds σ ι)) H := hP
      have hDc : va_D A ((XW cI cZ d σ κ) ++ (SW cI cT cU ds σ ι)) := hD
      have hPc : va_P D vwCl ([] ++ ((XW cI cZ d σ κ) ++ (SW cI cT cU ds σ ι))) H := hPc
      have hDc : va_D A ([] ++ ((XW cI cZ d σ κ) ++ (SW cI cT cU ds σ ι))) := hDc
      refine g_call (va_runS (As := [.int (iI (shr x0 5)), .int (iI (9))]) (rest := [.int (iI (1))]) S ((kL_below l D cI cZ cT cU cQ (shr x0 5) 9 (by first | assumption | omega)) H.size) (va_cwS 2 hts gL_act_L_below rfl rfl rfl (by decide +kernel) ⟨Nat.le_of_ble_eq_true rfl, Nat.le_of_ble_eq_true rfl⟩) (g_preS (As := [.int (iI (shr x0 5)), .int (iI (9))]) gEx_t hK [0, 1, 2, 3, 4] rfl hPc hDc (fun _ _ _ => trivial)) rfl rfl hl.1 rfl (lv_room (Nat.le_of_ble_eq_true rfl)) dL_act_138 ⟨Nat.le_of_ble_eq_true rfl, Nat.le_of_ble_eq_true rfl⟩) hPc hDc hS hA (fun κ9 H locs hk hP hD hS => ?_)
      obtain ⟨z18, ezz18⟩ : ∃ z, z = κ9 := ⟨_, rfl⟩
      subst ezz18
      have hP : va_P D vwCl ((XW cI cZ d σ κ) ++ (SW cI cT cU ds σ ι)) H := hP
      have hD : va_D A ((XW cI cZ d σ κ) ++ (SW cI cT cU ds σ ι)) := hD
      show W p l e ({ frames := 7, cells := 3, slots := 14, locals := 119 } : Room) s m args below meth c H locs 0 0 (MQ below (gQ D (tyA cI cZ cT cU cQ) (fun κ' => (XW cI cZ d (actS σ x0) κ') ++ (SW cI cT cU ds (actS σ x0) (κ' 2))) A (fun _ => some (.int (iI (1)))) (fun κ' => True)) args s 3 14 A) (F0 m 141 ls [.int (iI (blw (shr x0 5) 9)), .int (iI (1))])
      refine gi_add hx hb dL_act_141 ?_
      refine lv_istore (lv' := [(7, .int (iI (1 + (blw (shr x0 5) 9)))), (5, .int (iI (blw (shr x0 4) 6))), (4, .int (iI (blw (shr x0 2) 8))), (3, .int (iI (blw x0 5))), (0, .ref (d 0)), (1, .ref (ds 0)), (2, .int (iI (x0)))]) hx hb dL_act_142 hl (by decide) rfl (fun ls hl => ?_)
      refine lv_aload_n hx hb dL_act_144 rfl (lv_at hl 4 rfl) ?_
      refine lv_iload_n hx hb dL_act_145 rfl (lv_at hl 3 rfl) ?_
      refine lv_iload hx hb dL_act_146 (lv_at hl 2 rfl) ?_
      refine lv_iload hx hb dL_act_148 (lv_at hl 0 rfl) ?_
      have hPc : va_P D vwCl ((XW cI cZ d σ κ) ++ (SW cI cT cU ds σ ι)) H := hP
      have hDc : va_D A ((XW cI cZ d σ κ) ++ (SW cI cT cU ds σ ι)) := hD
      refine h_call0 (vx_runV (As := [.int (iI (blw x0 5)), .int (iI (blw (shr x0 2) 8)), .int (iI (1 + (blw (shr x0 5) 9)))]) (rest := []) S ((kX1_prune l hfl D cI cZ d σ κ (blw x0 5) (blw (shr x0 2) 8) (1 + (blw (shr x0 5) 9)) (by first | assumption | omega) (by first | assumption | omega) (by first | assumption | omega) (by first | assumption | omega) (by first | assumption | omega) (by first | assumption | omega) (by first | assumption | omega)) H.size) (cwV 3 hts gL_act_X1_prune rfl rfl rfl (by decide +kernel) ⟨Nat.le_of_ble_eq_true rfl, Nat.le_of_ble_eq_true rfl⟩) (h_preV hK [0, 1] rfl hPc hDc hS hA hTE (q0 := 0) (ci := 1) rfl rfl rfl) rfl rfl hl.1 rfl (lv_room (Nat.le_of_ble_eq_true rfl)) dL_act_150 ⟨Nat.le_of_ble_eq_true rfl, Nat.le_of_ble_eq_true rfl⟩) hPc hDc hS hA (fun E h => (by have h0 : (tPrune (blw x0 5) (blw (shr x0 2) 8) (1 + (blw (shr x0 5) 9))) = 0 := (by unfold tPrune; rw [if_neg (by omega), if_neg (by omega)]); rcases h with ⟨_, h⟩ | ⟨_, h⟩ <;> omega)) (fun κ9 H locs hk hP hD hS => ?_)
      obtain ⟨z19, ezz19⟩ : ∃ z, z = κ9 := ⟨_, rfl⟩
      subst ezz19
      have hP : va_P D vwCl ((XW cI cZ d (xPrune (xPrune σ ((blw x0 5) * 8 + (blw (shr x0 2) 8)) (1 + (blw (shr x0 5) 9))) (mir ((blw x0 5) * 8 + (blw (shr x0 2) 8))) (1 + (blw (shr x0 5) 9))) z19) ++ (SW cI cT cU ds σ ι)) H := hP
      have hD : va_D A ((XW cI cZ d (xPrune (xPrune σ ((blw x0 5) * 8 + (blw (shr x0 2) 8)) (1 + (blw (shr x0 5) 9))) (mir ((blw x0 5) * 8 + (blw (shr x0 2) 8))) (1 + (blw (shr x0 5) 9))) z19) ++ (SW cI cT cU ds σ ι)) := hD
      show W p l e ({ frames := 7, cells := 3, slots := 14, locals := 119 } : Room) s m args below meth c H locs 1 6 (MQ below (gQ D (tyA cI cZ cT cU cQ) (fun κ' => (XW cI cZ d (actS σ x0) κ') ++ (SW cI cT cU ds (actS σ x0) (κ' 2))) A (fun _ => some (.int (iI (1)))) (fun κ' => True)) args s 3 14 A) (F0 m 153 ls [.int (iI (who (prA σ ((blw x0 5) * 8 + (blw (shr x0 2) 8)) (1 + (blw (shr x0 5) 9))) (prA (xPrune σ ((blw x0 5) * 8 + (blw (shr x0 2) 8)) (1 + (blw (shr x0 5) 9))) (mir ((blw x0 5) * 8 + (blw (shr x0 2) 8))) (1 + (blw (shr x0 5) 9)))))])
      refine lv_aload_n hx hb dL_act_153 rfl (lv_at hl 5 rfl) ?_
      refine lv_iconst (v := iI (1)) hx hb dL_act_154 rfl ?_
      refine lv_iload_n hx hb dL_act_155 rfl (lv_at hl 3 rfl) ?_
      refine lv_iload hx hb dL_act_156 (lv_at hl 2 rfl) ?_
      refine lv_iload hx hb dL_act_158 (lv_at hl 0 rfl) ?_
      refine lv_iconst (v := iI (0)) hx hb dL_act_160 rfl ?_
      have hp9 : ((SW cI cT cU ds σ ι) ++ (XW cI cZ d (xPrune (xPrune σ ((blw x0 5) * 8 + (blw (shr x0 2) 8)) (1 + (blw (shr x0 5) 9))) (mir ((blw x0 5) * 8 + (blw (shr x0 2) 8))) (1 + (blw (shr x0 5) 9))) z19) : va_W).Perm ((XW cI cZ d (xPrune (xPrune σ ((blw x0 5) * 8 + (blw (shr x0 2) 8)) (1 + (blw (shr x0 5) 9))) (mir ((blw x0 5) * 8 + (blw (shr x0 2) 8))) (1 + (blw (shr x0 5) 9))) z19) ++ (SW cI cT cU ds σ ι) : va_W) := List.perm_append_comm
      have hPc : va_P D vwCl ((SW cI cT cU ds σ ι) ++ (XW cI cZ d (xPrune (xPrune σ ((blw x0 5) * 8 + (blw (shr x0 2) 8)) (1 + (blw (shr x0 5) 9))) (mir ((blw x0 5) * 8 + (blw (shr x0 2) 8))) (1 + (blw (shr x0 5) 9))) z19)) H := va_mem hP (fun q9 hq9 => hp9.mem_iff.mp hq9)
      have hDc : va_D A ((SW cI cT cU ds σ ι) ++ (XW cI cZ d (xPrune (xPrune σ ((blw x0 5) * 8 + (blw (shr x0 2) 8)) (1 + (blw (shr x0 5) 9))) (mir ((blw x0 5) * 8 + (blw (shr x0 2) 8))) (1 + (blw (shr x0 5) 9))) z19)) := va_Dp hD hp9
      refine g_call (va_runV (As := [.int (iI (1)), .int (iI (blw x0 5)), .int (iI (blw (shr x0 2) 8)), .int (iI (1 + (blw (shr x0 5) 9))), .int (iI (0))]) (rest := [.int (iI (who (prA σ ((blw x0 5) * 8 + (blw (shr x0 2) 8)) (1 + (blw (shr x0 5) 9))) (prA (xPrune σ ((blw x0 5) * 8 + (blw (shr x0 2) 8)) (1 + (blw (shr x0 5) 9))) (mir ((blw x0 5) * 8 + (blw (shr x0 2) 8))) (1 + (blw (shr x0 5) 9)))))]) S ((kX2_work_1 l D cI cZ cT cU cQ ds σ ι (blw x0 5) (blw (shr x0 2) 8) (1 + (blw (shr x0 5) 9)) (by first | assumption | omega) (by first | assumption | omega) (by first | assumption | omega) (by first | assumption | omega)) H.size) (cwV 5 hts gL_act_X2_work rfl rfl rfl (by decide +kernel) ⟨Nat.le_of_ble_eq_true rfl, Nat.le_of_ble_eq_true rfl⟩) (g_preV nst_g hK [0, 1, 2, 3, 4] rfl hPc hDc (fun U _ hW => nst_w hW hN) (q0 := 0) (ci := 2) rfl rfl rfl) rfl rfl hl.1 rfl (lv_room (Nat.le_of_ble_eq_true rfl)) dL_act_161 ⟨Nat.le_of_ble_eq_true rfl, Nat.le_of_ble_eq_true rfl⟩) hPc hDc hS hA (fun κ9 H locs hk hP hD hS => ?_)
      obtain ⟨z20, ezz20⟩ : ∃ z, z = κ9 := ⟨_, rfl⟩
      subst ezz20
      have hP : va_P D vwCl ((SW cI cT cU ds (xPrune (xPrune σ ((blw x0 5) * 8 + (blw (shr x0 2) 8)) (1 + (blw (shr x0 5) 9))) (mir ((blw x0 5) * 8 + (blw (shr x0 2) 8))) (1 + (blw (shr x0 5) 9))) (z20 2)) ++ (XW cI cZ d (xPrune (xPrune σ ((blw x0 5) * 8 + (blw (shr x0 2) 8)) (1 + (blw (shr x0 5) 9))) (mir ((blw x0 5) * 8 + (blw (shr x0 2) 8))) (1 + (blw (shr x0 5) 9))) z19)) H := hP
      have hD : va_D A ((SW cI cT cU ds (xPrune (xPrune σ ((blw x0 5) * 8 + (blw (shr x0 2) 8)) (1 + (blw (shr x0 5) 9))) (mir ((blw x0 5) * 8 + (blw (shr x0 2) 8))) (1 + (blw (shr x0 5) 9))) (z20 2)) ++ (XW cI cZ d (xPrune (xPrune σ ((blw x0 5) * 8 + (blw (shr x0 2) 8)) (1 + (blw (shr x0 5) 9))) (mir ((blw x0 5) * 8 + (blw (shr x0 2) 8))) (1 + (blw (shr x0 5) 9))) z19)) := hD
      have hp9 : ((XW cI cZ d (xPrune (xPrune σ ((blw x0 5) * 8 + (blw (shr x0 2) 8)) (1 + (blw (shr x0 5) 9))) (mir ((blw x0 5) * 8 + (blw (shr x0 2) 8))) (1 + (blw (shr x0 5) 9))) z19) ++ (SW cI cT cU ds (xPrune (xPrune σ ((blw x0 5) * 8 + (blw (shr x0 2) 8)) (1 + (blw (shr x0 5) 9))) (mir ((blw x0 5) * 8 + (blw (shr x0 2) 8))) (1 + (blw (shr x0 5) 9))) (z20 2)) : va_W).Perm ((SW cI cT cU ds (xPrune (xPrune σ ((blw x0 5) * 8 + (blw (shr x0 2) 8)) (1 + (blw (shr x0 5) 9))) (mir ((blw x0 5) * 8 + (blw (shr x0 2) 8))) (1 + (blw (shr x0 5) 9))) (z20 2)) ++ (XW cI cZ d (xPrune (xPrune σ ((blw x0 5) * 8 + (blw (shr x0 2) 8)) (1 + (blw (shr x0 5) 9))) (mir ((blw x0 5) * 8 + (blw (shr x0 2) 8))) (1 + (blw (shr x0 5) 9))) z19) : va_W) := List.perm_append_comm
      have hP : va_P D vwCl ((XW cI cZ d (xPrune (xPrune σ ((blw x0 5) * 8 + (blw (shr x0 2) 8)) (1 + (blw (shr x0 5) 9))) (mir ((blw x0 5) * 8 + (blw (shr x0 2) 8))) (1 + (blw (shr x0 5) 9))) z19) ++ (SW cI cT cU ds (xPrune (xPrune σ ((blw x0 5) * 8 + (blw (shr x0 2) 8)) (1 + (blw (shr x0 5) 9))) (mir ((blw x0 5) * 8 + (blw (shr x0 2) 8))) (1 + (blw (shr x0 5) 9))) (z20 2))) H := va_mem hP (fun q9 hq9 => hp9.mem_iff.mp hq9)
      have hD : va_D A ((XW cI cZ d (xPrune (xPrune σ ((blw x0 5) * 8 + (blw (shr x0 2) 8)) (1 + (blw (shr x0 5) 9))) (mir ((blw x0 5) * 8 + (blw (shr x0 2) 8))) (1 + (blw (shr x0 5) 9))) z19) ++ (SW cI cT cU ds (xPrune (xPrune σ ((blw x0 5) * 8 + (blw (shr x0 2) 8)) (1 + (blw (shr x0 5) 9))) (mir ((blw x0 5) * 8 + (blw (shr x0 2) 8))) (1 + (blw (shr x0 5) 9))) (z20 2))) := va_Dp hD hp9
      show W p l e ({ frames := 7, cells := 3, slots := 14, locals := 119 } : Room) s m args below meth c H locs 1 6 (MQ below (gQ D (tyA cI cZ cT cU cQ) (fun κ' => (XW cI cZ d (actS σ x0) κ') ++ (SW cI cT cU ds (actS σ x0) (κ' 2))) A (fun _ => some (.int (iI (1)))) (fun κ' => True)) args s 3 14 A) (F0 m 164 ls [.int (iI (who (prA σ ((blw x0 5) * 8 + (blw (shr x0 2) 8)) (1 + (blw (shr x0 5) 9))) (prA (xPrune σ ((blw x0 5) * 8 + (blw (shr x0 2) 8)) (1 + (blw (shr x0 5) 9))) (mir ((blw x0 5) * 8 + (blw (shr x0 2) 8))) (1 + (blw (shr x0 5) 9))))), .int (iI (who (prA σ ((blw x0 5) * 8 + (blw (shr x0 2) 8)) (1 + (blw (shr x0 5) 9))) (prA (xPrune σ ((blw x0 5) * 8 + (blw (shr x0 2) 8)) (1 + (blw (shr x0 5) 9))) (mir ((blw x0 5) * 8 + (blw (shr x0 2) 8))) (1 + (blw (shr x0 5) 9)))))])
      refine gi_icmp_ne (tgt := 171) hx hb dL_act_164 (by decide) (whoR _ _) (whoR _ _) (fun c164 => ?_) (fun c164 => ?_)
      · skip
        exact absurd rfl c164
      · skip
        refine lv_iconst (v := iI (1)) hx hb dL_act_167 rfl ?_
        refine lv_goto (tgt := 172) hx hb dL_act_168 (by decide) ?_
        have esx : (actS σ x0) = (xPrune (xPrune σ ((blw x0 5) * 8 + (blw (shr x0 2) 8)) (1 + (blw (shr x0 5) 9))) (mir ((blw x0 5) * 8 + (blw (shr x0 2) 8))) (1 + (blw (shr x0 5) 9))) := by unfold actS; rw [if_neg (show ¬ acH x0 < 3 by unfold acH; omega), if_pos (show acH x0 < 5 by unfold acH; omega)]; unfold acC; first | (rw [if_pos (by omega)]; rfl) | (rw [if_neg (by omega)]; rfl)
        have hP : va_P D vwCl ((XW cI cZ d (actS σ x0) z19) ++ (SW cI cT cU ds (actS σ x0) (z20 2))) H := by rw [esx]; exact hP
        have hD : va_D A ((XW cI cZ d (actS σ x0) z19) ++ (SW cI cT cU ds (actS σ x0) (z20 2))) := by rw [esx]; exact hD
        exact g_iret (wo := (fun κ' => (XW cI cZ d (actS σ x0) κ') ++ (SW cI cT cU ds (actS σ x0) (κ' 2)))) (kr := (fun κ' => True)) (rv := (fun _ => some (.int (iI (1))))) hx hb hr hlocks (fun a => if a = 2 then z20 2 else z19 a) (nar_z (Or.inr rfl)) hP hK hD hS trivial rfl (Nat.le_of_ble_eq_true rfl) (Nat.le_of_ble_eq_true rfl) dL_act_172
  rcases Int.decEq (blw (shr x0 7) 8) 4 with c35_4 | c35_4
  rotate_left
  · skip
    refine gi_tableIn (tgt := 120) hx hb dL_act_35 ⟨by omega, by omega⟩ 4 c35_4 (by decide) (by decide) rfl (by decide) ?_
    refine lv_iconst (v := iI (1)) hx hb dL_act_120 rfl ?_
    refine lv_iload_n hx hb dL_act_121 rfl (lv_at hl 5 rfl) ?_
    refine lv_iconst (v := iI (5)) hx hb dL_act_122 rfl ?_
    refine gi_shr hx hb dL_act_123 ?_
    refine lv_iload_n hx hb dL_act_124 rfl (lv_at hl 5 rfl) ?_
    refine lv_iconst (v := iI (2)) hx hb dL_act_125 rfl ?_
    have hPc : va_P D vwCl ((XW cI cZ d σ κ) ++ (SW cI cT cU ds σ ι)) H := hP
    have hDc : va_D A ((XW cI cZ d σ κ) ++ (SW cI cT cU ds σ ι)) := hD
    have hPc : va_P D vwCl ([] ++ ((XW cI cZ d σ κ) ++ (SW cI cT cU ds σ ι))) H := hPc
    have hDc : va_D A ([] ++ ((XW cI cZ d σ κ) ++ (SW cI cT cU ds σ ι))) := hDc
    refine g_call (va_runS (As := [.int (iI (x0)), .int (iI (2))]) (rest := [.int (iI (shr x0 5)), .int (iI (1))]) S ((kL_below l D cI cZ cT cU cQ x0 2 (by first | assumption | omega)) H.size) (va_cwS 2 hts gL_act_L_below rfl rfl rfl (by decide +kernel) ⟨Nat.le_of_ble_eq_true rfl, Nat.le_of_ble_eq_true rfl⟩) (g_preS (As := [.int (iI (x0)), .int (iI (2))]) gEx_t hK [0, 1, 2, 3, 4] rfl hPc hDc (fun _ _ _ => trivial)) rfl rfl hl.1 rfl (lv_room (Nat.le_of_ble_eq_true rfl)) dL_act_126 ⟨Nat.le_of_ble_eq_true rfl, Nat.le_of_ble_eq_true rfl⟩) hPc hDc hS hA (fun κ9 H locs hk hP hD hS => ?_)
    obtain ⟨z21, ezz21⟩ : ∃ z, z = κ9 := ⟨_, rfl⟩
    subst ezz21
    have hP : va_P D vwCl ((XW cI cZ d σ κ) ++ (SW cI cT cU ds σ ι)) H := hP
    have hD : va_D A ((XW cI cZ d σ κ) ++ (SW cI cT cU ds σ ι)) := hD
    show W p l e ({ frames := 7, cells := 3, slots := 14, locals := 119 } : Room) s m args below meth c H locs 0 0 (MQ below (gQ D (tyA cI cZ cT cU cQ) (fun κ' => (XW cI cZ d (actS σ x0) κ') ++ (SW cI cT cU ds (actS σ x0) (κ' 2))) A (fun _ => some (.int (iI (1)))) (fun κ' => True)) args s 3 14 A) (F0 m 129 ls [.int (iI (blw x0 2)), .int (iI (shr x0 5)), .int (iI (1))])
    refine gi_if_ne (tgt := 137) hx hb dL_act_129 (by decide) ⟨by omega, by omega⟩ (fun c129 => ?_) (fun c129 => ?_)
    · skip
      refine lv_iconst (v := iI (3)) hx hb dL_act_137 rfl ?_
      have hPc : va_P D vwCl ((XW cI cZ d σ κ) ++ (SW cI cT cU ds σ ι)) H := hP
      have hDc : va_D A ((XW cI cZ d σ κ) ++ (SW cI cT cU ds σ ι)) := hD
      have hPc : va_P D vwCl ([] ++ ((XW cI cZ d σ κ) ++ (SW cI cT cU ds σ ι))) H := hPc
      have hDc : va_D A ([] ++ ((XW cI cZ d σ κ) ++ (SW cI cT cU ds σ ι))) := hDc
      refine g_call (va_runS (As := [.int (iI (shr x0 5)), .int (iI (3))]) (rest := [.int (iI (1))]) S ((kL_below l D cI cZ cT cU cQ (shr x0 5) 3 (by first | assumption | omega)) H.size) (va_cwS 2 hts gL_act_L_below rfl rfl rfl (by decide +kernel) ⟨Nat.le_of_ble_eq_true rfl, Nat.le_of_ble_eq_true rfl⟩) (g_preS (As := [.int (iI (shr x0 5)), .int (iI (3))]) gEx_t hK [0, 1, 2, 3, 4] rfl hPc hDc (fun _ _ _ => trivial)) rfl rfl hl.1 rfl (lv_room (Nat.le_of_ble_eq_true rfl)) dL_act_138 ⟨Nat.le_of_ble_eq_true rfl, Nat.le_of_ble_eq_true rfl⟩) hPc hDc hS hA (fun κ9 H locs hk hP hD hS => ?_)
      obtain ⟨z22, ezz22⟩ : ∃ z, z = κ9 := ⟨_, rfl⟩
      subst ezz22
      have hP : va_P D vwCl ((XW cI cZ d σ κ) ++ (SW cI cT cU ds σ ι)) H := hP
      have hD : va_D A ((XW cI cZ d σ κ) ++ (SW cI cT cU ds σ ι)) := hD
      show W p l e ({ frames := 7, cells := 3, slots := 14, locals := 119 } : Room) s m args below meth c H locs 0 0 (MQ below (gQ D (tyA cI cZ cT cU cQ) (fun κ' => (XW cI cZ d (actS σ x0) κ') ++ (SW cI cT cU ds (actS σ x0) (κ' 2))) A (fun _ => some (.int (iI (1)))) (fun κ' => True)) args s 3 14 A) (F0 m 141 ls [.int (iI (blw (shr x0 5) 3)), .int (iI (1))])
      refine gi_add hx hb dL_act_141 ?_
      refine lv_istore (lv' := [(7, .int (iI (1 + (blw (shr x0 5) 3)))), (5, .int (iI (blw (shr x0 4) 6))), (4, .int (iI (blw (shr x0 2) 8))), (3, .int (iI (blw x0 5))), (0, .ref (d 0)), (1, .ref (ds 0)), (2, .int (iI (x0)))]) hx hb dL_act_142 hl (by decide) rfl (fun ls hl => ?_)
      refine lv_aload_n hx hb dL_act_144 rfl (lv_at hl 4 rfl) ?_
      refine lv_iload_n hx hb dL_act_145 rfl (lv_at hl 3 rfl) ?_
      refine lv_iload hx hb dL_act_146 (lv_at hl 2 rfl) ?_
      refine lv_iload hx hb dL_act_148 (lv_at hl 0 rfl) ?_
      have hPc : va_P D vwCl ((XW cI cZ d σ κ) ++ (SW cI cT cU ds σ ι)) H := hP
      have hDc : va_D A ((XW cI cZ d σ κ) ++ (SW cI cT cU ds σ ι)) := hD
      refine h_call0 (vx_runV (As := [.int (iI (blw x0 5)), .int (iI (blw (shr x0 2) 8)), .int (iI (1 + (blw (shr x0 5) 3)))]) (rest := []) S ((kX1_prune l hfl D cI cZ d σ κ (blw x0 5) (blw (shr x0 2) 8) (1 + (blw (shr x0 5) 3)) (by first | assumption | omega) (by first | assumption | omega) (by first | assumption | omega) (by first | assumption | omega) (by first | assumption | omega) (by first | assumption | omega) (by first | assumption | omega)) H.size) (cwV 3 hts gL_act_X1_prune rfl rfl rfl (by decide +kernel) ⟨Nat.le_of_ble_eq_true rfl, Nat.le_of_ble_eq_true rfl⟩) (h_preV hK [0, 1] rfl hPc hDc hS hA hTE (q0 := 0) (ci := 1) rfl rfl rfl) rfl rfl hl.1 rfl (lv_room (Nat.le_of_ble_eq_true rfl)) dL_act_150 ⟨Nat.le_of_ble_eq_true rfl, Nat.le_of_ble_eq_true rfl⟩) hPc hDc hS hA (fun E h => (by have h0 : (tPrune (blw x0 5) (blw (shr x0 2) 8) (1 + (blw (shr x0 5) 3))) = 0 := (by unfold tPrune; rw [if_neg (by omega), if_neg (by omega)]); rcases h with ⟨_, h⟩ | ⟨_, h⟩ <;> omega)) (fun κ9 H locs hk hP hD hS => ?_)
      obtain ⟨z23, ezz23⟩ : ∃ z, z = κ9 := ⟨_, rfl⟩
      subst ezz23
      have hP : va_P D vwCl ((XW cI cZ d (xPrune (xPrune σ ((blw x0 5) * 8 + (blw (shr x0 2) 8)) (1 + (blw (shr x0 5) 3))) (mir ((blw x0 5) * 8 + (blw (shr x0 2) 8))) (1 + (blw (shr x0 5) 3))) z23) ++ (SW cI cT cU ds σ ι)) H := hP
      have hD : va_D A ((XW cI cZ d (xPrune (xPrune σ ((blw x0 5) * 8 + (blw (shr x0 2) 8)) (1 + (blw (shr x0 5) 3))) (mir ((blw x0 5) * 8 + (blw (shr x0 2) 8))) (1 + (blw (shr x0 5) 3))) z23) ++ (SW cI cT cU ds σ ι)) := hD
      show W p l e ({ frames := 7, cells := 3, slots := 14, locals := 119 } : Room) s m args below meth c H locs 1 6 (MQ below (gQ D (tyA cI cZ cT cU cQ) (fun κ' => (XW cI cZ d (actS σ x0) κ') ++ (SW cI cT cU ds (actS σ x0) (κ' 2))) A (fun _ => some (.int (iI (1)))) (fun κ' => True)) args s 3 14 A) (F0 m 153 ls [.int (iI (who (prA σ ((blw x0 5) * 8 + (blw (shr x0 2) 8)) (1 + (blw (shr x0 5) 3))) (prA (xPrune σ ((blw x0 5) * 8 + (blw (shr x0 2) 8)) (1 + (blw (shr x0 5) 3))) (mir ((blw x0 5) * 8 + (blw (shr x0 2) 8))) (1 + (blw (shr x0 5) 3)))))])
      refine lv_aload_n hx hb dL_act_153 rfl (lv_at hl 5 rfl) ?_
      refine lv_iconst (v := iI (1)) hx hb dL_act_154 rfl ?_
      refine lv_iload_n hx hb dL_act_155 rfl (lv_at hl 3 rfl) ?_
      refine lv_iload hx hb dL_act_156 (lv_at hl 2 rfl) ?_
      refine lv_iload hx hb dL_act_158 (lv_at hl 0 rfl) ?_
      refine lv_iconst (v := iI (0)) hx hb dL_act_160 rfl ?_
      have hp9 : ((SW cI cT cU ds σ ι) ++ (XW cI cZ d (xPrune (xPrune σ ((blw x0 5) * 8 + (blw (shr x0 2) 8)) (1 + (blw (shr x0 5) 3))) (mir ((blw x0 5) * 8 + (blw (shr x0 2) 8))) (1 + (blw (shr x0 5) 3))) z23) : va_W).Perm ((XW cI cZ d (xPrune (xPrune σ ((blw x0 5) * 8 + (blw (shr x0 2) 8)) (1 + (blw (shr x0 5) 3))) (mir ((blw x0 5) * 8 + (blw (shr x0 2) 8))) (1 + (blw (shr x0 5) 3))) z23) ++ (SW cI cT cU ds σ ι) : va_W) := List.perm_append_comm
      have hPc : va_P D vwCl ((SW cI cT cU ds σ ι) ++ (XW cI cZ d (xPrune (xPrune σ ((blw x0 5) * 8 + (blw (shr x0 2) 8)) (1 + (blw (shr x0 5) 3))) (mir ((blw x0 5) * 8 + (blw (shr x0 2) 8))) (1 + (blw (shr x0 5) 3))) z23)) H := va_mem hP (fun q9 hq9 => hp9.mem_iff.mp hq9)
      have hDc : va_D A ((SW cI cT cU ds σ ι) ++ (XW cI cZ d (xPrune (xPrune σ ((blw x0 5) * 8 + (blw (shr x0 2) 8)) (1 + (blw (shr x0 5) 3))) (mir ((blw x0 5) * 8 + (blw (shr x0 2) 8))) (1 + (blw (shr x0 5) 3))) z23)) := va_Dp hD hp9
      refine g_call (va_runV (As := [.int (iI (1)), .int (iI (blw x0 5)), .int (iI (blw (shr x0 2) 8)), .int (iI (1 + (blw (shr x0 5) 3))), .int (iI (0))]) (rest := [.int (iI (who (prA σ ((blw x0 5) * 8 + (blw (shr x0 2) 8)) (1 + (blw (shr x0 5) 3))) (prA (xPrune σ ((blw x0 5) * 8 + (blw (shr x0 2) 8)) (1 + (blw (shr x0 5) 3))) (mir ((blw x0 5) * 8 + (blw (shr x0 2) 8))) (1 + (blw (shr x0 5) 3)))))]) S ((kX2_work_1 l D cI cZ cT cU cQ ds σ ι (blw x0 5) (blw (shr x0 2) 8) (1 + (blw (shr x0 5) 3)) (by first | assumption | omega) (by first | assumption | omega) (by first | assumption | omega) (by first | assumption | omega)) H.size) (cwV 5 hts gL_act_X2_work rfl rfl rfl (by decide +kernel) ⟨Nat.le_of_ble_eq_true rfl, Nat.le_of_ble_eq_true rfl⟩) (g_preV nst_g hK [0, 1, 2, 3, 4] rfl hPc hDc (fun U _ hW => nst_w hW hN) (q0 := 0) (ci := 2) rfl rfl rfl) rfl rfl hl.1 rfl (lv_room (Nat.le_of_ble_eq_true rfl)) dL_act_161 ⟨Nat.le_of_ble_eq_true rfl, Nat.le_of_ble_eq_true rfl⟩) hPc hDc hS hA (fun κ9 H locs hk hP hD hS => ?_)
      obtain ⟨z24, ezz24⟩ : ∃ z, z = κ9 := ⟨_, rfl⟩
      subst ezz24
      have hP : va_P D vwCl ((SW cI cT cU ds (xPrune (xPrune σ ((blw x0 5) * 8 + (blw (shr x0 2) 8)) (1 + (blw (shr x0 5) 3))) (mir ((blw x0 5) * 8 + (blw (shr x0 2) 8))) (1 + (blw (shr x0 5) 3))) (z24 2)) ++ (XW cI cZ d (xPrune (xPrune σ ((blw x0 5) * 8 + (blw (shr x0 2) 8)) (1 + (blw (shr x0 5) 3))) (mir ((blw x0 5) * 8 + (blw (shr x0 2) 8))) (1 + (blw (shr x0 5) 3))) z23)) H := hP
      have hD : va_D A ((SW cI cT cU ds (xPrune (xPrune σ ((blw x0 5) * 8 + (blw (shr x0 2) 8)) (1 + (blw (shr x0 5) 3))) (mir ((blw x0 5) * 8 + (blw (shr x0 2) 8))) (1 + (blw (shr x0 5) 3))) (z24 2)) ++ (XW cI cZ d (xPrune (xPrune σ ((blw x0 5) * 8 + (blw (shr x0 2) 8)) (1 + (blw (shr x0 5) 3))) (mir ((blw x0 5) * 8 + (blw (shr x0 2) 8))) (1 + (blw (shr x0 5) 3))) z23)) := hD
      have hp9 : ((XW cI cZ d (xPrune (xPrune σ ((blw x0 5) * 8 + (blw (shr x0 2) 8)) (1 + (blw (shr x0 5) 3))) (mir ((blw x0 5) * 8 + (blw (shr x0 2) 8))) (1 + (blw (shr x0 5) 3))) z23) ++ (SW cI cT cU ds (xPrune (xPrune σ ((blw x0 5) * 8 + (blw (shr x0 2) 8)) (1 + (blw (shr x0 5) 3))) (mir ((blw x0 5) * 8 + (blw (shr x0 2) 8))) (1 + (blw (shr x0 5) 3))) (z24 2)) : va_W).Perm ((SW cI cT cU ds (xPrune (xPrune σ ((blw x0 5) * 8 + (blw (shr x0 2) 8)) (1 + (blw (shr x0 5) 3))) (mir ((blw x0 5) * 8 + (blw (shr x0 2) 8))) (1 + (blw (shr x0 5) 3))) (z24 2)) ++ (XW cI cZ d (xPrune (xPrune σ ((blw x0 5) * 8 + (blw (shr x0 2) 8)) (1 + (blw (shr x0 5) 3))) (mir ((blw x0 5) * 8 + (blw (shr x0 2) 8))) (1 + (blw (shr x0 5) 3))) z23) : va_W) := List.perm_append_comm
      have hP : va_P D vwCl ((XW cI cZ d (xPrune (xPrune σ ((blw x0 5) * 8 + (blw (shr x0 2) 8)) (1 + (blw (shr x0 5) 3))) (mir ((blw x0 5) * 8 + (blw (shr x0 2) 8))) (1 + (blw (shr x0 5) 3))) z23) ++ (SW cI cT cU ds (xPrune (xPrune σ ((blw x0 5) * 8 + (blw (shr x0 2) 8)) (1 + (blw (shr x0 5) 3))) (mir ((blw x0 5) * 8 + (blw (shr x0 2) 8))) (1 + (blw (shr x0 5) 3))) (z24 2))) H := va_mem hP (fun q9 hq9 => hp9.mem_iff.mp hq9)
      have hD : va_D A ((XW cI cZ d (xPrune (xPrune σ ((blw x0 5) * 8 + (blw (shr x0 2) 8)) (1 + (blw (shr x0 5) 3))) (mir ((blw x0 5) * 8 + (blw (shr x0 2) 8))) (1 + (blw (shr x0 5) 3))) z23) ++ (SW cI cT cU ds (xPrune (xPrune σ ((blw x0 5) * 8 + (blw (shr x0 2) 8)) (1 + (blw (shr x0 5) 3))) (mir ((blw x0 5) * 8 + (blw (shr x0 2) 8))) (1 + (blw (shr x0 5) 3))) (z24 2))) := va_Dp hD hp9
      show W p l e ({ frames := 7, cells := 3, slots := 14, locals := 119 } : Room) s m args below meth c H locs 1 6 (MQ below (gQ D (tyA cI cZ cT cU cQ) (fun κ' => (XW cI cZ d (actS σ x0) κ') ++ (SW cI cT cU ds (actS σ x0) (κ' 2))) A (fun _ => some (.int (iI (1)))) (fun κ' => True)) args s 3 14 A) (F0 m 164 ls [.int (iI (who (prA σ ((blw x0 5) * 8 + (blw (shr x0 2) 8)) (1 + (blw (shr x0 5) 3))) (prA (xPrune σ ((blw x0 5) * 8 + (blw (shr x0 2) 8)) (1 + (blw (shr x0 5) 3))) (mir ((blw x0 5) * 8 + (blw (shr x0 2) 8))) (1 + (blw (shr x0 5) 3))))), .int (iI (who (prA σ ((blw x0 5) * 8 + (blw (shr x0 2) 8)) (1 + (blw (shr x0 5) 3))) (prA (xPrune σ ((blw x0 5) * 8 + (blw (shr x0 2) 8)) (1 + (blw (shr x0 5) 3))) (mir ((blw x0 5) * 8 + (blw (shr x0 2) 8))) (1 + (blw (shr x0 5) 3)))))])
      refine gi_icmp_ne (tgt := 171) hx hb dL_act_164 (by decide) (whoR _ _) (whoR _ _) (fun c164 => ?_) (fun c164 => ?_)
      · skip
        exact absurd rfl c164
      · skip
        refine lv_iconst (v := iI (1)) hx hb dL_act_167 rfl ?_
        refine lv_goto (tgt := 172) hx hb dL_act_168 (by decide) ?_
        have esx : (actS σ x0) = (xPrune (xPrune σ ((blw x0 5) * 8 + (blw (shr x0 2) 8)) (1 + (blw (shr x0 5) 3))) (mir ((blw x0 5) * 8 + (blw (shr x0 2) 8))) (1 + (blw (shr x0 5) 3))) := by unfold actS; rw [if_neg (show ¬ acH x0 < 3 by unfold acH; omega), if_pos (show acH x0 < 5 by unfold acH; omega)]; unfold acC; first | (rw [if_pos (by omega)]; rfl) | (rw [if_neg (by omega)]; rfl)
        have hP : va_P D vwCl ((XW cI cZ d (actS σ x0) z23) ++ (SW cI cT cU ds (actS σ x0) (z24 2))) H := by rw [esx]; exact hP
        have hD : va_D A ((XW cI cZ d (actS σ x0) z23) ++ (SW cI cT cU ds (actS σ x0) (z24 2))) := by rw [esx]; exact hD
        exact g_iret (wo := (fun κ' => (XW cI cZ d (actS σ x0) κ') ++ (SW cI cT cU ds (actS σ x0) (κ' 2)))) (kr := (fun κ' => True)) (rv := (fun _ => some (.int (iI (1))))) hx hb hr hlocks (fun a => if a = 2 then z24 2 else z23 a) (nar_z (Or.inr rfl)) hP hK hD hS trivial rfl (Nat.le_of_ble_eq_true rfl) (Nat.le_of_ble_eq_true rfl) dL_act_172
    · skip
      refine lv_bipush (v := iI (9)) hx hb dL_act_132 rfl ?_
      refine lv_goto (tgt := 138) hx hb dL_act_134 (by decide) ?_
      have hPc : va_P D vwCl ((XW cI cZ d σ κ) ++ (SW cI cT cU ds σ ι)) H := hP
      have hDc : va_D A ((XW cI cZ d σ κ) ++ (SW cI cT cU ds σ ι)) := hD
      have hPc : va_P D vwCl ([] ++ ((XW cI cZ d σ κ) ++ (SW cI cT cU ds σ ι))) H := hPc
      have hDc : va_D A ([] ++ ((XW cI cZ d σ κ) ++ (SW cI cT cU ds σ ι))) := hDc
      refine g_call (va_runS (As := [.int (iI (shr x0 5)), .int (iI (9))]) (rest := [.int (iI (1))]) S ((kL_below l D cI cZ cT cU cQ (shr x0 5) 9 (by first | assumption | omega)) H.size) (va_cwS 2 hts gL_act_L_below rfl rfl rfl (by decide +kernel) ⟨Nat.le_of_ble_eq_true rfl, Nat.le_of_ble_eq_true rfl⟩) (g_preS (As := [.int (iI (shr x0 5)), .int (iI (9))]) gEx_t hK [0, 1, 2, 3, 4] rfl hPc hDc (fun _ _ _ => trivial)) rfl rfl hl.1 rfl (lv_room (Nat.le_of_ble_eq_true rfl)) dL_act_138 ⟨Nat.le_of_ble_eq_true rfl, Nat.le_of_ble_eq_true rfl⟩) hPc hDc hS hA (fun κ9 H locs hk hP hD hS => ?_)
      obtain ⟨z25, ezz25⟩ : ∃ z, z = κ9 := ⟨_, rfl⟩
      subst ezz25
      have hP : va_P D vwCl ((XW cI cZ d σ κ) ++ (SW cI cT cU ds σ ι)) H := hP
      have hD : va_D A ((XW cI cZ d σ κ) ++ (SW cI cT cU ds σ ι)) := hD
      show W p l e ({ frames := 7, cells := 3, slots := 14, locals := 119 } : Room) s m args below meth c H locs 0 0 (MQ below (gQ D (tyA cI cZ cT cU cQ) (fun κ' => (XW cI cZ d (actS σ x0) κ') ++ (SW cI cT cU ds (actS σ x0) (κ' 2))) A (fun _ => some (.int (iI (1)))) (fun κ' => True)) args s 3 14 A) (F0 m 141 ls [.int (iI (blw (shr x0 5) 9)), .int (iI (1))])
      refine gi_add hx hb dL_act_141 ?_
      refine lv_istore (lv' := [(7, .int (iI (1 + (blw (shr x0 5) 9)))), (5, .int (iI (blw (shr x0 4) 6))), (4, .int (iI (blw (shr x0 2) 8))), (3, .int (iI (blw x0 5))), (0, .ref (d 0)), (1, .ref (ds 0)), (2, .int (iI (x0)))]) hx hb dL_act_142 hl (by decide) rfl (fun ls hl => ?_)
      refine lv_aload_n hx hb dL_act_144 rfl (lv_at hl 4 rfl) ?_
      refine lv_iload_n hx hb dL_act_145 rfl (lv_at hl 3 rfl) ?_
      refine lv_iload hx hb dL_act_146 (lv_at hl 2 rfl) ?_
      refine lv_iload hx hb dL_act_148 (lv_at hl 0 rfl) ?_
      have hPc : va_P D vwCl ((XW cI cZ d σ κ) ++ (SW cI cT cU ds σ ι)) H := hP
      have hDc : va_D A ((XW cI cZ d σ κ) ++ (SW cI cT cU ds σ ι)) := hD
      refine h_call0 (vx_runV (As := [.int (iI (blw x0 5)), .int (iI (blw (shr x0 2) 8)), .int (iI (1 + (blw (shr x0 5) 9)))]) (rest := []) S ((kX1_prune l hfl D cI cZ d σ κ (blw x0 5) (blw (shr x0 2) 8) (1 + (blw (shr x0 5) 9)) (by first | assumption | omega) (by first | assumption | omega) (by first | assumption | omega) (by first | assumption | omega) (by first | assumption | omega) (by first | assumption | omega) (by first | assumption | omega)) H.size) (cwV 3 hts gL_act_X1_prune rfl rfl rfl (by decide +kernel) ⟨Nat.le_of_ble_eq_true rfl, Nat.le_of_ble_eq_true rfl⟩) (h_preV hK [0, 1] rfl hPc hDc hS hA hTE (q0 := 0) (ci := 1) rfl rfl rfl) rfl rfl hl.1 rfl (lv_room (Nat.le_of_ble_eq_true rfl)) dL_act_150 ⟨Nat.le_of_ble_eq_true rfl, Nat.le_of_ble_eq_true rfl⟩) hPc hDc hS hA (fun E h => (by have h0 : (tPrune (blw x0 5) (blw (shr x0 2) 8) (1 + (blw (shr x0 5) 9))) = 0 := (by unfold tPrune; rw [if_neg (by omega), if_neg (by omega)]); rcases h with ⟨_, h⟩ | ⟨_, h⟩ <;> omega)) (fun κ9 H locs hk hP hD hS => ?_)
      obtain ⟨z26, ezz26⟩ : ∃ z, z = κ9 := ⟨_, rfl⟩
      subst ezz26
      have hP : va_P D vwCl ((XW cI cZ d (xPrune (xPrune σ ((blw x0 5) * 8 + (blw (shr x0 2) 8)) (1 + (blw (shr x0 5) 9))) (mir ((blw x0 5) * 8 + (blw (shr x0 2) 8))) (1 + (blw (shr x0 5) 9))) z26) ++ (SW cI cT cU ds σ ι)) H := hP
      have hD : va_D A ((XW cI cZ d (xPrune (xPrune σ ((blw x0 5) * 8 + (blw (shr x0 2) 8)) (1 + (blw (shr x0 5) 9))) (mir ((blw x0 5) * 8 + (blw (shr x0 2) 8))) (1 + (blw (shr x0 5) 9))) z26) ++ (SW cI cT cU ds σ ι)) := hD
      show W p l e ({ frames := 7, cells := 3, slots := 14, locals := 119 } : Room) s m args below meth c H locs 1 6 (MQ below (gQ D (tyA cI cZ cT cU cQ) (fun κ' => (XW cI cZ d (actS σ x0) κ') ++ (SW cI cT cU ds (actS σ x0) (κ' 2))) A (fun _ => some (.int (iI (1)))) (fun κ' => True)) args s 3 14 A) (F0 m 153 ls [.int (iI (who (prA σ ((blw x0 5) * 8 + (blw (shr x0 2) 8)) (1 + (blw (shr x0 5) 9))) (prA (xPrune σ ((blw x0 5) * 8 + (blw (shr x0 2) 8)) (1 + (blw (shr x0 5) 9))) (mir ((blw x0 5) * 8 + (blw (shr x0 2) 8))) (1 + (blw (shr x0 5) 9)))))])
      refine lv_aload_n hx hb dL_act_153 rfl (lv_at hl 5 rfl) ?_
      refine lv_iconst (v := iI (1)) hx hb dL_act_154 rfl ?_
      refine lv_iload_n hx hb dL_act_155 rfl (lv_at hl 3 rfl) ?_
      refine lv_iload hx hb dL_act_156 (lv_at hl 2 rfl) ?_
      refine lv_iload hx hb dL_act_158 (lv_at hl 0 rfl) ?_
      refine lv_iconst (v := iI (0)) hx hb dL_act_160 rfl ?_
      have hp9 : ((SW cI cT cU ds σ ι) ++ (XW cI cZ d (xPrune (xPrune σ ((blw x0 5) * 8 + (blw (shr x0 2) 8)) (1 + (blw (shr x0 5) 9))) (mir ((blw x0 5) * 8 + (blw (shr x0 2) 8))) (1 + (blw (shr x0 5) 9))) z26) : va_W).Perm ((XW cI cZ d (xPrune (xPrune σ ((blw x0 5) * 8 + (blw (shr x0 2) 8)) (1 + (blw (shr x0 5) 9))) (mir ((blw x0 5) * 8 + (blw (shr x0 2) 8))) (1 + (blw (shr x0 5) 9))) z26) ++ (SW cI cT cU ds σ ι) : va_W) := List.perm_append_comm
      have hPc : va_P D vwCl ((SW cI cT cU ds σ ι) ++ (XW cI cZ d (xPrune (xPrune σ ((blw x0 5) * 8 + (blw (shr x0 2) 8)) (1 + (blw (shr x0 5) 9))) (mir ((blw x0 5) * 8 + (blw (shr x0 2) 8))) (1 + (blw (shr x0 5) 9))) z26)) H := va_mem hP (fun q9 hq9 => hp9.mem_iff.mp hq9)
      have hDc : va_D A ((SW cI cT cU ds σ ι) ++ (XW cI cZ d (xPrune (xPrune σ ((blw x0 5) * 8 + (blw (shr x0 2) 8)) (1 + (blw (shr x0 5) 9))) (mir ((blw x0 5) * 8 + (blw (shr x0 2) 8))) (1 + (blw (shr x0 5) 9))) z26)) := va_Dp hD hp9
      refine g_call (va_runV (As := [.int (iI (1)), .int (iI (blw x0 5)), .int (iI (blw (shr x0 2) 8)), .int (iI (1 + (blw (shr x0 5) 9))), .int (iI (0))]) (rest := [.int (iI (who (prA σ ((blw x0 5) * 8 + (blw (shr x0 2) 8)) (1 + (blw (shr x0 5) 9))) (prA (xPrune σ ((blw x0 5) * 8 + (blw (shr x0 2) 8)) (1 + (blw (shr x0 5) 9))) (mir ((blw x0 5) * 8 + (blw (shr x0 2) 8))) (1 + (blw (shr x0 5) 9)))))]) S ((kX2_work_1 l D cI cZ cT cU cQ ds σ ι (blw x0 5) (blw (shr x0 2) 8) (1 + (blw (shr x0 5) 9)) (by first | assumption | omega) (by first | assumption | omega) (by first | assumption | omega) (by first | assumption | omega)) H.size) (cwV 5 hts gL_act_X2_work rfl rfl rfl (by decide +kernel) ⟨Nat.le_of_ble_eq_true rfl, Nat.le_of_ble_eq_true rfl⟩) (g_preV nst_g hK [0, 1, 2, 3, 4] rfl hPc hDc (fun U _ hW => nst_w hW hN) (q0 := 0) (ci := 2) rfl rfl rfl) rfl rfl hl.1 rfl (lv_room (Nat.le_of_ble_eq_true rfl)) dL_act_161 ⟨Nat.le_of_ble_eq_true rfl, Nat.le_of_ble_eq_true rfl⟩) hPc hDc hS hA (fun κ9 H locs hk hP hD hS => ?_)
      obtain ⟨z27, ezz27⟩ : ∃ z, z = κ9 := ⟨_, rfl⟩
      subst ezz27
      have hP : va_P D vwCl ((SW cI cT cU ds (xPrune (xPrune σ ((blw x0 5) * 8 + (blw (shr x0 2) 8)) (1 + (blw (shr x0 5) 9))) (mir ((blw x0 5) * 8 + (blw (shr x0 2) 8))) (1 + (blw (shr x0 5) 9))) (z27 2)) ++ (XW cI cZ d (xPrune (xPrune σ ((blw x0 5) * 8 + (blw (shr x0 2) 8)) (1 + (blw (shr x0 5) 9))) (mir ((blw x0 5) * 8 + (blw (shr x0 2) 8))) (1 + (blw (shr x0 5) 9))) z26)) H := hP
      have hD : va_D A ((SW cI cT cU ds (xPrune (xPrune σ ((blw x0 5) * 8 + (blw (shr x0 2) 8)) (1 + (blw (shr x0 5) 9))) (mir ((blw x0 5) * 8 + (blw (shr x0 2) 8))) (1 + (blw (shr x0 5) 9))) (z27 2)) ++ (XW cI cZ d (xPrune (xPrune σ ((blw x0 5) * 8 + (blw (shr x0 2) 8)) (1 + (blw (shr x0 5) 9))) (mir ((blw x0 5) * 8 + (blw (shr x0 2) 8))) (1 + (blw (shr x0 5) 9))) z26)) := hD
      have hp9 : ((XW cI cZ d (xPrune (xPrune σ ((blw x0 5) * 8 + (blw (shr x0 2) 8)) (1 + (blw (shr x0 5) 9))) (mir ((blw x0 5) * 8 + (blw (shr x0 2) 8))) (1 + (blw (shr x0 5) 9))) z26) ++ (SW cI cT cU ds (xPrune (xPrune σ ((blw x0 5) * 8 + (blw (shr x0 2) 8)) (1 + (blw (shr x0 5) 9))) (mir ((blw x0 5) * 8 + (blw (shr x0 2) 8))) (1 + (blw (shr x0 5) 9))) (z27 2)) : va_W).Perm ((SW cI cT cU ds (xPrune (xPrune σ ((blw x0 5) * 8 + (blw (shr x0 2) 8)) (1 + (blw (shr x0 5) 9))) (mir ((blw x0 5) * 8 + (blw (shr x0 2) 8))) (1 + (blw (shr x0 5) 9))) (z27 2)) ++ (XW cI cZ d (xPrune (xPrune σ ((blw x0 5) * 8 + (blw (shr x0 2) 8)) (1 + (blw (shr x0 5) 9))) (mir ((blw x0 5) * 8 + (blw (shr x0 2) 8))) (1 + (blw (shr x0 5) 9))) z26) : va_W) := List.perm_append_comm
      have hP : va_P D vwCl ((XW cI cZ d (xPrune (xPrune σ ((blw x0 5) * 8 + (blw (shr x0 2) 8)) (1 + (blw (shr x0 5) 9))) (mir ((blw x0 5) * 8 + (blw (shr x0 2) 8))) (1 + (blw (shr x0 5) 9))) z26) ++ (SW cI cT cU ds (xPrune (xPrune σ ((blw x0 5) * 8 + (blw (shr x0 2) 8)) (1 + (blw (shr x0 5) 9))) (mir ((blw x0 5) * 8 + (blw (shr x0 2) 8))) (1 + (blw (shr x0 5) 9))) (z27 2))) H := va_mem hP (fun q9 hq9 => hp9.mem_iff.mp hq9)
      have hD : va_D A ((XW cI cZ d (xPrune (xPrune σ ((blw x0 5) * 8 + (blw (shr x0 2) 8)) (1 + (blw (shr x0 5) 9))) (mir ((blw x0 5) * 8 + (blw (shr x0 2) 8))) (1 + (blw (shr x0 5) 9))) z26) ++ (SW cI cT cU ds (xPrune (xPrune σ ((blw x0 5) * 8 + (blw (shr x0 2) 8)) (1 + (blw (shr x0 5) 9))) (mir ((blw x0 5) * 8 + (blw (shr x0 2) 8))) (1 + (blw (shr x0 5) 9))) (z27 2))) := va_Dp hD hp9
      show W p l e ({ frames := 7, cells := 3, slots := 14, locals := 119 } : Room) s m args below meth c H locs 1 6 (MQ below (gQ D (tyA cI cZ cT cU cQ) (fun κ' => (XW cI cZ d (actS σ x0) κ') ++ (SW cI cT cU ds (actS σ x0) (κ' 2))) A (fun _ => some (.int (iI (1)))) (fun κ' => True)) args s 3 14 A) (F0 m 164 ls [.int (iI (who (prA σ ((blw x0 5) * 8 + (blw (shr x0 2) 8)) (1 + (blw (shr x0 5) 9))) (prA (xPrune σ ((blw x0 5) * 8 + (blw (shr x0 2) 8)) (1 + (blw (shr x0 5) 9))) (mir ((blw x0 5) * 8 + (blw (shr x0 2) 8))) (1 + (blw (shr x0 5) 9))))), .int (iI (who (prA σ ((blw x0 5) * 8 + (blw (shr x0 2) 8)) (1 + (blw (shr x0 5) 9))) (prA (xPrune σ ((blw x0 5) * 8 + (blw (shr x0 2) 8)) (1 + (blw (shr x0 5) 9))) (mir ((blw x0 5) * 8 + (blw (shr x0 2) 8))) (1 + (blw (shr x0 5) 9)))))])
      refine gi_icmp_ne (tgt := 171) hx hb dL_act_164 (by decide) (whoR _ _) (whoR _ _) (fun c164 => ?_) (fun c164 => ?_)
      · skip
        exact absurd rfl c164
      · skip
        refine lv_iconst (v := iI (1)) hx hb dL_act_167 rfl ?_
        refine lv_goto (tgt := 172) hx hb dL_act_168 (by decide) ?_
        have esx : (actS σ x0) = (xPrune (xPrune σ ((blw x0 5) * 8 + (blw (shr x0 2) 8)) (1 + (blw (shr x0 5) 9))) (mir ((blw x0 5) * 8 + (blw (shr x0 2) 8))) (1 + (blw (shr x0 5) 9))) := by unfold actS; rw [if_neg (show ¬ acH x0 < 3 by unfold acH; omega), if_pos (show acH x0 < 5 by unfold acH; omega)]; unfold acC; first | (rw [if_pos (by omega)]; rfl) | (rw [if_neg (by omega)]; rfl)
        have hP : va_P D vwCl ((XW cI cZ d (actS σ x0) z26) ++ (SW cI cT cU ds (actS σ x0) (z27 2))) H := by rw [esx]; exact hP
        have hD : va_D A ((XW cI cZ d (actS σ x0) z26) ++ (SW cI cT cU ds (actS σ x0) (z27 2))) := by rw [esx]; exact hD
        exact g_iret (wo := (fun κ' => (XW cI cZ d (actS σ x0) κ') ++ (SW cI cT cU ds (actS σ x0) (κ' 2)))) (kr := (fun κ' => True)) (rv := (fun _ => some (.int (iI (1))))) hx hb hr hlocks (fun a => if a = 2 then z27 2 else z26 a) (nar_z (Or.inr rfl)) hP hK hD hS trivial rfl (Nat.le_of_ble_eq_true rfl) (Nat.le_of_ble_eq_true rfl) dL_act_172
  rcases Int.decEq (blw (shr x0 7) 8) 5 with c35_5 | c35_5
  rotate_left
  · skip
    refine gi_tableIn (tgt := 173) hx hb dL_act_35 ⟨by omega, by omega⟩ 5 c35_5 (by decide) (by decide) rfl (by decide) ?_
    refine lv_aload_n hx hb dL_act_173 rfl (lv_at hl 3 rfl) ?_
    refine lv_iload_n hx hb dL_act_174 rfl (lv_at hl 2 rfl) ?_
    refine lv_iload hx hb dL_act_175 (lv_at hl 1 rfl) ?_
    refine lv_iload hx hb dL_act_177 (lv_at hl 0 rfl) ?_
    have hPc : va_P D vwCl ((XW cI cZ d σ κ) ++ (SW cI cT cU ds σ ι)) H := hP
    have hDc : va_D A ((XW cI cZ d σ κ) ++ (SW cI cT cU ds σ ι)) := hD
    refine h_call0 (vx_runV (As := [.int (iI (blw x0 5)), .int (iI (blw (shr x0 2) 8)), .int (iI (blw (shr x0 4) 6))]) (rest := []) S ((kX1_graft l hfl D cI cZ d σ κ (blw x0 5) (blw (shr x0 2) 8) (blw (shr x0 4) 6) (by first | assumption | omega) (by first | assumption | omega) (by first | assumption | omega) (by first | assumption | omega) (by first | assumption | omega) (by first | assumption | omega) (by first | assumption | omega)) H.size) (cwV 3 hts gL_act_X1_graft rfl rfl rfl (by decide +kernel) ⟨Nat.le_of_ble_eq_true rfl, Nat.le_of_ble_eq_true rfl⟩) (h_preV hK [0, 1] rfl hPc hDc hS hA hTE (q0 := 0) (ci := 1) rfl rfl rfl) rfl rfl hl.1 rfl (lv_room (Nat.le_of_ble_eq_true rfl)) dL_act_179 ⟨Nat.le_of_ble_eq_true rfl, Nat.le_of_ble_eq_true rfl⟩) hPc hDc hS hA (fun E h => (by have h0 : (tGraft (blw x0 5) (blw (shr x0 2) 8) (blw (shr x0 4) 6)) = 0 := (by unfold tGraft; rw [if_neg (by omega), if_neg (by omega)]); rcases h with ⟨_, h⟩ | ⟨_, h⟩ <;> omega)) (fun κ9 H locs hk hP hD hS => ?_)
    obtain ⟨z28, ezz28⟩ : ∃ z, z = κ9 := ⟨_, rfl⟩
    subst ezz28
    have hP : va_P D vwCl ((XW cI cZ d (xGraft (xGraft σ ((blw x0 5) * 8 + (blw (shr x0 2) 8)) (blw (shr x0 4) 6)) (mir ((blw x0 5) * 8 + (blw (shr x0 2) 8))) (blw (shr x0 4) 6)) z28) ++ (SW cI cT cU ds σ ι)) H := hP
    have hD : va_D A ((XW cI cZ d (xGraft (xGraft σ ((blw x0 5) * 8 + (blw (shr x0 2) 8)) (blw (shr x0 4) 6)) (mir ((blw x0 5) * 8 + (blw (shr x0 2) 8))) (blw (shr x0 4) 6)) z28) ++ (SW cI cT cU ds σ ι)) := hD
    show W p l e ({ frames := 7, cells := 3, slots := 14, locals := 119 } : Room) s m args below meth c H locs 1 6 (MQ below (gQ D (tyA cI cZ cT cU cQ) (fun κ' => (XW cI cZ d (actS σ x0) κ') ++ (SW cI cT cU ds (actS σ x0) (κ' 2))) A (fun _ => some (.int (iI (1)))) (fun κ' => True)) args s 3 14 A) (F0 m 182 ls [.int (iI (who (grA σ ((blw x0 5) * 8 + (blw (shr x0 2) 8)) (blw (shr x0 4) 6)) (grA (xGraft σ ((blw x0 5) * 8 + (blw (shr x0 2) 8)) (blw (shr x0 4) 6)) (mir ((blw x0 5) * 8 + (blw (shr x0 2) 8))) (blw (shr x0 4) 6))))])
    refine lv_aload_n hx hb dL_act_182 rfl (lv_at hl 4 rfl) ?_
    refine lv_iconst (v := iI (2)) hx hb dL_act_183 rfl ?_
    refine lv_iload_n hx hb dL_act_184 rfl (lv_at hl 2 rfl) ?_
    refine lv_iload hx hb dL_act_185 (lv_at hl 1 rfl) ?_
    refine lv_iload hx hb dL_act_187 (lv_at hl 0 rfl) ?_
    refine lv_iconst (v := iI (0)) hx hb dL_act_189 rfl ?_
    have hp9 : ((SW cI cT cU ds σ ι) ++ (XW cI cZ d (xGraft (xGraft σ ((blw x0 5) * 8 + (blw (shr x0 2) 8)) (blw (shr x0 4) 6)) (mir ((blw x0 5) * 8 + (blw (shr x0 2) 8))) (blw (shr x0 4) 6)) z28) : va_W).Perm ((XW cI cZ d (xGraft (xGraft σ ((blw x0 5) * 8 + (blw (shr x0 2) 8)) (blw (shr x0 4) 6)) (mir ((blw x0 5) * 8 + (blw (shr x0 2) 8))) (blw (shr x0 4) 6)) z28) ++ (SW cI cT cU ds σ ι) : va_W) := List.perm_append_comm
    have hPc : va_P D vwCl ((SW cI cT cU ds σ ι) ++ (XW cI cZ d (xGraft (xGraft σ ((blw x0 5) * 8 + (blw (shr x0 2) 8)) (blw (shr x0 4) 6)) (mir ((blw x0 5) * 8 + (blw (shr x0 2) 8))) (blw (shr x0 4) 6)) z28)) H := va_mem hP (fun q9 hq9 => hp9.mem_iff.mp hq9)
    have hDc : va_D A ((SW cI cT cU ds σ ι) ++ (XW cI cZ d (xGraft (xGraft σ ((blw x0 5) * 8 + (blw (shr x0 2) 8)) (blw (shr x0 4) 6)) (mir ((blw x0 5) * 8 + (blw (shr x0 2) 8))) (blw (shr x0 4) 6)) z28)) := va_Dp hD hp9
    refine g_call (va_runV (As := [.int (iI (2)), .int (iI (blw x0 5)), .int (iI (blw (shr x0 2) 8)), .int (iI (blw (shr x0 4) 6)), .int (iI (0))]) (rest := [.int (iI (who (grA σ ((blw x0 5) * 8 + (blw (shr x0 2) 8)) (blw (shr x0 4) 6)) (grA (xGraft σ ((blw x0 5) * 8 + (blw (shr x0 2) 8)) (blw (shr x0 4) 6)) (mir ((blw x0 5) * 8 + (blw (shr x0 2) 8))) (blw (shr x0 4) 6))))]) S ((kX2_work_2 l D cI cZ cT cU cQ ds σ ι (blw x0 5) (blw (shr x0 2) 8) (blw (shr x0 4) 6) (by first | assumption | omega) (by first | assumption | omega) (by first | assumption | omega) (by first | assumption | omega)) H.size) (cwV 5 hts gL_act_X2_work rfl rfl rfl (by decide +kernel) ⟨Nat.le_of_ble_eq_true rfl, Nat.le_of_ble_eq_true rfl⟩) (g_preV nst_g hK [0, 1, 2, 3, 4] rfl hPc hDc (fun U _ hW => nst_w hW hN) (q0 := 0) (ci := 2) rfl rfl rfl) rfl rfl hl.1 rfl (lv_room (Nat.le_of_ble_eq_true rfl)) dL_act_190 ⟨Nat.le_of_ble_eq_true rfl, Nat.le_of_ble_eq_true rfl⟩) hPc hDc hS hA (fun κ9 H locs hk hP hD hS => ?_)
    obtain ⟨z29, ezz29⟩ : ∃ z, z = κ9 := ⟨_, rfl⟩
    subst ezz29
    have hP : va_P D vwCl ((SW cI cT cU ds (xGraft (xGraft σ ((blw x0 5) * 8 + (blw (shr x0 2) 8)) (blw (shr x0 4) 6)) (mir ((blw x0 5) * 8 + (blw (shr x0 2) 8))) (blw (shr x0 4) 6)) (z29 2)) ++ (XW cI cZ d (xGraft (xGraft σ ((blw x0 5) * 8 + (blw (shr x0 2) 8)) (blw (shr x0 4) 6)) (mir ((blw x0 5) * 8 + (blw (shr x0 2) 8))) (blw (shr x0 4) 6)) z28)) H := hP
    have hD : va_D A ((SW cI cT cU ds (xGraft (xGraft σ ((blw x0 5) * 8 + (blw (shr x0 2) 8)) (blw (shr x0 4) 6)) (mir ((blw x0 5) * 8 + (blw (shr x0 2) 8))) (blw (shr x0 4) 6)) (z29 2)) ++ (XW cI cZ d (xGraft (xGraft σ ((blw x0 5) * 8 + (blw (shr x0 2) 8)) (blw (shr x0 4) 6)) (mir ((blw x0 5) * 8 + (blw (shr x0 2) 8))) (blw (shr x0 4) 6)) z28)) := hD
    have hp9 : ((XW cI cZ d (xGraft (xGraft σ ((blw x0 5) * 8 + (blw (shr x0 2) 8)) (blw (shr x0 4) 6)) (mir ((blw x0 5) * 8 + (blw (shr x0 2) 8))) (blw (shr x0 4) 6)) z28) ++ (SW cI cT cU ds (xGraft (xGraft σ ((blw x0 5) * 8 + (blw (shr x0 2) 8)) (blw (shr x0 4) 6)) (mir ((blw x0 5) * 8 + (blw (shr x0 2) 8))) (blw (shr x0 4) 6)) (z29 2)) : va_W).Perm ((SW cI cT cU ds (xGraft (xGraft σ ((blw x0 5) * 8 + (blw (shr x0 2) 8)) (blw (shr x0 4) 6)) (mir ((blw x0 5) * 8 + (blw (shr x0 2) 8))) (blw (shr x0 4) 6)) (z29 2)) ++ (XW cI cZ d (xGraft (xGraft σ ((blw x0 5) * 8 + (blw (shr x0 2) 8)) (blw (shr x0 4) 6)) (mir ((blw x0 5) * 8 + (blw (shr x0 2) 8))) (blw (shr x0 4) 6)) z28) : va_W) := List.perm_append_comm
    have hP : va_P D vwCl ((XW cI cZ d (xGraft (xGraft σ ((blw x0 5) * 8 + (blw (shr x0 2) 8)) (blw (shr x0 4) 6)) (mir ((blw x0 5) * 8 + (blw (shr x0 2) 8))) (blw (shr x0 4) 6)) z28) ++ (SW cI cT cU ds (xGraft (xGraft σ ((blw x0 5) * 8 + (blw (shr x0 2) 8)) (blw (shr x0 4) 6)) (mir ((blw x0 5) * 8 + (blw (shr x0 2) 8))) (blw (shr x0 4) 6)) (z29 2))) H := va_mem hP (fun q9 hq9 => hp9.mem_iff.mp hq9)
    have hD : va_D A ((XW cI cZ d (xGraft (xGraft σ ((blw x0 5) * 8 + (blw (shr x0 2) 8)) (blw (shr x0 4) 6)) (mir ((blw x0 5) * 8 + (blw (shr x0 2) 8))) (blw (shr x0 4) 6)) z28) ++ (SW cI cT cU ds (xGraft (xGraft σ ((blw x0 5) * 8 + (blw (shr x0 2) 8)) (blw (shr x0 4) 6)) (mir ((blw x0 5) * 8 + (blw (shr x0 2) 8))) (blw (shr x0 4) 6)) (z29 2))) := va_Dp hD hp9
    show W p l e ({ frames := 7, cells := 3, slots := 14, locals := 119 } : Room) s m args below meth c H locs 1 6 (MQ below (gQ D (tyA cI cZ cT cU cQ) (fun κ' => (XW cI cZ d (actS σ x0) κ') ++ (SW cI cT cU ds (actS σ x0) (κ' 2))) A (fun _ => some (.int (iI (1)))) (fun κ' => True)) args s 3 14 A) (F0 m 193 ls [.int (iI (who (grA σ ((blw x0 5) * 8 + (blw (shr x0 2) 8)) (blw (shr x0 4) 6)) (grA (xGraft σ ((blw x0 5) * 8 + (blw (shr x0 2) 8)) (blw (shr x0 4) 6)) (mir ((blw x0 5) * 8 + (blw (shr x0 2) 8))) (blw (shr x0 4) 6)))), .int (iI (who (grA σ ((blw x0 5) * 8 + (blw (shr x0 2) 8)) (blw (shr x0 4) 6)) (grA (xGraft σ ((blw x0 5) * 8 + (blw (shr x0 2) 8)) (blw (shr x0 4) 6)) (mir ((blw x0 5) * 8 + (blw (shr x0 2) 8))) (blw (shr x0 4) 6))))])
    refine gi_icmp_ne (tgt := 200) hx hb dL_act_193 (by decide) (whoR _ _) (whoR _ _) (fun c193 => ?_) (fun c193 => ?_)
    · skip
      exact absurd rfl c193
    · skip
      refine lv_iconst (v := iI (1)) hx hb dL_act_196 rfl ?_
      refine lv_goto (tgt := 201) hx hb dL_act_197 (by decide) ?_
      have esx : (actS σ x0) = (xGraft (xGraft σ ((blw x0 5) * 8 + (blw (shr x0 2) 8)) (blw (shr x0 4) 6)) (mir ((blw x0 5) * 8 + (blw (shr x0 2) 8))) (blw (shr x0 4) 6)) := by unfold actS; rw [if_neg (show ¬ acH x0 < 3 by unfold acH; omega), if_neg (show ¬ acH x0 < 5 by unfold acH; omega), if_pos (show acH x0 = 5 by unfold acH; omega)]; rfl
      have hP : va_P D vwCl ((XW cI cZ d (actS σ x0) z28) ++ (SW cI cT cU ds (actS σ x0) (z29 2))) H := by rw [esx]; exact hP
      have hD : va_D A ((XW cI cZ d (actS σ x0) z28) ++ (SW cI cT cU ds (actS σ x0) (z29 2))) := by rw [esx]; exact hD
      exact g_iret (wo := (fun κ' => (XW cI cZ d (actS σ x0) κ') ++ (SW cI cT cU ds (actS σ x0) (κ' 2)))) (kr := (fun κ' => True)) (rv := (fun _ => some (.int (iI (1))))) hx hb hr hlocks (fun a => if a = 2 then z29 2 else z28 a) (nar_z (Or.inr rfl)) hP hK hD hS trivial rfl (Nat.le_of_ble_eq_true rfl) (Nat.le_of_ble_eq_true rfl) dL_act_201
  rcases Int.decEq (blw (shr x0 7) 8) 6 with c35_6 | c35_6
  rotate_left
  · skip
    refine gi_tableIn (tgt := 202) hx hb dL_act_35 ⟨by omega, by omega⟩ 6 c35_6 (by decide) (by decide) rfl (by decide) ?_
    refine lv_iload_n hx hb dL_act_202 rfl (lv_at hl 5 rfl) ?_
    refine lv_iconst (v := iI (5)) hx hb dL_act_203 rfl ?_
    refine gi_shr hx hb dL_act_204 ?_
    refine lv_iconst (v := iI (3)) hx hb dL_act_205 rfl ?_
    have hPc : va_P D vwCl ((XW cI cZ d σ κ) ++ (SW cI cT cU ds σ ι)) H := hP
    have hDc : va_D A ((XW cI cZ d σ κ) ++ (SW cI cT cU ds σ ι)) := hD
    have hPc : va_P D vwCl ([] ++ ((XW cI cZ d σ κ) ++ (SW cI cT cU ds σ ι))) H := hPc
    have hDc : va_D A ([] ++ ((XW cI cZ d σ κ) ++ (SW cI cT cU ds σ ι))) := hDc
    refine g_call (va_runS (As := [.int (iI (shr x0 5)), .int (iI (3))]) (rest := []) S ((kL_below l D cI cZ cT cU cQ (shr x0 5) 3 (by first | assumption | omega)) H.size) (va_cwS 2 hts gL_act_L_below rfl rfl rfl (by decide +kernel) ⟨Nat.le_of_ble_eq_true rfl, Nat.le_of_ble_eq_true rfl⟩) (g_preS (As := [.int (iI (shr x0 5)), .int (iI (3))]) gEx_t hK [0, 1, 2, 3, 4] rfl hPc hDc (fun _ _ _ => trivial)) rfl rfl hl.1 rfl (lv_room (Nat.le_of_ble_eq_true rfl)) dL_act_206 ⟨Nat.le_of_ble_eq_true rfl, Nat.le_of_ble_eq_true rfl⟩) hPc hDc hS hA (fun κ9 H locs hk hP hD hS => ?_)
    obtain ⟨z30, ezz30⟩ : ∃ z, z = κ9 := ⟨_, rfl⟩
    subst ezz30
    have hP : va_P D vwCl ((XW cI cZ d σ κ) ++ (SW cI cT cU ds σ ι)) H := hP
    have hD : va_D A ((XW cI cZ d σ κ) ++ (SW cI cT cU ds σ ι)) := hD
    show W p l e ({ frames := 7, cells := 3, slots := 14, locals := 119 } : Room) s m args below meth c H locs 0 0 (MQ below (gQ D (tyA cI cZ cT cU cQ) (fun κ' => (XW cI cZ d (actS σ x0) κ') ++ (SW cI cT cU ds (actS σ x0) (κ' 2))) A (fun _ => some (.int (iI (1)))) (fun κ' => True)) args s 3 14 A) (F0 m 209 ls [.int (iI (blw (shr x0 5) 3))])
    refine gi_if_gt (tgt := 232) hx hb dL_act_209 (by decide) ⟨by omega, by omega⟩ (fun c209 => ?_) (fun c209 => ?_)
    · skip
      refine lv_iconst (v := iI (1)) hx hb dL_act_232 rfl ?_
      refine lv_goto (tgt := 237) hx hb dL_act_233 (by decide) ?_
      have esx : (actS σ x0) = (σ) := by unfold actS; rw [if_neg (show ¬ acH x0 < 3 by unfold acH; omega), if_neg (show ¬ acH x0 < 5 by unfold acH; omega), if_neg (show ¬ acH x0 = 5 by unfold acH; omega), if_pos (show acH x0 = 6 by unfold acH; omega)]; first | (rw [if_pos (by omega)]; done) | (rw [if_neg (by omega)]; rfl)
      have hP : va_P D vwCl ((XW cI cZ d (actS σ x0) κ) ++ (SW cI cT cU ds (actS σ x0) ι)) H := by rw [esx]; exact hP
      have hD : va_D A ((XW cI cZ d (actS σ x0) κ) ++ (SW cI cT cU ds (actS σ x0) ι)) := by rw [esx]; exact hD
      exact g_iret (wo := (fun κ' => (XW cI cZ d (actS σ x0) κ') ++ (SW cI cT cU ds (actS σ x0) (κ' 2)))) (kr := (fun κ' => True)) (rv := (fun _ => some (.int (iI (1))))) hx hb hr hlocks (fun a => if a = 2 then ι else κ a) (nar_z (Or.inr rfl)) hP hK hD hS trivial rfl (Nat.le_of_ble_eq_true rfl) (Nat.le_of_ble_eq_true rfl) dL_act_237
    · skip
      refine lv_aload_n hx hb dL_act_212 rfl (lv_at hl 3 rfl) ?_
      refine lv_iload_n hx hb dL_act_213 rfl (lv_at hl 2 rfl) ?_
      refine lv_iload hx hb dL_act_214 (lv_at hl 1 rfl) ?_
      have hPc : va_P D vwCl ((XW cI cZ d σ κ) ++ (SW cI cT cU ds σ ι)) H := hP
      have hDc : va_D A ((XW cI cZ d σ κ) ++ (SW cI cT cU ds σ ι)) := hD
      refine h_call0 (vx_runV (As := [.int (iI (blw x0 5)), .int (iI (blw (shr x0 2) 8))]) (rest := []) S ((kX1_fell l hfl D cI cZ d σ κ (blw x0 5) (blw (shr x0 2) 8) (by first | assumption | omega) (by first | assumption | omega) (by first | assumption | omega) (by first | assumption | omega) (by first | assumption | omega)) H.size) (cwV 2 hts gL_act_X1_fell rfl rfl rfl (by decide +kernel) ⟨Nat.le_of_ble_eq_true rfl, Nat.le_of_ble_eq_true rfl⟩) (h_preV hK [0, 1] rfl hPc hDc hS hA hTE (q0 := 0) (ci := 1) rfl rfl rfl) rfl rfl hl.1 rfl (lv_room (Nat.le_of_ble_eq_true rfl)) dL_act_216 ⟨Nat.le_of_ble_eq_true rfl, Nat.le_of_ble_eq_true rfl⟩) hPc hDc hS hA (fun E h => (by have h0 : (tFell (blw x0 5) (blw (shr x0 2) 8)) = 0 := (by unfold tFell; rw [if_neg (by omega)]); rcases h with ⟨_, h⟩ <;> omega)) (fun κ9 H locs hk hP hD hS => ?_)
      obtain ⟨z31, ezz31⟩ : ∃ z, z = κ9 := ⟨_, rfl⟩
      subst ezz31
      have hP : va_P D vwCl ((XW cI cZ d (xFell (xFell σ ((blw x0 5) * 8 + (blw (shr x0 2) 8))) (mir ((blw x0 5) * 8 + (blw (shr x0 2) 8)))) z31) ++ (SW cI cT cU ds σ ι)) H := hP
      have hD : va_D A ((XW cI cZ d (xFell (xFell σ ((blw x0 5) * 8 + (blw (shr x0 2) 8))) (mir ((blw x0 5) * 8 + (blw (shr x0 2) 8)))) z31) ++ (SW cI cT cU ds σ ι)) := hD
      show W p l e ({ frames := 7, cells := 3, slots := 14, locals := 119 } : Room) s m args below meth c H locs 1 6 (MQ below (gQ D (tyA cI cZ cT cU cQ) (fun κ' => (XW cI cZ d (actS σ x0) κ') ++ (SW cI cT cU ds (actS σ x0) (κ' 2))) A (fun _ => some (.int (iI (1)))) (fun κ' => True)) args s 3 14 A) (F0 m 219 ls [.int (iI (who (feA σ ((blw x0 5) * 8 + (blw (shr x0 2) 8))) (feA (xFell σ ((blw x0 5) * 8 + (blw (shr x0 2) 8))) (mir ((blw x0 5) * 8 + (blw (shr x0 2) 8))))))])
      refine lv_aload_n hx hb dL_act_219 rfl (lv_at hl 4 rfl) ?_
      refine lv_iconst (v := iI (3)) hx hb dL_act_220 rfl ?_
      refine lv_iload_n hx hb dL_act_221 rfl (lv_at hl 2 rfl) ?_
      refine lv_iload hx hb dL_act_222 (lv_at hl 1 rfl) ?_
      refine lv_iconst (v := iI (0)) hx hb dL_act_224 rfl ?_
      refine lv_iconst (v := iI (0)) hx hb dL_act_225 rfl ?_
      have hp9 : ((SW cI cT cU ds σ ι) ++ (XW cI cZ d (xFell (xFell σ ((blw x0 5) * 8 + (blw (shr x0 2) 8))) (mir ((blw x0 5) * 8 + (blw (shr x0 2) 8)))) z31) : va_W).Perm ((XW cI cZ d (xFell (xFell σ ((blw x0 5) * 8 + (blw (shr x0 2) 8))) (mir ((blw x0 5) * 8 + (blw (shr x0 2) 8)))) z31) ++ (SW cI cT cU ds σ ι) : va_W) := List.perm_append_comm
      have hPc : va_P D vwCl ((SW cI cT cU ds σ ι) ++ (XW cI cZ d (xFell (xFell σ ((blw x0 5) * 8 + (blw (shr x0 2) 8))) (mir ((blw x0 5) * 8 + (blw (shr x0 2) 8)))) z31)) H := va_mem hP (fun q9 hq9 => hp9.mem_iff.mp hq9)
      have hDc : va_D A ((SW cI cT cU ds σ ι) ++ (XW cI cZ d (xFell (xFell σ ((blw x0 5) * 8 + (blw (shr x0 2) 8))) (mir ((blw x0 5) * 8 + (blw (shr x0 2) 8)))) z31)) := va_Dp hD hp9
      refine g_call (va_runV (As := [.int (iI (3)), .int (iI (blw x0 5)), .int (iI (blw (shr x0 2) 8)), .int (iI (0)), .int (iI (0))]) (rest := [.int (iI (who (feA σ ((blw x0 5) * 8 + (blw (shr x0 2) 8))) (feA (xFell σ ((blw x0 5) * 8 + (blw (shr x0 2) 8))) (mir ((blw x0 5) * 8 + (blw (shr x0 2) 8))))))]) S ((kX2_work_3 l D cI cZ cT cU cQ ds σ ι (blw x0 5) (blw (shr x0 2) 8) (by first | assumption | omega) (by first | assumption | omega) (by first | assumption | omega)) H.size) (cwV 5 hts gL_act_X2_work rfl rfl rfl (by decide +kernel) ⟨Nat.le_of_ble_eq_true rfl, Nat.le_of_ble_eq_true rfl⟩) (g_preV nst_g hK [0, 1, 2, 3, 4] rfl hPc hDc (fun U _ hW => nst_w hW hN) (q0 := 0) (ci := 2) rfl rfl rfl) rfl rfl hl.1 rfl (lv_room (Nat.le_of_ble_eq_true rfl)) dL_act_226 ⟨Nat.le_of_ble_eq_true rfl, Nat.le_of_ble_eq_true rfl⟩) hPc hDc hS hA (fun κ9 H locs hk hP hD hS => ?_)
      obtain ⟨z32, ezz32⟩ : ∃ z, z = κ9 := ⟨_, rfl⟩
      subst ezz32
      have hP : va_P D vwCl ((SW cI cT cU ds (xFell (xFell σ ((blw x0 5) * 8 + (blw (shr x0 2) 8))) (mir ((blw x0 5) * 8 + (blw (shr x0 2) 8)))) (z32 2)) ++ (XW cI cZ d (xFell (xFell σ ((blw x0 5) * 8 + (blw (shr x0 2) 8))) (mir ((blw x0 5) * 8 + (blw (shr x0 2) 8)))) z31)) H := hP
      have hD : va_D A ((SW cI cT cU ds (xFell (xFell σ ((blw x0 5) * 8 + (blw (shr x0 2) 8))) (mir ((blw x0 5) * 8 + (blw (shr x0 2) 8)))) (z32 2)) ++ (XW cI cZ d (xFell (xFell σ ((blw x0 5) * 8 + (blw (shr x0 2) 8))) (mir ((blw x0 5) * 8 + (blw (shr x0 2) 8)))) z31)) := hD
      have hp9 : ((XW cI cZ d (xFell (xFell σ ((blw x0 5) * 8 + (blw (shr x0 2) 8))) (mir ((blw x0 5) * 8 + (blw (shr x0 2) 8)))) z31) ++ (SW cI cT cU ds (xFell (xFell σ ((blw x0 5) * 8 + (blw (shr x0 2) 8))) (mir ((blw x0 5) * 8 + (blw (shr x0 2) 8)))) (z32 2)) : va_W).Perm ((SW cI cT cU ds (xFell (xFell σ ((blw x0 5) * 8 + (blw (shr x0 2) 8))) (mir ((blw x0 5) * 8 + (blw (shr x0 2) 8)))) (z32 2)) ++ (XW cI cZ d (xFell (xFell σ ((blw x0 5) * 8 + (blw (shr x0 2) 8))) (mir ((blw x0 5) * 8 + (blw (shr x0 2) 8)))) z31) : va_W) := List.perm_append_comm
      have hP : va_P D vwCl ((XW cI cZ d (xFell (xFell σ ((blw x0 5) * 8 + (blw (shr x0 2) 8))) (mir ((blw x0 5) * 8 + (blw (shr x0 2) 8)))) z31) ++ (SW cI cT cU ds (xFell (xFell σ ((blw x0 5) * 8 + (blw (shr x0 2) 8))) (mir ((blw x0 5) * 8 + (blw (shr x0 2) 8)))) (z32 2))) H := va_mem hP (fun q9 hq9 => hp9.mem_iff.mp hq9)
      have hD : va_D A ((XW cI cZ d (xFell (xFell σ ((blw x0 5) * 8 + (blw (shr x0 2) 8))) (mir ((blw x0 5) * 8 + (blw (shr x0 2) 8)))) z31) ++ (SW cI cT cU ds (xFell (xFell σ ((blw x0 5) * 8 + (blw (shr x0 2) 8))) (mir ((blw x0 5) * 8 + (blw (shr x0 2) 8)))) (z32 2))) := va_Dp hD hp9
      show W p l e ({ frames := 7, cells := 3, slots := 14, locals := 119 } : Room) s m args below meth c H locs 1 6 (MQ below (gQ D (tyA cI cZ cT cU cQ) (fun κ' => (XW cI cZ d (actS σ x0) κ') ++ (SW cI cT cU ds (actS σ x0) (κ' 2))) A (fun _ => some (.int (iI (1)))) (fun κ' => True)) args s 3 14 A) (F0 m 229 ls [.int (iI (who (feA σ ((blw x0 5) * 8 + (blw (shr x0 2) 8))) (feA (xFell σ ((blw x0 5) * 8 + (blw (shr x0 2) 8))) (mir ((blw x0 5) * 8 + (blw (shr x0 2) 8)))))), .int (iI (who (feA σ ((blw x0 5) * 8 + (blw (shr x0 2) 8))) (feA (xFell σ ((blw x0 5) * 8 + (blw (shr x0 2) 8))) (mir ((blw x0 5) * 8 + (blw (shr x0 2) 8))))))])
      refine gi_icmp_ne (tgt := 236) hx hb dL_act_229 (by decide) (whoR _ _) (whoR _ _) (fun c229 => ?_) (fun c229 => ?_)
      · skip
        exact absurd rfl c229
      · skip
        refine lv_iconst (v := iI (1)) hx hb dL_act_232 rfl ?_
        refine lv_goto (tgt := 237) hx hb dL_act_233 (by decide) ?_
        have esx : (actS σ x0) = (xFell (xFell σ ((blw x0 5) * 8 + (blw (shr x0 2) 8))) (mir ((blw x0 5) * 8 + (blw (shr x0 2) 8)))) := by unfold actS; rw [if_neg (show ¬ acH x0 < 3 by unfold acH; omega), if_neg (show ¬ acH x0 < 5 by unfold acH; omega), if_neg (show ¬ acH x0 = 5 by unfold acH; omega), if_pos (show acH x0 = 6 by unfold acH; omega)]; first | (rw [if_pos (by omega)]; done) | (rw [if_neg (by omega)]; rfl)
        have hP : va_P D vwCl ((XW cI cZ d (actS σ x0) z31) ++ (SW cI cT cU ds (actS σ x0) (z32 2))) H := by rw [esx]; exact hP
        have hD : va_D A ((XW cI cZ d (actS σ x0) z31) ++ (SW cI cT cU ds (actS σ x0) (z32 2))) := by rw [esx]; exact hD
        exact g_iret (wo := (fun κ' => (XW cI cZ d (actS σ x0) κ') ++ (SW cI cT cU ds (actS σ x0) (κ' 2)))) (kr := (fun κ' => True)) (rv := (fun _ => some (.int (iI (1))))) hx hb hr hlocks (fun a => if a = 2 then z32 2 else z31 a) (nar_z (Or.inr rfl)) hP hK hD hS trivial rfl (Nat.le_of_ble_eq_true rfl) (Nat.le_of_ble_eq_true rfl) dL_act_237
  refine gi_tableOut (tgt := 238) hx hb dL_act_35 ⟨by omega, by omega⟩ (by omega) (by decide) ?_
  refine lv_sipush (v := iI (400)) hx hb dL_act_238 rfl ?_
  refine lv_aload_n hx hb dL_act_241 rfl (lv_at hl 4 rfl) ?_
  refine va_get (D := D) (ci := 2) (v := .ref (ds 5)) (C := RX2) (T := TX2) (N := 8) hx hb hts hinX2 hown hK (g_right hP) 0 rfl rfl 4 (by decide) (hts (.fieldLink RL 69 "TwinOrchardLaw$Sim" "barn" "[I") (List.mem_of_getElem? (i := 1) rfl)) (fun _ h9 => h9) rfl dL_act_242 ?_
  refine lv_iload hx hb dL_act_245 (lv_at hl 0 rfl) ?_
  refine gi_iald (a := (ds 5)) (n := 6) (f := σ 2) hx hb hK (g_right hP) 5 0 rfl rfl (by omega) (by omega) (by decide) dL_act_247 ?_
  refine gi_min hx hb (hml.trans hl.1.symm) hown (hts _ (List.mem_of_getElem? (i := 2) rfl)) (hts _ (List.mem_of_getElem? (i := 3) rfl)) (hts _ (List.mem_of_getElem? (i := 4) rfl)) (hts _ (List.mem_of_getElem? (i := 5) rfl)) (Nat.le_of_ble_eq_true rfl) (Nat.le_of_ble_eq_true rfl) (Nat.le_of_ble_eq_true rfl) (Nat.le_of_ble_eq_true rfl) ⟨by decide, by decide⟩ ⟨by omega, by omega⟩ dL_act_248 ?_
  refine lv_istore (lv' := [(8, .int (iI (min 400 (σ 2 (blw (shr x0 4) 6))))), (5, .int (iI (blw (shr x0 4) 6))), (4, .int (iI (blw (shr x0 2) 8))), (3, .int (iI (blw x0 5))), (0, .ref (d 0)), (1, .ref (ds 0)), (2, .int (iI (x0)))]) hx hb dL_act_251 hl (by decide) rfl (fun ls hl => ?_)
  refine lv_iload hx hb dL_act_253 (lv_at hl 0 rfl) ?_
  refine gi_if_ne (tgt := 260) hx hb dL_act_255 (by decide) ⟨by omega, by omega⟩ (fun c255 => ?_) (fun c255 => ?_)
  · skip
    refine lv_sipush (v := iI (200)) hx hb dL_act_260 rfl ?_
    refine lv_iload_n hx hb dL_act_263 rfl (lv_at hl 6 rfl) ?_
    refine lv_iconst (v := iI (1)) hx hb dL_act_264 rfl ?_
    refine gi_shr hx hb dL_act_265 ?_
    refine lv_iload hx hb dL_act_266 (lv_at hl 0 rfl) ?_
    refine lv_iconst (v := iI (1)) hx hb dL_act_268 rfl ?_
    refine gi_add hx hb dL_act_269 ?_
    have hPc : va_P D vwCl ((XW cI cZ d σ κ) ++ (SW cI cT cU ds σ ι)) H := hP
    have hDc : va_D A ((XW cI cZ d σ κ) ++ (SW cI cT cU ds σ ι)) := hD
    have hPc : va_P D vwCl ([] ++ ((XW cI cZ d σ κ) ++ (SW cI cT cU ds σ ι))) H := hPc
    have hDc : va_D A ([] ++ ((XW cI cZ d σ κ) ++ (SW cI cT cU ds σ ι))) := hDc
    refine g_call (va_runS (As := [.int (iI (shr x0 1)), .int (iI ((min 400 (σ 2 (blw (shr x0 4) 6))) + 1))]) (rest := [.int (iI (200))]) S ((kL_below l D cI cZ cT cU cQ (shr x0 1) ((min 400 (σ 2 (blw (shr x0 4) 6))) + 1) (by first | assumption | omega)) H.size) (va_cwS 2 hts gL_act_L_below rfl rfl rfl (by decide +kernel) ⟨Nat.le_of_ble_eq_true rfl, Nat.le_of_ble_eq_true rfl⟩) (g_preS (As := [.int (iI (shr x0 1)), .int (iI ((min 400 (σ 2 (blw (shr x0 4) 6))) + 1))]) gEx_t hK [0, 1, 2, 3, 4] rfl hPc hDc (fun _ _ _ => trivial)) rfl rfl hl.1 rfl (lv_room (Nat.le_of_ble_eq_true rfl)) dL_act_270 ⟨Nat.le_of_ble_eq_true rfl, Nat.le_of_ble_eq_true rfl⟩) hPc hDc hS hA (fun κ9 H locs hk hP hD hS => ?_)
    obtain ⟨z33, ezz33⟩ : ∃ z, z = κ9 := ⟨_, rfl⟩
    subst ezz33
    have hP : va_P D vwCl ((XW cI cZ d σ κ) ++ (SW cI cT cU ds σ ι)) H := hP
    have hD : va_D A ((XW cI cZ d σ κ) ++ (SW cI cT cU ds σ ι)) := hD
    show W p l e ({ frames := 7, cells := 3, slots := 14, locals := 119 } : Room) s m args below meth c H locs 0 0 (MQ below (gQ D (tyA cI cZ cT cU cQ) (fun κ' => (XW cI cZ d (actS σ x0) κ') ++ (SW cI cT cU ds (actS σ x0) (κ' 2))) A (fun _ => some (.int (iI (1)))) (fun κ' => True)) args s 3 14 A) (F0 m 273 ls [.int (iI (blw (shr x0 1) ((min 400 (σ 2 (blw (shr x0 4) 6))) + 1))), .int (iI (200))])
    have kl := blw_in (shr x0 1) (n := min 400 (σ 2 (blw (shr x0 4) 6)) + 1) (by omega)
    refine gi_min hx hb (hml.trans hl.1.symm) hown (hts _ (List.mem_of_getElem? (i := 2) rfl)) (hts _ (List.mem_of_getElem? (i := 3) rfl)) (hts _ (List.mem_of_getElem? (i := 4) rfl)) (hts _ (List.mem_of_getElem? (i := 5) rfl)) (Nat.le_of_ble_eq_true rfl) (Nat.le_of_ble_eq_true rfl) (Nat.le_of_ble_eq_true rfl) (Nat.le_of_ble_eq_true rfl) ⟨by decide, by decide⟩ ⟨by omega, by omega⟩ dL_act_273 ?_
    refine lv_istore (lv' := [(9, .int (iI (min 200 (blw (shr x0 1) ((min 400 (σ 2 (blw (shr x0 4) 6))) + 1))))), (8, .int (iI (min 400 (σ 2 (blw (shr x0 4) 6))))), (5, .int (iI (blw (shr x0 4) 6))), (4, .int (iI (blw (shr x0 2) 8))), (3, .int (iI (blw x0 5))), (0, .ref (d 0)), (1, .ref (ds 0)), (2, .int (iI (x0)))]) hx hb dL_act_276 hl (by decide) rfl (fun ls hl => ?_)
    refine lv_sipush (v := iI (200)) hx hb dL_act_278 rfl ?_
    refine lv_iload_n hx hb dL_act_281 rfl (lv_at hl 7 rfl) ?_
    refine lv_iconst (v := iI (5)) hx hb dL_act_282 rfl ?_
    refine gi_shr hx hb dL_act_283 ?_
    refine lv_iload hx hb dL_act_284 (lv_at hl 1 rfl) ?_
    refine lv_iload hx hb dL_act_286 (lv_at hl 0 rfl) ?_
    refine gi_sub hx hb dL_act_288 ?_
    refine lv_iconst (v := iI (1)) hx hb dL_act_289 rfl ?_
    refine gi_add hx hb dL_act_290 ?_
    have hPc : va_P D vwCl ((XW cI cZ d σ κ) ++ (SW cI cT cU ds σ ι)) H := hP
    have hDc : va_D A ((XW cI cZ d σ κ) ++ (SW cI cT cU ds σ ι)) := hD
    have hPc : va_P D vwCl ([] ++ ((XW cI cZ d σ κ) ++ (SW cI cT cU ds σ ι))) H := hPc
    have hDc : va_D A ([] ++ ((XW cI cZ d σ κ) ++ (SW cI cT cU ds σ ι))) := hDc
    refine g_call (va_runS (As := [.int (iI (shr x0 5)), .int (iI (((min 400 (σ 2 (blw (shr x0 4) 6))) - (min 200 (blw (shr x0 1) ((min 400 (σ 2 (blw (shr x0 4) 6))) + 1)))) + 1))]) (rest := [.int (iI (200))]) S ((kL_below l D cI cZ cT cU cQ (shr x0 5) (((min 400 (σ 2 (blw (shr x0 4) 6))) - (min 200 (blw (shr x0 1) ((min 400 (σ 2 (blw (shr x0 4) 6))) + 1)))) + 1) (by first | assumption | omega)) H.size) (va_cwS 2 hts gL_act_L_below rfl rfl rfl (by decide +kernel) ⟨Nat.le_of_ble_eq_true rfl, Nat.le_of_ble_eq_true rfl⟩) (g_preS (As := [.int (iI (shr x0 5)), .int (iI (((min 400 (σ 2 (blw (shr x0 4) 6))) - (min 200 (blw (shr x0 1) ((min 400 (σ 2 (blw (shr x0 4) 6))) + 1)))) + 1))]) gEx_t hK [0, 1, 2, 3, 4] rfl hPc hDc (fun _ _ _ => trivial)) rfl rfl hl.1 rfl (lv_room (Nat.le_of_ble_eq_true rfl)) dL_act_291 ⟨Nat.le_of_ble_eq_true rfl, Nat.le_of_ble_eq_true rfl⟩) hPc hDc hS hA (fun κ9 H locs hk hP hD hS => ?_)
    obtain ⟨z34, ezz34⟩ : ∃ z, z = κ9 := ⟨_, rfl⟩
    subst ezz34
    have hP : va_P D vwCl ((XW cI cZ d σ κ) ++ (SW cI cT cU ds σ ι)) H := hP
    have hD : va_D A ((XW cI cZ d σ κ) ++ (SW cI cT cU ds σ ι)) := hD
    show W p l e ({ frames := 7, cells := 3, slots := 14, locals := 119 } : Room) s m args below meth c H locs 0 0 (MQ below (gQ D (tyA cI cZ cT cU cQ) (fun κ' => (XW cI cZ d (actS σ x0) κ') ++ (SW cI cT cU ds (actS σ x0) (κ' 2))) A (fun _ => some (.int (iI (1)))) (fun κ' => True)) args s 3 14 A) (F0 m 294 ls [.int (iI (blw (shr x0 5) (((min 400 (σ 2 (blw (shr x0 4) 6))) - (min 200 (blw (shr x0 1) ((min 400 (σ 2 (blw (shr x0 4) 6))) + 1)))) + 1))), .int (iI (200))])
    have kq := blw_in (shr x0 5) (n := min 400 (σ 2 (blw (shr x0 4) 6)) - min 200 (blw (shr x0 1) (min 400 (σ 2 (blw (shr x0 4) 6)) + 1)) + 1) (by omega)
    refine gi_min hx hb (hml.trans hl.1.symm) hown (hts _ (List.mem_of_getElem? (i := 2) rfl)) (hts _ (List.mem_of_getElem? (i := 3) rfl)) (hts _ (List.mem_of_getElem? (i := 4) rfl)) (hts _ (List.mem_of_getElem? (i := 5) rfl)) (Nat.le_of_ble_eq_true rfl) (Nat.le_of_ble_eq_true rfl) (Nat.le_of_ble_eq_true rfl) (Nat.le_of_ble_eq_true rfl) ⟨by decide, by decide⟩ ⟨by omega, by omega⟩ dL_act_294 ?_
    refine lv_istore (lv' := [(10, .int (iI (min 200 (blw (shr x0 5) (((min 400 (σ 2 (blw (shr x0 4) 6))) - (min 200 (blw (shr x0 1) ((min 400 (σ 2 (blw (shr x0 4) 6))) + 1)))) + 1))))), (9, .int (iI (min 200 (blw (shr x0 1) ((min 400 (σ 2 (blw (shr x0 4) 6))) + 1))))), (8, .int (iI (min 400 (σ 2 (blw (shr x0 4) 6))))), (5, .int (iI (blw (shr x0 4) 6))), (4, .int (iI (blw (shr x0 2) 8))), (3, .int (iI (blw x0 5))), (0, .ref (d 0)), (1, .ref (ds 0)), (2, .int (iI (x0)))]) hx hb dL_act_297 hl (by decide) rfl (fun ls hl => ?_)
    refine lv_iload hx hb dL_act_299 (lv_at hl 1 rfl) ?_
    refine lv_iload hx hb dL_act_301 (lv_at hl 0 rfl) ?_
    refine gi_add hx hb dL_act_303 ?_
    refine gi_if_ne (tgt := 309) hx hb dL_act_304 (by decide) ⟨by omega, by omega⟩ (fun c304 => ?_) (fun c304 => ?_)
    · skip
      refine lv_aload_n hx hb dL_act_309 rfl (lv_at hl 7 rfl) ?_
      refine va_get (D := D) (ci := 2) (v := .ref (ds 5)) (C := RX2) (T := TX2) (N := 8) hx hb hts hinX2 hown hK (g_right hP) 0 rfl rfl 4 (by decide) (hts (.fieldLink RL 69 "TwinOrchardLaw$Sim" "barn" "[I") (List.mem_of_getElem? (i := 1) rfl)) (fun _ h9 => h9) rfl dL_act_310 ?_
      refine lv_iload hx hb dL_act_313 (lv_at hl 3 rfl) ?_
      refine lv_dup2_11 hx hb dL_act_315 rfl rfl ?_
      refine gi_iald (a := (ds 5)) (n := 6) (f := σ 2) hx hb hK (g_right hP) 5 0 rfl rfl (by omega) (by omega) (by decide) dL_act_316 ?_
      refine lv_iload hx hb dL_act_317 (lv_at hl 1 rfl) ?_
      refine lv_iload hx hb dL_act_319 (lv_at hl 0 rfl) ?_
      refine gi_add hx hb dL_act_321 ?_
      refine gi_sub hx hb dL_act_322 ?_
      refine gi_iast (a := ds 5) (n := 6) (f := σ 2) hx hb hK hP hD hS 17 0 rfl rfl (by omega) (by omega) (by decide) dL_act_323 (fun H locs hP hD hS => ?_)
      have hP : va_P D vwCl ((XW cI cZ d σ κ) ++ (SW cI cT cU ds (su σ 2 (blw (shr x0 4) 6) ((σ 2 (blw (shr x0 4) 6)) - ((min 200 (blw (shr x0 1) ((min 400 (σ 2 (blw (shr x0 4) 6))) + 1))) + (min 200 (blw (shr x0 5) (((min 400 (σ 2 (blw (shr x0 4) 6))) - (min 200 (blw (shr x0 1) ((min 400 (σ 2 (blw (shr x0 4) 6))) + 1)))) + 1)))))) ι)) H := hP
      have hD : va_D A ((XW cI cZ d σ κ) ++ (SW cI cT cU ds (su σ 2 (blw (shr x0 4) 6) ((σ 2 (blw (shr x0 4) 6)) - ((min 200 (blw (shr x0 1) ((min 400 (σ 2 (blw (shr x0 4) 6))) + 1))) + (min 200 (blw (shr x0 5) (((min 400 (σ 2 (blw (shr x0 4) 6))) - (min 200 (blw (shr x0 1) ((min 400 (σ 2 (blw (shr x0 4) 6))) + 1)))) + 1)))))) ι)) := hD
      refine lv_aload_n hx hb dL_act_324 rfl (lv_at hl 7 rfl) ?_
      refine lv_dup hx hb dL_act_325 rfl ?_
      refine va_get (D := D) (ci := 2) (v := .int (iI ((su σ 2 (blw (shr x0 4) 6) ((σ 2 (blw (shr x0 4) 6)) - ((min 200 (blw (shr x0 1) ((min 400 (σ 2 (blw (shr x0 4) 6))) + 1))) + (min 200 (blw (shr x0 5) (((min 400 (σ 2 (blw (shr x0 4) 6))) - (min 200 (blw (shr x0 1) ((min 400 (σ 2 (blw (shr x0 4) 6))) + 1)))) + 1)))))) 9 1))) (C := RX2) (T := TX2) (N := 8) hx hb hts hinX2 hown hK (g_right hP) 0 rfl rfl 7 (by decide) (hts (.fieldLink RL 77 "TwinOrchardLaw$Sim" "tilt" "I") (List.mem_of_getElem? (i := 6) rfl)) (fun _ h9 => h9) rfl dL_act_326 ?_
      rw [show ((su σ 2 (blw (shr x0 4) 6) ((σ 2 (blw (shr x0 4) 6)) - ((min 200 (blw (shr x0 1) ((min 400 (σ 2 (blw (shr x0 4) 6))) + 1))) + (min 200 (blw (shr x0 5) (((min 400 (σ 2 (blw (shr x0 4) 6))) - (min 200 (blw (shr x0 1) ((min 400 (σ 2 (blw (shr x0 4) 6))) + 1)))) + 1)))))) 9 1) = (σ 9 1) from by rfl]
      refine lv_aload_n hx hb dL_act_329 rfl (lv_at hl 7 rfl) ?_
      refine va_get (D := D) (ci := 2) (v := .ref (ds 2)) (C := RX2) (T := TX2) (N := 8) hx hb hts hinX2 hown hK (g_right hP) 0 rfl rfl 1 (by decide) (hts (.fieldLink RL 22 "TwinOrchardLaw$Sim" "weight" "[I") (List.mem_of_getElem? (i := 7) rfl)) (fun _ h9 => h9) rfl dL_act_330 ?_
      refine lv_iload hx hb dL_act_333 (lv_at hl 3 rfl) ?_
      refine gi_iald (a := (ds 2)) (n := 6) (f := (su σ 2 (blw (shr x0 4) 6) ((σ 2 (blw (shr x0 4) 6)) - ((min 200 (blw (shr x0 1) ((min 400 (σ 2 (blw (shr x0 4) 6))) + 1))) + (min 200 (blw (shr x0 5) (((min 400 (σ 2 (blw (shr x0 4) 6))) - (min 200 (blw (shr x0 1) ((min 400 (σ 2 (blw (shr x0 4) 6))) + 1)))) + 1)))))) 0) hx hb hK (g_right hP) 2 0 rfl rfl (by omega) (by omega) (by decide) dL_act_335 ?_
      rw [show ((su σ 2 (blw (shr x0 4) 6) ((σ 2 (blw (shr x0 4) 6)) - ((min 200 (blw (shr x0 1) ((min 400 (σ 2 (blw (shr x0 4) 6))) + 1))) + (min 200 (blw (shr x0 5) (((min 400 (σ 2 (blw (shr x0 4) 6))) - (min 200 (blw (shr x0 1) ((min 400 (σ 2 (blw (shr x0 4) 6))) + 1)))) + 1)))))) 0 (blw (shr x0 4) 6)) = (σ 0 (blw (shr x0 4) 6)) from by rfl]
      refine lv_iload hx hb dL_act_336 (lv_at hl 1 rfl) ?_
      refine gi_mul hx hb dL_act_338 ?_
      refine lv_aload_n hx hb dL_act_339 rfl (lv_at hl 7 rfl) ?_
      refine va_get (D := D) (ci := 2) (v := .ref (ds 2)) (C := RX2) (T := TX2) (N := 8) hx hb hts hinX2 hown hK (g_right hP) 0 rfl rfl 1 (by decide) (hts (.fieldLink RL 22 "TwinOrchardLaw$Sim" "weight" "[I") (List.mem_of_getElem? (i := 7) rfl)) (fun _ h9 => h9) rfl dL_act_340 ?_
      refine lv_iload hx hb dL_act_343 (lv_at hl 3 rfl) ?_
      refine gi_iald (a := (ds 2)) (n := 6) (f := (su σ 2 (blw (shr x0 4) 6) ((σ 2 (blw (shr x0 4) 6)) - ((min 200 (blw (shr x0 1) ((min 400 (σ 2 (blw (shr x0 4) 6))) + 1))) + (min 200 (blw (shr x0 5) (((min 400 (σ 2 (blw (shr x0 4) 6))) - (min 200 (blw (shr x0 1) ((min 400 (σ 2 (blw (shr x0 4) 6))) + 1)))) + 1)))))) 0) hx hb hK (g_right hP) 2 0 rfl rfl (by omega) (by omega) (by decide) dL_act_345 ?_
      rw [show ((su σ 2 (blw (shr x0 4) 6) ((σ 2 (blw (shr x0 4) 6)) - ((min 200 (blw (shr x0 1) ((min 400 (σ 2 (blw (shr x0 4) 6))) + 1))) + (min 200 (blw (shr x0 5) (((min 400 (σ 2 (blw (shr x0 4) 6))) - (min 200 (blw (shr x0 1) ((min 400 (σ 2 (blw (shr x0 4) 6))) + 1)))) + 1)))))) 0 (blw (shr x0 4) 6)) = (σ 0 (blw (shr x0 4) 6)) from by rfl]
      refine lv_iload hx hb dL_act_346 (lv_at hl 0 rfl) ?_
      refine gi_mul hx hb dL_act_348 ?_
      refine gi_sub hx hb dL_act_349 ?_
      refine gi_add hx hb dL_act_350 ?_
      refine va_put (D := D) (ci := 2) (v := .int (iI ((σ 9 1) + (((σ 0 (blw (shr x0 4) 6)) * (min 200 (blw (shr x0 1) ((min 400 (σ 2 (blw (shr x0 4) 6))) + 1)))) - ((σ 0 (blw (shr x0 4) 6)) * (min 200 (blw (shr x0 5) (((min 400 (σ 2 (blw (shr x0 4) 6))) - (min 200 (blw (shr x0 1) ((min 400 (σ 2 (blw (shr x0 4) 6))) + 1)))) + 1)))))))) (ty := .int) (C := RX2) (T := TX2) (N := 8) hx hb hts hinX2 tyX2 tyX2_ok nmX2 hown hK hP hD hS 12 rfl rfl 7 (by decide) (hts (.fieldLink RL 77 "TwinOrchardLaw$Sim" "tilt" "I") (List.mem_of_getElem? (i := 6) rfl)) (fun _ h9 => h9) rfl (by decide +kernel) rfl rfl (Nat.le_of_ble_eq_true rfl) dL_act_351 (fun H locs hP hD hS => ?_)
      have hP : va_P D vwCl ((XW cI cZ d σ κ) ++ (SW cI cT cU ds (su (su σ 2 (blw (shr x0 4) 6) ((σ 2 (blw (shr x0 4) 6)) - ((min 200 (blw (shr x0 1) ((min 400 (σ 2 (blw (shr x0 4) 6))) + 1))) + (min 200 (blw (shr x0 5) (((min 400 (σ 2 (blw (shr x0 4) 6))) - (min 200 (blw (shr x0 1) ((min 400 (σ 2 (blw (shr x0 4) 6))) + 1)))) + 1)))))) 9 1 ((σ 9 1) + (((σ 0 (blw (shr x0 4) 6)) * (min 200 (blw (shr x0 1) ((min 400 (σ 2 (blw (shr x0 4) 6))) + 1)))) - ((σ 0 (blw (shr x0 4) 6)) * (min 200 (blw (shr x0 5) (((min 400 (σ 2 (blw (shr x0 4) 6))) - (min 200 (blw (shr x0 1) ((min 400 (σ 2 (blw (shr x0 4) 6))) + 1)))) + 1))))))) ι)) H := hP
      have hD : va_D A ((XW cI cZ d σ κ) ++ (SW cI cT cU ds (su (su σ 2 (blw (shr x0 4) 6) ((σ 2 (blw (shr x0 4) 6)) - ((min 200 (blw (shr x0 1) ((min 400 (σ 2 (blw (shr x0 4) 6))) + 1))) + (min 200 (blw (shr x0 5) (((min 400 (σ 2 (blw (shr x0 4) 6))) - (min 200 (blw (shr x0 1) ((min 400 (σ 2 (blw (shr x0 4) 6))) + 1)))) + 1)))))) 9 1 ((σ 9 1) + (((σ 0 (blw (shr x0 4) 6)) * (min 200 (blw (shr x0 1) ((min 400 (σ 2 (blw (shr x0 4) 6))) + 1)))) - ((σ 0 (blw (shr x0 4) 6)) * (min 200 (blw (shr x0 5) (((min 400 (σ 2 (blw (shr x0 4) 6))) - (min 200 (blw (shr x0 1) ((min 400 (σ 2 (blw (shr x0 4) 6))) + 1)))) + 1))))))) ι)) := hD
      have e8 : (su (su σ 2 (blw (shr x0 4) 6) ((σ 2 (blw (shr x0 4) 6)) - ((min 200 (blw (shr x0 1) ((min 400 (σ 2 (blw (shr x0 4) 6))) + 1))) + (min 200 (blw (shr x0 5) (((min 400 (σ 2 (blw (shr x0 4) 6))) - (min 200 (blw (shr x0 1) ((min 400 (σ 2 (blw (shr x0 4) 6))) + 1)))) + 1)))))) 9 1 ((σ 9 1) + (((σ 0 (blw (shr x0 4) 6)) * (min 200 (blw (shr x0 1) ((min 400 (σ 2 (blw (shr x0 4) 6))) + 1)))) - ((σ 0 (blw (shr x0 4) 6)) * (min 200 (blw (shr x0 5) (((min 400 (σ 2 (blw (shr x0 4) 6))) - (min 200 (blw (shr x0 1) ((min 400 (σ 2 (blw (shr x0 4) 6))) + 1)))) + 1))))))) = (xCarry σ (blw (shr x0 4) 6) (min 200 (blw (shr x0 1) ((min 400 (σ 2 (blw (shr x0 4) 6))) + 1))) (min 200 (blw (shr x0 5) (((min 400 (σ 2 (blw (shr x0 4) 6))) - (min 200 (blw (shr x0 1) ((min 400 (σ 2 (blw (shr x0 4) 6))) + 1)))) + 1)))) := carry_e σ (blw (shr x0 4) 6) (min 200 (blw (shr x0 1) ((min 400 (σ 2 (blw (shr x0 4) 6))) + 1))) (min 200 (blw (shr x0 5) (((min 400 (σ 2 (blw (shr x0 4) 6))) - (min 200 (blw (shr x0 1) ((min 400 (σ 2 (blw (shr x0 4) 6))) + 1)))) + 1)))
      rw [e8] at hP hD
      have hP : va_P D vwCl ((XW cI cZ d σ κ) ++ (SW cI cT cU ds (xCarry σ (blw (shr x0 4) 6) (min 200 (blw (shr x0 1) ((min 400 (σ 2 (blw (shr x0 4) 6))) + 1))) (min 200 (blw (shr x0 5) (((min 400 (σ 2 (blw (shr x0 4) 6))) - (min 200 (blw (shr x0 1) ((min 400 (σ 2 (blw (shr x0 4) 6))) + 1)))) + 1)))) ι)) H := hP
      have hD : va_D A ((XW cI cZ d σ κ) ++ (SW cI cT cU ds (xCarry σ (blw (shr x0 4) 6) (min 200 (blw (shr x0 1) ((min 400 (σ 2 (blw (shr x0 4) 6))) + 1))) (min 200 (blw (shr x0 5) (((min 400 (σ 2 (blw (shr x0 4) 6))) - (min 200 (blw (shr x0 1) ((min 400 (σ 2 (blw (shr x0 4) 6))) + 1)))) + 1)))) ι)) := hD
      refine lv_aload_n hx hb dL_act_354 rfl (lv_at hl 6 rfl) ?_
      refine lv_iload hx hb dL_act_355 (lv_at hl 3 rfl) ?_
      refine lv_iload hx hb dL_act_357 (lv_at hl 1 rfl) ?_
      refine lv_iload hx hb dL_act_359 (lv_at hl 0 rfl) ?_
      have hPc : va_P D vwCl ((XW cI cZ d σ κ) ++ (SW cI cT cU ds (xCarry σ (blw (shr x0 4) 6) (min 200 (blw (shr x0 1) ((min 400 (σ 2 (blw (shr x0 4) 6))) + 1))) (min 200 (blw (shr x0 5) (((min 400 (σ 2 (blw (shr x0 4) 6))) - (min 200 (blw (shr x0 1) ((min 400 (σ 2 (blw (shr x0 4) 6))) + 1)))) + 1)))) ι)) H := hP
      have hDc : va_D A ((XW cI cZ d σ κ) ++ (SW cI cT cU ds (xCarry σ (blw (shr x0 4) 6) (min 200 (blw (shr x0 1) ((min 400 (σ 2 (blw (shr x0 4) 6))) + 1))) (min 200 (blw (shr x0 5) (((min 400 (σ 2 (blw (shr x0 4) 6))) - (min 200 (blw (shr x0 1) ((min 400 (σ 2 (blw (shr x0 4) 6))) + 1)))) + 1)))) ι)) := hD
      refine h_call0 (vx_runV (As := [.int (iI (blw (shr x0 4) 6)), .int (iI (min 200 (blw (shr x0 1) ((min 400 (σ 2 (blw (shr x0 4) 6))) + 1)))), .int (iI (min 200 (blw (shr x0 5) (((min 400 (σ 2 (blw (shr x0 4) 6))) - (min 200 (blw (shr x0 1) ((min 400 (σ 2 (blw (shr x0 4) 6))) + 1)))) + 1))))]) (rest := []) S ((kX1_carry l hfl D cI cZ d σ κ (blw (shr x0 4) 6) (min 200 (blw (shr x0 1) ((min 400 (σ 2 (blw (shr x0 4) 6))) + 1))) (min 200 (blw (shr x0 5) (((min 400 (σ 2 (blw (shr x0 4) 6))) - (min 200 (blw (shr x0 1) ((min 400 (σ 2 (blw (shr x0 4) 6))) + 1)))) + 1))) (by first | assumption | omega) (by first | assumption | omega) (by first | assumption | omega) (by first | assumption | omega) (by first | assumption | omega) (by first | assumption | omega) (by first | assumption | omega)) H.size) (cwV 3 hts gL_act_X1_carry rfl rfl rfl (by decide +kernel) ⟨Nat.le_of_ble_eq_true rfl, Nat.le_of_ble_eq_true rfl⟩) (h_preV hK [0, 1] rfl hPc hDc hS hA hTE (q0 := 0) (ci := 1) rfl rfl rfl) rfl rfl hl.1 rfl (lv_room (Nat.le_of_ble_eq_true rfl)) dL_act_361 ⟨Nat.le_of_ble_eq_true rfl, Nat.le_of_ble_eq_true rfl⟩) hPc hDc hS hA (fun E h => (by have h0 : (tCarry σ (blw (shr x0 4) 6) (min 200 (blw (shr x0 1) ((min 400 (σ 2 (blw (shr x0 4) 6))) + 1))) (min 200 (blw (shr x0 5) (((min 400 (σ 2 (blw (shr x0 4) 6))) - (min 200 (blw (shr x0 1) ((min 400 (σ 2 (blw (shr x0 4) 6))) + 1)))) + 1)))) = 0 := (by unfold tCarry; rw [if_neg (by omega), if_neg (by omega), if_neg (by omega)]); rcases h with ⟨_, h⟩ | ⟨_, h⟩ | ⟨_, h⟩ <;> omega)) (fun κ9 H locs hk hP hD hS => ?_)
      obtain ⟨z35, ezz35⟩ : ∃ z, z = κ9 := ⟨_, rfl⟩
      subst ezz35
      have hP : va_P D vwCl ((XW cI cZ d (xCarry σ (blw (shr x0 4) 6) (min 200 (blw (shr x0 1) ((min 400 (σ 2 (blw (shr x0 4) 6))) + 1))) (min 200 (blw (shr x0 5) (((min 400 (σ 2 (blw (shr x0 4) 6))) - (min 200 (blw (shr x0 1) ((min 400 (σ 2 (blw (shr x0 4) 6))) + 1)))) + 1)))) z35) ++ (SW cI cT cU ds (xCarry σ (blw (shr x0 4) 6) (min 200 (blw (shr x0 1) ((min 400 (σ 2 (blw (shr x0 4) 6))) + 1))) (min 200 (blw (shr x0 5) (((min 400 (σ 2 (blw (shr x0 4) 6))) - (min 200 (blw (shr x0 1) ((min 400 (σ 2 (blw (shr x0 4) 6))) + 1)))) + 1)))) ι)) H := hP
      have hD : va_D A ((XW cI cZ d (xCarry σ (blw (shr x0 4) 6) (min 200 (blw (shr x0 1) ((min 400 (σ 2 (blw (shr x0 4) 6))) + 1))) (min 200 (blw (shr x0 5) (((min 400 (σ 2 (blw (shr x0 4) 6))) - (min 200 (blw (shr x0 1) ((min 400 (σ 2 (blw (shr x0 4) 6))) + 1)))) + 1)))) z35) ++ (SW cI cT cU ds (xCarry σ (blw (shr x0 4) 6) (min 200 (blw (shr x0 1) ((min 400 (σ 2 (blw (shr x0 4) 6))) + 1))) (min 200 (blw (shr x0 5) (((min 400 (σ 2 (blw (shr x0 4) 6))) - (min 200 (blw (shr x0 1) ((min 400 (σ 2 (blw (shr x0 4) 6))) + 1)))) + 1)))) ι)) := hD
      show W p l e ({ frames := 7, cells := 3, slots := 14, locals := 119 } : Room) s m args below meth c H locs 1 6 (MQ below (gQ D (tyA cI cZ cT cU cQ) (fun κ' => (XW cI cZ d (actS σ x0) κ') ++ (SW cI cT cU ds (actS σ x0) (κ' 2))) A (fun _ => some (.int (iI (1)))) (fun κ' => True)) args s 3 14 A) (F0 m 364 ls [.int (iI (σ 2 (blw (shr x0 4) 6) - ((min 200 (blw (shr x0 1) ((min 400 (σ 2 (blw (shr x0 4) 6))) + 1))) + (min 200 (blw (shr x0 5) (((min 400 (σ 2 (blw (shr x0 4) 6))) - (min 200 (blw (shr x0 1) ((min 400 (σ 2 (blw (shr x0 4) 6))) + 1)))) + 1))))))])
      refine lv_aload_n hx hb dL_act_364 rfl (lv_at hl 7 rfl) ?_
      refine va_get (D := D) (ci := 2) (v := .ref (ds 5)) (C := RX2) (T := TX2) (N := 8) hx hb hts hinX2 hown hK (g_right hP) 0 rfl rfl 4 (by decide) (hts (.fieldLink RL 69 "TwinOrchardLaw$Sim" "barn" "[I") (List.mem_of_getElem? (i := 1) rfl)) (fun _ h9 => h9) rfl dL_act_365 ?_
      refine lv_iload hx hb dL_act_368 (lv_at hl 3 rfl) ?_
      refine gi_iald (a := (ds 5)) (n := 6) (f := (xCarry σ (blw (shr x0 4) 6) (min 200 (blw (shr x0 1) ((min 400 (σ 2 (blw (shr x0 4) 6))) + 1))) (min 200 (blw (shr x0 5) (((min 400 (σ 2 (blw (shr x0 4) 6))) - (min 200 (blw (shr x0 1) ((min 400 (σ 2 (blw (shr x0 4) 6))) + 1)))) + 1)))) 2) hx hb hK (g_right hP) 5 0 rfl rfl (by omega) (by omega) (by decide) dL_act_370 ?_
      rw [show ((xCarry σ (blw (shr x0 4) 6) (min 200 (blw (shr x0 1) ((min 400 (σ 2 (blw (shr x0 4) 6))) + 1))) (min 200 (blw (shr x0 5) (((min 400 (σ 2 (blw (shr x0 4) 6))) - (min 200 (blw (shr x0 1) ((min 400 (σ 2 (blw (shr x0 4) 6))) + 1)))) + 1)))) 2 (blw (shr x0 4) 6) : Int) = (σ 2 (blw (shr x0 4) 6) - ((min 200 (blw (shr x0 1) ((min 400 (σ 2 (blw (shr x0 4) 6))) + 1))) + (min 200 (blw (shr x0 5) (((min 400 (σ 2 (blw (shr x0 4) 6))) - (min 200 (blw (shr x0 1) ((min 400 (σ 2 (blw (shr x0 4) 6))) + 1)))) + 1))))) from by exact fu_s _ _ _]
      refine gi_icmp_ne (tgt := 378) hx hb dL_act_371 (by decide) ⟨by omega, by omega⟩ ⟨by omega, by omega⟩ (fun c371 => ?_) (fun c371 => ?_)
      · skip
        exact absurd rfl c371
      · skip
        refine lv_iconst (v := iI (1)) hx hb dL_act_374 rfl ?_
        refine lv_goto (tgt := 379) hx hb dL_act_375 (by decide) ?_
        have esx : (actS σ x0) = (xCarry σ (blw (shr x0 4) 6) (min 200 (blw (shr x0 1) ((min 400 (σ 2 (blw (shr x0 4) 6))) + 1))) (min 200 (blw (shr x0 5) (((min 400 (σ 2 (blw (shr x0 4) 6))) - (min 200 (blw (shr x0 1) ((min 400 (σ 2 (blw (shr x0 4) 6))) + 1)))) + 1)))) := by unfold actS; rw [if_neg (show ¬ acH x0 < 3 by unfold acH; omega), if_neg (show ¬ acH x0 < 5 by unfold acH; omega), if_neg (show ¬ acH x0 = 5 by unfold acH; omega), if_neg (show ¬ acH x0 = 6 by unfold acH; omega)]; rw [if_neg (show ¬ acM σ x0 = 0 by unfold acM acO; omega), if_neg (show ¬ acL σ x0 + acQ σ x0 = 0 from c304)]; rfl
        have hP : va_P D vwCl ((XW cI cZ d (actS σ x0) z35) ++ (SW cI cT cU ds (actS σ x0) ι)) H := by rw [esx]; exact hP
        have hD : va_D A ((XW cI cZ d (actS σ x0) z35) ++ (SW cI cT cU ds (actS σ x0) ι)) := by rw [esx]; exact hD
        exact g_iret (wo := (fun κ' => (XW cI cZ d (actS σ x0) κ') ++ (SW cI cT cU ds (actS σ x0) (κ' 2)))) (kr := (fun κ' => True)) (rv := (fun _ => some (.int (iI (1))))) hx hb hr hlocks (fun a => if a = 2 then ι else z35 a) (nar_z (Or.inr rfl)) hP hK hD hS trivial rfl (Nat.le_of_ble_eq_true rfl) (Nat.le_of_ble_eq_true rfl) dL_act_379
    · skip
      refine lv_iconst (v := iI (1)) hx hb dL_act_307 rfl ?_
      have esx : (actS σ x0) = (σ) := by unfold actS; rw [if_neg (show ¬ acH x0 < 3 by unfold acH; omega), if_neg (show ¬ acH x0 < 5 by unfold acH; omega), if_neg (show ¬ acH x0 = 5 by unfold acH; omega), if_neg (show ¬ acH x0 = 6 by unfold acH; omega)]; rw [if_neg (show ¬ acM σ x0 = 0 by unfold acM acO; omega), if_pos (show acL σ x0 + acQ σ x0 = 0 from c304)]
      have hP : va_P D vwCl ((XW cI cZ d (actS σ x0) κ) ++ (SW cI cT cU ds (actS σ x0) ι)) H := by rw [esx]; exact hP
      have hD : va_D A ((XW cI cZ d (actS σ x0) κ) ++ (SW cI cT cU ds (actS σ x0) ι)) := by rw [esx]; exact hD
      exact g_iret (wo := (fun κ' => (XW cI cZ d (actS σ x0) κ') ++ (SW cI cT cU ds (actS σ x0) (κ' 2)))) (kr := (fun κ' => True)) (rv := (fun _ => some (.int (iI (1))))) hx hb hr hlocks (fun a => if a = 2 then ι else κ a) (nar_z (Or.inr rfl)) hP hK hD hS trivial rfl (Nat.le_of_ble_eq_true rfl) (Nat.le_of_ble_eq_true rfl) dL_act_308
  · skip
    refine lv_iconst (v := iI (1)) hx hb dL_act_258 rfl ?_
    have esx : (actS σ x0) = (σ) := by unfold actS; rw [if_neg (show ¬ acH x0 < 3 by unfold acH; omega), if_neg (show ¬ acH x0 < 5 by unfold acH; omega), if_neg (show ¬ acH x0 = 5 by unfold acH; omega), if_neg (show ¬ acH x0 = 6 by unfold acH; omega)]; rw [if_pos (show acM σ x0 = 0 by unfold acM acO; omega)]
    have hP : va_P D vwCl ((XW cI cZ d (actS σ x0) κ) ++ (SW cI cT cU ds (actS σ x0) ι)) H := by rw [esx]; exact hP
    have hD : va_D A ((XW cI cZ d (actS σ x0) κ) ++ (SW cI cT cU ds (actS σ x0) ι)) := by rw [esx]; exact hD
    exact g_iret (wo := (fun κ' => (XW cI cZ d (actS σ x0) κ') ++ (SW cI cT cU ds (actS σ x0) (κ' 2)))) (kr := (fun κ' => True)) (rv := (fun _ => some (.int (iI (1))))) hx hb hr hlocks (fun a => if a = 2 then ι else κ a) (nar_z (Or.inr rfl)) hP hK hD hS trivial rfl (Nat.le_of_ble_eq_true rfl) (Nat.le_of_ble_eq_true rfl) dL_act_259
set_option maxHeartbeats 4000000 in
set_option maxRecDepth 100000 in
theorem kL_even (l : Launch) (hfl : l.stackTraces = false) (D : va_G) (cI cZ cT cU cQ : ClassId) (d : Nat → Nat) (σ κ : St)  (hwf : xWF σ) : gMet l yL_even wsL_even ({ frames := 7, cells := 12, slots := 72, locals := 114 } : Room) D (tyA cI cZ cT cU cQ) (XW cI cZ d σ κ) [.ref (d 0)] (lEx (XW cI cZ d σ κ)) (fun _ => some (.int (iI (isumI (fun j => σ 0 j * min 20 (σ 2 j)) 6 % 2)))) (fun κ' => True) (fun κ' => XW cI cZ d σ κ') := by
  refine g_startL (cc := cL_even) (maxL := 3) (ret := (some .int)) (by decide) rfl (Nat.le_of_ble_eq_true rfl) ?_
  intro p e s m args below meth c A ls H locs S hr hlocks hP hK hD hA hS hTE hN hl
  have hE := hTE.1
  have S0 := S
  obtain ⟨hx, hb, hml, hown, hts⟩ := S0
  have hl : lv_has ls 3 [(0, .ref (d 0))] := hl
  have hinX1 : ∀ w ∈ wsX10, w ∈ wsL_even := by decide +kernel
  refine lv_iconst (v := iI (0)) hx hb dL_even_0 rfl ?_
  refine lv_istore_n (lv' := [(1, .int (iI (0))), (0, .ref (d 0))]) hx hb dL_even_1 rfl hl (by decide) rfl (fun ls hl => ?_)
  refine lv_iconst (v := iI (0)) hx hb dL_even_2 rfl ?_
  refine lv_istore_n (lv' := [(2, .int (iI (0))), (1, .int (iI (0))), (0, .ref (d 0))]) hx hb dL_even_3 rfl hl (by decide) rfl (fun ls hl => ?_)
  have loop4 : ∀ (n4 : Nat) (i a : Int) (κx4 : St) (cl4 sl4 : Nat), (0 ≤ i) → (i ≤ 6) → (6 - i < (n4 : Int)) → (a = isumI (fun j => σ 0 j * min 20 (σ 2 j)) i) → (0 ≤ a ∧ a ≤ 180 * i) → ((cl4 : Int) ≤ 2 * i) → ((sl4 : Int) ≤ 12 * i) → ∀ (H : Heap) (locs : List Loc) (ls : Array Slot), va_P D vwCl (XW cI cZ d σ κx4) H → va_D A (XW cI cZ d σ κx4) → va_S A s.heap H locs → lv_has ls 3 [(2, .int (iI (i))), (1, .int (iI (a))), (0, .ref (d 0))] → W p l e ({ frames := 7, cells := 12, slots := 72, locals := 114 } : Room) s m args below meth c H locs cl4 sl4 (MQ below (gQ D (tyA cI cZ cT cU cQ) (fun κ' => XW cI cZ d σ κ') A (fun _ => some (.int (iI (isumI (fun j => σ 0 j * min 20 (σ 2 j)) 6 % 2)))) (fun κ' => True)) args s 12 72 A) (F0 m 4 ls []) := by
    intro n4
    induction n4 with
    | zero =>
      intro i a κx4 cl4 sl4 hlo4 hhi4 hm4
      omega
    | succ n4 ih4 =>
      intro i a κx4 cl4 sl4 hlo4 hhi4 hm4 ia4 ip4 hcl4 hsl4 H locs ls hP hD hS hl
      have k0 := xWF_0 hwf i
      have k2 := xWF_2 hwf i
      have km : 0 ≤ σ 0 i * min 20 (σ 2 i) ∧ σ 0 i * min 20 (σ 2 i) ≤ 180 := by have h1 := Int.mul_nonneg (show 0 ≤ σ 0 i by omega) (show 0 ≤ min 20 (σ 2 i) by omega); have h2 := Int.mul_le_mul_of_nonneg_right k0.2 (show 0 ≤ min 20 (σ 2 i) by omega); omega
      refine lv_iload_n hx hb dL_even_4 rfl (lv_at hl 0 rfl) ?_
      refine lv_bipush (v := iI (6)) hx hb dL_even_5 rfl ?_
      refine gi_icmp_ge (tgt := 37) hx hb dL_even_7 (by decide) ⟨by omega, by omega⟩ ⟨by decide, by decide⟩ (fun c7 => ?_) (fun c7 => ?_)
      · skip
        refine lv_iload_n hx hb dL_even_37 rfl (lv_at hl 1 rfl) ?_
        refine lv_iconst (v := iI (2)) hx hb dL_even_38 rfl ?_
        refine gi_rem hx hb ⟨by omega, by omega⟩ ⟨by omega, by omega⟩ dL_even_39 ?_
        have er : ((isumI (fun j => σ 0 j * min 20 (σ 2 j)) 6 % 2 : Int)) = (a % 2) := by rw [ia4, show i = 6 by omega]
        exact g_iret (wo := (fun κ' => XW cI cZ d σ κ')) (kr := (fun κ' => True)) (rv := (fun _ => some (.int (iI (isumI (fun j => σ 0 j * min 20 (σ 2 j)) 6 % 2))))) hx hb hr hlocks κx4 rfl hP hK hD hS trivial (by rw [er]) (by show cl4 ≤ 12; omega) (by show sl4 ≤ 72; omega) dL_even_40
      · skip
        refine lv_iload_n hx hb dL_even_10 rfl (lv_at hl 1 rfl) ?_
        refine lv_aload_n hx hb dL_even_11 rfl (lv_at hl 2 rfl) ?_
        refine lv_iload_n hx hb dL_even_12 rfl (lv_at hl 0 rfl) ?_
        refine lv_iconst (v := iI (0)) hx hb dL_even_13 rfl ?_
        have hPc : va_P D vwCl (XW cI cZ d σ κx4) H := hP
        have hDc : va_D A (XW cI cZ d σ κx4) := hD
        have hPc : va_P D vwCl ((XW cI cZ d σ κx4) ++ []) H := by rw [List.append_nil]; exact hPc
        have hDc : va_D A ((XW cI cZ d σ κx4) ++ []) := by rw [List.append_nil]; exact hDc
        refine h_call0 (vx_runV (As := [.int (iI (i)), .int (iI (0))]) (rest := [.int (iI (a))]) S ((kX1_sort l hfl D cI cZ d σ κx4 i 0 (by first | assumption | omega) (by first | assumption | omega) (by first | assumption | omega) (by first | assumption | omega) (by first | assumption | omega)) H.size) (cwV 2 hts gL_even_X1_sort rfl rfl rfl (by decide +kernel) ⟨Nat.le_of_ble_eq_true rfl, Nat.le_of_ble_eq_true rfl⟩) (h_preV hK [0, 1] rfl hPc hDc hS hA hTE (q0 := 0) (ci := 1) rfl rfl rfl) rfl rfl hl.1 rfl (lv_room (Nat.le_of_ble_eq_true rfl)) dL_even_14 ⟨by show cl4 + 1 ≤ 12; omega, by show sl4 + 6 ≤ 72; omega⟩) hPc hDc hS hA (fun E h => (by have h0 : (tSort i 0) = 0 := (by unfold tSort; rw [if_neg (by omega)]); rcases h with ⟨_, h⟩ <;> omega)) (fun κ9 H locs hk hP hD hS => ?_)
        obtain ⟨z1, ezz1⟩ : ∃ z, z = κ9 := ⟨_, rfl⟩
        subst ezz1
        have hP : va_P D vwCl (XW cI cZ d σ z1) H := by have h9 : va_P D vwCl ((XW cI cZ d σ z1) ++ []) H := hP; rw [List.append_nil] at h9; exact h9
        have hD : va_D A (XW cI cZ d σ z1) := by have h9 : va_D A ((XW cI cZ d σ z1) ++ []) := hD; rw [List.append_nil] at h9; exact h9
        show W p l e ({ frames := 7, cells := 12, slots := 72, locals := 114 } : Room) s m args below meth c H locs (cl4 + 1) (sl4 + 6) (MQ below (gQ D (tyA cI cZ cT cU cQ) (fun κ' => XW cI cZ d σ κ') A (fun _ => some (.int (iI (isumI (fun j => σ 0 j * min 20 (σ 2 j)) 6 % 2)))) (fun κ' => True)) args s 12 72 A) (F0 m 17 ls [.int (iI (xSort σ i 0)), .int (iI (a))])
        rw [show (xSort σ i 0 : Int) = (σ 0 i) from by rfl]
        refine lv_bipush (v := iI (20)) hx hb dL_even_17 rfl ?_
        refine lv_aload_n hx hb dL_even_19 rfl (lv_at hl 2 rfl) ?_
        refine lv_iload_n hx hb dL_even_20 rfl (lv_at hl 0 rfl) ?_
        refine lv_iconst (v := iI (2)) hx hb dL_even_21 rfl ?_
        have hPc : va_P D vwCl (XW cI cZ d σ z1) H := hP
        have hDc : va_D A (XW cI cZ d σ z1) := hD
        have hPc : va_P D vwCl ((XW cI cZ d σ z1) ++ []) H := by rw [List.append_nil]; exact hPc
        have hDc : va_D A ((XW cI cZ d σ z1) ++ []) := by rw [List.append_nil]; exact hDc
        refine h_call0 (vx_runV (As := [.int (iI (i)), .int (iI (2))]) (rest := [.int (iI (20)), .int (iI (σ 0 i)), .int (iI (a))]) S ((kX1_sort l hfl D cI cZ d σ z1 i 2 (by first | assumption | omega) (by first | assumption | omega) (by first | assumption | omega) (by first | assumption | omega) (by first | assumption | omega)) H.size) (cwV 2 hts gL_even_X1_sort rfl rfl rfl (by decide +kernel) ⟨Nat.le_of_ble_eq_true rfl, Nat.le_of_ble_eq_true rfl⟩) (h_preV hK [0, 1] rfl hPc hDc hS hA hTE (q0 := 0) (ci := 1) rfl rfl rfl) rfl rfl hl.1 rfl (lv_room (Nat.le_of_ble_eq_true rfl)) dL_even_22 ⟨by show (cl4 + 1) + 1 ≤ 12; omega, by show (sl4 + 6) + 6 ≤ 72; omega⟩) hPc hDc hS hA (fun E h => (by have h0 : (tSort i 2) = 0 := (by unfold tSort; rw [if_neg (by omega)]); rcases h with ⟨_, h⟩ <;> omega)) (fun κ9 H locs hk hP hD hS => ?_)
        obtain ⟨z2, ezz2⟩ : ∃ z, z = κ9 := ⟨_, rfl⟩
        subst ezz2
        have hP : va_P D vwCl (XW cI cZ d σ z2) H := by have h9 : va_P D vwCl ((XW cI cZ d σ z2) ++ []) H := hP; rw [List.append_nil] at h9; exact h9
        have hD : va_D A (XW cI cZ d σ z2) := by have h9 : va_D A ((XW cI cZ d σ z2) ++ []) := hD; rw [List.append_nil] at h9; exact h9
        show W p l e ({ frames := 7, cells := 12, slots := 72, locals := 114 } : Room) s m args below meth c H locs (cl4 + 2) (sl4 + 12) (MQ below (gQ D (tyA cI cZ cT cU cQ) (fun κ' => XW cI cZ d σ κ') A (fun _ => some (.int (iI (isumI (fun j => σ 0 j * min 20 (σ 2 j)) 6 % 2)))) (fun κ' => True)) args s 12 72 A) (F0 m 25 ls [.int (iI (xSort σ i 2)), .int (iI (20)), .int (iI (σ 0 i)), .int (iI (a))])
        rw [show (xSort σ i 2 : Int) = (σ 2 i) from by rfl]
        refine gi_min hx hb (hml.trans hl.1.symm) hown (hts _ (List.mem_of_getElem? (i := 1) rfl)) (hts _ (List.mem_of_getElem? (i := 2) rfl)) (hts _ (List.mem_of_getElem? (i := 3) rfl)) (hts _ (List.mem_of_getElem? (i := 4) rfl)) (Nat.le_of_ble_eq_true rfl) (Nat.le_of_ble_eq_true rfl) (by show (cl4 + 2) ≤ 12; omega) (by show (sl4 + 12) ≤ 72; omega) ⟨by decide, by decide⟩ ⟨by omega, by omega⟩ dL_even_25 ?_
        refine gi_mul hx hb dL_even_28 ?_
        refine gi_add hx hb dL_even_29 ?_
        refine lv_istore_n (lv' := [(1, .int (iI (a + ((σ 0 i) * (min 20 (σ 2 i)))))), (2, .int (iI (i))), (0, .ref (d 0))]) hx hb dL_even_30 rfl hl (by decide) rfl (fun ls hl => ?_)
        refine lv_iinc (v := iI (i + 1)) (lv' := [(2, .int (iI (i + 1))), (1, .int (iI (a + ((σ 0 i) * (min 20 (σ 2 i)))))), (0, .ref (d 0))]) hx hb dL_even_31 hl (k := 1) rfl (iI_add _ _) (by decide) rfl (fun ls hl => ?_)
        refine lv_goto (tgt := 4) hx hb dL_even_34 (by decide) ?_
        exact ih4 (i + 1) (a + ((σ 0 i) * (min 20 (σ 2 i)))) z2 (cl4 + 2) (sl4 + 12) (by omega) (by omega) (by omega) (by rw [isumI_s _ hlo4, ← ia4]) (by omega) (by omega) (by omega) H locs ls hP hD hS (lv_sub hl [0, 1, 2] rfl)
  exact loop4 (((6 - (0) + 1 : Int)).toNat) 0 0 κ 0 0 (by omega) (by omega) (by omega) (by rfl) (by omega) (by omega) (by omega) H locs ls hP hD hS (lv_sub hl [0, 1, 2] rfl)
