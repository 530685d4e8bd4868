set_option maxHeartbeats 4000000 in
set_option maxRecDepth 100000 in
theorem kL_setSort (l : Launch) (hfl : l.stackTraces = false) (D : va_G) (cI cZ cJ : ClassId) (d : Nat → Nat) (σ κ : St) (w9 : Nat) (g : Nat → Int64) (a0 : Int) (w0 : Int) (b0 : Int) (hwf : xWF σ) (hl_a0 : -2147483648 ≤ a0) (hh_a0 : a0 ≤ 2147483647) (hl_w0 : -2147483648 ≤ w0) (hh_w0 : w0 ≤ 2147483647) (hl_b0 : -2147483648 ≤ b0) (hh_b0 : b0 ≤ 2147483647) : gMet l yL_setSort wsL_setSort ({ frames := 7, cells := 1, slots := 6, locals := 116 } : Room) D (tyLs cI cZ cJ) (XW cI cZ d σ κ ++ [(w9, LJ cJ g)]) [.ref (d 0), .int (iI a0), .int (iI w0), .int (iI b0), .ref w9] (lEx (XW cI cZ d σ κ ++ [(w9, LJ cJ g)])) (fun _ => some (.int (iI (tSetSort a0 w0 b0)))) (fun _ => True) (fun κ' => XW cI cZ d (pk (tSetSort a0 w0 b0) (xSetSort σ a0 w0 b0) σ) κ' ++ [(w9, LJ cJ (pk (tSetSort a0 w0 b0) (vp_updL g 0 ((iI (10 * σ 0 a0 + σ 1 a0)).toInt64)) g))]) := by
  refine g_startH (cc := cL_setSort) (maxL := 6) (ret := (some .int)) (by decide) rfl (Nat.le_of_ble_eq_true rfl) ?_
  intro p e s m args below meth c A ls H locs S hr hlocks ht hP hK hD hA hS hTE hN hl
  have S0 := S
  obtain ⟨hx, hb, hml, hown, hts⟩ := S0
  have hl : lv_has ls 6 [(0, .ref (d 0)), (1, .int (iI a0)), (2, .int (iI w0)), (3, .int (iI b0)), (4, .ref w9)] := hl
  refine lv_aload hx hb dL_setSort_0 (lv_at hl 4 rfl) ?_
  refine lv_iconst (v := iI (0)) hx hb dL_setSort_2 rfl ?_
  refine lv_aload_n hx hb dL_setSort_3 rfl (lv_at hl 0 rfl) ?_
  refine lv_iload_n hx hb dL_setSort_4 rfl (lv_at hl 1 rfl) ?_
  refine lv_iload_n hx hb dL_setSort_5 rfl (lv_at hl 2 rfl) ?_
  refine lv_iload_n hx hb dL_setSort_6 rfl (lv_at hl 3 rfl) ?_
  have hPc : va_P D vwCl (XW cI cZ d σ κ ++ [(w9, LJ cJ g)]) H := hP
  have hDc : va_D A (XW cI cZ d σ κ ++ [(w9, LJ cJ g)]) := hD
  refine h_call (vx_runV (As := [.int (iI a0), .int (iI w0), .int (iI b0)]) (rest := [.int (iI (0)), .ref w9]) S ((kX1_setSort l hfl D cI cZ d σ κ a0 w0 b0 hwf hl_a0 hh_a0 hl_w0 hh_w0 hl_b0 hh_b0) H.size) (cwV 3 hts gL_setSort_X1_setSort rfl rfl rfl (by decide +kernel) ⟨Nat.le_of_ble_eq_true rfl, Nat.le_of_ble_eq_true rfl⟩) (h_preV hK [0, 1] rfl hPc hDc hS hA hTE (q0 := 0) (ci := 1) rfl rfl rfl) rfl rfl hl.1 rfl (lv_room (Nat.le_of_ble_eq_true rfl)) dL_setSort_7 ⟨Nat.le_of_ble_eq_true rfl, Nat.le_of_ble_eq_true rfl⟩) hPc hDc hS hA (fun E ce q9 H locs hxc hP hS hce hcv hcl => ?_) (fun κ9 H locs hk hP hD hS => ?_)
  · rcases hxc with ⟨rfl, h9⟩ | ⟨rfl, h9⟩
    · have ne : ¬ (tSetSort a0 w0 b0) = 0 := by omega
      refine vx_catch (name := eI) hown [] ⟨0, 12, 15, 13⟩ [⟨0, 12, 19, 15⟩] ht (fun z hz => absurd hz List.not_mem_nil) (by decide) (by decide) (hts (.classLink RL 13 "java/lang/IndexOutOfBoundsException") (List.mem_of_getElem? (i := 1) rfl)) (va_Nw.use rfl (hTE.2.2.1 eI (.castable eI eI) List.mem_cons_self (Or.inl rfl))) hce hcv hcl ?_
      refine lv_astore (lv' := [(5, .ref q9), (0, .ref (d 0)), (1, .int (iI a0)), (2, .int (iI w0)), (3, .int (iI b0)), (4, .ref w9)]) hx hb dL_setSort_15 hl (by decide) rfl (fun ls hl => ?_)
      refine lv_iconst (v := iI (1)) hx hb dL_setSort_17 rfl ?_
      exact g_iret (wo := (fun κ' => XW cI cZ d (pk (tSetSort a0 w0 b0) (xSetSort σ a0 w0 b0) σ) κ' ++ [(w9, LJ cJ (pk (tSetSort a0 w0 b0) (vp_updL g 0 ((iI (10 * σ 0 a0 + σ 1 a0)).toInt64)) g))])) (kr := (fun _ => True)) (rv := (fun _ => some (.int (iI (tSetSort a0 w0 b0))))) hx hb hr hlocks κ rfl (by show va_P D vwCl (XW cI cZ d (pk (tSetSort a0 w0 b0) (xSetSort σ a0 w0 b0) σ) κ ++ [(w9, LJ cJ (pk (tSetSort a0 w0 b0) (vp_updL g 0 ((iI (10 * σ 0 a0 + σ 1 a0)).toInt64)) g))]) H; rw [pk_n ne, pk_n ne]; exact hP) hK (by show va_D A (XW cI cZ d (pk (tSetSort a0 w0 b0) (xSetSort σ a0 w0 b0) σ) κ ++ [(w9, LJ cJ (pk (tSetSort a0 w0 b0) (vp_updL g 0 ((iI (10 * σ 0 a0 + σ 1 a0)).toInt64)) g))]); rw [pk_n ne, pk_n ne]; exact hD) hS trivial (by show some (Value.int (iI (tSetSort a0 w0 b0))) = _; rw [h9]) (Nat.le_of_ble_eq_true rfl) (Nat.le_of_ble_eq_true rfl) dL_setSort_18
    · have ne : ¬ (tSetSort a0 w0 b0) = 0 := by omega
      refine vx_catch (name := eA) hown [⟨0, 12, 15, 13⟩] ⟨0, 12, 19, 15⟩ [] ht (fun z hz => by rcases List.mem_singleton.mp hz with rfl; exact Or.inr ⟨by decide, eI, (hts (.classLink RL 13 "java/lang/IndexOutOfBoundsException") (List.mem_of_getElem? (i := 1) rfl)), hN.1⟩) (by decide) (by decide) (hts (.classLink RL 15 "java/lang/IllegalArgumentException") (List.mem_of_getElem? (i := 2) rfl)) (va_Nw.use rfl (hTE.2.2.1 eA (.castable eA eA) List.mem_cons_self (Or.inr (Or.inl rfl)))) hce hcv hcl ?_
      refine lv_astore (lv' := [(5, .ref q9), (0, .ref (d 0)), (1, .int (iI a0)), (2, .int (iI w0)), (3, .int (iI b0)), (4, .ref w9)]) hx hb dL_setSort_19 hl (by decide) rfl (fun ls hl => ?_)
      refine lv_iconst (v := iI (2)) hx hb dL_setSort_21 rfl ?_
      exact g_iret (wo := (fun κ' => XW cI cZ d (pk (tSetSort a0 w0 b0) (xSetSort σ a0 w0 b0) σ) κ' ++ [(w9, LJ cJ (pk (tSetSort a0 w0 b0) (vp_updL g 0 ((iI (10 * σ 0 a0 + σ 1 a0)).toInt64)) g))])) (kr := (fun _ => True)) (rv := (fun _ => some (.int (iI (tSetSort a0 w0 b0))))) hx hb hr hlocks κ rfl (by show va_P D vwCl (XW cI cZ d (pk (tSetSort a0 w0 b0) (xSetSort σ a0 w0 b0) σ) κ ++ [(w9, LJ cJ (pk (tSetSort a0 w0 b0) (vp_updL g 0 ((iI (10 * σ 0 a0 + σ 1 a0)).toInt64)) g))]) H; rw [pk_n ne, pk_n ne]; exact hP) hK (by show va_D A (XW cI cZ d (pk (tSetSort a0 w0 b0) (xSetSort σ a0 w0 b0) σ) κ ++ [(w9, LJ cJ (pk (tSetSort a0 w0 b0) (vp_updL g 0 ((iI (10 * σ 0 a0 + σ 1 a0)).toInt64)) g))]); rw [pk_n ne, pk_n ne]; exact hD) hS trivial (by show some (Value.int (iI (tSetSort a0 w0 b0))) = _; rw [h9]) (Nat.le_of_ble_eq_true rfl) (Nat.le_of_ble_eq_true rfl) dL_setSort_22
  · have h9 := hk.1
    have hP : va_P D vwCl (XW cI cZ d (xSetSort σ a0 w0 b0) κ9 ++ [(w9, LJ cJ g)]) H := hP
    have hD : va_D A (XW cI cZ d (xSetSort σ a0 w0 b0) κ9 ++ [(w9, LJ cJ g)]) := hD
    show W p l e ({ frames := 7, cells := 1, slots := 6, locals := 116 } : Room) s m args below meth c H locs 1 6 (MQ below (gQ D (tyLs cI cZ cJ) (fun κ' => XW cI cZ d (pk (tSetSort a0 w0 b0) (xSetSort σ a0 w0 b0) σ) κ' ++ [(w9, LJ cJ (pk (tSetSort a0 w0 b0) (vp_updL g 0 ((iI (10 * σ 0 a0 + σ 1 a0)).toInt64)) g))]) A (fun _ => some (.int (iI (tSetSort a0 w0 b0)))) (fun _ => True)) args s 1 6 A) (F0 m 10 ls [.int (iI (10 * σ 0 a0 + σ 1 a0)), .int (iI (0)), .ref w9])
    refine lv_i2l (v := (iI (10 * σ 0 a0 + σ 1 a0)).toInt64) hx hb dL_setSort_10 rfl ?_
    refine va_last hx hb hK hP hD hS 12 2 rfl rfl vp0 dL_setSort_11 (fun H locs hP hD hS => ?_)
    have hP : va_P D vwCl (XW cI cZ d (xSetSort σ a0 w0 b0) κ9 ++ [(w9, LJ cJ (vp_updL g 0 ((iI (10 * σ 0 a0 + σ 1 a0)).toInt64)))]) H := hP
    have hD : va_D A (XW cI cZ d (xSetSort σ a0 w0 b0) κ9 ++ [(w9, LJ cJ (vp_updL g 0 ((iI (10 * σ 0 a0 + σ 1 a0)).toInt64)))]) := hD
    refine lv_goto (tgt := 23) hx hb dL_setSort_12 (by decide) ?_
    refine lv_iconst (v := iI (0)) hx hb dL_setSort_23 rfl ?_
    exact g_iret (wo := (fun κ' => XW cI cZ d (pk (tSetSort a0 w0 b0) (xSetSort σ a0 w0 b0) σ) κ' ++ [(w9, LJ cJ (pk (tSetSort a0 w0 b0) (vp_updL g 0 ((iI (10 * σ 0 a0 + σ 1 a0)).toInt64)) g))])) (kr := (fun _ => True)) (rv := (fun _ => some (.int (iI (tSetSort a0 w0 b0))))) hx hb hr hlocks κ9 rfl (by show va_P D vwCl (XW cI cZ d (pk (tSetSort a0 w0 b0) (xSetSort σ a0 w0 b0) σ) κ9 ++ [(w9, LJ cJ (pk (tSetSort a0 w0 b0) (vp_updL g 0 ((iI (10 * σ 0 a0 + σ 1 a0)).toInt64)) g))]) H; rw [pk_y h9, pk_y h9]; exact hP) hK (by show va_D A (XW cI cZ d (pk (tSetSort a0 w0 b0) (xSetSort σ a0 w0 b0) σ) κ9 ++ [(w9, LJ cJ (pk (tSetSort a0 w0 b0) (vp_updL g 0 ((iI (10 * σ 0 a0 + σ 1 a0)).toInt64)) g))]); rw [pk_y h9, pk_y h9]; exact hD) hS trivial (by show some (Value.int (iI (tSetSort a0 w0 b0))) = _; rw [h9]) (Nat.le_of_ble_eq_true rfl) (Nat.le_of_ble_eq_true rfl) dL_setSort_24
set_option maxHeartbeats 4000000 in
set_option maxRecDepth 100000 in
theorem kL_setFrost (l : Launch) (hfl : l.stackTraces = false) (D : va_G) (cI cZ cJ : ClassId) (d : Nat → Nat) (σ κ : St) (w9 : Nat) (g : Nat → Int64) (a0 : Int) (b0 : Int) (hwf : xWF σ) (hl_a0 : -2147483648 ≤ a0) (hh_a0 : a0 ≤ 2147483647) (hl_b0 : -2147483648 ≤ b0) (hh_b0 : b0 ≤ 2147483647) : gMet l yL_setFrost wsL_setFrost ({ frames := 7, cells := 1, slots := 6, locals := 115 } : Room) D (tyLs cI cZ cJ) (XW cI cZ d σ κ ++ [(w9, LJ cJ g)]) [.ref (d 0), .int (iI a0), .int (iI b0), .ref w9] (lEx (XW cI cZ d σ κ ++ [(w9, LJ cJ g)])) (fun _ => some (.int (iI (tSetFrost a0 b0)))) (fun _ => True) (fun κ' => XW cI cZ d (pk (tSetFrost a0 b0) (su σ 3 a0 b0) σ) κ' ++ [(w9, LJ cJ (pk (tSetFrost a0 b0) (vp_updL g 0 ((iI (σ 3 a0)).toInt64)) g))]) := by
  refine g_startH (cc := cL_setFrost) (maxL := 5) (ret := (some .int)) (by decide) rfl (Nat.le_of_ble_eq_true rfl) ?_
  intro p e s m args below meth c A ls H locs S hr hlocks ht hP hK hD hA hS hTE hN hl
  have S0 := S
  obtain ⟨hx, hb, hml, hown, hts⟩ := S0
  have hl : lv_has ls 5 [(0, .ref (d 0)), (1, .int (iI a0)), (2, .int (iI b0)), (3, .ref w9)] := hl
  refine lv_aload_n hx hb dL_setFrost_0 rfl (lv_at hl 3 rfl) ?_
  refine lv_iconst (v := iI (0)) hx hb dL_setFrost_1 rfl ?_
  refine lv_aload_n hx hb dL_setFrost_2 rfl (lv_at hl 0 rfl) ?_
  refine lv_iload_n hx hb dL_setFrost_3 rfl (lv_at hl 1 rfl) ?_
  refine lv_iload_n hx hb dL_setFrost_4 rfl (lv_at hl 2 rfl) ?_
  have hPc : va_P D vwCl (XW cI cZ d σ κ ++ [(w9, LJ cJ g)]) H := hP
  have hDc : va_D A (XW cI cZ d σ κ ++ [(w9, LJ cJ g)]) := hD
  refine h_call (vx_runV (As := [.int (iI a0), .int (iI b0)]) (rest := [.int (iI (0)), .ref w9]) S ((kX1_setFrost l hfl D cI cZ d σ κ a0 b0 hwf hl_a0 hh_a0 hl_b0 hh_b0) H.size) (cwV 2 hts gL_setFrost_X1_setFrost rfl rfl rfl (by decide +kernel) ⟨Nat.le_of_ble_eq_true rfl, Nat.le_of_ble_eq_true rfl⟩) (h_preV hK [0, 1] rfl hPc hDc hS hA hTE (q0 := 0) (ci := 1) rfl rfl rfl) rfl rfl hl.1 rfl (lv_room (Nat.le_of_ble_eq_true rfl)) dL_setFrost_5 ⟨Nat.le_of_ble_eq_true rfl, Nat.le_of_ble_eq_true rfl⟩) hPc hDc hS hA (fun E ce q9 H locs hxc hP hS hce hcv hcl => ?_) (fun κ9 H locs hk hP hD hS => ?_)
  · rcases hxc with ⟨rfl, h9⟩ | ⟨rfl, h9⟩
    · have ne : ¬ (tSetFrost a0 b0) = 0 := by omega
      refine vx_catch (name := eI) hown [] ⟨0, 10, 13, 13⟩ [⟨0, 10, 17, 15⟩] ht (fun z hz => absurd hz List.not_mem_nil) (by decide) (by decide) (hts (.classLink RL 13 "java/lang/IndexOutOfBoundsException") (List.mem_of_getElem? (i := 1) rfl)) (va_Nw.use rfl (hTE.2.2.1 eI (.castable eI eI) List.mem_cons_self (Or.inl rfl))) hce hcv hcl ?_
      refine lv_astore (lv' := [(4, .ref q9), (0, .ref (d 0)), (1, .int (iI a0)), (2, .int (iI b0)), (3, .ref w9)]) hx hb dL_setFrost_13 hl (by decide) rfl (fun ls hl => ?_)
      refine lv_iconst (v := iI (1)) hx hb dL_setFrost_15 rfl ?_
      exact g_iret (wo := (fun κ' => XW cI cZ d (pk (tSetFrost a0 b0) (su σ 3 a0 b0) σ) κ' ++ [(w9, LJ cJ (pk (tSetFrost a0 b0) (vp_updL g 0 ((iI (σ 3 a0)).toInt64)) g))])) (kr := (fun _ => True)) (rv := (fun _ => some (.int (iI (tSetFrost a0 b0))))) hx hb hr hlocks κ rfl (by show va_P D vwCl (XW cI cZ d (pk (tSetFrost a0 b0) (su σ 3 a0 b0) σ) κ ++ [(w9, LJ cJ (pk (tSetFrost a0 b0) (vp_updL g 0 ((iI (σ 3 a0)).toInt64)) g))]) H; rw [pk_n ne, pk_n ne]; exact hP) hK (by show va_D A (XW cI cZ d (pk (tSetFrost a0 b0) (su σ 3 a0 b0) σ) κ ++ [(w9, LJ cJ (pk (tSetFrost a0 b0) (vp_updL g 0 ((iI (σ 3 a0)).toInt64)) g))]); rw [pk_n ne, pk_n ne]; exact hD) hS trivial (by show some (Value.int (iI (tSetFrost a0 b0))) = _; rw [h9]) (Nat.le_of_ble_eq_true rfl) (Nat.le_of_ble_eq_true rfl) dL_setFrost_16
    · have ne : ¬ (tSetFrost a0 b0) = 0 := by omega
      refine vx_catch (name := eA) hown [⟨0, 10, 13, 13⟩] ⟨0, 10, 17, 15⟩ [] ht (fun z hz => by rcases List.mem_singleton.mp hz with rfl; exact Or.inr ⟨by decide, eI, (hts (.classLink RL 13 "java/lang/IndexOutOfBoundsException") (List.mem_of_getElem? (i := 1) rfl)), hN.1⟩) (by decide) (by decide) (hts (.classLink RL 15 "java/lang/IllegalArgumentException") (List.mem_of_getElem? (i := 2) rfl)) (va_Nw.use rfl (hTE.2.2.1 eA (.castable eA eA) List.mem_cons_self (Or.inr (Or.inl rfl)))) hce hcv hcl ?_
      refine lv_astore (lv' := [(4, .ref q9), (0, .ref (d 0)), (1, .int (iI a0)), (2, .int (iI b0)), (3, .ref w9)]) hx hb dL_setFrost_17 hl (by decide) rfl (fun ls hl => ?_)
      refine lv_iconst (v := iI (2)) hx hb dL_setFrost_19 rfl ?_
      exact g_iret (wo := (fun κ' => XW cI cZ d (pk (tSetFrost a0 b0) (su σ 3 a0 b0) σ) κ' ++ [(w9, LJ cJ (pk (tSetFrost a0 b0) (vp_updL g 0 ((iI (σ 3 a0)).toInt64)) g))])) (kr := (fun _ => True)) (rv := (fun _ => some (.int (iI (tSetFrost a0 b0))))) hx hb hr hlocks κ rfl (by show va_P D vwCl (XW cI cZ d (pk (tSetFrost a0 b0) (su σ 3 a0 b0) σ) κ ++ [(w9, LJ cJ (pk (tSetFrost a0 b0) (vp_updL g 0 ((iI (σ 3 a0)).toInt64)) g))]) H; rw [pk_n ne, pk_n ne]; exact hP) hK (by show va_D A (XW cI cZ d (pk (tSetFrost a0 b0) (su σ 3 a0 b0) σ) κ ++ [(w9, LJ cJ (pk (tSetFrost a0 b0) (vp_updL g 0 ((iI (σ 3 a0)).toInt64)) g))]); rw [pk_n ne, pk_n ne]; exact hD) hS trivial (by show some (Value.int (iI (tSetFrost a0 b0))) = _; rw [h9]) (Nat.le_of_ble_eq_true rfl) (Nat.le_of_ble_eq_true rfl) dL_setFrost_20
  · have h9 := hk.1
    have hP : va_P D vwCl (XW cI cZ d (su σ 3 a0 b0) κ9 ++ [(w9, LJ cJ g)]) H := hP
    have hD : va_D A (XW cI cZ d (su σ 3 a0 b0) κ9 ++ [(w9, LJ cJ g)]) := hD
    show W p l e ({ frames := 7, cells := 1, slots := 6, locals := 115 } : Room) s m args below meth c H locs 1 6 (MQ below (gQ D (tyLs cI cZ cJ) (fun κ' => XW cI cZ d (pk (tSetFrost a0 b0) (su σ 3 a0 b0) σ) κ' ++ [(w9, LJ cJ (pk (tSetFrost a0 b0) (vp_updL g 0 ((iI (σ 3 a0)).toInt64)) g))]) A (fun _ => some (.int (iI (tSetFrost a0 b0)))) (fun _ => True)) args s 1 6 A) (F0 m 8 ls [.int (iI (σ 3 a0)), .int (iI (0)), .ref w9])
    refine lv_i2l (v := (iI (σ 3 a0)).toInt64) hx hb dL_setFrost_8 rfl ?_
    refine va_last hx hb hK hP hD hS 12 2 rfl rfl vp0 dL_setFrost_9 (fun H locs hP hD hS => ?_)
    have hP : va_P D vwCl (XW cI cZ d (su σ 3 a0 b0) κ9 ++ [(w9, LJ cJ (vp_updL g 0 ((iI (σ 3 a0)).toInt64)))]) H := hP
    have hD : va_D A (XW cI cZ d (su σ 3 a0 b0) κ9 ++ [(w9, LJ cJ (vp_updL g 0 ((iI (σ 3 a0)).toInt64)))]) := hD
    refine lv_goto (tgt := 21) hx hb dL_setFrost_10 (by decide) ?_
    refine lv_iconst (v := iI (0)) hx hb dL_setFrost_21 rfl ?_
    exact g_iret (wo := (fun κ' => XW cI cZ d (pk (tSetFrost a0 b0) (su σ 3 a0 b0) σ) κ' ++ [(w9, LJ cJ (pk (tSetFrost a0 b0) (vp_updL g 0 ((iI (σ 3 a0)).toInt64)) g))])) (kr := (fun _ => True)) (rv := (fun _ => some (.int (iI (tSetFrost a0 b0))))) hx hb hr hlocks κ9 rfl (by show va_P D vwCl (XW cI cZ d (pk (tSetFrost a0 b0) (su σ 3 a0 b0) σ) κ9 ++ [(w9, LJ cJ (pk (tSetFrost a0 b0) (vp_updL g 0 ((iI (σ 3 a0)).toInt64)) g))]) H; rw [pk_y h9, pk_y h9]; exact hP) hK (by show va_D A (XW cI cZ d (pk (tSetFrost a0 b0) (su σ 3 a0 b0) σ) κ9 ++ [(w9, LJ cJ (pk (tSetFrost a0 b0) (vp_updL g 0 ((iI (σ 3 a0)).toInt64)) g))]); rw [pk_y h9, pk_y h9]; exact hD) hS trivial (by show some (Value.int (iI (tSetFrost a0 b0))) = _; rw [h9]) (Nat.le_of_ble_eq_true rfl) (Nat.le_of_ble_eq_true rfl) dL_setFrost_22
set_option maxHeartbeats 4000000 in
set_option maxRecDepth 100000 in
theorem kL_plant (l : Launch) (hfl : l.stackTraces = false) (D : va_G) (cI cZ cJ : ClassId) (d : Nat → Nat) (σ κ : St) (w9 : Nat) (g : Nat → Int64) (r0 : Int) (p0 : Int) (n0 : Int) (n1 : Int) (hwf : xWF σ) (hl_r0 : -2147483648 ≤ r0) (hh_r0 : r0 ≤ 2147483647) (hl_p0 : -2147483648 ≤ p0) (hh_p0 : p0 ≤ 2147483647) (hl_n0 : -2147483648 ≤ n0) (hh_n0 : n0 ≤ 2147483647) (hl_n1 : -2147483648 ≤ n1) (hh_n1 : n1 ≤ 2147483647) : gMet l yL_plant wsL_plant ({ frames := 7, cells := 1, slots := 6, locals := 119 } : Room) D (tyLs cI cZ cJ) (XW cI cZ d σ κ ++ [(w9, LJ cJ g)]) [.ref (d 0), .int (iI r0), .int (iI p0), .int (iI n0), .int (iI n1), .ref w9] (lEx (XW cI cZ d σ κ ++ [(w9, LJ cJ g)])) (fun _ => some (.int (iI (tPlant r0 p0 n0 n1)))) (fun _ => True) (fun κ' => XW cI cZ d (pk (tPlant r0 p0 n0 n1) (xPlant (xPlant σ (r0 * 8 + p0) n0 n1) (mir (r0 * 8 + p0)) n0 n1) σ) κ' ++ [(w9, LJ cJ (pk (tPlant r0 p0 n0 n1) (vp_updL g 0 ((iI (who (plA σ (r0 * 8 + p0)) (plA (xPlant σ (r0 * 8 + p0) n0 n1) (mir (r0 * 8 + p0))))).toInt64)) g))]) := by
  refine g_startH (cc := cL_plant) (maxL := 7) (ret := (some .int)) (by decide) rfl (Nat.le_of_ble_eq_true rfl) ?_
  intro p e s m args below meth c A ls H locs S hr hlocks ht hP hK hD hA hS hTE hN hl
  have S0 := S
  obtain ⟨hx, hb, hml, hown, hts⟩ := S0
  have hl : lv_has ls 7 [(0, .ref (d 0)), (1, .int (iI r0)), (2, .int (iI p0)), (3, .int (iI n0)), (4, .int (iI n1)), (5, .ref w9)] := hl
  refine lv_aload hx hb dL_plant_0 (lv_at hl 5 rfl) ?_
  refine lv_iconst (v := iI (0)) hx hb dL_plant_2 rfl ?_
  refine lv_aload_n hx hb dL_plant_3 rfl (lv_at hl 0 rfl) ?_
  refine lv_iload_n hx hb dL_plant_4 rfl (lv_at hl 1 rfl) ?_
  refine lv_iload_n hx hb dL_plant_5 rfl (lv_at hl 2 rfl) ?_
  refine lv_iload_n hx hb dL_plant_6 rfl (lv_at hl 3 rfl) ?_
  refine lv_iload hx hb dL_plant_7 (lv_at hl 4 rfl) ?_
  have hPc : va_P D vwCl (XW cI cZ d σ κ ++ [(w9, LJ cJ g)]) H := hP
  have hDc : va_D A (XW cI cZ d σ κ ++ [(w9, LJ cJ g)]) := hD
  refine h_call (vx_runV (As := [.int (iI r0), .int (iI p0), .int (iI n0), .int (iI n1)]) (rest := [.int (iI (0)), .ref w9]) S ((kX1_plant l hfl D cI cZ d σ κ r0 p0 n0 n1 hwf hl_r0 hh_r0 hl_p0 hh_p0 hl_n0 hh_n0 hl_n1 hh_n1) H.size) (cwV 4 hts gL_plant_X1_plant rfl rfl rfl (by decide +kernel) ⟨Nat.le_of_ble_eq_true rfl, Nat.le_of_ble_eq_true rfl⟩) (h_preV hK [0, 1] rfl hPc hDc hS hA hTE (q0 := 0) (ci := 1) rfl rfl rfl) rfl rfl hl.1 rfl (lv_room (Nat.le_of_ble_eq_true rfl)) dL_plant_9 ⟨Nat.le_of_ble_eq_true rfl, Nat.le_of_ble_eq_true rfl⟩) hPc hDc hS hA (fun E ce q9 H locs hxc hP hS hce hcv hcl => ?_) (fun κ9 H locs hk hP hD hS => ?_)
  · rcases hxc with ⟨rfl, h9⟩ | ⟨rfl, h9⟩
    · have ne : ¬ (tPlant r0 p0 n0 n1) = 0 := by omega
      refine vx_catch (name := eI) hown [] ⟨0, 14, 17, 13⟩ [⟨0, 14, 21, 15⟩] ht (fun z hz => absurd hz List.not_mem_nil) (by decide) (by decide) (hts (.classLink RL 13 "java/lang/IndexOutOfBoundsException") (List.mem_of_getElem? (i := 1) rfl)) (va_Nw.use rfl (hTE.2.2.1 eI (.castable eI eI) List.mem_cons_self (Or.inl rfl))) hce hcv hcl ?_
      refine lv_astore (lv' := [(6, .ref q9), (0, .ref (d 0)), (1, .int (iI r0)), (2, .int (iI p0)), (3, .int (iI n0)), (4, .int (iI n1)), (5, .ref w9)]) hx hb dL_plant_17 hl (by decide) rfl (fun ls hl => ?_)
      refine lv_iconst (v := iI (1)) hx hb dL_plant_19 rfl ?_
      exact g_iret (wo := (fun κ' => XW cI cZ d (pk (tPlant r0 p0 n0 n1) (xPlant (xPlant σ (r0 * 8 + p0) n0 n1) (mir (r0 * 8 + p0)) n0 n1) σ) κ' ++ [(w9, LJ cJ (pk (tPlant r0 p0 n0 n1) (vp_updL g 0 ((iI (who (plA σ (r0 * 8 + p0)) (plA (xPlant σ (r0 * 8 + p0) n0 n1) (mir (r0 * 8 + p0))))).toInt64)) g))])) (kr := (fun _ => True)) (rv := (fun _ => some (.int (iI (tPlant r0 p0 n0 n1))))) hx hb hr hlocks κ rfl (by show va_P D vwCl (XW cI cZ d (pk (tPlant r0 p0 n0 n1) (xPlant (xPlant σ (r0 * 8 + p0) n0 n1) (mir (r0 * 8 + p0)) n0 n1) σ) κ ++ [(w9, LJ cJ (pk (tPlant r0 p0 n0 n1) (vp_updL g 0 ((iI (who (plA σ (r0 * 8 + p0)) (plA (xPlant σ (r0 * 8 + p0) n0 n1) (mir (r0 * 8 + p0))))).toInt64)) g))]) H; rw [pk_n ne, pk_n ne]; exact hP) hK (by show va_D A (XW cI cZ d (pk (tPlant r0 p0 n0 n1) (xPlant (xPlant σ (r0 * 8 + p0) n0 n1) (mir (r0 * 8 + p0)) n0 n1) σ) κ ++ [(w9, LJ cJ (pk (tPlant r0 p0 n0 n1) (vp_updL g 0 ((iI (who (plA σ (r0 * 8 + p0)) (plA (xPlant σ (r0 * 8 + p0) n0 n1) (mir (r0 * 8 + p0))))).toInt64)) g))]); rw [pk_n ne, pk_n ne]; exact hD) hS trivial (by show some (Value.int (iI (tPlant r0 p0 n0 n1))) = _; rw [h9]) (Nat.le_of_ble_eq_true rfl) (Nat.le_of_ble_eq_true rfl) dL_plant_20
    · have ne : ¬ (tPlant r0 p0 n0 n1) = 0 := by omega
      refine vx_catch (name := eA) hown [⟨0, 14, 17, 13⟩] ⟨0, 14, 21, 15⟩ [] ht (fun z hz => by rcases List.mem_singleton.mp hz with rfl; exact Or.inr ⟨by decide, eI, (hts (.classLink RL 13 "java/lang/IndexOutOfBoundsException") (List.mem_of_getElem? (i := 1) rfl)), hN.1⟩) (by decide) (by decide) (hts (.classLink RL 15 "java/lang/IllegalArgumentException") (List.mem_of_getElem? (i := 2) rfl)) (va_Nw.use rfl (hTE.2.2.1 eA (.castable eA eA) List.mem_cons_self (Or.inr (Or.inl rfl)))) hce hcv hcl ?_
      refine lv_astore (lv' := [(6, .ref q9), (0, .ref (d 0)), (1, .int (iI r0)), (2, .int (iI p0)), (3, .int (iI n0)), (4, .int (iI n1)), (5, .ref w9)]) hx hb dL_plant_21 hl (by decide) rfl (fun ls hl => ?_)
      refine lv_iconst (v := iI (2)) hx hb dL_plant_23 rfl ?_
      exact g_iret (wo := (fun κ' => XW cI cZ d (pk (tPlant r0 p0 n0 n1) (xPlant (xPlant σ (r0 * 8 + p0) n0 n1) (mir (r0 * 8 + p0)) n0 n1) σ) κ' ++ [(w9, LJ cJ (pk (tPlant r0 p0 n0 n1) (vp_updL g 0 ((iI (who (plA σ (r0 * 8 + p0)) (plA (xPlant σ (r0 * 8 + p0) n0 n1) (mir (r0 * 8 + p0))))).toInt64)) g))])) (kr := (fun _ => True)) (rv := (fun _ => some (.int (iI (tPlant r0 p0 n0 n1))))) hx hb hr hlocks κ rfl (by show va_P D vwCl (XW cI cZ d (pk (tPlant r0 p0 n0 n1) (xPlant (xPlant σ (r0 * 8 + p0) n0 n1) (mir (r0 * 8 + p0)) n0 n1) σ) κ ++ [(w9, LJ cJ (pk (tPlant r0 p0 n0 n1) (vp_updL g 0 ((iI (who (plA σ (r0 * 8 + p0)) (plA (xPlant σ (r0 * 8 + p0) n0 n1) (mir (r0 * 8 + p0))))).toInt64)) g))]) H; rw [pk_n ne, pk_n ne]; exact hP) hK (by show va_D A (XW cI cZ d (pk (tPlant r0 p0 n0 n1) (xPlant (xPlant σ (r0 * 8 + p0) n0 n1) (mir (r0 * 8 + p0)) n0 n1) σ) κ ++ [(w9, LJ cJ (pk (tPlant r0 p0 n0 n1) (vp_updL g 0 ((iI (who (plA σ (r0 * 8 + p0)) (plA (xPlant σ (r0 * 8 + p0) n0 n1) (mir (r0 * 8 + p0))))).toInt64)) g))]); rw [pk_n ne, pk_n ne]; exact hD) hS trivial (by show some (Value.int (iI (tPlant r0 p0 n0 n1))) = _; rw [h9]) (Nat.le_of_ble_eq_true rfl) (Nat.le_of_ble_eq_true rfl) dL_plant_24
  · have h9 := hk.1
    have hP : va_P D vwCl (XW cI cZ d (xPlant (xPlant σ (r0 * 8 + p0) n0 n1) (mir (r0 * 8 + p0)) n0 n1) κ9 ++ [(w9, LJ cJ g)]) H := hP
    have hD : va_D A (XW cI cZ d (xPlant (xPlant σ (r0 * 8 + p0) n0 n1) (mir (r0 * 8 + p0)) n0 n1) κ9 ++ [(w9, LJ cJ g)]) := hD
    show W p l e ({ frames := 7, cells := 1, slots := 6, locals := 119 } : Room) s m args below meth c H locs 1 6 (MQ below (gQ D (tyLs cI cZ cJ) (fun κ' => XW cI cZ d (pk (tPlant r0 p0 n0 n1) (xPlant (xPlant σ (r0 * 8 + p0) n0 n1) (mir (r0 * 8 + p0)) n0 n1) σ) κ' ++ [(w9, LJ cJ (pk (tPlant r0 p0 n0 n1) (vp_updL g 0 ((iI (who (plA σ (r0 * 8 + p0)) (plA (xPlant σ (r0 * 8 + p0) n0 n1) (mir (r0 * 8 + p0))))).toInt64)) g))]) A (fun _ => some (.int (iI (tPlant r0 p0 n0 n1)))) (fun _ => True)) args s 1 6 A) (F0 m 12 ls [.int (iI (who (plA σ (r0 * 8 + p0)) (plA (xPlant σ (r0 * 8 + p0) n0 n1) (mir (r0 * 8 + p0))))), .int (iI (0)), .ref w9])
    refine lv_i2l (v := (iI (who (plA σ (r0 * 8 + p0)) (plA (xPlant σ (r0 * 8 + p0) n0 n1) (mir (r0 * 8 + p0))))).toInt64) hx hb dL_plant_12 rfl ?_
    refine va_last hx hb hK hP hD hS 12 2 rfl rfl vp0 dL_plant_13 (fun H locs hP hD hS => ?_)
    have hP : va_P D vwCl (XW cI cZ d (xPlant (xPlant σ (r0 * 8 + p0) n0 n1) (mir (r0 * 8 + p0)) n0 n1) κ9 ++ [(w9, LJ cJ (vp_updL g 0 ((iI (who (plA σ (r0 * 8 + p0)) (plA (xPlant σ (r0 * 8 + p0) n0 n1) (mir (r0 * 8 + p0))))).toInt64)))]) H := hP
    have hD : va_D A (XW cI cZ d (xPlant (xPlant σ (r0 * 8 + p0) n0 n1) (mir (r0 * 8 + p0)) n0 n1) κ9 ++ [(w9, LJ cJ (vp_updL g 0 ((iI (who (plA σ (r0 * 8 + p0)) (plA (xPlant σ (r0 * 8 + p0) n0 n1) (mir (r0 * 8 + p0))))).toInt64)))]) := hD
    refine lv_goto (tgt := 25) hx hb dL_plant_14 (by decide) ?_
    refine lv_iconst (v := iI (0)) hx hb dL_plant_25 rfl ?_
    exact g_iret (wo := (fun κ' => XW cI cZ d (pk (tPlant r0 p0 n0 n1) (xPlant (xPlant σ (r0 * 8 + p0) n0 n1) (mir (r0 * 8 + p0)) n0 n1) σ) κ' ++ [(w9, LJ cJ (pk (tPlant r0 p0 n0 n1) (vp_updL g 0 ((iI (who (plA σ (r0 * 8 + p0)) (plA (xPlant σ (r0 * 8 + p0) n0 n1) (mir (r0 * 8 + p0))))).toInt64)) g))])) (kr := (fun _ => True)) (rv := (fun _ => some (.int (iI (tPlant r0 p0 n0 n1))))) hx hb hr hlocks κ9 rfl (by show va_P D vwCl (XW cI cZ d (pk (tPlant r0 p0 n0 n1) (xPlant (xPlant σ (r0 * 8 + p0) n0 n1) (mir (r0 * 8 + p0)) n0 n1) σ) κ9 ++ [(w9, LJ cJ (pk (tPlant r0 p0 n0 n1) (vp_updL g 0 ((iI (who (plA σ (r0 * 8 + p0)) (plA (xPlant σ (r0 * 8 + p0) n0 n1) (mir (r0 * 8 + p0))))).toInt64)) g))]) H; rw [pk_y h9, pk_y h9]; exact hP) hK (by show va_D A (XW cI cZ d (pk (tPlant r0 p0 n0 n1) (xPlant (xPlant σ (r0 * 8 + p0) n0 n1) (mir (r0 * 8 + p0)) n0 n1) σ) κ9 ++ [(w9, LJ cJ (pk (tPlant r0 p0 n0 n1) (vp_updL g 0 ((iI (who (plA σ (r0 * 8 + p0)) (plA (xPlant σ (r0 * 8 + p0) n0 n1) (mir (r0 * 8 + p0))))).toInt64)) g))]); rw [pk_y h9, pk_y h9]; exact hD) hS trivial (by show some (Value.int (iI (tPlant r0 p0 n0 n1))) = _; rw [h9]) (Nat.le_of_ble_eq_true rfl) (Nat.le_of_ble_eq_true rfl) dL_plant_26
set_option maxHeartbeats 4000000 in
set_option maxRecDepth 100000 in
theorem kL_prune (l : Launch) (hfl : l.stackTraces = false) (D : va_G) (cI cZ cJ : ClassId) (d : Nat → Nat) (σ κ : St) (w9 : Nat) (g : Nat → Int64) (r0 : Int) (p0 : Int) (c0 : Int) (hwf : xWF σ) (hl_r0 : -2147483648 ≤ r0) (hh_r0 : r0 ≤ 2147483647) (hl_p0 : -2147483648 ≤ p0) (hh_p0 : p0 ≤ 2147483647) (hl_c0 : -2147483648 ≤ c0) (hh_c0 : c0 ≤ 2147483647) : gMet l yL_prune wsL_prune ({ frames := 7, cells := 1, slots := 6, locals := 118 } : Room) D (tyLs cI cZ cJ) (XW cI cZ d σ κ ++ [(w9, LJ cJ g)]) [.ref (d 0), .int (iI r0), .int (iI p0), .int (iI c0), .ref w9] (lEx (XW cI cZ d σ κ ++ [(w9, LJ cJ g)])) (fun _ => some (.int (iI (tPrune r0 p0 c0)))) (fun _ => True) (fun κ' => XW cI cZ d (pk (tPrune r0 p0 c0) (xPrune (xPrune σ (r0 * 8 + p0) c0) (mir (r0 * 8 + p0)) c0) σ) κ' ++ [(w9, LJ cJ (pk (tPrune r0 p0 c0) (vp_updL g 0 ((iI (who (prA σ (r0 * 8 + p0) c0) (prA (xPrune σ (r0 * 8 + p0) c0) (mir (r0 * 8 + p0)) c0))).toInt64)) g))]) := by
  refine g_startH (cc := cL_prune) (maxL := 6) (ret := (some .int)) (by decide) rfl (Nat.le_of_ble_eq_true rfl) ?_
  intro p e s m args below meth c A ls H locs S hr hlocks ht hP hK hD hA hS hTE hN hl
  have S0 := S
  obtain ⟨hx, hb, hml, hown, hts⟩ := S0
  have hl : lv_has ls 6 [(0, .ref (d 0)), (1, .int (iI r0)), (2, .int (iI p0)), (3, .int (iI c0)), (4, .ref w9)] := hl
  refine lv_aload hx hb dL_prune_0 (lv_at hl 4 rfl) ?_
  refine lv_iconst (v := iI (0)) hx hb dL_prune_2 rfl ?_
  refine lv_aload_n hx hb dL_prune_3 rfl (lv_at hl 0 rfl) ?_
  refine lv_iload_n hx hb dL_prune_4 rfl (lv_at hl 1 rfl) ?_
  refine lv_iload_n hx hb dL_prune_5 rfl (lv_at hl 2 rfl) ?_
  refine lv_iload_n hx hb dL_prune_6 rfl (lv_at hl 3 rfl) ?_
  have hPc : va_P D vwCl (XW cI cZ d σ κ ++ [(w9, LJ cJ g)]) H := hP
  have hDc : va_D A (XW cI cZ d σ κ ++ [(w9, LJ cJ g)]) := hD
  refine h_call (vx_runV (As := [.int (iI r0), .int (iI p0), .int (iI c0)]) (rest := [.int (iI (0)), .ref w9]) S ((kX1_prune l hfl D cI cZ d σ κ r0 p0 c0 hwf hl_r0 hh_r0 hl_p0 hh_p0 hl_c0 hh_c0) H.size) (cwV 3 hts gL_prune_X1_prune rfl rfl rfl (by decide +kernel) ⟨Nat.le_of_ble_eq_true rfl, Nat.le_of_ble_eq_true rfl⟩) (h_preV hK [0, 1] rfl hPc hDc hS hA hTE (q0 := 0) (ci := 1) rfl rfl rfl) rfl rfl hl.1 rfl (lv_room (Nat.le_of_ble_eq_true rfl)) dL_prune_7 ⟨Nat.le_of_ble_eq_true rfl, Nat.le_of_ble_eq_true rfl⟩) hPc hDc hS hA (fun E ce q9 H locs hxc hP hS hce hcv hcl => ?_) (fun κ9 H locs hk hP hD hS => ?_)
  · rcases hxc with ⟨rfl, h9⟩ | ⟨rfl, h9⟩
    · have ne : ¬ (tPrune r0 p0 c0) = 0 := by omega
      refine vx_catch (name := eI) hown [] ⟨0, 12, 15, 13⟩ [⟨0, 12, 19, 15⟩] ht (fun z hz => absurd hz List.not_mem_nil) (by decide) (by decide) (hts (.classLink RL 13 "java/lang/IndexOutOfBoundsException") (List.mem_of_getElem? (i := 1) rfl)) (va_Nw.use rfl (hTE.2.2.1 eI (.castable eI eI) List.mem_cons_self (Or.inl rfl))) hce hcv hcl ?_
      refine lv_astore (lv' := [(5, .ref q9), (0, .ref (d 0)), (1, .int (iI r0)), (2, .int (iI p0)), (3, .int (iI c0)), (4, .ref w9)]) hx hb dL_prune_15 hl (by decide) rfl (fun ls hl => ?_)
      refine lv_iconst (v := iI (1)) hx hb dL_prune_17 rfl ?_
      exact g_iret (wo := (fun κ' => XW cI cZ d (pk (tPrune r0 p0 c0) (xPrune (xPrune σ (r0 * 8 + p0) c0) (mir (r0 * 8 + p0)) c0) σ) κ' ++ [(w9, LJ cJ (pk (tPrune r0 p0 c0) (vp_updL g 0 ((iI (who (prA σ (r0 * 8 + p0) c0) (prA (xPrune σ (r0 * 8 + p0) c0) (mir (r0 * 8 + p0)) c0))).toInt64)) g))])) (kr := (fun _ => True)) (rv := (fun _ => some (.int (iI (tPrune r0 p0 c0))))) hx hb hr hlocks κ rfl (by show va_P D vwCl (XW cI cZ d (pk (tPrune r0 p0 c0) (xPrune (xPrune σ (r0 * 8 + p0) c0) (mir (r0 * 8 + p0)) c0) σ) κ ++ [(w9, LJ cJ (pk (tPrune r0 p0 c0) (vp_updL g 0 ((iI (who (prA σ (r0 * 8 + p0) c0) (prA (xPrune σ (r0 * 8 + p0) c0) (mir (r0 * 8 + p0)) c0))).toInt64)) g))]) H; rw [pk_n ne, pk_n ne]; exact hP) hK (by show va_D A (XW cI cZ d (pk (tPrune r0 p0 c0) (xPrune (xPrune σ (r0 * 8 + p0) c0) (mir (r0 * 8 + p0)) c0) σ) κ ++ [(w9, LJ cJ (pk (tPrune r0 p0 c0) (vp_updL g 0 ((iI (who (prA σ (r0 * 8 + p0) c0) (prA (xPrune σ (r0 * 8 + p0) c0) (mir (r0 * 8 + p0)) c0))).toInt64)) g))]); rw [pk_n ne, pk_n ne]; exact hD) hS trivial (by show some (Value.int (iI (tPrune r0 p0 c0))) = _; rw [h9]) (Nat.le_of_ble_eq_true rfl) (Nat.le_of_ble_eq_true rfl) dL_prune_18
    · have ne : ¬ (tPrune r0 p0 c0) = 0 := by omega
      refine vx_catch (name := eA) hown [⟨0, 12, 15, 13⟩] ⟨0, 12, 19, 15⟩ [] ht (fun z hz => by rcases List.mem_singleton.mp hz with rfl; exact Or.inr ⟨by decide, eI, (hts (.classLink RL 13 "java/lang/IndexOutOfBoundsException") (List.mem_of_getElem? (i := 1) rfl)), hN.1⟩) (by decide) (by decide) (hts (.classLink RL 15 "java/lang/IllegalArgumentException") (List.mem_of_getElem? (i := 2) rfl)) (va_Nw.use rfl (hTE.2.2.1 eA (.castable eA eA) List.mem_cons_self (Or.inr (Or.inl rfl)))) hce hcv hcl ?_
      refine lv_astore (lv' := [(5, .ref q9), (0, .ref (d 0)), (1, .int (iI r0)), (2, .int (iI p0)), (3, .int (iI c0)), (4, .ref w9)]) hx hb dL_prune_19 hl (by decide) rfl (fun ls hl => ?_)
      refine lv_iconst (v := iI (2)) hx hb dL_prune_21 rfl ?_
      exact g_iret (wo := (fun κ' => XW cI cZ d (pk (tPrune r0 p0 c0) (xPrune (xPrune σ (r0 * 8 + p0) c0) (mir (r0 * 8 + p0)) c0) σ) κ' ++ [(w9, LJ cJ (pk (tPrune r0 p0 c0) (vp_updL g 0 ((iI (who (prA σ (r0 * 8 + p0) c0) (prA (xPrune σ (r0 * 8 + p0) c0) (mir (r0 * 8 + p0)) c0))).toInt64)) g))])) (kr := (fun _ => True)) (rv := (fun _ => some (.int (iI (tPrune r0 p0 c0))))) hx hb hr hlocks κ rfl (by show va_P D vwCl (XW cI cZ d (pk (tPrune r0 p0 c0) (xPrune (xPrune σ (r0 * 8 + p0) c0) (mir (r0 * 8 + p0)) c0) σ) κ ++ [(w9, LJ cJ (pk (tPrune r0 p0 c0) (vp_updL g 0 ((iI (who (prA σ (r0 * 8 + p0) c0) (prA (xPrune σ (r0 * 8 + p0) c0) (mir (r0 * 8 + p0)) c0))).toInt64)) g))]) H; rw [pk_n ne, pk_n ne]; exact hP) hK (by show va_D A (XW cI cZ d (pk (tPrune r0 p0 c0) (xPrune (xPrune σ (r0 * 8 + p0) c0) (mir (r0 * 8 + p0)) c0) σ) κ ++ [(w9, LJ cJ (pk (tPrune r0 p0 c0) (vp_updL g 0 ((iI (who (prA σ (r0 * 8 + p0) c0) (prA (xPrune σ (r0 * 8 + p0) c0) (mir (r0 * 8 + p0)) c0))).toInt64)) g))]); rw [pk_n ne, pk_n ne]; exact hD) hS trivial (by show some (Value.int (iI (tPrune r0 p0 c0))) = _; rw [h9]) (Nat.le_of_ble_eq_true rfl) (Nat.le_of_ble_eq_true rfl) dL_prune_22
  · have h9 := hk.1
    have hP : va_P D vwCl (XW cI cZ d (xPrune (xPrune σ (r0 * 8 + p0) c0) (mir (r0 * 8 + p0)) c0) κ9 ++ [(w9, LJ cJ g)]) H := hP
    have hD : va_D A (XW cI cZ d (xPrune (xPrune σ (r0 * 8 + p0) c0) (mir (r0 * 8 + p0)) c0) κ9 ++ [(w9, LJ cJ g)]) := hD
    show W p l e ({ frames := 7, cells := 1, slots := 6, locals := 118 } : Room) s m args below meth c H locs 1 6 (MQ below (gQ D (tyLs cI cZ cJ) (fun κ' => XW cI cZ d (pk (tPrune r0 p0 c0) (xPrune (xPrune σ (r0 * 8 + p0) c0) (mir (r0 * 8 + p0)) c0) σ) κ' ++ [(w9, LJ cJ (pk (tPrune r0 p0 c0) (vp_updL g 0 ((iI (who (prA σ (r0 * 8 + p0) c0) (prA (xPrune σ (r0 * 8 + p0) c0) (mir (r0 * 8 + p0)) c0))).toInt64)) g))]) A (fun _ => some (.int (iI (tPrune r0 p0 c0)))) (fun _ => True)) args s 1 6 A) (F0 m 10 ls [.int (iI (who (prA σ (r0 * 8 + p0) c0) (prA (xPrune σ (r0 * 8 + p0) c0) (mir (r0 * 8 + p0)) c0))), .int (iI (0)), .ref w9])
    refine lv_i2l (v := (iI (who (prA σ (r0 * 8 + p0) c0) (prA (xPrune σ (r0 * 8 + p0) c0) (mir (r0 * 8 + p0)) c0))).toInt64) hx hb dL_prune_10 rfl ?_
    refine va_last hx hb hK hP hD hS 12 2 rfl rfl vp0 dL_prune_11 (fun H locs hP hD hS => ?_)
    have hP : va_P D vwCl (XW cI cZ d (xPrune (xPrune σ (r0 * 8 + p0) c0) (mir (r0 * 8 + p0)) c0) κ9 ++ [(w9, LJ cJ (vp_updL g 0 ((iI (who (prA σ (r0 * 8 + p0) c0) (prA (xPrune σ (r0 * 8 + p0) c0) (mir (r0 * 8 + p0)) c0))).toInt64)))]) H := hP
    have hD : va_D A (XW cI cZ d (xPrune (xPrune σ (r0 * 8 + p0) c0) (mir (r0 * 8 + p0)) c0) κ9 ++ [(w9, LJ cJ (vp_updL g 0 ((iI (who (prA σ (r0 * 8 + p0) c0) (prA (xPrune σ (r0 * 8 + p0) c0) (mir (r0 * 8 + p0)) c0))).toInt64)))]) := hD
    refine lv_goto (tgt := 23) hx hb dL_prune_12 (by decide) ?_
    refine lv_iconst (v := iI (0)) hx hb dL_prune_23 rfl ?_
    exact g_iret (wo := (fun κ' => XW cI cZ d (pk (tPrune r0 p0 c0) (xPrune (xPrune σ (r0 * 8 + p0) c0) (mir (r0 * 8 + p0)) c0) σ) κ' ++ [(w9, LJ cJ (pk (tPrune r0 p0 c0) (vp_updL g 0 ((iI (who (prA σ (r0 * 8 + p0) c0) (prA (xPrune σ (r0 * 8 + p0) c0) (mir (r0 * 8 + p0)) c0))).toInt64)) g))])) (kr := (fun _ => True)) (rv := (fun _ => some (.int (iI (tPrune r0 p0 c0))))) hx hb hr hlocks κ9 rfl (by show va_P D vwCl (XW cI cZ d (pk (tPrune r0 p0 c0) (xPrune (xPrune σ (r0 * 8 + p0) c0) (mir (r0 * 8 + p0)) c0) σ) κ9 ++ [(w9, LJ cJ (pk (tPrune r0 p0 c0) (vp_updL g 0 ((iI (who (prA σ (r0 * 8 + p0) c0) (prA (xPrune σ (r0 * 8 + p0) c0) (mir (r0 * 8 + p0)) c0))).toInt64)) g))]) H; rw [pk_y h9, pk_y h9]; exact hP) hK (by show va_D A (XW cI cZ d (pk (tPrune r0 p0 c0) (xPrune (xPrune σ (r0 * 8 + p0) c0) (mir (r0 * 8 + p0)) c0) σ) κ9 ++ [(w9, LJ cJ (pk (tPrune r0 p0 c0) (vp_updL g 0 ((iI (who (prA σ (r0 * 8 + p0) c0) (prA (xPrune σ (r0 * 8 + p0) c0) (mir (r0 * 8 + p0)) c0))).toInt64)) g))]); rw [pk_y h9, pk_y h9]; exact hD) hS trivial (by show some (Value.int (iI (tPrune r0 p0 c0))) = _; rw [h9]) (Nat.le_of_ble_eq_true rfl) (Nat.le_of_ble_eq_true rfl) dL_prune_24
set_option maxHeartbeats 4000000 in
set_option maxRecDepth 100000 in
theorem kL_graft (l : Launch) (hfl : l.stackTraces = false) (D : va_G) (cI cZ cJ : ClassId) (d : Nat → Nat) (σ κ : St) (w9 : Nat) (g : Nat → Int64) (r0 : Int) (p0 : Int) (n0 : Int) (hwf : xWF σ) (hl_r0 : -2147483648 ≤ r0) (hh_r0 : r0 ≤ 2147483647) (hl_p0 : -2147483648 ≤ p0) (hh_p0 : p0 ≤ 2147483647) (hl_n0 : -2147483648 ≤ n0) (hh_n0 : n0 ≤ 2147483647) : gMet l yL_graft wsL_graft ({ frames := 7, cells := 1, slots := 6, locals := 118 } : Room) D (tyLs cI cZ cJ) (XW cI cZ d σ κ ++ [(w9, LJ cJ g)]) [.ref (d 0), .int (iI r0), .int (iI p0), .int (iI n0), .ref w9] (lEx (XW cI cZ d σ κ ++ [(w9, LJ cJ g)])) (fun _ => some (.int (iI (tGraft r0 p0 n0)))) (fun _ => True) (fun κ' => XW cI cZ d (pk (tGraft r0 p0 n0) (xGraft (xGraft σ (r0 * 8 + p0) n0) (mir (r0 * 8 + p0)) n0) σ) κ' ++ [(w9, LJ cJ (pk (tGraft r0 p0 n0) (vp_updL g 0 ((iI (who (grA σ (r0 * 8 + p0) n0) (grA (xGraft σ (r0 * 8 + p0) n0) (mir (r0 * 8 + p0)) n0))).toInt64)) g))]) := by
  refine g_startH (cc := cL_graft) (maxL := 6) (ret := (some .int)) (by decide) rfl (Nat.le_of_ble_eq_true rfl) ?_
  intro p e s m args below meth c A ls H locs S hr hlocks ht hP hK hD hA hS hTE hN hl
  have S0 := S
  obtain ⟨hx, hb, hml, hown, hts⟩ := S0
  have hl : lv_has ls 6 [(0, .ref (d 0)), (1, .int (iI r0)), (2, .int (iI p0)), (3, .int (iI n0)), (4, .ref w9)] := hl
  refine lv_aload hx hb dL_graft_0 (lv_at hl 4 rfl) ?_
  refine lv_iconst (v := iI (0)) hx hb dL_graft_2 rfl ?_
  refine lv_aload_n hx hb dL_graft_3 rfl (lv_at hl 0 rfl) ?_
  refine lv_iload_n hx hb dL_graft_4 rfl (lv_at hl 1 rfl) ?_
  refine lv_iload_n hx hb dL_graft_5 rfl (lv_at hl 2 rfl) ?_
  refine lv_iload_n hx hb dL_graft_6 rfl (lv_at hl 3 rfl) ?_
  have hPc : va_P D vwCl (XW cI cZ d σ κ ++ [(w9, LJ cJ g)]) H := hP
  have hDc : va_D A (XW cI cZ d σ κ ++ [(w9, LJ cJ g)]) := hD
  refine h_call (vx_runV (As := [.int (iI r0), .int (iI p0), .int (iI n0)]) (rest := [.int (iI (0)), .ref w9]) S ((kX1_graft l hfl D cI cZ d σ κ r0 p0 n0 hwf hl_r0 hh_r0 hl_p0 hh_p0 hl_n0 hh_n0) H.size) (cwV 3 hts gL_graft_X1_graft rfl rfl rfl (by decide +kernel) ⟨Nat.le_of_ble_eq_true rfl, Nat.le_of_ble_eq_true rfl⟩) (h_preV hK [0, 1] rfl hPc hDc hS hA hTE (q0 := 0) (ci := 1) rfl rfl rfl) rfl rfl hl.1 rfl (lv_room (Nat.le_of_ble_eq_true rfl)) dL_graft_7 ⟨Nat.le_of_ble_eq_true rfl, Nat.le_of_ble_eq_true rfl⟩) hPc hDc hS hA (fun E ce q9 H locs hxc hP hS hce hcv hcl => ?_) (fun κ9 H locs hk hP hD hS => ?_)
  · rcases hxc with ⟨rfl, h9⟩ | ⟨rfl, h9⟩
    · have ne : ¬ (tGraft r0 p0 n0) = 0 := by omega
      refine vx_catch (name := eI) hown [] ⟨0, 12, 15, 13⟩ [⟨0, 12, 19, 15⟩] ht (fun z hz => absurd hz List.not_mem_nil) (by decide) (by decide) (hts (.classLink RL 13 "java/lang/IndexOutOfBoundsException") (List.mem_of_getElem? (i := 1) rfl)) (va_Nw.use rfl (hTE.2.2.1 eI (.castable eI eI) List.mem_cons_self (Or.inl rfl))) hce hcv hcl ?_
      refine lv_astore (lv' := [(5, .ref q9), (0, .ref (d 0)), (1, .int (iI r0)), (2, .int (iI p0)), (3, .int (iI n0)), (4, .ref w9)]) hx hb dL_graft_15 hl (by decide) rfl (fun ls hl => ?_)
      refine lv_iconst (v := iI (1)) hx hb dL_graft_17 rfl ?_
      exact g_iret (wo := (fun κ' => XW cI cZ d (pk (tGraft r0 p0 n0) (xGraft (xGraft σ (r0 * 8 + p0) n0) (mir (r0 * 8 + p0)) n0) σ) κ' ++ [(w9, LJ cJ (pk (tGraft r0 p0 n0) (vp_updL g 0 ((iI (who (grA σ (r0 * 8 + p0) n0) (grA (xGraft σ (r0 * 8 + p0) n0) (mir (r0 * 8 + p0)) n0))).toInt64)) g))])) (kr := (fun _ => True)) (rv := (fun _ => some (.int (iI (tGraft r0 p0 n0))))) hx hb hr hlocks κ rfl (by show va_P D vwCl (XW cI cZ d (pk (tGraft r0 p0 n0) (xGraft (xGraft σ (r0 * 8 + p0) n0) (mir (r0 * 8 + p0)) n0) σ) κ ++ [(w9, LJ cJ (pk (tGraft r0 p0 n0) (vp_updL g 0 ((iI (who (grA σ (r0 * 8 + p0) n0) (grA (xGraft σ (r0 * 8 + p0) n0) (mir (r0 * 8 + p0)) n0))).toInt64)) g))]) H; rw [pk_n ne, pk_n ne]; exact hP) hK (by show va_D A (XW cI cZ d (pk (tGraft r0 p0 n0) (xGraft (xGraft σ (r0 * 8 + p0) n0) (mir (r0 * 8 + p0)) n0) σ) κ ++ [(w9, LJ cJ (pk (tGraft r0 p0 n0) (vp_updL g 0 ((iI (who (grA σ (r0 * 8 + p0) n0) (grA (xGraft σ (r0 * 8 + p0) n0) (mir (r0 * 8 + p0)) n0))).toInt64)) g))]); rw [pk_n ne, pk_n ne]; exact hD) hS trivial (by show some (Value.int (iI (tGraft r0 p0 n0))) = _; rw [h9]) (Nat.le_of_ble_eq_true rfl) (Nat.le_of_ble_eq_true rfl) dL_graft_18
    · have ne : ¬ (tGraft r0 p0 n0) = 0 := by omega
      refine vx_catch (name := eA) hown [⟨0, 12, 15, 13⟩] ⟨0, 12, 19, 15⟩ [] ht (fun z hz => by rcases List.mem_singleton.mp hz with rfl; exact Or.inr ⟨by decide, eI, (hts (.classLink RL 13 "java/lang/IndexOutOfBoundsException") (List.mem_of_getElem? (i := 1) rfl)), hN.1⟩) (by decide) (by decide) (hts (.classLink RL 15 "java/lang/IllegalArgumentException") (List.mem_of_getElem? (i := 2) rfl)) (va_Nw.use rfl (hTE.2.2.1 eA (.castable eA eA) List.mem_cons_self (Or.inr (Or.inl rfl)))) hce hcv hcl ?_
      refine lv_astore (lv' := [(5, .ref q9), (0, .ref (d 0)), (1, .int (iI r0)), (2, .int (iI p0)), (3, .int (iI n0)), (4, .ref w9)]) hx hb dL_graft_19 hl (by decide) rfl (fun ls hl => ?_)
      refine lv_iconst (v := iI (2)) hx hb dL_graft_21 rfl ?_
      exact g_iret (wo := (fun κ' => XW cI cZ d (pk (tGraft r0 p0 n0) (xGraft (xGraft σ (r0 * 8 + p0) n0) (mir (r0 * 8 + p0)) n0) σ) κ' ++ [(w9, LJ cJ (pk (tGraft r0 p0 n0) (vp_updL g 0 ((iI (who (grA σ (r0 * 8 + p0) n0) (grA (xGraft σ (r0 * 8 + p0) n0) (mir (r0 * 8 + p0)) n0))).toInt64)) g))])) (kr := (fun _ => True)) (rv := (fun _ => some (.int (iI (tGraft r0 p0 n0))))) hx hb hr hlocks κ rfl (by show va_P D vwCl (XW cI cZ d (pk (tGraft r0 p0 n0) (xGraft (xGraft σ (r0 * 8 + p0) n0) (mir (r0 * 8 + p0)) n0) σ) κ ++ [(w9, LJ cJ (pk (tGraft r0 p0 n0) (vp_updL g 0 ((iI (who (grA σ (r0 * 8 + p0) n0) (grA (xGraft σ (r0 * 8 + p0) n0) (mir (r0 * 8 + p0)) n0))).toInt64)) g))]) H; rw [pk_n ne, pk_n ne]; exact hP) hK (by show va_D A (XW cI cZ d (pk (tGraft r0 p0 n0) (xGraft (xGraft σ (r0 * 8 + p0) n0) (mir (r0 * 8 + p0)) n0) σ) κ ++ [(w9, LJ cJ (pk (tGraft r0 p0 n0) (vp_updL g 0 ((iI (who (grA σ (r0 * 8 + p0) n0) (grA (xGraft σ (r0 * 8 + p0) n0) (mir (r0 * 8 + p0)) n0))).toInt64)) g))]); rw [pk_n ne, pk_n ne]; exact hD) hS trivial (by show some (Value.int (iI (tGraft r0 p0 n0))) = _; rw [h9]) (Nat.le_of_ble_eq_true rfl) (Nat.le_of_ble_eq_true rfl) dL_graft_22
  · have h9 := hk.1
    have hP : va_P D vwCl (XW cI cZ d (xGraft (xGraft σ (r0 * 8 + p0) n0) (mir (r0 * 8 + p0)) n0) κ9 ++ [(w9, LJ cJ g)]) H := hP
    have hD : va_D A (XW cI cZ d (xGraft (xGraft σ (r0 * 8 + p0) n0) (mir (r0 * 8 + p0)) n0) κ9 ++ [(w9, LJ cJ g)]) := hD
    show W p l e ({ frames := 7, cells := 1, slots := 6, locals := 118 } : Room) s m args below meth c H locs 1 6 (MQ below (gQ D (tyLs cI cZ cJ) (fun κ' => XW cI cZ d (pk (tGraft r0 p0 n0) (xGraft (xGraft σ (r0 * 8 + p0) n0) (mir (r0 * 8 + p0)) n0) σ) κ' ++ [(w9, LJ cJ (pk (tGraft r0 p0 n0) (vp_updL g 0 ((iI (who (grA σ (r0 * 8 + p0) n0) (grA (xGraft σ (r0 * 8 + p0) n0) (mir (r0 * 8 + p0)) n0))).toInt64)) g))]) A (fun _ => some (.int (iI (tGraft r0 p0 n0)))) (fun _ => True)) args s 1 6 A) (F0 m 10 ls [.int (iI (who (grA σ (r0 * 8 + p0) n0) (grA (xGraft σ (r0 * 8 + p0) n0) (mir (r0 * 8 + p0)) n0))), .int (iI (0)), .ref w9])
    refine lv_i2l (v := (iI (who (grA σ (r0 * 8 + p0) n0) (grA (xGraft σ (r0 * 8 + p0) n0) (mir (r0 * 8 + p0)) n0))).toInt64) hx hb dL_graft_10 rfl ?_
    refine va_last hx hb hK hP hD hS 12 2 rfl rfl vp0 dL_graft_11 (fun H locs hP hD hS => ?_)
    have hP : va_P D vwCl (XW cI cZ d (xGraft (xGraft σ (r0 * 8 + p0) n0) (mir (r0 * 8 + p0)) n0) κ9 ++ [(w9, LJ cJ (vp_updL g 0 ((iI (who (grA σ (r0 * 8 + p0) n0) (grA (xGraft σ (r0 * 8 + p0) n0) (mir (r0 * 8 + p0)) n0))).toInt64)))]) H := hP
    have hD : va_D A (XW cI cZ d (xGraft (xGraft σ (r0 * 8 + p0) n0) (mir (r0 * 8 + p0)) n0) κ9 ++ [(w9, LJ cJ (vp_updL g 0 ((iI (who (grA σ (r0 * 8 + p0) n0) (grA (xGraft σ (r0 * 8 + p0) n0) (mir (r0 * 8 + p0)) n0))).toInt64)))]) := hD
    refine lv_goto (tgt := 23) hx hb dL_graft_12 (by decide) ?_
    refine lv_iconst (v := iI (0)) hx hb dL_graft_23 rfl ?_
    exact g_iret (wo := (fun κ' => XW cI cZ d (pk (tGraft r0 p0 n0) (xGraft (xGraft σ (r0 * 8 + p0) n0) (mir (r0 * 8 + p0)) n0) σ) κ' ++ [(w9, LJ cJ (pk (tGraft r0 p0 n0) (vp_updL g 0 ((iI (who (grA σ (r0 * 8 + p0) n0) (grA (xGraft σ (r0 * 8 + p0) n0) (mir (r0 * 8 + p0)) n0))).toInt64)) g))])) (kr := (fun _ => True)) (rv := (fun _ => some (.int (iI (tGraft r0 p0 n0))))) hx hb hr hlocks κ9 rfl (by show va_P D vwCl (XW cI cZ d (pk (tGraft r0 p0 n0) (xGraft (xGraft σ (r0 * 8 + p0) n0) (mir (r0 * 8 + p0)) n0) σ) κ9 ++ [(w9, LJ cJ (pk (tGraft r0 p0 n0) (vp_updL g 0 ((iI (who (grA σ (r0 * 8 + p0) n0) (grA (xGraft σ (r0 * 8 + p0) n0) (mir (r0 * 8 + p0)) n0))).toInt64)) g))]) H; rw [pk_y h9, pk_y h9]; exact hP) hK (by show va_D A (XW cI cZ d (pk (tGraft r0 p0 n0) (xGraft (xGraft σ (r0 * 8 + p0) n0) (mir (r0 * 8 + p0)) n0) σ) κ9 ++ [(w9, LJ cJ (pk (tGraft r0 p0 n0) (vp_updL g 0 ((iI (who (grA σ (r0 * 8 + p0) n0) (grA (xGraft σ (r0 * 8 + p0) n0) (mir (r0 * 8 + p0)) n0))).toInt64)) g))]); rw [pk_y h9, pk_y h9]; exact hD) hS trivial (by show some (Value.int (iI (tGraft r0 p0 n0))) = _; rw [h9]) (Nat.le_of_ble_eq_true rfl) (Nat.le_of_ble_eq_true rfl) dL_graft_24
set_option maxHeartbeats 4000000 in
set_option maxRecDepth 100000 in
theorem kL_fell (l : Launch) (hfl : l.stackTraces = false) (D : va_G) (cI cZ cJ : ClassId) (d : Nat → Nat) (σ κ : St) (w9 : Nat) (g : Nat → Int64) (r0 : Int) (p0 : Int) (hwf : xWF σ) (hl_r0 : -2147483648 ≤ r0) (hh_r0 : r0 ≤ 2147483647) (hl_p0 : -2147483648 ≤ p0) (hh_p0 : p0 ≤ 2147483647) : gMet l yL_fell wsL_fell ({ frames := 7, cells := 1, slots := 6, locals := 117 } : Room) D (tyLs cI cZ cJ) (XW cI cZ d σ κ ++ [(w9, LJ cJ g)]) [.ref (d 0), .int (iI r0), .int (iI p0), .ref w9] (lEx (XW cI cZ d σ κ ++ [(w9, LJ cJ g)])) (fun _ => some (.int (iI (tFell r0 p0)))) (fun _ => True) (fun κ' => XW cI cZ d (pk (tFell r0 p0) (xFell (xFell σ (r0 * 8 + p0)) (mir (r0 * 8 + p0))) σ) κ' ++ [(w9, LJ cJ (pk (tFell r0 p0) (vp_updL g 0 ((iI (who (feA σ (r0 * 8 + p0)) (feA (xFell σ (r0 * 8 + p0)) (mir (r0 * 8 + p0))))).toInt64)) g))]) := by
  refine g_startH (cc := cL_fell) (maxL := 5) (ret := (some .int)) (by decide) rfl (Nat.le_of_ble_eq_true rfl) ?_
  intro p e s m args below meth c A ls H locs S hr hlocks ht hP hK hD hA hS hTE hN hl
  have S0 := S
  obtain ⟨hx, hb, hml, hown, hts⟩ := S0
  have hl : lv_has ls 5 [(0, .ref (d 0)), (1, .int (iI r0)), (2, .int (iI p0)), (3, .ref w9)] := hl
  refine lv_aload_n hx hb dL_fell_0 rfl (lv_at hl 3 rfl) ?_
  refine lv_iconst (v := iI (0)) hx hb dL_fell_1 rfl ?_
  refine lv_aload_n hx hb dL_fell_2 rfl (lv_at hl 0 rfl) ?_
  refine lv_iload_n hx hb dL_fell_3 rfl (lv_at hl 1 rfl) ?_
  refine lv_iload_n hx hb dL_fell_4 rfl (lv_at hl 2 rfl) ?_
  have hPc : va_P D vwCl (XW cI cZ d σ κ ++ [(w9, LJ cJ g)]) H := hP
  have hDc : va_D A (XW cI cZ d σ κ ++ [(w9, LJ cJ g)]) := hD
  refine h_call (vx_runV (As := [.int (iI r0), .int (iI p0)]) (rest := [.int (iI (0)), .ref w9]) S ((kX1_fell l hfl D cI cZ d σ κ r0 p0 hwf hl_r0 hh_r0 hl_p0 hh_p0) H.size) (cwV 2 hts gL_fell_X1_fell rfl rfl rfl (by decide +kernel) ⟨Nat.le_of_ble_eq_true rfl, Nat.le_of_ble_eq_true rfl⟩) (h_preV hK [0, 1] rfl hPc hDc hS hA hTE (q0 := 0) (ci := 1) rfl rfl rfl) rfl rfl hl.1 rfl (lv_room (Nat.le_of_ble_eq_true rfl)) dL_fell_5 ⟨Nat.le_of_ble_eq_true rfl, Nat.le_of_ble_eq_true rfl⟩) hPc hDc hS hA (fun E ce q9 H locs hxc hP hS hce hcv hcl => ?_) (fun κ9 H locs hk hP hD hS => ?_)
  · rcases hxc with ⟨rfl, h9⟩
    · have ne : ¬ (tFell r0 p0) = 0 := by omega
      refine vx_catch (name := eI) hown [] ⟨0, 10, 13, 13⟩ [] ht (fun z hz => absurd hz List.not_mem_nil) (by decide) (by decide) (hts (.classLink RL 13 "java/lang/IndexOutOfBoundsException") (List.mem_of_getElem? (i := 1) rfl)) (va_Nw.use rfl (hTE.2.2.1 eI (.castable eI eI) List.mem_cons_self (Or.inl rfl))) hce hcv hcl ?_
      refine lv_astore (lv' := [(4, .ref q9), (0, .ref (d 0)), (1, .int (iI r0)), (2, .int (iI p0)), (3, .ref w9)]) hx hb dL_fell_13 hl (by decide) rfl (fun ls hl => ?_)
      refine lv_iconst (v := iI (1)) hx hb dL_fell_15 rfl ?_
      exact g_iret (wo := (fun κ' => XW cI cZ d (pk (tFell r0 p0) (xFell (xFell σ (r0 * 8 + p0)) (mir (r0 * 8 + p0))) σ) κ' ++ [(w9, LJ cJ (pk (tFell r0 p0) (vp_updL g 0 ((iI (who (feA σ (r0 * 8 + p0)) (feA (xFell σ (r0 * 8 + p0)) (mir (r0 * 8 + p0))))).toInt64)) g))])) (kr := (fun _ => True)) (rv := (fun _ => some (.int (iI (tFell r0 p0))))) hx hb hr hlocks κ rfl (by show va_P D vwCl (XW cI cZ d (pk (tFell r0 p0) (xFell (xFell σ (r0 * 8 + p0)) (mir (r0 * 8 + p0))) σ) κ ++ [(w9, LJ cJ (pk (tFell r0 p0) (vp_updL g 0 ((iI (who (feA σ (r0 * 8 + p0)) (feA (xFell σ (r0 * 8 + p0)) (mir (r0 * 8 + p0))))).toInt64)) g))]) H; rw [pk_n ne, pk_n ne]; exact hP) hK (by show va_D A (XW cI cZ d (pk (tFell r0 p0) (xFell (xFell σ (r0 * 8 + p0)) (mir (r0 * 8 + p0))) σ) κ ++ [(w9, LJ cJ (pk (tFell r0 p0) (vp_updL g 0 ((iI (who (feA σ (r0 * 8 + p0)) (feA (xFell σ (r0 * 8 + p0)) (mir (r0 * 8 + p0))))).toInt64)) g))]); rw [pk_n ne, pk_n ne]; exact hD) hS trivial (by show some (Value.int (iI (tFell r0 p0))) = _; rw [h9]) (Nat.le_of_ble_eq_true rfl) (Nat.le_of_ble_eq_true rfl) dL_fell_16
  · have h9 := hk.1
    have hP : va_P D vwCl (XW cI cZ d (xFell (xFell σ (r0 * 8 + p0)) (mir (r0 * 8 + p0))) κ9 ++ [(w9, LJ cJ g)]) H := hP
    have hD : va_D A (XW cI cZ d (xFell (xFell σ (r0 * 8 + p0)) (mir (r0 * 8 + p0))) κ9 ++ [(w9, LJ cJ g)]) := hD
    show W p l e ({ frames := 7, cells := 1, slots := 6, locals := 117 } : Room) s m args below meth c H locs 1 6 (MQ below (gQ D (tyLs cI cZ cJ) (fun κ' => XW cI cZ d (pk (tFell r0 p0) (xFell (xFell σ (r0 * 8 + p0)) (mir (r0 * 8 + p0))) σ) κ' ++ [(w9, LJ cJ (pk (tFell r0 p0) (vp_updL g 0 ((iI (who (feA σ (r0 * 8 + p0)) (feA (xFell σ (r0 * 8 + p0)) (mir (r0 * 8 + p0))))).toInt64)) g))]) A (fun _ => some (.int (iI (tFell r0 p0)))) (fun _ => True)) args s 1 6 A) (F0 m 8 ls [.int (iI (who (feA σ (r0 * 8 + p0)) (feA (xFell σ (r0 * 8 + p0)) (mir (r0 * 8 + p0))))), .int (iI (0)), .ref w9])
    refine lv_i2l (v := (iI (who (feA σ (r0 * 8 + p0)) (feA (xFell σ (r0 * 8 + p0)) (mir (r0 * 8 + p0))))).toInt64) hx hb dL_fell_8 rfl ?_
    refine va_last hx hb hK hP hD hS 12 2 rfl rfl vp0 dL_fell_9 (fun H locs hP hD hS => ?_)
    have hP : va_P D vwCl (XW cI cZ d (xFell (xFell σ (r0 * 8 + p0)) (mir (r0 * 8 + p0))) κ9 ++ [(w9, LJ cJ (vp_updL g 0 ((iI (who (feA σ (r0 * 8 + p0)) (feA (xFell σ (r0 * 8 + p0)) (mir (r0 * 8 + p0))))).toInt64)))]) H := hP
    have hD : va_D A (XW cI cZ d (xFell (xFell σ (r0 * 8 + p0)) (mir (r0 * 8 + p0))) κ9 ++ [(w9, LJ cJ (vp_updL g 0 ((iI (who (feA σ (r0 * 8 + p0)) (feA (xFell σ (r0 * 8 + p0)) (mir (r0 * 8 + p0))))).toInt64)))]) := hD
    refine lv_goto (tgt := 17) hx hb dL_fell_10 (by decide) ?_
    refine lv_iconst (v := iI (0)) hx hb dL_fell_17 rfl ?_
    exact g_iret (wo := (fun κ' => XW cI cZ d (pk (tFell r0 p0) (xFell (xFell σ (r0 * 8 + p0)) (mir (r0 * 8 + p0))) σ) κ' ++ [(w9, LJ cJ (pk (tFell r0 p0) (vp_updL g 0 ((iI (who (feA σ (r0 * 8 + p0)) (feA (xFell σ (r0 * 8 + p0)) (mir (r0 * 8 + p0))))).toInt64)) g))])) (kr := (fun _ => True)) (rv := (fun _ => some (.int (iI (tFell r0 p0))))) hx hb hr hlocks κ9 rfl (by show va_P D vwCl (XW cI cZ d (pk (tFell r0 p0) (xFell (xFell σ (r0 * 8 + p0)) (mir (r0 * 8 + p0))) σ) κ9 ++ [(w9, LJ cJ (pk (tFell r0 p0) (vp_updL g 0 ((iI (who (feA σ (r0 * 8 + p0)) (feA (xFell σ (r0 * 8 + p0)) (mir (r0 * 8 + p0))))).toInt64)) g))]) H; rw [pk_y h9, pk_y h9]; exact hP) hK (by show va_D A (XW cI cZ d (pk (tFell r0 p0) (xFell (xFell σ (r0 * 8 + p0)) (mir (r0 * 8 + p0))) σ) κ9 ++ [(w9, LJ cJ (pk (tFell r0 p0) (vp_updL g 0 ((iI (who (feA σ (r0 * 8 + p0)) (feA (xFell σ (r0 * 8 + p0)) (mir (r0 * 8 + p0))))).toInt64)) g))]); rw [pk_y h9, pk_y h9]; exact hD) hS trivial (by show some (Value.int (iI (tFell r0 p0))) = _; rw [h9]) (Nat.le_of_ble_eq_true rfl) (Nat.le_of_ble_eq_true rfl) dL_fell_18
set_option maxHeartbeats 4000000 in
set_option maxRecDepth 100000 in
theorem kL_tree (l : Launch) (hfl : l.stackTraces = false) (D : va_G) (cI cZ cJ : ClassId) (d : Nat → Nat) (σ κ : St) (w9 : Nat) (g : Nat → Int64) (r0 : Int) (p0 : Int) (w0 : Int) (hwf : xWF σ) (hl_r0 : -2147483648 ≤ r0) (hh_r0 : r0 ≤ 2147483647) (hl_p0 : -2147483648 ≤ p0) (hh_p0 : p0 ≤ 2147483647) (hl_w0 : -2147483648 ≤ w0) (hh_w0 : w0 ≤ 2147483647) : gMet l yL_tree wsL_tree ({ frames := 7, cells := 1, slots := 6, locals := 116 } : Room) D (tyLs cI cZ cJ) (XW cI cZ d σ κ ++ [(w9, LJ cJ g)]) [.ref (d 0), .int (iI r0), .int (iI p0), .int (iI w0), .ref w9] (lEx (XW cI cZ d σ κ ++ [(w9, LJ cJ g)])) (fun _ => some (.int (iI (tTree r0 p0 w0)))) (fun _ => True) (fun κ' => XW cI cZ d (pk (tTree r0 p0 w0) (σ) σ) κ' ++ [(w9, LJ cJ (pk (tTree r0 p0 w0) (vp_updL g 0 ((iI (xTree σ (r0 * 8 + p0) w0)).toInt64)) g))]) := by
  refine g_startH (cc := cL_tree) (maxL := 6) (ret := (some .int)) (by decide) rfl (Nat.le_of_ble_eq_true rfl) ?_
  intro p e s m args below meth c A ls H locs S hr hlocks ht hP hK hD hA hS hTE hN hl
  have S0 := S
  obtain ⟨hx, hb, hml, hown, hts⟩ := S0
  have hl : lv_has ls 6 [(0, .ref (d 0)), (1, .int (iI r0)), (2, .int (iI p0)), (3, .int (iI w0)), (4, .ref w9)] := hl
  refine lv_aload hx hb dL_tree_0 (lv_at hl 4 rfl) ?_
  refine lv_iconst (v := iI (0)) hx hb dL_tree_2 rfl ?_
  refine lv_aload_n hx hb dL_tree_3 rfl (lv_at hl 0 rfl) ?_
  refine lv_iload_n hx hb dL_tree_4 rfl (lv_at hl 1 rfl) ?_
  refine lv_iload_n hx hb dL_tree_5 rfl (lv_at hl 2 rfl) ?_
  refine lv_iload_n hx hb dL_tree_6 rfl (lv_at hl 3 rfl) ?_
  have hPc : va_P D vwCl (XW cI cZ d σ κ ++ [(w9, LJ cJ g)]) H := hP
  have hDc : va_D A (XW cI cZ d σ κ ++ [(w9, LJ cJ g)]) := hD
  refine h_call (vx_runV (As := [.int (iI r0), .int (iI p0), .int (iI w0)]) (rest := [.int (iI (0)), .ref w9]) S ((kX1_tree l hfl D cI cZ d σ κ r0 p0 w0 hwf hl_r0 hh_r0 hl_p0 hh_p0 hl_w0 hh_w0) H.size) (cwV 3 hts gL_tree_X1_tree rfl rfl rfl (by decide +kernel) ⟨Nat.le_of_ble_eq_true rfl, Nat.le_of_ble_eq_true rfl⟩) (h_preV hK [0, 1] rfl hPc hDc hS hA hTE (q0 := 0) (ci := 1) rfl rfl rfl) rfl rfl hl.1 rfl (lv_room (Nat.le_of_ble_eq_true rfl)) dL_tree_7 ⟨Nat.le_of_ble_eq_true rfl, Nat.le_of_ble_eq_true rfl⟩) hPc hDc hS hA (fun E ce q9 H locs hxc hP hS hce hcv hcl => ?_) (fun κ9 H locs hk hP hD hS => ?_)
  · rcases hxc with ⟨rfl, h9⟩
    · have ne : ¬ (tTree r0 p0 w0) = 0 := by omega
      refine vx_catch (name := eI) hown [] ⟨0, 12, 15, 13⟩ [] ht (fun z hz => absurd hz List.not_mem_nil) (by decide) (by decide) (hts (.classLink RL 13 "java/lang/IndexOutOfBoundsException") (List.mem_of_getElem? (i := 1) rfl)) (va_Nw.use rfl (hTE.2.2.1 eI (.castable eI eI) List.mem_cons_self (Or.inl rfl))) hce hcv hcl ?_
      refine lv_astore (lv' := [(5, .ref q9), (0, .ref (d 0)), (1, .int (iI r0)), (2, .int (iI p0)), (3, .int (iI w0)), (4, .ref w9)]) hx hb dL_tree_15 hl (by decide) rfl (fun ls hl => ?_)
      refine lv_iconst (v := iI (1)) hx hb dL_tree_17 rfl ?_
      exact g_iret (wo := (fun κ' => XW cI cZ d (pk (tTree r0 p0 w0) (σ) σ) κ' ++ [(w9, LJ cJ (pk (tTree r0 p0 w0) (vp_updL g 0 ((iI (xTree σ (r0 * 8 + p0) w0)).toInt64)) g))])) (kr := (fun _ => True)) (rv := (fun _ => some (.int (iI (tTree r0 p0 w0))))) hx hb hr hlocks κ rfl (by show va_P D vwCl (XW cI cZ d (pk (tTree r0 p0 w0) (σ) σ) κ ++ [(w9, LJ cJ (pk (tTree r0 p0 w0) (vp_updL g 0 ((iI (xTree σ (r0 * 8 + p0) w0)).toInt64)) g))]) H; rw [pk_n ne, pk_n ne]; exact hP) hK (by show va_D A (XW cI cZ d (pk (tTree r0 p0 w0) (σ) σ) κ ++ [(w9, LJ cJ (pk (tTree r0 p0 w0) (vp_updL g 0 ((iI (xTree σ (r0 * 8 + p0) w0)).toInt64)) g))]); rw [pk_n ne, pk_n ne]; exact hD) hS trivial (by show some (Value.int (iI (tTree r0 p0 w0))) = _; rw [h9]) (Nat.le_of_ble_eq_true rfl) (Nat.le_of_ble_eq_true rfl) dL_tree_18
  · have h9 := hk.1
    have hP : va_P D vwCl (XW cI cZ d (σ) κ9 ++ [(w9, LJ cJ g)]) H := hP
    have hD : va_D A (XW cI cZ d (σ) κ9 ++ [(w9, LJ cJ g)]) := hD
    show W p l e ({ frames := 7, cells := 1, slots := 6, locals := 116 } : Room) s m args below meth c H locs 1 6 (MQ below (gQ D (tyLs cI cZ cJ) (fun κ' => XW cI cZ d (pk (tTree r0 p0 w0) (σ) σ) κ' ++ [(w9, LJ cJ (pk (tTree r0 p0 w0) (vp_updL g 0 ((iI (xTree σ (r0 * 8 + p0) w0)).toInt64)) g))]) A (fun _ => some (.int (iI (tTree r0 p0 w0)))) (fun _ => True)) args s 1 6 A) (F0 m 10 ls [.int (iI (xTree σ (r0 * 8 + p0) w0)), .int (iI (0)), .ref w9])
    refine lv_i2l (v := (iI (xTree σ (r0 * 8 + p0) w0)).toInt64) hx hb dL_tree_10 rfl ?_
    refine va_last hx hb hK hP hD hS 12 2 rfl rfl vp0 dL_tree_11 (fun H locs hP hD hS => ?_)
    have hP : va_P D vwCl (XW cI cZ d (σ) κ9 ++ [(w9, LJ cJ (vp_updL g 0 ((iI (xTree σ (r0 * 8 + p0) w0)).toInt64)))]) H := hP
    have hD : va_D A (XW cI cZ d (σ) κ9 ++ [(w9, LJ cJ (vp_updL g 0 ((iI (xTree σ (r0 * 8 + p0) w0)).toInt64)))]) := hD
    refine lv_goto (tgt := 19) hx hb dL_tree_12 (by decide) ?_
    refine lv_iconst (v := iI (0)) hx hb dL_tree_19 rfl ?_
    exact g_iret (wo := (fun κ' => XW cI cZ d (pk (tTree r0 p0 w0) (σ) σ) κ' ++ [(w9, LJ cJ (pk (tTree r0 p0 w0) (vp_updL g 0 ((iI (xTree σ (r0 * 8 + p0) w0)).toInt64)) g))])) (kr := (fun _ => True)) (rv := (fun _ => some (.int (iI (tTree r0 p0 w0))))) hx hb hr hlocks κ9 rfl (by show va_P D vwCl (XW cI cZ d (pk (tTree r0 p0 w0) (σ) σ) κ9 ++ [(w9, LJ cJ (pk (tTree r0 p0 w0) (vp_updL g 0 ((iI (xTree σ (r0 * 8 + p0) w0)).toInt64)) g))]) H; rw [pk_y h9, pk_y h9]; exact hP) hK (by show va_D A (XW cI cZ d (pk (tTree r0 p0 w0) (σ) σ) κ9 ++ [(w9, LJ cJ (pk (tTree r0 p0 w0) (vp_updL g 0 ((iI (xTree σ (r0 * 8 + p0) w0)).toInt64)) g))]); rw [pk_y h9, pk_y h9]; exact hD) hS trivial (by show some (Value.int (iI (tTree r0 p0 w0))) = _; rw [h9]) (Nat.le_of_ble_eq_true rfl) (Nat.le_of_ble_eq_true rfl) dL_tree_20
set_option maxHeartbeats 4000000 in
set_option maxRecDepth 100000 in
theorem kL_sort (l : Launch) (hfl : l.stackTraces = false) (D : va_G) (cI cZ cJ : ClassId) (d : Nat → Nat) (σ κ : St) (w9 : Nat) (g : Nat → Int64) (a0 : Int) (w0 : Int) (hwf : xWF σ) (hl_a0 : -2147483648 ≤ a0) (hh_a0 : a0 ≤ 2147483647) (hl_w0 : -2147483648 ≤ w0) (hh_w0 : w0 ≤ 2147483647) : gMet l yL_sort wsL_sort ({ frames := 7, cells := 1, slots := 6, locals := 114 } : Room) D (tyLs cI cZ cJ) (XW cI cZ d σ κ ++ [(w9, LJ cJ g)]) [.ref (d 0), .int (iI a0), .int (iI w0), .ref w9] (lEx (XW cI cZ d σ κ ++ [(w9, LJ cJ g)])) (fun _ => some (.int (iI (tSort a0 w0)))) (fun _ => True) (fun κ' => XW cI cZ d (pk (tSort a0 w0) (σ) σ) κ' ++ [(w9, LJ cJ (pk (tSort a0 w0) (vp_updL g 0 ((iI (xSort σ a0 w0)).toInt64)) g))]) := by
  refine g_startH (cc := cL_sort) (maxL := 5) (ret := (some .int)) (by decide) rfl (Nat.le_of_ble_eq_true rfl) ?_
  intro p e s m args below meth c A ls H locs S hr hlocks ht hP hK hD hA hS hTE hN hl
  have S0 := S
  obtain ⟨hx, hb, hml, hown, hts⟩ := S0
  have hl : lv_has ls 5 [(0, .ref (d 0)), (1, .int (iI a0)), (2, .int (iI w0)), (3, .ref w9)] := hl
  refine lv_aload_n hx hb dL_sort_0 rfl (lv_at hl 3 rfl) ?_
  refine lv_iconst (v := iI (0)) hx hb dL_sort_1 rfl ?_
  refine lv_aload_n hx hb dL_sort_2 rfl (lv_at hl 0 rfl) ?_
  refine lv_iload_n hx hb dL_sort_3 rfl (lv_at hl 1 rfl) ?_
  refine lv_iload_n hx hb dL_sort_4 rfl (lv_at hl 2 rfl) ?_
  have hPc : va_P D vwCl (XW cI cZ d σ κ ++ [(w9, LJ cJ g)]) H := hP
  have hDc : va_D A (XW cI cZ d σ κ ++ [(w9, LJ cJ g)]) := hD
  refine h_call (vx_runV (As := [.int (iI a0), .int (iI w0)]) (rest := [.int (iI (0)), .ref w9]) S ((kX1_sort l hfl D cI cZ d σ κ a0 w0 hwf hl_a0 hh_a0 hl_w0 hh_w0) H.size) (cwV 2 hts gL_sort_X1_sort rfl rfl rfl (by decide +kernel) ⟨Nat.le_of_ble_eq_true rfl, Nat.le_of_ble_eq_true rfl⟩) (h_preV hK [0, 1] rfl hPc hDc hS hA hTE (q0 := 0) (ci := 1) rfl rfl rfl) rfl rfl hl.1 rfl (lv_room (Nat.le_of_ble_eq_true rfl)) dL_sort_5 ⟨Nat.le_of_ble_eq_true rfl, Nat.le_of_ble_eq_true rfl⟩) hPc hDc hS hA (fun E ce q9 H locs hxc hP hS hce hcv hcl => ?_) (fun κ9 H locs hk hP hD hS => ?_)
  · rcases hxc with ⟨rfl, h9⟩
    · have ne : ¬ (tSort a0 w0) = 0 := by omega
      refine vx_catch (name := eI) hown [] ⟨0, 10, 13, 13⟩ [] ht (fun z hz => absurd hz List.not_mem_nil) (by decide) (by decide) (hts (.classLink RL 13 "java/lang/IndexOutOfBoundsException") (List.mem_of_getElem? (i := 1) rfl)) (va_Nw.use rfl (hTE.2.2.1 eI (.castable eI eI) List.mem_cons_self (Or.inl rfl))) hce hcv hcl ?_
      refine lv_astore (lv' := [(4, .ref q9), (0, .ref (d 0)), (1, .int (iI a0)), (2, .int (iI w0)), (3, .ref w9)]) hx hb dL_sort_13 hl (by decide) rfl (fun ls hl => ?_)
      refine lv_iconst (v := iI (1)) hx hb dL_sort_15 rfl ?_
      exact g_iret (wo := (fun κ' => XW cI cZ d (pk (tSort a0 w0) (σ) σ) κ' ++ [(w9, LJ cJ (pk (tSort a0 w0) (vp_updL g 0 ((iI (xSort σ a0 w0)).toInt64)) g))])) (kr := (fun _ => True)) (rv := (fun _ => some (.int (iI (tSort a0 w0))))) hx hb hr hlocks κ rfl (by show va_P D vwCl (XW cI cZ d (pk (tSort a0 w0) (σ) σ) κ ++ [(w9, LJ cJ (pk (tSort a0 w0) (vp_updL g 0 ((iI (xSort σ a0 w0)).toInt64)) g))]) H; rw [pk_n ne, pk_n ne]; exact hP) hK (by show va_D A (XW cI cZ d (pk (tSort a0 w0) (σ) σ) κ ++ [(w9, LJ cJ (pk (tSort a0 w0) (vp_updL g 0 ((iI (xSort σ a0 w0)).toInt64)) g))]); rw [pk_n ne, pk_n ne]; exact hD) hS trivial (by show some (Value.int (iI (tSort a0 w0))) = _; rw [h9]) (Nat.le_of_ble_eq_true rfl) (Nat.le_of_ble_eq_true rfl) dL_sort_16
  · have h9 := hk.1
    have hP : va_P D vwCl (XW cI cZ d (σ) κ9 ++ [(w9, LJ cJ g)]) H := hP
    have hD : va_D A (XW cI cZ d (σ) κ9 ++ [(w9, LJ cJ g)]) := hD
    show W p l e ({ frames := 7, cells := 1, slots := 6, locals := 114 } : Room) s m args below meth c H locs 1 6 (MQ below (gQ D (tyLs cI cZ cJ) (fun κ' => XW cI cZ d (pk (tSort a0 w0) (σ) σ) κ' ++ [(w9, LJ cJ (pk (tSort a0 w0) (vp_updL g 0 ((iI (xSort σ a0 w0)).toInt64)) g))]) A (fun _ => some (.int (iI (tSort a0 w0)))) (fun _ => True)) args s 1 6 A) (F0 m 8 ls [.int (iI (xSort σ a0 w0)), .int (iI (0)), .ref w9])
    refine lv_i2l (v := (iI (xSort σ a0 w0)).toInt64) hx hb dL_sort_8 rfl ?_
    refine va_last hx hb hK hP hD hS 12 2 rfl rfl vp0 dL_sort_9 (fun H locs hP hD hS => ?_)
    have hP : va_P D vwCl (XW cI cZ d (σ) κ9 ++ [(w9, LJ cJ (vp_updL g 0 ((iI (xSort σ a0 w0)).toInt64)))]) H := hP
    have hD : va_D A (XW cI cZ d (σ) κ9 ++ [(w9, LJ cJ (vp_updL g 0 ((iI (xSort σ a0 w0)).toInt64)))]) := hD
    refine lv_goto (tgt := 17) hx hb dL_sort_10 (by decide) ?_
    refine lv_iconst (v := iI (0)) hx hb dL_sort_17 rfl ?_
    exact g_iret (wo := (fun κ' => XW cI cZ d (pk (tSort a0 w0) (σ) σ) κ' ++ [(w9, LJ cJ (pk (tSort a0 w0) (vp_updL g 0 ((iI (xSort σ a0 w0)).toInt64)) g))])) (kr := (fun _ => True)) (rv := (fun _ => some (.int (iI (tSort a0 w0))))) hx hb hr hlocks κ9 rfl (by show va_P D vwCl (XW cI cZ d (pk (tSort a0 w0) (σ) σ) κ9 ++ [(w9, LJ cJ (pk (tSort a0 w0) (vp_updL g 0 ((iI (xSort σ a0 w0)).toInt64)) g))]) H; rw [pk_y h9, pk_y h9]; exact hP) hK (by show va_D A (XW cI cZ d (pk (tSort a0 w0) (σ) σ) κ9 ++ [(w9, LJ cJ (pk (tSort a0 w0) (vp_updL g 0 ((iI (xSort σ a0 w0)).toInt64)) g))]); rw [pk_y h9, pk_y h9]; exact hD) hS trivial (by show some (Value.int (iI (tSort a0 w0))) = _; rw [h9]) (Nat.le_of_ble_eq_true rfl) (Nat.le_of_ble_eq_true rfl) dL_sort_18
set_option maxHeartbeats 4000000 in
set_option maxRecDepth 100000 in
theorem kL_count (l : Launch) (hfl : l.stackTraces = false) (D : va_G) (cI cZ cJ : ClassId) (d : Nat → Nat) (σ κ : St) (w9 : Nat) (g : Nat → Int64) (w0 : Int) (hwf : xWF σ) (hl_w0 : -2147483648 ≤ w0) (hh_w0 : w0 ≤ 2147483647) : gMet l yL_count wsL_count ({ frames := 7, cells := 1, slots := 6, locals := 113 } : Room) D (tyLs cI cZ cJ) (XW cI cZ d σ κ ++ [(w9, LJ cJ g)]) [.ref (d 0), .int (iI w0), .ref w9] (lEx (XW cI cZ d σ κ ++ [(w9, LJ cJ g)])) (fun _ => some (.int (iI (tCount w0)))) (fun _ => True) (fun κ' => XW cI cZ d (pk (tCount w0) (σ) σ) κ' ++ [(w9, LJ cJ (pk (tCount w0) (vp_updL g 0 ((iI (xCount σ w0)).toInt64)) g))]) := by
  refine g_startH (cc := cL_count) (maxL := 4) (ret := (some .int)) (by decide) rfl (Nat.le_of_ble_eq_true rfl) ?_
  intro p e s m args below meth c A ls H locs S hr hlocks ht hP hK hD hA hS hTE hN hl
  have S0 := S
  obtain ⟨hx, hb, hml, hown, hts⟩ := S0
  have hl : lv_has ls 4 [(0, .ref (d 0)), (1, .int (iI w0)), (2, .ref w9)] := hl
  refine lv_aload_n hx hb dL_count_0 rfl (lv_at hl 2 rfl) ?_
  refine lv_iconst (v := iI (0)) hx hb dL_count_1 rfl ?_
  refine lv_aload_n hx hb dL_count_2 rfl (lv_at hl 0 rfl) ?_
  refine lv_iload_n hx hb dL_count_3 rfl (lv_at hl 1 rfl) ?_
  have hPc : va_P D vwCl (XW cI cZ d σ κ ++ [(w9, LJ cJ g)]) H := hP
  have hDc : va_D A (XW cI cZ d σ κ ++ [(w9, LJ cJ g)]) := hD
  refine h_call (vx_runV (As := [.int (iI w0)]) (rest := [.int (iI (0)), .ref w9]) S ((kX1_count l hfl D cI cZ d σ κ w0 hwf hl_w0 hh_w0) H.size) (cwV 1 hts gL_count_X1_count rfl rfl rfl (by decide +kernel) ⟨Nat.le_of_ble_eq_true rfl, Nat.le_of_ble_eq_true rfl⟩) (h_preV hK [0, 1] rfl hPc hDc hS hA hTE (q0 := 0) (ci := 1) rfl rfl rfl) rfl rfl hl.1 rfl (lv_room (Nat.le_of_ble_eq_true rfl)) dL_count_4 ⟨Nat.le_of_ble_eq_true rfl, Nat.le_of_ble_eq_true rfl⟩) hPc hDc hS hA (fun E ce q9 H locs hxc hP hS hce hcv hcl => ?_) (fun κ9 H locs hk hP hD hS => ?_)
  · rcases hxc with ⟨rfl, h9⟩
    · have ne : ¬ (tCount w0) = 0 := by omega
      refine vx_catch (name := eI) hown [] ⟨0, 9, 12, 13⟩ [] ht (fun z hz => absurd hz List.not_mem_nil) (by decide) (by decide) (hts (.classLink RL 13 "java/lang/IndexOutOfBoundsException") (List.mem_of_getElem? (i := 1) rfl)) (va_Nw.use rfl (hTE.2.2.1 eI (.castable eI eI) List.mem_cons_self (Or.inl rfl))) hce hcv hcl ?_
      refine lv_astore_n (lv' := [(3, .ref q9), (0, .ref (d 0)), (1, .int (iI w0)), (2, .ref w9)]) hx hb dL_count_12 rfl hl (by decide) rfl (fun ls hl => ?_)
      refine lv_iconst (v := iI (1)) hx hb dL_count_13 rfl ?_
      exact g_iret (wo := (fun κ' => XW cI cZ d (pk (tCount w0) (σ) σ) κ' ++ [(w9, LJ cJ (pk (tCount w0) (vp_updL g 0 ((iI (xCount σ w0)).toInt64)) g))])) (kr := (fun _ => True)) (rv := (fun _ => some (.int (iI (tCount w0))))) hx hb hr hlocks κ rfl (by show va_P D vwCl (XW cI cZ d (pk (tCount w0) (σ) σ) κ ++ [(w9, LJ cJ (pk (tCount w0) (vp_updL g 0 ((iI (xCount σ w0)).toInt64)) g))]) H; rw [pk_n ne, pk_n ne]; exact hP) hK (by show va_D A (XW cI cZ d (pk (tCount w0) (σ) σ) κ ++ [(w9, LJ cJ (pk (tCount w0) (vp_updL g 0 ((iI (xCount σ w0)).toInt64)) g))]); rw [pk_n ne, pk_n ne]; exact hD) hS trivial (by show some (Value.int (iI (tCount w0))) = _; rw [h9]) (Nat.le_of_ble_eq_true rfl) (Nat.le_of_ble_eq_true rfl) dL_count_14
  · have h9 := hk.1
    have hP : va_P D vwCl (XW cI cZ d (σ) κ9 ++ [(w9, LJ cJ g)]) H := hP
    have hD : va_D A (XW cI cZ d (σ) κ9 ++ [(w9, LJ cJ g)]) := hD
    show W p l e ({ frames := 7, cells := 1, slots := 6, locals := 113 } : Room) s m args below meth c H locs 1 6 (MQ below (gQ D (tyLs cI cZ cJ) (fun κ' => XW cI cZ d (pk (tCount w0) (σ) σ) κ' ++ [(w9, LJ cJ (pk (tCount w0) (vp_updL g 0 ((iI (xCount σ w0)).toInt64)) g))]) A (fun _ => some (.int (iI (tCount w0)))) (fun _ => True)) args s 1 6 A) (F0 m 7 ls [.int (iI (xCount σ w0)), .int (iI (0)), .ref w9])
    refine lv_i2l (v := (iI (xCount σ w0)).toInt64) hx hb dL_count_7 rfl ?_
    refine va_last hx hb hK hP hD hS 12 2 rfl rfl vp0 dL_count_8 (fun H locs hP hD hS => ?_)
    have hP : va_P D vwCl (XW cI cZ d (σ) κ9 ++ [(w9, LJ cJ (vp_updL g 0 ((iI (xCount σ w0)).toInt64)))]) H := hP
    have hD : va_D A (XW cI cZ d (σ) κ9 ++ [(w9, LJ cJ (vp_updL g 0 ((iI (xCount σ w0)).toInt64)))]) := hD
    refine lv_goto (tgt := 15) hx hb dL_count_9 (by decide) ?_
    refine lv_iconst (v := iI (0)) hx hb dL_count_15 rfl ?_
    exact g_iret (wo := (fun κ' => XW cI cZ d (pk (tCount w0) (σ) σ) κ' ++ [(w9, LJ cJ (pk (tCount w0) (vp_updL g 0 ((iI (xCount σ w0)).toInt64)) g))])) (kr := (fun _ => True)) (rv := (fun _ => some (.int (iI (tCount w0))))) hx hb hr hlocks κ9 rfl (by show va_P D vwCl (XW cI cZ d (pk (tCount w0) (σ) σ) κ9 ++ [(w9, LJ cJ (pk (tCount w0) (vp_updL g 0 ((iI (xCount σ w0)).toInt64)) g))]) H; rw [pk_y h9, pk_y h9]; exact hP) hK (by show va_D A (XW cI cZ d (pk (tCount w0) (σ) σ) κ9 ++ [(w9, LJ cJ (pk (tCount w0) (vp_updL g 0 ((iI (xCount σ w0)).toInt64)) g))]); rw [pk_y h9, pk_y h9]; exact hD) hS trivial (by show some (Value.int (iI (tCount w0))) = _; rw [h9]) (Nat.le_of_ble_eq_true rfl) (Nat.le_of_ble_eq_true rfl) dL_count_16
set_option maxHeartbeats 4000000 in
set_option maxRecDepth 100000 in
theorem kL_leans (l : Launch) (hfl : l.stackTraces = false) (D : va_G) (cI cZ cJ : ClassId) (d : Nat → Nat) (σ κ : St) (w9 : Nat) (g : Nat → Int64) (r0 : Int) (hwf : xWF σ) (hl_r0 : -2147483648 ≤ r0) (hh_r0 : r0 ≤ 2147483647) : gMet l yL_leans wsL_leans ({ frames := 7, cells := 1, slots := 6, locals := 116 } : Room) D (tyLs cI cZ cJ) (XW cI cZ d σ κ ++ [(w9, LJ cJ g)]) [.ref (d 0), .int (iI r0), .ref w9] (lEx (XW cI cZ d σ κ ++ [(w9, LJ cJ g)])) (fun _ => some (.int (iI (tLeans r0)))) (fun _ => True) (fun κ' => XW cI cZ d (pk (tLeans r0) (σ) σ) κ' ++ [(w9, LJ cJ (pk (tLeans r0) (vp_updL g 0 ((iI (xLeans σ r0)).toInt64)) g))]) := by
  refine g_startH (cc := cL_leans) (maxL := 4) (ret := (some .int)) (by decide) rfl (Nat.le_of_ble_eq_true rfl) ?_
  intro p e s m args below meth c A ls H locs S hr hlocks ht hP hK hD hA hS hTE hN hl
  have S0 := S
  obtain ⟨hx, hb, hml, hown, hts⟩ := S0
  have hl : lv_has ls 4 [(0, .ref (d 0)), (1, .int (iI r0)), (2, .ref w9)] := hl
  refine lv_aload_n hx hb dL_leans_0 rfl (lv_at hl 2 rfl) ?_
  refine lv_iconst (v := iI (0)) hx hb dL_leans_1 rfl ?_
  refine lv_aload_n hx hb dL_leans_2 rfl (lv_at hl 0 rfl) ?_
  refine lv_iload_n hx hb dL_leans_3 rfl (lv_at hl 1 rfl) ?_
  have hPc : va_P D vwCl (XW cI cZ d σ κ ++ [(w9, LJ cJ g)]) H := hP
  have hDc : va_D A (XW cI cZ d σ κ ++ [(w9, LJ cJ g)]) := hD
  refine h_call (vx_runV (As := [.int (iI r0)]) (rest := [.int (iI (0)), .ref w9]) S ((kX1_leans l hfl D cI cZ d σ κ r0 hwf hl_r0 hh_r0) H.size) (cwV 1 hts gL_leans_X1_leans rfl rfl rfl (by decide +kernel) ⟨Nat.le_of_ble_eq_true rfl, Nat.le_of_ble_eq_true rfl⟩) (h_preV hK [0, 1] rfl hPc hDc hS hA hTE (q0 := 0) (ci := 1) rfl rfl rfl) rfl rfl hl.1 rfl (lv_room (Nat.le_of_ble_eq_true rfl)) dL_leans_4 ⟨Nat.le_of_ble_eq_true rfl, Nat.le_of_ble_eq_true rfl⟩) hPc hDc hS hA (fun E ce q9 H locs hxc hP hS hce hcv hcl => ?_) (fun κ9 H locs hk hP hD hS => ?_)
  · rcases hxc with ⟨rfl, h9⟩
    · have ne : ¬ (tLeans r0) = 0 := by omega
      refine vx_catch (name := eI) hown [] ⟨0, 9, 12, 13⟩ [] ht (fun z hz => absurd hz List.not_mem_nil) (by decide) (by decide) (hts (.classLink RL 13 "java/lang/IndexOutOfBoundsException") (List.mem_of_getElem? (i := 1) rfl)) (va_Nw.use rfl (hTE.2.2.1 eI (.castable eI eI) List.mem_cons_self (Or.inl rfl))) hce hcv hcl ?_
      refine lv_astore_n (lv' := [(3, .ref q9), (0, .ref (d 0)), (1, .int (iI r0)), (2, .ref w9)]) hx hb dL_leans_12 rfl hl (by decide) rfl (fun ls hl => ?_)
      refine lv_iconst (v := iI (1)) hx hb dL_leans_13 rfl ?_
      exact g_iret (wo := (fun κ' => XW cI cZ d (pk (tLeans r0) (σ) σ) κ' ++ [(w9, LJ cJ (pk (tLeans r0) (vp_updL g 0 ((iI (xLeans σ r0)).toInt64)) g))])) (kr := (fun _ => True)) (rv := (fun _ => some (.int (iI (tLeans r0))))) hx hb hr hlocks κ rfl (by show va_P D vwCl (XW cI cZ d (pk (tLeans r0) (σ) σ) κ ++ [(w9, LJ cJ (pk (tLeans r0) (vp_updL g 0 ((iI (xLeans σ r0)).toInt64)) g))]) H; rw [pk_n ne, pk_n ne]; exact hP) hK (by show va_D A (XW cI cZ d (pk (tLeans r0) (σ) σ) κ ++ [(w9, LJ cJ (pk (tLeans r0) (vp_updL g 0 ((iI (xLeans σ r0)).toInt64)) g))]); rw [pk_n ne, pk_n ne]; exact hD) hS trivial (by show some (Value.int (iI (tLeans r0))) = _; rw [h9]) (Nat.le_of_ble_eq_true rfl) (Nat.le_of_ble_eq_true rfl) dL_leans_14
  · have h9 := hk.1
    have hP : va_P D vwCl (XW cI cZ d (σ) κ9 ++ [(w9, LJ cJ g)]) H := hP
    have hD : va_D A (XW cI cZ d (σ) κ9 ++ [(w9, LJ cJ g)]) := hD
    show W p l e ({ frames := 7, cells := 1, slots := 6, locals := 116 } : Room) s m args below meth c H locs 1 6 (MQ below (gQ D (tyLs cI cZ cJ) (fun κ' => XW cI cZ d (pk (tLeans r0) (σ) σ) κ' ++ [(w9, LJ cJ (pk (tLeans r0) (vp_updL g 0 ((iI (xLeans σ r0)).toInt64)) g))]) A (fun _ => some (.int (iI (tLeans r0)))) (fun _ => True)) args s 1 6 A) (F0 m 7 ls [.int (iI (xLeans σ r0)), .int (iI (0)), .ref w9])
    refine lv_i2l (v := (iI (xLeans σ r0)).toInt64) hx hb dL_leans_7 rfl ?_
    refine va_last hx hb hK hP hD hS 12 2 rfl rfl vp0 dL_leans_8 (fun H locs hP hD hS => ?_)
    have hP : va_P D vwCl (XW cI cZ d (σ) κ9 ++ [(w9, LJ cJ (vp_updL g 0 ((iI (xLeans σ r0)).toInt64)))]) H := hP
    have hD : va_D A (XW cI cZ d (σ) κ9 ++ [(w9, LJ cJ (vp_updL g 0 ((iI (xLeans σ r0)).toInt64)))]) := hD
    refine lv_goto (tgt := 15) hx hb dL_leans_9 (by decide) ?_
    refine lv_iconst (v := iI (0)) hx hb dL_leans_15 rfl ?_
    exact g_iret (wo := (fun κ' => XW cI cZ d (pk (tLeans r0) (σ) σ) κ' ++ [(w9, LJ cJ (pk (tLeans r0) (vp_updL g 0 ((iI (xLeans σ r0)).toInt64)) g))])) (kr := (fun _ => True)) (rv := (fun _ => some (.int (iI (tLeans r0))))) hx hb hr hlocks κ9 rfl (by show va_P D vwCl (XW cI cZ d (pk (tLeans r0) (σ) σ) κ9 ++ [(w9, LJ cJ (pk (tLeans r0) (vp_updL g 0 ((iI (xLeans σ r0)).toInt64)) g))]) H; rw [pk_y h9, pk_y h9]; exact hP) hK (by show va_D A (XW cI cZ d (pk (tLeans r0) (σ) σ) κ9 ++ [(w9, LJ cJ (pk (tLeans r0) (vp_updL g 0 ((iI (xLeans σ r0)).toInt64)) g))]); rw [pk_y h9, pk_y h9]; exact hD) hS trivial (by show some (Value.int (iI (tLeans r0))) = _; rw [h9]) (Nat.le_of_ble_eq_true rfl) (Nat.le_of_ble_eq_true rfl) dL_leans_16
set_option maxHeartbeats 4000000 in
set_option maxRecDepth 100000 in
theorem kL_carry (l : Launch) (hfl : l.stackTraces = false) (D : va_G) (cI cZ cJ : ClassId) (d : Nat → Nat) (σ κ : St) (w9 : Nat) (g : Nat → Int64) (a0 : Int) (x0 : Int) (y0 : Int) (hwf : xWF σ) (hl_a0 : -2147483648 ≤ a0) (hh_a0 : a0 ≤ 2147483647) (hl_x0 : -2147483648 ≤ x0) (hh_x0 : x0 ≤ 2147483647) (hl_y0 : -2147483648 ≤ y0) (hh_y0 : y0 ≤ 2147483647) : gMet l yL_carry wsL_carry ({ frames := 7, cells := 1, slots := 6, locals := 115 } : Room) D (tyLs cI cZ cJ) (XW cI cZ d σ κ ++ [(w9, LJ cJ g)]) [.ref (d 0), .int (iI a0), .int (iI x0), .int (iI y0), .ref w9] (lEx (XW cI cZ d σ κ ++ [(w9, LJ cJ g)])) (fun _ => some (.int (iI (tCarry σ a0 x0 y0)))) (fun _ => True) (fun κ' => XW cI cZ d (pk (tCarry σ a0 x0 y0) (xCarry σ a0 x0 y0) σ) κ' ++ [(w9, LJ cJ (pk (tCarry σ a0 x0 y0) (vp_updL g 0 ((iI (σ 2 a0 - (x0 + y0))).toInt64)) g))]) := by
  refine g_startH (cc := cL_carry) (maxL := 6) (ret := (some .int)) (by decide) rfl (Nat.le_of_ble_eq_true rfl) ?_
  intro p e s m args below meth c A ls H locs S hr hlocks ht hP hK hD hA hS hTE hN hl
  have S0 := S
  obtain ⟨hx, hb, hml, hown, hts⟩ := S0
  have hl : lv_has ls 6 [(0, .ref (d 0)), (1, .int (iI a0)), (2, .int (iI x0)), (3, .int (iI y0)), (4, .ref w9)] := hl
  refine lv_aload hx hb dL_carry_0 (lv_at hl 4 rfl) ?_
  refine lv_iconst (v := iI (0)) hx hb dL_carry_2 rfl ?_
  refine lv_aload_n hx hb dL_carry_3 rfl (lv_at hl 0 rfl) ?_
  refine lv_iload_n hx hb dL_carry_4 rfl (lv_at hl 1 rfl) ?_
  refine lv_iload_n hx hb dL_carry_5 rfl (lv_at hl 2 rfl) ?_
  refine lv_iload_n hx hb dL_carry_6 rfl (lv_at hl 3 rfl) ?_
  have hPc : va_P D vwCl (XW cI cZ d σ κ ++ [(w9, LJ cJ g)]) H := hP
  have hDc : va_D A (XW cI cZ d σ κ ++ [(w9, LJ cJ g)]) := hD
  refine h_call (vx_runV (As := [.int (iI a0), .int (iI x0), .int (iI y0)]) (rest := [.int (iI (0)), .ref w9]) S ((kX1_carry l hfl D cI cZ d σ κ a0 x0 y0 hwf hl_a0 hh_a0 hl_x0 hh_x0 hl_y0 hh_y0) H.size) (cwV 3 hts gL_carry_X1_carry rfl rfl rfl (by decide +kernel) ⟨Nat.le_of_ble_eq_true rfl, Nat.le_of_ble_eq_true rfl⟩) (h_preV hK [0, 1] rfl hPc hDc hS hA hTE (q0 := 0) (ci := 1) rfl rfl rfl) rfl rfl hl.1 rfl (lv_room (Nat.le_of_ble_eq_true rfl)) dL_carry_7 ⟨Nat.le_of_ble_eq_true rfl, Nat.le_of_ble_eq_true rfl⟩) hPc hDc hS hA (fun E ce q9 H locs hxc hP hS hce hcv hcl => ?_) (fun κ9 H locs hk hP hD hS => ?_)
  · rcases hxc with ⟨rfl, h9⟩ | ⟨rfl, h9⟩ | ⟨rfl, h9⟩
    · have ne : ¬ (tCarry σ a0 x0 y0) = 0 := by omega
      refine vx_catch (name := eI) hown [] ⟨0, 12, 15, 13⟩ [⟨0, 12, 19, 15⟩, ⟨0, 12, 23, 50⟩] ht (fun z hz => absurd hz List.not_mem_nil) (by decide) (by decide) (hts (.classLink RL 13 "java/lang/IndexOutOfBoundsException") (List.mem_of_getElem? (i := 1) rfl)) (va_Nw.use rfl (hTE.2.2.1 eI (.castable eI eI) List.mem_cons_self (Or.inl rfl))) hce hcv hcl ?_
      refine lv_astore (lv' := [(5, .ref q9), (0, .ref (d 0)), (1, .int (iI a0)), (2, .int (iI x0)), (3, .int (iI y0)), (4, .ref w9)]) hx hb dL_carry_15 hl (by decide) rfl (fun ls hl => ?_)
      refine lv_iconst (v := iI (1)) hx hb dL_carry_17 rfl ?_
      exact g_iret (wo := (fun κ' => XW cI cZ d (pk (tCarry σ a0 x0 y0) (xCarry σ a0 x0 y0) σ) κ' ++ [(w9, LJ cJ (pk (tCarry σ a0 x0 y0) (vp_updL g 0 ((iI (σ 2 a0 - (x0 + y0))).toInt64)) g))])) (kr := (fun _ => True)) (rv := (fun _ => some (.int (iI (tCarry σ a0 x0 y0))))) hx hb hr hlocks κ rfl (by show va_P D vwCl (XW cI cZ d (pk (tCarry σ a0 x0 y0) (xCarry σ a0 x0 y0) σ) κ ++ [(w9, LJ cJ (pk (tCarry σ a0 x0 y0) (vp_updL g 0 ((iI (σ 2 a0 - (x0 + y0))).toInt64)) g))]) H; rw [pk_n ne, pk_n ne]; exact hP) hK (by show va_D A (XW cI cZ d (pk (tCarry σ a0 x0 y0) (xCarry σ a0 x0 y0) σ) κ ++ [(w9, LJ cJ (pk (tCarry σ a0 x0 y0) (vp_updL g 0 ((iI (σ 2 a0 - (x0 + y0))).toInt64)) g))]); rw [pk_n ne, pk_n ne]; exact hD) hS trivial (by show some (Value.int (iI (tCarry σ a0 x0 y0))) = _; rw [h9]) (Nat.le_of_ble_eq_true rfl) (Nat.le_of_ble_eq_true rfl) dL_carry_18
    · have ne : ¬ (tCarry σ a0 x0 y0) = 0 := by omega
      refine vx_catch (name := eA) hown [⟨0, 12, 15, 13⟩] ⟨0, 12, 19, 15⟩ [⟨0, 12, 23, 50⟩] ht (fun z hz => by rcases List.mem_singleton.mp hz with rfl; exact Or.inr ⟨by decide, eI, (hts (.classLink RL 13 "java/lang/IndexOutOfBoundsException") (List.mem_of_getElem? (i := 1) rfl)), hN.1⟩) (by decide) (by decide) (hts (.classLink RL 15 "java/lang/IllegalArgumentException") (List.mem_of_getElem? (i := 2) rfl)) (va_Nw.use rfl (hTE.2.2.1 eA (.castable eA eA) List.mem_cons_self (Or.inr (Or.inl rfl)))) hce hcv hcl ?_
      refine lv_astore (lv' := [(5, .ref q9), (0, .ref (d 0)), (1, .int (iI a0)), (2, .int (iI x0)), (3, .int (iI y0)), (4, .ref w9)]) hx hb dL_carry_19 hl (by decide) rfl (fun ls hl => ?_)
      refine lv_iconst (v := iI (2)) hx hb dL_carry_21 rfl ?_
      exact g_iret (wo := (fun κ' => XW cI cZ d (pk (tCarry σ a0 x0 y0) (xCarry σ a0 x0 y0) σ) κ' ++ [(w9, LJ cJ (pk (tCarry σ a0 x0 y0) (vp_updL g 0 ((iI (σ 2 a0 - (x0 + y0))).toInt64)) g))])) (kr := (fun _ => True)) (rv := (fun _ => some (.int (iI (tCarry σ a0 x0 y0))))) hx hb hr hlocks κ rfl (by show va_P D vwCl (XW cI cZ d (pk (tCarry σ a0 x0 y0) (xCarry σ a0 x0 y0) σ) κ ++ [(w9, LJ cJ (pk (tCarry σ a0 x0 y0) (vp_updL g 0 ((iI (σ 2 a0 - (x0 + y0))).toInt64)) g))]) H; rw [pk_n ne, pk_n ne]; exact hP) hK (by show va_D A (XW cI cZ d (pk (tCarry σ a0 x0 y0) (xCarry σ a0 x0 y0) σ) κ ++ [(w9, LJ cJ (pk (tCarry σ a0 x0 y0) (vp_updL g 0 ((iI (σ 2 a0 - (x0 + y0))).toInt64)) g))]); rw [pk_n ne, pk_n ne]; exact hD) hS trivial (by show some (Value.int (iI (tCarry σ a0 x0 y0))) = _; rw [h9]) (Nat.le_of_ble_eq_true rfl) (Nat.le_of_ble_eq_true rfl) dL_carry_22
    · have ne : ¬ (tCarry σ a0 x0 y0) = 0 := by omega
      refine vx_catch (name := eS) hown [⟨0, 12, 15, 13⟩, ⟨0, 12, 19, 15⟩] ⟨0, 12, 23, 50⟩ [] ht (fun z hz => Or.elim (List.mem_cons.mp hz) (fun h => by subst h; exact Or.inr ⟨by decide, eI, (hts (.classLink RL 13 "java/lang/IndexOutOfBoundsException") (List.mem_of_getElem? (i := 1) rfl)), hN.2.1⟩) (fun h => by rcases List.mem_singleton.mp h with rfl; exact Or.inr ⟨by decide, eA, (hts (.classLink RL 15 "java/lang/IllegalArgumentException") (List.mem_of_getElem? (i := 2) rfl)), hN.2.2.1⟩)) (by decide) (by decide) (hts (.classLink RL 50 "java/lang/IllegalStateException") (List.mem_of_getElem? (i := 3) rfl)) (va_Nw.use rfl (hTE.2.2.1 eS (.castable eS eS) List.mem_cons_self (Or.inr (Or.inr rfl)))) hce hcv hcl ?_
      refine lv_astore (lv' := [(5, .ref q9), (0, .ref (d 0)), (1, .int (iI a0)), (2, .int (iI x0)), (3, .int (iI y0)), (4, .ref w9)]) hx hb dL_carry_23 hl (by decide) rfl (fun ls hl => ?_)
      refine lv_iconst (v := iI (3)) hx hb dL_carry_25 rfl ?_
      exact g_iret (wo := (fun κ' => XW cI cZ d (pk (tCarry σ a0 x0 y0) (xCarry σ a0 x0 y0) σ) κ' ++ [(w9, LJ cJ (pk (tCarry σ a0 x0 y0) (vp_updL g 0 ((iI (σ 2 a0 - (x0 + y0))).toInt64)) g))])) (kr := (fun _ => True)) (rv := (fun _ => some (.int (iI (tCarry σ a0 x0 y0))))) hx hb hr hlocks κ rfl (by show va_P D vwCl (XW cI cZ d (pk (tCarry σ a0 x0 y0) (xCarry σ a0 x0 y0) σ) κ ++ [(w9, LJ cJ (pk (tCarry σ a0 x0 y0) (vp_updL g 0 ((iI (σ 2 a0 - (x0 + y0))).toInt64)) g))]) H; rw [pk_n ne, pk_n ne]; exact hP) hK (by show va_D A (XW cI cZ d (pk (tCarry σ a0 x0 y0) (xCarry σ a0 x0 y0) σ) κ ++ [(w9, LJ cJ (pk (tCarry σ a0 x0 y0) (vp_updL g 0 ((iI (σ 2 a0 - (x0 + y0))).toInt64)) g))]); rw [pk_n ne, pk_n ne]; exact hD) hS trivial (by show some (Value.int (iI (tCarry σ a0 x0 y0))) = _; rw [h9]) (Nat.le_of_ble_eq_true rfl) (Nat.le_of_ble_eq_true rfl) dL_carry_26
  · have h9 := hk.1
    have hP : va_P D vwCl (XW cI cZ d (xCarry σ a0 x0 y0) κ9 ++ [(w9, LJ cJ g)]) H := hP
    have hD : va_D A (XW cI cZ d (xCarry σ a0 x0 y0) κ9 ++ [(w9, LJ cJ g)]) := hD
    show W p l e ({ frames := 7, cells := 1, slots := 6, locals := 115 } : Room) s m args below meth c H locs 1 6 (MQ below (gQ D (tyLs cI cZ cJ) (fun κ' => XW cI cZ d (pk (tCarry σ a0 x0 y0) (xCarry σ a0 x0 y0) σ) κ' ++ [(w9, LJ cJ (pk (tCarry σ a0 x0 y0) (vp_updL g 0 ((iI (σ 2 a0 - (x0 + y0))).toInt64)) g))]) A (fun _ => some (.int (iI (tCarry σ a0 x0 y0)))) (fun _ => True)) args s 1 6 A) (F0 m 10 ls [.int (iI (σ 2 a0 - (x0 + y0))), .int (iI (0)), .ref w9])
    refine lv_i2l (v := (iI (σ 2 a0 - (x0 + y0))).toInt64) hx hb dL_carry_10 rfl ?_
    refine va_last hx hb hK hP hD hS 12 2 rfl rfl vp0 dL_carry_11 (fun H locs hP hD hS => ?_)
    have hP : va_P D vwCl (XW cI cZ d (xCarry σ a0 x0 y0) κ9 ++ [(w9, LJ cJ (vp_updL g 0 ((iI (σ 2 a0 - (x0 + y0))).toInt64)))]) H := hP
    have hD : va_D A (XW cI cZ d (xCarry σ a0 x0 y0) κ9 ++ [(w9, LJ cJ (vp_updL g 0 ((iI (σ 2 a0 - (x0 + y0))).toInt64)))]) := hD
    refine lv_goto (tgt := 27) hx hb dL_carry_12 (by decide) ?_
    refine lv_iconst (v := iI (0)) hx hb dL_carry_27 rfl ?_
    exact g_iret (wo := (fun κ' => XW cI cZ d (pk (tCarry σ a0 x0 y0) (xCarry σ a0 x0 y0) σ) κ' ++ [(w9, LJ cJ (pk (tCarry σ a0 x0 y0) (vp_updL g 0 ((iI (σ 2 a0 - (x0 + y0))).toInt64)) g))])) (kr := (fun _ => True)) (rv := (fun _ => some (.int (iI (tCarry σ a0 x0 y0))))) hx hb hr hlocks κ9 rfl (by show va_P D vwCl (XW cI cZ d (pk (tCarry σ a0 x0 y0) (xCarry σ a0 x0 y0) σ) κ9 ++ [(w9, LJ cJ (pk (tCarry σ a0 x0 y0) (vp_updL g 0 ((iI (σ 2 a0 - (x0 + y0))).toInt64)) g))]) H; rw [pk_y h9, pk_y h9]; exact hP) hK (by show va_D A (XW cI cZ d (pk (tCarry σ a0 x0 y0) (xCarry σ a0 x0 y0) σ) κ9 ++ [(w9, LJ cJ (pk (tCarry σ a0 x0 y0) (vp_updL g 0 ((iI (σ 2 a0 - (x0 + y0))).toInt64)) g))]); rw [pk_y h9, pk_y h9]; exact hD) hS trivial (by show some (Value.int (iI (tCarry σ a0 x0 y0))) = _; rw [h9]) (Nat.le_of_ble_eq_true rfl) (Nat.le_of_ble_eq_true rfl) dL_carry_28
set_option maxHeartbeats 4000000 in
set_option maxRecDepth 100000 in
theorem kL_pass (l : Launch) (hfl : l.stackTraces = false) (D : va_G) (cI cZ cJ : ClassId) (d : Nat → Nat) (σ κ : St) (w9 : Nat) (g : Nat → Int64) (y0 : Int) (hwf : xWF σ) (hl_y0 : -2147483648 ≤ y0) (hh_y0 : y0 ≤ 2147483647) (hbn : ∀ j, σ 2 j ≤ 90000000) (hyr : σ 9 0 ≤ 90000000) : gMet l yL_pass wsL_pass ({ frames := 7, cells := 1, slots := 6, locals := 137 } : Room) D (tyLs cI cZ cJ) (XW cI cZ d σ κ ++ [(w9, LJ cJ g)]) [.ref (d 0), .int (iI y0), .ref w9] (lEx (XW cI cZ d σ κ ++ [(w9, LJ cJ g)])) (fun _ => some (.int (iI (tPass y0)))) (fun _ => True) (fun κ' => XW cI cZ d (pk (tPass y0) (xPass σ y0) σ) κ' ++ [(w9, LJ cJ (pk (tPass y0) (vp_updL g 0 ((iI ((xPs σ y0 40).2)).toInt64)) g))]) := by
  refine g_startH (cc := cL_pass) (maxL := 4) (ret := (some .int)) (by decide) rfl (Nat.le_of_ble_eq_true rfl) ?_
  intro p e s m args below meth c A ls H locs S hr hlocks ht hP hK hD hA hS hTE hN hl
  have S0 := S
  obtain ⟨hx, hb, hml, hown, hts⟩ := S0
  have hl : lv_has ls 4 [(0, .ref (d 0)), (1, .int (iI y0)), (2, .ref w9)] := hl
  refine lv_aload_n hx hb dL_pass_0 rfl (lv_at hl 2 rfl) ?_
  refine lv_iconst (v := iI (0)) hx hb dL_pass_1 rfl ?_
  refine lv_aload_n hx hb dL_pass_2 rfl (lv_at hl 0 rfl) ?_
  refine lv_iload_n hx hb dL_pass_3 rfl (lv_at hl 1 rfl) ?_
  have hPc : va_P D vwCl (XW cI cZ d σ κ ++ [(w9, LJ cJ g)]) H := hP
  have hDc : va_D A (XW cI cZ d σ κ ++ [(w9, LJ cJ g)]) := hD
  refine h_call (vx_runV (As := [.int (iI y0)]) (rest := [.int (iI (0)), .ref w9]) S ((kX1_pass l hfl D cI cZ d σ κ y0 hwf hl_y0 hh_y0 hbn hyr) H.size) (cwV 1 hts gL_pass_X1_pass rfl rfl rfl (by decide +kernel) ⟨Nat.le_of_ble_eq_true rfl, Nat.le_of_ble_eq_true rfl⟩) (h_preV hK [0, 1] rfl hPc hDc hS hA hTE (q0 := 0) (ci := 1) rfl rfl rfl) rfl rfl hl.1 rfl (lv_room (Nat.le_of_ble_eq_true rfl)) dL_pass_4 ⟨Nat.le_of_ble_eq_true rfl, Nat.le_of_ble_eq_true rfl⟩) hPc hDc hS hA (fun E ce q9 H locs hxc hP hS hce hcv hcl => ?_) (fun κ9 H locs hk hP hD hS => ?_)
  · rcases hxc with ⟨rfl, h9⟩
    · have ne : ¬ (tPass y0) = 0 := by omega
      refine vx_catch (name := eA) hown [] ⟨0, 9, 12, 15⟩ [] ht (fun z hz => absurd hz List.not_mem_nil) (by decide) (by decide) (hts (.classLink RL 15 "java/lang/IllegalArgumentException") (List.mem_of_getElem? (i := 1) rfl)) (va_Nw.use rfl (hTE.2.2.1 eA (.castable eA eA) List.mem_cons_self (Or.inr (Or.inl rfl)))) hce hcv hcl ?_
      refine lv_astore_n (lv' := [(3, .ref q9), (0, .ref (d 0)), (1, .int (iI y0)), (2, .ref w9)]) hx hb dL_pass_12 rfl hl (by decide) rfl (fun ls hl => ?_)
      refine lv_iconst (v := iI (1)) hx hb dL_pass_13 rfl ?_
      exact g_iret (wo := (fun κ' => XW cI cZ d (pk (tPass y0) (xPass σ y0) σ) κ' ++ [(w9, LJ cJ (pk (tPass y0) (vp_updL g 0 ((iI ((xPs σ y0 40).2)).toInt64)) g))])) (kr := (fun _ => True)) (rv := (fun _ => some (.int (iI (tPass y0))))) hx hb hr hlocks κ rfl (by show va_P D vwCl (XW cI cZ d (pk (tPass y0) (xPass σ y0) σ) κ ++ [(w9, LJ cJ (pk (tPass y0) (vp_updL g 0 ((iI ((xPs σ y0 40).2)).toInt64)) g))]) H; rw [pk_n ne, pk_n ne]; exact hP) hK (by show va_D A (XW cI cZ d (pk (tPass y0) (xPass σ y0) σ) κ ++ [(w9, LJ cJ (pk (tPass y0) (vp_updL g 0 ((iI ((xPs σ y0 40).2)).toInt64)) g))]); rw [pk_n ne, pk_n ne]; exact hD) hS trivial (by show some (Value.int (iI (tPass y0))) = _; rw [h9]) (Nat.le_of_ble_eq_true rfl) (Nat.le_of_ble_eq_true rfl) dL_pass_14
  · have h9 := hk.1
    have hP : va_P D vwCl (XW cI cZ d (xPass σ y0) κ9 ++ [(w9, LJ cJ g)]) H := hP
    have hD : va_D A (XW cI cZ d (xPass σ y0) κ9 ++ [(w9, LJ cJ g)]) := hD
    show W p l e ({ frames := 7, cells := 1, slots := 6, locals := 137 } : Room) s m args below meth c H locs 1 6 (MQ below (gQ D (tyLs cI cZ cJ) (fun κ' => XW cI cZ d (pk (tPass y0) (xPass σ y0) σ) κ' ++ [(w9, LJ cJ (pk (tPass y0) (vp_updL g 0 ((iI ((xPs σ y0 40).2)).toInt64)) g))]) A (fun _ => some (.int (iI (tPass y0)))) (fun _ => True)) args s 1 6 A) (F0 m 7 ls [.int (iI ((xPs σ y0 40).2)), .int (iI (0)), .ref w9])
    refine lv_i2l (v := (iI ((xPs σ y0 40).2)).toInt64) hx hb dL_pass_7 rfl ?_
    refine va_last hx hb hK hP hD hS 12 2 rfl rfl vp0 dL_pass_8 (fun H locs hP hD hS => ?_)
    have hP : va_P D vwCl (XW cI cZ d (xPass σ y0) κ9 ++ [(w9, LJ cJ (vp_updL g 0 ((iI ((xPs σ y0 40).2)).toInt64)))]) H := hP
    have hD : va_D A (XW cI cZ d (xPass σ y0) κ9 ++ [(w9, LJ cJ (vp_updL g 0 ((iI ((xPs σ y0 40).2)).toInt64)))]) := hD
    refine lv_goto (tgt := 15) hx hb dL_pass_9 (by decide) ?_
    refine lv_iconst (v := iI (0)) hx hb dL_pass_15 rfl ?_
    exact g_iret (wo := (fun κ' => XW cI cZ d (pk (tPass y0) (xPass σ y0) σ) κ' ++ [(w9, LJ cJ (pk (tPass y0) (vp_updL g 0 ((iI ((xPs σ y0 40).2)).toInt64)) g))])) (kr := (fun _ => True)) (rv := (fun _ => some (.int (iI (tPass y0))))) hx hb hr hlocks κ9 rfl (by show va_P D vwCl (XW cI cZ d (pk (tPass y0) (xPass σ y0) σ) κ9 ++ [(w9, LJ cJ (pk (tPass y0) (vp_updL g 0 ((iI ((xPs σ y0 40).2)).toInt64)) g))]) H; rw [pk_y h9, pk_y h9]; exact hP) hK (by show va_D A (XW cI cZ d (pk (tPass y0) (xPass σ y0) σ) κ9 ++ [(w9, LJ cJ (pk (tPass y0) (vp_updL g 0 ((iI ((xPs σ y0 40).2)).toInt64)) g))]); rw [pk_y h9, pk_y h9]; exact hD) hS trivial (by show some (Value.int (iI (tPass y0))) = _; rw [h9]) (Nat.le_of_ble_eq_true rfl) (Nat.le_of_ble_eq_true rfl) dL_pass_16
set_option maxHeartbeats 4000000 in
set_option maxRecDepth 100000 in
theorem kL_foresee (l : Launch) (hfl : l.stackTraces = false) (D : va_G) (cI cZ cJ : ClassId) (d : Nat → Nat) (σ κ : St) (w9 : Nat) (g : Nat → Int64) (y0 : Int) (w0 : Int) (hwf : xWF σ) (hl_y0 : -2147483648 ≤ y0) (hh_y0 : y0 ≤ 2147483647) (hl_w0 : -2147483648 ≤ w0) (hh_w0 : w0 ≤ 2147483647) : gMet l yL_foresee wsL_foresee ({ frames := 7, cells := 1, slots := 6, locals := 118 } : Room) D (tyLs cI cZ cJ) (XW cI cZ d σ κ ++ [(w9, LJ cJ g)]) [.ref (d 0), .int (iI y0), .int (iI w0), .ref w9] (lEx (XW cI cZ d σ κ ++ [(w9, LJ cJ g)])) (fun _ => some (.int (iI (tForesee y0 w0)))) (fun _ => True) (fun κ' => XW cI cZ d (pk (tForesee y0 w0) (σ) σ) κ' ++ [(w9, LJ cJ (pk (tForesee y0 w0) (vp_updL g 0 ((iI (xFore σ y0 w0)).toInt64)) g))]) := by
  refine g_startH (cc := cL_foresee) (maxL := 5) (ret := (some .int)) (by decide) rfl (Nat.le_of_ble_eq_true rfl) ?_
  intro p e s m args below meth c A ls H locs S hr hlocks ht hP hK hD hA hS hTE hN hl
  have S0 := S
  obtain ⟨hx, hb, hml, hown, hts⟩ := S0
  have hl : lv_has ls 5 [(0, .ref (d 0)), (1, .int (iI y0)), (2, .int (iI w0)), (3, .ref w9)] := hl
  refine lv_aload_n hx hb dL_foresee_0 rfl (lv_at hl 3 rfl) ?_
  refine lv_iconst (v := iI (0)) hx hb dL_foresee_1 rfl ?_
  refine lv_aload_n hx hb dL_foresee_2 rfl (lv_at hl 0 rfl) ?_
  refine lv_iload_n hx hb dL_foresee_3 rfl (lv_at hl 1 rfl) ?_
  refine lv_iload_n hx hb dL_foresee_4 rfl (lv_at hl 2 rfl) ?_
  have hPc : va_P D vwCl (XW cI cZ d σ κ ++ [(w9, LJ cJ g)]) H := hP
  have hDc : va_D A (XW cI cZ d σ κ ++ [(w9, LJ cJ g)]) := hD
  refine h_call (vx_runV (As := [.int (iI y0), .int (iI w0)]) (rest := [.int (iI (0)), .ref w9]) S ((kX1_foresee l hfl D cI cZ d σ κ y0 w0 hwf hl_y0 hh_y0 hl_w0 hh_w0) H.size) (cwV 2 hts gL_foresee_X1_foresee rfl rfl rfl (by decide +kernel) ⟨Nat.le_of_ble_eq_true rfl, Nat.le_of_ble_eq_true rfl⟩) (h_preV hK [0, 1] rfl hPc hDc hS hA hTE (q0 := 0) (ci := 1) rfl rfl rfl) rfl rfl hl.1 rfl (lv_room (Nat.le_of_ble_eq_true rfl)) dL_foresee_5 ⟨Nat.le_of_ble_eq_true rfl, Nat.le_of_ble_eq_true rfl⟩) hPc hDc hS hA (fun E ce q9 H locs hxc hP hS hce hcv hcl => ?_) (fun κ9 H locs hk hP hD hS => ?_)
  · rcases hxc with ⟨rfl, h9⟩ | ⟨rfl, h9⟩
    · have ne : ¬ (tForesee y0 w0) = 0 := by omega
      refine vx_catch (name := eA) hown [] ⟨0, 10, 13, 15⟩ [⟨0, 10, 17, 13⟩] ht (fun z hz => absurd hz List.not_mem_nil) (by decide) (by decide) (hts (.classLink RL 15 "java/lang/IllegalArgumentException") (List.mem_of_getElem? (i := 1) rfl)) (va_Nw.use rfl (hTE.2.2.1 eA (.castable eA eA) List.mem_cons_self (Or.inr (Or.inl rfl)))) hce hcv hcl ?_
      refine lv_astore (lv' := [(4, .ref q9), (0, .ref (d 0)), (1, .int (iI y0)), (2, .int (iI w0)), (3, .ref w9)]) hx hb dL_foresee_13 hl (by decide) rfl (fun ls hl => ?_)
      refine lv_iconst (v := iI (1)) hx hb dL_foresee_15 rfl ?_
      exact g_iret (wo := (fun κ' => XW cI cZ d (pk (tForesee y0 w0) (σ) σ) κ' ++ [(w9, LJ cJ (pk (tForesee y0 w0) (vp_updL g 0 ((iI (xFore σ y0 w0)).toInt64)) g))])) (kr := (fun _ => True)) (rv := (fun _ => some (.int (iI (tForesee y0 w0))))) hx hb hr hlocks κ rfl (by show va_P D vwCl (XW cI cZ d (pk (tForesee y0 w0) (σ) σ) κ ++ [(w9, LJ cJ (pk (tForesee y0 w0) (vp_updL g 0 ((iI (xFore σ y0 w0)).toInt64)) g))]) H; rw [pk_n ne, pk_n ne]; exact hP) hK (by show va_D A (XW cI cZ d (pk (tForesee y0 w0) (σ) σ) κ ++ [(w9, LJ cJ (pk (tForesee y0 w0) (vp_updL g 0 ((iI (xFore σ y0 w0)).toInt64)) g))]); rw [pk_n ne, pk_n ne]; exact hD) hS trivial (by show some (Value.int (iI (tForesee y0 w0))) = _; rw [h9]) (Nat.le_of_ble_eq_true rfl) (Nat.le_of_ble_eq_true rfl) dL_foresee_16
    · have ne : ¬ (tForesee y0 w0) = 0 := by omega
      refine vx_catch (name := eI) hown [⟨0, 10, 13, 15⟩] ⟨0, 10, 17, 13⟩ [] ht (fun z hz => by rcases List.mem_singleton.mp hz with rfl; exact Or.inr ⟨by decide, eA, (hts (.classLink RL 15 "java/lang/IllegalArgumentException") (List.mem_of_getElem? (i := 1) rfl)), hN.2.2.2⟩) (by decide) (by decide) (hts (.classLink RL 13 "java/lang/IndexOutOfBoundsException") (List.mem_of_getElem? (i := 2) rfl)) (va_Nw.use rfl (hTE.2.2.1 eI (.castable eI eI) List.mem_cons_self (Or.inl rfl))) hce hcv hcl ?_
      refine lv_astore (lv' := [(4, .ref q9), (0, .ref (d 0)), (1, .int (iI y0)), (2, .int (iI w0)), (3, .ref w9)]) hx hb dL_foresee_17 hl (by decide) rfl (fun ls hl => ?_)
      refine lv_iconst (v := iI (2)) hx hb dL_foresee_19 rfl ?_
      exact g_iret (wo := (fun κ' => XW cI cZ d (pk (tForesee y0 w0) (σ) σ) κ' ++ [(w9, LJ cJ (pk (tForesee y0 w0) (vp_updL g 0 ((iI (xFore σ y0 w0)).toInt64)) g))])) (kr := (fun _ => True)) (rv := (fun _ => some (.int (iI (tForesee y0 w0))))) hx hb hr hlocks κ rfl (by show va_P D vwCl (XW cI cZ d (pk (tForesee y0 w0) (σ) σ) κ ++ [(w9, LJ cJ (pk (tForesee y0 w0) (vp_updL g 0 ((iI (xFore σ y0 w0)).toInt64)) g))]) H; rw [pk_n ne, pk_n ne]; exact hP) hK (by show va_D A (XW cI cZ d (pk (tForesee y0 w0) (σ) σ) κ ++ [(w9, LJ cJ (pk (tForesee y0 w0) (vp_updL g 0 ((iI (xFore σ y0 w0)).toInt64)) g))]); rw [pk_n ne, pk_n ne]; exact hD) hS trivial (by show some (Value.int (iI (tForesee y0 w0))) = _; rw [h9]) (Nat.le_of_ble_eq_true rfl) (Nat.le_of_ble_eq_true rfl) dL_foresee_20
  · have h9 := hk.1
    have hP : va_P D vwCl (XW cI cZ d (σ) κ9 ++ [(w9, LJ cJ g)]) H := hP
    have hD : va_D A (XW cI cZ d (σ) κ9 ++ [(w9, LJ cJ g)]) := hD
    show W p l e ({ frames := 7, cells := 1, slots := 6, locals := 118 } : Room) s m args below meth c H locs 1 6 (MQ below (gQ D (tyLs cI cZ cJ) (fun κ' => XW cI cZ d (pk (tForesee y0 w0) (σ) σ) κ' ++ [(w9, LJ cJ (pk (tForesee y0 w0) (vp_updL g 0 ((iI (xFore σ y0 w0)).toInt64)) g))]) A (fun _ => some (.int (iI (tForesee y0 w0)))) (fun _ => True)) args s 1 6 A) (F0 m 8 ls [.int (iI (xFore σ y0 w0)), .int (iI (0)), .ref w9])
    refine lv_i2l (v := (iI (xFore σ y0 w0)).toInt64) hx hb dL_foresee_8 rfl ?_
    refine va_last hx hb hK hP hD hS 12 2 rfl rfl vp0 dL_foresee_9 (fun H locs hP hD hS => ?_)
    have hP : va_P D vwCl (XW cI cZ d (σ) κ9 ++ [(w9, LJ cJ (vp_updL g 0 ((iI (xFore σ y0 w0)).toInt64)))]) H := hP
    have hD : va_D A (XW cI cZ d (σ) κ9 ++ [(w9, LJ cJ (vp_updL g 0 ((iI (xFore σ y0 w0)).toInt64)))]) := hD
    refine lv_goto (tgt := 21) hx hb dL_foresee_10 (by decide) ?_
    refine lv_iconst (v := iI (0)) hx hb dL_foresee_21 rfl ?_
    exact g_iret (wo := (fun κ' => XW cI cZ d (pk (tForesee y0 w0) (σ) σ) κ' ++ [(w9, LJ cJ (pk (tForesee y0 w0) (vp_updL g 0 ((iI (xFore σ y0 w0)).toInt64)) g))])) (kr := (fun _ => True)) (rv := (fun _ => some (.int (iI (tForesee y0 w0))))) hx hb hr hlocks κ9 rfl (by show va_P D vwCl (XW cI cZ d (pk (tForesee y0 w0) (σ) σ) κ9 ++ [(w9, LJ cJ (pk (tForesee y0 w0) (vp_updL g 0 ((iI (xFore σ y0 w0)).toInt64)) g))]) H; rw [pk_y h9, pk_y h9]; exact hP) hK (by show va_D A (XW cI cZ d (pk (tForesee y0 w0) (σ) σ) κ9 ++ [(w9, LJ cJ (pk (tForesee y0 w0) (vp_updL g 0 ((iI (xFore σ y0 w0)).toInt64)) g))]); rw [pk_y h9, pk_y h9]; exact hD) hS trivial (by show some (Value.int (iI (tForesee y0 w0))) = _; rw [h9]) (Nat.le_of_ble_eq_true rfl) (Nat.le_of_ble_eq_true rfl) dL_foresee_22
set_option maxHeartbeats 4000000 in
set_option maxRecDepth 100000 in
theorem kL_advise (l : Launch) (hfl : l.stackTraces = false) (D : va_G) (cI cZ cJ : ClassId) (d : Nat → Nat) (σ κ : St) (w9 : Nat) (g : Nat → Int64) (y0 : Int) (hwf : xWF σ) (hl_y0 : -2147483648 ≤ y0) (hh_y0 : y0 ≤ 2147483647) : gMet l yL_advise wsL_advise ({ frames := 7, cells := 1, slots := 6, locals := 141 } : Room) D (tyLs cI cZ cJ) (XW cI cZ d σ κ ++ [(w9, LJ cJ g)]) [.ref (d 0), .int (iI y0), .ref w9] (lEx (XW cI cZ d σ κ ++ [(w9, LJ cJ g)])) (fun _ => some (.int (iI (tAdvise y0)))) (fun _ => True) (fun κ' => XW cI cZ d (pk (tAdvise y0) (σ) σ) κ' ++ [(w9, LJ cJ (pk (tAdvise y0) (vp_updL g 0 ((iI ((advO σ y0 40).1)).toInt64)) g))]) := by
  refine g_startH (cc := cL_advise) (maxL := 4) (ret := (some .int)) (by decide) rfl (Nat.le_of_ble_eq_true rfl) ?_
  intro p e s m args below meth c A ls H locs S hr hlocks ht hP hK hD hA hS hTE hN hl
  have S0 := S
  obtain ⟨hx, hb, hml, hown, hts⟩ := S0
  have hl : lv_has ls 4 [(0, .ref (d 0)), (1, .int (iI y0)), (2, .ref w9)] := hl
  refine lv_aload_n hx hb dL_advise_0 rfl (lv_at hl 2 rfl) ?_
  refine lv_iconst (v := iI (0)) hx hb dL_advise_1 rfl ?_
  refine lv_aload_n hx hb dL_advise_2 rfl (lv_at hl 0 rfl) ?_
  refine lv_iload_n hx hb dL_advise_3 rfl (lv_at hl 1 rfl) ?_
  have hPc : va_P D vwCl (XW cI cZ d σ κ ++ [(w9, LJ cJ g)]) H := hP
  have hDc : va_D A (XW cI cZ d σ κ ++ [(w9, LJ cJ g)]) := hD
  refine h_call (vx_runV (As := [.int (iI y0)]) (rest := [.int (iI (0)), .ref w9]) S ((kX1_advise l hfl D cI cZ d σ κ y0 hwf hl_y0 hh_y0) H.size) (cwV 1 hts gL_advise_X1_advise rfl rfl rfl (by decide +kernel) ⟨Nat.le_of_ble_eq_true rfl, Nat.le_of_ble_eq_true rfl⟩) (h_preV hK [0, 1] rfl hPc hDc hS hA hTE (q0 := 0) (ci := 1) rfl rfl rfl) rfl rfl hl.1 rfl (lv_room (Nat.le_of_ble_eq_true rfl)) dL_advise_4 ⟨Nat.le_of_ble_eq_true rfl, Nat.le_of_ble_eq_true rfl⟩) hPc hDc hS hA (fun E ce q9 H locs hxc hP hS hce hcv hcl => ?_) (fun κ9 H locs hk hP hD hS => ?_)
  · rcases hxc with ⟨rfl, h9⟩
    · have ne : ¬ (tAdvise y0) = 0 := by omega
      refine vx_catch (name := eA) hown [] ⟨0, 9, 12, 15⟩ [] ht (fun z hz => absurd hz List.not_mem_nil) (by decide) (by decide) (hts (.classLink RL 15 "java/lang/IllegalArgumentException") (List.mem_of_getElem? (i := 1) rfl)) (va_Nw.use rfl (hTE.2.2.1 eA (.castable eA eA) List.mem_cons_self (Or.inr (Or.inl rfl)))) hce hcv hcl ?_
      refine lv_astore_n (lv' := [(3, .ref q9), (0, .ref (d 0)), (1, .int (iI y0)), (2, .ref w9)]) hx hb dL_advise_12 rfl hl (by decide) rfl (fun ls hl => ?_)
      refine lv_iconst (v := iI (1)) hx hb dL_advise_13 rfl ?_
      exact g_iret (wo := (fun κ' => XW cI cZ d (pk (tAdvise y0) (σ) σ) κ' ++ [(w9, LJ cJ (pk (tAdvise y0) (vp_updL g 0 ((iI ((advO σ y0 40).1)).toInt64)) g))])) (kr := (fun _ => True)) (rv := (fun _ => some (.int (iI (tAdvise y0))))) hx hb hr hlocks κ rfl (by show va_P D vwCl (XW cI cZ d (pk (tAdvise y0) (σ) σ) κ ++ [(w9, LJ cJ (pk (tAdvise y0) (vp_updL g 0 ((iI ((advO σ y0 40).1)).toInt64)) g))]) H; rw [pk_n ne, pk_n ne]; exact hP) hK (by show va_D A (XW cI cZ d (pk (tAdvise y0) (σ) σ) κ ++ [(w9, LJ cJ (pk (tAdvise y0) (vp_updL g 0 ((iI ((advO σ y0 40).1)).toInt64)) g))]); rw [pk_n ne, pk_n ne]; exact hD) hS trivial (by show some (Value.int (iI (tAdvise y0))) = _; rw [h9]) (Nat.le_of_ble_eq_true rfl) (Nat.le_of_ble_eq_true rfl) dL_advise_14
  · have h9 := hk.1
    have hP : va_P D vwCl (XW cI cZ d (σ) κ9 ++ [(w9, LJ cJ g)]) H := hP
    have hD : va_D A (XW cI cZ d (σ) κ9 ++ [(w9, LJ cJ g)]) := hD
    show W p l e ({ frames := 7, cells := 1, slots := 6, locals := 141 } : Room) s m args below meth c H locs 1 6 (MQ below (gQ D (tyLs cI cZ cJ) (fun κ' => XW cI cZ d (pk (tAdvise y0) (σ) σ) κ' ++ [(w9, LJ cJ (pk (tAdvise y0) (vp_updL g 0 ((iI ((advO σ y0 40).1)).toInt64)) g))]) A (fun _ => some (.int (iI (tAdvise y0)))) (fun _ => True)) args s 1 6 A) (F0 m 7 ls [.int (iI ((advO σ y0 40).1)), .int (iI (0)), .ref w9])
    refine lv_i2l (v := (iI ((advO σ y0 40).1)).toInt64) hx hb dL_advise_7 rfl ?_
    refine va_last hx hb hK hP hD hS 12 2 rfl rfl vp0 dL_advise_8 (fun H locs hP hD hS => ?_)
    have hP : va_P D vwCl (XW cI cZ d (σ) κ9 ++ [(w9, LJ cJ (vp_updL g 0 ((iI ((advO σ y0 40).1)).toInt64)))]) H := hP
    have hD : va_D A (XW cI cZ d (σ) κ9 ++ [(w9, LJ cJ (vp_updL g 0 ((iI ((advO σ y0 40).1)).toInt64)))]) := hD
    refine lv_goto (tgt := 15) hx hb dL_advise_9 (by decide) ?_
    refine lv_iconst (v := iI (0)) hx hb dL_advise_15 rfl ?_
    exact g_iret (wo := (fun κ' => XW cI cZ d (pk (tAdvise y0) (σ) σ) κ' ++ [(w9, LJ cJ (pk (tAdvise y0) (vp_updL g 0 ((iI ((advO σ y0 40).1)).toInt64)) g))])) (kr := (fun _ => True)) (rv := (fun _ => some (.int (iI (tAdvise y0))))) hx hb hr hlocks κ9 rfl (by show va_P D vwCl (XW cI cZ d (pk (tAdvise y0) (σ) σ) κ9 ++ [(w9, LJ cJ (pk (tAdvise y0) (vp_updL g 0 ((iI ((advO σ y0 40).1)).toInt64)) g))]) H; rw [pk_y h9, pk_y h9]; exact hP) hK (by show va_D A (XW cI cZ d (pk (tAdvise y0) (σ) σ) κ9 ++ [(w9, LJ cJ (pk (tAdvise y0) (vp_updL g 0 ((iI ((advO σ y0 40).1)).toInt64)) g))]); rw [pk_y h9, pk_y h9]; exact hD) hS trivial (by show some (Value.int (iI (tAdvise y0))) = _; rw [h9]) (Nat.le_of_ble_eq_true rfl) (Nat.le_of_ble_eq_true rfl) dL_advise_16
