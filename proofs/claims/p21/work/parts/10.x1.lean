set_option maxHeartbeats 4000000 in
set_option maxRecDepth 100000 in
theorem kX1_isWithin (l : Launch) (D : va_G)   (n0 : Int) (lo : Int) (hi : Int) (hl_n0 : -2147483648 ≤ n0) (hh_n0 : n0 ≤ 2147483647) (hl_lo : -2147483648 ≤ lo) (hh_lo : lo ≤ 2147483647) (hl_hi : -2147483648 ≤ hi) (hh_hi : hi ≤ 2147483647) : gMet l yX1_isWithin wsX1_isWithin ({ frames := 0, cells := 0, slots := 0, locals := 0 } : Room) D [] (([] : va_W)) [.int (iI n0), .int (iI lo), .int (iI hi)] (fun _ => True) (fun _ => some (.int (iI (bI (lo ≤ n0 ∧ n0 ≤ hi))))) (fun _ => True) (fun κ' => ([] : va_W)) := by
  refine g_start (cc := cX1_isWithin) (maxL := 3) (ret := (some .boolean)) (by decide) rfl (Nat.le_of_ble_eq_true rfl) ?_
  intro p e s m args below meth c A ls H locs S hr hlocks hname hP hK hD hA hS hE hl
  have S0 := S
  obtain ⟨hx, hb, hml, hown, hts⟩ := S0
  have hl : lv_has ls 3 [(0, .int (iI (n0))), (1, .int (iI (lo))), (2, .int (iI (hi)))] := hl
  refine lv_iload_n hx hb dX1_isWithin_0 rfl (lv_at hl 0 rfl) ?_
  refine lv_iload_n hx hb dX1_isWithin_1 rfl (lv_at hl 1 rfl) ?_
  refine gi_icmp_lt (tgt := 14) hx hb dX1_isWithin_2 (by decide) ⟨by omega, by omega⟩ ⟨by omega, by omega⟩ (fun c2 => ?_) (fun c2 => ?_)
  · skip
    refine lv_iconst (v := iI (0)) hx hb dX1_isWithin_14 rfl ?_
    have er : ((bI (lo ≤ n0 ∧ n0 ≤ hi) : Int)) = (0) := by first | (rw [bI_t (by omega)]; done) | (rw [bI_f (by omega)]; done)
    exact g_iret (wo := (fun κ' => ([] : va_W))) (kr := (fun _ => True)) (rv := (fun _ => some (.int (iI (bI (lo ≤ n0 ∧ n0 ≤ hi)))))) hx hb hr hlocks (fun _ _ => 0) (nar_z (Or.inl rfl)) hP hK hD hS trivial (by rw [er]) (Nat.le_of_ble_eq_true rfl) (Nat.le_of_ble_eq_true rfl) dX1_isWithin_15
  · skip
    refine lv_iload_n hx hb dX1_isWithin_5 rfl (lv_at hl 0 rfl) ?_
    refine lv_iload_n hx hb dX1_isWithin_6 rfl (lv_at hl 2 rfl) ?_
    refine gi_icmp_gt (tgt := 14) hx hb dX1_isWithin_7 (by decide) ⟨by omega, by omega⟩ ⟨by omega, by omega⟩ (fun c7 => ?_) (fun c7 => ?_)
    · skip
      refine lv_iconst (v := iI (0)) hx hb dX1_isWithin_14 rfl ?_
      have er : ((bI (lo ≤ n0 ∧ n0 ≤ hi) : Int)) = (0) := by first | (rw [bI_t (by omega)]; done) | (rw [bI_f (by omega)]; done)
      exact g_iret (wo := (fun κ' => ([] : va_W))) (kr := (fun _ => True)) (rv := (fun _ => some (.int (iI (bI (lo ≤ n0 ∧ n0 ≤ hi)))))) hx hb hr hlocks (fun _ _ => 0) (nar_z (Or.inl rfl)) hP hK hD hS trivial (by rw [er]) (Nat.le_of_ble_eq_true rfl) (Nat.le_of_ble_eq_true rfl) dX1_isWithin_15
    · skip
      refine lv_iconst (v := iI (1)) hx hb dX1_isWithin_10 rfl ?_
      refine lv_goto (tgt := 15) hx hb dX1_isWithin_11 (by decide) ?_
      have er : ((bI (lo ≤ n0 ∧ n0 ≤ hi) : Int)) = (1) := by first | (rw [bI_t (by omega)]; done) | (rw [bI_f (by omega)]; done)
      exact g_iret (wo := (fun κ' => ([] : va_W))) (kr := (fun _ => True)) (rv := (fun _ => some (.int (iI (bI (lo ≤ n0 ∧ n0 ≤ hi)))))) hx hb hr hlocks (fun _ _ => 0) (nar_z (Or.inr rfl)) hP hK hD hS trivial (by rw [er]) (Nat.le_of_ble_eq_true rfl) (Nat.le_of_ble_eq_true rfl) dX1_isWithin_15
set_option maxHeartbeats 4000000 in
set_option maxRecDepth 100000 in
theorem kX1_isSort (l : Launch) (D : va_G)   (n0 : Int) (hl_n0 : -2147483648 ≤ n0) (hh_n0 : n0 ≤ 2147483647) : gMet l yX1_isSort wsX1_isSort ({ frames := 1, cells := 0, slots := 0, locals := 22 } : Room) D [] (([] : va_W)) [.int (iI n0)] (fun _ => True) (fun _ => some (.int (iI (bI (0 ≤ n0 ∧ n0 ≤ 5))))) (fun _ => True) (fun κ' => ([] : va_W)) := by
  refine g_start (cc := cX1_isSort) (maxL := 1) (ret := (some .boolean)) (by decide) rfl (Nat.le_of_ble_eq_true rfl) ?_
  intro p e s m args below meth c A ls H locs S hr hlocks hname hP hK hD hA hS hE hl
  have S0 := S
  obtain ⟨hx, hb, hml, hown, hts⟩ := S0
  have hl : lv_has ls 1 [(0, .int (iI (n0)))] := hl
  refine lv_iload_n hx hb dX1_isSort_0 rfl (lv_at hl 0 rfl) ?_
  refine lv_iconst (v := iI (0)) hx hb dX1_isSort_1 rfl ?_
  refine lv_iconst (v := iI (5)) hx hb dX1_isSort_2 rfl ?_
  have hPc : va_P D vwCl ([] ++ ([] : va_W)) H := hP
  have hDc : va_D A ([] ++ ([] : va_W)) := hD
  refine g_call (va_runS (As := [.int (iI (n0)), .int (iI (0)), .int (iI (5))]) (rest := []) S ((kX1_isWithin l D  n0 0 5 (by first | assumption | omega) (by first | assumption | omega) (by first | assumption | omega) (by first | assumption | omega) (by first | assumption | omega) (by first | assumption | omega)) H.size) (va_cwS 3 hts gX1_isSort_X1_isWithin rfl rfl rfl (by decide +kernel) ⟨Nat.le_of_ble_eq_true rfl, Nat.le_of_ble_eq_true rfl⟩) (g_preS gEx_t hK [] rfl hPc hDc (fun _ _ _ => trivial)) rfl rfl hl.1 rfl (lv_room (Nat.le_of_ble_eq_true rfl)) dX1_isSort_3 ⟨Nat.le_of_ble_eq_true rfl, Nat.le_of_ble_eq_true rfl⟩) hPc hDc hS hA (fun κ9 H locs hk hP hD hS => ?_)
  have hP : va_P D vwCl (([] : va_W)) H := hP
  have hD : va_D A (([] : va_W)) := hD
  show W p l e ({ frames := 1, cells := 0, slots := 0, locals := 22 } : Room) s m args below meth c H locs 0 0 (MQ below (gQ D [] (fun κ' => ([] : va_W)) A (fun _ => some (.int (iI (bI (0 ≤ n0 ∧ n0 ≤ 5))))) (fun _ => True)) args s 0 0 A) (F0 m 6 ls [.int (iI (bI (0 ≤ n0 ∧ n0 ≤ 5)))])
  exact g_iret (wo := (fun κ' => ([] : va_W))) (kr := (fun _ => True)) (rv := (fun _ => some (.int (iI (bI (0 ≤ n0 ∧ n0 ≤ 5)))))) hx hb hr hlocks (fun _ _ => 0) (nar_z (bI01 _)) hP hK hD hS trivial rfl (Nat.le_of_ble_eq_true rfl) (Nat.le_of_ble_eq_true rfl) dX1_isSort_6
set_option maxHeartbeats 4000000 in
set_option maxRecDepth 100000 in
theorem kX1_isPlace (l : Launch) (D : va_G)   (r0 : Int) (p0 : Int) (hl_r0 : -2147483648 ≤ r0) (hh_r0 : r0 ≤ 2147483647) (hl_p0 : -2147483648 ≤ p0) (hh_p0 : p0 ≤ 2147483647) : gMet l yX1_isPlace wsX1_isPlace ({ frames := 1, cells := 0, slots := 0, locals := 22 } : Room) D [] (([] : va_W)) [.int (iI r0), .int (iI p0)] (fun _ => True) (fun _ => some (.int (iI (bI ((0 ≤ r0 ∧ r0 ≤ 4) ∧ 0 ≤ p0 ∧ p0 ≤ 7))))) (fun _ => True) (fun κ' => ([] : va_W)) := by
  refine g_start (cc := cX1_isPlace) (maxL := 2) (ret := (some .boolean)) (by decide) rfl (Nat.le_of_ble_eq_true rfl) ?_
  intro p e s m args below meth c A ls H locs S hr hlocks hname hP hK hD hA hS hE hl
  have S0 := S
  obtain ⟨hx, hb, hml, hown, hts⟩ := S0
  have hl : lv_has ls 2 [(0, .int (iI (r0))), (1, .int (iI (p0)))] := hl
  refine lv_iload_n hx hb dX1_isPlace_0 rfl (lv_at hl 0 rfl) ?_
  refine lv_iconst (v := iI (0)) hx hb dX1_isPlace_1 rfl ?_
  refine lv_iconst (v := iI (4)) hx hb dX1_isPlace_2 rfl ?_
  have hPc : va_P D vwCl ([] ++ ([] : va_W)) H := hP
  have hDc : va_D A ([] ++ ([] : va_W)) := hD
  refine g_call (va_runS (As := [.int (iI (r0)), .int (iI (0)), .int (iI (4))]) (rest := []) S ((kX1_isWithin l D  r0 0 4 (by first | assumption | omega) (by first | assumption | omega) (by first | assumption | omega) (by first | assumption | omega) (by first | assumption | omega) (by first | assumption | omega)) H.size) (va_cwS 3 hts gX1_isPlace_X1_isWithin rfl rfl rfl (by decide +kernel) ⟨Nat.le_of_ble_eq_true rfl, Nat.le_of_ble_eq_true rfl⟩) (g_preS gEx_t hK [] rfl hPc hDc (fun _ _ _ => trivial)) rfl rfl hl.1 rfl (lv_room (Nat.le_of_ble_eq_true rfl)) dX1_isPlace_3 ⟨Nat.le_of_ble_eq_true rfl, Nat.le_of_ble_eq_true rfl⟩) hPc hDc hS hA (fun κ9 H locs hk hP hD hS => ?_)
  have hP : va_P D vwCl (([] : va_W)) H := hP
  have hD : va_D A (([] : va_W)) := hD
  show W p l e ({ frames := 1, cells := 0, slots := 0, locals := 22 } : Room) s m args below meth c H locs 0 0 (MQ below (gQ D [] (fun κ' => ([] : va_W)) A (fun _ => some (.int (iI (bI ((0 ≤ r0 ∧ r0 ≤ 4) ∧ 0 ≤ p0 ∧ p0 ≤ 7))))) (fun _ => True)) args s 0 0 A) (F0 m 6 ls [.int (iI (bI (0 ≤ r0 ∧ r0 ≤ 4)))])
  refine gb_if_eq (tgt := 23) hx hb dX1_isPlace_6 (by decide)  (fun c6 => ?_) (fun c6 => ?_)
  · skip
    refine lv_iconst (v := iI (0)) hx hb dX1_isPlace_23 rfl ?_
    have er : ((bI ((0 ≤ r0 ∧ r0 ≤ 4) ∧ 0 ≤ p0 ∧ p0 ≤ 7) : Int)) = (0) := by first | (rw [bI_t (by omega)]; done) | (rw [bI_f (by omega)]; done)
    exact g_iret (wo := (fun κ' => ([] : va_W))) (kr := (fun _ => True)) (rv := (fun _ => some (.int (iI (bI ((0 ≤ r0 ∧ r0 ≤ 4) ∧ 0 ≤ p0 ∧ p0 ≤ 7)))))) hx hb hr hlocks (fun _ _ => 0) (nar_z (Or.inl rfl)) hP hK hD hS trivial (by rw [er]) (Nat.le_of_ble_eq_true rfl) (Nat.le_of_ble_eq_true rfl) dX1_isPlace_24
  · skip
    refine lv_iload_n hx hb dX1_isPlace_9 rfl (lv_at hl 1 rfl) ?_
    refine lv_iconst (v := iI (0)) hx hb dX1_isPlace_10 rfl ?_
    refine lv_bipush (v := iI (7)) hx hb dX1_isPlace_11 rfl ?_
    have hPc : va_P D vwCl ([] ++ ([] : va_W)) H := hP
    have hDc : va_D A ([] ++ ([] : va_W)) := hD
    refine g_call (va_runS (As := [.int (iI (p0)), .int (iI (0)), .int (iI (7))]) (rest := []) S ((kX1_isWithin l D  p0 0 7 (by first | assumption | omega) (by first | assumption | omega) (by first | assumption | omega) (by first | assumption | omega) (by first | assumption | omega) (by first | assumption | omega)) H.size) (va_cwS 3 hts gX1_isPlace_X1_isWithin rfl rfl rfl (by decide +kernel) ⟨Nat.le_of_ble_eq_true rfl, Nat.le_of_ble_eq_true rfl⟩) (g_preS gEx_t hK [] rfl hPc hDc (fun _ _ _ => trivial)) rfl rfl hl.1 rfl (lv_room (Nat.le_of_ble_eq_true rfl)) dX1_isPlace_13 ⟨Nat.le_of_ble_eq_true rfl, Nat.le_of_ble_eq_true rfl⟩) hPc hDc hS hA (fun κ9 H locs hk hP hD hS => ?_)
    have hP : va_P D vwCl (([] : va_W)) H := hP
    have hD : va_D A (([] : va_W)) := hD
    show W p l e ({ frames := 1, cells := 0, slots := 0, locals := 22 } : Room) s m args below meth c H locs 0 0 (MQ below (gQ D [] (fun κ' => ([] : va_W)) A (fun _ => some (.int (iI (bI ((0 ≤ r0 ∧ r0 ≤ 4) ∧ 0 ≤ p0 ∧ p0 ≤ 7))))) (fun _ => True)) args s 0 0 A) (F0 m 16 ls [.int (iI (bI (0 ≤ p0 ∧ p0 ≤ 7)))])
    refine gb_if_eq (tgt := 23) hx hb dX1_isPlace_16 (by decide)  (fun c16 => ?_) (fun c16 => ?_)
    · skip
      refine lv_iconst (v := iI (0)) hx hb dX1_isPlace_23 rfl ?_
      have er : ((bI ((0 ≤ r0 ∧ r0 ≤ 4) ∧ 0 ≤ p0 ∧ p0 ≤ 7) : Int)) = (0) := by first | (rw [bI_t (by omega)]; done) | (rw [bI_f (by omega)]; done)
      exact g_iret (wo := (fun κ' => ([] : va_W))) (kr := (fun _ => True)) (rv := (fun _ => some (.int (iI (bI ((0 ≤ r0 ∧ r0 ≤ 4) ∧ 0 ≤ p0 ∧ p0 ≤ 7)))))) hx hb hr hlocks (fun _ _ => 0) (nar_z (Or.inl rfl)) hP hK hD hS trivial (by rw [er]) (Nat.le_of_ble_eq_true rfl) (Nat.le_of_ble_eq_true rfl) dX1_isPlace_24
    · skip
      refine lv_iconst (v := iI (1)) hx hb dX1_isPlace_19 rfl ?_
      refine lv_goto (tgt := 24) hx hb dX1_isPlace_20 (by decide) ?_
      have er : ((bI ((0 ≤ r0 ∧ r0 ≤ 4) ∧ 0 ≤ p0 ∧ p0 ≤ 7) : Int)) = (1) := by first | (rw [bI_t (by omega)]; done) | (rw [bI_f (by omega)]; done)
      exact g_iret (wo := (fun κ' => ([] : va_W))) (kr := (fun _ => True)) (rv := (fun _ => some (.int (iI (bI ((0 ≤ r0 ∧ r0 ≤ 4) ∧ 0 ≤ p0 ∧ p0 ≤ 7)))))) hx hb hr hlocks (fun _ _ => 0) (nar_z (Or.inr rfl)) hP hK hD hS trivial (by rw [er]) (Nat.le_of_ble_eq_true rfl) (Nat.le_of_ble_eq_true rfl) dX1_isPlace_24
set_option maxHeartbeats 4000000 in
set_option maxRecDepth 100000 in
theorem kX1_spotOf (l : Launch) (D : va_G)   (r0 : Int) (p0 : Int)  : gMet l yX1_spotOf wsX1_spotOf ({ frames := 0, cells := 0, slots := 0, locals := 0 } : Room) D [] (([] : va_W)) [.int (iI r0), .int (iI p0)] (fun _ => True) (fun _ => some (.int (iI (r0 * 8 + p0)))) (fun _ => True) (fun κ' => ([] : va_W)) := by
  refine g_start (cc := cX1_spotOf) (maxL := 2) (ret := (some .int)) (by decide) rfl (Nat.le_of_ble_eq_true rfl) ?_
  intro p e s m args below meth c A ls H locs S hr hlocks hname hP hK hD hA hS hE hl
  have S0 := S
  obtain ⟨hx, hb, hml, hown, hts⟩ := S0
  have hl : lv_has ls 2 [(0, .int (iI (r0))), (1, .int (iI (p0)))] := hl
  refine lv_iload_n hx hb dX1_spotOf_0 rfl (lv_at hl 0 rfl) ?_
  refine lv_bipush (v := iI (8)) hx hb dX1_spotOf_1 rfl ?_
  refine gi_mul hx hb dX1_spotOf_3 ?_
  refine lv_iload_n hx hb dX1_spotOf_4 rfl (lv_at hl 1 rfl) ?_
  refine gi_add hx hb dX1_spotOf_5 ?_
  have er : ((r0 * 8 + p0 : Int)) = ((r0 * 8) + p0) := by first | rfl | omega | (simp [bI, *]; done)
  exact g_iret (wo := (fun κ' => ([] : va_W))) (kr := (fun _ => True)) (rv := (fun _ => some (.int (iI (r0 * 8 + p0))))) hx hb hr hlocks (fun _ _ => 0) rfl hP hK hD hS trivial (by rw [er]) (Nat.le_of_ble_eq_true rfl) (Nat.le_of_ble_eq_true rfl) dX1_spotOf_6
set_option maxHeartbeats 4000000 in
set_option maxRecDepth 100000 in
theorem kX1_mirrorOf (l : Launch) (D : va_G)   (s0 : Int) (h0 : 0 ≤ s0) (h1 : s0 < 40) : gMet l yX1_mirrorOf wsX1_mirrorOf ({ frames := 0, cells := 0, slots := 0, locals := 0 } : Room) D [] (([] : va_W)) [.int (iI s0)] (fun _ => True) (fun _ => some (.int (iI (mir s0)))) (fun _ => True) (fun κ' => ([] : va_W)) := by
  refine g_start (cc := cX1_mirrorOf) (maxL := 2) (ret := (some .int)) (by decide) rfl (Nat.le_of_ble_eq_true rfl) ?_
  intro p e s m args below meth c A ls H locs S hr hlocks hname hP hK hD hA hS hE hl
  have S0 := S
  obtain ⟨hx, hb, hml, hown, hts⟩ := S0
  have hl : lv_has ls 2 [(0, .int (iI (s0)))] := hl
  refine lv_iload_n hx hb dX1_mirrorOf_0 rfl (lv_at hl 0 rfl) ?_
  refine lv_bipush (v := iI (8)) hx hb dX1_mirrorOf_1 rfl ?_
  refine gi_rem hx hb ⟨by omega, by omega⟩ ⟨by omega, by omega⟩ dX1_mirrorOf_3 ?_
  refine lv_istore_n (lv' := [(1, .int (iI (s0 % 8))), (0, .int (iI (s0)))]) hx hb dX1_mirrorOf_4 rfl hl (by decide) rfl (fun ls hl => ?_)
  refine lv_iload_n hx hb dX1_mirrorOf_5 rfl (lv_at hl 1 rfl) ?_
  refine lv_iload_n hx hb dX1_mirrorOf_6 rfl (lv_at hl 0 rfl) ?_
  refine gi_sub hx hb dX1_mirrorOf_7 ?_
  refine lv_bipush (v := iI (7)) hx hb dX1_mirrorOf_8 rfl ?_
  refine lv_iload_n hx hb dX1_mirrorOf_10 rfl (lv_at hl 0 rfl) ?_
  refine gi_sub hx hb dX1_mirrorOf_11 ?_
  refine gi_add hx hb dX1_mirrorOf_12 ?_
  have er : ((mir s0 : Int)) = ((s0 - (s0 % 8)) + (7 - (s0 % 8))) := by first | rfl | omega | (simp [bI, *]; done)
  exact g_iret (wo := (fun κ' => ([] : va_W))) (kr := (fun _ => True)) (rv := (fun _ => some (.int (iI (mir s0))))) hx hb hr hlocks (fun _ _ => 0) rfl hP hK hD hS trivial (by rw [er]) (Nat.le_of_ble_eq_true rfl) (Nat.le_of_ble_eq_true rfl) dX1_mirrorOf_13
set_option maxHeartbeats 4000000 in
set_option maxRecDepth 100000 in
theorem kX1_twinOf (l : Launch) (D : va_G)   (s0 : Int) (h0 : 0 ≤ s0) (h1 : s0 < 40) : gMet l yX1_twinOf wsX1_twinOf ({ frames := 0, cells := 0, slots := 0, locals := 0 } : Room) D [] (([] : va_W)) [.int (iI s0)] (fun _ => True) (fun _ => some (.int (iI (tw s0)))) (fun _ => True) (fun κ' => ([] : va_W)) := by
  refine g_start (cc := cX1_twinOf) (maxL := 1) (ret := (some .int)) (by decide) rfl (Nat.le_of_ble_eq_true rfl) ?_
  intro p e s m args below meth c A ls H locs S hr hlocks hname hP hK hD hA hS hE hl
  have S0 := S
  obtain ⟨hx, hb, hml, hown, hts⟩ := S0
  have hl : lv_has ls 1 [(0, .int (iI (s0)))] := hl
  refine lv_iload_n hx hb dX1_twinOf_0 rfl (lv_at hl 0 rfl) ?_
  refine lv_bipush (v := iI (8)) hx hb dX1_twinOf_1 rfl ?_
  refine gi_rem hx hb ⟨by omega, by omega⟩ ⟨by omega, by omega⟩ dX1_twinOf_3 ?_
  refine lv_iconst (v := iI (4)) hx hb dX1_twinOf_4 rfl ?_
  refine gi_icmp_ge (tgt := 12) hx hb dX1_twinOf_5 (by decide) ⟨by omega, by omega⟩ ⟨by decide, by decide⟩ (fun c5 => ?_) (fun c5 => ?_)
  · skip
    refine lv_iconst (v := iI (1)) hx hb dX1_twinOf_12 rfl ?_
    have er : ((tw s0 : Int)) = (1) := by simp only [tw]; first | (rw [if_pos (by omega)]; done) | (rw [if_neg (by omega)]; done)
    exact g_iret (wo := (fun κ' => ([] : va_W))) (kr := (fun _ => True)) (rv := (fun _ => some (.int (iI (tw s0))))) hx hb hr hlocks (fun _ _ => 0) rfl hP hK hD hS trivial (by rw [er]) (Nat.le_of_ble_eq_true rfl) (Nat.le_of_ble_eq_true rfl) dX1_twinOf_13
  · skip
    refine lv_iconst (v := iI (0)) hx hb dX1_twinOf_8 rfl ?_
    refine lv_goto (tgt := 13) hx hb dX1_twinOf_9 (by decide) ?_
    have er : ((tw s0 : Int)) = (0) := by simp only [tw]; first | (rw [if_pos (by omega)]; done) | (rw [if_neg (by omega)]; done)
    exact g_iret (wo := (fun κ' => ([] : va_W))) (kr := (fun _ => True)) (rv := (fun _ => some (.int (iI (tw s0))))) hx hb hr hlocks (fun _ _ => 0) rfl hP hK hD hS trivial (by rw [er]) (Nat.le_of_ble_eq_true rfl) (Nat.le_of_ble_eq_true rfl) dX1_twinOf_13
set_option maxHeartbeats 4000000 in
set_option maxRecDepth 100000 in
theorem kX1_hasTree (l : Launch) (D : va_G) (cI cZ : ClassId) (d : Nat → Nat) (σ κ : St)  (s0 : Int) (h0 : 0 ≤ s0) (h1 : s0 < 40) (hwf : xWF σ) : gMet l yX1_hasTree wsX1_hasTree ({ frames := 0, cells := 0, slots := 0, locals := 0 } : Room) D (tyXs cI cZ) (XW cI cZ d σ κ) [.ref (d 0), .int (iI s0)] xEx (fun _ => some (.int (iI (bI (¬ σ 4 s0 = -1))))) (fun κ' => κ' = κ) (fun κ' => XW cI cZ d σ κ') := by
  refine g_start (cc := cX1_hasTree) (maxL := 2) (ret := (some .boolean)) (by decide) rfl (Nat.le_of_ble_eq_true rfl) ?_
  intro p e s m args below meth c A ls H locs S hr hlocks hname hP hK hD hA hS hE hl
  have S0 := S
  obtain ⟨hx, hb, hml, hown, hts⟩ := S0
  have hl : lv_has ls 2 [(0, .ref (d 0)), (1, .int (iI (s0)))] := hl
  have hinX1 : ∀ w ∈ wsX10, w ∈ wsX1_hasTree := by decide +kernel
  have k4 := xWF_4 hwf s0
  refine lv_aload_n hx hb dX1_hasTree_0 rfl (lv_at hl 0 rfl) ?_
  refine va_get (D := D) (ci := 1) (v := .ref (d 5)) (C := RX1) (T := TX1) (N := 13) hx hb hts hinX1 hown hK hP 0 rfl rfl 4 (by decide) (hts (.fieldLink RX1 22 "TwinOrchard" "kinds" "[I") (List.mem_of_getElem? (i := 1) rfl)) (fun _ h9 => h9) rfl dX1_hasTree_1 ?_
  refine lv_iload_n hx hb dX1_hasTree_4 rfl (lv_at hl 1 rfl) ?_
  refine gi_iald (a := d 5) (n := 40) (f := σ 4) hx hb hK hP 5 0 rfl rfl (by omega) (by omega) (by decide) dX1_hasTree_5 ?_
  refine lv_iconst (v := iI (-1)) hx hb dX1_hasTree_6 rfl ?_
  refine gi_icmp_eq (tgt := 14) hx hb dX1_hasTree_7 (by decide) ⟨by omega, by omega⟩ ⟨by decide, by decide⟩ (fun c7 => ?_) (fun c7 => ?_)
  · skip
    refine lv_iconst (v := iI (0)) hx hb dX1_hasTree_14 rfl ?_
    have er : ((bI (¬ σ 4 s0 = -1) : Int)) = (0) := by first | (rw [bI_t (by omega)]; done) | (rw [bI_f (by omega)]; done)
    exact g_iret (wo := (fun κ' => XW cI cZ d σ κ')) (kr := (fun κ' => κ' = κ)) (rv := (fun _ => some (.int (iI (bI (¬ σ 4 s0 = -1)))))) hx hb hr hlocks κ (nar_z (Or.inl rfl)) hP hK hD hS rfl (by rw [er]) (Nat.le_of_ble_eq_true rfl) (Nat.le_of_ble_eq_true rfl) dX1_hasTree_15
  · skip
    refine lv_iconst (v := iI (1)) hx hb dX1_hasTree_10 rfl ?_
    refine lv_goto (tgt := 15) hx hb dX1_hasTree_11 (by decide) ?_
    have er : ((bI (¬ σ 4 s0 = -1) : Int)) = (1) := by first | (rw [bI_t (by omega)]; done) | (rw [bI_f (by omega)]; done)
    exact g_iret (wo := (fun κ' => XW cI cZ d σ κ')) (kr := (fun κ' => κ' = κ)) (rv := (fun _ => some (.int (iI (bI (¬ σ 4 s0 = -1)))))) hx hb hr hlocks κ (nar_z (Or.inr rfl)) hP hK hD hS rfl (by rw [er]) (Nat.le_of_ble_eq_true rfl) (Nat.le_of_ble_eq_true rfl) dX1_hasTree_15
set_option maxHeartbeats 4000000 in
set_option maxRecDepth 100000 in
theorem kX1_whoDidIt (l : Launch) (D : va_G)   (n0 : Int) (n1 : Int) (hl_n0 : -2147483648 ≤ n0) (hh_n0 : n0 ≤ 2147483647) (hl_n1 : -2147483648 ≤ n1) (hh_n1 : n1 ≤ 2147483647) : gMet l yX1_whoDidIt wsX1_whoDidIt ({ frames := 0, cells := 0, slots := 0, locals := 0 } : Room) D [] (([] : va_W)) [.int (iI n0), .int (iI n1)] (fun _ => True) (fun _ => some (.int (iI (who n0 n1)))) (fun _ => True) (fun κ' => ([] : va_W)) := by
  refine g_start (cc := cX1_whoDidIt) (maxL := 2) (ret := (some .int)) (by decide) rfl (Nat.le_of_ble_eq_true rfl) ?_
  intro p e s m args below meth c A ls H locs S hr hlocks hname hP hK hD hA hS hE hl
  have S0 := S
  obtain ⟨hx, hb, hml, hown, hts⟩ := S0
  have hl : lv_has ls 2 [(0, .int (iI (n0))), (1, .int (iI (n1)))] := hl
  refine lv_iload_n hx hb dX1_whoDidIt_0 rfl (lv_at hl 0 rfl) ?_
  refine gi_if_eq (tgt := 8) hx hb dX1_whoDidIt_1 (by decide) ⟨by omega, by omega⟩ (fun c1 => ?_) (fun c1 => ?_)
  · skip
    refine lv_iconst (v := iI (0)) hx hb dX1_whoDidIt_8 rfl ?_
    refine lv_iload_n hx hb dX1_whoDidIt_9 rfl (lv_at hl 1 rfl) ?_
    refine gi_if_eq (tgt := 17) hx hb dX1_whoDidIt_10 (by decide) ⟨by omega, by omega⟩ (fun c10 => ?_) (fun c10 => ?_)
    · skip
      refine lv_iconst (v := iI (0)) hx hb dX1_whoDidIt_17 rfl ?_
      refine gi_add hx hb dX1_whoDidIt_18 ?_
      have er : ((who n0 n1 : Int)) = (0 + 0) := by unfold who; simp [*]
      exact g_iret (wo := (fun κ' => ([] : va_W))) (kr := (fun _ => True)) (rv := (fun _ => some (.int (iI (who n0 n1))))) hx hb hr hlocks (fun _ _ => 0) rfl hP hK hD hS trivial (by rw [er]) (Nat.le_of_ble_eq_true rfl) (Nat.le_of_ble_eq_true rfl) dX1_whoDidIt_19
    · skip
      refine lv_iconst (v := iI (2)) hx hb dX1_whoDidIt_13 rfl ?_
      refine lv_goto (tgt := 18) hx hb dX1_whoDidIt_14 (by decide) ?_
      refine gi_add hx hb dX1_whoDidIt_18 ?_
      have er : ((who n0 n1 : Int)) = (0 + 2) := by unfold who; simp [*]
      exact g_iret (wo := (fun κ' => ([] : va_W))) (kr := (fun _ => True)) (rv := (fun _ => some (.int (iI (who n0 n1))))) hx hb hr hlocks (fun _ _ => 0) rfl hP hK hD hS trivial (by rw [er]) (Nat.le_of_ble_eq_true rfl) (Nat.le_of_ble_eq_true rfl) dX1_whoDidIt_19
  · skip
    refine lv_iconst (v := iI (1)) hx hb dX1_whoDidIt_4 rfl ?_
    refine lv_goto (tgt := 9) hx hb dX1_whoDidIt_5 (by decide) ?_
    refine lv_iload_n hx hb dX1_whoDidIt_9 rfl (lv_at hl 1 rfl) ?_
    refine gi_if_eq (tgt := 17) hx hb dX1_whoDidIt_10 (by decide) ⟨by omega, by omega⟩ (fun c10 => ?_) (fun c10 => ?_)
    · skip
      refine lv_iconst (v := iI (0)) hx hb dX1_whoDidIt_17 rfl ?_
      refine gi_add hx hb dX1_whoDidIt_18 ?_
      have er : ((who n0 n1 : Int)) = (1 + 0) := by unfold who; simp [*]
      exact g_iret (wo := (fun κ' => ([] : va_W))) (kr := (fun _ => True)) (rv := (fun _ => some (.int (iI (who n0 n1))))) hx hb hr hlocks (fun _ _ => 0) rfl hP hK hD hS trivial (by rw [er]) (Nat.le_of_ble_eq_true rfl) (Nat.le_of_ble_eq_true rfl) dX1_whoDidIt_19
    · skip
      refine lv_iconst (v := iI (2)) hx hb dX1_whoDidIt_13 rfl ?_
      refine lv_goto (tgt := 18) hx hb dX1_whoDidIt_14 (by decide) ?_
      refine gi_add hx hb dX1_whoDidIt_18 ?_
      have er : ((who n0 n1 : Int)) = (1 + 2) := by unfold who; simp [*]
      exact g_iret (wo := (fun κ' => ([] : va_W))) (kr := (fun _ => True)) (rv := (fun _ => some (.int (iI (who n0 n1))))) hx hb hr hlocks (fun _ _ => 0) rfl hP hK hD hS trivial (by rw [er]) (Nat.le_of_ble_eq_true rfl) (Nat.le_of_ble_eq_true rfl) dX1_whoDidIt_19
set_option maxHeartbeats 4000000 in
set_option maxRecDepth 100000 in
theorem kX1_canPay (l : Launch) (D : va_G) (cI cZ : ClassId) (d : Nat → Nat) (σ κ : St)  (s0 : Int) (c0 : Int) (h0 : 0 ≤ s0) (h1 : s0 < 40) (hwf : xWF σ) (hl_c0 : -2147483648 ≤ c0) (hh_c0 : c0 ≤ 2147483647) : gMet l yX1_canPay wsX1_canPay ({ frames := 1, cells := 0, slots := 0, locals := 20 } : Room) D (tyXs cI cZ) (XW cI cZ d σ κ) [.ref (d 0), .int (iI s0), .int (iI c0)] xEx (fun _ => some (.int (iI (bI (c0 ≤ σ 8 (tw s0)))))) (fun κ' => κ' = κ) (fun κ' => XW cI cZ d σ κ') := by
  refine g_start (cc := cX1_canPay) (maxL := 3) (ret := (some .boolean)) (by decide) rfl (Nat.le_of_ble_eq_true rfl) ?_
  intro p e s m args below meth c A ls H locs S hr hlocks hname hP hK hD hA hS hE hl
  have S0 := S
  obtain ⟨hx, hb, hml, hown, hts⟩ := S0
  have hl : lv_has ls 3 [(0, .ref (d 0)), (1, .int (iI (s0))), (2, .int (iI (c0)))] := hl
  have hinX1 : ∀ w ∈ wsX10, w ∈ wsX1_canPay := by decide +kernel
  have k8 := xWF_8 hwf (tw s0)
  have kt := tw_in s0
  refine lv_aload_n hx hb dX1_canPay_0 rfl (lv_at hl 0 rfl) ?_
  refine va_get (D := D) (ci := 1) (v := .ref (d 9)) (C := RX1) (T := TX1) (N := 13) hx hb hts hinX1 hown hK hP 0 rfl rfl 8 (by decide) (hts (.fieldLink RX1 35 "TwinOrchard" "strength" "[I") (List.mem_of_getElem? (i := 1) rfl)) (fun _ h9 => h9) rfl dX1_canPay_1 ?_
  refine lv_iload_n hx hb dX1_canPay_4 rfl (lv_at hl 1 rfl) ?_
  have hPc : va_P D vwCl ([] ++ XW cI cZ d σ κ) H := hP
  have hDc : va_D A ([] ++ XW cI cZ d σ κ) := hD
  refine g_call (va_runS (As := [.int (iI (s0))]) (rest := [.ref (d 9)]) S ((kX1_twinOf l D  s0 (by first | assumption | omega) (by first | assumption | omega)) H.size) (va_cwS 1 hts gX1_canPay_X1_twinOf rfl rfl rfl (by decide +kernel) ⟨Nat.le_of_ble_eq_true rfl, Nat.le_of_ble_eq_true rfl⟩) (g_preS gEx_t hK [] rfl hPc hDc (fun _ _ _ => trivial)) rfl rfl hl.1 rfl (lv_room (Nat.le_of_ble_eq_true rfl)) dX1_canPay_5 ⟨Nat.le_of_ble_eq_true rfl, Nat.le_of_ble_eq_true rfl⟩) hPc hDc hS hA (fun κ9 H locs hk hP hD hS => ?_)
  have hP : va_P D vwCl (XW cI cZ d σ κ) H := hP
  have hD : va_D A (XW cI cZ d σ κ) := hD
  show W p l e ({ frames := 1, cells := 0, slots := 0, locals := 20 } : Room) s m args below meth c H locs 0 0 (MQ below (gQ D (tyXs cI cZ) (fun κ' => XW cI cZ d σ κ') A (fun _ => some (.int (iI (bI (c0 ≤ σ 8 (tw s0)))))) (fun κ' => κ' = κ)) args s 0 0 A) (F0 m 8 ls [.int (iI (tw s0)), .ref (d 9)])
  refine gi_iald (a := d 9) (n := 2) (f := σ 8) hx hb hK hP 9 0 rfl rfl (by omega) (by omega) (by decide) dX1_canPay_8 ?_
  refine lv_iload_n hx hb dX1_canPay_9 rfl (lv_at hl 2 rfl) ?_
  refine gi_icmp_lt (tgt := 17) hx hb dX1_canPay_10 (by decide) ⟨by omega, by omega⟩ ⟨by omega, by omega⟩ (fun c10 => ?_) (fun c10 => ?_)
  · skip
    refine lv_iconst (v := iI (0)) hx hb dX1_canPay_17 rfl ?_
    have er : ((bI (c0 ≤ σ 8 (tw s0)) : Int)) = (0) := by first | (rw [bI_t (by omega)]; done) | (rw [bI_f (by omega)]; done)
    exact g_iret (wo := (fun κ' => XW cI cZ d σ κ')) (kr := (fun κ' => κ' = κ)) (rv := (fun _ => some (.int (iI (bI (c0 ≤ σ 8 (tw s0))))))) hx hb hr hlocks κ (nar_z (Or.inl rfl)) hP hK hD hS rfl (by rw [er]) (Nat.le_of_ble_eq_true rfl) (Nat.le_of_ble_eq_true rfl) dX1_canPay_18
  · skip
    refine lv_iconst (v := iI (1)) hx hb dX1_canPay_13 rfl ?_
    refine lv_goto (tgt := 18) hx hb dX1_canPay_14 (by decide) ?_
    have er : ((bI (c0 ≤ σ 8 (tw s0)) : Int)) = (1) := by first | (rw [bI_t (by omega)]; done) | (rw [bI_f (by omega)]; done)
    exact g_iret (wo := (fun κ' => XW cI cZ d σ κ')) (kr := (fun κ' => κ' = κ)) (rv := (fun _ => some (.int (iI (bI (c0 ≤ σ 8 (tw s0))))))) hx hb hr hlocks κ (nar_z (Or.inr rfl)) hP hK hD hS rfl (by rw [er]) (Nat.le_of_ble_eq_true rfl) (Nat.le_of_ble_eq_true rfl) dX1_canPay_18
set_option maxHeartbeats 4000000 in
set_option maxRecDepth 100000 in
theorem kX1_pay (l : Launch) (D : va_G) (cI cZ : ClassId) (d : Nat → Nat) (σ κ : St)  (s0 : Int) (c0 : Int) (h0 : 0 ≤ s0) (h1 : s0 < 40) : gMet l yX1_pay wsX1_pay ({ frames := 1, cells := 0, slots := 0, locals := 20 } : Room) D (tyXs cI cZ) (XW cI cZ d σ κ) [.ref (d 0), .int (iI s0), .int (iI c0)] xEx (fun _ => none) (fun κ' => κ' = κ) (fun κ' => XW cI cZ d (su σ 8 (tw s0) (σ 8 (tw s0) - c0)) κ') := by
  refine g_start (cc := cX1_pay) (maxL := 3) (ret := none) (by decide) rfl (Nat.le_of_ble_eq_true rfl) ?_
  intro p e s m args below meth c A ls H locs S hr hlocks hname hP hK hD hA hS hE hl
  have S0 := S
  obtain ⟨hx, hb, hml, hown, hts⟩ := S0
  have hl : lv_has ls 3 [(0, .ref (d 0)), (1, .int (iI (s0))), (2, .int (iI (c0)))] := hl
  have hinX1 : ∀ w ∈ wsX10, w ∈ wsX1_pay := by decide +kernel
  have kt := tw_in s0
  refine lv_aload_n hx hb dX1_pay_0 rfl (lv_at hl 0 rfl) ?_
  refine va_get (D := D) (ci := 1) (v := .ref (d 9)) (C := RX1) (T := TX1) (N := 13) hx hb hts hinX1 hown hK hP 0 rfl rfl 8 (by decide) (hts (.fieldLink RX1 35 "TwinOrchard" "strength" "[I") (List.mem_of_getElem? (i := 1) rfl)) (fun _ h9 => h9) rfl dX1_pay_1 ?_
  refine lv_iload_n hx hb dX1_pay_4 rfl (lv_at hl 1 rfl) ?_
  have hPc : va_P D vwCl ([] ++ XW cI cZ d σ κ) H := hP
  have hDc : va_D A ([] ++ XW cI cZ d σ κ) := hD
  refine g_call (va_runS (As := [.int (iI (s0))]) (rest := [.ref (d 9)]) S ((kX1_twinOf l D  s0 (by first | assumption | omega) (by first | assumption | omega)) H.size) (va_cwS 1 hts gX1_pay_X1_twinOf rfl rfl rfl (by decide +kernel) ⟨Nat.le_of_ble_eq_true rfl, Nat.le_of_ble_eq_true rfl⟩) (g_preS gEx_t hK [] rfl hPc hDc (fun _ _ _ => trivial)) rfl rfl hl.1 rfl (lv_room (Nat.le_of_ble_eq_true rfl)) dX1_pay_5 ⟨Nat.le_of_ble_eq_true rfl, Nat.le_of_ble_eq_true rfl⟩) hPc hDc hS hA (fun κ9 H locs hk hP hD hS => ?_)
  have hP : va_P D vwCl (XW cI cZ d σ κ) H := hP
  have hD : va_D A (XW cI cZ d σ κ) := hD
  show W p l e ({ frames := 1, cells := 0, slots := 0, locals := 20 } : Room) s m args below meth c H locs 0 0 (MQ below (gQ D (tyXs cI cZ) (fun κ' => XW cI cZ d (su σ 8 (tw s0) (σ 8 (tw s0) - c0)) κ') A (fun _ => none) (fun κ' => κ' = κ)) args s 0 0 A) (F0 m 8 ls [.int (iI (tw s0)), .ref (d 9)])
  refine lv_dup2_11 hx hb dX1_pay_8 rfl rfl ?_
  refine gi_iald (a := d 9) (n := 2) (f := σ 8) hx hb hK hP 9 0 rfl rfl (by omega) (by omega) (by decide) dX1_pay_9 ?_
  refine lv_iload_n hx hb dX1_pay_10 rfl (lv_at hl 2 rfl) ?_
  refine gi_sub hx hb dX1_pay_11 ?_
  refine gi_iast (a := d 9) (n := 2) (f := σ 8) hx hb hK hP hD hS 9 0 rfl rfl (by omega) (by omega) (by decide) dX1_pay_12 (fun H locs hP hD hS => ?_)
  have hP : va_P D vwCl (XW cI cZ d (su σ 8 (tw s0) ((σ 8 (tw s0)) - c0)) κ) H := hP
  have hD : va_D A (XW cI cZ d (su σ 8 (tw s0) ((σ 8 (tw s0)) - c0)) κ) := hD
  have es : (su σ 8 (tw s0) (σ 8 (tw s0) - c0)) = (su σ 8 (tw s0) ((σ 8 (tw s0)) - c0)) := by first | rfl | (simp [*]; done)
  exact g_vret (wo := (fun κ' => XW cI cZ d (su σ 8 (tw s0) (σ 8 (tw s0) - c0)) κ')) (kr := (fun κ' => κ' = κ)) (rv := (fun _ => none)) hx hb hr hlocks κ (by rw [es]; exact hP) hK (by rw [es]; exact hD) hS rfl rfl (Nat.le_of_ble_eq_true rfl) (Nat.le_of_ble_eq_true rfl) dX1_pay_13
set_option maxHeartbeats 4000000 in
set_option maxRecDepth 100000 in
theorem kX1_treesOfSort (l : Launch) (D : va_G) (cI cZ : ClassId) (d : Nat → Nat) (σ κ : St)  (n0 : Int) (hl_n0 : -2147483648 ≤ n0) (hh_n0 : n0 ≤ 2147483647) (hwf : xWF σ) : gMet l yX1_treesOfSort wsX1_treesOfSort ({ frames := 0, cells := 0, slots := 0, locals := 0 } : Room) D (tyXs cI cZ) (XW cI cZ d σ κ) [.ref (d 0), .int (iI n0)] xEx (fun _ => some (.int (iI (isumI (fun j => bI (σ 4 j = n0)) 40)))) (fun κ' => κ' = κ) (fun κ' => XW cI cZ d σ κ') := by
  refine g_start (cc := cX1_treesOfSort) (maxL := 4) (ret := (some .int)) (by decide) rfl (Nat.le_of_ble_eq_true rfl) ?_
  intro p e s m args below meth c A ls H locs S hr hlocks hname hP hK hD hA hS hE hl
  have S0 := S
  obtain ⟨hx, hb, hml, hown, hts⟩ := S0
  have hl : lv_has ls 4 [(0, .ref (d 0)), (1, .int (iI (n0)))] := hl
  have hinX1 : ∀ w ∈ wsX10, w ∈ wsX1_treesOfSort := by decide +kernel
  refine lv_iconst (v := iI (0)) hx hb dX1_treesOfSort_0 rfl ?_
  refine lv_istore_n (lv' := [(2, .int (iI (0))), (0, .ref (d 0)), (1, .int (iI (n0)))]) hx hb dX1_treesOfSort_1 rfl hl (by decide) rfl (fun ls hl => ?_)
  refine lv_iconst (v := iI (0)) hx hb dX1_treesOfSort_2 rfl ?_
  refine lv_istore_n (lv' := [(3, .int (iI (0))), (2, .int (iI (0))), (0, .ref (d 0)), (1, .int (iI (n0)))]) hx hb dX1_treesOfSort_3 rfl hl (by decide) rfl (fun ls hl => ?_)
  have loop4 : ∀ (n4 : Nat) (i a : Int), (0 ≤ i) → (i ≤ 40) → (40 - i < (n4 : Int)) → (a = isumI (fun j => bI (σ 4 j = n0)) i) → ∀ (H : Heap) (locs : List Loc) (ls : Array Slot), va_P D vwCl (XW cI cZ d σ κ) H → va_D A (XW cI cZ d σ κ) → va_S A s.heap H locs → lv_has ls 4 [(3, .int (iI (i))), (2, .int (iI (a))), (0, .ref (d 0)), (1, .int (iI (n0)))] → W p l e ({ frames := 0, cells := 0, slots := 0, locals := 0 } : Room) s m args below meth c H locs 0 0 (MQ below (gQ D (tyXs cI cZ) (fun κ' => XW cI cZ d σ κ') A (fun _ => some (.int (iI (isumI (fun j => bI (σ 4 j = n0)) 40)))) (fun κ' => κ' = κ)) args s 0 0 A) (F0 m 4 ls []) := by
    intro n4
    induction n4 with
    | zero =>
      intro i a  hlo4 hhi4 hm4
      omega
    | succ n4 ih4 =>
      intro i a  hlo4 hhi4 hm4 ia4 H locs ls hP hD hS hl
      have k4 := xWF_4 hwf i
      refine lv_iload_n hx hb dX1_treesOfSort_4 rfl (lv_at hl 0 rfl) ?_
      refine lv_bipush (v := iI (40)) hx hb dX1_treesOfSort_5 rfl ?_
      refine gi_icmp_ge (tgt := 34) hx hb dX1_treesOfSort_7 (by decide) ⟨by omega, by omega⟩ ⟨by decide, by decide⟩ (fun c7 => ?_) (fun c7 => ?_)
      · skip
        refine lv_iload_n hx hb dX1_treesOfSort_34 rfl (lv_at hl 1 rfl) ?_
        have er : ((isumI (fun j => bI (σ 4 j = n0)) 40 : Int)) = (a) := by rw [ia4, show i = 40 by omega]
        exact g_iret (wo := (fun κ' => XW cI cZ d σ κ')) (kr := (fun κ' => κ' = κ)) (rv := (fun _ => some (.int (iI (isumI (fun j => bI (σ 4 j = n0)) 40))))) hx hb hr hlocks κ rfl hP hK hD hS rfl (by rw [er]) (Nat.le_of_ble_eq_true rfl) (Nat.le_of_ble_eq_true rfl) dX1_treesOfSort_35
      · skip
        refine lv_iload_n hx hb dX1_treesOfSort_10 rfl (lv_at hl 1 rfl) ?_
        refine lv_aload_n hx hb dX1_treesOfSort_11 rfl (lv_at hl 2 rfl) ?_
        refine va_get (D := D) (ci := 1) (v := .ref (d 5)) (C := RX1) (T := TX1) (N := 13) hx hb hts hinX1 hown hK hP 0 rfl rfl 4 (by decide) (hts (.fieldLink RX1 22 "TwinOrchard" "kinds" "[I") (List.mem_of_getElem? (i := 1) rfl)) (fun _ h9 => h9) rfl dX1_treesOfSort_12 ?_
        refine lv_iload_n hx hb dX1_treesOfSort_15 rfl (lv_at hl 0 rfl) ?_
        refine gi_iald (a := d 5) (n := 40) (f := σ 4) hx hb hK hP 5 0 rfl rfl (by omega) (by omega) (by decide) dX1_treesOfSort_16 ?_
        refine lv_iload_n hx hb dX1_treesOfSort_17 rfl (lv_at hl 3 rfl) ?_
        refine gi_icmp_ne (tgt := 25) hx hb dX1_treesOfSort_18 (by decide) ⟨by omega, by omega⟩ ⟨by omega, by omega⟩ (fun c18 => ?_) (fun c18 => ?_)
        · skip
          refine lv_iconst (v := iI (0)) hx hb dX1_treesOfSort_25 rfl ?_
          refine gi_add hx hb dX1_treesOfSort_26 ?_
          refine lv_istore_n (lv' := [(2, .int (iI (a + 0))), (3, .int (iI (i))), (0, .ref (d 0)), (1, .int (iI (n0)))]) hx hb dX1_treesOfSort_27 rfl hl (by decide) rfl (fun ls hl => ?_)
          refine lv_iinc (v := iI (i + 1)) (lv' := [(3, .int (iI (i + 1))), (2, .int (iI (a + 0))), (0, .ref (d 0)), (1, .int (iI (n0)))]) hx hb dX1_treesOfSort_28 hl (k := 1) rfl (iI_add _ _) (by decide) rfl (fun ls hl => ?_)
          refine lv_goto (tgt := 4) hx hb dX1_treesOfSort_31 (by decide) ?_
          exact ih4 (i + 1) (a + 0)  (by omega) (by omega) (by omega) (by rw [isumI_s _ hlo4, ia4]; first | rw [bI_t (by assumption)] | rw [bI_f (by assumption)]) H locs ls hP hD hS (lv_sub hl [0, 1, 2, 3] rfl)
        · skip
          refine lv_iconst (v := iI (1)) hx hb dX1_treesOfSort_21 rfl ?_
          refine lv_goto (tgt := 26) hx hb dX1_treesOfSort_22 (by decide) ?_
          refine gi_add hx hb dX1_treesOfSort_26 ?_
          refine lv_istore_n (lv' := [(2, .int (iI (a + 1))), (3, .int (iI (i))), (0, .ref (d 0)), (1, .int (iI (n0)))]) hx hb dX1_treesOfSort_27 rfl hl (by decide) rfl (fun ls hl => ?_)
          refine lv_iinc (v := iI (i + 1)) (lv' := [(3, .int (iI (i + 1))), (2, .int (iI (a + 1))), (0, .ref (d 0)), (1, .int (iI (n0)))]) hx hb dX1_treesOfSort_28 hl (k := 1) rfl (iI_add _ _) (by decide) rfl (fun ls hl => ?_)
          refine lv_goto (tgt := 4) hx hb dX1_treesOfSort_31 (by decide) ?_
          exact ih4 (i + 1) (a + 1)  (by omega) (by omega) (by omega) (by rw [isumI_s _ hlo4, ia4]; first | rw [bI_t (by assumption)] | rw [bI_f (by assumption)]) H locs ls hP hD hS (lv_sub hl [0, 1, 2, 3] rfl)
  exact loop4 (((40 - (0) + 1 : Int)).toNat) 0 0  (by omega) (by omega) (by omega) (by rw [isumI_0]) H locs ls hP hD hS (lv_sub hl [0, 1, 2, 3] rfl)
