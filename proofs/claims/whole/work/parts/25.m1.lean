set_option maxHeartbeats 4000000 in
set_option maxRecDepth 100000 in
theorem kX2_isIn (l : Launch) (D : va_G)   (n0 : Int) (lo : Int) (hi : Int) (hl_n0 : -2147483648 ≤ n0) (hh_n0 : n0 ≤ 2147483647) (hl_lo : -2147483648 ≤ lo) (hh_lo : lo ≤ 2147483647) (hl_hi : -2147483648 ≤ hi) (hh_hi : hi ≤ 2147483647) : gMet l yX2_isIn wsX2_isIn ({ frames := 0, cells := 0, slots := 0, locals := 0 } : Room) D [] (([] : va_W)) [.int (iI n0), .int (iI lo), .int (iI hi)] (fun _ => True) (fun _ => some (.int (iI (bI (lo ≤ n0 ∧ n0 ≤ hi))))) (fun _ => True) (fun κ' => ([] : va_W)) := by
  refine g_start (cc := cX2_isIn) (maxL := 3) (ret := (some .boolean)) (by decide) rfl (Nat.le_of_ble_eq_true rfl) ?_
  intro p e s m args below meth c A ls H locs S hr hlocks hname hP hK hD hA hS hE hl
  have S0 := S
  obtain ⟨hx, hb, hml, hown, hts⟩ := S0
  have hl : lv_has ls 3 [(0, .int (iI (n0))), (1, .int (iI (lo))), (2, .int (iI (hi)))] := hl
  refine lv_iload_n hx hb dX2_isIn_0 rfl (lv_at hl 0 rfl) ?_
  refine lv_iload_n hx hb dX2_isIn_1 rfl (lv_at hl 1 rfl) ?_
  refine gi_icmp_lt (tgt := 14) hx hb dX2_isIn_2 (by decide) ⟨by omega, by omega⟩ ⟨by omega, by omega⟩ (fun c2 => ?_) (fun c2 => ?_)
  · skip
    refine lv_iconst (v := iI (0)) hx hb dX2_isIn_14 rfl ?_
    have er : ((bI (lo ≤ n0 ∧ n0 ≤ hi) : Int)) = (0) := by first | (rw [bI_t (by omega)]; done) | (rw [bI_f (by omega)]; done)
    exact g_iret (wo := (fun κ' => ([] : va_W))) (kr := (fun _ => True)) (rv := (fun _ => some (.int (iI (bI (lo ≤ n0 ∧ n0 ≤ hi)))))) hx hb hr hlocks (fun _ _ => 0) (nar_z (Or.inl rfl)) hP hK hD hS trivial (by rw [er]) (Nat.le_of_ble_eq_true rfl) (Nat.le_of_ble_eq_true rfl) dX2_isIn_15
  · skip
    refine lv_iload_n hx hb dX2_isIn_5 rfl (lv_at hl 0 rfl) ?_
    refine lv_iload_n hx hb dX2_isIn_6 rfl (lv_at hl 2 rfl) ?_
    refine gi_icmp_gt (tgt := 14) hx hb dX2_isIn_7 (by decide) ⟨by omega, by omega⟩ ⟨by omega, by omega⟩ (fun c7 => ?_) (fun c7 => ?_)
    · skip
      refine lv_iconst (v := iI (0)) hx hb dX2_isIn_14 rfl ?_
      have er : ((bI (lo ≤ n0 ∧ n0 ≤ hi) : Int)) = (0) := by first | (rw [bI_t (by omega)]; done) | (rw [bI_f (by omega)]; done)
      exact g_iret (wo := (fun κ' => ([] : va_W))) (kr := (fun _ => True)) (rv := (fun _ => some (.int (iI (bI (lo ≤ n0 ∧ n0 ≤ hi)))))) hx hb hr hlocks (fun _ _ => 0) (nar_z (Or.inl rfl)) hP hK hD hS trivial (by rw [er]) (Nat.le_of_ble_eq_true rfl) (Nat.le_of_ble_eq_true rfl) dX2_isIn_15
    · skip
      refine lv_iconst (v := iI (1)) hx hb dX2_isIn_10 rfl ?_
      refine lv_goto (tgt := 15) hx hb dX2_isIn_11 (by decide) ?_
      have er : ((bI (lo ≤ n0 ∧ n0 ≤ hi) : Int)) = (1) := by first | (rw [bI_t (by omega)]; done) | (rw [bI_f (by omega)]; done)
      exact g_iret (wo := (fun κ' => ([] : va_W))) (kr := (fun _ => True)) (rv := (fun _ => some (.int (iI (bI (lo ≤ n0 ∧ n0 ≤ hi)))))) hx hb hr hlocks (fun _ _ => 0) (nar_z (Or.inr rfl)) hP hK hD hS trivial (by rw [er]) (Nat.le_of_ble_eq_true rfl) (Nat.le_of_ble_eq_true rfl) dX2_isIn_15
set_option maxHeartbeats 4000000 in
set_option maxRecDepth 100000 in
theorem kX2_isSpot (l : Launch) (D : va_G)   (r0 : Int) (p0 : Int) (hl_r0 : -2147483648 ≤ r0) (hh_r0 : r0 ≤ 2147483647) (hl_p0 : -2147483648 ≤ p0) (hh_p0 : p0 ≤ 2147483647) : gMet l yX2_isSpot wsX2_isSpot ({ frames := 1, cells := 0, slots := 0, locals := 22 } : Room) D [] (([] : va_W)) [.int (iI r0), .int (iI p0)] (fun _ => True) (fun _ => some (.int (iI (bI ((0 ≤ r0 ∧ r0 ≤ 4) ∧ 0 ≤ p0 ∧ p0 ≤ 7))))) (fun _ => True) (fun κ' => ([] : va_W)) := by
  refine g_start (cc := cX2_isSpot) (maxL := 2) (ret := (some .boolean)) (by decide) rfl (Nat.le_of_ble_eq_true rfl) ?_
  intro p e s m args below meth c A ls H locs S hr hlocks hname hP hK hD hA hS hE hl
  have S0 := S
  obtain ⟨hx, hb, hml, hown, hts⟩ := S0
  have hl : lv_has ls 2 [(0, .int (iI (r0))), (1, .int (iI (p0)))] := hl
  refine lv_iload_n hx hb dX2_isSpot_0 rfl (lv_at hl 0 rfl) ?_
  refine lv_iconst (v := iI (0)) hx hb dX2_isSpot_1 rfl ?_
  refine lv_iconst (v := iI (4)) hx hb dX2_isSpot_2 rfl ?_
  have hPc : va_P D vwCl ([] ++ (([] : va_W))) H := hP
  have hDc : va_D A ([] ++ (([] : va_W))) := hD
  refine g_call (va_runS (As := [.int (iI (r0)), .int (iI (0)), .int (iI (4))]) (rest := []) S ((kX2_isIn l D  r0 0 4 (by first | assumption | omega) (by first | assumption | omega) (by first | assumption | omega) (by first | assumption | omega) (by first | assumption | omega) (by first | assumption | omega)) H.size) (va_cwS 3 hts gX2_isSpot_X2_isIn rfl rfl rfl (by decide +kernel) ⟨Nat.le_of_ble_eq_true rfl, Nat.le_of_ble_eq_true rfl⟩) (g_preS gEx_t hK [] rfl hPc hDc (fun _ _ _ => trivial)) rfl rfl hl.1 rfl (lv_room (Nat.le_of_ble_eq_true rfl)) dX2_isSpot_3 ⟨Nat.le_of_ble_eq_true rfl, Nat.le_of_ble_eq_true rfl⟩) hPc hDc hS hA (fun κ9 H locs hk hP hD hS => ?_)
  have hP : va_P D vwCl (([] : va_W)) H := hP
  have hD : va_D A (([] : va_W)) := hD
  show W p l e ({ frames := 1, cells := 0, slots := 0, locals := 22 } : Room) s m args below meth c H locs 0 0 (MQ below (gQ D [] (fun κ' => ([] : va_W)) A (fun _ => some (.int (iI (bI ((0 ≤ r0 ∧ r0 ≤ 4) ∧ 0 ≤ p0 ∧ p0 ≤ 7))))) (fun _ => True)) args s 0 0 A) (F0 m 6 ls [.int (iI (bI (0 ≤ r0 ∧ r0 ≤ 4)))])
  refine gb_if_eq (tgt := 23) hx hb dX2_isSpot_6 (by decide)  (fun c6 => ?_) (fun c6 => ?_)
  · skip
    refine lv_iconst (v := iI (0)) hx hb dX2_isSpot_23 rfl ?_
    have er : ((bI ((0 ≤ r0 ∧ r0 ≤ 4) ∧ 0 ≤ p0 ∧ p0 ≤ 7) : Int)) = (0) := by first | (rw [bI_t (by omega)]; done) | (rw [bI_f (by omega)]; done)
    exact g_iret (wo := (fun κ' => ([] : va_W))) (kr := (fun _ => True)) (rv := (fun _ => some (.int (iI (bI ((0 ≤ r0 ∧ r0 ≤ 4) ∧ 0 ≤ p0 ∧ p0 ≤ 7)))))) hx hb hr hlocks (fun _ _ => 0) (nar_z (Or.inl rfl)) hP hK hD hS trivial (by rw [er]) (Nat.le_of_ble_eq_true rfl) (Nat.le_of_ble_eq_true rfl) dX2_isSpot_24
  · skip
    refine lv_iload_n hx hb dX2_isSpot_9 rfl (lv_at hl 1 rfl) ?_
    refine lv_iconst (v := iI (0)) hx hb dX2_isSpot_10 rfl ?_
    refine lv_bipush (v := iI (7)) hx hb dX2_isSpot_11 rfl ?_
    have hPc : va_P D vwCl ([] ++ (([] : va_W))) H := hP
    have hDc : va_D A ([] ++ (([] : va_W))) := hD
    refine g_call (va_runS (As := [.int (iI (p0)), .int (iI (0)), .int (iI (7))]) (rest := []) S ((kX2_isIn l D  p0 0 7 (by first | assumption | omega) (by first | assumption | omega) (by first | assumption | omega) (by first | assumption | omega) (by first | assumption | omega) (by first | assumption | omega)) H.size) (va_cwS 3 hts gX2_isSpot_X2_isIn rfl rfl rfl (by decide +kernel) ⟨Nat.le_of_ble_eq_true rfl, Nat.le_of_ble_eq_true rfl⟩) (g_preS gEx_t hK [] rfl hPc hDc (fun _ _ _ => trivial)) rfl rfl hl.1 rfl (lv_room (Nat.le_of_ble_eq_true rfl)) dX2_isSpot_13 ⟨Nat.le_of_ble_eq_true rfl, Nat.le_of_ble_eq_true rfl⟩) hPc hDc hS hA (fun κ9 H locs hk hP hD hS => ?_)
    have hP : va_P D vwCl (([] : va_W)) H := hP
    have hD : va_D A (([] : va_W)) := hD
    show W p l e ({ frames := 1, cells := 0, slots := 0, locals := 22 } : Room) s m args below meth c H locs 0 0 (MQ below (gQ D [] (fun κ' => ([] : va_W)) A (fun _ => some (.int (iI (bI ((0 ≤ r0 ∧ r0 ≤ 4) ∧ 0 ≤ p0 ∧ p0 ≤ 7))))) (fun _ => True)) args s 0 0 A) (F0 m 16 ls [.int (iI (bI (0 ≤ p0 ∧ p0 ≤ 7)))])
    refine gb_if_eq (tgt := 23) hx hb dX2_isSpot_16 (by decide)  (fun c16 => ?_) (fun c16 => ?_)
    · skip
      refine lv_iconst (v := iI (0)) hx hb dX2_isSpot_23 rfl ?_
      have er : ((bI ((0 ≤ r0 ∧ r0 ≤ 4) ∧ 0 ≤ p0 ∧ p0 ≤ 7) : Int)) = (0) := by first | (rw [bI_t (by omega)]; done) | (rw [bI_f (by omega)]; done)
      exact g_iret (wo := (fun κ' => ([] : va_W))) (kr := (fun _ => True)) (rv := (fun _ => some (.int (iI (bI ((0 ≤ r0 ∧ r0 ≤ 4) ∧ 0 ≤ p0 ∧ p0 ≤ 7)))))) hx hb hr hlocks (fun _ _ => 0) (nar_z (Or.inl rfl)) hP hK hD hS trivial (by rw [er]) (Nat.le_of_ble_eq_true rfl) (Nat.le_of_ble_eq_true rfl) dX2_isSpot_24
    · skip
      refine lv_iconst (v := iI (1)) hx hb dX2_isSpot_19 rfl ?_
      refine lv_goto (tgt := 24) hx hb dX2_isSpot_20 (by decide) ?_
      have er : ((bI ((0 ≤ r0 ∧ r0 ≤ 4) ∧ 0 ≤ p0 ∧ p0 ≤ 7) : Int)) = (1) := by first | (rw [bI_t (by omega)]; done) | (rw [bI_f (by omega)]; done)
      exact g_iret (wo := (fun κ' => ([] : va_W))) (kr := (fun _ => True)) (rv := (fun _ => some (.int (iI (bI ((0 ≤ r0 ∧ r0 ≤ 4) ∧ 0 ≤ p0 ∧ p0 ≤ 7)))))) hx hb hr hlocks (fun _ _ => 0) (nar_z (Or.inr rfl)) hP hK hD hS trivial (by rw [er]) (Nat.le_of_ble_eq_true rfl) (Nat.le_of_ble_eq_true rfl) dX2_isSpot_24
set_option maxHeartbeats 4000000 in
set_option maxRecDepth 100000 in
theorem kX2_isSort (l : Launch) (D : va_G)   (n0 : Int) (hl_n0 : -2147483648 ≤ n0) (hh_n0 : n0 ≤ 2147483647) : gMet l yX2_isSort wsX2_isSort ({ frames := 1, cells := 0, slots := 0, locals := 22 } : Room) D [] (([] : va_W)) [.int (iI n0)] (fun _ => True) (fun _ => some (.int (iI (bI (0 ≤ n0 ∧ n0 ≤ 5))))) (fun _ => True) (fun κ' => ([] : va_W)) := by
  refine g_start (cc := cX2_isSort) (maxL := 1) (ret := (some .boolean)) (by decide) rfl (Nat.le_of_ble_eq_true rfl) ?_
  intro p e s m args below meth c A ls H locs S hr hlocks hname hP hK hD hA hS hE hl
  have S0 := S
  obtain ⟨hx, hb, hml, hown, hts⟩ := S0
  have hl : lv_has ls 1 [(0, .int (iI (n0)))] := hl
  refine lv_iload_n hx hb dX2_isSort_0 rfl (lv_at hl 0 rfl) ?_
  refine lv_iconst (v := iI (0)) hx hb dX2_isSort_1 rfl ?_
  refine lv_iconst (v := iI (5)) hx hb dX2_isSort_2 rfl ?_
  have hPc : va_P D vwCl ([] ++ (([] : va_W))) H := hP
  have hDc : va_D A ([] ++ (([] : va_W))) := hD
  refine g_call (va_runS (As := [.int (iI (n0)), .int (iI (0)), .int (iI (5))]) (rest := []) S ((kX2_isIn l D  n0 0 5 (by first | assumption | omega) (by first | assumption | omega) (by first | assumption | omega) (by first | assumption | omega) (by first | assumption | omega) (by first | assumption | omega)) H.size) (va_cwS 3 hts gX2_isSort_X2_isIn rfl rfl rfl (by decide +kernel) ⟨Nat.le_of_ble_eq_true rfl, Nat.le_of_ble_eq_true rfl⟩) (g_preS gEx_t hK [] rfl hPc hDc (fun _ _ _ => trivial)) rfl rfl hl.1 rfl (lv_room (Nat.le_of_ble_eq_true rfl)) dX2_isSort_3 ⟨Nat.le_of_ble_eq_true rfl, Nat.le_of_ble_eq_true rfl⟩) hPc hDc hS hA (fun κ9 H locs hk hP hD hS => ?_)
  have hP : va_P D vwCl (([] : va_W)) H := hP
  have hD : va_D A (([] : va_W)) := hD
  show W p l e ({ frames := 1, cells := 0, slots := 0, locals := 22 } : Room) s m args below meth c H locs 0 0 (MQ below (gQ D [] (fun κ' => ([] : va_W)) A (fun _ => some (.int (iI (bI (0 ≤ n0 ∧ n0 ≤ 5))))) (fun _ => True)) args s 0 0 A) (F0 m 6 ls [.int (iI (bI (0 ≤ n0 ∧ n0 ≤ 5)))])
  exact g_iret (wo := (fun κ' => ([] : va_W))) (kr := (fun _ => True)) (rv := (fun _ => some (.int (iI (bI (0 ≤ n0 ∧ n0 ≤ 5)))))) hx hb hr hlocks (fun _ _ => 0) (nar_z (bI01 _)) hP hK hD hS trivial rfl (Nat.le_of_ble_eq_true rfl) (Nat.le_of_ble_eq_true rfl) dX2_isSort_6
set_option maxHeartbeats 4000000 in
set_option maxRecDepth 100000 in
theorem kX2_thrown (l : Launch) (D : va_G) (cI cZ cQ : ClassId) (d : Nat → Nat) (σ : St)    : gMet l yX2_thrown wsX2_thrown ({ frames := 0, cells := 0, slots := 0, locals := 0 } : Room) D (tyMs cI cZ cQ) (MW cI d σ) [.ref (d 0)] (fun _ => True) (fun _ => some (.int (iI (σ 6 0)))) (fun _ => True) (fun κ' => MW cI d σ) := by
  refine g_start (cc := cX2_thrown) (maxL := 1) (ret := (some .int)) (by decide) rfl (Nat.le_of_ble_eq_true rfl) ?_
  intro p e s m args below meth c A ls H locs S hr hlocks hname hP hK hD hA hS hE hl
  have S0 := S
  obtain ⟨hx, hb, hml, hown, hts⟩ := S0
  have hl : lv_has ls 1 [(0, .ref (d 0))] := hl
  have hinX2 : ∀ w ∈ wsX20, w ∈ wsX2_thrown := by decide +kernel
  refine lv_aload_n hx hb dX2_thrown_0 rfl (lv_at hl 0 rfl) ?_
  refine va_get (D := D) (ci := 2) (v := .int (iI (σ 6 0))) (C := RX2) (T := TX2) (N := 8) hx hb hts hinX2 hown hK hP 0 rfl rfl 0 (by decide) (hts (.fieldLink RX2 28 "TwinOrchardModel" "thrown" "I") (List.mem_of_getElem? (i := 1) rfl)) (fun _ h9 => h9) rfl dX2_thrown_1 ?_
  exact g_iret (wo := (fun κ' => MW cI d σ)) (kr := (fun _ => True)) (rv := (fun _ => some (.int (iI (σ 6 0))))) hx hb hr hlocks (fun _ _ => 0) rfl hP hK hD hS trivial rfl (Nat.le_of_ble_eq_true rfl) (Nat.le_of_ble_eq_true rfl) dX2_thrown_4
set_option maxHeartbeats 4000000 in
set_option maxRecDepth 100000 in
theorem kX2_fail (l : Launch) (D : va_G) (cI cZ cQ : ClassId) (d : Nat → Nat) (σ : St)  (n0 : Int)  : gMet l yX2_fail wsX2_fail ({ frames := 0, cells := 0, slots := 0, locals := 0 } : Room) D (tyMs cI cZ cQ) (MW cI d σ) [.ref (d 0), .int (iI n0)] (fun _ => True) (fun _ => some (.int (iI (0)))) (fun _ => True) (fun κ' => MW cI d (su σ 6 0 n0)) := by
  refine g_start (cc := cX2_fail) (maxL := 2) (ret := (some .int)) (by decide) rfl (Nat.le_of_ble_eq_true rfl) ?_
  intro p e s m args below meth c A ls H locs S hr hlocks hname hP hK hD hA hS hE hl
  have S0 := S
  obtain ⟨hx, hb, hml, hown, hts⟩ := S0
  have hl : lv_has ls 2 [(0, .ref (d 0)), (1, .int (iI (n0)))] := hl
  have hinX2 : ∀ w ∈ wsX20, w ∈ wsX2_fail := by decide +kernel
  refine lv_aload_n hx hb dX2_fail_0 rfl (lv_at hl 0 rfl) ?_
  refine lv_iload_n hx hb dX2_fail_1 rfl (lv_at hl 1 rfl) ?_
  refine va_put (D := D) (ci := 2) (v := .int (iI (n0))) (ty := .int) (C := RX2) (T := TX2) (N := 8) hx hb hts hinX2 tyX2 tyX2_ok nmX2 hown hK hP hD hS 0 rfl rfl 0 (by decide) (hts (.fieldLink RX2 28 "TwinOrchardModel" "thrown" "I") (List.mem_of_getElem? (i := 1) rfl)) (fun _ h9 => h9) rfl (by decide +kernel) rfl rfl (Nat.le_of_ble_eq_true rfl) dX2_fail_2 (fun H locs hP hD hS => ?_)
  have hP : va_P D vwCl (MW cI d (su σ 6 0 (n0))) H := hP
  have hD : va_D A (MW cI d (su σ 6 0 (n0))) := hD
  refine lv_iconst (v := iI (0)) hx hb dX2_fail_5 rfl ?_
  have es : (su σ 6 0 n0) = (su σ 6 0 (n0)) := by rfl
  exact g_iret (wo := (fun κ' => MW cI d (su σ 6 0 n0))) (kr := (fun _ => True)) (rv := (fun _ => some (.int (iI (0))))) hx hb hr hlocks (fun _ _ => 0) rfl (by rw [es]; exact hP) hK (by rw [es]; exact hD) hS trivial rfl (Nat.le_of_ble_eq_true rfl) (Nat.le_of_ble_eq_true rfl) dX2_fail_6
set_option maxHeartbeats 4000000 in
set_option maxRecDepth 100000 in
theorem kX2_tr (l : Launch) (D : va_G) (cI cZ cQ : ClassId) (d : Nat → Nat) (σ : St)  (k0 : Int) (w0 : Int) (h0 : 0 ≤ k0) (h1 : k0 < 40) (h2 : 0 ≤ w0) (h3 : w0 < 5) : gMet l yX2_tr wsX2_tr ({ frames := 0, cells := 0, slots := 0, locals := 0 } : Room) D (tyMs cI cZ cQ) (MW cI d σ) [.ref (d 0), .int (iI k0), .int (iI w0)] (fun _ => True) (fun _ => some (.int (iI (σ 3 (5 * k0 + w0))))) (fun _ => True) (fun κ' => MW cI d σ) := by
  refine g_start (cc := cX2_tr) (maxL := 3) (ret := (some .int)) (by decide) rfl (Nat.le_of_ble_eq_true rfl) ?_
  intro p e s m args below meth c A ls H locs S hr hlocks hname hP hK hD hA hS hE hl
  have S0 := S
  obtain ⟨hx, hb, hml, hown, hts⟩ := S0
  have hl : lv_has ls 3 [(0, .ref (d 0)), (1, .int (iI (k0))), (2, .int (iI (w0)))] := hl
  have hinX2 : ∀ w ∈ wsX20, w ∈ wsX2_tr := by decide +kernel
  refine lv_aload_n hx hb dX2_tr_0 rfl (lv_at hl 0 rfl) ?_
  refine va_get (D := D) (ci := 2) (v := .ref (d 4)) (C := RX2) (T := TX2) (N := 8) hx hb hts hinX2 hown hK hP 0 rfl rfl 4 (by decide) (hts (.fieldLink RX2 19 "TwinOrchardModel" "trees" "[I") (List.mem_of_getElem? (i := 1) rfl)) (fun _ h9 => h9) rfl dX2_tr_1 ?_
  refine lv_iconst (v := iI (5)) hx hb dX2_tr_4 rfl ?_
  refine lv_iload_n hx hb dX2_tr_5 rfl (lv_at hl 1 rfl) ?_
  refine gi_mul hx hb dX2_tr_6 ?_
  refine lv_iload_n hx hb dX2_tr_7 rfl (lv_at hl 2 rfl) ?_
  refine gi_add hx hb dX2_tr_8 ?_
  refine gi_iald (a := d 4) (n := 200) (f := σ 3) hx hb hK hP 4 0 rfl rfl (by omega) (by omega) (by decide) dX2_tr_9 ?_
  have er : ((σ 3 (5 * k0 + w0) : Int)) = (σ 3 ((5 * k0) + w0)) := by first | rfl | omega | (simp [bI, *]; done)
  exact g_iret (wo := (fun κ' => MW cI d σ)) (kr := (fun _ => True)) (rv := (fun _ => some (.int (iI (σ 3 (5 * k0 + w0)))))) hx hb hr hlocks (fun _ _ => 0) rfl hP hK hD hS trivial (by rw [er]) (Nat.le_of_ble_eq_true rfl) (Nat.le_of_ble_eq_true rfl) dX2_tr_10
set_option maxHeartbeats 4000000 in
set_option maxRecDepth 100000 in
theorem kX2_set (l : Launch) (D : va_G) (cI cZ cQ : ClassId) (d : Nat → Nat) (σ : St)  (k0 : Int) (w0 : Int) (v0 : Int) (h0 : 0 ≤ k0) (h1 : k0 < 40) (h2 : 0 ≤ w0) (h3 : w0 < 5) : gMet l yX2_set wsX2_set ({ frames := 0, cells := 0, slots := 0, locals := 0 } : Room) D (tyMs cI cZ cQ) (MW cI d σ) [.ref (d 0), .int (iI k0), .int (iI w0), .int (iI v0)] (fun _ => True) (fun _ => none) (fun _ => True) (fun κ' => MW cI d (su σ 3 (5 * k0 + w0) v0)) := by
  refine g_start (cc := cX2_set) (maxL := 4) (ret := none) (by decide) rfl (Nat.le_of_ble_eq_true rfl) ?_
  intro p e s m args below meth c A ls H locs S hr hlocks hname hP hK hD hA hS hE hl
  have S0 := S
  obtain ⟨hx, hb, hml, hown, hts⟩ := S0
  have hl : lv_has ls 4 [(0, .ref (d 0)), (1, .int (iI (k0))), (2, .int (iI (w0))), (3, .int (iI (v0)))] := hl
  have hinX2 : ∀ w ∈ wsX20, w ∈ wsX2_set := by decide +kernel
  refine lv_aload_n hx hb dX2_set_0 rfl (lv_at hl 0 rfl) ?_
  refine va_get (D := D) (ci := 2) (v := .ref (d 4)) (C := RX2) (T := TX2) (N := 8) hx hb hts hinX2 hown hK hP 0 rfl rfl 4 (by decide) (hts (.fieldLink RX2 19 "TwinOrchardModel" "trees" "[I") (List.mem_of_getElem? (i := 1) rfl)) (fun _ h9 => h9) rfl dX2_set_1 ?_
  refine lv_iconst (v := iI (5)) hx hb dX2_set_4 rfl ?_
  refine lv_iload_n hx hb dX2_set_5 rfl (lv_at hl 1 rfl) ?_
  refine gi_mul hx hb dX2_set_6 ?_
  refine lv_iload_n hx hb dX2_set_7 rfl (lv_at hl 2 rfl) ?_
  refine gi_add hx hb dX2_set_8 ?_
  refine lv_iload_n hx hb dX2_set_9 rfl (lv_at hl 3 rfl) ?_
  refine gi_iast (a := d 4) (n := 200) (f := σ 3) hx hb hK hP hD hS 4 0 rfl rfl (by omega) (by omega) (by decide) dX2_set_10 (fun H locs hP hD hS => ?_)
  have hP : va_P D vwCl (MW cI d (su σ 3 ((5 * k0) + w0) (v0))) H := hP
  have hD : va_D A (MW cI d (su σ 3 ((5 * k0) + w0) (v0))) := hD
  have es : (su σ 3 (5 * k0 + w0) v0) = (su σ 3 ((5 * k0) + w0) (v0)) := by rfl
  exact g_vret (wo := (fun κ' => MW cI d (su σ 3 (5 * k0 + w0) v0))) (kr := (fun _ => True)) (rv := (fun _ => none)) hx hb hr hlocks (fun _ _ => 0) (by rw [es]; exact hP) hK (by rw [es]; exact hD) hS trivial rfl (Nat.le_of_ble_eq_true rfl) (Nat.le_of_ble_eq_true rfl) dX2_set_11
set_option maxHeartbeats 4000000 in
set_option maxRecDepth 100000 in
theorem kX2_setSort (l : Launch) (D : va_G) (cI cZ cQ : ClassId) (d : Nat → Nat) (σ : St)  (a0 : Int) (w0 : Int) (b0 : Int) (hl_a0 : -2147483648 ≤ a0) (hh_a0 : a0 ≤ 2147483647) (hl_w0 : -2147483648 ≤ w0) (hh_w0 : w0 ≤ 2147483647) (hl_b0 : -2147483648 ≤ b0) (hh_b0 : b0 ≤ 2147483647) : gMet l yX2_setSort wsX2_setSort ({ frames := 2, cells := 0, slots := 0, locals := 42 } : Room) D (tyMs cI cZ cQ) (MW cI d σ) [.ref (d 0), .int (iI a0), .int (iI w0), .int (iI b0)] (fun _ => True) (fun _ => some (.int (iI (mVal (tSetSort a0 w0 b0) (10 * σ 0 a0 + σ 1 a0))))) (fun _ => True) (fun κ' => MW cI d (mRes (tSetSort a0 w0 b0) (su (su (mZ σ) 0 a0 w0) 1 a0 b0) σ)) := by
  refine g_start (cc := cX2_setSort) (maxL := 5) (ret := (some .int)) (by decide) rfl (Nat.le_of_ble_eq_true rfl) ?_
  intro p e s m args below meth c A ls H locs S hr hlocks hname hP hK hD hA hS hE hl
  have S0 := S
  obtain ⟨hx, hb, hml, hown, hts⟩ := S0
  have hl : lv_has ls 5 [(0, .ref (d 0)), (1, .int (iI (a0))), (2, .int (iI (w0))), (3, .int (iI (b0)))] := hl
  have hinX2 : ∀ w ∈ wsX20, w ∈ wsX2_setSort := by decide +kernel
  refine lv_aload_n hx hb dX2_setSort_0 rfl (lv_at hl 0 rfl) ?_
  refine lv_iconst (v := iI (0)) hx hb dX2_setSort_1 rfl ?_
  refine va_put (D := D) (ci := 2) (v := .int (iI (0))) (ty := .int) (C := RX2) (T := TX2) (N := 8) hx hb hts hinX2 tyX2 tyX2_ok nmX2 hown hK hP hD hS 0 rfl rfl 0 (by decide) (hts (.fieldLink RX2 28 "TwinOrchardModel" "thrown" "I") (List.mem_of_getElem? (i := 1) rfl)) (fun _ h9 => h9) rfl (by decide +kernel) rfl rfl (Nat.le_of_ble_eq_true rfl) dX2_setSort_2 (fun H locs hP hD hS => ?_)
  have hP : va_P D vwCl (MW cI d (su σ 6 0 (0))) H := hP
  have hD : va_D A (MW cI d (su σ 6 0 (0))) := hD
  refine lv_iload_n hx hb dX2_setSort_5 rfl (lv_at hl 1 rfl) ?_
  have hPc : va_P D vwCl ([] ++ (MW cI d (su σ 6 0 (0)))) H := hP
  have hDc : va_D A ([] ++ (MW cI d (su σ 6 0 (0)))) := hD
  refine g_call (va_runS (As := [.int (iI (a0))]) (rest := []) S ((kX2_isSort l D  a0 (by first | assumption | omega) (by first | assumption | omega)) H.size) (va_cwS 1 hts gX2_setSort_X2_isSort rfl rfl rfl (by decide +kernel) ⟨Nat.le_of_ble_eq_true rfl, Nat.le_of_ble_eq_true rfl⟩) (g_preS gEx_t hK [] rfl hPc hDc (fun _ _ _ => trivial)) rfl rfl hl.1 rfl (lv_room (Nat.le_of_ble_eq_true rfl)) dX2_setSort_6 ⟨Nat.le_of_ble_eq_true rfl, Nat.le_of_ble_eq_true rfl⟩) hPc hDc hS hA (fun κ9 H locs hk hP hD hS => ?_)
  have hP : va_P D vwCl (MW cI d (su σ 6 0 (0))) H := hP
  have hD : va_D A (MW cI d (su σ 6 0 (0))) := hD
  show W p l e ({ frames := 2, cells := 0, slots := 0, locals := 42 } : Room) s m args below meth c H locs 0 0 (MQ below (gQ D (tyMs cI cZ cQ) (fun κ' => MW cI d (mRes (tSetSort a0 w0 b0) (su (su (mZ σ) 0 a0 w0) 1 a0 b0) σ)) A (fun _ => some (.int (iI (mVal (tSetSort a0 w0 b0) (10 * σ 0 a0 + σ 1 a0))))) (fun _ => True)) args s 0 0 A) (F0 m 9 ls [.int (iI (bI (0 ≤ a0 ∧ a0 ≤ 5)))])
  refine gb_if_ne (tgt := 18) hx hb dX2_setSort_9 (by decide)  (fun c9 => ?_) (fun c9 => ?_)
  · skip
    refine lv_iload_n hx hb dX2_setSort_18 rfl (lv_at hl 2 rfl) ?_
    refine lv_iconst (v := iI (1)) hx hb dX2_setSort_19 rfl ?_
    refine lv_bipush (v := iI (9)) hx hb dX2_setSort_20 rfl ?_
    have hPc : va_P D vwCl ([] ++ (MW cI d (su σ 6 0 (0)))) H := hP
    have hDc : va_D A ([] ++ (MW cI d (su σ 6 0 (0)))) := hD
    refine g_call (va_runS (As := [.int (iI (w0)), .int (iI (1)), .int (iI (9))]) (rest := []) S ((kX2_isIn l D  w0 1 9 (by first | assumption | omega) (by first | assumption | omega) (by first | assumption | omega) (by first | assumption | omega) (by first | assumption | omega) (by first | assumption | omega)) H.size) (va_cwS 3 hts gX2_setSort_X2_isIn rfl rfl rfl (by decide +kernel) ⟨Nat.le_of_ble_eq_true rfl, Nat.le_of_ble_eq_true rfl⟩) (g_preS gEx_t hK [] rfl hPc hDc (fun _ _ _ => trivial)) rfl rfl hl.1 rfl (lv_room (Nat.le_of_ble_eq_true rfl)) dX2_setSort_22 ⟨Nat.le_of_ble_eq_true rfl, Nat.le_of_ble_eq_true rfl⟩) hPc hDc hS hA (fun κ9 H locs hk hP hD hS => ?_)
    have hP : va_P D vwCl (MW cI d (su σ 6 0 (0))) H := hP
    have hD : va_D A (MW cI d (su σ 6 0 (0))) := hD
    show W p l e ({ frames := 2, cells := 0, slots := 0, locals := 42 } : Room) s m args below meth c H locs 0 0 (MQ below (gQ D (tyMs cI cZ cQ) (fun κ' => MW cI d (mRes (tSetSort a0 w0 b0) (su (su (mZ σ) 0 a0 w0) 1 a0 b0) σ)) A (fun _ => some (.int (iI (mVal (tSetSort a0 w0 b0) (10 * σ 0 a0 + σ 1 a0))))) (fun _ => True)) args s 0 0 A) (F0 m 25 ls [.int (iI (bI (1 ≤ w0 ∧ w0 ≤ 9)))])
    refine gb_if_eq (tgt := 38) hx hb dX2_setSort_25 (by decide)  (fun c25 => ?_) (fun c25 => ?_)
    · skip
      refine lv_aload_n hx hb dX2_setSort_38 rfl (lv_at hl 0 rfl) ?_
      refine lv_iconst (v := iI (2)) hx hb dX2_setSort_39 rfl ?_
      have hPc : va_P D vwCl (MW cI d (su σ 6 0 (0)) ++ []) H := by rw [List.append_nil]; exact hP
      have hDc : va_D A (MW cI d (su σ 6 0 (0)) ++ []) := by rw [List.append_nil]; exact hD
      refine g_call (va_runV (As := [.int (iI (2))]) (rest := []) S ((kX2_fail l D cI cZ cQ d (su σ 6 0 (0)) 2 ) H.size) (cwV 1 hts gX2_setSort_X2_fail rfl rfl rfl (by decide +kernel) ⟨Nat.le_of_ble_eq_true rfl, Nat.le_of_ble_eq_true rfl⟩) (g_preV gEx_t hK [0, 1, 2] rfl hPc hDc (fun _ _ _ => trivial) (q0 := 0) (ci := 2) rfl rfl rfl) rfl rfl hl.1 rfl (lv_room (Nat.le_of_ble_eq_true rfl)) dX2_setSort_40 ⟨Nat.le_of_ble_eq_true rfl, Nat.le_of_ble_eq_true rfl⟩) hPc hDc hS hA (fun κ9 H locs hk hP hD hS => ?_)
      have hP : va_P D vwCl (MW cI d (su (su σ 6 0 (0)) 6 0 2)) H := by have h9 : va_P D vwCl (MW cI d (su (su σ 6 0 (0)) 6 0 2) ++ []) H := hP; rw [List.append_nil] at h9; exact h9
      have hD : va_D A (MW cI d (su (su σ 6 0 (0)) 6 0 2)) := by have h9 : va_D A (MW cI d (su (su σ 6 0 (0)) 6 0 2) ++ []) := hD; rw [List.append_nil] at h9; exact h9
      show W p l e ({ frames := 2, cells := 0, slots := 0, locals := 42 } : Room) s m args below meth c H locs 0 0 (MQ below (gQ D (tyMs cI cZ cQ) (fun κ' => MW cI d (mRes (tSetSort a0 w0 b0) (su (su (mZ σ) 0 a0 w0) 1 a0 b0) σ)) A (fun _ => some (.int (iI (mVal (tSetSort a0 w0 b0) (10 * σ 0 a0 + σ 1 a0))))) (fun _ => True)) args s 0 0 A) (F0 m 43 ls [.int (iI (0))])
      have es : (mRes (tSetSort a0 w0 b0) (su (su (mZ σ) 0 a0 w0) 1 a0 b0) σ) = (su (su σ 6 0 (0)) 6 0 2) := by first | (rw [show tSetSort a0 w0 b0 = 1 from by unfold tSetSort; rw [if_pos (by omega)]]; rfl) | (rw [show tSetSort a0 w0 b0 = 2 from by unfold tSetSort; rw [if_neg (by omega), if_pos (by omega)]]; rfl) | (rw [show tSetSort a0 w0 b0 = 0 from by unfold tSetSort; rw [if_neg (by omega), if_neg (by omega)]]; rfl)
      have er : ((mVal (tSetSort a0 w0 b0) (10 * σ 0 a0 + σ 1 a0) : Int)) = (0) := by first | (rw [show tSetSort a0 w0 b0 = 1 from by unfold tSetSort; rw [if_pos (by omega)]]; rfl) | (rw [show tSetSort a0 w0 b0 = 2 from by unfold tSetSort; rw [if_neg (by omega), if_pos (by omega)]]; rfl) | (rw [show tSetSort a0 w0 b0 = 0 from by unfold tSetSort; rw [if_neg (by omega), if_neg (by omega)]]; rfl)
      exact g_iret (wo := (fun κ' => MW cI d (mRes (tSetSort a0 w0 b0) (su (su (mZ σ) 0 a0 w0) 1 a0 b0) σ))) (kr := (fun _ => True)) (rv := (fun _ => some (.int (iI (mVal (tSetSort a0 w0 b0) (10 * σ 0 a0 + σ 1 a0)))))) hx hb hr hlocks (fun _ _ => 0) rfl (by rw [es]; exact hP) hK (by rw [es]; exact hD) hS trivial (by rw [er]) (Nat.le_of_ble_eq_true rfl) (Nat.le_of_ble_eq_true rfl) dX2_setSort_43
    · skip
      refine lv_iload_n hx hb dX2_setSort_28 rfl (lv_at hl 3 rfl) ?_
      refine lv_iconst (v := iI (0)) hx hb dX2_setSort_29 rfl ?_
      refine lv_bipush (v := iI (9)) hx hb dX2_setSort_30 rfl ?_
      have hPc : va_P D vwCl ([] ++ (MW cI d (su σ 6 0 (0)))) H := hP
      have hDc : va_D A ([] ++ (MW cI d (su σ 6 0 (0)))) := hD
      refine g_call (va_runS (As := [.int (iI (b0)), .int (iI (0)), .int (iI (9))]) (rest := []) S ((kX2_isIn l D  b0 0 9 (by first | assumption | omega) (by first | assumption | omega) (by first | assumption | omega) (by first | assumption | omega) (by first | assumption | omega) (by first | assumption | omega)) H.size) (va_cwS 3 hts gX2_setSort_X2_isIn rfl rfl rfl (by decide +kernel) ⟨Nat.le_of_ble_eq_true rfl, Nat.le_of_ble_eq_true rfl⟩) (g_preS gEx_t hK [] rfl hPc hDc (fun _ _ _ => trivial)) rfl rfl hl.1 rfl (lv_room (Nat.le_of_ble_eq_true rfl)) dX2_setSort_32 ⟨Nat.le_of_ble_eq_true rfl, Nat.le_of_ble_eq_true rfl⟩) hPc hDc hS hA (fun κ9 H locs hk hP hD hS => ?_)
      have hP : va_P D vwCl (MW cI d (su σ 6 0 (0))) H := hP
      have hD : va_D A (MW cI d (su σ 6 0 (0))) := hD
      show W p l e ({ frames := 2, cells := 0, slots := 0, locals := 42 } : Room) s m args below meth c H locs 0 0 (MQ below (gQ D (tyMs cI cZ cQ) (fun κ' => MW cI d (mRes (tSetSort a0 w0 b0) (su (su (mZ σ) 0 a0 w0) 1 a0 b0) σ)) A (fun _ => some (.int (iI (mVal (tSetSort a0 w0 b0) (10 * σ 0 a0 + σ 1 a0))))) (fun _ => True)) args s 0 0 A) (F0 m 35 ls [.int (iI (bI (0 ≤ b0 ∧ b0 ≤ 9)))])
      refine gb_if_ne (tgt := 44) hx hb dX2_setSort_35 (by decide)  (fun c35 => ?_) (fun c35 => ?_)
      · skip
        refine lv_bipush (v := iI (10)) hx hb dX2_setSort_44 rfl ?_
        refine lv_aload_n hx hb dX2_setSort_46 rfl (lv_at hl 0 rfl) ?_
        refine va_get (D := D) (ci := 2) (v := .ref (d 1)) (C := RX2) (T := TX2) (N := 8) hx hb hts hinX2 hown hK hP 0 rfl rfl 1 (by decide) (hts (.fieldLink RX2 9 "TwinOrchardModel" "weights" "[I") (List.mem_of_getElem? (i := 2) rfl)) (fun _ h9 => h9) rfl dX2_setSort_47 ?_
        refine lv_iload_n hx hb dX2_setSort_50 rfl (lv_at hl 1 rfl) ?_
        refine gi_iald (a := d 1) (n := 6) (f := (su σ 6 0 (0)) 0) hx hb hK hP 1 0 rfl rfl (by omega) (by omega) (by decide) dX2_setSort_51 ?_
        rw [show ((su σ 6 0 (0)) 0 a0) = (σ 0 a0) from by rfl]
        refine gi_mul hx hb dX2_setSort_52 ?_
        refine lv_aload_n hx hb dX2_setSort_53 rfl (lv_at hl 0 rfl) ?_
        refine va_get (D := D) (ci := 2) (v := .ref (d 2)) (C := RX2) (T := TX2) (N := 8) hx hb hts hinX2 hown hK hP 0 rfl rfl 2 (by decide) (hts (.fieldLink RX2 13 "TwinOrchardModel" "bears" "[I") (List.mem_of_getElem? (i := 3) rfl)) (fun _ h9 => h9) rfl dX2_setSort_54 ?_
        refine lv_iload_n hx hb dX2_setSort_57 rfl (lv_at hl 1 rfl) ?_
        refine gi_iald (a := d 2) (n := 6) (f := (su σ 6 0 (0)) 1) hx hb hK hP 2 0 rfl rfl (by omega) (by omega) (by decide) dX2_setSort_58 ?_
        rw [show ((su σ 6 0 (0)) 1 a0) = (σ 1 a0) from by rfl]
        refine gi_add hx hb dX2_setSort_59 ?_
        refine lv_istore (lv' := [(4, .int (iI ((10 * (σ 0 a0)) + (σ 1 a0)))), (0, .ref (d 0)), (1, .int (iI (a0))), (2, .int (iI (w0))), (3, .int (iI (b0)))]) hx hb dX2_setSort_60 hl (by decide) rfl (fun ls hl => ?_)
        refine lv_aload_n hx hb dX2_setSort_62 rfl (lv_at hl 1 rfl) ?_
        refine va_get (D := D) (ci := 2) (v := .ref (d 1)) (C := RX2) (T := TX2) (N := 8) hx hb hts hinX2 hown hK hP 0 rfl rfl 1 (by decide) (hts (.fieldLink RX2 9 "TwinOrchardModel" "weights" "[I") (List.mem_of_getElem? (i := 2) rfl)) (fun _ h9 => h9) rfl dX2_setSort_63 ?_
        refine lv_iload_n hx hb dX2_setSort_66 rfl (lv_at hl 2 rfl) ?_
        refine lv_iload_n hx hb dX2_setSort_67 rfl (lv_at hl 3 rfl) ?_
        refine gi_iast (a := d 1) (n := 6) (f := (su σ 6 0 (0)) 0) hx hb hK hP hD hS 1 0 rfl rfl (by omega) (by omega) (by decide) dX2_setSort_68 (fun H locs hP hD hS => ?_)
        have hP : va_P D vwCl (MW cI d (su (su σ 6 0 (0)) 0 a0 (w0))) H := hP
        have hD : va_D A (MW cI d (su (su σ 6 0 (0)) 0 a0 (w0))) := hD
        refine lv_aload_n hx hb dX2_setSort_69 rfl (lv_at hl 1 rfl) ?_
        refine va_get (D := D) (ci := 2) (v := .ref (d 2)) (C := RX2) (T := TX2) (N := 8) hx hb hts hinX2 hown hK hP 0 rfl rfl 2 (by decide) (hts (.fieldLink RX2 13 "TwinOrchardModel" "bears" "[I") (List.mem_of_getElem? (i := 3) rfl)) (fun _ h9 => h9) rfl dX2_setSort_70 ?_
        refine lv_iload_n hx hb dX2_setSort_73 rfl (lv_at hl 2 rfl) ?_
        refine lv_iload_n hx hb dX2_setSort_74 rfl (lv_at hl 4 rfl) ?_
        refine gi_iast (a := d 2) (n := 6) (f := (su (su σ 6 0 (0)) 0 a0 (w0)) 1) hx hb hK hP hD hS 2 0 rfl rfl (by omega) (by omega) (by decide) dX2_setSort_75 (fun H locs hP hD hS => ?_)
        have hP : va_P D vwCl (MW cI d (su (su (su σ 6 0 (0)) 0 a0 (w0)) 1 a0 (b0))) H := hP
        have hD : va_D A (MW cI d (su (su (su σ 6 0 (0)) 0 a0 (w0)) 1 a0 (b0))) := hD
        refine lv_iload hx hb dX2_setSort_76 (lv_at hl 0 rfl) ?_
        have es : (mRes (tSetSort a0 w0 b0) (su (su (mZ σ) 0 a0 w0) 1 a0 b0) σ) = (su (su (su σ 6 0 (0)) 0 a0 (w0)) 1 a0 (b0)) := by first | (rw [show tSetSort a0 w0 b0 = 1 from by unfold tSetSort; rw [if_pos (by omega)]]; rfl) | (rw [show tSetSort a0 w0 b0 = 2 from by unfold tSetSort; rw [if_neg (by omega), if_pos (by omega)]]; rfl) | (rw [show tSetSort a0 w0 b0 = 0 from by unfold tSetSort; rw [if_neg (by omega), if_neg (by omega)]]; rfl)
        have er : ((mVal (tSetSort a0 w0 b0) (10 * σ 0 a0 + σ 1 a0) : Int)) = ((10 * (σ 0 a0)) + (σ 1 a0)) := by first | (rw [show tSetSort a0 w0 b0 = 1 from by unfold tSetSort; rw [if_pos (by omega)]]; rfl) | (rw [show tSetSort a0 w0 b0 = 2 from by unfold tSetSort; rw [if_neg (by omega), if_pos (by omega)]]; rfl) | (rw [show tSetSort a0 w0 b0 = 0 from by unfold tSetSort; rw [if_neg (by omega), if_neg (by omega)]]; rfl)
        exact g_iret (wo := (fun κ' => MW cI d (mRes (tSetSort a0 w0 b0) (su (su (mZ σ) 0 a0 w0) 1 a0 b0) σ))) (kr := (fun _ => True)) (rv := (fun _ => some (.int (iI (mVal (tSetSort a0 w0 b0) (10 * σ 0 a0 + σ 1 a0)))))) hx hb hr hlocks (fun _ _ => 0) rfl (by rw [es]; exact hP) hK (by rw [es]; exact hD) hS trivial (by rw [er]) (Nat.le_of_ble_eq_true rfl) (Nat.le_of_ble_eq_true rfl) dX2_setSort_78
      · skip
        refine lv_aload_n hx hb dX2_setSort_38 rfl (lv_at hl 0 rfl) ?_
        refine lv_iconst (v := iI (2)) hx hb dX2_setSort_39 rfl ?_
        have hPc : va_P D vwCl (MW cI d (su σ 6 0 (0)) ++ []) H := by rw [List.append_nil]; exact hP
        have hDc : va_D A (MW cI d (su σ 6 0 (0)) ++ []) := by rw [List.append_nil]; exact hD
        refine g_call (va_runV (As := [.int (iI (2))]) (rest := []) S ((kX2_fail l D cI cZ cQ d (su σ 6 0 (0)) 2 ) H.size) (cwV 1 hts gX2_setSort_X2_fail rfl rfl rfl (by decide +kernel) ⟨Nat.le_of_ble_eq_true rfl, Nat.le_of_ble_eq_true rfl⟩) (g_preV gEx_t hK [0, 1, 2] rfl hPc hDc (fun _ _ _ => trivial) (q0 := 0) (ci := 2) rfl rfl rfl) rfl rfl hl.1 rfl (lv_room (Nat.le_of_ble_eq_true rfl)) dX2_setSort_40 ⟨Nat.le_of_ble_eq_true rfl, Nat.le_of_ble_eq_true rfl⟩) hPc hDc hS hA (fun κ9 H locs hk hP hD hS => ?_)
        have hP : va_P D vwCl (MW cI d (su (su σ 6 0 (0)) 6 0 2)) H := by have h9 : va_P D vwCl (MW cI d (su (su σ 6 0 (0)) 6 0 2) ++ []) H := hP; rw [List.append_nil] at h9; exact h9
        have hD : va_D A (MW cI d (su (su σ 6 0 (0)) 6 0 2)) := by have h9 : va_D A (MW cI d (su (su σ 6 0 (0)) 6 0 2) ++ []) := hD; rw [List.append_nil] at h9; exact h9
        show W p l e ({ frames := 2, cells := 0, slots := 0, locals := 42 } : Room) s m args below meth c H locs 0 0 (MQ below (gQ D (tyMs cI cZ cQ) (fun κ' => MW cI d (mRes (tSetSort a0 w0 b0) (su (su (mZ σ) 0 a0 w0) 1 a0 b0) σ)) A (fun _ => some (.int (iI (mVal (tSetSort a0 w0 b0) (10 * σ 0 a0 + σ 1 a0))))) (fun _ => True)) args s 0 0 A) (F0 m 43 ls [.int (iI (0))])
        have es : (mRes (tSetSort a0 w0 b0) (su (su (mZ σ) 0 a0 w0) 1 a0 b0) σ) = (su (su σ 6 0 (0)) 6 0 2) := by first | (rw [show tSetSort a0 w0 b0 = 1 from by unfold tSetSort; rw [if_pos (by omega)]]; rfl) | (rw [show tSetSort a0 w0 b0 = 2 from by unfold tSetSort; rw [if_neg (by omega), if_pos (by omega)]]; rfl) | (rw [show tSetSort a0 w0 b0 = 0 from by unfold tSetSort; rw [if_neg (by omega), if_neg (by omega)]]; rfl)
        have er : ((mVal (tSetSort a0 w0 b0) (10 * σ 0 a0 + σ 1 a0) : Int)) = (0) := by first | (rw [show tSetSort a0 w0 b0 = 1 from by unfold tSetSort; rw [if_pos (by omega)]]; rfl) | (rw [show tSetSort a0 w0 b0 = 2 from by unfold tSetSort; rw [if_neg (by omega), if_pos (by omega)]]; rfl) | (rw [show tSetSort a0 w0 b0 = 0 from by unfold tSetSort; rw [if_neg (by omega), if_neg (by omega)]]; rfl)
        exact g_iret (wo := (fun κ' => MW cI d (mRes (tSetSort a0 w0 b0) (su (su (mZ σ) 0 a0 w0) 1 a0 b0) σ))) (kr := (fun _ => True)) (rv := (fun _ => some (.int (iI (mVal (tSetSort a0 w0 b0) (10 * σ 0 a0 + σ 1 a0)))))) hx hb hr hlocks (fun _ _ => 0) rfl (by rw [es]; exact hP) hK (by rw [es]; exact hD) hS trivial (by rw [er]) (Nat.le_of_ble_eq_true rfl) (Nat.le_of_ble_eq_true rfl) dX2_setSort_43
  · skip
    refine lv_aload_n hx hb dX2_setSort_12 rfl (lv_at hl 0 rfl) ?_
    refine lv_iconst (v := iI (1)) hx hb dX2_setSort_13 rfl ?_
    have hPc : va_P D vwCl (MW cI d (su σ 6 0 (0)) ++ []) H := by rw [List.append_nil]; exact hP
    have hDc : va_D A (MW cI d (su σ 6 0 (0)) ++ []) := by rw [List.append_nil]; exact hD
    refine g_call (va_runV (As := [.int (iI (1))]) (rest := []) S ((kX2_fail l D cI cZ cQ d (su σ 6 0 (0)) 1 ) H.size) (cwV 1 hts gX2_setSort_X2_fail rfl rfl rfl (by decide +kernel) ⟨Nat.le_of_ble_eq_true rfl, Nat.le_of_ble_eq_true rfl⟩) (g_preV gEx_t hK [0, 1, 2] rfl hPc hDc (fun _ _ _ => trivial) (q0 := 0) (ci := 2) rfl rfl rfl) rfl rfl hl.1 rfl (lv_room (Nat.le_of_ble_eq_true rfl)) dX2_setSort_14 ⟨Nat.le_of_ble_eq_true rfl, Nat.le_of_ble_eq_true rfl⟩) hPc hDc hS hA (fun κ9 H locs hk hP hD hS => ?_)
    have hP : va_P D vwCl (MW cI d (su (su σ 6 0 (0)) 6 0 1)) H := by have h9 : va_P D vwCl (MW cI d (su (su σ 6 0 (0)) 6 0 1) ++ []) H := hP; rw [List.append_nil] at h9; exact h9
    have hD : va_D A (MW cI d (su (su σ 6 0 (0)) 6 0 1)) := by have h9 : va_D A (MW cI d (su (su σ 6 0 (0)) 6 0 1) ++ []) := hD; rw [List.append_nil] at h9; exact h9
    show W p l e ({ frames := 2, cells := 0, slots := 0, locals := 42 } : Room) s m args below meth c H locs 0 0 (MQ below (gQ D (tyMs cI cZ cQ) (fun κ' => MW cI d (mRes (tSetSort a0 w0 b0) (su (su (mZ σ) 0 a0 w0) 1 a0 b0) σ)) A (fun _ => some (.int (iI (mVal (tSetSort a0 w0 b0) (10 * σ 0 a0 + σ 1 a0))))) (fun _ => True)) args s 0 0 A) (F0 m 17 ls [.int (iI (0))])
    have es : (mRes (tSetSort a0 w0 b0) (su (su (mZ σ) 0 a0 w0) 1 a0 b0) σ) = (su (su σ 6 0 (0)) 6 0 1) := by first | (rw [show tSetSort a0 w0 b0 = 1 from by unfold tSetSort; rw [if_pos (by omega)]]; rfl) | (rw [show tSetSort a0 w0 b0 = 2 from by unfold tSetSort; rw [if_neg (by omega), if_pos (by omega)]]; rfl) | (rw [show tSetSort a0 w0 b0 = 0 from by unfold tSetSort; rw [if_neg (by omega), if_neg (by omega)]]; rfl)
    have er : ((mVal (tSetSort a0 w0 b0) (10 * σ 0 a0 + σ 1 a0) : Int)) = (0) := by first | (rw [show tSetSort a0 w0 b0 = 1 from by unfold tSetSort; rw [if_pos (by omega)]]; rfl) | (rw [show tSetSort a0 w0 b0 = 2 from by unfold tSetSort; rw [if_neg (by omega), if_pos (by omega)]]; rfl) | (rw [show tSetSort a0 w0 b0 = 0 from by unfold tSetSort; rw [if_neg (by omega), if_neg (by omega)]]; rfl)
    exact g_iret (wo := (fun κ' => MW cI d (mRes (tSetSort a0 w0 b0) (su (su (mZ σ) 0 a0 w0) 1 a0 b0) σ))) (kr := (fun _ => True)) (rv := (fun _ => some (.int (iI (mVal (tSetSort a0 w0 b0) (10 * σ 0 a0 + σ 1 a0)))))) hx hb hr hlocks (fun _ _ => 0) rfl (by rw [es]; exact hP) hK (by rw [es]; exact hD) hS trivial (by rw [er]) (Nat.le_of_ble_eq_true rfl) (Nat.le_of_ble_eq_true rfl) dX2_setSort_17
set_option maxHeartbeats 4000000 in
set_option maxRecDepth 100000 in
theorem kX2_setFrost (l : Launch) (D : va_G) (cI cZ cQ : ClassId) (d : Nat → Nat) (σ : St)  (a0 : Int) (b0 : Int) (hl_a0 : -2147483648 ≤ a0) (hh_a0 : a0 ≤ 2147483647) (hl_b0 : -2147483648 ≤ b0) (hh_b0 : b0 ≤ 2147483647) : gMet l yX2_setFrost wsX2_setFrost ({ frames := 1, cells := 0, slots := 0, locals := 22 } : Room) D (tyMs cI cZ cQ) (MW cI d σ) [.ref (d 0), .int (iI a0), .int (iI b0)] (fun _ => True) (fun _ => some (.int (iI (mVal (tSetFrost a0 b0) (σ 2 a0))))) (fun _ => True) (fun κ' => MW cI d (mRes (tSetFrost a0 b0) (su (mZ σ) 2 a0 b0) σ)) := by
  refine g_start (cc := cX2_setFrost) (maxL := 4) (ret := (some .int)) (by decide) rfl (Nat.le_of_ble_eq_true rfl) ?_
  intro p e s m args below meth c A ls H locs S hr hlocks hname hP hK hD hA hS hE hl
  have S0 := S
  obtain ⟨hx, hb, hml, hown, hts⟩ := S0
  have hl : lv_has ls 4 [(0, .ref (d 0)), (1, .int (iI (a0))), (2, .int (iI (b0)))] := hl
  have hinX2 : ∀ w ∈ wsX20, w ∈ wsX2_setFrost := by decide +kernel
  refine lv_aload_n hx hb dX2_setFrost_0 rfl (lv_at hl 0 rfl) ?_
  refine lv_iconst (v := iI (0)) hx hb dX2_setFrost_1 rfl ?_
  refine va_put (D := D) (ci := 2) (v := .int (iI (0))) (ty := .int) (C := RX2) (T := TX2) (N := 8) hx hb hts hinX2 tyX2 tyX2_ok nmX2 hown hK hP hD hS 0 rfl rfl 0 (by decide) (hts (.fieldLink RX2 28 "TwinOrchardModel" "thrown" "I") (List.mem_of_getElem? (i := 1) rfl)) (fun _ h9 => h9) rfl (by decide +kernel) rfl rfl (Nat.le_of_ble_eq_true rfl) dX2_setFrost_2 (fun H locs hP hD hS => ?_)
  have hP : va_P D vwCl (MW cI d (su σ 6 0 (0))) H := hP
  have hD : va_D A (MW cI d (su σ 6 0 (0))) := hD
  refine lv_iload_n hx hb dX2_setFrost_5 rfl (lv_at hl 1 rfl) ?_
  refine lv_iconst (v := iI (0)) hx hb dX2_setFrost_6 rfl ?_
  refine lv_bipush (v := iI (9)) hx hb dX2_setFrost_7 rfl ?_
  have hPc : va_P D vwCl ([] ++ (MW cI d (su σ 6 0 (0)))) H := hP
  have hDc : va_D A ([] ++ (MW cI d (su σ 6 0 (0)))) := hD
  refine g_call (va_runS (As := [.int (iI (a0)), .int (iI (0)), .int (iI (9))]) (rest := []) S ((kX2_isIn l D  a0 0 9 (by first | assumption | omega) (by first | assumption | omega) (by first | assumption | omega) (by first | assumption | omega) (by first | assumption | omega) (by first | assumption | omega)) H.size) (va_cwS 3 hts gX2_setFrost_X2_isIn rfl rfl rfl (by decide +kernel) ⟨Nat.le_of_ble_eq_true rfl, Nat.le_of_ble_eq_true rfl⟩) (g_preS gEx_t hK [] rfl hPc hDc (fun _ _ _ => trivial)) rfl rfl hl.1 rfl (lv_room (Nat.le_of_ble_eq_true rfl)) dX2_setFrost_9 ⟨Nat.le_of_ble_eq_true rfl, Nat.le_of_ble_eq_true rfl⟩) hPc hDc hS hA (fun κ9 H locs hk hP hD hS => ?_)
  have hP : va_P D vwCl (MW cI d (su σ 6 0 (0))) H := hP
  have hD : va_D A (MW cI d (su σ 6 0 (0))) := hD
  show W p l e ({ frames := 1, cells := 0, slots := 0, locals := 22 } : Room) s m args below meth c H locs 0 0 (MQ below (gQ D (tyMs cI cZ cQ) (fun κ' => MW cI d (mRes (tSetFrost a0 b0) (su (mZ σ) 2 a0 b0) σ)) A (fun _ => some (.int (iI (mVal (tSetFrost a0 b0) (σ 2 a0))))) (fun _ => True)) args s 0 0 A) (F0 m 12 ls [.int (iI (bI (0 ≤ a0 ∧ a0 ≤ 9)))])
  refine gb_if_ne (tgt := 21) hx hb dX2_setFrost_12 (by decide)  (fun c12 => ?_) (fun c12 => ?_)
  · skip
    refine lv_iload_n hx hb dX2_setFrost_21 rfl (lv_at hl 2 rfl) ?_
    refine lv_iconst (v := iI (0)) hx hb dX2_setFrost_22 rfl ?_
    refine lv_bipush (v := iI (9)) hx hb dX2_setFrost_23 rfl ?_
    have hPc : va_P D vwCl ([] ++ (MW cI d (su σ 6 0 (0)))) H := hP
    have hDc : va_D A ([] ++ (MW cI d (su σ 6 0 (0)))) := hD
    refine g_call (va_runS (As := [.int (iI (b0)), .int (iI (0)), .int (iI (9))]) (rest := []) S ((kX2_isIn l D  b0 0 9 (by first | assumption | omega) (by first | assumption | omega) (by first | assumption | omega) (by first | assumption | omega) (by first | assumption | omega) (by first | assumption | omega)) H.size) (va_cwS 3 hts gX2_setFrost_X2_isIn rfl rfl rfl (by decide +kernel) ⟨Nat.le_of_ble_eq_true rfl, Nat.le_of_ble_eq_true rfl⟩) (g_preS gEx_t hK [] rfl hPc hDc (fun _ _ _ => trivial)) rfl rfl hl.1 rfl (lv_room (Nat.le_of_ble_eq_true rfl)) dX2_setFrost_25 ⟨Nat.le_of_ble_eq_true rfl, Nat.le_of_ble_eq_true rfl⟩) hPc hDc hS hA (fun κ9 H locs hk hP hD hS => ?_)
    have hP : va_P D vwCl (MW cI d (su σ 6 0 (0))) H := hP
    have hD : va_D A (MW cI d (su σ 6 0 (0))) := hD
    show W p l e ({ frames := 1, cells := 0, slots := 0, locals := 22 } : Room) s m args below meth c H locs 0 0 (MQ below (gQ D (tyMs cI cZ cQ) (fun κ' => MW cI d (mRes (tSetFrost a0 b0) (su (mZ σ) 2 a0 b0) σ)) A (fun _ => some (.int (iI (mVal (tSetFrost a0 b0) (σ 2 a0))))) (fun _ => True)) args s 0 0 A) (F0 m 28 ls [.int (iI (bI (0 ≤ b0 ∧ b0 ≤ 9)))])
    refine gb_if_ne (tgt := 37) hx hb dX2_setFrost_28 (by decide)  (fun c28 => ?_) (fun c28 => ?_)
    · skip
      refine lv_aload_n hx hb dX2_setFrost_37 rfl (lv_at hl 0 rfl) ?_
      refine va_get (D := D) (ci := 2) (v := .ref (d 3)) (C := RX2) (T := TX2) (N := 8) hx hb hts hinX2 hown hK hP 0 rfl rfl 3 (by decide) (hts (.fieldLink RX2 16 "TwinOrchardModel" "frosts" "[I") (List.mem_of_getElem? (i := 2) rfl)) (fun _ h9 => h9) rfl dX2_setFrost_38 ?_
      refine lv_iload_n hx hb dX2_setFrost_41 rfl (lv_at hl 1 rfl) ?_
      refine gi_iald (a := d 3) (n := 10) (f := (su σ 6 0 (0)) 2) hx hb hK hP 3 0 rfl rfl (by omega) (by omega) (by decide) dX2_setFrost_42 ?_
      rw [show ((su σ 6 0 (0)) 2 a0) = (σ 2 a0) from by rfl]
      refine lv_istore_n (lv' := [(3, .int (iI (σ 2 a0))), (0, .ref (d 0)), (1, .int (iI (a0))), (2, .int (iI (b0)))]) hx hb dX2_setFrost_43 rfl hl (by decide) rfl (fun ls hl => ?_)
      refine lv_aload_n hx hb dX2_setFrost_44 rfl (lv_at hl 1 rfl) ?_
      refine va_get (D := D) (ci := 2) (v := .ref (d 3)) (C := RX2) (T := TX2) (N := 8) hx hb hts hinX2 hown hK hP 0 rfl rfl 3 (by decide) (hts (.fieldLink RX2 16 "TwinOrchardModel" "frosts" "[I") (List.mem_of_getElem? (i := 2) rfl)) (fun _ h9 => h9) rfl dX2_setFrost_45 ?_
      refine lv_iload_n hx hb dX2_setFrost_48 rfl (lv_at hl 2 rfl) ?_
      refine lv_iload_n hx hb dX2_setFrost_49 rfl (lv_at hl 3 rfl) ?_
      refine gi_iast (a := d 3) (n := 10) (f := (su σ 6 0 (0)) 2) hx hb hK hP hD hS 3 0 rfl rfl (by omega) (by omega) (by decide) dX2_setFrost_50 (fun H locs hP hD hS => ?_)
      have hP : va_P D vwCl (MW cI d (su (su σ 6 0 (0)) 2 a0 (b0))) H := hP
      have hD : va_D A (MW cI d (su (su σ 6 0 (0)) 2 a0 (b0))) := hD
      refine lv_iload_n hx hb dX2_setFrost_51 rfl (lv_at hl 0 rfl) ?_
      have es : (mRes (tSetFrost a0 b0) (su (mZ σ) 2 a0 b0) σ) = (su (su σ 6 0 (0)) 2 a0 (b0)) := by first | (rw [show tSetFrost a0 b0 = 1 from by unfold tSetFrost; rw [if_pos (by omega)]]; rfl) | (rw [show tSetFrost a0 b0 = 2 from by unfold tSetFrost; rw [if_neg (by omega), if_pos (by omega)]]; rfl) | (rw [show tSetFrost a0 b0 = 0 from by unfold tSetFrost; rw [if_neg (by omega), if_neg (by omega)]]; rfl)
      have er : ((mVal (tSetFrost a0 b0) (σ 2 a0) : Int)) = (σ 2 a0) := by first | (rw [show tSetFrost a0 b0 = 1 from by unfold tSetFrost; rw [if_pos (by omega)]]; rfl) | (rw [show tSetFrost a0 b0 = 2 from by unfold tSetFrost; rw [if_neg (by omega), if_pos (by omega)]]; rfl) | (rw [show tSetFrost a0 b0 = 0 from by unfold tSetFrost; rw [if_neg (by omega), if_neg (by omega)]]; rfl)
      exact g_iret (wo := (fun κ' => MW cI d (mRes (tSetFrost a0 b0) (su (mZ σ) 2 a0 b0) σ))) (kr := (fun _ => True)) (rv := (fun _ => some (.int (iI (mVal (tSetFrost a0 b0) (σ 2 a0)))))) hx hb hr hlocks (fun _ _ => 0) rfl (by rw [es]; exact hP) hK (by rw [es]; exact hD) hS trivial (by rw [er]) (Nat.le_of_ble_eq_true rfl) (Nat.le_of_ble_eq_true rfl) dX2_setFrost_52
    · skip
      refine lv_aload_n hx hb dX2_setFrost_31 rfl (lv_at hl 0 rfl) ?_
      refine lv_iconst (v := iI (2)) hx hb dX2_setFrost_32 rfl ?_
      have hPc : va_P D vwCl (MW cI d (su σ 6 0 (0)) ++ []) H := by rw [List.append_nil]; exact hP
      have hDc : va_D A (MW cI d (su σ 6 0 (0)) ++ []) := by rw [List.append_nil]; exact hD
      refine g_call (va_runV (As := [.int (iI (2))]) (rest := []) S ((kX2_fail l D cI cZ cQ d (su σ 6 0 (0)) 2 ) H.size) (cwV 1 hts gX2_setFrost_X2_fail rfl rfl rfl (by decide +kernel) ⟨Nat.le_of_ble_eq_true rfl, Nat.le_of_ble_eq_true rfl⟩) (g_preV gEx_t hK [0, 1, 2] rfl hPc hDc (fun _ _ _ => trivial) (q0 := 0) (ci := 2) rfl rfl rfl) rfl rfl hl.1 rfl (lv_room (Nat.le_of_ble_eq_true rfl)) dX2_setFrost_33 ⟨Nat.le_of_ble_eq_true rfl, Nat.le_of_ble_eq_true rfl⟩) hPc hDc hS hA (fun κ9 H locs hk hP hD hS => ?_)
      have hP : va_P D vwCl (MW cI d (su (su σ 6 0 (0)) 6 0 2)) H := by have h9 : va_P D vwCl (MW cI d (su (su σ 6 0 (0)) 6 0 2) ++ []) H := hP; rw [List.append_nil] at h9; exact h9
      have hD : va_D A (MW cI d (su (su σ 6 0 (0)) 6 0 2)) := by have h9 : va_D A (MW cI d (su (su σ 6 0 (0)) 6 0 2) ++ []) := hD; rw [List.append_nil] at h9; exact h9
      show W p l e ({ frames := 1, cells := 0, slots := 0, locals := 22 } : Room) s m args below meth c H locs 0 0 (MQ below (gQ D (tyMs cI cZ cQ) (fun κ' => MW cI d (mRes (tSetFrost a0 b0) (su (mZ σ) 2 a0 b0) σ)) A (fun _ => some (.int (iI (mVal (tSetFrost a0 b0) (σ 2 a0))))) (fun _ => True)) args s 0 0 A) (F0 m 36 ls [.int (iI (0))])
      have es : (mRes (tSetFrost a0 b0) (su (mZ σ) 2 a0 b0) σ) = (su (su σ 6 0 (0)) 6 0 2) := by first | (rw [show tSetFrost a0 b0 = 1 from by unfold tSetFrost; rw [if_pos (by omega)]]; rfl) | (rw [show tSetFrost a0 b0 = 2 from by unfold tSetFrost; rw [if_neg (by omega), if_pos (by omega)]]; rfl) | (rw [show tSetFrost a0 b0 = 0 from by unfold tSetFrost; rw [if_neg (by omega), if_neg (by omega)]]; rfl)
      have er : ((mVal (tSetFrost a0 b0) (σ 2 a0) : Int)) = (0) := by first | (rw [show tSetFrost a0 b0 = 1 from by unfold tSetFrost; rw [if_pos (by omega)]]; rfl) | (rw [show tSetFrost a0 b0 = 2 from by unfold tSetFrost; rw [if_neg (by omega), if_pos (by omega)]]; rfl) | (rw [show tSetFrost a0 b0 = 0 from by unfold tSetFrost; rw [if_neg (by omega), if_neg (by omega)]]; rfl)
      exact g_iret (wo := (fun κ' => MW cI d (mRes (tSetFrost a0 b0) (su (mZ σ) 2 a0 b0) σ))) (kr := (fun _ => True)) (rv := (fun _ => some (.int (iI (mVal (tSetFrost a0 b0) (σ 2 a0)))))) hx hb hr hlocks (fun _ _ => 0) rfl (by rw [es]; exact hP) hK (by rw [es]; exact hD) hS trivial (by rw [er]) (Nat.le_of_ble_eq_true rfl) (Nat.le_of_ble_eq_true rfl) dX2_setFrost_36
  · skip
    refine lv_aload_n hx hb dX2_setFrost_15 rfl (lv_at hl 0 rfl) ?_
    refine lv_iconst (v := iI (1)) hx hb dX2_setFrost_16 rfl ?_
    have hPc : va_P D vwCl (MW cI d (su σ 6 0 (0)) ++ []) H := by rw [List.append_nil]; exact hP
    have hDc : va_D A (MW cI d (su σ 6 0 (0)) ++ []) := by rw [List.append_nil]; exact hD
    refine g_call (va_runV (As := [.int (iI (1))]) (rest := []) S ((kX2_fail l D cI cZ cQ d (su σ 6 0 (0)) 1 ) H.size) (cwV 1 hts gX2_setFrost_X2_fail rfl rfl rfl (by decide +kernel) ⟨Nat.le_of_ble_eq_true rfl, Nat.le_of_ble_eq_true rfl⟩) (g_preV gEx_t hK [0, 1, 2] rfl hPc hDc (fun _ _ _ => trivial) (q0 := 0) (ci := 2) rfl rfl rfl) rfl rfl hl.1 rfl (lv_room (Nat.le_of_ble_eq_true rfl)) dX2_setFrost_17 ⟨Nat.le_of_ble_eq_true rfl, Nat.le_of_ble_eq_true rfl⟩) hPc hDc hS hA (fun κ9 H locs hk hP hD hS => ?_)
    have hP : va_P D vwCl (MW cI d (su (su σ 6 0 (0)) 6 0 1)) H := by have h9 : va_P D vwCl (MW cI d (su (su σ 6 0 (0)) 6 0 1) ++ []) H := hP; rw [List.append_nil] at h9; exact h9
    have hD : va_D A (MW cI d (su (su σ 6 0 (0)) 6 0 1)) := by have h9 : va_D A (MW cI d (su (su σ 6 0 (0)) 6 0 1) ++ []) := hD; rw [List.append_nil] at h9; exact h9
    show W p l e ({ frames := 1, cells := 0, slots := 0, locals := 22 } : Room) s m args below meth c H locs 0 0 (MQ below (gQ D (tyMs cI cZ cQ) (fun κ' => MW cI d (mRes (tSetFrost a0 b0) (su (mZ σ) 2 a0 b0) σ)) A (fun _ => some (.int (iI (mVal (tSetFrost a0 b0) (σ 2 a0))))) (fun _ => True)) args s 0 0 A) (F0 m 20 ls [.int (iI (0))])
    have es : (mRes (tSetFrost a0 b0) (su (mZ σ) 2 a0 b0) σ) = (su (su σ 6 0 (0)) 6 0 1) := by first | (rw [show tSetFrost a0 b0 = 1 from by unfold tSetFrost; rw [if_pos (by omega)]]; rfl) | (rw [show tSetFrost a0 b0 = 2 from by unfold tSetFrost; rw [if_neg (by omega), if_pos (by omega)]]; rfl) | (rw [show tSetFrost a0 b0 = 0 from by unfold tSetFrost; rw [if_neg (by omega), if_neg (by omega)]]; rfl)
    have er : ((mVal (tSetFrost a0 b0) (σ 2 a0) : Int)) = (0) := by first | (rw [show tSetFrost a0 b0 = 1 from by unfold tSetFrost; rw [if_pos (by omega)]]; rfl) | (rw [show tSetFrost a0 b0 = 2 from by unfold tSetFrost; rw [if_neg (by omega), if_pos (by omega)]]; rfl) | (rw [show tSetFrost a0 b0 = 0 from by unfold tSetFrost; rw [if_neg (by omega), if_neg (by omega)]]; rfl)
    exact g_iret (wo := (fun κ' => MW cI d (mRes (tSetFrost a0 b0) (su (mZ σ) 2 a0 b0) σ))) (kr := (fun _ => True)) (rv := (fun _ => some (.int (iI (mVal (tSetFrost a0 b0) (σ 2 a0)))))) hx hb hr hlocks (fun _ _ => 0) rfl (by rw [es]; exact hP) hK (by rw [es]; exact hD) hS trivial (by rw [er]) (Nat.le_of_ble_eq_true rfl) (Nat.le_of_ble_eq_true rfl) dX2_setFrost_20
set_option maxHeartbeats 4000000 in
set_option maxRecDepth 100000 in
theorem kX2_can (l : Launch) (D : va_G) (cI cZ cQ : ClassId) (d : Nat → Nat) (σ : St)  (k0 : Int) (w0 : Int) (i0 : Int) (h0 : 0 ≤ k0) (h1 : k0 < 40) (hwf : mWF σ) (hl_w0 : -2147483648 ≤ w0) (hh_w0 : w0 ≤ 2147483647) (hl_i0 : -2147483648 ≤ i0) (hh_i0 : i0 ≤ 2147483647) : gMet l yX2_can wsX2_can ({ frames := 1, cells := 0, slots := 0, locals := 22 } : Room) D (tyMs cI cZ cQ) (MW cI d σ) [.ref (d 0), .int (iI k0), .int (iI w0), .int (iI i0)] (fun _ => True) (fun _ => some (.int (iI (mCan σ k0 w0 i0)))) (fun _ => True) (fun κ' => MW cI d σ) := by
  refine g_start (cc := cX2_can) (maxL := 5) (ret := (some .boolean)) (by decide) rfl (Nat.le_of_ble_eq_true rfl) ?_
  intro p e s m args below meth c A ls H locs S hr hlocks hname hP hK hD hA hS hE hl
  have S0 := S
  obtain ⟨hx, hb, hml, hown, hts⟩ := S0
  have hl : lv_has ls 5 [(0, .ref (d 0)), (1, .int (iI (k0))), (2, .int (iI (w0))), (3, .int (iI (i0)))] := hl
  have hinX2 : ∀ w ∈ wsX20, w ∈ wsX2_can := by decide +kernel
  obtain ⟨tk0, tk1, tk2, tk3, tk4⟩ := mWF_t hwf k0
  refine lv_aload_n hx hb dX2_can_0 rfl (lv_at hl 0 rfl) ?_
  refine lv_iload_n hx hb dX2_can_1 rfl (lv_at hl 1 rfl) ?_
  refine lv_iconst (v := iI (0)) hx hb dX2_can_2 rfl ?_
  have hPc : va_P D vwCl (MW cI d σ ++ []) H := by rw [List.append_nil]; exact hP
  have hDc : va_D A (MW cI d σ ++ []) := by rw [List.append_nil]; exact hD
  refine g_call (va_runV (As := [.int (iI (k0)), .int (iI (0))]) (rest := []) S ((kX2_tr l D cI cZ cQ d σ k0 0 (by first | assumption | omega) (by first | assumption | omega) (by first | assumption | omega) (by first | assumption | omega)) H.size) (cwV 2 hts gX2_can_X2_tr rfl rfl rfl (by decide +kernel) ⟨Nat.le_of_ble_eq_true rfl, Nat.le_of_ble_eq_true rfl⟩) (g_preV gEx_t hK [0, 1, 2] rfl hPc hDc (fun _ _ _ => trivial) (q0 := 0) (ci := 2) rfl rfl rfl) rfl rfl hl.1 rfl (lv_room (Nat.le_of_ble_eq_true rfl)) dX2_can_3 ⟨Nat.le_of_ble_eq_true rfl, Nat.le_of_ble_eq_true rfl⟩) hPc hDc hS hA (fun κ9 H locs hk hP hD hS => ?_)
  have hP : va_P D vwCl (MW cI d σ) H := by have h9 : va_P D vwCl (MW cI d σ ++ []) H := hP; rw [List.append_nil] at h9; exact h9
  have hD : va_D A (MW cI d σ) := by have h9 : va_D A (MW cI d σ ++ []) := hD; rw [List.append_nil] at h9; exact h9
  show W p l e ({ frames := 1, cells := 0, slots := 0, locals := 22 } : Room) s m args below meth c H locs 0 0 (MQ below (gQ D (tyMs cI cZ cQ) (fun κ' => MW cI d σ) A (fun _ => some (.int (iI (mCan σ k0 w0 i0)))) (fun _ => True)) args s 0 0 A) (F0 m 6 ls [.int (iI (σ 3 (5 * k0 + 0)))])
  refine lv_iconst (v := iI (1)) hx hb dX2_can_6 rfl ?_
  refine gi_icmp_ne (tgt := 14) hx hb dX2_can_7 (by decide) ⟨by omega, by omega⟩ ⟨by decide, by decide⟩ (fun c7 => ?_) (fun c7 => ?_)
  · skip
    refine lv_iconst (v := iI (0)) hx hb dX2_can_14 rfl ?_
    refine lv_istore (lv' := [(4, .int (iI (0))), (0, .ref (d 0)), (1, .int (iI (k0))), (2, .int (iI (w0))), (3, .int (iI (i0)))]) hx hb dX2_can_15 hl (by decide) rfl (fun ls hl => ?_)
    refine lv_iload_n hx hb dX2_can_17 rfl (lv_at hl 3 rfl) ?_
    rcases Int.decEq w0 0 with c18_0 | c18_0
    rotate_left
    · skip
      refine gi_tableIn (tgt := 44) hx hb dX2_can_18 ⟨by omega, by omega⟩ 0 c18_0 (by decide) (by decide) rfl (by decide) ?_
      refine lv_iload hx hb dX2_can_44 (lv_at hl 0 rfl) ?_
      refine gi_if_ne (tgt := 53) hx hb dX2_can_46 (by decide) ⟨by decide, by decide⟩ (fun c46 => ?_) (fun c46 => ?_)
      · skip
        exact absurd (by decide) c46
      · skip
        refine lv_iconst (v := iI (1)) hx hb dX2_can_49 rfl ?_
        refine lv_goto (tgt := 54) hx hb dX2_can_50 (by decide) ?_
        have er : ((mCan σ k0 w0 i0 : Int)) = (1) := by unfold mCan; rw [if_pos (by omega)]; first | (rw [bI_t (by omega)]; done) | (rw [bI_f (by omega)]; done)
        exact g_iret (wo := (fun κ' => MW cI d σ)) (kr := (fun _ => True)) (rv := (fun _ => some (.int (iI (mCan σ k0 w0 i0))))) hx hb hr hlocks (fun _ _ => 0) (nar_z (Or.inr rfl)) hP hK hD hS trivial (by rw [er]) (Nat.le_of_ble_eq_true rfl) (Nat.le_of_ble_eq_true rfl) dX2_can_54
    rcases Int.decEq w0 1 with c18_1 | c18_1
    rotate_left
    · skip
      refine gi_tableIn (tgt := 55) hx hb dX2_can_18 ⟨by omega, by omega⟩ 1 c18_1 (by decide) (by decide) rfl (by decide) ?_
      refine lv_iload hx hb dX2_can_55 (lv_at hl 0 rfl) ?_
      refine gi_if_eq (tgt := 74) hx hb dX2_can_57 (by decide) ⟨by decide, by decide⟩ (fun c57 => ?_) (fun c57 => ?_)
      · skip
        refine lv_iconst (v := iI (0)) hx hb dX2_can_74 rfl ?_
        have er : ((mCan σ k0 w0 i0 : Int)) = (0) := by unfold mCan; rw [if_neg (by omega), if_pos (by omega)]; first | (rw [bI_t (by omega)]; done) | (rw [bI_f (by omega)]; done)
        exact g_iret (wo := (fun κ' => MW cI d σ)) (kr := (fun _ => True)) (rv := (fun _ => some (.int (iI (mCan σ k0 w0 i0))))) hx hb hr hlocks (fun _ _ => 0) (nar_z (Or.inl rfl)) hP hK hD hS trivial (by rw [er]) (Nat.le_of_ble_eq_true rfl) (Nat.le_of_ble_eq_true rfl) dX2_can_75
      · skip
        exact absurd (by decide) c57
    rcases Int.decEq w0 2 with c18_2 | c18_2
    rotate_left
    · skip
      refine gi_tableIn (tgt := 76) hx hb dX2_can_18 ⟨by omega, by omega⟩ 2 c18_2 (by decide) (by decide) rfl (by decide) ?_
      refine lv_iload hx hb dX2_can_76 (lv_at hl 0 rfl) ?_
      refine gi_if_eq (tgt := 104) hx hb dX2_can_78 (by decide) ⟨by decide, by decide⟩ (fun c78 => ?_) (fun c78 => ?_)
      · skip
        refine lv_iconst (v := iI (0)) hx hb dX2_can_104 rfl ?_
        have er : ((mCan σ k0 w0 i0 : Int)) = (0) := by unfold mCan; rw [if_neg (by omega), if_neg (by omega), if_pos (by omega)]; first | (rw [bI_t (by omega)]; done) | (rw [bI_f (by omega)]; done)
        exact g_iret (wo := (fun κ' => MW cI d σ)) (kr := (fun _ => True)) (rv := (fun _ => some (.int (iI (mCan σ k0 w0 i0))))) hx hb hr hlocks (fun _ _ => 0) (nar_z (Or.inl rfl)) hP hK hD hS trivial (by rw [er]) (Nat.le_of_ble_eq_true rfl) (Nat.le_of_ble_eq_true rfl) dX2_can_105
      · skip
        exact absurd (by decide) c78
    refine gi_tableOut (tgt := 106) hx hb dX2_can_18 ⟨by omega, by omega⟩ (by omega) (by decide) ?_
    refine lv_iload hx hb dX2_can_106 (lv_at hl 0 rfl) ?_
    have er : ((mCan σ k0 w0 i0 : Int)) = (0) := by unfold mCan; rw [if_neg (by omega), if_neg (by omega), if_neg (by omega)]; first | (rw [bI_t (by omega)]; done) | (rw [bI_f (by omega)]; done)
    exact g_iret (wo := (fun κ' => MW cI d σ)) (kr := (fun _ => True)) (rv := (fun _ => some (.int (iI (mCan σ k0 w0 i0))))) hx hb hr hlocks (fun _ _ => 0) (nar_z (Or.inl rfl)) hP hK hD hS trivial (by rw [er]) (Nat.le_of_ble_eq_true rfl) (Nat.le_of_ble_eq_true rfl) dX2_can_108
  · skip
    refine lv_iconst (v := iI (1)) hx hb dX2_can_10 rfl ?_
    refine lv_goto (tgt := 15) hx hb dX2_can_11 (by decide) ?_
    refine lv_istore (lv' := [(4, .int (iI (1))), (0, .ref (d 0)), (1, .int (iI (k0))), (2, .int (iI (w0))), (3, .int (iI (i0)))]) hx hb dX2_can_15 hl (by decide) rfl (fun ls hl => ?_)
    refine lv_iload_n hx hb dX2_can_17 rfl (lv_at hl 3 rfl) ?_
    rcases Int.decEq w0 0 with c18_0 | c18_0
    rotate_left
    · skip
      refine gi_tableIn (tgt := 44) hx hb dX2_can_18 ⟨by omega, by omega⟩ 0 c18_0 (by decide) (by decide) rfl (by decide) ?_
      refine lv_iload hx hb dX2_can_44 (lv_at hl 0 rfl) ?_
      refine gi_if_ne (tgt := 53) hx hb dX2_can_46 (by decide) ⟨by decide, by decide⟩ (fun c46 => ?_) (fun c46 => ?_)
      · skip
        refine lv_iconst (v := iI (0)) hx hb dX2_can_53 rfl ?_
        have er : ((mCan σ k0 w0 i0 : Int)) = (0) := by unfold mCan; rw [if_pos (by omega)]; first | (rw [bI_t (by omega)]; done) | (rw [bI_f (by omega)]; done)
        exact g_iret (wo := (fun κ' => MW cI d σ)) (kr := (fun _ => True)) (rv := (fun _ => some (.int (iI (mCan σ k0 w0 i0))))) hx hb hr hlocks (fun _ _ => 0) (nar_z (Or.inl rfl)) hP hK hD hS trivial (by rw [er]) (Nat.le_of_ble_eq_true rfl) (Nat.le_of_ble_eq_true rfl) dX2_can_54
      · skip
        exact absurd c46 (by decide)
    rcases Int.decEq w0 1 with c18_1 | c18_1
    rotate_left
    · skip
      refine gi_tableIn (tgt := 55) hx hb dX2_can_18 ⟨by omega, by omega⟩ 1 c18_1 (by decide) (by decide) rfl (by decide) ?_
      refine lv_iload hx hb dX2_can_55 (lv_at hl 0 rfl) ?_
      refine gi_if_eq (tgt := 74) hx hb dX2_can_57 (by decide) ⟨by decide, by decide⟩ (fun c57 => ?_) (fun c57 => ?_)
      · skip
        exact absurd c57 (by decide)
      · skip
        refine lv_aload_n hx hb dX2_can_60 rfl (lv_at hl 1 rfl) ?_
        refine lv_iload_n hx hb dX2_can_61 rfl (lv_at hl 2 rfl) ?_
        refine lv_iconst (v := iI (1)) hx hb dX2_can_62 rfl ?_
        have hPc : va_P D vwCl (MW cI d σ ++ []) H := by rw [List.append_nil]; exact hP
        have hDc : va_D A (MW cI d σ ++ []) := by rw [List.append_nil]; exact hD
        refine g_call (va_runV (As := [.int (iI (k0)), .int (iI (1))]) (rest := []) S ((kX2_tr l D cI cZ cQ d σ k0 1 (by first | assumption | omega) (by first | assumption | omega) (by first | assumption | omega) (by first | assumption | omega)) H.size) (cwV 2 hts gX2_can_X2_tr rfl rfl rfl (by decide +kernel) ⟨Nat.le_of_ble_eq_true rfl, Nat.le_of_ble_eq_true rfl⟩) (g_preV gEx_t hK [0, 1, 2] rfl hPc hDc (fun _ _ _ => trivial) (q0 := 0) (ci := 2) rfl rfl rfl) rfl rfl hl.1 rfl (lv_room (Nat.le_of_ble_eq_true rfl)) dX2_can_63 ⟨Nat.le_of_ble_eq_true rfl, Nat.le_of_ble_eq_true rfl⟩) hPc hDc hS hA (fun κ9 H locs hk hP hD hS => ?_)
        have hP : va_P D vwCl (MW cI d σ) H := by have h9 : va_P D vwCl (MW cI d σ ++ []) H := hP; rw [List.append_nil] at h9; exact h9
        have hD : va_D A (MW cI d σ) := by have h9 : va_D A (MW cI d σ ++ []) := hD; rw [List.append_nil] at h9; exact h9
        show W p l e ({ frames := 1, cells := 0, slots := 0, locals := 22 } : Room) s m args below meth c H locs 0 0 (MQ below (gQ D (tyMs cI cZ cQ) (fun κ' => MW cI d σ) A (fun _ => some (.int (iI (mCan σ k0 w0 i0)))) (fun _ => True)) args s 0 0 A) (F0 m 66 ls [.int (iI (σ 3 (5 * k0 + 1)))])
        refine lv_iload_n hx hb dX2_can_66 rfl (lv_at hl 4 rfl) ?_
        refine gi_icmp_lt (tgt := 74) hx hb dX2_can_67 (by decide) ⟨by omega, by omega⟩ ⟨by omega, by omega⟩ (fun c67 => ?_) (fun c67 => ?_)
        · skip
          refine lv_iconst (v := iI (0)) hx hb dX2_can_74 rfl ?_
          have er : ((mCan σ k0 w0 i0 : Int)) = (0) := by unfold mCan; rw [if_neg (by omega), if_pos (by omega)]; first | (rw [bI_t (by omega)]; done) | (rw [bI_f (by omega)]; done)
          exact g_iret (wo := (fun κ' => MW cI d σ)) (kr := (fun _ => True)) (rv := (fun _ => some (.int (iI (mCan σ k0 w0 i0))))) hx hb hr hlocks (fun _ _ => 0) (nar_z (Or.inl rfl)) hP hK hD hS trivial (by rw [er]) (Nat.le_of_ble_eq_true rfl) (Nat.le_of_ble_eq_true rfl) dX2_can_75
        · skip
          refine lv_iconst (v := iI (1)) hx hb dX2_can_70 rfl ?_
          refine lv_goto (tgt := 75) hx hb dX2_can_71 (by decide) ?_
          have er : ((mCan σ k0 w0 i0 : Int)) = (1) := by unfold mCan; rw [if_neg (by omega), if_pos (by omega)]; first | (rw [bI_t (by omega)]; done) | (rw [bI_f (by omega)]; done)
          exact g_iret (wo := (fun κ' => MW cI d σ)) (kr := (fun _ => True)) (rv := (fun _ => some (.int (iI (mCan σ k0 w0 i0))))) hx hb hr hlocks (fun _ _ => 0) (nar_z (Or.inr rfl)) hP hK hD hS trivial (by rw [er]) (Nat.le_of_ble_eq_true rfl) (Nat.le_of_ble_eq_true rfl) dX2_can_75
    rcases Int.decEq w0 2 with c18_2 | c18_2
    rotate_left
    · skip
      refine gi_tableIn (tgt := 76) hx hb dX2_can_18 ⟨by omega, by omega⟩ 2 c18_2 (by decide) (by decide) rfl (by decide) ?_
      refine lv_iload hx hb dX2_can_76 (lv_at hl 0 rfl) ?_
      refine gi_if_eq (tgt := 104) hx hb dX2_can_78 (by decide) ⟨by decide, by decide⟩ (fun c78 => ?_) (fun c78 => ?_)
      · skip
        exact absurd c78 (by decide)
      · skip
        refine lv_aload_n hx hb dX2_can_81 rfl (lv_at hl 1 rfl) ?_
        refine lv_iload_n hx hb dX2_can_82 rfl (lv_at hl 2 rfl) ?_
        refine lv_iconst (v := iI (3)) hx hb dX2_can_83 rfl ?_
        have hPc : va_P D vwCl (MW cI d σ ++ []) H := by rw [List.append_nil]; exact hP
        have hDc : va_D A (MW cI d σ ++ []) := by rw [List.append_nil]; exact hD
        refine g_call (va_runV (As := [.int (iI (k0)), .int (iI (3))]) (rest := []) S ((kX2_tr l D cI cZ cQ d σ k0 3 (by first | assumption | omega) (by first | assumption | omega) (by first | assumption | omega) (by first | assumption | omega)) H.size) (cwV 2 hts gX2_can_X2_tr rfl rfl rfl (by decide +kernel) ⟨Nat.le_of_ble_eq_true rfl, Nat.le_of_ble_eq_true rfl⟩) (g_preV gEx_t hK [0, 1, 2] rfl hPc hDc (fun _ _ _ => trivial) (q0 := 0) (ci := 2) rfl rfl rfl) rfl rfl hl.1 rfl (lv_room (Nat.le_of_ble_eq_true rfl)) dX2_can_84 ⟨Nat.le_of_ble_eq_true rfl, Nat.le_of_ble_eq_true rfl⟩) hPc hDc hS hA (fun κ9 H locs hk hP hD hS => ?_)
        have hP : va_P D vwCl (MW cI d σ) H := by have h9 : va_P D vwCl (MW cI d σ ++ []) H := hP; rw [List.append_nil] at h9; exact h9
        have hD : va_D A (MW cI d σ) := by have h9 : va_D A (MW cI d σ ++ []) := hD; rw [List.append_nil] at h9; exact h9
        show W p l e ({ frames := 1, cells := 0, slots := 0, locals := 22 } : Room) s m args below meth c H locs 0 0 (MQ below (gQ D (tyMs cI cZ cQ) (fun κ' => MW cI d σ) A (fun _ => some (.int (iI (mCan σ k0 w0 i0)))) (fun _ => True)) args s 0 0 A) (F0 m 87 ls [.int (iI (σ 3 (5 * k0 + 3)))])
        refine lv_iload_n hx hb dX2_can_87 rfl (lv_at hl 4 rfl) ?_
        refine gi_icmp_eq (tgt := 104) hx hb dX2_can_88 (by decide) ⟨by omega, by omega⟩ ⟨by omega, by omega⟩ (fun c88 => ?_) (fun c88 => ?_)
        · skip
          refine lv_iconst (v := iI (0)) hx hb dX2_can_104 rfl ?_
          have er : ((mCan σ k0 w0 i0 : Int)) = (0) := by unfold mCan; rw [if_neg (by omega), if_neg (by omega), if_pos (by omega)]; first | (rw [bI_t (by omega)]; done) | (rw [bI_f (by omega)]; done)
          exact g_iret (wo := (fun κ' => MW cI d σ)) (kr := (fun _ => True)) (rv := (fun _ => some (.int (iI (mCan σ k0 w0 i0))))) hx hb hr hlocks (fun _ _ => 0) (nar_z (Or.inl rfl)) hP hK hD hS trivial (by rw [er]) (Nat.le_of_ble_eq_true rfl) (Nat.le_of_ble_eq_true rfl) dX2_can_105
        · skip
          refine lv_aload_n hx hb dX2_can_91 rfl (lv_at hl 1 rfl) ?_
          refine lv_iload_n hx hb dX2_can_92 rfl (lv_at hl 2 rfl) ?_
          refine lv_iconst (v := iI (1)) hx hb dX2_can_93 rfl ?_
          have hPc : va_P D vwCl (MW cI d σ ++ []) H := by rw [List.append_nil]; exact hP
          have hDc : va_D A (MW cI d σ ++ []) := by rw [List.append_nil]; exact hD
          refine g_call (va_runV (As := [.int (iI (k0)), .int (iI (1))]) (rest := []) S ((kX2_tr l D cI cZ cQ d σ k0 1 (by first | assumption | omega) (by first | assumption | omega) (by first | assumption | omega) (by first | assumption | omega)) H.size) (cwV 2 hts gX2_can_X2_tr rfl rfl rfl (by decide +kernel) ⟨Nat.le_of_ble_eq_true rfl, Nat.le_of_ble_eq_true rfl⟩) (g_preV gEx_t hK [0, 1, 2] rfl hPc hDc (fun _ _ _ => trivial) (q0 := 0) (ci := 2) rfl rfl rfl) rfl rfl hl.1 rfl (lv_room (Nat.le_of_ble_eq_true rfl)) dX2_can_94 ⟨Nat.le_of_ble_eq_true rfl, Nat.le_of_ble_eq_true rfl⟩) hPc hDc hS hA (fun κ9 H locs hk hP hD hS => ?_)
          have hP : va_P D vwCl (MW cI d σ) H := by have h9 : va_P D vwCl (MW cI d σ ++ []) H := hP; rw [List.append_nil] at h9; exact h9
          have hD : va_D A (MW cI d σ) := by have h9 : va_D A (MW cI d σ ++ []) := hD; rw [List.append_nil] at h9; exact h9
          show W p l e ({ frames := 1, cells := 0, slots := 0, locals := 22 } : Room) s m args below meth c H locs 0 0 (MQ below (gQ D (tyMs cI cZ cQ) (fun κ' => MW cI d σ) A (fun _ => some (.int (iI (mCan σ k0 w0 i0)))) (fun _ => True)) args s 0 0 A) (F0 m 97 ls [.int (iI (σ 3 (5 * k0 + 1)))])
          refine gi_if_le (tgt := 104) hx hb dX2_can_97 (by decide) ⟨by omega, by omega⟩ (fun c97 => ?_) (fun c97 => ?_)
          · skip
            refine lv_iconst (v := iI (0)) hx hb dX2_can_104 rfl ?_
            have er : ((mCan σ k0 w0 i0 : Int)) = (0) := by unfold mCan; rw [if_neg (by omega), if_neg (by omega), if_pos (by omega)]; first | (rw [bI_t (by omega)]; done) | (rw [bI_f (by omega)]; done)
            exact g_iret (wo := (fun κ' => MW cI d σ)) (kr := (fun _ => True)) (rv := (fun _ => some (.int (iI (mCan σ k0 w0 i0))))) hx hb hr hlocks (fun _ _ => 0) (nar_z (Or.inl rfl)) hP hK hD hS trivial (by rw [er]) (Nat.le_of_ble_eq_true rfl) (Nat.le_of_ble_eq_true rfl) dX2_can_105
          · skip
            refine lv_iconst (v := iI (1)) hx hb dX2_can_100 rfl ?_
            refine lv_goto (tgt := 105) hx hb dX2_can_101 (by decide) ?_
            have er : ((mCan σ k0 w0 i0 : Int)) = (1) := by unfold mCan; rw [if_neg (by omega), if_neg (by omega), if_pos (by omega)]; first | (rw [bI_t (by omega)]; done) | (rw [bI_f (by omega)]; done)
            exact g_iret (wo := (fun κ' => MW cI d σ)) (kr := (fun _ => True)) (rv := (fun _ => some (.int (iI (mCan σ k0 w0 i0))))) hx hb hr hlocks (fun _ _ => 0) (nar_z (Or.inr rfl)) hP hK hD hS trivial (by rw [er]) (Nat.le_of_ble_eq_true rfl) (Nat.le_of_ble_eq_true rfl) dX2_can_105
    refine gi_tableOut (tgt := 106) hx hb dX2_can_18 ⟨by omega, by omega⟩ (by omega) (by decide) ?_
    refine lv_iload hx hb dX2_can_106 (lv_at hl 0 rfl) ?_
    have er : ((mCan σ k0 w0 i0 : Int)) = (1) := by unfold mCan; rw [if_neg (by omega), if_neg (by omega), if_neg (by omega)]; first | (rw [bI_t (by omega)]; done) | (rw [bI_f (by omega)]; done)
    exact g_iret (wo := (fun κ' => MW cI d σ)) (kr := (fun _ => True)) (rv := (fun _ => some (.int (iI (mCan σ k0 w0 i0))))) hx hb hr hlocks (fun _ _ => 0) (nar_z (Or.inr rfl)) hP hK hD hS trivial (by rw [er]) (Nat.le_of_ble_eq_true rfl) (Nat.le_of_ble_eq_true rfl) dX2_can_108
set_option maxHeartbeats 4000000 in
set_option maxRecDepth 100000 in
theorem kX2_apples (l : Launch) (D : va_G) (cI cZ cQ : ClassId) (d : Nat → Nat) (σ : St)  (k0 : Int) (h0 : 0 ≤ k0) (h1 : k0 < 40) (hwf : mWF σ) : gMet l yX2_apples wsX2_apples ({ frames := 1, cells := 0, slots := 0, locals := 22 } : Room) D (tyMs cI cZ cQ) (MW cI d σ) [.ref (d 0), .int (iI k0)] (fun _ => True) (fun _ => some (.int (iI (mAp σ k0)))) (fun _ => True) (fun κ' => MW cI d σ) := by
  refine g_start (cc := cX2_apples) (maxL := 3) (ret := (some .int)) (by decide) rfl (Nat.le_of_ble_eq_true rfl) ?_
  intro p e s m args below meth c A ls H locs S hr hlocks hname hP hK hD hA hS hE hl
  have S0 := S
  obtain ⟨hx, hb, hml, hown, hts⟩ := S0
  have hl : lv_has ls 3 [(0, .ref (d 0)), (1, .int (iI (k0)))] := hl
  have hinX2 : ∀ w ∈ wsX20, w ∈ wsX2_apples := by decide +kernel
  obtain ⟨tk0, tk1, tk2, tk3, tk4⟩ := mWF_t hwf k0
  have km := mul9 tk1 tk2
  refine lv_aload_n hx hb dX2_apples_0 rfl (lv_at hl 0 rfl) ?_
  refine lv_iload_n hx hb dX2_apples_1 rfl (lv_at hl 1 rfl) ?_
  refine lv_iconst (v := iI (1)) hx hb dX2_apples_2 rfl ?_
  have hPc : va_P D vwCl (MW cI d σ ++ []) H := by rw [List.append_nil]; exact hP
  have hDc : va_D A (MW cI d σ ++ []) := by rw [List.append_nil]; exact hD
  refine g_call (va_runV (As := [.int (iI (k0)), .int (iI (1))]) (rest := []) S ((kX2_tr l D cI cZ cQ d σ k0 1 (by first | assumption | omega) (by first | assumption | omega) (by first | assumption | omega) (by first | assumption | omega)) H.size) (cwV 2 hts gX2_apples_X2_tr rfl rfl rfl (by decide +kernel) ⟨Nat.le_of_ble_eq_true rfl, Nat.le_of_ble_eq_true rfl⟩) (g_preV gEx_t hK [0, 1, 2] rfl hPc hDc (fun _ _ _ => trivial) (q0 := 0) (ci := 2) rfl rfl rfl) rfl rfl hl.1 rfl (lv_room (Nat.le_of_ble_eq_true rfl)) dX2_apples_3 ⟨Nat.le_of_ble_eq_true rfl, Nat.le_of_ble_eq_true rfl⟩) hPc hDc hS hA (fun κ9 H locs hk hP hD hS => ?_)
  have hP : va_P D vwCl (MW cI d σ) H := by have h9 : va_P D vwCl (MW cI d σ ++ []) H := hP; rw [List.append_nil] at h9; exact h9
  have hD : va_D A (MW cI d σ) := by have h9 : va_D A (MW cI d σ ++ []) := hD; rw [List.append_nil] at h9; exact h9
  show W p l e ({ frames := 1, cells := 0, slots := 0, locals := 22 } : Room) s m args below meth c H locs 0 0 (MQ below (gQ D (tyMs cI cZ cQ) (fun κ' => MW cI d σ) A (fun _ => some (.int (iI (mAp σ k0)))) (fun _ => True)) args s 0 0 A) (F0 m 6 ls [.int (iI (σ 3 (5 * k0 + 1)))])
  refine lv_aload_n hx hb dX2_apples_6 rfl (lv_at hl 0 rfl) ?_
  refine lv_iload_n hx hb dX2_apples_7 rfl (lv_at hl 1 rfl) ?_
  refine lv_iconst (v := iI (2)) hx hb dX2_apples_8 rfl ?_
  have hPc : va_P D vwCl (MW cI d σ ++ []) H := by rw [List.append_nil]; exact hP
  have hDc : va_D A (MW cI d σ ++ []) := by rw [List.append_nil]; exact hD
  refine g_call (va_runV (As := [.int (iI (k0)), .int (iI (2))]) (rest := [.int (iI (σ 3 (5 * k0 + 1)))]) S ((kX2_tr l D cI cZ cQ d σ k0 2 (by first | assumption | omega) (by first | assumption | omega) (by first | assumption | omega) (by first | assumption | omega)) H.size) (cwV 2 hts gX2_apples_X2_tr rfl rfl rfl (by decide +kernel) ⟨Nat.le_of_ble_eq_true rfl, Nat.le_of_ble_eq_true rfl⟩) (g_preV gEx_t hK [0, 1, 2] rfl hPc hDc (fun _ _ _ => trivial) (q0 := 0) (ci := 2) rfl rfl rfl) rfl rfl hl.1 rfl (lv_room (Nat.le_of_ble_eq_true rfl)) dX2_apples_9 ⟨Nat.le_of_ble_eq_true rfl, Nat.le_of_ble_eq_true rfl⟩) hPc hDc hS hA (fun κ9 H locs hk hP hD hS => ?_)
  have hP : va_P D vwCl (MW cI d σ) H := by have h9 : va_P D vwCl (MW cI d σ ++ []) H := hP; rw [List.append_nil] at h9; exact h9
  have hD : va_D A (MW cI d σ) := by have h9 : va_D A (MW cI d σ ++ []) := hD; rw [List.append_nil] at h9; exact h9
  show W p l e ({ frames := 1, cells := 0, slots := 0, locals := 22 } : Room) s m args below meth c H locs 0 0 (MQ below (gQ D (tyMs cI cZ cQ) (fun κ' => MW cI d σ) A (fun _ => some (.int (iI (mAp σ k0)))) (fun _ => True)) args s 0 0 A) (F0 m 12 ls [.int (iI (σ 3 (5 * k0 + 2))), .int (iI (σ 3 (5 * k0 + 1)))])
  refine gi_mul hx hb dX2_apples_12 ?_
  refine lv_istore_n (lv' := [(2, .int (iI ((σ 3 (5 * k0 + 1)) * (σ 3 (5 * k0 + 2))))), (0, .ref (d 0)), (1, .int (iI (k0)))]) hx hb dX2_apples_13 rfl hl (by decide) rfl (fun ls hl => ?_)
  refine lv_aload_n hx hb dX2_apples_14 rfl (lv_at hl 1 rfl) ?_
  refine lv_iload_n hx hb dX2_apples_15 rfl (lv_at hl 2 rfl) ?_
  refine lv_iconst (v := iI (4)) hx hb dX2_apples_16 rfl ?_
  have hPc : va_P D vwCl (MW cI d σ ++ []) H := by rw [List.append_nil]; exact hP
  have hDc : va_D A (MW cI d σ ++ []) := by rw [List.append_nil]; exact hD
  refine g_call (va_runV (As := [.int (iI (k0)), .int (iI (4))]) (rest := []) S ((kX2_tr l D cI cZ cQ d σ k0 4 (by first | assumption | omega) (by first | assumption | omega) (by first | assumption | omega) (by first | assumption | omega)) H.size) (cwV 2 hts gX2_apples_X2_tr rfl rfl rfl (by decide +kernel) ⟨Nat.le_of_ble_eq_true rfl, Nat.le_of_ble_eq_true rfl⟩) (g_preV gEx_t hK [0, 1, 2] rfl hPc hDc (fun _ _ _ => trivial) (q0 := 0) (ci := 2) rfl rfl rfl) rfl rfl hl.1 rfl (lv_room (Nat.le_of_ble_eq_true rfl)) dX2_apples_17 ⟨Nat.le_of_ble_eq_true rfl, Nat.le_of_ble_eq_true rfl⟩) hPc hDc hS hA (fun κ9 H locs hk hP hD hS => ?_)
  have hP : va_P D vwCl (MW cI d σ) H := by have h9 : va_P D vwCl (MW cI d σ ++ []) H := hP; rw [List.append_nil] at h9; exact h9
  have hD : va_D A (MW cI d σ) := by have h9 : va_D A (MW cI d σ ++ []) := hD; rw [List.append_nil] at h9; exact h9
  show W p l e ({ frames := 1, cells := 0, slots := 0, locals := 22 } : Room) s m args below meth c H locs 0 0 (MQ below (gQ D (tyMs cI cZ cQ) (fun κ' => MW cI d σ) A (fun _ => some (.int (iI (mAp σ k0)))) (fun _ => True)) args s 0 0 A) (F0 m 20 ls [.int (iI (σ 3 (5 * k0 + 4)))])
  refine lv_iconst (v := iI (1)) hx hb dX2_apples_20 rfl ?_
  refine gi_icmp_ne (tgt := 30) hx hb dX2_apples_21 (by decide) ⟨by omega, by omega⟩ ⟨by decide, by decide⟩ (fun c21 => ?_) (fun c21 => ?_)
  · skip
    refine lv_iload_n hx hb dX2_apples_30 rfl (lv_at hl 0 rfl) ?_
    have er : ((mAp σ k0 : Int)) = ((σ 3 (5 * k0 + 1)) * (σ 3 (5 * k0 + 2))) := by unfold mAp; first | (rw [if_pos (by omega)]; done) | (rw [if_neg (by omega)]; done)
    exact g_iret (wo := (fun κ' => MW cI d σ)) (kr := (fun _ => True)) (rv := (fun _ => some (.int (iI (mAp σ k0))))) hx hb hr hlocks (fun _ _ => 0) rfl hP hK hD hS trivial (by rw [er]) (Nat.le_of_ble_eq_true rfl) (Nat.le_of_ble_eq_true rfl) dX2_apples_31
  · skip
    refine lv_iload_n hx hb dX2_apples_24 rfl (lv_at hl 0 rfl) ?_
    refine lv_iconst (v := iI (4)) hx hb dX2_apples_25 rfl ?_
    refine gi_div hx hb ⟨by omega, by omega⟩ ⟨by omega, by omega⟩ dX2_apples_26 ?_
    refine lv_goto (tgt := 31) hx hb dX2_apples_27 (by decide) ?_
    have er : ((mAp σ k0 : Int)) = (((σ 3 (5 * k0 + 1)) * (σ 3 (5 * k0 + 2))) / 4) := by unfold mAp; first | (rw [if_pos (by omega)]; done) | (rw [if_neg (by omega)]; done)
    exact g_iret (wo := (fun κ' => MW cI d σ)) (kr := (fun _ => True)) (rv := (fun _ => some (.int (iI (mAp σ k0))))) hx hb hr hlocks (fun _ _ => 0) rfl hP hK hD hS trivial (by rw [er]) (Nat.le_of_ble_eq_true rfl) (Nat.le_of_ble_eq_true rfl) dX2_apples_31
set_option maxHeartbeats 4000000 in
set_option maxRecDepth 100000 in
theorem kX2_treeTold (l : Launch) (D : va_G) (cI cZ cQ : ClassId) (d : Nat → Nat) (σ : St)  (k0 : Int) (w0 : Int) (h0 : 0 ≤ k0) (h1 : k0 < 40) (hwf : mWF σ) (h2 : 0 ≤ w0) (h3 : w0 ≤ 5) : gMet l yX2_treeTold wsX2_treeTold ({ frames := 2, cells := 0, slots := 0, locals := 44 } : Room) D (tyMs cI cZ cQ) (MW cI d σ) [.ref (d 0), .int (iI k0), .int (iI w0)] (fun _ => True) (fun _ => some (.int (iI (mTold σ k0 w0)))) (fun _ => True) (fun κ' => MW cI d σ) := by
  refine g_start (cc := cX2_treeTold) (maxL := 3) (ret := (some .int)) (by decide) rfl (Nat.le_of_ble_eq_true rfl) ?_
  intro p e s m args below meth c A ls H locs S hr hlocks hname hP hK hD hA hS hE hl
  have S0 := S
  obtain ⟨hx, hb, hml, hown, hts⟩ := S0
  have hl : lv_has ls 3 [(0, .ref (d 0)), (1, .int (iI (k0))), (2, .int (iI (w0)))] := hl
  have hinX2 : ∀ w ∈ wsX20, w ∈ wsX2_treeTold := by decide +kernel
  obtain ⟨tk0, tk1, tk2, tk3, tk4⟩ := mWF_t hwf k0
  refine lv_iload_n hx hb dX2_treeTold_0 rfl (lv_at hl 2 rfl) ?_
  refine lv_iconst (v := iI (5)) hx hb dX2_treeTold_1 rfl ?_
  refine gi_icmp_ne (tgt := 11) hx hb dX2_treeTold_2 (by decide) ⟨by omega, by omega⟩ ⟨by decide, by decide⟩ (fun c2 => ?_) (fun c2 => ?_)
  · skip
    refine lv_iload_n hx hb dX2_treeTold_11 rfl (lv_at hl 2 rfl) ?_
    refine lv_iconst (v := iI (3)) hx hb dX2_treeTold_12 rfl ?_
    refine gi_icmp_ne (tgt := 29) hx hb dX2_treeTold_13 (by decide) ⟨by omega, by omega⟩ ⟨by decide, by decide⟩ (fun c13 => ?_) (fun c13 => ?_)
    · skip
      refine lv_aload_n hx hb dX2_treeTold_29 rfl (lv_at hl 0 rfl) ?_
      refine lv_iload_n hx hb dX2_treeTold_30 rfl (lv_at hl 1 rfl) ?_
      refine lv_iload_n hx hb dX2_treeTold_31 rfl (lv_at hl 2 rfl) ?_
      have hPc : va_P D vwCl (MW cI d σ ++ []) H := by rw [List.append_nil]; exact hP
      have hDc : va_D A (MW cI d σ ++ []) := by rw [List.append_nil]; exact hD
      refine g_call (va_runV (As := [.int (iI (k0)), .int (iI (w0))]) (rest := []) S ((kX2_tr l D cI cZ cQ d σ k0 w0 (by first | assumption | omega) (by first | assumption | omega) (by first | assumption | omega) (by first | assumption | omega)) H.size) (cwV 2 hts gX2_treeTold_X2_tr rfl rfl rfl (by decide +kernel) ⟨Nat.le_of_ble_eq_true rfl, Nat.le_of_ble_eq_true rfl⟩) (g_preV gEx_t hK [0, 1, 2] rfl hPc hDc (fun _ _ _ => trivial) (q0 := 0) (ci := 2) rfl rfl rfl) rfl rfl hl.1 rfl (lv_room (Nat.le_of_ble_eq_true rfl)) dX2_treeTold_32 ⟨Nat.le_of_ble_eq_true rfl, Nat.le_of_ble_eq_true rfl⟩) hPc hDc hS hA (fun κ9 H locs hk hP hD hS => ?_)
      have hP : va_P D vwCl (MW cI d σ) H := by have h9 : va_P D vwCl (MW cI d σ ++ []) H := hP; rw [List.append_nil] at h9; exact h9
      have hD : va_D A (MW cI d σ) := by have h9 : va_D A (MW cI d σ ++ []) := hD; rw [List.append_nil] at h9; exact h9
      show W p l e ({ frames := 2, cells := 0, slots := 0, locals := 44 } : Room) s m args below meth c H locs 0 0 (MQ below (gQ D (tyMs cI cZ cQ) (fun κ' => MW cI d σ) A (fun _ => some (.int (iI (mTold σ k0 w0)))) (fun _ => True)) args s 0 0 A) (F0 m 35 ls [.int (iI (σ 3 (5 * k0 + w0)))])
      have er : ((mTold σ k0 w0 : Int)) = (σ 3 (5 * k0 + w0)) := by unfold mTold; first | (rw [if_pos (by omega)]; done) | (rw [if_neg (by omega), if_pos (by omega)]; done) | (rw [if_neg (by omega), if_neg (by omega)]; done)
      exact g_iret (wo := (fun κ' => MW cI d σ)) (kr := (fun _ => True)) (rv := (fun _ => some (.int (iI (mTold σ k0 w0))))) hx hb hr hlocks (fun _ _ => 0) rfl hP hK hD hS trivial (by rw [er]) (Nat.le_of_ble_eq_true rfl) (Nat.le_of_ble_eq_true rfl) dX2_treeTold_35
    · skip
      refine lv_aload_n hx hb dX2_treeTold_16 rfl (lv_at hl 0 rfl) ?_
      refine lv_iload_n hx hb dX2_treeTold_17 rfl (lv_at hl 1 rfl) ?_
      refine lv_iconst (v := iI (0)) hx hb dX2_treeTold_18 rfl ?_
      have hPc : va_P D vwCl (MW cI d σ ++ []) H := by rw [List.append_nil]; exact hP
      have hDc : va_D A (MW cI d σ ++ []) := by rw [List.append_nil]; exact hD
      refine g_call (va_runV (As := [.int (iI (k0)), .int (iI (0))]) (rest := []) S ((kX2_tr l D cI cZ cQ d σ k0 0 (by first | assumption | omega) (by first | assumption | omega) (by first | assumption | omega) (by first | assumption | omega)) H.size) (cwV 2 hts gX2_treeTold_X2_tr rfl rfl rfl (by decide +kernel) ⟨Nat.le_of_ble_eq_true rfl, Nat.le_of_ble_eq_true rfl⟩) (g_preV gEx_t hK [0, 1, 2] rfl hPc hDc (fun _ _ _ => trivial) (q0 := 0) (ci := 2) rfl rfl rfl) rfl rfl hl.1 rfl (lv_room (Nat.le_of_ble_eq_true rfl)) dX2_treeTold_19 ⟨Nat.le_of_ble_eq_true rfl, Nat.le_of_ble_eq_true rfl⟩) hPc hDc hS hA (fun κ9 H locs hk hP hD hS => ?_)
      have hP : va_P D vwCl (MW cI d σ) H := by have h9 : va_P D vwCl (MW cI d σ ++ []) H := hP; rw [List.append_nil] at h9; exact h9
      have hD : va_D A (MW cI d σ) := by have h9 : va_D A (MW cI d σ ++ []) := hD; rw [List.append_nil] at h9; exact h9
      show W p l e ({ frames := 2, cells := 0, slots := 0, locals := 44 } : Room) s m args below meth c H locs 0 0 (MQ below (gQ D (tyMs cI cZ cQ) (fun κ' => MW cI d σ) A (fun _ => some (.int (iI (mTold σ k0 w0)))) (fun _ => True)) args s 0 0 A) (F0 m 22 ls [.int (iI (σ 3 (5 * k0 + 0)))])
      refine gi_if_ne (tgt := 29) hx hb dX2_treeTold_22 (by decide) ⟨by omega, by omega⟩ (fun c22 => ?_) (fun c22 => ?_)
      · skip
        refine lv_aload_n hx hb dX2_treeTold_29 rfl (lv_at hl 0 rfl) ?_
        refine lv_iload_n hx hb dX2_treeTold_30 rfl (lv_at hl 1 rfl) ?_
        refine lv_iload_n hx hb dX2_treeTold_31 rfl (lv_at hl 2 rfl) ?_
        have hPc : va_P D vwCl (MW cI d σ ++ []) H := by rw [List.append_nil]; exact hP
        have hDc : va_D A (MW cI d σ ++ []) := by rw [List.append_nil]; exact hD
        refine g_call (va_runV (As := [.int (iI (k0)), .int (iI (w0))]) (rest := []) S ((kX2_tr l D cI cZ cQ d σ k0 w0 (by first | assumption | omega) (by first | assumption | omega) (by first | assumption | omega) (by first | assumption | omega)) H.size) (cwV 2 hts gX2_treeTold_X2_tr rfl rfl rfl (by decide +kernel) ⟨Nat.le_of_ble_eq_true rfl, Nat.le_of_ble_eq_true rfl⟩) (g_preV gEx_t hK [0, 1, 2] rfl hPc hDc (fun _ _ _ => trivial) (q0 := 0) (ci := 2) rfl rfl rfl) rfl rfl hl.1 rfl (lv_room (Nat.le_of_ble_eq_true rfl)) dX2_treeTold_32 ⟨Nat.le_of_ble_eq_true rfl, Nat.le_of_ble_eq_true rfl⟩) hPc hDc hS hA (fun κ9 H locs hk hP hD hS => ?_)
        have hP : va_P D vwCl (MW cI d σ) H := by have h9 : va_P D vwCl (MW cI d σ ++ []) H := hP; rw [List.append_nil] at h9; exact h9
        have hD : va_D A (MW cI d σ) := by have h9 : va_D A (MW cI d σ ++ []) := hD; rw [List.append_nil] at h9; exact h9
        show W p l e ({ frames := 2, cells := 0, slots := 0, locals := 44 } : Room) s m args below meth c H locs 0 0 (MQ below (gQ D (tyMs cI cZ cQ) (fun κ' => MW cI d σ) A (fun _ => some (.int (iI (mTold σ k0 w0)))) (fun _ => True)) args s 0 0 A) (F0 m 35 ls [.int (iI (σ 3 (5 * k0 + w0)))])
        have er : ((mTold σ k0 w0 : Int)) = (σ 3 (5 * k0 + w0)) := by unfold mTold; first | (rw [if_pos (by omega)]; done) | (rw [if_neg (by omega), if_pos (by omega)]; done) | (rw [if_neg (by omega), if_neg (by omega)]; done)
        exact g_iret (wo := (fun κ' => MW cI d σ)) (kr := (fun _ => True)) (rv := (fun _ => some (.int (iI (mTold σ k0 w0))))) hx hb hr hlocks (fun _ _ => 0) rfl hP hK hD hS trivial (by rw [er]) (Nat.le_of_ble_eq_true rfl) (Nat.le_of_ble_eq_true rfl) dX2_treeTold_35
      · skip
        refine lv_iconst (v := iI (-1)) hx hb dX2_treeTold_25 rfl ?_
        refine lv_goto (tgt := 35) hx hb dX2_treeTold_26 (by decide) ?_
        have er : ((mTold σ k0 w0 : Int)) = (-1) := by unfold mTold; first | (rw [if_pos (by omega)]; done) | (rw [if_neg (by omega), if_pos (by omega)]; done) | (rw [if_neg (by omega), if_neg (by omega)]; done)
        exact g_iret (wo := (fun κ' => MW cI d σ)) (kr := (fun _ => True)) (rv := (fun _ => some (.int (iI (mTold σ k0 w0))))) hx hb hr hlocks (fun _ _ => 0) rfl hP hK hD hS trivial (by rw [er]) (Nat.le_of_ble_eq_true rfl) (Nat.le_of_ble_eq_true rfl) dX2_treeTold_35
  · skip
    refine lv_aload_n hx hb dX2_treeTold_5 rfl (lv_at hl 0 rfl) ?_
    refine lv_iload_n hx hb dX2_treeTold_6 rfl (lv_at hl 1 rfl) ?_
    have hPc : va_P D vwCl (MW cI d σ ++ []) H := by rw [List.append_nil]; exact hP
    have hDc : va_D A (MW cI d σ ++ []) := by rw [List.append_nil]; exact hD
    refine g_call (va_runV (As := [.int (iI (k0))]) (rest := []) S ((kX2_apples l D cI cZ cQ d σ k0 (by first | assumption | omega) (by first | assumption | omega) (by first | assumption | omega)) H.size) (cwV 1 hts gX2_treeTold_X2_apples rfl rfl rfl (by decide +kernel) ⟨Nat.le_of_ble_eq_true rfl, Nat.le_of_ble_eq_true rfl⟩) (g_preV gEx_t hK [0, 1, 2] rfl hPc hDc (fun _ _ _ => trivial) (q0 := 0) (ci := 2) rfl rfl rfl) rfl rfl hl.1 rfl (lv_room (Nat.le_of_ble_eq_true rfl)) dX2_treeTold_7 ⟨Nat.le_of_ble_eq_true rfl, Nat.le_of_ble_eq_true rfl⟩) hPc hDc hS hA (fun κ9 H locs hk hP hD hS => ?_)
    have hP : va_P D vwCl (MW cI d σ) H := by have h9 : va_P D vwCl (MW cI d σ ++ []) H := hP; rw [List.append_nil] at h9; exact h9
    have hD : va_D A (MW cI d σ) := by have h9 : va_D A (MW cI d σ ++ []) := hD; rw [List.append_nil] at h9; exact h9
    show W p l e ({ frames := 2, cells := 0, slots := 0, locals := 44 } : Room) s m args below meth c H locs 0 0 (MQ below (gQ D (tyMs cI cZ cQ) (fun κ' => MW cI d σ) A (fun _ => some (.int (iI (mTold σ k0 w0)))) (fun _ => True)) args s 0 0 A) (F0 m 10 ls [.int (iI (mAp σ k0))])
    have er : ((mTold σ k0 w0 : Int)) = (mAp σ k0) := by unfold mTold; first | (rw [if_pos (by omega)]; done) | (rw [if_neg (by omega), if_pos (by omega)]; done) | (rw [if_neg (by omega), if_neg (by omega)]; done)
    exact g_iret (wo := (fun κ' => MW cI d σ)) (kr := (fun _ => True)) (rv := (fun _ => some (.int (iI (mTold σ k0 w0))))) hx hb hr hlocks (fun _ _ => 0) rfl hP hK hD hS trivial (by rw [er]) (Nat.le_of_ble_eq_true rfl) (Nat.le_of_ble_eq_true rfl) dX2_treeTold_10
set_option maxHeartbeats 4000000 in
set_option maxRecDepth 100000 in
theorem kX2_tree (l : Launch) (D : va_G) (cI cZ cQ : ClassId) (d : Nat → Nat) (σ : St)  (r0 : Int) (p0 : Int) (w0 : Int) (hl_r0 : -2147483648 ≤ r0) (hh_r0 : r0 ≤ 2147483647) (hl_p0 : -2147483648 ≤ p0) (hh_p0 : p0 ≤ 2147483647) (hl_w0 : -2147483648 ≤ w0) (hh_w0 : w0 ≤ 2147483647) (hwf : mWF σ) : gMet l yX2_tree wsX2_tree ({ frames := 3, cells := 0, slots := 0, locals := 66 } : Room) D (tyMs cI cZ cQ) (MW cI d σ) [.ref (d 0), .int (iI r0), .int (iI p0), .int (iI w0)] (fun _ => True) (fun _ => some (.int (iI (mVal (tTree r0 p0 w0) (mTold σ (8 * r0 + p0) w0))))) (fun _ => True) (fun κ' => MW cI d (mRes (tTree r0 p0 w0) (mZ σ) σ)) := by
  refine g_start (cc := cX2_tree) (maxL := 4) (ret := (some .int)) (by decide) rfl (Nat.le_of_ble_eq_true rfl) ?_
  intro p e s m args below meth c A ls H locs S hr hlocks hname hP hK hD hA hS hE hl
  have S0 := S
  obtain ⟨hx, hb, hml, hown, hts⟩ := S0
  have hl : lv_has ls 4 [(0, .ref (d 0)), (1, .int (iI (r0))), (2, .int (iI (p0))), (3, .int (iI (w0)))] := hl
  have hinX2 : ∀ w ∈ wsX20, w ∈ wsX2_tree := by decide +kernel
  refine lv_aload_n hx hb dX2_tree_0 rfl (lv_at hl 0 rfl) ?_
  refine lv_iconst (v := iI (0)) hx hb dX2_tree_1 rfl ?_
  refine va_put (D := D) (ci := 2) (v := .int (iI (0))) (ty := .int) (C := RX2) (T := TX2) (N := 8) hx hb hts hinX2 tyX2 tyX2_ok nmX2 hown hK hP hD hS 0 rfl rfl 0 (by decide) (hts (.fieldLink RX2 28 "TwinOrchardModel" "thrown" "I") (List.mem_of_getElem? (i := 1) rfl)) (fun _ h9 => h9) rfl (by decide +kernel) rfl rfl (Nat.le_of_ble_eq_true rfl) dX2_tree_2 (fun H locs hP hD hS => ?_)
  have hP : va_P D vwCl (MW cI d (su σ 6 0 (0))) H := hP
  have hD : va_D A (MW cI d (su σ 6 0 (0))) := hD
  refine lv_iload_n hx hb dX2_tree_5 rfl (lv_at hl 1 rfl) ?_
  refine lv_iload_n hx hb dX2_tree_6 rfl (lv_at hl 2 rfl) ?_
  have hPc : va_P D vwCl ([] ++ (MW cI d (su σ 6 0 (0)))) H := hP
  have hDc : va_D A ([] ++ (MW cI d (su σ 6 0 (0)))) := hD
  refine g_call (va_runS (As := [.int (iI (r0)), .int (iI (p0))]) (rest := []) S ((kX2_isSpot l D  r0 p0 (by first | assumption | omega) (by first | assumption | omega) (by first | assumption | omega) (by first | assumption | omega)) H.size) (va_cwS 2 hts gX2_tree_X2_isSpot rfl rfl rfl (by decide +kernel) ⟨Nat.le_of_ble_eq_true rfl, Nat.le_of_ble_eq_true rfl⟩) (g_preS gEx_t hK [] rfl hPc hDc (fun _ _ _ => trivial)) rfl rfl hl.1 rfl (lv_room (Nat.le_of_ble_eq_true rfl)) dX2_tree_7 ⟨Nat.le_of_ble_eq_true rfl, Nat.le_of_ble_eq_true rfl⟩) hPc hDc hS hA (fun κ9 H locs hk hP hD hS => ?_)
  have hP : va_P D vwCl (MW cI d (su σ 6 0 (0))) H := hP
  have hD : va_D A (MW cI d (su σ 6 0 (0))) := hD
  show W p l e ({ frames := 3, cells := 0, slots := 0, locals := 66 } : Room) s m args below meth c H locs 0 0 (MQ below (gQ D (tyMs cI cZ cQ) (fun κ' => MW cI d (mRes (tTree r0 p0 w0) (mZ σ) σ)) A (fun _ => some (.int (iI (mVal (tTree r0 p0 w0) (mTold σ (8 * r0 + p0) w0))))) (fun _ => True)) args s 0 0 A) (F0 m 10 ls [.int (iI (bI ((0 ≤ r0 ∧ r0 ≤ 4) ∧ 0 ≤ p0 ∧ p0 ≤ 7)))])
  refine gb_if_eq (tgt := 36) hx hb dX2_tree_10 (by decide)  (fun c10 => ?_) (fun c10 => ?_)
  · skip
    refine lv_aload_n hx hb dX2_tree_36 rfl (lv_at hl 0 rfl) ?_
    refine lv_iconst (v := iI (1)) hx hb dX2_tree_37 rfl ?_
    have hPc : va_P D vwCl (MW cI d (su σ 6 0 (0)) ++ []) H := by rw [List.append_nil]; exact hP
    have hDc : va_D A (MW cI d (su σ 6 0 (0)) ++ []) := by rw [List.append_nil]; exact hD
    refine g_call (va_runV (As := [.int (iI (1))]) (rest := []) S ((kX2_fail l D cI cZ cQ d (su σ 6 0 (0)) 1 ) H.size) (cwV 1 hts gX2_tree_X2_fail rfl rfl rfl (by decide +kernel) ⟨Nat.le_of_ble_eq_true rfl, Nat.le_of_ble_eq_true rfl⟩) (g_preV gEx_t hK [0, 1, 2] rfl hPc hDc (fun _ _ _ => trivial) (q0 := 0) (ci := 2) rfl rfl rfl) rfl rfl hl.1 rfl (lv_room (Nat.le_of_ble_eq_true rfl)) dX2_tree_38 ⟨Nat.le_of_ble_eq_true rfl, Nat.le_of_ble_eq_true rfl⟩) hPc hDc hS hA (fun κ9 H locs hk hP hD hS => ?_)
    have hP : va_P D vwCl (MW cI d (su (su σ 6 0 (0)) 6 0 1)) H := by have h9 : va_P D vwCl (MW cI d (su (su σ 6 0 (0)) 6 0 1) ++ []) H := hP; rw [List.append_nil] at h9; exact h9
    have hD : va_D A (MW cI d (su (su σ 6 0 (0)) 6 0 1)) := by have h9 : va_D A (MW cI d (su (su σ 6 0 (0)) 6 0 1) ++ []) := hD; rw [List.append_nil] at h9; exact h9
    show W p l e ({ frames := 3, cells := 0, slots := 0, locals := 66 } : Room) s m args below meth c H locs 0 0 (MQ below (gQ D (tyMs cI cZ cQ) (fun κ' => MW cI d (mRes (tTree r0 p0 w0) (mZ σ) σ)) A (fun _ => some (.int (iI (mVal (tTree r0 p0 w0) (mTold σ (8 * r0 + p0) w0))))) (fun _ => True)) args s 0 0 A) (F0 m 41 ls [.int (iI (0))])
    have es : (mRes (tTree r0 p0 w0) (mZ σ) σ) = (su (su σ 6 0 (0)) 6 0 1) := by first | (rw [show tTree r0 p0 w0 = 1 from by unfold tTree; rw [if_pos (by omega)]]; rfl) | (rw [show tTree r0 p0 w0 = 0 from by unfold tTree; rw [if_neg (by omega)]]; rfl)
    have er : ((mVal (tTree r0 p0 w0) (mTold σ (8 * r0 + p0) w0) : Int)) = (0) := by first | (rw [show tTree r0 p0 w0 = 1 from by unfold tTree; rw [if_pos (by omega)]]; rfl) | (rw [show tTree r0 p0 w0 = 0 from by unfold tTree; rw [if_neg (by omega)]]; rfl)
    exact g_iret (wo := (fun κ' => MW cI d (mRes (tTree r0 p0 w0) (mZ σ) σ))) (kr := (fun _ => True)) (rv := (fun _ => some (.int (iI (mVal (tTree r0 p0 w0) (mTold σ (8 * r0 + p0) w0)))))) hx hb hr hlocks (fun _ _ => 0) rfl (by rw [es]; exact hP) hK (by rw [es]; exact hD) hS trivial (by rw [er]) (Nat.le_of_ble_eq_true rfl) (Nat.le_of_ble_eq_true rfl) dX2_tree_41
  · skip
    refine lv_iload_n hx hb dX2_tree_13 rfl (lv_at hl 3 rfl) ?_
    refine lv_iconst (v := iI (0)) hx hb dX2_tree_14 rfl ?_
    refine lv_iconst (v := iI (5)) hx hb dX2_tree_15 rfl ?_
    have hPc : va_P D vwCl ([] ++ (MW cI d (su σ 6 0 (0)))) H := hP
    have hDc : va_D A ([] ++ (MW cI d (su σ 6 0 (0)))) := hD
    refine g_call (va_runS (As := [.int (iI (w0)), .int (iI (0)), .int (iI (5))]) (rest := []) S ((kX2_isIn l D  w0 0 5 (by first | assumption | omega) (by first | assumption | omega) (by first | assumption | omega) (by first | assumption | omega) (by first | assumption | omega) (by first | assumption | omega)) H.size) (va_cwS 3 hts gX2_tree_X2_isIn rfl rfl rfl (by decide +kernel) ⟨Nat.le_of_ble_eq_true rfl, Nat.le_of_ble_eq_true rfl⟩) (g_preS gEx_t hK [] rfl hPc hDc (fun _ _ _ => trivial)) rfl rfl hl.1 rfl (lv_room (Nat.le_of_ble_eq_true rfl)) dX2_tree_16 ⟨Nat.le_of_ble_eq_true rfl, Nat.le_of_ble_eq_true rfl⟩) hPc hDc hS hA (fun κ9 H locs hk hP hD hS => ?_)
    have hP : va_P D vwCl (MW cI d (su σ 6 0 (0))) H := hP
    have hD : va_D A (MW cI d (su σ 6 0 (0))) := hD
    show W p l e ({ frames := 3, cells := 0, slots := 0, locals := 66 } : Room) s m args below meth c H locs 0 0 (MQ below (gQ D (tyMs cI cZ cQ) (fun κ' => MW cI d (mRes (tTree r0 p0 w0) (mZ σ) σ)) A (fun _ => some (.int (iI (mVal (tTree r0 p0 w0) (mTold σ (8 * r0 + p0) w0))))) (fun _ => True)) args s 0 0 A) (F0 m 19 ls [.int (iI (bI (0 ≤ w0 ∧ w0 ≤ 5)))])
    refine gb_if_eq (tgt := 36) hx hb dX2_tree_19 (by decide)  (fun c19 => ?_) (fun c19 => ?_)
    · skip
      refine lv_aload_n hx hb dX2_tree_36 rfl (lv_at hl 0 rfl) ?_
      refine lv_iconst (v := iI (1)) hx hb dX2_tree_37 rfl ?_
      have hPc : va_P D vwCl (MW cI d (su σ 6 0 (0)) ++ []) H := by rw [List.append_nil]; exact hP
      have hDc : va_D A (MW cI d (su σ 6 0 (0)) ++ []) := by rw [List.append_nil]; exact hD
      refine g_call (va_runV (As := [.int (iI (1))]) (rest := []) S ((kX2_fail l D cI cZ cQ d (su σ 6 0 (0)) 1 ) H.size) (cwV 1 hts gX2_tree_X2_fail rfl rfl rfl (by decide +kernel) ⟨Nat.le_of_ble_eq_true rfl, Nat.le_of_ble_eq_true rfl⟩) (g_preV gEx_t hK [0, 1, 2] rfl hPc hDc (fun _ _ _ => trivial) (q0 := 0) (ci := 2) rfl rfl rfl) rfl rfl hl.1 rfl (lv_room (Nat.le_of_ble_eq_true rfl)) dX2_tree_38 ⟨Nat.le_of_ble_eq_true rfl, Nat.le_of_ble_eq_true rfl⟩) hPc hDc hS hA (fun κ9 H locs hk hP hD hS => ?_)
      have hP : va_P D vwCl (MW cI d (su (su σ 6 0 (0)) 6 0 1)) H := by have h9 : va_P D vwCl (MW cI d (su (su σ 6 0 (0)) 6 0 1) ++ []) H := hP; rw [List.append_nil] at h9; exact h9
      have hD : va_D A (MW cI d (su (su σ 6 0 (0)) 6 0 1)) := by have h9 : va_D A (MW cI d (su (su σ 6 0 (0)) 6 0 1) ++ []) := hD; rw [List.append_nil] at h9; exact h9
      show W p l e ({ frames := 3, cells := 0, slots := 0, locals := 66 } : Room) s m args below meth c H locs 0 0 (MQ below (gQ D (tyMs cI cZ cQ) (fun κ' => MW cI d (mRes (tTree r0 p0 w0) (mZ σ) σ)) A (fun _ => some (.int (iI (mVal (tTree r0 p0 w0) (mTold σ (8 * r0 + p0) w0))))) (fun _ => True)) args s 0 0 A) (F0 m 41 ls [.int (iI (0))])
      have es : (mRes (tTree r0 p0 w0) (mZ σ) σ) = (su (su σ 6 0 (0)) 6 0 1) := by first | (rw [show tTree r0 p0 w0 = 1 from by unfold tTree; rw [if_pos (by omega)]]; rfl) | (rw [show tTree r0 p0 w0 = 0 from by unfold tTree; rw [if_neg (by omega)]]; rfl)
      have er : ((mVal (tTree r0 p0 w0) (mTold σ (8 * r0 + p0) w0) : Int)) = (0) := by first | (rw [show tTree r0 p0 w0 = 1 from by unfold tTree; rw [if_pos (by omega)]]; rfl) | (rw [show tTree r0 p0 w0 = 0 from by unfold tTree; rw [if_neg (by omega)]]; rfl)
      exact g_iret (wo := (fun κ' => MW cI d (mRes (tTree r0 p0 w0) (mZ σ) σ))) (kr := (fun _ => True)) (rv := (fun _ => some (.int (iI (mVal (tTree r0 p0 w0) (mTold σ (8 * r0 + p0) w0)))))) hx hb hr hlocks (fun _ _ => 0) rfl (by rw [es]; exact hP) hK (by rw [es]; exact hD) hS trivial (by rw [er]) (Nat.le_of_ble_eq_true rfl) (Nat.le_of_ble_eq_true rfl) dX2_tree_41
    · skip
      refine lv_aload_n hx hb dX2_tree_22 rfl (lv_at hl 0 rfl) ?_
      refine lv_bipush (v := iI (8)) hx hb dX2_tree_23 rfl ?_
      refine lv_iload_n hx hb dX2_tree_25 rfl (lv_at hl 1 rfl) ?_
      refine gi_mul hx hb dX2_tree_26 ?_
      refine lv_iload_n hx hb dX2_tree_27 rfl (lv_at hl 2 rfl) ?_
      refine gi_add hx hb dX2_tree_28 ?_
      refine lv_iload_n hx hb dX2_tree_29 rfl (lv_at hl 3 rfl) ?_
      have hPc : va_P D vwCl (MW cI d (su σ 6 0 (0)) ++ []) H := by rw [List.append_nil]; exact hP
      have hDc : va_D A (MW cI d (su σ 6 0 (0)) ++ []) := by rw [List.append_nil]; exact hD
      refine g_call (va_runV (As := [.int (iI ((8 * r0) + p0)), .int (iI (w0))]) (rest := []) S ((kX2_treeTold l D cI cZ cQ d (su σ 6 0 (0)) ((8 * r0) + p0) w0 (by first | assumption | omega) (by first | assumption | omega) (mWF_6 hwf _ _) (by first | assumption | omega) (by first | assumption | omega)) H.size) (cwV 2 hts gX2_tree_X2_treeTold rfl rfl rfl (by decide +kernel) ⟨Nat.le_of_ble_eq_true rfl, Nat.le_of_ble_eq_true rfl⟩) (g_preV gEx_t hK [0, 1, 2] rfl hPc hDc (fun _ _ _ => trivial) (q0 := 0) (ci := 2) rfl rfl rfl) rfl rfl hl.1 rfl (lv_room (Nat.le_of_ble_eq_true rfl)) dX2_tree_30 ⟨Nat.le_of_ble_eq_true rfl, Nat.le_of_ble_eq_true rfl⟩) hPc hDc hS hA (fun κ9 H locs hk hP hD hS => ?_)
      have hP : va_P D vwCl (MW cI d (su σ 6 0 (0))) H := by have h9 : va_P D vwCl (MW cI d (su σ 6 0 (0)) ++ []) H := hP; rw [List.append_nil] at h9; exact h9
      have hD : va_D A (MW cI d (su σ 6 0 (0))) := by have h9 : va_D A (MW cI d (su σ 6 0 (0)) ++ []) := hD; rw [List.append_nil] at h9; exact h9
      show W p l e ({ frames := 3, cells := 0, slots := 0, locals := 66 } : Room) s m args below meth c H locs 0 0 (MQ below (gQ D (tyMs cI cZ cQ) (fun κ' => MW cI d (mRes (tTree r0 p0 w0) (mZ σ) σ)) A (fun _ => some (.int (iI (mVal (tTree r0 p0 w0) (mTold σ (8 * r0 + p0) w0))))) (fun _ => True)) args s 0 0 A) (F0 m 33 ls [.int (iI (mTold (su σ 6 0 (0)) ((8 * r0) + p0) w0))])
      refine lv_goto (tgt := 41) hx hb dX2_tree_33 (by decide) ?_
      have es : (mRes (tTree r0 p0 w0) (mZ σ) σ) = (su σ 6 0 (0)) := by first | (rw [show tTree r0 p0 w0 = 1 from by unfold tTree; rw [if_pos (by omega)]]; rfl) | (rw [show tTree r0 p0 w0 = 0 from by unfold tTree; rw [if_neg (by omega)]]; rfl)
      have er : ((mVal (tTree r0 p0 w0) (mTold σ (8 * r0 + p0) w0) : Int)) = (mTold (su σ 6 0 (0)) ((8 * r0) + p0) w0) := by first | (rw [show tTree r0 p0 w0 = 1 from by unfold tTree; rw [if_pos (by omega)]]; rfl) | (rw [show tTree r0 p0 w0 = 0 from by unfold tTree; rw [if_neg (by omega)]]; rfl)
      exact g_iret (wo := (fun κ' => MW cI d (mRes (tTree r0 p0 w0) (mZ σ) σ))) (kr := (fun _ => True)) (rv := (fun _ => some (.int (iI (mVal (tTree r0 p0 w0) (mTold σ (8 * r0 + p0) w0)))))) hx hb hr hlocks (fun _ _ => 0) rfl (by rw [es]; exact hP) hK (by rw [es]; exact hD) hS trivial (by rw [er]) (Nat.le_of_ble_eq_true rfl) (Nat.le_of_ble_eq_true rfl) dX2_tree_41
set_option maxHeartbeats 4000000 in
set_option maxRecDepth 100000 in
theorem kX2_sortTold (l : Launch) (D : va_G) (cI cZ cQ : ClassId) (d : Nat → Nat) (σ : St)  (a0 : Int) (w0 : Int) (ha : 0 ≤ a0 ∧ a0 ≤ 5) (hw : 0 ≤ w0 ∧ w0 ≤ 3) (hwf : mWF σ) : gMet l yX2_sortTold wsX2_sortTold ({ frames := 1, cells := 0, slots := 0, locals := 22 } : Room) D (tyMs cI cZ cQ) (MW cI d σ) [.ref (d 0), .int (iI a0), .int (iI w0)] (fun _ => True) (fun _ => some (.int (iI (mSortT σ a0 w0)))) (fun _ => True) (fun κ' => MW cI d σ) := by
  refine g_start (cc := cX2_sortTold) (maxL := 5) (ret := (some .int)) (by decide) rfl (Nat.le_of_ble_eq_true rfl) ?_
  intro p e s m args below meth c A ls H locs S hr hlocks hname hP hK hD hA hS hE hl
  have S0 := S
  obtain ⟨hx, hb, hml, hown, hts⟩ := S0
  have hl : lv_has ls 5 [(0, .ref (d 0)), (1, .int (iI (a0))), (2, .int (iI (w0)))] := hl
  have hinX2 : ∀ w ∈ wsX20, w ∈ wsX2_sortTold := by decide +kernel
  refine lv_iconst (v := iI (0)) hx hb dX2_sortTold_0 rfl ?_
  refine lv_istore_n (lv' := [(3, .int (iI (0))), (0, .ref (d 0)), (1, .int (iI (a0))), (2, .int (iI (w0)))]) hx hb dX2_sortTold_1 rfl hl (by decide) rfl (fun ls hl => ?_)
  refine lv_iload_n hx hb dX2_sortTold_2 rfl (lv_at hl 3 rfl) ?_
  refine lv_iconst (v := iI (3)) hx hb dX2_sortTold_3 rfl ?_
  refine gi_icmp_ge (tgt := 41) hx hb dX2_sortTold_4 (by decide) ⟨by omega, by omega⟩ ⟨by decide, by decide⟩ (fun c4 => ?_) (fun c4 => ?_)
  · skip
    refine lv_iconst (v := iI (0)) hx hb dX2_sortTold_41 rfl ?_
    refine lv_istore (lv' := [(4, .int (iI (0))), (3, .int (iI (0))), (0, .ref (d 0)), (1, .int (iI (a0))), (2, .int (iI (w0)))]) hx hb dX2_sortTold_42 hl (by decide) rfl (fun ls hl => ?_)
    have loop44 : ∀ (n44 : Nat) (i : Int) (a : Int), (0 ≤ i) → (i ≤ 40) → (40 - i < (n44 : Int)) → (a = isumI (fun k => bI (σ 3 (5 * k + 0) = 1 ∧ σ 3 (5 * k + 3) = a0)) i) → ∀ (H : Heap) (locs : List Loc) (ls : Array Slot), va_P D vwCl (MW cI d σ) H → va_D A (MW cI d σ) → va_S A s.heap H locs → lv_has ls 5 [(4, .int (iI (i))), (3, .int (iI (a))), (0, .ref (d 0)), (1, .int (iI (a0))), (2, .int (iI (w0)))] → W p l e ({ frames := 1, cells := 0, slots := 0, locals := 22 } : Room) s m args below meth c H locs 0 0 (MQ below (gQ D (tyMs cI cZ cQ) (fun κ' => MW cI d σ) A (fun _ => some (.int (iI (mSortT σ a0 w0)))) (fun _ => True)) args s 0 0 A) (F0 m 44 ls []) := by
      intro n44
      induction n44 with
      | zero =>
        intro i a  hlo44 hhi44 hm44
        omega
      | succ n44 ih44 =>
        intro i a  hlo44 hhi44 hm44 ia44 H locs ls hP hD hS hl
        obtain ⟨tk0, tk1, tk2, tk3, tk4⟩ := mWF_t hwf i
        refine lv_iload hx hb dX2_sortTold_44 (lv_at hl 0 rfl) ?_
        refine lv_bipush (v := iI (40)) hx hb dX2_sortTold_46 rfl ?_
        refine gi_icmp_ge (tgt := 87) hx hb dX2_sortTold_48 (by decide) ⟨by omega, by omega⟩ ⟨by decide, by decide⟩ (fun c48 => ?_) (fun c48 => ?_)
        · skip
          refine lv_iload_n hx hb dX2_sortTold_87 rfl (lv_at hl 1 rfl) ?_
          have er : ((mSortT σ a0 w0 : Int)) = (a) := by unfold mSortT; first | (rw [if_pos (by omega)]; done) | (rw [if_neg (by omega), if_pos (by omega)]; done) | (rw [if_neg (by omega), if_neg (by omega), if_pos (by omega)]; done) | (rw [if_neg (by omega), if_neg (by omega), if_neg (by omega), ia44, show i = 40 by omega]; done)
          exact g_iret (wo := (fun κ' => MW cI d σ)) (kr := (fun _ => True)) (rv := (fun _ => some (.int (iI (mSortT σ a0 w0))))) hx hb hr hlocks (fun _ _ => 0) rfl hP hK hD hS trivial (by rw [er]) (Nat.le_of_ble_eq_true rfl) (Nat.le_of_ble_eq_true rfl) dX2_sortTold_88
        · skip
          refine lv_iload_n hx hb dX2_sortTold_51 rfl (lv_at hl 1 rfl) ?_
          refine lv_aload_n hx hb dX2_sortTold_52 rfl (lv_at hl 2 rfl) ?_
          refine lv_iload hx hb dX2_sortTold_53 (lv_at hl 0 rfl) ?_
          refine lv_iconst (v := iI (0)) hx hb dX2_sortTold_55 rfl ?_
          have hPc : va_P D vwCl (MW cI d σ ++ []) H := by rw [List.append_nil]; exact hP
          have hDc : va_D A (MW cI d σ ++ []) := by rw [List.append_nil]; exact hD
          refine g_call (va_runV (As := [.int (iI (i)), .int (iI (0))]) (rest := [.int (iI (a))]) S ((kX2_tr l D cI cZ cQ d σ i 0 (by first | assumption | omega) (by first | assumption | omega) (by first | assumption | omega) (by first | assumption | omega)) H.size) (cwV 2 hts gX2_sortTold_X2_tr rfl rfl rfl (by decide +kernel) ⟨Nat.le_of_ble_eq_true rfl, Nat.le_of_ble_eq_true rfl⟩) (g_preV gEx_t hK [0, 1, 2] rfl hPc hDc (fun _ _ _ => trivial) (q0 := 0) (ci := 2) rfl rfl rfl) rfl rfl hl.1 rfl (lv_room (Nat.le_of_ble_eq_true rfl)) dX2_sortTold_56 ⟨Nat.le_of_ble_eq_true rfl, Nat.le_of_ble_eq_true rfl⟩) hPc hDc hS hA (fun κ9 H locs hk hP hD hS => ?_)
          have hP : va_P D vwCl (MW cI d σ) H := by have h9 : va_P D vwCl (MW cI d σ ++ []) H := hP; rw [List.append_nil] at h9; exact h9
          have hD : va_D A (MW cI d σ) := by have h9 : va_D A (MW cI d σ ++ []) := hD; rw [List.append_nil] at h9; exact h9
          show W p l e ({ frames := 1, cells := 0, slots := 0, locals := 22 } : Room) s m args below meth c H locs 0 0 (MQ below (gQ D (tyMs cI cZ cQ) (fun κ' => MW cI d σ) A (fun _ => some (.int (iI (mSortT σ a0 w0)))) (fun _ => True)) args s 0 0 A) (F0 m 59 ls [.int (iI (σ 3 (5 * i + 0))), .int (iI (a))])
          refine lv_iconst (v := iI (1)) hx hb dX2_sortTold_59 rfl ?_
          refine gi_icmp_ne (tgt := 78) hx hb dX2_sortTold_60 (by decide) ⟨by omega, by omega⟩ ⟨by decide, by decide⟩ (fun c60 => ?_) (fun c60 => ?_)
          · skip
            refine lv_iconst (v := iI (0)) hx hb dX2_sortTold_78 rfl ?_
            refine gi_add hx hb dX2_sortTold_79 ?_
            refine lv_istore_n (lv' := [(3, .int (iI (a + 0))), (4, .int (iI (i))), (0, .ref (d 0)), (1, .int (iI (a0))), (2, .int (iI (w0)))]) hx hb dX2_sortTold_80 rfl hl (by decide) rfl (fun ls hl => ?_)
            refine lv_iinc (v := iI (i + 1)) (lv' := [(4, .int (iI (i + 1))), (3, .int (iI (a + 0))), (0, .ref (d 0)), (1, .int (iI (a0))), (2, .int (iI (w0)))]) hx hb dX2_sortTold_81 hl (k := 1) rfl (iI_add _ _) (by decide) rfl (fun ls hl => ?_)
            refine lv_goto (tgt := 44) hx hb dX2_sortTold_84 (by decide) ?_
            exact ih44 (i + 1) (a + 0)  (by omega) (by omega) (by omega) (by rw [isumI_s _ hlo44, ia44]; first | (rw [bI_t (by omega)]; done) | (rw [bI_f (by omega)]; done)) H locs ls hP hD hS (lv_sub hl [0, 1, 2, 3, 4] rfl)
          · skip
            refine lv_aload_n hx hb dX2_sortTold_63 rfl (lv_at hl 2 rfl) ?_
            refine lv_iload hx hb dX2_sortTold_64 (lv_at hl 0 rfl) ?_
            refine lv_iconst (v := iI (3)) hx hb dX2_sortTold_66 rfl ?_
            have hPc : va_P D vwCl (MW cI d σ ++ []) H := by rw [List.append_nil]; exact hP
            have hDc : va_D A (MW cI d σ ++ []) := by rw [List.append_nil]; exact hD
            refine g_call (va_runV (As := [.int (iI (i)), .int (iI (3))]) (rest := [.int (iI (a))]) S ((kX2_tr l D cI cZ cQ d σ i 3 (by first | assumption | omega) (by first | assumption | omega) (by first | assumption | omega) (by first | assumption | omega)) H.size) (cwV 2 hts gX2_sortTold_X2_tr rfl rfl rfl (by decide +kernel) ⟨Nat.le_of_ble_eq_true rfl, Nat.le_of_ble_eq_true rfl⟩) (g_preV gEx_t hK [0, 1, 2] rfl hPc hDc (fun _ _ _ => trivial) (q0 := 0) (ci := 2) rfl rfl rfl) rfl rfl hl.1 rfl (lv_room (Nat.le_of_ble_eq_true rfl)) dX2_sortTold_67 ⟨Nat.le_of_ble_eq_true rfl, Nat.le_of_ble_eq_true rfl⟩) hPc hDc hS hA (fun κ9 H locs hk hP hD hS => ?_)
            have hP : va_P D vwCl (MW cI d σ) H := by have h9 : va_P D vwCl (MW cI d σ ++ []) H := hP; rw [List.append_nil] at h9; exact h9
            have hD : va_D A (MW cI d σ) := by have h9 : va_D A (MW cI d σ ++ []) := hD; rw [List.append_nil] at h9; exact h9
            show W p l e ({ frames := 1, cells := 0, slots := 0, locals := 22 } : Room) s m args below meth c H locs 0 0 (MQ below (gQ D (tyMs cI cZ cQ) (fun κ' => MW cI d σ) A (fun _ => some (.int (iI (mSortT σ a0 w0)))) (fun _ => True)) args s 0 0 A) (F0 m 70 ls [.int (iI (σ 3 (5 * i + 3))), .int (iI (a))])
            refine lv_iload_n hx hb dX2_sortTold_70 rfl (lv_at hl 3 rfl) ?_
            refine gi_icmp_ne (tgt := 78) hx hb dX2_sortTold_71 (by decide) ⟨by omega, by omega⟩ ⟨by omega, by omega⟩ (fun c71 => ?_) (fun c71 => ?_)
            · skip
              refine lv_iconst (v := iI (0)) hx hb dX2_sortTold_78 rfl ?_
              refine gi_add hx hb dX2_sortTold_79 ?_
              refine lv_istore_n (lv' := [(3, .int (iI (a + 0))), (4, .int (iI (i))), (0, .ref (d 0)), (1, .int (iI (a0))), (2, .int (iI (w0)))]) hx hb dX2_sortTold_80 rfl hl (by decide) rfl (fun ls hl => ?_)
              refine lv_iinc (v := iI (i + 1)) (lv' := [(4, .int (iI (i + 1))), (3, .int (iI (a + 0))), (0, .ref (d 0)), (1, .int (iI (a0))), (2, .int (iI (w0)))]) hx hb dX2_sortTold_81 hl (k := 1) rfl (iI_add _ _) (by decide) rfl (fun ls hl => ?_)
              refine lv_goto (tgt := 44) hx hb dX2_sortTold_84 (by decide) ?_
              exact ih44 (i + 1) (a + 0)  (by omega) (by omega) (by omega) (by rw [isumI_s _ hlo44, ia44]; first | (rw [bI_t (by omega)]; done) | (rw [bI_f (by omega)]; done)) H locs ls hP hD hS (lv_sub hl [0, 1, 2, 3, 4] rfl)
            · skip
              refine lv_iconst (v := iI (1)) hx hb dX2_sortTold_74 rfl ?_
              refine lv_goto (tgt := 79) hx hb dX2_sortTold_75 (by decide) ?_
              refine gi_add hx hb dX2_sortTold_79 ?_
              refine lv_istore_n (lv' := [(3, .int (iI (a + 1))), (4, .int (iI (i))), (0, .ref (d 0)), (1, .int (iI (a0))), (2, .int (iI (w0)))]) hx hb dX2_sortTold_80 rfl hl (by decide) rfl (fun ls hl => ?_)
              refine lv_iinc (v := iI (i + 1)) (lv' := [(4, .int (iI (i + 1))), (3, .int (iI (a + 1))), (0, .ref (d 0)), (1, .int (iI (a0))), (2, .int (iI (w0)))]) hx hb dX2_sortTold_81 hl (k := 1) rfl (iI_add _ _) (by decide) rfl (fun ls hl => ?_)
              refine lv_goto (tgt := 44) hx hb dX2_sortTold_84 (by decide) ?_
              exact ih44 (i + 1) (a + 1)  (by omega) (by omega) (by omega) (by rw [isumI_s _ hlo44, ia44]; first | (rw [bI_t (by omega)]; done) | (rw [bI_f (by omega)]; done)) H locs ls hP hD hS (lv_sub hl [0, 1, 2, 3, 4] rfl)
    exact loop44 (((40 - (0) + 1 : Int)).toNat) 0 0  (by omega) (by omega) (by omega) (by rw [isumI_0]) H locs ls hP hD hS (lv_sub hl [0, 1, 2, 3, 4] rfl)
  · skip
    refine lv_iload_n hx hb dX2_sortTold_7 rfl (lv_at hl 3 rfl) ?_
    refine gi_if_ne (tgt := 20) hx hb dX2_sortTold_8 (by decide) ⟨by omega, by omega⟩ (fun c8 => ?_) (fun c8 => ?_)
    · skip
      refine lv_iload_n hx hb dX2_sortTold_20 rfl (lv_at hl 3 rfl) ?_
      refine lv_iconst (v := iI (1)) hx hb dX2_sortTold_21 rfl ?_
      refine gi_icmp_ne (tgt := 34) hx hb dX2_sortTold_22 (by decide) ⟨by omega, by omega⟩ ⟨by decide, by decide⟩ (fun c22 => ?_) (fun c22 => ?_)
      · skip
        refine lv_aload_n hx hb dX2_sortTold_34 rfl (lv_at hl 1 rfl) ?_
        refine va_get (D := D) (ci := 2) (v := .ref (d 5)) (C := RX2) (T := TX2) (N := 8) hx hb hts hinX2 hown hK hP 0 rfl rfl 5 (by decide) (hts (.fieldLink RX2 22 "TwinOrchardModel" "barn" "[I") (List.mem_of_getElem? (i := 3) rfl)) (fun _ h9 => h9) rfl dX2_sortTold_35 ?_
        refine lv_iload_n hx hb dX2_sortTold_38 rfl (lv_at hl 2 rfl) ?_
        refine gi_iald (a := d 5) (n := 6) (f := σ 4) hx hb hK hP 5 0 rfl rfl (by omega) (by omega) (by decide) dX2_sortTold_39 ?_
        have er : ((mSortT σ a0 w0 : Int)) = (σ 4 a0) := by unfold mSortT; first | (rw [if_pos (by omega)]; done) | (rw [if_neg (by omega), if_pos (by omega)]; done) | (rw [if_neg (by omega), if_neg (by omega), if_pos (by omega)]; done) | (rw [if_neg (by omega), if_neg (by omega), if_neg (by omega), ia44, show i = 40 by omega]; done)
        exact g_iret (wo := (fun κ' => MW cI d σ)) (kr := (fun _ => True)) (rv := (fun _ => some (.int (iI (mSortT σ a0 w0))))) hx hb hr hlocks (fun _ _ => 0) rfl hP hK hD hS trivial (by rw [er]) (Nat.le_of_ble_eq_true rfl) (Nat.le_of_ble_eq_true rfl) dX2_sortTold_40
      · skip
        refine lv_aload_n hx hb dX2_sortTold_25 rfl (lv_at hl 1 rfl) ?_
        refine va_get (D := D) (ci := 2) (v := .ref (d 2)) (C := RX2) (T := TX2) (N := 8) hx hb hts hinX2 hown hK hP 0 rfl rfl 2 (by decide) (hts (.fieldLink RX2 13 "TwinOrchardModel" "bears" "[I") (List.mem_of_getElem? (i := 2) rfl)) (fun _ h9 => h9) rfl dX2_sortTold_26 ?_
        refine lv_iload_n hx hb dX2_sortTold_29 rfl (lv_at hl 2 rfl) ?_
        refine gi_iald (a := d 2) (n := 6) (f := σ 1) hx hb hK hP 2 0 rfl rfl (by omega) (by omega) (by decide) dX2_sortTold_30 ?_
        refine lv_goto (tgt := 40) hx hb dX2_sortTold_31 (by decide) ?_
        have er : ((mSortT σ a0 w0 : Int)) = (σ 1 a0) := by unfold mSortT; first | (rw [if_pos (by omega)]; done) | (rw [if_neg (by omega), if_pos (by omega)]; done) | (rw [if_neg (by omega), if_neg (by omega), if_pos (by omega)]; done) | (rw [if_neg (by omega), if_neg (by omega), if_neg (by omega), ia44, show i = 40 by omega]; done)
        exact g_iret (wo := (fun κ' => MW cI d σ)) (kr := (fun _ => True)) (rv := (fun _ => some (.int (iI (mSortT σ a0 w0))))) hx hb hr hlocks (fun _ _ => 0) rfl hP hK hD hS trivial (by rw [er]) (Nat.le_of_ble_eq_true rfl) (Nat.le_of_ble_eq_true rfl) dX2_sortTold_40
    · skip
      refine lv_aload_n hx hb dX2_sortTold_11 rfl (lv_at hl 1 rfl) ?_
      refine va_get (D := D) (ci := 2) (v := .ref (d 1)) (C := RX2) (T := TX2) (N := 8) hx hb hts hinX2 hown hK hP 0 rfl rfl 1 (by decide) (hts (.fieldLink RX2 9 "TwinOrchardModel" "weights" "[I") (List.mem_of_getElem? (i := 1) rfl)) (fun _ h9 => h9) rfl dX2_sortTold_12 ?_
      refine lv_iload_n hx hb dX2_sortTold_15 rfl (lv_at hl 2 rfl) ?_
      refine gi_iald (a := d 1) (n := 6) (f := σ 0) hx hb hK hP 1 0 rfl rfl (by omega) (by omega) (by decide) dX2_sortTold_16 ?_
      refine lv_goto (tgt := 40) hx hb dX2_sortTold_17 (by decide) ?_
      have er : ((mSortT σ a0 w0 : Int)) = (σ 0 a0) := by unfold mSortT; first | (rw [if_pos (by omega)]; done) | (rw [if_neg (by omega), if_pos (by omega)]; done) | (rw [if_neg (by omega), if_neg (by omega), if_pos (by omega)]; done) | (rw [if_neg (by omega), if_neg (by omega), if_neg (by omega), ia44, show i = 40 by omega]; done)
      exact g_iret (wo := (fun κ' => MW cI d σ)) (kr := (fun _ => True)) (rv := (fun _ => some (.int (iI (mSortT σ a0 w0))))) hx hb hr hlocks (fun _ _ => 0) rfl hP hK hD hS trivial (by rw [er]) (Nat.le_of_ble_eq_true rfl) (Nat.le_of_ble_eq_true rfl) dX2_sortTold_40
set_option maxHeartbeats 4000000 in
set_option maxRecDepth 100000 in
theorem kX2_sort (l : Launch) (D : va_G) (cI cZ cQ : ClassId) (d : Nat → Nat) (σ : St)  (a0 : Int) (w0 : Int) (hl_a0 : -2147483648 ≤ a0) (hh_a0 : a0 ≤ 2147483647) (hl_w0 : -2147483648 ≤ w0) (hh_w0 : w0 ≤ 2147483647) (hwf : mWF σ) : gMet l yX2_sort wsX2_sort ({ frames := 2, cells := 0, slots := 0, locals := 46 } : Room) D (tyMs cI cZ cQ) (MW cI d σ) [.ref (d 0), .int (iI a0), .int (iI w0)] (fun _ => True) (fun _ => some (.int (iI (mVal (tSort a0 w0) (mSortT σ a0 w0))))) (fun _ => True) (fun κ' => MW cI d (mRes (tSort a0 w0) (mZ σ) σ)) := by
  refine g_start (cc := cX2_sort) (maxL := 3) (ret := (some .int)) (by decide) rfl (Nat.le_of_ble_eq_true rfl) ?_
  intro p e s m args below meth c A ls H locs S hr hlocks hname hP hK hD hA hS hE hl
  have S0 := S
  obtain ⟨hx, hb, hml, hown, hts⟩ := S0
  have hl : lv_has ls 3 [(0, .ref (d 0)), (1, .int (iI (a0))), (2, .int (iI (w0)))] := hl
  have hinX2 : ∀ w ∈ wsX20, w ∈ wsX2_sort := by decide +kernel
  refine lv_aload_n hx hb dX2_sort_0 rfl (lv_at hl 0 rfl) ?_
  refine lv_iconst (v := iI (0)) hx hb dX2_sort_1 rfl ?_
  refine va_put (D := D) (ci := 2) (v := .int (iI (0))) (ty := .int) (C := RX2) (T := TX2) (N := 8) hx hb hts hinX2 tyX2 tyX2_ok nmX2 hown hK hP hD hS 0 rfl rfl 0 (by decide) (hts (.fieldLink RX2 28 "TwinOrchardModel" "thrown" "I") (List.mem_of_getElem? (i := 1) rfl)) (fun _ h9 => h9) rfl (by decide +kernel) rfl rfl (Nat.le_of_ble_eq_true rfl) dX2_sort_2 (fun H locs hP hD hS => ?_)
  have hP : va_P D vwCl (MW cI d (su σ 6 0 (0))) H := hP
  have hD : va_D A (MW cI d (su σ 6 0 (0))) := hD
  refine lv_iload_n hx hb dX2_sort_5 rfl (lv_at hl 1 rfl) ?_
  have hPc : va_P D vwCl ([] ++ (MW cI d (su σ 6 0 (0)))) H := hP
  have hDc : va_D A ([] ++ (MW cI d (su σ 6 0 (0)))) := hD
  refine g_call (va_runS (As := [.int (iI (a0))]) (rest := []) S ((kX2_isSort l D  a0 (by first | assumption | omega) (by first | assumption | omega)) H.size) (va_cwS 1 hts gX2_sort_X2_isSort rfl rfl rfl (by decide +kernel) ⟨Nat.le_of_ble_eq_true rfl, Nat.le_of_ble_eq_true rfl⟩) (g_preS gEx_t hK [] rfl hPc hDc (fun _ _ _ => trivial)) rfl rfl hl.1 rfl (lv_room (Nat.le_of_ble_eq_true rfl)) dX2_sort_6 ⟨Nat.le_of_ble_eq_true rfl, Nat.le_of_ble_eq_true rfl⟩) hPc hDc hS hA (fun κ9 H locs hk hP hD hS => ?_)
  have hP : va_P D vwCl (MW cI d (su σ 6 0 (0))) H := hP
  have hD : va_D A (MW cI d (su σ 6 0 (0))) := hD
  show W p l e ({ frames := 2, cells := 0, slots := 0, locals := 46 } : Room) s m args below meth c H locs 0 0 (MQ below (gQ D (tyMs cI cZ cQ) (fun κ' => MW cI d (mRes (tSort a0 w0) (mZ σ) σ)) A (fun _ => some (.int (iI (mVal (tSort a0 w0) (mSortT σ a0 w0))))) (fun _ => True)) args s 0 0 A) (F0 m 9 ls [.int (iI (bI (0 ≤ a0 ∧ a0 ≤ 5)))])
  refine gb_if_eq (tgt := 30) hx hb dX2_sort_9 (by decide)  (fun c9 => ?_) (fun c9 => ?_)
  · skip
    refine lv_aload_n hx hb dX2_sort_30 rfl (lv_at hl 0 rfl) ?_
    refine lv_iconst (v := iI (1)) hx hb dX2_sort_31 rfl ?_
    have hPc : va_P D vwCl (MW cI d (su σ 6 0 (0)) ++ []) H := by rw [List.append_nil]; exact hP
    have hDc : va_D A (MW cI d (su σ 6 0 (0)) ++ []) := by rw [List.append_nil]; exact hD
    refine g_call (va_runV (As := [.int (iI (1))]) (rest := []) S ((kX2_fail l D cI cZ cQ d (su σ 6 0 (0)) 1 ) H.size) (cwV 1 hts gX2_sort_X2_fail rfl rfl rfl (by decide +kernel) ⟨Nat.le_of_ble_eq_true rfl, Nat.le_of_ble_eq_true rfl⟩) (g_preV gEx_t hK [0, 1, 2] rfl hPc hDc (fun _ _ _ => trivial) (q0 := 0) (ci := 2) rfl rfl rfl) rfl rfl hl.1 rfl (lv_room (Nat.le_of_ble_eq_true rfl)) dX2_sort_32 ⟨Nat.le_of_ble_eq_true rfl, Nat.le_of_ble_eq_true rfl⟩) hPc hDc hS hA (fun κ9 H locs hk hP hD hS => ?_)
    have hP : va_P D vwCl (MW cI d (su (su σ 6 0 (0)) 6 0 1)) H := by have h9 : va_P D vwCl (MW cI d (su (su σ 6 0 (0)) 6 0 1) ++ []) H := hP; rw [List.append_nil] at h9; exact h9
    have hD : va_D A (MW cI d (su (su σ 6 0 (0)) 6 0 1)) := by have h9 : va_D A (MW cI d (su (su σ 6 0 (0)) 6 0 1) ++ []) := hD; rw [List.append_nil] at h9; exact h9
    show W p l e ({ frames := 2, cells := 0, slots := 0, locals := 46 } : Room) s m args below meth c H locs 0 0 (MQ below (gQ D (tyMs cI cZ cQ) (fun κ' => MW cI d (mRes (tSort a0 w0) (mZ σ) σ)) A (fun _ => some (.int (iI (mVal (tSort a0 w0) (mSortT σ a0 w0))))) (fun _ => True)) args s 0 0 A) (F0 m 35 ls [.int (iI (0))])
    have es : (mRes (tSort a0 w0) (mZ σ) σ) = (su (su σ 6 0 (0)) 6 0 1) := by first | (rw [show tSort a0 w0 = 1 from by unfold tSort; rw [if_pos (by omega)]]; rfl) | (rw [show tSort a0 w0 = 0 from by unfold tSort; rw [if_neg (by omega)]]; rfl)
    have er : ((mVal (tSort a0 w0) (mSortT σ a0 w0) : Int)) = (0) := by first | (rw [show tSort a0 w0 = 1 from by unfold tSort; rw [if_pos (by omega)]]; rfl) | (rw [show tSort a0 w0 = 0 from by unfold tSort; rw [if_neg (by omega)]]; rfl)
    exact g_iret (wo := (fun κ' => MW cI d (mRes (tSort a0 w0) (mZ σ) σ))) (kr := (fun _ => True)) (rv := (fun _ => some (.int (iI (mVal (tSort a0 w0) (mSortT σ a0 w0)))))) hx hb hr hlocks (fun _ _ => 0) rfl (by rw [es]; exact hP) hK (by rw [es]; exact hD) hS trivial (by rw [er]) (Nat.le_of_ble_eq_true rfl) (Nat.le_of_ble_eq_true rfl) dX2_sort_35
  · skip
    refine lv_iload_n hx hb dX2_sort_12 rfl (lv_at hl 2 rfl) ?_
    refine lv_iconst (v := iI (0)) hx hb dX2_sort_13 rfl ?_
    refine lv_iconst (v := iI (3)) hx hb dX2_sort_14 rfl ?_
    have hPc : va_P D vwCl ([] ++ (MW cI d (su σ 6 0 (0)))) H := hP
    have hDc : va_D A ([] ++ (MW cI d (su σ 6 0 (0)))) := hD
    refine g_call (va_runS (As := [.int (iI (w0)), .int (iI (0)), .int (iI (3))]) (rest := []) S ((kX2_isIn l D  w0 0 3 (by first | assumption | omega) (by first | assumption | omega) (by first | assumption | omega) (by first | assumption | omega) (by first | assumption | omega) (by first | assumption | omega)) H.size) (va_cwS 3 hts gX2_sort_X2_isIn rfl rfl rfl (by decide +kernel) ⟨Nat.le_of_ble_eq_true rfl, Nat.le_of_ble_eq_true rfl⟩) (g_preS gEx_t hK [] rfl hPc hDc (fun _ _ _ => trivial)) rfl rfl hl.1 rfl (lv_room (Nat.le_of_ble_eq_true rfl)) dX2_sort_15 ⟨Nat.le_of_ble_eq_true rfl, Nat.le_of_ble_eq_true rfl⟩) hPc hDc hS hA (fun κ9 H locs hk hP hD hS => ?_)
    have hP : va_P D vwCl (MW cI d (su σ 6 0 (0))) H := hP
    have hD : va_D A (MW cI d (su σ 6 0 (0))) := hD
    show W p l e ({ frames := 2, cells := 0, slots := 0, locals := 46 } : Room) s m args below meth c H locs 0 0 (MQ below (gQ D (tyMs cI cZ cQ) (fun κ' => MW cI d (mRes (tSort a0 w0) (mZ σ) σ)) A (fun _ => some (.int (iI (mVal (tSort a0 w0) (mSortT σ a0 w0))))) (fun _ => True)) args s 0 0 A) (F0 m 18 ls [.int (iI (bI (0 ≤ w0 ∧ w0 ≤ 3)))])
    refine gb_if_eq (tgt := 30) hx hb dX2_sort_18 (by decide)  (fun c18 => ?_) (fun c18 => ?_)
    · skip
      refine lv_aload_n hx hb dX2_sort_30 rfl (lv_at hl 0 rfl) ?_
      refine lv_iconst (v := iI (1)) hx hb dX2_sort_31 rfl ?_
      have hPc : va_P D vwCl (MW cI d (su σ 6 0 (0)) ++ []) H := by rw [List.append_nil]; exact hP
      have hDc : va_D A (MW cI d (su σ 6 0 (0)) ++ []) := by rw [List.append_nil]; exact hD
      refine g_call (va_runV (As := [.int (iI (1))]) (rest := []) S ((kX2_fail l D cI cZ cQ d (su σ 6 0 (0)) 1 ) H.size) (cwV 1 hts gX2_sort_X2_fail rfl rfl rfl (by decide +kernel) ⟨Nat.le_of_ble_eq_true rfl, Nat.le_of_ble_eq_true rfl⟩) (g_preV gEx_t hK [0, 1, 2] rfl hPc hDc (fun _ _ _ => trivial) (q0 := 0) (ci := 2) rfl rfl rfl) rfl rfl hl.1 rfl (lv_room (Nat.le_of_ble_eq_true rfl)) dX2_sort_32 ⟨Nat.le_of_ble_eq_true rfl, Nat.le_of_ble_eq_true rfl⟩) hPc hDc hS hA (fun κ9 H locs hk hP hD hS => ?_)
      have hP : va_P D vwCl (MW cI d (su (su σ 6 0 (0)) 6 0 1)) H := by have h9 : va_P D vwCl (MW cI d (su (su σ 6 0 (0)) 6 0 1) ++ []) H := hP; rw [List.append_nil] at h9; exact h9
      have hD : va_D A (MW cI d (su (su σ 6 0 (0)) 6 0 1)) := by have h9 : va_D A (MW cI d (su (su σ 6 0 (0)) 6 0 1) ++ []) := hD; rw [List.append_nil] at h9; exact h9
      show W p l e ({ frames := 2, cells := 0, slots := 0, locals := 46 } : Room) s m args below meth c H locs 0 0 (MQ below (gQ D (tyMs cI cZ cQ) (fun κ' => MW cI d (mRes (tSort a0 w0) (mZ σ) σ)) A (fun _ => some (.int (iI (mVal (tSort a0 w0) (mSortT σ a0 w0))))) (fun _ => True)) args s 0 0 A) (F0 m 35 ls [.int (iI (0))])
      have es : (mRes (tSort a0 w0) (mZ σ) σ) = (su (su σ 6 0 (0)) 6 0 1) := by first | (rw [show tSort a0 w0 = 1 from by unfold tSort; rw [if_pos (by omega)]]; rfl) | (rw [show tSort a0 w0 = 0 from by unfold tSort; rw [if_neg (by omega)]]; rfl)
      have er : ((mVal (tSort a0 w0) (mSortT σ a0 w0) : Int)) = (0) := by first | (rw [show tSort a0 w0 = 1 from by unfold tSort; rw [if_pos (by omega)]]; rfl) | (rw [show tSort a0 w0 = 0 from by unfold tSort; rw [if_neg (by omega)]]; rfl)
      exact g_iret (wo := (fun κ' => MW cI d (mRes (tSort a0 w0) (mZ σ) σ))) (kr := (fun _ => True)) (rv := (fun _ => some (.int (iI (mVal (tSort a0 w0) (mSortT σ a0 w0)))))) hx hb hr hlocks (fun _ _ => 0) rfl (by rw [es]; exact hP) hK (by rw [es]; exact hD) hS trivial (by rw [er]) (Nat.le_of_ble_eq_true rfl) (Nat.le_of_ble_eq_true rfl) dX2_sort_35
    · skip
      refine lv_aload_n hx hb dX2_sort_21 rfl (lv_at hl 0 rfl) ?_
      refine lv_iload_n hx hb dX2_sort_22 rfl (lv_at hl 1 rfl) ?_
      refine lv_iload_n hx hb dX2_sort_23 rfl (lv_at hl 2 rfl) ?_
      have hPc : va_P D vwCl (MW cI d (su σ 6 0 (0)) ++ []) H := by rw [List.append_nil]; exact hP
      have hDc : va_D A (MW cI d (su σ 6 0 (0)) ++ []) := by rw [List.append_nil]; exact hD
      refine g_call (va_runV (As := [.int (iI (a0)), .int (iI (w0))]) (rest := []) S ((kX2_sortTold l D cI cZ cQ d (su σ 6 0 (0)) a0 w0 (by first | assumption | omega) (by first | assumption | omega) (mWF_6 hwf _ _)) H.size) (cwV 2 hts gX2_sort_X2_sortTold rfl rfl rfl (by decide +kernel) ⟨Nat.le_of_ble_eq_true rfl, Nat.le_of_ble_eq_true rfl⟩) (g_preV gEx_t hK [0, 1, 2] rfl hPc hDc (fun _ _ _ => trivial) (q0 := 0) (ci := 2) rfl rfl rfl) rfl rfl hl.1 rfl (lv_room (Nat.le_of_ble_eq_true rfl)) dX2_sort_24 ⟨Nat.le_of_ble_eq_true rfl, Nat.le_of_ble_eq_true rfl⟩) hPc hDc hS hA (fun κ9 H locs hk hP hD hS => ?_)
      have hP : va_P D vwCl (MW cI d (su σ 6 0 (0))) H := by have h9 : va_P D vwCl (MW cI d (su σ 6 0 (0)) ++ []) H := hP; rw [List.append_nil] at h9; exact h9
      have hD : va_D A (MW cI d (su σ 6 0 (0))) := by have h9 : va_D A (MW cI d (su σ 6 0 (0)) ++ []) := hD; rw [List.append_nil] at h9; exact h9
      show W p l e ({ frames := 2, cells := 0, slots := 0, locals := 46 } : Room) s m args below meth c H locs 0 0 (MQ below (gQ D (tyMs cI cZ cQ) (fun κ' => MW cI d (mRes (tSort a0 w0) (mZ σ) σ)) A (fun _ => some (.int (iI (mVal (tSort a0 w0) (mSortT σ a0 w0))))) (fun _ => True)) args s 0 0 A) (F0 m 27 ls [.int (iI (mSortT (su σ 6 0 (0)) a0 w0))])
      refine lv_goto (tgt := 35) hx hb dX2_sort_27 (by decide) ?_
      have es : (mRes (tSort a0 w0) (mZ σ) σ) = (su σ 6 0 (0)) := by first | (rw [show tSort a0 w0 = 1 from by unfold tSort; rw [if_pos (by omega)]]; rfl) | (rw [show tSort a0 w0 = 0 from by unfold tSort; rw [if_neg (by omega)]]; rfl)
      have er : ((mVal (tSort a0 w0) (mSortT σ a0 w0) : Int)) = (mSortT (su σ 6 0 (0)) a0 w0) := by first | (rw [show tSort a0 w0 = 1 from by unfold tSort; rw [if_pos (by omega)]]; rfl) | (rw [show tSort a0 w0 = 0 from by unfold tSort; rw [if_neg (by omega)]]; rfl)
      exact g_iret (wo := (fun κ' => MW cI d (mRes (tSort a0 w0) (mZ σ) σ))) (kr := (fun _ => True)) (rv := (fun _ => some (.int (iI (mVal (tSort a0 w0) (mSortT σ a0 w0)))))) hx hb hr hlocks (fun _ _ => 0) rfl (by rw [es]; exact hP) hK (by rw [es]; exact hD) hS trivial (by rw [er]) (Nat.le_of_ble_eq_true rfl) (Nat.le_of_ble_eq_true rfl) dX2_sort_35
set_option maxHeartbeats 4000000 in
set_option maxRecDepth 100000 in
theorem kX2_all (l : Launch) (D : va_G) (cI cZ cQ : ClassId) (d : Nat → Nat) (σ : St)  (w0 : Int) (h2 : 0 ≤ w0) (h3 : w0 < 5) : gMet l yX2_all wsX2_all ({ frames := 1, cells := 0, slots := 0, locals := 22 } : Room) D (tyMs cI cZ cQ) (MW cI d σ) [.ref (d 0), .int (iI w0)] (fun _ => True) (fun _ => some (.int (iI (mAll σ w0)))) (fun _ => True) (fun κ' => MW cI d σ) := by
  refine g_start (cc := cX2_all) (maxL := 4) (ret := (some .int)) (by decide) rfl (Nat.le_of_ble_eq_true rfl) ?_
  intro p e s m args below meth c A ls H locs S hr hlocks hname hP hK hD hA hS hE hl
  have S0 := S
  obtain ⟨hx, hb, hml, hown, hts⟩ := S0
  have hl : lv_has ls 4 [(0, .ref (d 0)), (1, .int (iI (w0)))] := hl
  have hinX2 : ∀ w ∈ wsX20, w ∈ wsX2_all := by decide +kernel
  refine lv_iconst (v := iI (0)) hx hb dX2_all_0 rfl ?_
  refine lv_istore_n (lv' := [(2, .int (iI (0))), (0, .ref (d 0)), (1, .int (iI (w0)))]) hx hb dX2_all_1 rfl hl (by decide) rfl (fun ls hl => ?_)
  refine lv_iconst (v := iI (0)) hx hb dX2_all_2 rfl ?_
  refine lv_istore_n (lv' := [(3, .int (iI (0))), (2, .int (iI (0))), (0, .ref (d 0)), (1, .int (iI (w0)))]) hx hb dX2_all_3 rfl hl (by decide) rfl (fun ls hl => ?_)
  have loop4 : ∀ (n4 : Nat) (i : Int) (a : Int), (0 ≤ i) → (i ≤ 40) → (40 - i < (n4 : Int)) → (a = isumI (fun k => σ 3 (5 * k + w0)) i) → ∀ (H : Heap) (locs : List Loc) (ls : Array Slot), va_P D vwCl (MW cI d σ) H → va_D A (MW cI d σ) → va_S A s.heap H locs → lv_has ls 4 [(3, .int (iI (i))), (2, .int (iI (a))), (0, .ref (d 0)), (1, .int (iI (w0)))] → W p l e ({ frames := 1, cells := 0, slots := 0, locals := 22 } : Room) s m args below meth c H locs 0 0 (MQ below (gQ D (tyMs cI cZ cQ) (fun κ' => MW cI d σ) A (fun _ => some (.int (iI (mAll σ w0)))) (fun _ => True)) args s 0 0 A) (F0 m 4 ls []) := by
    intro n4
    induction n4 with
    | zero =>
      intro i a  hlo4 hhi4 hm4
      omega
    | succ n4 ih4 =>
      intro i a  hlo4 hhi4 hm4 ia4 H locs ls hP hD hS hl
      refine lv_iload_n hx hb dX2_all_4 rfl (lv_at hl 0 rfl) ?_
      refine lv_bipush (v := iI (40)) hx hb dX2_all_5 rfl ?_
      refine gi_icmp_ge (tgt := 25) hx hb dX2_all_7 (by decide) ⟨by omega, by omega⟩ ⟨by decide, by decide⟩ (fun c7 => ?_) (fun c7 => ?_)
      · skip
        refine lv_iload_n hx hb dX2_all_25 rfl (lv_at hl 1 rfl) ?_
        have er : ((mAll σ w0 : Int)) = (a) := by unfold mAll; rw [ia4, show i = 40 by omega]
        exact g_iret (wo := (fun κ' => MW cI d σ)) (kr := (fun _ => True)) (rv := (fun _ => some (.int (iI (mAll σ w0))))) hx hb hr hlocks (fun _ _ => 0) rfl hP hK hD hS trivial (by rw [er]) (Nat.le_of_ble_eq_true rfl) (Nat.le_of_ble_eq_true rfl) dX2_all_26
      · skip
        refine lv_iload_n hx hb dX2_all_10 rfl (lv_at hl 1 rfl) ?_
        refine lv_aload_n hx hb dX2_all_11 rfl (lv_at hl 2 rfl) ?_
        refine lv_iload_n hx hb dX2_all_12 rfl (lv_at hl 0 rfl) ?_
        refine lv_iload_n hx hb dX2_all_13 rfl (lv_at hl 3 rfl) ?_
        have hPc : va_P D vwCl (MW cI d σ ++ []) H := by rw [List.append_nil]; exact hP
        have hDc : va_D A (MW cI d σ ++ []) := by rw [List.append_nil]; exact hD
        refine g_call (va_runV (As := [.int (iI (i)), .int (iI (w0))]) (rest := [.int (iI (a))]) S ((kX2_tr l D cI cZ cQ d σ i w0 (by first | assumption | omega) (by first | assumption | omega) (by first | assumption | omega) (by first | assumption | omega)) H.size) (cwV 2 hts gX2_all_X2_tr rfl rfl rfl (by decide +kernel) ⟨Nat.le_of_ble_eq_true rfl, Nat.le_of_ble_eq_true rfl⟩) (g_preV gEx_t hK [0, 1, 2] rfl hPc hDc (fun _ _ _ => trivial) (q0 := 0) (ci := 2) rfl rfl rfl) rfl rfl hl.1 rfl (lv_room (Nat.le_of_ble_eq_true rfl)) dX2_all_14 ⟨Nat.le_of_ble_eq_true rfl, Nat.le_of_ble_eq_true rfl⟩) hPc hDc hS hA (fun κ9 H locs hk hP hD hS => ?_)
        have hP : va_P D vwCl (MW cI d σ) H := by have h9 : va_P D vwCl (MW cI d σ ++ []) H := hP; rw [List.append_nil] at h9; exact h9
        have hD : va_D A (MW cI d σ) := by have h9 : va_D A (MW cI d σ ++ []) := hD; rw [List.append_nil] at h9; exact h9
        show W p l e ({ frames := 1, cells := 0, slots := 0, locals := 22 } : Room) s m args below meth c H locs 0 0 (MQ below (gQ D (tyMs cI cZ cQ) (fun κ' => MW cI d σ) A (fun _ => some (.int (iI (mAll σ w0)))) (fun _ => True)) args s 0 0 A) (F0 m 17 ls [.int (iI (σ 3 (5 * i + w0))), .int (iI (a))])
        refine gi_add hx hb dX2_all_17 ?_
        refine lv_istore_n (lv' := [(2, .int (iI (a + (σ 3 (5 * i + w0))))), (3, .int (iI (i))), (0, .ref (d 0)), (1, .int (iI (w0)))]) hx hb dX2_all_18 rfl hl (by decide) rfl (fun ls hl => ?_)
        refine lv_iinc (v := iI (i + 1)) (lv' := [(3, .int (iI (i + 1))), (2, .int (iI (a + (σ 3 (5 * i + w0))))), (0, .ref (d 0)), (1, .int (iI (w0)))]) hx hb dX2_all_19 hl (k := 1) rfl (iI_add _ _) (by decide) rfl (fun ls hl => ?_)
        refine lv_goto (tgt := 4) hx hb dX2_all_22 (by decide) ?_
        exact ih4 (i + 1) (a + (σ 3 (5 * i + w0)))  (by omega) (by omega) (by omega) (by rw [isumI_s _ hlo4, ia4]) H locs ls hP hD hS (lv_sub hl [0, 1, 2, 3] rfl)
  exact loop4 (((40 - (0) + 1 : Int)).toNat) 0 0  (by omega) (by omega) (by omega) (by rw [isumI_0]) H locs ls hP hD hS (lv_sub hl [0, 1, 2, 3] rfl)
set_option maxHeartbeats 4000000 in
set_option maxRecDepth 100000 in
theorem kX2_counted (l : Launch) (D : va_G) (cI cZ cQ : ClassId) (d : Nat → Nat) (σ : St)  (w0 : Int) (hw : 0 ≤ w0 ∧ w0 ≤ 7) (hwf : mWF σ) : gMet l yX2_counted wsX2_counted ({ frames := 2, cells := 0, slots := 0, locals := 45 } : Room) D (tyMs cI cZ cQ) (MW cI d σ) [.ref (d 0), .int (iI w0)] (fun _ => True) (fun _ => some (.int (iI (mCnt σ w0)))) (fun _ => True) (fun κ' => MW cI d σ) := by
  refine g_start (cc := cX2_counted) (maxL := 6) (ret := (some .int)) (by decide) rfl (Nat.le_of_ble_eq_true rfl) ?_
  intro p e s m args below meth c A ls H locs S hr hlocks hname hP hK hD hA hS hE hl
  have S0 := S
  obtain ⟨hx, hb, hml, hown, hts⟩ := S0
  have hl : lv_has ls 6 [(0, .ref (d 0)), (1, .int (iI (w0)))] := hl
  have hinX2 : ∀ w ∈ wsX20, w ∈ wsX2_counted := by decide +kernel
  refine lv_iconst (v := iI (0)) hx hb dX2_counted_0 rfl ?_
  refine lv_istore_n (lv' := [(2, .int (iI (0))), (0, .ref (d 0)), (1, .int (iI (w0)))]) hx hb dX2_counted_1 rfl hl (by decide) rfl (fun ls hl => ?_)
  refine lv_iload_n hx hb dX2_counted_2 rfl (lv_at hl 2 rfl) ?_
  rcases Int.decEq w0 0 with c3_0 | c3_0
  rotate_left
  · skip
    refine gi_tableIn (tgt := 44) hx hb dX2_counted_3 ⟨by omega, by omega⟩ 0 c3_0 (by decide) (by decide) rfl (by decide) ?_
    refine lv_aload_n hx hb dX2_counted_44 rfl (lv_at hl 1 rfl) ?_
    refine va_get (D := D) (ci := 2) (v := .ref (d 6)) (C := RX2) (T := TX2) (N := 8) hx hb hts hinX2 hown hK hP 0 rfl rfl 6 (by decide) (hts (.fieldLink RX2 25 "TwinOrchardModel" "numbers" "[I") (List.mem_of_getElem? (i := 1) rfl)) (fun _ h9 => h9) rfl dX2_counted_45 ?_
    refine lv_iconst (v := iI (2)) hx hb dX2_counted_48 rfl ?_
    refine gi_iald (a := d 6) (n := 3) (f := σ 5) hx hb hK hP 6 0 rfl rfl (by omega) (by omega) (by decide) dX2_counted_49 ?_
    have er : ((mCnt σ w0 : Int)) = (σ 5 2) := by unfold mCnt; rw [if_pos (by omega)]; try rfl
    exact g_iret (wo := (fun κ' => MW cI d σ)) (kr := (fun _ => True)) (rv := (fun _ => some (.int (iI (mCnt σ w0))))) hx hb hr hlocks (fun _ _ => 0) rfl hP hK hD hS trivial (by rw [er]) (Nat.le_of_ble_eq_true rfl) (Nat.le_of_ble_eq_true rfl) dX2_counted_50
  rcases Int.decEq w0 1 with c3_1 | c3_1
  rotate_left
  · skip
    refine gi_tableIn (tgt := 51) hx hb dX2_counted_3 ⟨by omega, by omega⟩ 1 c3_1 (by decide) (by decide) rfl (by decide) ?_
    refine lv_aload_n hx hb dX2_counted_51 rfl (lv_at hl 1 rfl) ?_
    refine va_get (D := D) (ci := 2) (v := .ref (d 6)) (C := RX2) (T := TX2) (N := 8) hx hb hts hinX2 hown hK hP 0 rfl rfl 6 (by decide) (hts (.fieldLink RX2 25 "TwinOrchardModel" "numbers" "[I") (List.mem_of_getElem? (i := 1) rfl)) (fun _ h9 => h9) rfl dX2_counted_52 ?_
    refine lv_iload_n hx hb dX2_counted_55 rfl (lv_at hl 2 rfl) ?_
    refine lv_iconst (v := iI (1)) hx hb dX2_counted_56 rfl ?_
    refine gi_sub hx hb dX2_counted_57 ?_
    refine gi_iald (a := d 6) (n := 3) (f := σ 5) hx hb hK hP 6 0 rfl rfl (by omega) (by omega) (by decide) dX2_counted_58 ?_
    have er : ((mCnt σ w0 : Int)) = (σ 5 (w0 - 1)) := by unfold mCnt; rw [if_neg (by omega), if_pos (by omega)]; try rfl
    exact g_iret (wo := (fun κ' => MW cI d σ)) (kr := (fun _ => True)) (rv := (fun _ => some (.int (iI (mCnt σ w0))))) hx hb hr hlocks (fun _ _ => 0) rfl hP hK hD hS trivial (by rw [er]) (Nat.le_of_ble_eq_true rfl) (Nat.le_of_ble_eq_true rfl) dX2_counted_59
  rcases Int.decEq w0 2 with c3_2 | c3_2
  rotate_left
  · skip
    refine gi_tableIn (tgt := 51) hx hb dX2_counted_3 ⟨by omega, by omega⟩ 2 c3_2 (by decide) (by decide) rfl (by decide) ?_
    refine lv_aload_n hx hb dX2_counted_51 rfl (lv_at hl 1 rfl) ?_
    refine va_get (D := D) (ci := 2) (v := .ref (d 6)) (C := RX2) (T := TX2) (N := 8) hx hb hts hinX2 hown hK hP 0 rfl rfl 6 (by decide) (hts (.fieldLink RX2 25 "TwinOrchardModel" "numbers" "[I") (List.mem_of_getElem? (i := 1) rfl)) (fun _ h9 => h9) rfl dX2_counted_52 ?_
    refine lv_iload_n hx hb dX2_counted_55 rfl (lv_at hl 2 rfl) ?_
    refine lv_iconst (v := iI (1)) hx hb dX2_counted_56 rfl ?_
    refine gi_sub hx hb dX2_counted_57 ?_
    refine gi_iald (a := d 6) (n := 3) (f := σ 5) hx hb hK hP 6 0 rfl rfl (by omega) (by omega) (by decide) dX2_counted_58 ?_
    have er : ((mCnt σ w0 : Int)) = (σ 5 (w0 - 1)) := by unfold mCnt; rw [if_neg (by omega), if_pos (by omega)]; try rfl
    exact g_iret (wo := (fun κ' => MW cI d σ)) (kr := (fun _ => True)) (rv := (fun _ => some (.int (iI (mCnt σ w0))))) hx hb hr hlocks (fun _ _ => 0) rfl hP hK hD hS trivial (by rw [er]) (Nat.le_of_ble_eq_true rfl) (Nat.le_of_ble_eq_true rfl) dX2_counted_59
  rcases Int.decEq w0 3 with c3_3 | c3_3
  rotate_left
  · skip
    refine gi_tableIn (tgt := 60) hx hb dX2_counted_3 ⟨by omega, by omega⟩ 3 c3_3 (by decide) (by decide) rfl (by decide) ?_
    refine lv_aload_n hx hb dX2_counted_60 rfl (lv_at hl 1 rfl) ?_
    refine lv_iconst (v := iI (0)) hx hb dX2_counted_61 rfl ?_
    have hPc : va_P D vwCl (MW cI d σ ++ []) H := by rw [List.append_nil]; exact hP
    have hDc : va_D A (MW cI d σ ++ []) := by rw [List.append_nil]; exact hD
    refine g_call (va_runV (As := [.int (iI (0))]) (rest := []) S ((kX2_all l D cI cZ cQ d σ 0 (by first | assumption | omega) (by first | assumption | omega)) H.size) (cwV 1 hts gX2_counted_X2_all rfl rfl rfl (by decide +kernel) ⟨Nat.le_of_ble_eq_true rfl, Nat.le_of_ble_eq_true rfl⟩) (g_preV gEx_t hK [0, 1, 2] rfl hPc hDc (fun _ _ _ => trivial) (q0 := 0) (ci := 2) rfl rfl rfl) rfl rfl hl.1 rfl (lv_room (Nat.le_of_ble_eq_true rfl)) dX2_counted_62 ⟨Nat.le_of_ble_eq_true rfl, Nat.le_of_ble_eq_true rfl⟩) hPc hDc hS hA (fun κ9 H locs hk hP hD hS => ?_)
    have hP : va_P D vwCl (MW cI d σ) H := by have h9 : va_P D vwCl (MW cI d σ ++ []) H := hP; rw [List.append_nil] at h9; exact h9
    have hD : va_D A (MW cI d σ) := by have h9 : va_D A (MW cI d σ ++ []) := hD; rw [List.append_nil] at h9; exact h9
    show W p l e ({ frames := 2, cells := 0, slots := 0, locals := 45 } : Room) s m args below meth c H locs 0 0 (MQ below (gQ D (tyMs cI cZ cQ) (fun κ' => MW cI d σ) A (fun _ => some (.int (iI (mCnt σ w0)))) (fun _ => True)) args s 0 0 A) (F0 m 65 ls [.int (iI (mAll σ 0))])
    have er : ((mCnt σ w0 : Int)) = (mAll σ 0) := by unfold mCnt; rw [if_neg (by omega), if_neg (by omega), if_pos (by omega)]; try rfl
    exact g_iret (wo := (fun κ' => MW cI d σ)) (kr := (fun _ => True)) (rv := (fun _ => some (.int (iI (mCnt σ w0))))) hx hb hr hlocks (fun _ _ => 0) rfl hP hK hD hS trivial (by rw [er]) (Nat.le_of_ble_eq_true rfl) (Nat.le_of_ble_eq_true rfl) dX2_counted_65
  rcases Int.decEq w0 4 with c3_4 | c3_4
  rotate_left
  · skip
    refine gi_tableIn (tgt := 66) hx hb dX2_counted_3 ⟨by omega, by omega⟩ 4 c3_4 (by decide) (by decide) rfl (by decide) ?_
    refine lv_aload_n hx hb dX2_counted_66 rfl (lv_at hl 1 rfl) ?_
    refine lv_iconst (v := iI (4)) hx hb dX2_counted_67 rfl ?_
    have hPc : va_P D vwCl (MW cI d σ ++ []) H := by rw [List.append_nil]; exact hP
    have hDc : va_D A (MW cI d σ ++ []) := by rw [List.append_nil]; exact hD
    refine g_call (va_runV (As := [.int (iI (4))]) (rest := []) S ((kX2_all l D cI cZ cQ d σ 4 (by first | assumption | omega) (by first | assumption | omega)) H.size) (cwV 1 hts gX2_counted_X2_all rfl rfl rfl (by decide +kernel) ⟨Nat.le_of_ble_eq_true rfl, Nat.le_of_ble_eq_true rfl⟩) (g_preV gEx_t hK [0, 1, 2] rfl hPc hDc (fun _ _ _ => trivial) (q0 := 0) (ci := 2) rfl rfl rfl) rfl rfl hl.1 rfl (lv_room (Nat.le_of_ble_eq_true rfl)) dX2_counted_68 ⟨Nat.le_of_ble_eq_true rfl, Nat.le_of_ble_eq_true rfl⟩) hPc hDc hS hA (fun κ9 H locs hk hP hD hS => ?_)
    have hP : va_P D vwCl (MW cI d σ) H := by have h9 : va_P D vwCl (MW cI d σ ++ []) H := hP; rw [List.append_nil] at h9; exact h9
    have hD : va_D A (MW cI d σ) := by have h9 : va_D A (MW cI d σ ++ []) := hD; rw [List.append_nil] at h9; exact h9
    show W p l e ({ frames := 2, cells := 0, slots := 0, locals := 45 } : Room) s m args below meth c H locs 0 0 (MQ below (gQ D (tyMs cI cZ cQ) (fun κ' => MW cI d σ) A (fun _ => some (.int (iI (mCnt σ w0)))) (fun _ => True)) args s 0 0 A) (F0 m 71 ls [.int (iI (mAll σ 4))])
    have er : ((mCnt σ w0 : Int)) = (mAll σ 4) := by unfold mCnt; rw [if_neg (by omega), if_neg (by omega), if_neg (by omega), if_pos (by omega)]; try rfl
    exact g_iret (wo := (fun κ' => MW cI d σ)) (kr := (fun _ => True)) (rv := (fun _ => some (.int (iI (mCnt σ w0))))) hx hb hr hlocks (fun _ _ => 0) rfl hP hK hD hS trivial (by rw [er]) (Nat.le_of_ble_eq_true rfl) (Nat.le_of_ble_eq_true rfl) dX2_counted_71
  rcases Int.decEq w0 5 with c3_5 | c3_5
  rotate_left
  · skip
    refine gi_tableIn (tgt := 72) hx hb dX2_counted_3 ⟨by omega, by omega⟩ 5 c3_5 (by decide) (by decide) rfl (by decide) ?_
    refine lv_iconst (v := iI (0)) hx hb dX2_counted_72 rfl ?_
    refine lv_istore_n (lv' := [(3, .int (iI (0))), (2, .int (iI (0))), (0, .ref (d 0)), (1, .int (iI (w0)))]) hx hb dX2_counted_73 rfl hl (by decide) rfl (fun ls hl => ?_)
    have loop74 : ∀ (n74 : Nat) (i : Int) (a : Int), (0 ≤ i) → (i ≤ 6) → (6 - i < (n74 : Int)) → (a = isumI (fun j => σ 4 j * (if w0 = 5 then 1 else σ 0 j)) i) → ∀ (H : Heap) (locs : List Loc) (ls : Array Slot), va_P D vwCl (MW cI d σ) H → va_D A (MW cI d σ) → va_S A s.heap H locs → lv_has ls 6 [(3, .int (iI (i))), (2, .int (iI (a))), (0, .ref (d 0)), (1, .int (iI (w0)))] → W p l e ({ frames := 2, cells := 0, slots := 0, locals := 45 } : Room) s m args below meth c H locs 0 0 (MQ below (gQ D (tyMs cI cZ cQ) (fun κ' => MW cI d σ) A (fun _ => some (.int (iI (mCnt σ w0)))) (fun _ => True)) args s 0 0 A) (F0 m 74 ls []) := by
      intro n74
      induction n74 with
      | zero =>
        intro i a  hlo74 hhi74 hm74
        omega
      | succ n74 ih74 =>
        intro i a  hlo74 hhi74 hm74 ia74 H locs ls hP hD hS hl
        refine lv_iload_n hx hb dX2_counted_74 rfl (lv_at hl 0 rfl) ?_
        refine lv_bipush (v := iI (6)) hx hb dX2_counted_75 rfl ?_
        refine gi_icmp_ge (tgt := 111) hx hb dX2_counted_77 (by decide) ⟨by omega, by omega⟩ ⟨by decide, by decide⟩ (fun c77 => ?_) (fun c77 => ?_)
        · skip
          refine lv_iload_n hx hb dX2_counted_111 rfl (lv_at hl 1 rfl) ?_
          have er : ((mCnt σ w0 : Int)) = (a) := by rw [ia74, show i = 6 by omega]; unfold mCnt; first | (rw [if_neg (by omega), if_neg (by omega), if_neg (by omega), if_neg (by omega), if_pos (by omega)]; congr 1; funext j; rw [if_pos (by omega)]) | (rw [if_neg (by omega), if_neg (by omega), if_neg (by omega), if_neg (by omega), if_neg (by omega), if_pos (by omega)]; congr 1; funext j; rw [if_neg (by omega)])
          exact g_iret (wo := (fun κ' => MW cI d σ)) (kr := (fun _ => True)) (rv := (fun _ => some (.int (iI (mCnt σ w0))))) hx hb hr hlocks (fun _ _ => 0) rfl hP hK hD hS trivial (by rw [er]) (Nat.le_of_ble_eq_true rfl) (Nat.le_of_ble_eq_true rfl) dX2_counted_112
        · skip
          refine lv_iload_n hx hb dX2_counted_80 rfl (lv_at hl 1 rfl) ?_
          refine lv_aload_n hx hb dX2_counted_81 rfl (lv_at hl 2 rfl) ?_
          refine va_get (D := D) (ci := 2) (v := .ref (d 5)) (C := RX2) (T := TX2) (N := 8) hx hb hts hinX2 hown hK hP 0 rfl rfl 5 (by decide) (hts (.fieldLink RX2 22 "TwinOrchardModel" "barn" "[I") (List.mem_of_getElem? (i := 2) rfl)) (fun _ h9 => h9) rfl dX2_counted_82 ?_
          refine lv_iload_n hx hb dX2_counted_85 rfl (lv_at hl 0 rfl) ?_
          refine gi_iald (a := d 5) (n := 6) (f := σ 4) hx hb hK hP 5 0 rfl rfl (by omega) (by omega) (by decide) dX2_counted_86 ?_
          refine lv_iload_n hx hb dX2_counted_87 rfl (lv_at hl 3 rfl) ?_
          refine lv_iconst (v := iI (5)) hx hb dX2_counted_88 rfl ?_
          refine gi_icmp_ne (tgt := 96) hx hb dX2_counted_89 (by decide) ⟨by omega, by omega⟩ ⟨by decide, by decide⟩ (fun c89 => ?_) (fun c89 => ?_)
          · skip
            refine lv_aload_n hx hb dX2_counted_96 rfl (lv_at hl 2 rfl) ?_
            refine va_get (D := D) (ci := 2) (v := .ref (d 1)) (C := RX2) (T := TX2) (N := 8) hx hb hts hinX2 hown hK hP 0 rfl rfl 1 (by decide) (hts (.fieldLink RX2 9 "TwinOrchardModel" "weights" "[I") (List.mem_of_getElem? (i := 3) rfl)) (fun _ h9 => h9) rfl dX2_counted_97 ?_
            refine lv_iload_n hx hb dX2_counted_100 rfl (lv_at hl 0 rfl) ?_
            refine gi_iald (a := d 1) (n := 6) (f := σ 0) hx hb hK hP 1 0 rfl rfl (by omega) (by omega) (by decide) dX2_counted_101 ?_
            refine gi_mul hx hb dX2_counted_102 ?_
            refine gi_add hx hb dX2_counted_103 ?_
            refine lv_istore_n (lv' := [(2, .int (iI (a + ((σ 4 i) * (σ 0 i))))), (3, .int (iI (i))), (0, .ref (d 0)), (1, .int (iI (w0)))]) hx hb dX2_counted_104 rfl hl (by decide) rfl (fun ls hl => ?_)
            refine lv_iinc (v := iI (i + 1)) (lv' := [(3, .int (iI (i + 1))), (2, .int (iI (a + ((σ 4 i) * (σ 0 i))))), (0, .ref (d 0)), (1, .int (iI (w0)))]) hx hb dX2_counted_105 hl (k := 1) rfl (iI_add _ _) (by decide) rfl (fun ls hl => ?_)
            refine lv_goto (tgt := 74) hx hb dX2_counted_108 (by decide) ?_
            exact ih74 (i + 1) (a + ((σ 4 i) * (σ 0 i)))  (by omega) (by omega) (by omega) (by rw [isumI_s _ hlo74, ia74]; first | (rw [if_pos (by omega)]; done) | (rw [if_neg (by omega)]; done)) H locs ls hP hD hS (lv_sub hl [0, 1, 2, 3] rfl)
          · skip
            refine lv_iconst (v := iI (1)) hx hb dX2_counted_92 rfl ?_
            refine lv_goto (tgt := 102) hx hb dX2_counted_93 (by decide) ?_
            refine gi_mul hx hb dX2_counted_102 ?_
            refine gi_add hx hb dX2_counted_103 ?_
            refine lv_istore_n (lv' := [(2, .int (iI (a + ((σ 4 i) * 1)))), (3, .int (iI (i))), (0, .ref (d 0)), (1, .int (iI (w0)))]) hx hb dX2_counted_104 rfl hl (by decide) rfl (fun ls hl => ?_)
            refine lv_iinc (v := iI (i + 1)) (lv' := [(3, .int (iI (i + 1))), (2, .int (iI (a + ((σ 4 i) * 1)))), (0, .ref (d 0)), (1, .int (iI (w0)))]) hx hb dX2_counted_105 hl (k := 1) rfl (iI_add _ _) (by decide) rfl (fun ls hl => ?_)
            refine lv_goto (tgt := 74) hx hb dX2_counted_108 (by decide) ?_
            exact ih74 (i + 1) (a + ((σ 4 i) * 1))  (by omega) (by omega) (by omega) (by rw [isumI_s _ hlo74, ia74]; first | (rw [if_pos (by omega)]; done) | (rw [if_neg (by omega)]; done)) H locs ls hP hD hS (lv_sub hl [0, 1, 2, 3] rfl)
    exact loop74 (((6 - (0) + 1 : Int)).toNat) 0 0  (by omega) (by omega) (by omega) (by rw [isumI_0]) H locs ls hP hD hS (lv_sub hl [0, 1, 2, 3] rfl)
  rcases Int.decEq w0 6 with c3_6 | c3_6
  rotate_left
  · skip
    refine gi_tableIn (tgt := 72) hx hb dX2_counted_3 ⟨by omega, by omega⟩ 6 c3_6 (by decide) (by decide) rfl (by decide) ?_
    refine lv_iconst (v := iI (0)) hx hb dX2_counted_72 rfl ?_
    refine lv_istore_n (lv' := [(3, .int (iI (0))), (2, .int (iI (0))), (0, .ref (d 0)), (1, .int (iI (w0)))]) hx hb dX2_counted_73 rfl hl (by decide) rfl (fun ls hl => ?_)
    have loop74 : ∀ (n74 : Nat) (i : Int) (a : Int), (0 ≤ i) → (i ≤ 6) → (6 - i < (n74 : Int)) → (a = isumI (fun j => σ 4 j * (if w0 = 5 then 1 else σ 0 j)) i) → ∀ (H : Heap) (locs : List Loc) (ls : Array Slot), va_P D vwCl (MW cI d σ) H → va_D A (MW cI d σ) → va_S A s.heap H locs → lv_has ls 6 [(3, .int (iI (i))), (2, .int (iI (a))), (0, .ref (d 0)), (1, .int (iI (w0)))] → W p l e ({ frames := 2, cells := 0, slots := 0, locals := 45 } : Room) s m args below meth c H locs 0 0 (MQ below (gQ D (tyMs cI cZ cQ) (fun κ' => MW cI d σ) A (fun _ => some (.int (iI (mCnt σ w0)))) (fun _ => True)) args s 0 0 A) (F0 m 74 ls []) := by
      intro n74
      induction n74 with
      | zero =>
        intro i a  hlo74 hhi74 hm74
        omega
      | succ n74 ih74 =>
        intro i a  hlo74 hhi74 hm74 ia74 H locs ls hP hD hS hl
        refine lv_iload_n hx hb dX2_counted_74 rfl (lv_at hl 0 rfl) ?_
        refine lv_bipush (v := iI (6)) hx hb dX2_counted_75 rfl ?_
        refine gi_icmp_ge (tgt := 111) hx hb dX2_counted_77 (by decide) ⟨by omega, by omega⟩ ⟨by decide, by decide⟩ (fun c77 => ?_) (fun c77 => ?_)
        · skip
          refine lv_iload_n hx hb dX2_counted_111 rfl (lv_at hl 1 rfl) ?_
          have er : ((mCnt σ w0 : Int)) = (a) := by rw [ia74, show i = 6 by omega]; unfold mCnt; first | (rw [if_neg (by omega), if_neg (by omega), if_neg (by omega), if_neg (by omega), if_pos (by omega)]; congr 1; funext j; rw [if_pos (by omega)]) | (rw [if_neg (by omega), if_neg (by omega), if_neg (by omega), if_neg (by omega), if_neg (by omega), if_pos (by omega)]; congr 1; funext j; rw [if_neg (by omega)])
          exact g_iret (wo := (fun κ' => MW cI d σ)) (kr := (fun _ => True)) (rv := (fun _ => some (.int (iI (mCnt σ w0))))) hx hb hr hlocks (fun _ _ => 0) rfl hP hK hD hS trivial (by rw [er]) (Nat.le_of_ble_eq_true rfl) (Nat.le_of_ble_eq_true rfl) dX2_counted_112
        · skip
          refine lv_iload_n hx hb dX2_counted_80 rfl (lv_at hl 1 rfl) ?_
          refine lv_aload_n hx hb dX2_counted_81 rfl (lv_at hl 2 rfl) ?_
          refine va_get (D := D) (ci := 2) (v := .ref (d 5)) (C := RX2) (T := TX2) (N := 8) hx hb hts hinX2 hown hK hP 0 rfl rfl 5 (by decide) (hts (.fieldLink RX2 22 "TwinOrchardModel" "barn" "[I") (List.mem_of_getElem? (i := 2) rfl)) (fun _ h9 => h9) rfl dX2_counted_82 ?_
          refine lv_iload_n hx hb dX2_counted_85 rfl (lv_at hl 0 rfl) ?_
          refine gi_iald (a := d 5) (n := 6) (f := σ 4) hx hb hK hP 5 0 rfl rfl (by omega) (by omega) (by decide) dX2_counted_86 ?_
          refine lv_iload_n hx hb dX2_counted_87 rfl (lv_at hl 3 rfl) ?_
          refine lv_iconst (v := iI (5)) hx hb dX2_counted_88 rfl ?_
          refine gi_icmp_ne (tgt := 96) hx hb dX2_counted_89 (by decide) ⟨by omega, by omega⟩ ⟨by decide, by decide⟩ (fun c89 => ?_) (fun c89 => ?_)
          · skip
            refine lv_aload_n hx hb dX2_counted_96 rfl (lv_at hl 2 rfl) ?_
            refine va_get (D := D) (ci := 2) (v := .ref (d 1)) (C := RX2) (T := TX2) (N := 8) hx hb hts hinX2 hown hK hP 0 rfl rfl 1 (by decide) (hts (.fieldLink RX2 9 "TwinOrchardModel" "weights" "[I") (List.mem_of_getElem? (i := 3) rfl)) (fun _ h9 => h9) rfl dX2_counted_97 ?_
            refine lv_iload_n hx hb dX2_counted_100 rfl (lv_at hl 0 rfl) ?_
            refine gi_iald (a := d 1) (n := 6) (f := σ 0) hx hb hK hP 1 0 rfl rfl (by omega) (by omega) (by decide) dX2_counted_101 ?_
            refine gi_mul hx hb dX2_counted_102 ?_
            refine gi_add hx hb dX2_counted_103 ?_
            refine lv_istore_n (lv' := [(2, .int (iI (a + ((σ 4 i) * (σ 0 i))))), (3, .int (iI (i))), (0, .ref (d 0)), (1, .int (iI (w0)))]) hx hb dX2_counted_104 rfl hl (by decide) rfl (fun ls hl => ?_)
            refine lv_iinc (v := iI (i + 1)) (lv' := [(3, .int (iI (i + 1))), (2, .int (iI (a + ((σ 4 i) * (σ 0 i))))), (0, .ref (d 0)), (1, .int (iI (w0)))]) hx hb dX2_counted_105 hl (k := 1) rfl (iI_add _ _) (by decide) rfl (fun ls hl => ?_)
            refine lv_goto (tgt := 74) hx hb dX2_counted_108 (by decide) ?_
            exact ih74 (i + 1) (a + ((σ 4 i) * (σ 0 i)))  (by omega) (by omega) (by omega) (by rw [isumI_s _ hlo74, ia74]; first | (rw [if_pos (by omega)]; done) | (rw [if_neg (by omega)]; done)) H locs ls hP hD hS (lv_sub hl [0, 1, 2, 3] rfl)
          · skip
            refine lv_iconst (v := iI (1)) hx hb dX2_counted_92 rfl ?_
            refine lv_goto (tgt := 102) hx hb dX2_counted_93 (by decide) ?_
            refine gi_mul hx hb dX2_counted_102 ?_
            refine gi_add hx hb dX2_counted_103 ?_
            refine lv_istore_n (lv' := [(2, .int (iI (a + ((σ 4 i) * 1)))), (3, .int (iI (i))), (0, .ref (d 0)), (1, .int (iI (w0)))]) hx hb dX2_counted_104 rfl hl (by decide) rfl (fun ls hl => ?_)
            refine lv_iinc (v := iI (i + 1)) (lv' := [(3, .int (iI (i + 1))), (2, .int (iI (a + ((σ 4 i) * 1)))), (0, .ref (d 0)), (1, .int (iI (w0)))]) hx hb dX2_counted_105 hl (k := 1) rfl (iI_add _ _) (by decide) rfl (fun ls hl => ?_)
            refine lv_goto (tgt := 74) hx hb dX2_counted_108 (by decide) ?_
            exact ih74 (i + 1) (a + ((σ 4 i) * 1))  (by omega) (by omega) (by omega) (by rw [isumI_s _ hlo74, ia74]; first | (rw [if_pos (by omega)]; done) | (rw [if_neg (by omega)]; done)) H locs ls hP hD hS (lv_sub hl [0, 1, 2, 3] rfl)
    exact loop74 (((6 - (0) + 1 : Int)).toNat) 0 0  (by omega) (by omega) (by omega) (by rw [isumI_0]) H locs ls hP hD hS (lv_sub hl [0, 1, 2, 3] rfl)
  refine gi_tableOut (tgt := 113) hx hb dX2_counted_3 ⟨by omega, by omega⟩ (by omega) (by decide) ?_
  refine lv_iconst (v := iI (0)) hx hb dX2_counted_113 rfl ?_
  refine lv_istore_n (lv' := [(3, .int (iI (0))), (2, .int (iI (0))), (0, .ref (d 0)), (1, .int (iI (w0)))]) hx hb dX2_counted_114 rfl hl (by decide) rfl (fun ls hl => ?_)
  have loop115 : ∀ (n115 : Nat) (i2 : Int) (a2 : Int), (0 ≤ i2) → (i2 ≤ 40) → (40 - i2 < (n115 : Int)) → (a2 = isumI (mPair σ) i2) → ∀ (H : Heap) (locs : List Loc) (ls : Array Slot), va_P D vwCl (MW cI d σ) H → va_D A (MW cI d σ) → va_S A s.heap H locs → lv_has ls 6 [(3, .int (iI (i2))), (2, .int (iI (a2))), (0, .ref (d 0)), (1, .int (iI (w0)))] → W p l e ({ frames := 2, cells := 0, slots := 0, locals := 45 } : Room) s m args below meth c H locs 0 0 (MQ below (gQ D (tyMs cI cZ cQ) (fun κ' => MW cI d σ) A (fun _ => some (.int (iI (mCnt σ w0)))) (fun _ => True)) args s 0 0 A) (F0 m 115 ls []) := by
    intro n115
    induction n115 with
    | zero =>
      intro i2 a2  hlo115 hhi115 hm115
      omega
    | succ n115 ih115 =>
      intro i2 a2  hlo115 hhi115 hm115 ia115 H locs ls hP hD hS hl
      obtain ⟨tk0, tk1, tk2, tk3, tk4⟩ := mWF_t hwf i2
      obtain ⟨tm0, tm1, tm2, tm3, tm4⟩ := mWF_t hwf (mm i2)
      have km := mm_in hlo115
      refine lv_iload_n hx hb dX2_counted_115 rfl (lv_at hl 0 rfl) ?_
      refine lv_bipush (v := iI (40)) hx hb dX2_counted_116 rfl ?_
      refine gi_icmp_ge (tgt := 223) hx hb dX2_counted_118 (by decide) ⟨by omega, by omega⟩ ⟨by decide, by decide⟩ (fun c118 => ?_) (fun c118 => ?_)
      · skip
        refine lv_iload_n hx hb dX2_counted_223 rfl (lv_at hl 1 rfl) ?_
        have er : ((mCnt σ w0 : Int)) = (a2) := by rw [ia115, show i2 = 40 by omega]; unfold mCnt; rw [if_neg (by omega), if_neg (by omega), if_neg (by omega), if_neg (by omega), if_neg (by omega), if_neg (by omega)]; try rfl
        exact g_iret (wo := (fun κ' => MW cI d σ)) (kr := (fun _ => True)) (rv := (fun _ => some (.int (iI (mCnt σ w0))))) hx hb hr hlocks (fun _ _ => 0) rfl hP hK hD hS trivial (by rw [er]) (Nat.le_of_ble_eq_true rfl) (Nat.le_of_ble_eq_true rfl) dX2_counted_224
      · skip
        refine lv_iload_n hx hb dX2_counted_121 rfl (lv_at hl 0 rfl) ?_
        refine lv_bipush (v := iI (8)) hx hb dX2_counted_122 rfl ?_
        refine gi_div hx hb ⟨by omega, by omega⟩ ⟨by omega, by omega⟩ dX2_counted_124 ?_
        refine lv_bipush (v := iI (8)) hx hb dX2_counted_125 rfl ?_
        refine gi_mul hx hb dX2_counted_127 ?_
        refine lv_bipush (v := iI (8)) hx hb dX2_counted_128 rfl ?_
        refine gi_add hx hb dX2_counted_130 ?_
        refine lv_iconst (v := iI (1)) hx hb dX2_counted_131 rfl ?_
        refine gi_sub hx hb dX2_counted_132 ?_
        refine lv_iload_n hx hb dX2_counted_133 rfl (lv_at hl 0 rfl) ?_
        refine lv_bipush (v := iI (8)) hx hb dX2_counted_134 rfl ?_
        refine gi_rem hx hb ⟨by omega, by omega⟩ ⟨by omega, by omega⟩ dX2_counted_136 ?_
        refine gi_sub hx hb dX2_counted_137 ?_
        refine lv_istore (lv' := [(4, .int (iI (((((i2 / 8) * 8) + 8) - 1) - (i2 % 8)))), (3, .int (iI (i2))), (2, .int (iI (a2))), (0, .ref (d 0)), (1, .int (iI (w0)))]) hx hb dX2_counted_138 hl (by decide) rfl (fun ls hl => ?_)
        have hl : lv_has ls 6 [(4, .int (iI (mm i2))), (3, .int (iI (i2))), (2, .int (iI (a2))), (0, .ref (d 0)), (1, .int (iI (w0)))] := hl
        have k1b := km (by omega)
        refine lv_iload hx hb dX2_counted_140 (lv_at hl 0 rfl) ?_
        refine lv_iload_n hx hb dX2_counted_142 rfl (lv_at hl 1 rfl) ?_
        refine gi_icmp_ge (tgt := 149) hx hb dX2_counted_143 (by decide) ⟨by omega, by omega⟩ ⟨by omega, by omega⟩ (fun c143 => ?_) (fun c143 => ?_)
        · skip
          refine lv_aload_n hx hb dX2_counted_149 rfl (lv_at hl 3 rfl) ?_
          refine lv_iload_n hx hb dX2_counted_150 rfl (lv_at hl 1 rfl) ?_
          refine lv_iconst (v := iI (0)) hx hb dX2_counted_151 rfl ?_
          have hPc : va_P D vwCl (MW cI d σ ++ []) H := by rw [List.append_nil]; exact hP
          have hDc : va_D A (MW cI d σ ++ []) := by rw [List.append_nil]; exact hD
          refine g_call (va_runV (As := [.int (iI (i2)), .int (iI (0))]) (rest := []) S ((kX2_tr l D cI cZ cQ d σ i2 0 (by first | assumption | omega) (by first | assumption | omega) (by first | assumption | omega) (by first | assumption | omega)) H.size) (cwV 2 hts gX2_counted_X2_tr rfl rfl rfl (by decide +kernel) ⟨Nat.le_of_ble_eq_true rfl, Nat.le_of_ble_eq_true rfl⟩) (g_preV gEx_t hK [0, 1, 2] rfl hPc hDc (fun _ _ _ => trivial) (q0 := 0) (ci := 2) rfl rfl rfl) rfl rfl hl.1 rfl (lv_room (Nat.le_of_ble_eq_true rfl)) dX2_counted_152 ⟨Nat.le_of_ble_eq_true rfl, Nat.le_of_ble_eq_true rfl⟩) hPc hDc hS hA (fun κ9 H locs hk hP hD hS => ?_)
          have hP : va_P D vwCl (MW cI d σ) H := by have h9 : va_P D vwCl (MW cI d σ ++ []) H := hP; rw [List.append_nil] at h9; exact h9
          have hD : va_D A (MW cI d σ) := by have h9 : va_D A (MW cI d σ ++ []) := hD; rw [List.append_nil] at h9; exact h9
          show W p l e ({ frames := 2, cells := 0, slots := 0, locals := 45 } : Room) s m args below meth c H locs 0 0 (MQ below (gQ D (tyMs cI cZ cQ) (fun κ' => MW cI d σ) A (fun _ => some (.int (iI (mCnt σ w0)))) (fun _ => True)) args s 0 0 A) (F0 m 155 ls [.int (iI (σ 3 (5 * i2 + 0)))])
          refine lv_aload_n hx hb dX2_counted_155 rfl (lv_at hl 3 rfl) ?_
          refine lv_iload hx hb dX2_counted_156 (lv_at hl 0 rfl) ?_
          refine lv_iconst (v := iI (0)) hx hb dX2_counted_158 rfl ?_
          have hPc : va_P D vwCl (MW cI d σ ++ []) H := by rw [List.append_nil]; exact hP
          have hDc : va_D A (MW cI d σ ++ []) := by rw [List.append_nil]; exact hD
          refine g_call (va_runV (As := [.int (iI (mm i2)), .int (iI (0))]) (rest := [.int (iI (σ 3 (5 * i2 + 0)))]) S ((kX2_tr l D cI cZ cQ d σ (mm i2) 0 (by first | assumption | omega) (by first | assumption | omega) (by first | assumption | omega) (by first | assumption | omega)) H.size) (cwV 2 hts gX2_counted_X2_tr rfl rfl rfl (by decide +kernel) ⟨Nat.le_of_ble_eq_true rfl, Nat.le_of_ble_eq_true rfl⟩) (g_preV gEx_t hK [0, 1, 2] rfl hPc hDc (fun _ _ _ => trivial) (q0 := 0) (ci := 2) rfl rfl rfl) rfl rfl hl.1 rfl (lv_room (Nat.le_of_ble_eq_true rfl)) dX2_counted_159 ⟨Nat.le_of_ble_eq_true rfl, Nat.le_of_ble_eq_true rfl⟩) hPc hDc hS hA (fun κ9 H locs hk hP hD hS => ?_)
          have hP : va_P D vwCl (MW cI d σ) H := by have h9 : va_P D vwCl (MW cI d σ ++ []) H := hP; rw [List.append_nil] at h9; exact h9
          have hD : va_D A (MW cI d σ) := by have h9 : va_D A (MW cI d σ ++ []) := hD; rw [List.append_nil] at h9; exact h9
          show W p l e ({ frames := 2, cells := 0, slots := 0, locals := 45 } : Room) s m args below meth c H locs 0 0 (MQ below (gQ D (tyMs cI cZ cQ) (fun κ' => MW cI d σ) A (fun _ => some (.int (iI (mCnt σ w0)))) (fun _ => True)) args s 0 0 A) (F0 m 162 ls [.int (iI (σ 3 (5 * (mm i2) + 0))), .int (iI (σ 3 (5 * i2 + 0)))])
          refine gi_icmp_ne (tgt := 201) hx hb dX2_counted_162 (by decide) ⟨by omega, by omega⟩ ⟨by omega, by omega⟩ (fun c162 => ?_) (fun c162 => ?_)
          · skip
            refine lv_iconst (v := iI (0)) hx hb dX2_counted_201 rfl ?_
            refine lv_istore (lv' := [(5, .int (iI (0))), (4, .int (iI (mm i2))), (3, .int (iI (i2))), (2, .int (iI (a2))), (0, .ref (d 0)), (1, .int (iI (w0)))]) hx hb dX2_counted_202 hl (by decide) rfl (fun ls hl => ?_)
            refine lv_iload_n hx hb dX2_counted_204 rfl (lv_at hl 3 rfl) ?_
            refine lv_iload hx hb dX2_counted_205 (lv_at hl 0 rfl) ?_
            refine gi_if_eq (tgt := 214) hx hb dX2_counted_207 (by decide) ⟨by decide, by decide⟩ (fun c207 => ?_) (fun c207 => ?_)
            · skip
              refine lv_iconst (v := iI (1)) hx hb dX2_counted_214 rfl ?_
              refine gi_add hx hb dX2_counted_215 ?_
              refine lv_istore_n (lv' := [(2, .int (iI (a2 + 1))), (5, .int (iI (0))), (4, .int (iI (mm i2))), (3, .int (iI (i2))), (0, .ref (d 0)), (1, .int (iI (w0)))]) hx hb dX2_counted_216 rfl hl (by decide) rfl (fun ls hl => ?_)
              refine lv_iinc (v := iI (i2 + 1)) (lv' := [(3, .int (iI (i2 + 1))), (2, .int (iI (a2 + 1))), (5, .int (iI (0))), (4, .int (iI (mm i2))), (0, .ref (d 0)), (1, .int (iI (w0)))]) hx hb dX2_counted_217 hl (k := 3) rfl (iI_add _ _) (by decide) rfl (fun ls hl => ?_)
              refine lv_goto (tgt := 115) hx hb dX2_counted_220 (by decide) ?_
              exact ih115 (i2 + 1) (a2 + 1)  (by omega) (by omega) (by omega) (by rw [isumI_s _ hlo115, ia115]; unfold mPair; first | (rw [if_pos (show mm i2 < i2 by omega)]; omega) | (rw [if_neg (show ¬ mm i2 < i2 by omega), if_pos (by omega)]; done) | (rw [if_neg (show ¬ mm i2 < i2 by omega), if_neg (by omega)]; done)) H locs ls hP hD hS (lv_sub hl [0, 1, 4, 5] rfl)
            · skip
              exact absurd (by decide) c207
          · skip
            refine lv_aload_n hx hb dX2_counted_165 rfl (lv_at hl 3 rfl) ?_
            refine lv_iload_n hx hb dX2_counted_166 rfl (lv_at hl 1 rfl) ?_
            refine lv_iconst (v := iI (3)) hx hb dX2_counted_167 rfl ?_
            have hPc : va_P D vwCl (MW cI d σ ++ []) H := by rw [List.append_nil]; exact hP
            have hDc : va_D A (MW cI d σ ++ []) := by rw [List.append_nil]; exact hD
            refine g_call (va_runV (As := [.int (iI (i2)), .int (iI (3))]) (rest := []) S ((kX2_tr l D cI cZ cQ d σ i2 3 (by first | assumption | omega) (by first | assumption | omega) (by first | assumption | omega) (by first | assumption | omega)) H.size) (cwV 2 hts gX2_counted_X2_tr rfl rfl rfl (by decide +kernel) ⟨Nat.le_of_ble_eq_true rfl, Nat.le_of_ble_eq_true rfl⟩) (g_preV gEx_t hK [0, 1, 2] rfl hPc hDc (fun _ _ _ => trivial) (q0 := 0) (ci := 2) rfl rfl rfl) rfl rfl hl.1 rfl (lv_room (Nat.le_of_ble_eq_true rfl)) dX2_counted_168 ⟨Nat.le_of_ble_eq_true rfl, Nat.le_of_ble_eq_true rfl⟩) hPc hDc hS hA (fun κ9 H locs hk hP hD hS => ?_)
            have hP : va_P D vwCl (MW cI d σ) H := by have h9 : va_P D vwCl (MW cI d σ ++ []) H := hP; rw [List.append_nil] at h9; exact h9
            have hD : va_D A (MW cI d σ) := by have h9 : va_D A (MW cI d σ ++ []) := hD; rw [List.append_nil] at h9; exact h9
            show W p l e ({ frames := 2, cells := 0, slots := 0, locals := 45 } : Room) s m args below meth c H locs 0 0 (MQ below (gQ D (tyMs cI cZ cQ) (fun κ' => MW cI d σ) A (fun _ => some (.int (iI (mCnt σ w0)))) (fun _ => True)) args s 0 0 A) (F0 m 171 ls [.int (iI (σ 3 (5 * i2 + 3)))])
            refine lv_aload_n hx hb dX2_counted_171 rfl (lv_at hl 3 rfl) ?_
            refine lv_iload hx hb dX2_counted_172 (lv_at hl 0 rfl) ?_
            refine lv_iconst (v := iI (3)) hx hb dX2_counted_174 rfl ?_
            have hPc : va_P D vwCl (MW cI d σ ++ []) H := by rw [List.append_nil]; exact hP
            have hDc : va_D A (MW cI d σ ++ []) := by rw [List.append_nil]; exact hD
            refine g_call (va_runV (As := [.int (iI (mm i2)), .int (iI (3))]) (rest := [.int (iI (σ 3 (5 * i2 + 3)))]) S ((kX2_tr l D cI cZ cQ d σ (mm i2) 3 (by first | assumption | omega) (by first | assumption | omega) (by first | assumption | omega) (by first | assumption | omega)) H.size) (cwV 2 hts gX2_counted_X2_tr rfl rfl rfl (by decide +kernel) ⟨Nat.le_of_ble_eq_true rfl, Nat.le_of_ble_eq_true rfl⟩) (g_preV gEx_t hK [0, 1, 2] rfl hPc hDc (fun _ _ _ => trivial) (q0 := 0) (ci := 2) rfl rfl rfl) rfl rfl hl.1 rfl (lv_room (Nat.le_of_ble_eq_true rfl)) dX2_counted_175 ⟨Nat.le_of_ble_eq_true rfl, Nat.le_of_ble_eq_true rfl⟩) hPc hDc hS hA (fun κ9 H locs hk hP hD hS => ?_)
            have hP : va_P D vwCl (MW cI d σ) H := by have h9 : va_P D vwCl (MW cI d σ ++ []) H := hP; rw [List.append_nil] at h9; exact h9
            have hD : va_D A (MW cI d σ) := by have h9 : va_D A (MW cI d σ ++ []) := hD; rw [List.append_nil] at h9; exact h9
            show W p l e ({ frames := 2, cells := 0, slots := 0, locals := 45 } : Room) s m args below meth c H locs 0 0 (MQ below (gQ D (tyMs cI cZ cQ) (fun κ' => MW cI d σ) A (fun _ => some (.int (iI (mCnt σ w0)))) (fun _ => True)) args s 0 0 A) (F0 m 178 ls [.int (iI (σ 3 (5 * (mm i2) + 3))), .int (iI (σ 3 (5 * i2 + 3)))])
            refine gi_icmp_ne (tgt := 201) hx hb dX2_counted_178 (by decide) ⟨by omega, by omega⟩ ⟨by omega, by omega⟩ (fun c178 => ?_) (fun c178 => ?_)
            · skip
              refine lv_iconst (v := iI (0)) hx hb dX2_counted_201 rfl ?_
              refine lv_istore (lv' := [(5, .int (iI (0))), (4, .int (iI (mm i2))), (3, .int (iI (i2))), (2, .int (iI (a2))), (0, .ref (d 0)), (1, .int (iI (w0)))]) hx hb dX2_counted_202 hl (by decide) rfl (fun ls hl => ?_)
              refine lv_iload_n hx hb dX2_counted_204 rfl (lv_at hl 3 rfl) ?_
              refine lv_iload hx hb dX2_counted_205 (lv_at hl 0 rfl) ?_
              refine gi_if_eq (tgt := 214) hx hb dX2_counted_207 (by decide) ⟨by decide, by decide⟩ (fun c207 => ?_) (fun c207 => ?_)
              · skip
                refine lv_iconst (v := iI (1)) hx hb dX2_counted_214 rfl ?_
                refine gi_add hx hb dX2_counted_215 ?_
                refine lv_istore_n (lv' := [(2, .int (iI (a2 + 1))), (5, .int (iI (0))), (4, .int (iI (mm i2))), (3, .int (iI (i2))), (0, .ref (d 0)), (1, .int (iI (w0)))]) hx hb dX2_counted_216 rfl hl (by decide) rfl (fun ls hl => ?_)
                refine lv_iinc (v := iI (i2 + 1)) (lv' := [(3, .int (iI (i2 + 1))), (2, .int (iI (a2 + 1))), (5, .int (iI (0))), (4, .int (iI (mm i2))), (0, .ref (d 0)), (1, .int (iI (w0)))]) hx hb dX2_counted_217 hl (k := 3) rfl (iI_add _ _) (by decide) rfl (fun ls hl => ?_)
                refine lv_goto (tgt := 115) hx hb dX2_counted_220 (by decide) ?_
                exact ih115 (i2 + 1) (a2 + 1)  (by omega) (by omega) (by omega) (by rw [isumI_s _ hlo115, ia115]; unfold mPair; first | (rw [if_pos (show mm i2 < i2 by omega)]; omega) | (rw [if_neg (show ¬ mm i2 < i2 by omega), if_pos (by omega)]; done) | (rw [if_neg (show ¬ mm i2 < i2 by omega), if_neg (by omega)]; done)) H locs ls hP hD hS (lv_sub hl [0, 1, 4, 5] rfl)
              · skip
                exact absurd (by decide) c207
            · skip
              refine lv_aload_n hx hb dX2_counted_181 rfl (lv_at hl 3 rfl) ?_
              refine lv_iload_n hx hb dX2_counted_182 rfl (lv_at hl 1 rfl) ?_
              refine lv_iconst (v := iI (1)) hx hb dX2_counted_183 rfl ?_
              have hPc : va_P D vwCl (MW cI d σ ++ []) H := by rw [List.append_nil]; exact hP
              have hDc : va_D A (MW cI d σ ++ []) := by rw [List.append_nil]; exact hD
              refine g_call (va_runV (As := [.int (iI (i2)), .int (iI (1))]) (rest := []) S ((kX2_tr l D cI cZ cQ d σ i2 1 (by first | assumption | omega) (by first | assumption | omega) (by first | assumption | omega) (by first | assumption | omega)) H.size) (cwV 2 hts gX2_counted_X2_tr rfl rfl rfl (by decide +kernel) ⟨Nat.le_of_ble_eq_true rfl, Nat.le_of_ble_eq_true rfl⟩) (g_preV gEx_t hK [0, 1, 2] rfl hPc hDc (fun _ _ _ => trivial) (q0 := 0) (ci := 2) rfl rfl rfl) rfl rfl hl.1 rfl (lv_room (Nat.le_of_ble_eq_true rfl)) dX2_counted_184 ⟨Nat.le_of_ble_eq_true rfl, Nat.le_of_ble_eq_true rfl⟩) hPc hDc hS hA (fun κ9 H locs hk hP hD hS => ?_)
              have hP : va_P D vwCl (MW cI d σ) H := by have h9 : va_P D vwCl (MW cI d σ ++ []) H := hP; rw [List.append_nil] at h9; exact h9
              have hD : va_D A (MW cI d σ) := by have h9 : va_D A (MW cI d σ ++ []) := hD; rw [List.append_nil] at h9; exact h9
              show W p l e ({ frames := 2, cells := 0, slots := 0, locals := 45 } : Room) s m args below meth c H locs 0 0 (MQ below (gQ D (tyMs cI cZ cQ) (fun κ' => MW cI d σ) A (fun _ => some (.int (iI (mCnt σ w0)))) (fun _ => True)) args s 0 0 A) (F0 m 187 ls [.int (iI (σ 3 (5 * i2 + 1)))])
              refine lv_aload_n hx hb dX2_counted_187 rfl (lv_at hl 3 rfl) ?_
              refine lv_iload hx hb dX2_counted_188 (lv_at hl 0 rfl) ?_
              refine lv_iconst (v := iI (1)) hx hb dX2_counted_190 rfl ?_
              have hPc : va_P D vwCl (MW cI d σ ++ []) H := by rw [List.append_nil]; exact hP
              have hDc : va_D A (MW cI d σ ++ []) := by rw [List.append_nil]; exact hD
              refine g_call (va_runV (As := [.int (iI (mm i2)), .int (iI (1))]) (rest := [.int (iI (σ 3 (5 * i2 + 1)))]) S ((kX2_tr l D cI cZ cQ d σ (mm i2) 1 (by first | assumption | omega) (by first | assumption | omega) (by first | assumption | omega) (by first | assumption | omega)) H.size) (cwV 2 hts gX2_counted_X2_tr rfl rfl rfl (by decide +kernel) ⟨Nat.le_of_ble_eq_true rfl, Nat.le_of_ble_eq_true rfl⟩) (g_preV gEx_t hK [0, 1, 2] rfl hPc hDc (fun _ _ _ => trivial) (q0 := 0) (ci := 2) rfl rfl rfl) rfl rfl hl.1 rfl (lv_room (Nat.le_of_ble_eq_true rfl)) dX2_counted_191 ⟨Nat.le_of_ble_eq_true rfl, Nat.le_of_ble_eq_true rfl⟩) hPc hDc hS hA (fun κ9 H locs hk hP hD hS => ?_)
              have hP : va_P D vwCl (MW cI d σ) H := by have h9 : va_P D vwCl (MW cI d σ ++ []) H := hP; rw [List.append_nil] at h9; exact h9
              have hD : va_D A (MW cI d σ) := by have h9 : va_D A (MW cI d σ ++ []) := hD; rw [List.append_nil] at h9; exact h9
              show W p l e ({ frames := 2, cells := 0, slots := 0, locals := 45 } : Room) s m args below meth c H locs 0 0 (MQ below (gQ D (tyMs cI cZ cQ) (fun κ' => MW cI d σ) A (fun _ => some (.int (iI (mCnt σ w0)))) (fun _ => True)) args s 0 0 A) (F0 m 194 ls [.int (iI (σ 3 (5 * (mm i2) + 1))), .int (iI (σ 3 (5 * i2 + 1)))])
              refine gi_icmp_ne (tgt := 201) hx hb dX2_counted_194 (by decide) ⟨by omega, by omega⟩ ⟨by omega, by omega⟩ (fun c194 => ?_) (fun c194 => ?_)
              · skip
                refine lv_iconst (v := iI (0)) hx hb dX2_counted_201 rfl ?_
                refine lv_istore (lv' := [(5, .int (iI (0))), (4, .int (iI (mm i2))), (3, .int (iI (i2))), (2, .int (iI (a2))), (0, .ref (d 0)), (1, .int (iI (w0)))]) hx hb dX2_counted_202 hl (by decide) rfl (fun ls hl => ?_)
                refine lv_iload_n hx hb dX2_counted_204 rfl (lv_at hl 3 rfl) ?_
                refine lv_iload hx hb dX2_counted_205 (lv_at hl 0 rfl) ?_
                refine gi_if_eq (tgt := 214) hx hb dX2_counted_207 (by decide) ⟨by decide, by decide⟩ (fun c207 => ?_) (fun c207 => ?_)
                · skip
                  refine lv_iconst (v := iI (1)) hx hb dX2_counted_214 rfl ?_
                  refine gi_add hx hb dX2_counted_215 ?_
                  refine lv_istore_n (lv' := [(2, .int (iI (a2 + 1))), (5, .int (iI (0))), (4, .int (iI (mm i2))), (3, .int (iI (i2))), (0, .ref (d 0)), (1, .int (iI (w0)))]) hx hb dX2_counted_216 rfl hl (by decide) rfl (fun ls hl => ?_)
                  refine lv_iinc (v := iI (i2 + 1)) (lv' := [(3, .int (iI (i2 + 1))), (2, .int (iI (a2 + 1))), (5, .int (iI (0))), (4, .int (iI (mm i2))), (0, .ref (d 0)), (1, .int (iI (w0)))]) hx hb dX2_counted_217 hl (k := 3) rfl (iI_add _ _) (by decide) rfl (fun ls hl => ?_)
                  refine lv_goto (tgt := 115) hx hb dX2_counted_220 (by decide) ?_
                  exact ih115 (i2 + 1) (a2 + 1)  (by omega) (by omega) (by omega) (by rw [isumI_s _ hlo115, ia115]; unfold mPair; first | (rw [if_pos (show mm i2 < i2 by omega)]; omega) | (rw [if_neg (show ¬ mm i2 < i2 by omega), if_pos (by omega)]; done) | (rw [if_neg (show ¬ mm i2 < i2 by omega), if_neg (by omega)]; done)) H locs ls hP hD hS (lv_sub hl [0, 1, 4, 5] rfl)
                · skip
                  exact absurd (by decide) c207
              · skip
                refine lv_iconst (v := iI (1)) hx hb dX2_counted_197 rfl ?_
                refine lv_goto (tgt := 202) hx hb dX2_counted_198 (by decide) ?_
                refine lv_istore (lv' := [(5, .int (iI (1))), (4, .int (iI (mm i2))), (3, .int (iI (i2))), (2, .int (iI (a2))), (0, .ref (d 0)), (1, .int (iI (w0)))]) hx hb dX2_counted_202 hl (by decide) rfl (fun ls hl => ?_)
                refine lv_iload_n hx hb dX2_counted_204 rfl (lv_at hl 3 rfl) ?_
                refine lv_iload hx hb dX2_counted_205 (lv_at hl 0 rfl) ?_
                refine gi_if_eq (tgt := 214) hx hb dX2_counted_207 (by decide) ⟨by decide, by decide⟩ (fun c207 => ?_) (fun c207 => ?_)
                · skip
                  exact absurd c207 (by decide)
                · skip
                  refine lv_iconst (v := iI (0)) hx hb dX2_counted_210 rfl ?_
                  refine lv_goto (tgt := 215) hx hb dX2_counted_211 (by decide) ?_
                  refine gi_add hx hb dX2_counted_215 ?_
                  refine lv_istore_n (lv' := [(2, .int (iI (a2 + 0))), (5, .int (iI (1))), (4, .int (iI (mm i2))), (3, .int (iI (i2))), (0, .ref (d 0)), (1, .int (iI (w0)))]) hx hb dX2_counted_216 rfl hl (by decide) rfl (fun ls hl => ?_)
                  refine lv_iinc (v := iI (i2 + 1)) (lv' := [(3, .int (iI (i2 + 1))), (2, .int (iI (a2 + 0))), (5, .int (iI (1))), (4, .int (iI (mm i2))), (0, .ref (d 0)), (1, .int (iI (w0)))]) hx hb dX2_counted_217 hl (k := 3) rfl (iI_add _ _) (by decide) rfl (fun ls hl => ?_)
                  refine lv_goto (tgt := 115) hx hb dX2_counted_220 (by decide) ?_
                  exact ih115 (i2 + 1) (a2 + 0)  (by omega) (by omega) (by omega) (by rw [isumI_s _ hlo115, ia115]; unfold mPair; first | (rw [if_pos (show mm i2 < i2 by omega)]; omega) | (rw [if_neg (show ¬ mm i2 < i2 by omega), if_pos (by omega)]; done) | (rw [if_neg (show ¬ mm i2 < i2 by omega), if_neg (by omega)]; done)) H locs ls hP hD hS (lv_sub hl [0, 1, 4, 5] rfl)
        · skip
          refine lv_goto (tgt := 217) hx hb dX2_counted_146 (by decide) ?_
          refine lv_iinc (v := iI (i2 + 1)) (lv' := [(3, .int (iI (i2 + 1))), (4, .int (iI (mm i2))), (2, .int (iI (a2))), (0, .ref (d 0)), (1, .int (iI (w0)))]) hx hb dX2_counted_217 hl (k := 1) rfl (iI_add _ _) (by decide) rfl (fun ls hl => ?_)
          refine lv_goto (tgt := 115) hx hb dX2_counted_220 (by decide) ?_
          exact ih115 (i2 + 1) a2  (by omega) (by omega) (by omega) (by rw [isumI_s _ hlo115, ia115]; unfold mPair; first | (rw [if_pos (show mm i2 < i2 by omega)]; omega) | (rw [if_neg (show ¬ mm i2 < i2 by omega), if_pos (by omega)]; done) | (rw [if_neg (show ¬ mm i2 < i2 by omega), if_neg (by omega)]; done)) H locs ls hP hD hS (lv_sub hl [0, 2, 3, 4] rfl)
  exact loop115 (((40 - (0) + 1 : Int)).toNat) 0 0  (by omega) (by omega) (by omega) (by rw [isumI_0]) H locs ls hP hD hS (lv_sub hl [0, 1, 2, 3] rfl)
set_option maxHeartbeats 4000000 in
set_option maxRecDepth 100000 in
theorem kX2_count (l : Launch) (D : va_G) (cI cZ cQ : ClassId) (d : Nat → Nat) (σ : St)  (w0 : Int) (hl_w0 : -2147483648 ≤ w0) (hh_w0 : w0 ≤ 2147483647) (hwf : mWF σ) : gMet l yX2_count wsX2_count ({ frames := 3, cells := 0, slots := 0, locals := 70 } : Room) D (tyMs cI cZ cQ) (MW cI d σ) [.ref (d 0), .int (iI w0)] (fun _ => True) (fun _ => some (.int (iI (mVal (tCount w0) (mCnt σ w0))))) (fun _ => True) (fun κ' => MW cI d (mRes (tCount w0) (mZ σ) σ)) := by
  refine g_start (cc := cX2_count) (maxL := 2) (ret := (some .int)) (by decide) rfl (Nat.le_of_ble_eq_true rfl) ?_
  intro p e s m args below meth c A ls H locs S hr hlocks hname hP hK hD hA hS hE hl
  have S0 := S
  obtain ⟨hx, hb, hml, hown, hts⟩ := S0
  have hl : lv_has ls 2 [(0, .ref (d 0)), (1, .int (iI (w0)))] := hl
  have hinX2 : ∀ w ∈ wsX20, w ∈ wsX2_count := by decide +kernel
  refine lv_aload_n hx hb dX2_count_0 rfl (lv_at hl 0 rfl) ?_
  refine lv_iconst (v := iI (0)) hx hb dX2_count_1 rfl ?_
  refine va_put (D := D) (ci := 2) (v := .int (iI (0))) (ty := .int) (C := RX2) (T := TX2) (N := 8) hx hb hts hinX2 tyX2 tyX2_ok nmX2 hown hK hP hD hS 0 rfl rfl 0 (by decide) (hts (.fieldLink RX2 28 "TwinOrchardModel" "thrown" "I") (List.mem_of_getElem? (i := 1) rfl)) (fun _ h9 => h9) rfl (by decide +kernel) rfl rfl (Nat.le_of_ble_eq_true rfl) dX2_count_2 (fun H locs hP hD hS => ?_)
  have hP : va_P D vwCl (MW cI d (su σ 6 0 (0))) H := hP
  have hD : va_D A (MW cI d (su σ 6 0 (0))) := hD
  refine lv_iload_n hx hb dX2_count_5 rfl (lv_at hl 1 rfl) ?_
  refine lv_iconst (v := iI (0)) hx hb dX2_count_6 rfl ?_
  refine lv_bipush (v := iI (7)) hx hb dX2_count_7 rfl ?_
  have hPc : va_P D vwCl ([] ++ (MW cI d (su σ 6 0 (0)))) H := hP
  have hDc : va_D A ([] ++ (MW cI d (su σ 6 0 (0)))) := hD
  refine g_call (va_runS (As := [.int (iI (w0)), .int (iI (0)), .int (iI (7))]) (rest := []) S ((kX2_isIn l D  w0 0 7 (by first | assumption | omega) (by first | assumption | omega) (by first | assumption | omega) (by first | assumption | omega) (by first | assumption | omega) (by first | assumption | omega)) H.size) (va_cwS 3 hts gX2_count_X2_isIn rfl rfl rfl (by decide +kernel) ⟨Nat.le_of_ble_eq_true rfl, Nat.le_of_ble_eq_true rfl⟩) (g_preS gEx_t hK [] rfl hPc hDc (fun _ _ _ => trivial)) rfl rfl hl.1 rfl (lv_room (Nat.le_of_ble_eq_true rfl)) dX2_count_9 ⟨Nat.le_of_ble_eq_true rfl, Nat.le_of_ble_eq_true rfl⟩) hPc hDc hS hA (fun κ9 H locs hk hP hD hS => ?_)
  have hP : va_P D vwCl (MW cI d (su σ 6 0 (0))) H := hP
  have hD : va_D A (MW cI d (su σ 6 0 (0))) := hD
  show W p l e ({ frames := 3, cells := 0, slots := 0, locals := 70 } : Room) s m args below meth c H locs 0 0 (MQ below (gQ D (tyMs cI cZ cQ) (fun κ' => MW cI d (mRes (tCount w0) (mZ σ) σ)) A (fun _ => some (.int (iI (mVal (tCount w0) (mCnt σ w0))))) (fun _ => True)) args s 0 0 A) (F0 m 12 ls [.int (iI (bI (0 ≤ w0 ∧ w0 ≤ 7)))])
  refine gb_if_eq (tgt := 23) hx hb dX2_count_12 (by decide)  (fun c12 => ?_) (fun c12 => ?_)
  · skip
    refine lv_aload_n hx hb dX2_count_23 rfl (lv_at hl 0 rfl) ?_
    refine lv_iconst (v := iI (1)) hx hb dX2_count_24 rfl ?_
    have hPc : va_P D vwCl (MW cI d (su σ 6 0 (0)) ++ []) H := by rw [List.append_nil]; exact hP
    have hDc : va_D A (MW cI d (su σ 6 0 (0)) ++ []) := by rw [List.append_nil]; exact hD
    refine g_call (va_runV (As := [.int (iI (1))]) (rest := []) S ((kX2_fail l D cI cZ cQ d (su σ 6 0 (0)) 1 ) H.size) (cwV 1 hts gX2_count_X2_fail rfl rfl rfl (by decide +kernel) ⟨Nat.le_of_ble_eq_true rfl, Nat.le_of_ble_eq_true rfl⟩) (g_preV gEx_t hK [0, 1, 2] rfl hPc hDc (fun _ _ _ => trivial) (q0 := 0) (ci := 2) rfl rfl rfl) rfl rfl hl.1 rfl (lv_room (Nat.le_of_ble_eq_true rfl)) dX2_count_25 ⟨Nat.le_of_ble_eq_true rfl, Nat.le_of_ble_eq_true rfl⟩) hPc hDc hS hA (fun κ9 H locs hk hP hD hS => ?_)
    have hP : va_P D vwCl (MW cI d (su (su σ 6 0 (0)) 6 0 1)) H := by have h9 : va_P D vwCl (MW cI d (su (su σ 6 0 (0)) 6 0 1) ++ []) H := hP; rw [List.append_nil] at h9; exact h9
    have hD : va_D A (MW cI d (su (su σ 6 0 (0)) 6 0 1)) := by have h9 : va_D A (MW cI d (su (su σ 6 0 (0)) 6 0 1) ++ []) := hD; rw [List.append_nil] at h9; exact h9
    show W p l e ({ frames := 3, cells := 0, slots := 0, locals := 70 } : Room) s m args below meth c H locs 0 0 (MQ below (gQ D (tyMs cI cZ cQ) (fun κ' => MW cI d (mRes (tCount w0) (mZ σ) σ)) A (fun _ => some (.int (iI (mVal (tCount w0) (mCnt σ w0))))) (fun _ => True)) args s 0 0 A) (F0 m 28 ls [.int (iI (0))])
    have es : (mRes (tCount w0) (mZ σ) σ) = (su (su σ 6 0 (0)) 6 0 1) := by first | (rw [show tCount w0 = 1 from by unfold tCount; rw [if_pos (by omega)]]; rfl) | (rw [show tCount w0 = 0 from by unfold tCount; rw [if_neg (by omega)]]; rfl)
    have er : ((mVal (tCount w0) (mCnt σ w0) : Int)) = (0) := by first | (rw [show tCount w0 = 1 from by unfold tCount; rw [if_pos (by omega)]]; rfl) | (rw [show tCount w0 = 0 from by unfold tCount; rw [if_neg (by omega)]]; rfl)
    exact g_iret (wo := (fun κ' => MW cI d (mRes (tCount w0) (mZ σ) σ))) (kr := (fun _ => True)) (rv := (fun _ => some (.int (iI (mVal (tCount w0) (mCnt σ w0)))))) hx hb hr hlocks (fun _ _ => 0) rfl (by rw [es]; exact hP) hK (by rw [es]; exact hD) hS trivial (by rw [er]) (Nat.le_of_ble_eq_true rfl) (Nat.le_of_ble_eq_true rfl) dX2_count_28
  · skip
    refine lv_aload_n hx hb dX2_count_15 rfl (lv_at hl 0 rfl) ?_
    refine lv_iload_n hx hb dX2_count_16 rfl (lv_at hl 1 rfl) ?_
    have hPc : va_P D vwCl (MW cI d (su σ 6 0 (0)) ++ []) H := by rw [List.append_nil]; exact hP
    have hDc : va_D A (MW cI d (su σ 6 0 (0)) ++ []) := by rw [List.append_nil]; exact hD
    refine g_call (va_runV (As := [.int (iI (w0))]) (rest := []) S ((kX2_counted l D cI cZ cQ d (su σ 6 0 (0)) w0 (by first | assumption | omega) (mWF_6 hwf _ _)) H.size) (cwV 1 hts gX2_count_X2_counted rfl rfl rfl (by decide +kernel) ⟨Nat.le_of_ble_eq_true rfl, Nat.le_of_ble_eq_true rfl⟩) (g_preV gEx_t hK [0, 1, 2] rfl hPc hDc (fun _ _ _ => trivial) (q0 := 0) (ci := 2) rfl rfl rfl) rfl rfl hl.1 rfl (lv_room (Nat.le_of_ble_eq_true rfl)) dX2_count_17 ⟨Nat.le_of_ble_eq_true rfl, Nat.le_of_ble_eq_true rfl⟩) hPc hDc hS hA (fun κ9 H locs hk hP hD hS => ?_)
    have hP : va_P D vwCl (MW cI d (su σ 6 0 (0))) H := by have h9 : va_P D vwCl (MW cI d (su σ 6 0 (0)) ++ []) H := hP; rw [List.append_nil] at h9; exact h9
    have hD : va_D A (MW cI d (su σ 6 0 (0))) := by have h9 : va_D A (MW cI d (su σ 6 0 (0)) ++ []) := hD; rw [List.append_nil] at h9; exact h9
    show W p l e ({ frames := 3, cells := 0, slots := 0, locals := 70 } : Room) s m args below meth c H locs 0 0 (MQ below (gQ D (tyMs cI cZ cQ) (fun κ' => MW cI d (mRes (tCount w0) (mZ σ) σ)) A (fun _ => some (.int (iI (mVal (tCount w0) (mCnt σ w0))))) (fun _ => True)) args s 0 0 A) (F0 m 20 ls [.int (iI (mCnt (su σ 6 0 (0)) w0))])
    refine lv_goto (tgt := 28) hx hb dX2_count_20 (by decide) ?_
    have es : (mRes (tCount w0) (mZ σ) σ) = (su σ 6 0 (0)) := by first | (rw [show tCount w0 = 1 from by unfold tCount; rw [if_pos (by omega)]]; rfl) | (rw [show tCount w0 = 0 from by unfold tCount; rw [if_neg (by omega)]]; rfl)
    have er : ((mVal (tCount w0) (mCnt σ w0) : Int)) = (mCnt (su σ 6 0 (0)) w0) := by first | (rw [show tCount w0 = 1 from by unfold tCount; rw [if_pos (by omega)]]; rfl) | (rw [show tCount w0 = 0 from by unfold tCount; rw [if_neg (by omega)]]; rfl)
    exact g_iret (wo := (fun κ' => MW cI d (mRes (tCount w0) (mZ σ) σ))) (kr := (fun _ => True)) (rv := (fun _ => some (.int (iI (mVal (tCount w0) (mCnt σ w0)))))) hx hb hr hlocks (fun _ _ => 0) rfl (by rw [es]; exact hP) hK (by rw [es]; exact hD) hS trivial (by rw [er]) (Nat.le_of_ble_eq_true rfl) (Nat.le_of_ble_eq_true rfl) dX2_count_28
set_option maxHeartbeats 4000000 in
set_option maxRecDepth 100000 in
theorem kX2_leans (l : Launch) (D : va_G) (cI cZ cQ : ClassId) (d : Nat → Nat) (σ : St)  (r0 : Int) (hl_r0 : -2147483648 ≤ r0) (hh_r0 : r0 ≤ 2147483647) (hwf : mWF σ) : gMet l yX2_leans wsX2_leans ({ frames := 2, cells := 0, slots := 0, locals := 44 } : Room) D (tyMs cI cZ cQ) (MW cI d σ) [.ref (d 0), .int (iI r0)] (fun _ => True) (fun _ => some (.int (iI (mVal (tLeans r0) (mLean σ r0))))) (fun _ => True) (fun κ' => MW cI d (mRes (tLeans r0) (mZ σ) σ)) := by
  refine g_start (cc := cX2_leans) (maxL := 4) (ret := (some .int)) (by decide) rfl (Nat.le_of_ble_eq_true rfl) ?_
  intro p e s m args below meth c A ls H locs S hr hlocks hname hP hK hD hA hS hE hl
  have S0 := S
  obtain ⟨hx, hb, hml, hown, hts⟩ := S0
  have hl : lv_has ls 4 [(0, .ref (d 0)), (1, .int (iI (r0)))] := hl
  have hinX2 : ∀ w ∈ wsX20, w ∈ wsX2_leans := by decide +kernel
  refine lv_aload_n hx hb dX2_leans_0 rfl (lv_at hl 0 rfl) ?_
  refine lv_iconst (v := iI (0)) hx hb dX2_leans_1 rfl ?_
  refine va_put (D := D) (ci := 2) (v := .int (iI (0))) (ty := .int) (C := RX2) (T := TX2) (N := 8) hx hb hts hinX2 tyX2 tyX2_ok nmX2 hown hK hP hD hS 0 rfl rfl 0 (by decide) (hts (.fieldLink RX2 28 "TwinOrchardModel" "thrown" "I") (List.mem_of_getElem? (i := 1) rfl)) (fun _ h9 => h9) rfl (by decide +kernel) rfl rfl (Nat.le_of_ble_eq_true rfl) dX2_leans_2 (fun H locs hP hD hS => ?_)
  have hP : va_P D vwCl (MW cI d (su σ 6 0 (0))) H := hP
  have hD : va_D A (MW cI d (su σ 6 0 (0))) := hD
  refine lv_iload_n hx hb dX2_leans_5 rfl (lv_at hl 1 rfl) ?_
  refine lv_iconst (v := iI (0)) hx hb dX2_leans_6 rfl ?_
  refine lv_iconst (v := iI (4)) hx hb dX2_leans_7 rfl ?_
  have hPc : va_P D vwCl ([] ++ (MW cI d (su σ 6 0 (0)))) H := hP
  have hDc : va_D A ([] ++ (MW cI d (su σ 6 0 (0)))) := hD
  refine g_call (va_runS (As := [.int (iI (r0)), .int (iI (0)), .int (iI (4))]) (rest := []) S ((kX2_isIn l D  r0 0 4 (by first | assumption | omega) (by first | assumption | omega) (by first | assumption | omega) (by first | assumption | omega) (by first | assumption | omega) (by first | assumption | omega)) H.size) (va_cwS 3 hts gX2_leans_X2_isIn rfl rfl rfl (by decide +kernel) ⟨Nat.le_of_ble_eq_true rfl, Nat.le_of_ble_eq_true rfl⟩) (g_preS gEx_t hK [] rfl hPc hDc (fun _ _ _ => trivial)) rfl rfl hl.1 rfl (lv_room (Nat.le_of_ble_eq_true rfl)) dX2_leans_8 ⟨Nat.le_of_ble_eq_true rfl, Nat.le_of_ble_eq_true rfl⟩) hPc hDc hS hA (fun κ9 H locs hk hP hD hS => ?_)
  have hP : va_P D vwCl (MW cI d (su σ 6 0 (0))) H := hP
  have hD : va_D A (MW cI d (su σ 6 0 (0))) := hD
  show W p l e ({ frames := 2, cells := 0, slots := 0, locals := 44 } : Room) s m args below meth c H locs 0 0 (MQ below (gQ D (tyMs cI cZ cQ) (fun κ' => MW cI d (mRes (tLeans r0) (mZ σ) σ)) A (fun _ => some (.int (iI (mVal (tLeans r0) (mLean σ r0))))) (fun _ => True)) args s 0 0 A) (F0 m 11 ls [.int (iI (bI (0 ≤ r0 ∧ r0 ≤ 4)))])
  refine gb_if_ne (tgt := 20) hx hb dX2_leans_11 (by decide)  (fun c11 => ?_) (fun c11 => ?_)
  · skip
    refine lv_iconst (v := iI (0)) hx hb dX2_leans_20 rfl ?_
    refine lv_istore_n (lv' := [(2, .int (iI (0))), (0, .ref (d 0)), (1, .int (iI (r0)))]) hx hb dX2_leans_21 rfl hl (by decide) rfl (fun ls hl => ?_)
    refine lv_iconst (v := iI (0)) hx hb dX2_leans_22 rfl ?_
    refine lv_istore_n (lv' := [(3, .int (iI (0))), (2, .int (iI (0))), (0, .ref (d 0)), (1, .int (iI (r0)))]) hx hb dX2_leans_23 rfl hl (by decide) rfl (fun ls hl => ?_)
    have loop24 : ∀ (n24 : Nat) (i : Int) (a : Int), (0 ≤ i) → (i ≤ 8) → (8 - i < (n24 : Int)) → (a = isumI (fun q => if q < 4 then mAp σ (8 * r0 + q) else -(mAp σ (8 * r0 + q))) i) → ∀ (H : Heap) (locs : List Loc) (ls : Array Slot), va_P D vwCl (MW cI d (su σ 6 0 (0))) H → va_D A (MW cI d (su σ 6 0 (0))) → va_S A s.heap H locs → lv_has ls 4 [(3, .int (iI (i))), (2, .int (iI (a))), (0, .ref (d 0)), (1, .int (iI (r0)))] → W p l e ({ frames := 2, cells := 0, slots := 0, locals := 44 } : Room) s m args below meth c H locs 0 0 (MQ below (gQ D (tyMs cI cZ cQ) (fun κ' => MW cI d (mRes (tLeans r0) (mZ σ) σ)) A (fun _ => some (.int (iI (mVal (tLeans r0) (mLean σ r0))))) (fun _ => True)) args s 0 0 A) (F0 m 24 ls []) := by
      intro n24
      induction n24 with
      | zero =>
        intro i a  hlo24 hhi24 hm24
        omega
      | succ n24 ih24 =>
        intro i a  hlo24 hhi24 hm24 ia24 H locs ls hP hD hS hl
        refine lv_iload_n hx hb dX2_leans_24 rfl (lv_at hl 0 rfl) ?_
        refine lv_bipush (v := iI (8)) hx hb dX2_leans_25 rfl ?_
        refine gi_icmp_ge (tgt := 68) hx hb dX2_leans_27 (by decide) ⟨by omega, by omega⟩ ⟨by decide, by decide⟩ (fun c27 => ?_) (fun c27 => ?_)
        · skip
          refine lv_iload_n hx hb dX2_leans_68 rfl (lv_at hl 1 rfl) ?_
          have es : (mRes (tLeans r0) (mZ σ) σ) = (su σ 6 0 (0)) := by first | (rw [show tLeans r0 = 1 from by unfold tLeans; rw [if_pos (by omega)]]; rfl) | (rw [show tLeans r0 = 0 from by unfold tLeans; rw [if_neg (by omega)]]; rfl)
          have er : ((mVal (tLeans r0) (mLean σ r0) : Int)) = (a) := by rw [show tLeans r0 = 0 from by unfold tLeans; rw [if_neg (by omega)], ia24, show i = 8 by omega]; rfl
          exact g_iret (wo := (fun κ' => MW cI d (mRes (tLeans r0) (mZ σ) σ))) (kr := (fun _ => True)) (rv := (fun _ => some (.int (iI (mVal (tLeans r0) (mLean σ r0)))))) hx hb hr hlocks (fun _ _ => 0) rfl (by rw [es]; exact hP) hK (by rw [es]; exact hD) hS trivial (by rw [er]) (Nat.le_of_ble_eq_true rfl) (Nat.le_of_ble_eq_true rfl) dX2_leans_69
        · skip
          refine lv_iload_n hx hb dX2_leans_30 rfl (lv_at hl 1 rfl) ?_
          refine lv_iload_n hx hb dX2_leans_31 rfl (lv_at hl 0 rfl) ?_
          refine lv_iconst (v := iI (4)) hx hb dX2_leans_32 rfl ?_
          refine gi_icmp_ge (tgt := 49) hx hb dX2_leans_33 (by decide) ⟨by omega, by omega⟩ ⟨by decide, by decide⟩ (fun c33 => ?_) (fun c33 => ?_)
          · skip
            refine lv_aload_n hx hb dX2_leans_49 rfl (lv_at hl 2 rfl) ?_
            refine lv_bipush (v := iI (8)) hx hb dX2_leans_50 rfl ?_
            refine lv_iload_n hx hb dX2_leans_52 rfl (lv_at hl 3 rfl) ?_
            refine gi_mul hx hb dX2_leans_53 ?_
            refine lv_iload_n hx hb dX2_leans_54 rfl (lv_at hl 0 rfl) ?_
            refine gi_add hx hb dX2_leans_55 ?_
            have hPc : va_P D vwCl (MW cI d (su σ 6 0 (0)) ++ []) H := by rw [List.append_nil]; exact hP
            have hDc : va_D A (MW cI d (su σ 6 0 (0)) ++ []) := by rw [List.append_nil]; exact hD
            refine g_call (va_runV (As := [.int (iI ((8 * r0) + i))]) (rest := [.int (iI (a))]) S ((kX2_apples l D cI cZ cQ d (su σ 6 0 (0)) ((8 * r0) + i) (by first | assumption | omega) (by first | assumption | omega) (mWF_6 hwf _ _)) H.size) (cwV 1 hts gX2_leans_X2_apples rfl rfl rfl (by decide +kernel) ⟨Nat.le_of_ble_eq_true rfl, Nat.le_of_ble_eq_true rfl⟩) (g_preV gEx_t hK [0, 1, 2] rfl hPc hDc (fun _ _ _ => trivial) (q0 := 0) (ci := 2) rfl rfl rfl) rfl rfl hl.1 rfl (lv_room (Nat.le_of_ble_eq_true rfl)) dX2_leans_56 ⟨Nat.le_of_ble_eq_true rfl, Nat.le_of_ble_eq_true rfl⟩) hPc hDc hS hA (fun κ9 H locs hk hP hD hS => ?_)
            have hP : va_P D vwCl (MW cI d (su σ 6 0 (0))) H := by have h9 : va_P D vwCl (MW cI d (su σ 6 0 (0)) ++ []) H := hP; rw [List.append_nil] at h9; exact h9
            have hD : va_D A (MW cI d (su σ 6 0 (0))) := by have h9 : va_D A (MW cI d (su σ 6 0 (0)) ++ []) := hD; rw [List.append_nil] at h9; exact h9
            show W p l e ({ frames := 2, cells := 0, slots := 0, locals := 44 } : Room) s m args below meth c H locs 0 0 (MQ below (gQ D (tyMs cI cZ cQ) (fun κ' => MW cI d (mRes (tLeans r0) (mZ σ) σ)) A (fun _ => some (.int (iI (mVal (tLeans r0) (mLean σ r0))))) (fun _ => True)) args s 0 0 A) (F0 m 59 ls [.int (iI (mAp (su σ 6 0 (0)) ((8 * r0) + i))), .int (iI (a))])
            refine gi_neg hx hb dX2_leans_59 ?_
            refine gi_add hx hb dX2_leans_60 ?_
            refine lv_istore_n (lv' := [(2, .int (iI (a + (-(mAp (su σ 6 0 (0)) ((8 * r0) + i)))))), (3, .int (iI (i))), (0, .ref (d 0)), (1, .int (iI (r0)))]) hx hb dX2_leans_61 rfl hl (by decide) rfl (fun ls hl => ?_)
            refine lv_iinc (v := iI (i + 1)) (lv' := [(3, .int (iI (i + 1))), (2, .int (iI (a + (-(mAp (su σ 6 0 (0)) ((8 * r0) + i)))))), (0, .ref (d 0)), (1, .int (iI (r0)))]) hx hb dX2_leans_62 hl (k := 1) rfl (iI_add _ _) (by decide) rfl (fun ls hl => ?_)
            refine lv_goto (tgt := 24) hx hb dX2_leans_65 (by decide) ?_
            exact ih24 (i + 1) (a + (-(mAp (su σ 6 0 (0)) ((8 * r0) + i))))  (by omega) (by omega) (by omega) (by rw [isumI_s _ hlo24, ia24]; first | (rw [if_pos (by omega)]; rfl) | (rw [if_neg (by omega)]; rfl)) H locs ls hP hD hS (lv_sub hl [0, 1, 2, 3] rfl)
          · skip
            refine lv_aload_n hx hb dX2_leans_36 rfl (lv_at hl 2 rfl) ?_
            refine lv_bipush (v := iI (8)) hx hb dX2_leans_37 rfl ?_
            refine lv_iload_n hx hb dX2_leans_39 rfl (lv_at hl 3 rfl) ?_
            refine gi_mul hx hb dX2_leans_40 ?_
            refine lv_iload_n hx hb dX2_leans_41 rfl (lv_at hl 0 rfl) ?_
            refine gi_add hx hb dX2_leans_42 ?_
            have hPc : va_P D vwCl (MW cI d (su σ 6 0 (0)) ++ []) H := by rw [List.append_nil]; exact hP
            have hDc : va_D A (MW cI d (su σ 6 0 (0)) ++ []) := by rw [List.append_nil]; exact hD
            refine g_call (va_runV (As := [.int (iI ((8 * r0) + i))]) (rest := [.int (iI (a))]) S ((kX2_apples l D cI cZ cQ d (su σ 6 0 (0)) ((8 * r0) + i) (by first | assumption | omega) (by first | assumption | omega) (mWF_6 hwf _ _)) H.size) (cwV 1 hts gX2_leans_X2_apples rfl rfl rfl (by decide +kernel) ⟨Nat.le_of_ble_eq_true rfl, Nat.le_of_ble_eq_true rfl⟩) (g_preV gEx_t hK [0, 1, 2] rfl hPc hDc (fun _ _ _ => trivial) (q0 := 0) (ci := 2) rfl rfl rfl) rfl rfl hl.1 rfl (lv_room (Nat.le_of_ble_eq_true rfl)) dX2_leans_43 ⟨Nat.le_of_ble_eq_true rfl, Nat.le_of_ble_eq_true rfl⟩) hPc hDc hS hA (fun κ9 H locs hk hP hD hS => ?_)
            have hP : va_P D vwCl (MW cI d (su σ 6 0 (0))) H := by have h9 : va_P D vwCl (MW cI d (su σ 6 0 (0)) ++ []) H := hP; rw [List.append_nil] at h9; exact h9
            have hD : va_D A (MW cI d (su σ 6 0 (0))) := by have h9 : va_D A (MW cI d (su σ 6 0 (0)) ++ []) := hD; rw [List.append_nil] at h9; exact h9
            show W p l e ({ frames := 2, cells := 0, slots := 0, locals := 44 } : Room) s m args below meth c H locs 0 0 (MQ below (gQ D (tyMs cI cZ cQ) (fun κ' => MW cI d (mRes (tLeans r0) (mZ σ) σ)) A (fun _ => some (.int (iI (mVal (tLeans r0) (mLean σ r0))))) (fun _ => True)) args s 0 0 A) (F0 m 46 ls [.int (iI (mAp (su σ 6 0 (0)) ((8 * r0) + i))), .int (iI (a))])
            refine lv_goto (tgt := 60) hx hb dX2_leans_46 (by decide) ?_
            refine gi_add hx hb dX2_leans_60 ?_
            refine lv_istore_n (lv' := [(2, .int (iI (a + (mAp (su σ 6 0 (0)) ((8 * r0) + i))))), (3, .int (iI (i))), (0, .ref (d 0)), (1, .int (iI (r0)))]) hx hb dX2_leans_61 rfl hl (by decide) rfl (fun ls hl => ?_)
            refine lv_iinc (v := iI (i + 1)) (lv' := [(3, .int (iI (i + 1))), (2, .int (iI (a + (mAp (su σ 6 0 (0)) ((8 * r0) + i))))), (0, .ref (d 0)), (1, .int (iI (r0)))]) hx hb dX2_leans_62 hl (k := 1) rfl (iI_add _ _) (by decide) rfl (fun ls hl => ?_)
            refine lv_goto (tgt := 24) hx hb dX2_leans_65 (by decide) ?_
            exact ih24 (i + 1) (a + (mAp (su σ 6 0 (0)) ((8 * r0) + i)))  (by omega) (by omega) (by omega) (by rw [isumI_s _ hlo24, ia24]; first | (rw [if_pos (by omega)]; rfl) | (rw [if_neg (by omega)]; rfl)) H locs ls hP hD hS (lv_sub hl [0, 1, 2, 3] rfl)
    exact loop24 (((8 - (0) + 1 : Int)).toNat) 0 0  (by omega) (by omega) (by omega) (by rw [isumI_0]) H locs ls hP hD hS (lv_sub hl [0, 1, 2, 3] rfl)
  · skip
    refine lv_aload_n hx hb dX2_leans_14 rfl (lv_at hl 0 rfl) ?_
    refine lv_iconst (v := iI (1)) hx hb dX2_leans_15 rfl ?_
    have hPc : va_P D vwCl (MW cI d (su σ 6 0 (0)) ++ []) H := by rw [List.append_nil]; exact hP
    have hDc : va_D A (MW cI d (su σ 6 0 (0)) ++ []) := by rw [List.append_nil]; exact hD
    refine g_call (va_runV (As := [.int (iI (1))]) (rest := []) S ((kX2_fail l D cI cZ cQ d (su σ 6 0 (0)) 1 ) H.size) (cwV 1 hts gX2_leans_X2_fail rfl rfl rfl (by decide +kernel) ⟨Nat.le_of_ble_eq_true rfl, Nat.le_of_ble_eq_true rfl⟩) (g_preV gEx_t hK [0, 1, 2] rfl hPc hDc (fun _ _ _ => trivial) (q0 := 0) (ci := 2) rfl rfl rfl) rfl rfl hl.1 rfl (lv_room (Nat.le_of_ble_eq_true rfl)) dX2_leans_16 ⟨Nat.le_of_ble_eq_true rfl, Nat.le_of_ble_eq_true rfl⟩) hPc hDc hS hA (fun κ9 H locs hk hP hD hS => ?_)
    have hP : va_P D vwCl (MW cI d (su (su σ 6 0 (0)) 6 0 1)) H := by have h9 : va_P D vwCl (MW cI d (su (su σ 6 0 (0)) 6 0 1) ++ []) H := hP; rw [List.append_nil] at h9; exact h9
    have hD : va_D A (MW cI d (su (su σ 6 0 (0)) 6 0 1)) := by have h9 : va_D A (MW cI d (su (su σ 6 0 (0)) 6 0 1) ++ []) := hD; rw [List.append_nil] at h9; exact h9
    show W p l e ({ frames := 2, cells := 0, slots := 0, locals := 44 } : Room) s m args below meth c H locs 0 0 (MQ below (gQ D (tyMs cI cZ cQ) (fun κ' => MW cI d (mRes (tLeans r0) (mZ σ) σ)) A (fun _ => some (.int (iI (mVal (tLeans r0) (mLean σ r0))))) (fun _ => True)) args s 0 0 A) (F0 m 19 ls [.int (iI (0))])
    have es : (mRes (tLeans r0) (mZ σ) σ) = (su (su σ 6 0 (0)) 6 0 1) := by first | (rw [show tLeans r0 = 1 from by unfold tLeans; rw [if_pos (by omega)]]; rfl) | (rw [show tLeans r0 = 0 from by unfold tLeans; rw [if_neg (by omega)]]; rfl)
    have er : ((mVal (tLeans r0) (mLean σ r0) : Int)) = (0) := by first | (rw [show tLeans r0 = 1 from by unfold tLeans; rw [if_pos (by omega)]]; rfl) | (rw [show tLeans r0 = 0 from by unfold tLeans; rw [if_neg (by omega)]]; rfl)
    exact g_iret (wo := (fun κ' => MW cI d (mRes (tLeans r0) (mZ σ) σ))) (kr := (fun _ => True)) (rv := (fun _ => some (.int (iI (mVal (tLeans r0) (mLean σ r0)))))) hx hb hr hlocks (fun _ _ => 0) rfl (by rw [es]; exact hP) hK (by rw [es]; exact hD) hS trivial (by rw [er]) (Nat.le_of_ble_eq_true rfl) (Nat.le_of_ble_eq_true rfl) dX2_leans_19
set_option maxHeartbeats 4000000 in
set_option maxRecDepth 100000 in
theorem kX2_carry (l : Launch) (D : va_G) (cI cZ cQ : ClassId) (d : Nat → Nat) (σ : St)  (a0 : Int) (x0 : Int) (y0 : Int) (hl_a0 : -2147483648 ≤ a0) (hh_a0 : a0 ≤ 2147483647) (hl_x0 : -2147483648 ≤ x0) (hh_x0 : x0 ≤ 2147483647) (hl_y0 : -2147483648 ≤ y0) (hh_y0 : y0 ≤ 2147483647) (hwf : mWF σ) : gMet l yX2_carry wsX2_carry ({ frames := 2, cells := 0, slots := 0, locals := 42 } : Room) D (tyMs cI cZ cQ) (MW cI d σ) [.ref (d 0), .int (iI a0), .int (iI x0), .int (iI y0)] (fun _ => True) (fun _ => some (.int (iI (mVal (mtCarry σ a0 x0 y0) (σ 4 a0 - (x0 + y0)))))) (fun _ => True) (fun κ' => MW cI d (mRes (mtCarry σ a0 x0 y0) (su (su (mZ σ) 4 a0 (σ 4 a0 - (x0 + y0))) 6 1 (σ 6 1 + σ 0 a0 * (x0 - y0))) σ)) := by
  refine g_start (cc := cX2_carry) (maxL := 4) (ret := (some .int)) (by decide) rfl (Nat.le_of_ble_eq_true rfl) ?_
  intro p e s m args below meth c A ls H locs S hr hlocks hname hP hK hD hA hS hE hl
  have S0 := S
  obtain ⟨hx, hb, hml, hown, hts⟩ := S0
  have hl : lv_has ls 4 [(0, .ref (d 0)), (1, .int (iI (a0))), (2, .int (iI (x0))), (3, .int (iI (y0)))] := hl
  have hinX2 : ∀ w ∈ wsX20, w ∈ wsX2_carry := by decide +kernel
  have k2 := mWF_4 hwf a0
  refine lv_aload_n hx hb dX2_carry_0 rfl (lv_at hl 0 rfl) ?_
  refine lv_iconst (v := iI (0)) hx hb dX2_carry_1 rfl ?_
  refine va_put (D := D) (ci := 2) (v := .int (iI (0))) (ty := .int) (C := RX2) (T := TX2) (N := 8) hx hb hts hinX2 tyX2 tyX2_ok nmX2 hown hK hP hD hS 0 rfl rfl 0 (by decide) (hts (.fieldLink RX2 28 "TwinOrchardModel" "thrown" "I") (List.mem_of_getElem? (i := 1) rfl)) (fun _ h9 => h9) rfl (by decide +kernel) rfl rfl (Nat.le_of_ble_eq_true rfl) dX2_carry_2 (fun H locs hP hD hS => ?_)
  have hP : va_P D vwCl (MW cI d (su σ 6 0 (0))) H := hP
  have hD : va_D A (MW cI d (su σ 6 0 (0))) := hD
  refine lv_iload_n hx hb dX2_carry_5 rfl (lv_at hl 1 rfl) ?_
  have hPc : va_P D vwCl ([] ++ (MW cI d (su σ 6 0 (0)))) H := hP
  have hDc : va_D A ([] ++ (MW cI d (su σ 6 0 (0)))) := hD
  refine g_call (va_runS (As := [.int (iI (a0))]) (rest := []) S ((kX2_isSort l D  a0 (by first | assumption | omega) (by first | assumption | omega)) H.size) (va_cwS 1 hts gX2_carry_X2_isSort rfl rfl rfl (by decide +kernel) ⟨Nat.le_of_ble_eq_true rfl, Nat.le_of_ble_eq_true rfl⟩) (g_preS gEx_t hK [] rfl hPc hDc (fun _ _ _ => trivial)) rfl rfl hl.1 rfl (lv_room (Nat.le_of_ble_eq_true rfl)) dX2_carry_6 ⟨Nat.le_of_ble_eq_true rfl, Nat.le_of_ble_eq_true rfl⟩) hPc hDc hS hA (fun κ9 H locs hk hP hD hS => ?_)
  have hP : va_P D vwCl (MW cI d (su σ 6 0 (0))) H := hP
  have hD : va_D A (MW cI d (su σ 6 0 (0))) := hD
  show W p l e ({ frames := 2, cells := 0, slots := 0, locals := 42 } : Room) s m args below meth c H locs 0 0 (MQ below (gQ D (tyMs cI cZ cQ) (fun κ' => MW cI d (mRes (mtCarry σ a0 x0 y0) (su (su (mZ σ) 4 a0 (σ 4 a0 - (x0 + y0))) 6 1 (σ 6 1 + σ 0 a0 * (x0 - y0))) σ)) A (fun _ => some (.int (iI (mVal (mtCarry σ a0 x0 y0) (σ 4 a0 - (x0 + y0)))))) (fun _ => True)) args s 0 0 A) (F0 m 9 ls [.int (iI (bI (0 ≤ a0 ∧ a0 ≤ 5)))])
  refine gb_if_ne (tgt := 18) hx hb dX2_carry_9 (by decide)  (fun c9 => ?_) (fun c9 => ?_)
  · skip
    refine lv_iload_n hx hb dX2_carry_18 rfl (lv_at hl 2 rfl) ?_
    refine lv_iconst (v := iI (0)) hx hb dX2_carry_19 rfl ?_
    refine lv_sipush (v := iI (200)) hx hb dX2_carry_20 rfl ?_
    have hPc : va_P D vwCl ([] ++ (MW cI d (su σ 6 0 (0)))) H := hP
    have hDc : va_D A ([] ++ (MW cI d (su σ 6 0 (0)))) := hD
    refine g_call (va_runS (As := [.int (iI (x0)), .int (iI (0)), .int (iI (200))]) (rest := []) S ((kX2_isIn l D  x0 0 200 (by first | assumption | omega) (by first | assumption | omega) (by first | assumption | omega) (by first | assumption | omega) (by first | assumption | omega) (by first | assumption | omega)) H.size) (va_cwS 3 hts gX2_carry_X2_isIn rfl rfl rfl (by decide +kernel) ⟨Nat.le_of_ble_eq_true rfl, Nat.le_of_ble_eq_true rfl⟩) (g_preS gEx_t hK [] rfl hPc hDc (fun _ _ _ => trivial)) rfl rfl hl.1 rfl (lv_room (Nat.le_of_ble_eq_true rfl)) dX2_carry_23 ⟨Nat.le_of_ble_eq_true rfl, Nat.le_of_ble_eq_true rfl⟩) hPc hDc hS hA (fun κ9 H locs hk hP hD hS => ?_)
    have hP : va_P D vwCl (MW cI d (su σ 6 0 (0))) H := hP
    have hD : va_D A (MW cI d (su σ 6 0 (0))) := hD
    show W p l e ({ frames := 2, cells := 0, slots := 0, locals := 42 } : Room) s m args below meth c H locs 0 0 (MQ below (gQ D (tyMs cI cZ cQ) (fun κ' => MW cI d (mRes (mtCarry σ a0 x0 y0) (su (su (mZ σ) 4 a0 (σ 4 a0 - (x0 + y0))) 6 1 (σ 6 1 + σ 0 a0 * (x0 - y0))) σ)) A (fun _ => some (.int (iI (mVal (mtCarry σ a0 x0 y0) (σ 4 a0 - (x0 + y0)))))) (fun _ => True)) args s 0 0 A) (F0 m 26 ls [.int (iI (bI (0 ≤ x0 ∧ x0 ≤ 200)))])
    refine gb_if_eq (tgt := 46) hx hb dX2_carry_26 (by decide)  (fun c26 => ?_) (fun c26 => ?_)
    · skip
      refine lv_aload_n hx hb dX2_carry_46 rfl (lv_at hl 0 rfl) ?_
      refine lv_iconst (v := iI (2)) hx hb dX2_carry_47 rfl ?_
      have hPc : va_P D vwCl (MW cI d (su σ 6 0 (0)) ++ []) H := by rw [List.append_nil]; exact hP
      have hDc : va_D A (MW cI d (su σ 6 0 (0)) ++ []) := by rw [List.append_nil]; exact hD
      refine g_call (va_runV (As := [.int (iI (2))]) (rest := []) S ((kX2_fail l D cI cZ cQ d (su σ 6 0 (0)) 2 ) H.size) (cwV 1 hts gX2_carry_X2_fail rfl rfl rfl (by decide +kernel) ⟨Nat.le_of_ble_eq_true rfl, Nat.le_of_ble_eq_true rfl⟩) (g_preV gEx_t hK [0, 1, 2] rfl hPc hDc (fun _ _ _ => trivial) (q0 := 0) (ci := 2) rfl rfl rfl) rfl rfl hl.1 rfl (lv_room (Nat.le_of_ble_eq_true rfl)) dX2_carry_48 ⟨Nat.le_of_ble_eq_true rfl, Nat.le_of_ble_eq_true rfl⟩) hPc hDc hS hA (fun κ9 H locs hk hP hD hS => ?_)
      have hP : va_P D vwCl (MW cI d (su (su σ 6 0 (0)) 6 0 2)) H := by have h9 : va_P D vwCl (MW cI d (su (su σ 6 0 (0)) 6 0 2) ++ []) H := hP; rw [List.append_nil] at h9; exact h9
      have hD : va_D A (MW cI d (su (su σ 6 0 (0)) 6 0 2)) := by have h9 : va_D A (MW cI d (su (su σ 6 0 (0)) 6 0 2) ++ []) := hD; rw [List.append_nil] at h9; exact h9
      show W p l e ({ frames := 2, cells := 0, slots := 0, locals := 42 } : Room) s m args below meth c H locs 0 0 (MQ below (gQ D (tyMs cI cZ cQ) (fun κ' => MW cI d (mRes (mtCarry σ a0 x0 y0) (su (su (mZ σ) 4 a0 (σ 4 a0 - (x0 + y0))) 6 1 (σ 6 1 + σ 0 a0 * (x0 - y0))) σ)) A (fun _ => some (.int (iI (mVal (mtCarry σ a0 x0 y0) (σ 4 a0 - (x0 + y0)))))) (fun _ => True)) args s 0 0 A) (F0 m 51 ls [.int (iI (0))])
      have es : (mRes (mtCarry σ a0 x0 y0) (su (su (mZ σ) 4 a0 (σ 4 a0 - (x0 + y0))) 6 1 (σ 6 1 + σ 0 a0 * (x0 - y0))) σ) = (su (su σ 6 0 (0)) 6 0 2) := by first | (rw [show mtCarry σ a0 x0 y0 = 1 from by unfold mtCarry; rw [if_pos (by omega)]]; rfl) | (rw [show mtCarry σ a0 x0 y0 = 2 from by unfold mtCarry; rw [if_neg (by omega), if_pos (by omega)]]; rfl) | (rw [show mtCarry σ a0 x0 y0 = 3 from by unfold mtCarry; rw [if_neg (by omega), if_neg (by omega), if_pos (by omega)]]; rfl) | (rw [show mtCarry σ a0 x0 y0 = 0 from by unfold mtCarry; rw [if_neg (by omega), if_neg (by omega), if_neg (by omega)]]; rfl)
      have er : ((mVal (mtCarry σ a0 x0 y0) (σ 4 a0 - (x0 + y0)) : Int)) = (0) := by first | (rw [show mtCarry σ a0 x0 y0 = 1 from by unfold mtCarry; rw [if_pos (by omega)]]; rfl) | (rw [show mtCarry σ a0 x0 y0 = 2 from by unfold mtCarry; rw [if_neg (by omega), if_pos (by omega)]]; rfl) | (rw [show mtCarry σ a0 x0 y0 = 3 from by unfold mtCarry; rw [if_neg (by omega), if_neg (by omega), if_pos (by omega)]]; rfl) | (rw [show mtCarry σ a0 x0 y0 = 0 from by unfold mtCarry; rw [if_neg (by omega), if_neg (by omega), if_neg (by omega)]]; rfl)
      exact g_iret (wo := (fun κ' => MW cI d (mRes (mtCarry σ a0 x0 y0) (su (su (mZ σ) 4 a0 (σ 4 a0 - (x0 + y0))) 6 1 (σ 6 1 + σ 0 a0 * (x0 - y0))) σ))) (kr := (fun _ => True)) (rv := (fun _ => some (.int (iI (mVal (mtCarry σ a0 x0 y0) (σ 4 a0 - (x0 + y0))))))) hx hb hr hlocks (fun _ _ => 0) rfl (by rw [es]; exact hP) hK (by rw [es]; exact hD) hS trivial (by rw [er]) (Nat.le_of_ble_eq_true rfl) (Nat.le_of_ble_eq_true rfl) dX2_carry_51
    · skip
      refine lv_iload_n hx hb dX2_carry_29 rfl (lv_at hl 3 rfl) ?_
      refine lv_iconst (v := iI (0)) hx hb dX2_carry_30 rfl ?_
      refine lv_sipush (v := iI (200)) hx hb dX2_carry_31 rfl ?_
      have hPc : va_P D vwCl ([] ++ (MW cI d (su σ 6 0 (0)))) H := hP
      have hDc : va_D A ([] ++ (MW cI d (su σ 6 0 (0)))) := hD
      refine g_call (va_runS (As := [.int (iI (y0)), .int (iI (0)), .int (iI (200))]) (rest := []) S ((kX2_isIn l D  y0 0 200 (by first | assumption | omega) (by first | assumption | omega) (by first | assumption | omega) (by first | assumption | omega) (by first | assumption | omega) (by first | assumption | omega)) H.size) (va_cwS 3 hts gX2_carry_X2_isIn rfl rfl rfl (by decide +kernel) ⟨Nat.le_of_ble_eq_true rfl, Nat.le_of_ble_eq_true rfl⟩) (g_preS gEx_t hK [] rfl hPc hDc (fun _ _ _ => trivial)) rfl rfl hl.1 rfl (lv_room (Nat.le_of_ble_eq_true rfl)) dX2_carry_34 ⟨Nat.le_of_ble_eq_true rfl, Nat.le_of_ble_eq_true rfl⟩) hPc hDc hS hA (fun κ9 H locs hk hP hD hS => ?_)
      have hP : va_P D vwCl (MW cI d (su σ 6 0 (0))) H := hP
      have hD : va_D A (MW cI d (su σ 6 0 (0))) := hD
      show W p l e ({ frames := 2, cells := 0, slots := 0, locals := 42 } : Room) s m args below meth c H locs 0 0 (MQ below (gQ D (tyMs cI cZ cQ) (fun κ' => MW cI d (mRes (mtCarry σ a0 x0 y0) (su (su (mZ σ) 4 a0 (σ 4 a0 - (x0 + y0))) 6 1 (σ 6 1 + σ 0 a0 * (x0 - y0))) σ)) A (fun _ => some (.int (iI (mVal (mtCarry σ a0 x0 y0) (σ 4 a0 - (x0 + y0)))))) (fun _ => True)) args s 0 0 A) (F0 m 37 ls [.int (iI (bI (0 ≤ y0 ∧ y0 ≤ 200)))])
      refine gb_if_eq (tgt := 46) hx hb dX2_carry_37 (by decide)  (fun c37 => ?_) (fun c37 => ?_)
      · skip
        refine lv_aload_n hx hb dX2_carry_46 rfl (lv_at hl 0 rfl) ?_
        refine lv_iconst (v := iI (2)) hx hb dX2_carry_47 rfl ?_
        have hPc : va_P D vwCl (MW cI d (su σ 6 0 (0)) ++ []) H := by rw [List.append_nil]; exact hP
        have hDc : va_D A (MW cI d (su σ 6 0 (0)) ++ []) := by rw [List.append_nil]; exact hD
        refine g_call (va_runV (As := [.int (iI (2))]) (rest := []) S ((kX2_fail l D cI cZ cQ d (su σ 6 0 (0)) 2 ) H.size) (cwV 1 hts gX2_carry_X2_fail rfl rfl rfl (by decide +kernel) ⟨Nat.le_of_ble_eq_true rfl, Nat.le_of_ble_eq_true rfl⟩) (g_preV gEx_t hK [0, 1, 2] rfl hPc hDc (fun _ _ _ => trivial) (q0 := 0) (ci := 2) rfl rfl rfl) rfl rfl hl.1 rfl (lv_room (Nat.le_of_ble_eq_true rfl)) dX2_carry_48 ⟨Nat.le_of_ble_eq_true rfl, Nat.le_of_ble_eq_true rfl⟩) hPc hDc hS hA (fun κ9 H locs hk hP hD hS => ?_)
        have hP : va_P D vwCl (MW cI d (su (su σ 6 0 (0)) 6 0 2)) H := by have h9 : va_P D vwCl (MW cI d (su (su σ 6 0 (0)) 6 0 2) ++ []) H := hP; rw [List.append_nil] at h9; exact h9
        have hD : va_D A (MW cI d (su (su σ 6 0 (0)) 6 0 2)) := by have h9 : va_D A (MW cI d (su (su σ 6 0 (0)) 6 0 2) ++ []) := hD; rw [List.append_nil] at h9; exact h9
        show W p l e ({ frames := 2, cells := 0, slots := 0, locals := 42 } : Room) s m args below meth c H locs 0 0 (MQ below (gQ D (tyMs cI cZ cQ) (fun κ' => MW cI d (mRes (mtCarry σ a0 x0 y0) (su (su (mZ σ) 4 a0 (σ 4 a0 - (x0 + y0))) 6 1 (σ 6 1 + σ 0 a0 * (x0 - y0))) σ)) A (fun _ => some (.int (iI (mVal (mtCarry σ a0 x0 y0) (σ 4 a0 - (x0 + y0)))))) (fun _ => True)) args s 0 0 A) (F0 m 51 ls [.int (iI (0))])
        have es : (mRes (mtCarry σ a0 x0 y0) (su (su (mZ σ) 4 a0 (σ 4 a0 - (x0 + y0))) 6 1 (σ 6 1 + σ 0 a0 * (x0 - y0))) σ) = (su (su σ 6 0 (0)) 6 0 2) := by first | (rw [show mtCarry σ a0 x0 y0 = 1 from by unfold mtCarry; rw [if_pos (by omega)]]; rfl) | (rw [show mtCarry σ a0 x0 y0 = 2 from by unfold mtCarry; rw [if_neg (by omega), if_pos (by omega)]]; rfl) | (rw [show mtCarry σ a0 x0 y0 = 3 from by unfold mtCarry; rw [if_neg (by omega), if_neg (by omega), if_pos (by omega)]]; rfl) | (rw [show mtCarry σ a0 x0 y0 = 0 from by unfold mtCarry; rw [if_neg (by omega), if_neg (by omega), if_neg (by omega)]]; rfl)
        have er : ((mVal (mtCarry σ a0 x0 y0) (σ 4 a0 - (x0 + y0)) : Int)) = (0) := by first | (rw [show mtCarry σ a0 x0 y0 = 1 from by unfold mtCarry; rw [if_pos (by omega)]]; rfl) | (rw [show mtCarry σ a0 x0 y0 = 2 from by unfold mtCarry; rw [if_neg (by omega), if_pos (by omega)]]; rfl) | (rw [show mtCarry σ a0 x0 y0 = 3 from by unfold mtCarry; rw [if_neg (by omega), if_neg (by omega), if_pos (by omega)]]; rfl) | (rw [show mtCarry σ a0 x0 y0 = 0 from by unfold mtCarry; rw [if_neg (by omega), if_neg (by omega), if_neg (by omega)]]; rfl)
        exact g_iret (wo := (fun κ' => MW cI d (mRes (mtCarry σ a0 x0 y0) (su (su (mZ σ) 4 a0 (σ 4 a0 - (x0 + y0))) 6 1 (σ 6 1 + σ 0 a0 * (x0 - y0))) σ))) (kr := (fun _ => True)) (rv := (fun _ => some (.int (iI (mVal (mtCarry σ a0 x0 y0) (σ 4 a0 - (x0 + y0))))))) hx hb hr hlocks (fun _ _ => 0) rfl (by rw [es]; exact hP) hK (by rw [es]; exact hD) hS trivial (by rw [er]) (Nat.le_of_ble_eq_true rfl) (Nat.le_of_ble_eq_true rfl) dX2_carry_51
      · skip
        refine lv_iload_n hx hb dX2_carry_40 rfl (lv_at hl 2 rfl) ?_
        refine lv_iload_n hx hb dX2_carry_41 rfl (lv_at hl 3 rfl) ?_
        refine gi_add hx hb dX2_carry_42 ?_
        refine gi_if_ne (tgt := 52) hx hb dX2_carry_43 (by decide) ⟨by omega, by omega⟩ (fun c43 => ?_) (fun c43 => ?_)
        · skip
          refine lv_iload_n hx hb dX2_carry_52 rfl (lv_at hl 2 rfl) ?_
          refine lv_iload_n hx hb dX2_carry_53 rfl (lv_at hl 3 rfl) ?_
          refine gi_add hx hb dX2_carry_54 ?_
          refine lv_aload_n hx hb dX2_carry_55 rfl (lv_at hl 0 rfl) ?_
          refine va_get (D := D) (ci := 2) (v := .ref (d 5)) (C := RX2) (T := TX2) (N := 8) hx hb hts hinX2 hown hK hP 0 rfl rfl 5 (by decide) (hts (.fieldLink RX2 22 "TwinOrchardModel" "barn" "[I") (List.mem_of_getElem? (i := 2) rfl)) (fun _ h9 => h9) rfl dX2_carry_56 ?_
          refine lv_iload_n hx hb dX2_carry_59 rfl (lv_at hl 1 rfl) ?_
          refine gi_iald (a := d 5) (n := 6) (f := (su σ 6 0 (0)) 4) hx hb hK hP 5 0 rfl rfl (by omega) (by omega) (by decide) dX2_carry_60 ?_
          rw [show ((su σ 6 0 (0)) 4 a0) = (σ 4 a0) from by rfl]
          refine gi_icmp_le (tgt := 70) hx hb dX2_carry_61 (by decide) ⟨by omega, by omega⟩ ⟨by omega, by omega⟩ (fun c61 => ?_) (fun c61 => ?_)
          · skip
            refine lv_aload_n hx hb dX2_carry_70 rfl (lv_at hl 0 rfl) ?_
            refine va_get (D := D) (ci := 2) (v := .ref (d 5)) (C := RX2) (T := TX2) (N := 8) hx hb hts hinX2 hown hK hP 0 rfl rfl 5 (by decide) (hts (.fieldLink RX2 22 "TwinOrchardModel" "barn" "[I") (List.mem_of_getElem? (i := 2) rfl)) (fun _ h9 => h9) rfl dX2_carry_71 ?_
            refine lv_iload_n hx hb dX2_carry_74 rfl (lv_at hl 1 rfl) ?_
            refine lv_dup2_11 hx hb dX2_carry_75 rfl rfl ?_
            refine gi_iald (a := d 5) (n := 6) (f := (su σ 6 0 (0)) 4) hx hb hK hP 5 0 rfl rfl (by omega) (by omega) (by decide) dX2_carry_76 ?_
            rw [show ((su σ 6 0 (0)) 4 a0) = (σ 4 a0) from by rfl]
            refine lv_iload_n hx hb dX2_carry_77 rfl (lv_at hl 2 rfl) ?_
            refine lv_iload_n hx hb dX2_carry_78 rfl (lv_at hl 3 rfl) ?_
            refine gi_add hx hb dX2_carry_79 ?_
            refine gi_sub hx hb dX2_carry_80 ?_
            refine gi_iast (a := d 5) (n := 6) (f := (su σ 6 0 (0)) 4) hx hb hK hP hD hS 5 0 rfl rfl (by omega) (by omega) (by decide) dX2_carry_81 (fun H locs hP hD hS => ?_)
            have hP : va_P D vwCl (MW cI d (su (su σ 6 0 (0)) 4 a0 ((σ 4 a0) - (x0 + y0)))) H := hP
            have hD : va_D A (MW cI d (su (su σ 6 0 (0)) 4 a0 ((σ 4 a0) - (x0 + y0)))) := hD
            refine lv_aload_n hx hb dX2_carry_82 rfl (lv_at hl 0 rfl) ?_
            refine lv_dup hx hb dX2_carry_83 rfl ?_
            refine va_get (D := D) (ci := 2) (v := .int (iI ((su (su σ 6 0 (0)) 4 a0 ((σ 4 a0) - (x0 + y0))) 6 1))) (C := RX2) (T := TX2) (N := 8) hx hb hts hinX2 hown hK hP 0 rfl rfl 7 (by decide) (hts (.fieldLink RX2 100 "TwinOrchardModel" "tilt" "I") (List.mem_of_getElem? (i := 3) rfl)) (fun _ h9 => h9) rfl dX2_carry_84 ?_
            rw [show ((su (su σ 6 0 (0)) 4 a0 ((σ 4 a0) - (x0 + y0))) 6 1) = (σ 6 1) from by rfl]
            refine lv_aload_n hx hb dX2_carry_87 rfl (lv_at hl 0 rfl) ?_
            refine va_get (D := D) (ci := 2) (v := .ref (d 1)) (C := RX2) (T := TX2) (N := 8) hx hb hts hinX2 hown hK hP 0 rfl rfl 1 (by decide) (hts (.fieldLink RX2 9 "TwinOrchardModel" "weights" "[I") (List.mem_of_getElem? (i := 4) rfl)) (fun _ h9 => h9) rfl dX2_carry_88 ?_
            refine lv_iload_n hx hb dX2_carry_91 rfl (lv_at hl 1 rfl) ?_
            refine gi_iald (a := d 1) (n := 6) (f := (su (su σ 6 0 (0)) 4 a0 ((σ 4 a0) - (x0 + y0))) 0) hx hb hK hP 1 0 rfl rfl (by omega) (by omega) (by decide) dX2_carry_92 ?_
            rw [show ((su (su σ 6 0 (0)) 4 a0 ((σ 4 a0) - (x0 + y0))) 0 a0) = (σ 0 a0) from by rfl]
            refine lv_iload_n hx hb dX2_carry_93 rfl (lv_at hl 2 rfl) ?_
            refine lv_iload_n hx hb dX2_carry_94 rfl (lv_at hl 3 rfl) ?_
            refine gi_sub hx hb dX2_carry_95 ?_
            refine gi_mul hx hb dX2_carry_96 ?_
            refine gi_add hx hb dX2_carry_97 ?_
            refine va_put (D := D) (ci := 2) (v := .int (iI ((σ 6 1) + ((σ 0 a0) * (x0 - y0))))) (ty := .int) (C := RX2) (T := TX2) (N := 8) hx hb hts hinX2 tyX2 tyX2_ok nmX2 hown hK hP hD hS 0 rfl rfl 7 (by decide) (hts (.fieldLink RX2 100 "TwinOrchardModel" "tilt" "I") (List.mem_of_getElem? (i := 3) rfl)) (fun _ h9 => h9) rfl (by decide +kernel) rfl rfl (Nat.le_of_ble_eq_true rfl) dX2_carry_98 (fun H locs hP hD hS => ?_)
            have hP : va_P D vwCl (MW cI d (su (su (su σ 6 0 (0)) 4 a0 ((σ 4 a0) - (x0 + y0))) 6 1 ((σ 6 1) + ((σ 0 a0) * (x0 - y0))))) H := hP
            have hD : va_D A (MW cI d (su (su (su σ 6 0 (0)) 4 a0 ((σ 4 a0) - (x0 + y0))) 6 1 ((σ 6 1) + ((σ 0 a0) * (x0 - y0))))) := hD
            refine lv_aload_n hx hb dX2_carry_101 rfl (lv_at hl 0 rfl) ?_
            refine va_get (D := D) (ci := 2) (v := .ref (d 5)) (C := RX2) (T := TX2) (N := 8) hx hb hts hinX2 hown hK hP 0 rfl rfl 5 (by decide) (hts (.fieldLink RX2 22 "TwinOrchardModel" "barn" "[I") (List.mem_of_getElem? (i := 2) rfl)) (fun _ h9 => h9) rfl dX2_carry_102 ?_
            refine lv_iload_n hx hb dX2_carry_105 rfl (lv_at hl 1 rfl) ?_
            refine gi_iald (a := d 5) (n := 6) (f := (su (su (su σ 6 0 (0)) 4 a0 ((σ 4 a0) - (x0 + y0))) 6 1 ((σ 6 1) + ((σ 0 a0) * (x0 - y0)))) 4) hx hb hK hP 5 0 rfl rfl (by omega) (by omega) (by decide) dX2_carry_106 ?_
            rw [show ((su (su (su σ 6 0 (0)) 4 a0 ((σ 4 a0) - (x0 + y0))) 6 1 ((σ 6 1) + ((σ 0 a0) * (x0 - y0)))) 4 a0) = ((σ 4 a0) - (x0 + y0)) from by simp [su, fu]]
            have es : (mRes (mtCarry σ a0 x0 y0) (su (su (mZ σ) 4 a0 (σ 4 a0 - (x0 + y0))) 6 1 (σ 6 1 + σ 0 a0 * (x0 - y0))) σ) = (su (su (su σ 6 0 (0)) 4 a0 ((σ 4 a0) - (x0 + y0))) 6 1 ((σ 6 1) + ((σ 0 a0) * (x0 - y0)))) := by first | (rw [show mtCarry σ a0 x0 y0 = 1 from by unfold mtCarry; rw [if_pos (by omega)]]; rfl) | (rw [show mtCarry σ a0 x0 y0 = 2 from by unfold mtCarry; rw [if_neg (by omega), if_pos (by omega)]]; rfl) | (rw [show mtCarry σ a0 x0 y0 = 3 from by unfold mtCarry; rw [if_neg (by omega), if_neg (by omega), if_pos (by omega)]]; rfl) | (rw [show mtCarry σ a0 x0 y0 = 0 from by unfold mtCarry; rw [if_neg (by omega), if_neg (by omega), if_neg (by omega)]]; rfl)
            have er : ((mVal (mtCarry σ a0 x0 y0) (σ 4 a0 - (x0 + y0)) : Int)) = ((σ 4 a0) - (x0 + y0)) := by first | (rw [show mtCarry σ a0 x0 y0 = 1 from by unfold mtCarry; rw [if_pos (by omega)]]; rfl) | (rw [show mtCarry σ a0 x0 y0 = 2 from by unfold mtCarry; rw [if_neg (by omega), if_pos (by omega)]]; rfl) | (rw [show mtCarry σ a0 x0 y0 = 3 from by unfold mtCarry; rw [if_neg (by omega), if_neg (by omega), if_pos (by omega)]]; rfl) | (rw [show mtCarry σ a0 x0 y0 = 0 from by unfold mtCarry; rw [if_neg (by omega), if_neg (by omega), if_neg (by omega)]]; rfl)
            exact g_iret (wo := (fun κ' => MW cI d (mRes (mtCarry σ a0 x0 y0) (su (su (mZ σ) 4 a0 (σ 4 a0 - (x0 + y0))) 6 1 (σ 6 1 + σ 0 a0 * (x0 - y0))) σ))) (kr := (fun _ => True)) (rv := (fun _ => some (.int (iI (mVal (mtCarry σ a0 x0 y0) (σ 4 a0 - (x0 + y0))))))) hx hb hr hlocks (fun _ _ => 0) rfl (by rw [es]; exact hP) hK (by rw [es]; exact hD) hS trivial (by rw [er]) (Nat.le_of_ble_eq_true rfl) (Nat.le_of_ble_eq_true rfl) dX2_carry_107
          · skip
            refine lv_aload_n hx hb dX2_carry_64 rfl (lv_at hl 0 rfl) ?_
            refine lv_iconst (v := iI (3)) hx hb dX2_carry_65 rfl ?_
            have hPc : va_P D vwCl (MW cI d (su σ 6 0 (0)) ++ []) H := by rw [List.append_nil]; exact hP
            have hDc : va_D A (MW cI d (su σ 6 0 (0)) ++ []) := by rw [List.append_nil]; exact hD
            refine g_call (va_runV (As := [.int (iI (3))]) (rest := []) S ((kX2_fail l D cI cZ cQ d (su σ 6 0 (0)) 3 ) H.size) (cwV 1 hts gX2_carry_X2_fail rfl rfl rfl (by decide +kernel) ⟨Nat.le_of_ble_eq_true rfl, Nat.le_of_ble_eq_true rfl⟩) (g_preV gEx_t hK [0, 1, 2] rfl hPc hDc (fun _ _ _ => trivial) (q0 := 0) (ci := 2) rfl rfl rfl) rfl rfl hl.1 rfl (lv_room (Nat.le_of_ble_eq_true rfl)) dX2_carry_66 ⟨Nat.le_of_ble_eq_true rfl, Nat.le_of_ble_eq_true rfl⟩) hPc hDc hS hA (fun κ9 H locs hk hP hD hS => ?_)
            have hP : va_P D vwCl (MW cI d (su (su σ 6 0 (0)) 6 0 3)) H := by have h9 : va_P D vwCl (MW cI d (su (su σ 6 0 (0)) 6 0 3) ++ []) H := hP; rw [List.append_nil] at h9; exact h9
            have hD : va_D A (MW cI d (su (su σ 6 0 (0)) 6 0 3)) := by have h9 : va_D A (MW cI d (su (su σ 6 0 (0)) 6 0 3) ++ []) := hD; rw [List.append_nil] at h9; exact h9
            show W p l e ({ frames := 2, cells := 0, slots := 0, locals := 42 } : Room) s m args below meth c H locs 0 0 (MQ below (gQ D (tyMs cI cZ cQ) (fun κ' => MW cI d (mRes (mtCarry σ a0 x0 y0) (su (su (mZ σ) 4 a0 (σ 4 a0 - (x0 + y0))) 6 1 (σ 6 1 + σ 0 a0 * (x0 - y0))) σ)) A (fun _ => some (.int (iI (mVal (mtCarry σ a0 x0 y0) (σ 4 a0 - (x0 + y0)))))) (fun _ => True)) args s 0 0 A) (F0 m 69 ls [.int (iI (0))])
            have es : (mRes (mtCarry σ a0 x0 y0) (su (su (mZ σ) 4 a0 (σ 4 a0 - (x0 + y0))) 6 1 (σ 6 1 + σ 0 a0 * (x0 - y0))) σ) = (su (su σ 6 0 (0)) 6 0 3) := by first | (rw [show mtCarry σ a0 x0 y0 = 1 from by unfold mtCarry; rw [if_pos (by omega)]]; rfl) | (rw [show mtCarry σ a0 x0 y0 = 2 from by unfold mtCarry; rw [if_neg (by omega), if_pos (by omega)]]; rfl) | (rw [show mtCarry σ a0 x0 y0 = 3 from by unfold mtCarry; rw [if_neg (by omega), if_neg (by omega), if_pos (by omega)]]; rfl) | (rw [show mtCarry σ a0 x0 y0 = 0 from by unfold mtCarry; rw [if_neg (by omega), if_neg (by omega), if_neg (by omega)]]; rfl)
            have er : ((mVal (mtCarry σ a0 x0 y0) (σ 4 a0 - (x0 + y0)) : Int)) = (0) := by first | (rw [show mtCarry σ a0 x0 y0 = 1 from by unfold mtCarry; rw [if_pos (by omega)]]; rfl) | (rw [show mtCarry σ a0 x0 y0 = 2 from by unfold mtCarry; rw [if_neg (by omega), if_pos (by omega)]]; rfl) | (rw [show mtCarry σ a0 x0 y0 = 3 from by unfold mtCarry; rw [if_neg (by omega), if_neg (by omega), if_pos (by omega)]]; rfl) | (rw [show mtCarry σ a0 x0 y0 = 0 from by unfold mtCarry; rw [if_neg (by omega), if_neg (by omega), if_neg (by omega)]]; rfl)
            exact g_iret (wo := (fun κ' => MW cI d (mRes (mtCarry σ a0 x0 y0) (su (su (mZ σ) 4 a0 (σ 4 a0 - (x0 + y0))) 6 1 (σ 6 1 + σ 0 a0 * (x0 - y0))) σ))) (kr := (fun _ => True)) (rv := (fun _ => some (.int (iI (mVal (mtCarry σ a0 x0 y0) (σ 4 a0 - (x0 + y0))))))) hx hb hr hlocks (fun _ _ => 0) rfl (by rw [es]; exact hP) hK (by rw [es]; exact hD) hS trivial (by rw [er]) (Nat.le_of_ble_eq_true rfl) (Nat.le_of_ble_eq_true rfl) dX2_carry_69
        · skip
          refine lv_aload_n hx hb dX2_carry_46 rfl (lv_at hl 0 rfl) ?_
          refine lv_iconst (v := iI (2)) hx hb dX2_carry_47 rfl ?_
          have hPc : va_P D vwCl (MW cI d (su σ 6 0 (0)) ++ []) H := by rw [List.append_nil]; exact hP
          have hDc : va_D A (MW cI d (su σ 6 0 (0)) ++ []) := by rw [List.append_nil]; exact hD
          refine g_call (va_runV (As := [.int (iI (2))]) (rest := []) S ((kX2_fail l D cI cZ cQ d (su σ 6 0 (0)) 2 ) H.size) (cwV 1 hts gX2_carry_X2_fail rfl rfl rfl (by decide +kernel) ⟨Nat.le_of_ble_eq_true rfl, Nat.le_of_ble_eq_true rfl⟩) (g_preV gEx_t hK [0, 1, 2] rfl hPc hDc (fun _ _ _ => trivial) (q0 := 0) (ci := 2) rfl rfl rfl) rfl rfl hl.1 rfl (lv_room (Nat.le_of_ble_eq_true rfl)) dX2_carry_48 ⟨Nat.le_of_ble_eq_true rfl, Nat.le_of_ble_eq_true rfl⟩) hPc hDc hS hA (fun κ9 H locs hk hP hD hS => ?_)
          have hP : va_P D vwCl (MW cI d (su (su σ 6 0 (0)) 6 0 2)) H := by have h9 : va_P D vwCl (MW cI d (su (su σ 6 0 (0)) 6 0 2) ++ []) H := hP; rw [List.append_nil] at h9; exact h9
          have hD : va_D A (MW cI d (su (su σ 6 0 (0)) 6 0 2)) := by have h9 : va_D A (MW cI d (su (su σ 6 0 (0)) 6 0 2) ++ []) := hD; rw [List.append_nil] at h9; exact h9
          show W p l e ({ frames := 2, cells := 0, slots := 0, locals := 42 } : Room) s m args below meth c H locs 0 0 (MQ below (gQ D (tyMs cI cZ cQ) (fun κ' => MW cI d (mRes (mtCarry σ a0 x0 y0) (su (su (mZ σ) 4 a0 (σ 4 a0 - (x0 + y0))) 6 1 (σ 6 1 + σ 0 a0 * (x0 - y0))) σ)) A (fun _ => some (.int (iI (mVal (mtCarry σ a0 x0 y0) (σ 4 a0 - (x0 + y0)))))) (fun _ => True)) args s 0 0 A) (F0 m 51 ls [.int (iI (0))])
          have es : (mRes (mtCarry σ a0 x0 y0) (su (su (mZ σ) 4 a0 (σ 4 a0 - (x0 + y0))) 6 1 (σ 6 1 + σ 0 a0 * (x0 - y0))) σ) = (su (su σ 6 0 (0)) 6 0 2) := by first | (rw [show mtCarry σ a0 x0 y0 = 1 from by unfold mtCarry; rw [if_pos (by omega)]]; rfl) | (rw [show mtCarry σ a0 x0 y0 = 2 from by unfold mtCarry; rw [if_neg (by omega), if_pos (by omega)]]; rfl) | (rw [show mtCarry σ a0 x0 y0 = 3 from by unfold mtCarry; rw [if_neg (by omega), if_neg (by omega), if_pos (by omega)]]; rfl) | (rw [show mtCarry σ a0 x0 y0 = 0 from by unfold mtCarry; rw [if_neg (by omega), if_neg (by omega), if_neg (by omega)]]; rfl)
          have er : ((mVal (mtCarry σ a0 x0 y0) (σ 4 a0 - (x0 + y0)) : Int)) = (0) := by first | (rw [show mtCarry σ a0 x0 y0 = 1 from by unfold mtCarry; rw [if_pos (by omega)]]; rfl) | (rw [show mtCarry σ a0 x0 y0 = 2 from by unfold mtCarry; rw [if_neg (by omega), if_pos (by omega)]]; rfl) | (rw [show mtCarry σ a0 x0 y0 = 3 from by unfold mtCarry; rw [if_neg (by omega), if_neg (by omega), if_pos (by omega)]]; rfl) | (rw [show mtCarry σ a0 x0 y0 = 0 from by unfold mtCarry; rw [if_neg (by omega), if_neg (by omega), if_neg (by omega)]]; rfl)
          exact g_iret (wo := (fun κ' => MW cI d (mRes (mtCarry σ a0 x0 y0) (su (su (mZ σ) 4 a0 (σ 4 a0 - (x0 + y0))) 6 1 (σ 6 1 + σ 0 a0 * (x0 - y0))) σ))) (kr := (fun _ => True)) (rv := (fun _ => some (.int (iI (mVal (mtCarry σ a0 x0 y0) (σ 4 a0 - (x0 + y0))))))) hx hb hr hlocks (fun _ _ => 0) rfl (by rw [es]; exact hP) hK (by rw [es]; exact hD) hS trivial (by rw [er]) (Nat.le_of_ble_eq_true rfl) (Nat.le_of_ble_eq_true rfl) dX2_carry_51
  · skip
    refine lv_aload_n hx hb dX2_carry_12 rfl (lv_at hl 0 rfl) ?_
    refine lv_iconst (v := iI (1)) hx hb dX2_carry_13 rfl ?_
    have hPc : va_P D vwCl (MW cI d (su σ 6 0 (0)) ++ []) H := by rw [List.append_nil]; exact hP
    have hDc : va_D A (MW cI d (su σ 6 0 (0)) ++ []) := by rw [List.append_nil]; exact hD
    refine g_call (va_runV (As := [.int (iI (1))]) (rest := []) S ((kX2_fail l D cI cZ cQ d (su σ 6 0 (0)) 1 ) H.size) (cwV 1 hts gX2_carry_X2_fail rfl rfl rfl (by decide +kernel) ⟨Nat.le_of_ble_eq_true rfl, Nat.le_of_ble_eq_true rfl⟩) (g_preV gEx_t hK [0, 1, 2] rfl hPc hDc (fun _ _ _ => trivial) (q0 := 0) (ci := 2) rfl rfl rfl) rfl rfl hl.1 rfl (lv_room (Nat.le_of_ble_eq_true rfl)) dX2_carry_14 ⟨Nat.le_of_ble_eq_true rfl, Nat.le_of_ble_eq_true rfl⟩) hPc hDc hS hA (fun κ9 H locs hk hP hD hS => ?_)
    have hP : va_P D vwCl (MW cI d (su (su σ 6 0 (0)) 6 0 1)) H := by have h9 : va_P D vwCl (MW cI d (su (su σ 6 0 (0)) 6 0 1) ++ []) H := hP; rw [List.append_nil] at h9; exact h9
    have hD : va_D A (MW cI d (su (su σ 6 0 (0)) 6 0 1)) := by have h9 : va_D A (MW cI d (su (su σ 6 0 (0)) 6 0 1) ++ []) := hD; rw [List.append_nil] at h9; exact h9
    show W p l e ({ frames := 2, cells := 0, slots := 0, locals := 42 } : Room) s m args below meth c H locs 0 0 (MQ below (gQ D (tyMs cI cZ cQ) (fun κ' => MW cI d (mRes (mtCarry σ a0 x0 y0) (su (su (mZ σ) 4 a0 (σ 4 a0 - (x0 + y0))) 6 1 (σ 6 1 + σ 0 a0 * (x0 - y0))) σ)) A (fun _ => some (.int (iI (mVal (mtCarry σ a0 x0 y0) (σ 4 a0 - (x0 + y0)))))) (fun _ => True)) args s 0 0 A) (F0 m 17 ls [.int (iI (0))])
    have es : (mRes (mtCarry σ a0 x0 y0) (su (su (mZ σ) 4 a0 (σ 4 a0 - (x0 + y0))) 6 1 (σ 6 1 + σ 0 a0 * (x0 - y0))) σ) = (su (su σ 6 0 (0)) 6 0 1) := by first | (rw [show mtCarry σ a0 x0 y0 = 1 from by unfold mtCarry; rw [if_pos (by omega)]]; rfl) | (rw [show mtCarry σ a0 x0 y0 = 2 from by unfold mtCarry; rw [if_neg (by omega), if_pos (by omega)]]; rfl) | (rw [show mtCarry σ a0 x0 y0 = 3 from by unfold mtCarry; rw [if_neg (by omega), if_neg (by omega), if_pos (by omega)]]; rfl) | (rw [show mtCarry σ a0 x0 y0 = 0 from by unfold mtCarry; rw [if_neg (by omega), if_neg (by omega), if_neg (by omega)]]; rfl)
    have er : ((mVal (mtCarry σ a0 x0 y0) (σ 4 a0 - (x0 + y0)) : Int)) = (0) := by first | (rw [show mtCarry σ a0 x0 y0 = 1 from by unfold mtCarry; rw [if_pos (by omega)]]; rfl) | (rw [show mtCarry σ a0 x0 y0 = 2 from by unfold mtCarry; rw [if_neg (by omega), if_pos (by omega)]]; rfl) | (rw [show mtCarry σ a0 x0 y0 = 3 from by unfold mtCarry; rw [if_neg (by omega), if_neg (by omega), if_pos (by omega)]]; rfl) | (rw [show mtCarry σ a0 x0 y0 = 0 from by unfold mtCarry; rw [if_neg (by omega), if_neg (by omega), if_neg (by omega)]]; rfl)
    exact g_iret (wo := (fun κ' => MW cI d (mRes (mtCarry σ a0 x0 y0) (su (su (mZ σ) 4 a0 (σ 4 a0 - (x0 + y0))) 6 1 (σ 6 1 + σ 0 a0 * (x0 - y0))) σ))) (kr := (fun _ => True)) (rv := (fun _ => some (.int (iI (mVal (mtCarry σ a0 x0 y0) (σ 4 a0 - (x0 + y0))))))) hx hb hr hlocks (fun _ _ => 0) rfl (by rw [es]; exact hP) hK (by rw [es]; exact hD) hS trivial (by rw [er]) (Nat.le_of_ble_eq_true rfl) (Nat.le_of_ble_eq_true rfl) dX2_carry_17
set_option maxHeartbeats 4000000 in
set_option maxRecDepth 100000 in
theorem kX2_tilt (l : Launch) (D : va_G) (cI cZ cQ : ClassId) (d : Nat → Nat) (σ : St)    : gMet l yX2_tilt wsX2_tilt ({ frames := 0, cells := 0, slots := 0, locals := 0 } : Room) D (tyMs cI cZ cQ) (MW cI d σ) [.ref (d 0)] (fun _ => True) (fun _ => some (.int (iI (σ 6 1)))) (fun _ => True) (fun κ' => MW cI d (mZ σ)) := by
  refine g_start (cc := cX2_tilt) (maxL := 1) (ret := (some .int)) (by decide) rfl (Nat.le_of_ble_eq_true rfl) ?_
  intro p e s m args below meth c A ls H locs S hr hlocks hname hP hK hD hA hS hE hl
  have S0 := S
  obtain ⟨hx, hb, hml, hown, hts⟩ := S0
  have hl : lv_has ls 1 [(0, .ref (d 0))] := hl
  have hinX2 : ∀ w ∈ wsX20, w ∈ wsX2_tilt := by decide +kernel
  refine lv_aload_n hx hb dX2_tilt_0 rfl (lv_at hl 0 rfl) ?_
  refine lv_iconst (v := iI (0)) hx hb dX2_tilt_1 rfl ?_
  refine va_put (D := D) (ci := 2) (v := .int (iI (0))) (ty := .int) (C := RX2) (T := TX2) (N := 8) hx hb hts hinX2 tyX2 tyX2_ok nmX2 hown hK hP hD hS 0 rfl rfl 0 (by decide) (hts (.fieldLink RX2 28 "TwinOrchardModel" "thrown" "I") (List.mem_of_getElem? (i := 1) rfl)) (fun _ h9 => h9) rfl (by decide +kernel) rfl rfl (Nat.le_of_ble_eq_true rfl) dX2_tilt_2 (fun H locs hP hD hS => ?_)
  have hP : va_P D vwCl (MW cI d (su σ 6 0 (0))) H := hP
  have hD : va_D A (MW cI d (su σ 6 0 (0))) := hD
  refine lv_aload_n hx hb dX2_tilt_5 rfl (lv_at hl 0 rfl) ?_
  refine va_get (D := D) (ci := 2) (v := .int (iI ((su σ 6 0 (0)) 6 1))) (C := RX2) (T := TX2) (N := 8) hx hb hts hinX2 hown hK hP 0 rfl rfl 7 (by decide) (hts (.fieldLink RX2 100 "TwinOrchardModel" "tilt" "I") (List.mem_of_getElem? (i := 2) rfl)) (fun _ h9 => h9) rfl dX2_tilt_6 ?_
  rw [show ((su σ 6 0 (0)) 6 1) = (σ 6 1) from by rfl]
  have es : (mZ σ) = (su σ 6 0 (0)) := by rfl
  exact g_iret (wo := (fun κ' => MW cI d (mZ σ))) (kr := (fun _ => True)) (rv := (fun _ => some (.int (iI (σ 6 1))))) hx hb hr hlocks (fun _ _ => 0) rfl (by rw [es]; exact hP) hK (by rw [es]; exact hD) hS trivial rfl (Nat.le_of_ble_eq_true rfl) (Nat.le_of_ble_eq_true rfl) dX2_tilt_9
