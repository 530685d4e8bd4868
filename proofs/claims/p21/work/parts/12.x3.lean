set_option maxHeartbeats 4000000 in
set_option maxRecDepth 100000 in
theorem kX1_canPrune (l : Launch) (D : va_G) (cI cZ : ClassId) (d : Nat → Nat) (σ κ : St)  (s0 : Int) (c0 : Int) (h0 : 0 ≤ s0) (h1 : s0 < 40) (hwf : xWF σ) (hl_c0 : -2147483648 ≤ c0) (hh_c0 : c0 ≤ 2147483647) : gMet l yX1_canPrune wsX1_canPrune ({ frames := 2, cells := 0, slots := 0, locals := 42 } : Room) D (tyXs cI cZ) (XW cI cZ d σ κ) [.ref (d 0), .int (iI s0), .int (iI c0)] xEx (fun _ => some (.int (iI (bI (¬ σ 4 s0 = -1 ∧ c0 ≤ σ 5 s0 ∧ 2 ≤ σ 8 (tw s0)))))) (fun κ' => κ' = κ) (fun κ' => XW cI cZ d σ κ') := by
  refine g_start (cc := cX1_canPrune) (maxL := 3) (ret := (some .boolean)) (by decide) rfl (Nat.le_of_ble_eq_true rfl) ?_
  intro p e s m args below meth c A ls H locs S hr hlocks hname hP hK hD hA hS hE hl
  have S0 := S
  obtain ⟨hx, hb, hml, hown, hts⟩ := S0
  have hl : lv_has ls 3 [(0, .ref (d 0)), (1, .int (iI (s0))), (2, .int (iI (c0)))] := hl
  have hinX1 : ∀ w ∈ wsX10, w ∈ wsX1_canPrune := by decide +kernel
  have k5 := xWF_5 hwf s0
  refine lv_aload_n hx hb dX1_canPrune_0 rfl (lv_at hl 0 rfl) ?_
  refine lv_iload_n hx hb dX1_canPrune_1 rfl (lv_at hl 1 rfl) ?_
  have hPc : va_P D vwCl (XW cI cZ d σ κ ++ []) H := by rw [List.append_nil]; exact hP
  have hDc : va_D A (XW cI cZ d σ κ ++ []) := by rw [List.append_nil]; exact hD
  refine g_call (va_runV (As := [.int (iI (s0))]) (rest := []) S ((kX1_hasTree l D cI cZ d σ κ s0 (by first | assumption | omega) (by first | assumption | omega) (by first | assumption | omega)) H.size) (cwV 1 hts gX1_canPrune_X1_hasTree rfl rfl rfl (by decide +kernel) ⟨Nat.le_of_ble_eq_true rfl, Nat.le_of_ble_eq_true rfl⟩) (g_preV xEx_g hK [0, 1] rfl hPc hDc (fun U _ hW => xEx_w hW hE) (q0 := 0) (ci := 1) rfl rfl rfl) rfl rfl hl.1 rfl (lv_room (Nat.le_of_ble_eq_true rfl)) dX1_canPrune_2 ⟨Nat.le_of_ble_eq_true rfl, Nat.le_of_ble_eq_true rfl⟩) hPc hDc hS hA (fun κ9 H locs hk hP hD hS => ?_)
  have hk : κ = κ9 := hk.symm
  subst hk
  have hP : va_P D vwCl (XW cI cZ d σ κ) H := by have h9 : va_P D vwCl (XW cI cZ d σ κ ++ []) H := hP; rw [List.append_nil] at h9; exact h9
  have hD : va_D A (XW cI cZ d σ κ) := by have h9 : va_D A (XW cI cZ d σ κ ++ []) := hD; rw [List.append_nil] at h9; exact h9
  show W p l e ({ frames := 2, cells := 0, slots := 0, locals := 42 } : Room) s m args below meth c H locs 0 0 (MQ below (gQ D (tyXs cI cZ) (fun κ' => XW cI cZ d σ κ') A (fun _ => some (.int (iI (bI (¬ σ 4 s0 = -1 ∧ c0 ≤ σ 5 s0 ∧ 2 ≤ σ 8 (tw s0)))))) (fun κ' => κ' = κ)) args s 0 0 A) (F0 m 5 ls [.int (iI (bI (¬ σ 4 s0 = -1)))])
  refine gb_if_eq (tgt := 31) hx hb dX1_canPrune_5 (by decide)  (fun c5 => ?_) (fun c5 => ?_)
  · skip
    refine lv_iconst (v := iI (0)) hx hb dX1_canPrune_31 rfl ?_
    have er : ((bI (¬ σ 4 s0 = -1 ∧ c0 ≤ σ 5 s0 ∧ 2 ≤ σ 8 (tw s0)) : Int)) = (0) := by first | (rw [bI_t (by omega)]; done) | (rw [bI_f (by omega)]; done)
    exact g_iret (wo := (fun κ' => XW cI cZ d σ κ')) (kr := (fun κ' => κ' = κ)) (rv := (fun _ => some (.int (iI (bI (¬ σ 4 s0 = -1 ∧ c0 ≤ σ 5 s0 ∧ 2 ≤ σ 8 (tw s0))))))) hx hb hr hlocks κ (nar_z (Or.inl rfl)) hP hK hD hS rfl (by rw [er]) (Nat.le_of_ble_eq_true rfl) (Nat.le_of_ble_eq_true rfl) dX1_canPrune_32
  · skip
    refine lv_aload_n hx hb dX1_canPrune_8 rfl (lv_at hl 0 rfl) ?_
    refine va_get (D := D) (ci := 1) (v := .ref (d 6)) (C := RX1) (T := TX1) (N := 13) hx hb hts hinX1 hown hK hP 0 rfl rfl 5 (by decide) (hts (.fieldLink RX1 25 "TwinOrchard" "branches" "[I") (List.mem_of_getElem? (i := 1) rfl)) (fun _ h9 => h9) rfl dX1_canPrune_9 ?_
    refine lv_iload_n hx hb dX1_canPrune_12 rfl (lv_at hl 1 rfl) ?_
    refine gi_iald (a := d 6) (n := 40) (f := σ 5) hx hb hK hP 6 0 rfl rfl (by omega) (by omega) (by decide) dX1_canPrune_13 ?_
    refine lv_iload_n hx hb dX1_canPrune_14 rfl (lv_at hl 2 rfl) ?_
    refine gi_icmp_lt (tgt := 31) hx hb dX1_canPrune_15 (by decide) ⟨by omega, by omega⟩ ⟨by omega, by omega⟩ (fun c15 => ?_) (fun c15 => ?_)
    · skip
      refine lv_iconst (v := iI (0)) hx hb dX1_canPrune_31 rfl ?_
      have er : ((bI (¬ σ 4 s0 = -1 ∧ c0 ≤ σ 5 s0 ∧ 2 ≤ σ 8 (tw s0)) : Int)) = (0) := by first | (rw [bI_t (by omega)]; done) | (rw [bI_f (by omega)]; done)
      exact g_iret (wo := (fun κ' => XW cI cZ d σ κ')) (kr := (fun κ' => κ' = κ)) (rv := (fun _ => some (.int (iI (bI (¬ σ 4 s0 = -1 ∧ c0 ≤ σ 5 s0 ∧ 2 ≤ σ 8 (tw s0))))))) hx hb hr hlocks κ (nar_z (Or.inl rfl)) hP hK hD hS rfl (by rw [er]) (Nat.le_of_ble_eq_true rfl) (Nat.le_of_ble_eq_true rfl) dX1_canPrune_32
    · skip
      refine lv_aload_n hx hb dX1_canPrune_18 rfl (lv_at hl 0 rfl) ?_
      refine lv_iload_n hx hb dX1_canPrune_19 rfl (lv_at hl 1 rfl) ?_
      refine lv_iconst (v := iI (2)) hx hb dX1_canPrune_20 rfl ?_
      have hPc : va_P D vwCl (XW cI cZ d σ κ ++ []) H := by rw [List.append_nil]; exact hP
      have hDc : va_D A (XW cI cZ d σ κ ++ []) := by rw [List.append_nil]; exact hD
      refine g_call (va_runV (As := [.int (iI (s0)), .int (iI (2))]) (rest := []) S ((kX1_canPay l D cI cZ d σ κ s0 2 (by first | assumption | omega) (by first | assumption | omega) (by first | assumption | omega) (by first | assumption | omega) (by first | assumption | omega)) H.size) (cwV 2 hts gX1_canPrune_X1_canPay rfl rfl rfl (by decide +kernel) ⟨Nat.le_of_ble_eq_true rfl, Nat.le_of_ble_eq_true rfl⟩) (g_preV xEx_g hK [0, 1] rfl hPc hDc (fun U _ hW => xEx_w hW hE) (q0 := 0) (ci := 1) rfl rfl rfl) rfl rfl hl.1 rfl (lv_room (Nat.le_of_ble_eq_true rfl)) dX1_canPrune_21 ⟨Nat.le_of_ble_eq_true rfl, Nat.le_of_ble_eq_true rfl⟩) hPc hDc hS hA (fun κ9 H locs hk hP hD hS => ?_)
      have hk : κ = κ9 := hk.symm
      subst hk
      have hP : va_P D vwCl (XW cI cZ d σ κ) H := by have h9 : va_P D vwCl (XW cI cZ d σ κ ++ []) H := hP; rw [List.append_nil] at h9; exact h9
      have hD : va_D A (XW cI cZ d σ κ) := by have h9 : va_D A (XW cI cZ d σ κ ++ []) := hD; rw [List.append_nil] at h9; exact h9
      show W p l e ({ frames := 2, cells := 0, slots := 0, locals := 42 } : Room) s m args below meth c H locs 0 0 (MQ below (gQ D (tyXs cI cZ) (fun κ' => XW cI cZ d σ κ') A (fun _ => some (.int (iI (bI (¬ σ 4 s0 = -1 ∧ c0 ≤ σ 5 s0 ∧ 2 ≤ σ 8 (tw s0)))))) (fun κ' => κ' = κ)) args s 0 0 A) (F0 m 24 ls [.int (iI (bI (2 ≤ σ 8 (tw s0))))])
      refine gb_if_eq (tgt := 31) hx hb dX1_canPrune_24 (by decide)  (fun c24 => ?_) (fun c24 => ?_)
      · skip
        refine lv_iconst (v := iI (0)) hx hb dX1_canPrune_31 rfl ?_
        have er : ((bI (¬ σ 4 s0 = -1 ∧ c0 ≤ σ 5 s0 ∧ 2 ≤ σ 8 (tw s0)) : Int)) = (0) := by first | (rw [bI_t (by omega)]; done) | (rw [bI_f (by omega)]; done)
        exact g_iret (wo := (fun κ' => XW cI cZ d σ κ')) (kr := (fun κ' => κ' = κ)) (rv := (fun _ => some (.int (iI (bI (¬ σ 4 s0 = -1 ∧ c0 ≤ σ 5 s0 ∧ 2 ≤ σ 8 (tw s0))))))) hx hb hr hlocks κ (nar_z (Or.inl rfl)) hP hK hD hS rfl (by rw [er]) (Nat.le_of_ble_eq_true rfl) (Nat.le_of_ble_eq_true rfl) dX1_canPrune_32
      · skip
        refine lv_iconst (v := iI (1)) hx hb dX1_canPrune_27 rfl ?_
        refine lv_goto (tgt := 32) hx hb dX1_canPrune_28 (by decide) ?_
        have er : ((bI (¬ σ 4 s0 = -1 ∧ c0 ≤ σ 5 s0 ∧ 2 ≤ σ 8 (tw s0)) : Int)) = (1) := by first | (rw [bI_t (by omega)]; done) | (rw [bI_f (by omega)]; done)
        exact g_iret (wo := (fun κ' => XW cI cZ d σ κ')) (kr := (fun κ' => κ' = κ)) (rv := (fun _ => some (.int (iI (bI (¬ σ 4 s0 = -1 ∧ c0 ≤ σ 5 s0 ∧ 2 ≤ σ 8 (tw s0))))))) hx hb hr hlocks κ (nar_z (Or.inr rfl)) hP hK hD hS rfl (by rw [er]) (Nat.le_of_ble_eq_true rfl) (Nat.le_of_ble_eq_true rfl) dX1_canPrune_32
set_option maxHeartbeats 4000000 in
set_option maxRecDepth 100000 in
theorem kX1_plantAt (l : Launch) (D : va_G) (cI cZ : ClassId) (d : Nat → Nat) (σ κ : St)  (s0 : Int) (n0 : Int) (n1 : Int) (h0 : 0 ≤ s0) (h1 : s0 < 40) (hwf : xWF σ) : gMet l yX1_plantAt wsX1_plantAt ({ frames := 2, cells := 0, slots := 0, locals := 42 } : Room) D (tyXs cI cZ) (XW cI cZ d σ κ) [.ref (d 0), .int (iI s0), .int (iI n0), .int (iI n1)] xEx (fun _ => some (.int (iI (plA σ s0)))) (fun κ' => κ' = κ) (fun κ' => XW cI cZ d (xPlant σ s0 n0 n1) κ') := by
  refine g_start (cc := cX1_plantAt) (maxL := 4) (ret := (some .boolean)) (by decide) rfl (Nat.le_of_ble_eq_true rfl) ?_
  intro p e s m args below meth c A ls H locs S hr hlocks hname hP hK hD hA hS hE hl
  have S0 := S
  obtain ⟨hx, hb, hml, hown, hts⟩ := S0
  have hl : lv_has ls 4 [(0, .ref (d 0)), (1, .int (iI (s0))), (2, .int (iI (n0))), (3, .int (iI (n1)))] := hl
  have hinX1 : ∀ w ∈ wsX10, w ∈ wsX1_plantAt := by decide +kernel
  refine lv_aload_n hx hb dX1_plantAt_0 rfl (lv_at hl 0 rfl) ?_
  refine lv_iload_n hx hb dX1_plantAt_1 rfl (lv_at hl 1 rfl) ?_
  have hPc : va_P D vwCl (XW cI cZ d σ κ ++ []) H := by rw [List.append_nil]; exact hP
  have hDc : va_D A (XW cI cZ d σ κ ++ []) := by rw [List.append_nil]; exact hD
  refine g_call (va_runV (As := [.int (iI (s0))]) (rest := []) S ((kX1_hasTree l D cI cZ d σ κ s0 (by first | assumption | omega) (by first | assumption | omega) (by first | assumption | omega)) H.size) (cwV 1 hts gX1_plantAt_X1_hasTree rfl rfl rfl (by decide +kernel) ⟨Nat.le_of_ble_eq_true rfl, Nat.le_of_ble_eq_true rfl⟩) (g_preV xEx_g hK [0, 1] rfl hPc hDc (fun U _ hW => xEx_w hW hE) (q0 := 0) (ci := 1) rfl rfl rfl) rfl rfl hl.1 rfl (lv_room (Nat.le_of_ble_eq_true rfl)) dX1_plantAt_2 ⟨Nat.le_of_ble_eq_true rfl, Nat.le_of_ble_eq_true rfl⟩) hPc hDc hS hA (fun κ9 H locs hk hP hD hS => ?_)
  have hk : κ = κ9 := hk.symm
  subst hk
  have hP : va_P D vwCl (XW cI cZ d σ κ) H := by have h9 : va_P D vwCl (XW cI cZ d σ κ ++ []) H := hP; rw [List.append_nil] at h9; exact h9
  have hD : va_D A (XW cI cZ d σ κ) := by have h9 : va_D A (XW cI cZ d σ κ ++ []) := hD; rw [List.append_nil] at h9; exact h9
  show W p l e ({ frames := 2, cells := 0, slots := 0, locals := 42 } : Room) s m args below meth c H locs 0 0 (MQ below (gQ D (tyXs cI cZ) (fun κ' => XW cI cZ d (xPlant σ s0 n0 n1) κ') A (fun _ => some (.int (iI (plA σ s0)))) (fun κ' => κ' = κ)) args s 0 0 A) (F0 m 5 ls [.int (iI (bI (¬ σ 4 s0 = -1)))])
  refine gb_if_ne (tgt := 17) hx hb dX1_plantAt_5 (by decide)  (fun c5 => ?_) (fun c5 => ?_)
  · skip
    refine lv_iconst (v := iI (0)) hx hb dX1_plantAt_17 rfl ?_
    have es : (xPlant σ s0 n0 n1) = (σ) := by unfold xPlant; first | (rw [if_neg (by omega)]; done) | (rw [if_pos (by omega)]; rfl)
    have er : ((plA σ s0 : Int)) = (0) := by unfold plA; first | (rw [bI_t (by omega)]; done) | (rw [bI_f (by omega)]; done)
    exact g_iret (wo := (fun κ' => XW cI cZ d (xPlant σ s0 n0 n1) κ')) (kr := (fun κ' => κ' = κ)) (rv := (fun _ => some (.int (iI (plA σ s0))))) hx hb hr hlocks κ (nar_z (Or.inl rfl)) (by rw [es]; exact hP) hK (by rw [es]; exact hD) hS rfl (by rw [er]) (Nat.le_of_ble_eq_true rfl) (Nat.le_of_ble_eq_true rfl) dX1_plantAt_18
  · skip
    refine lv_aload_n hx hb dX1_plantAt_8 rfl (lv_at hl 0 rfl) ?_
    refine lv_iload_n hx hb dX1_plantAt_9 rfl (lv_at hl 1 rfl) ?_
    refine lv_iconst (v := iI (5)) hx hb dX1_plantAt_10 rfl ?_
    have hPc : va_P D vwCl (XW cI cZ d σ κ ++ []) H := by rw [List.append_nil]; exact hP
    have hDc : va_D A (XW cI cZ d σ κ ++ []) := by rw [List.append_nil]; exact hD
    refine g_call (va_runV (As := [.int (iI (s0)), .int (iI (5))]) (rest := []) S ((kX1_canPay l D cI cZ d σ κ s0 5 (by first | assumption | omega) (by first | assumption | omega) (by first | assumption | omega) (by first | assumption | omega) (by first | assumption | omega)) H.size) (cwV 2 hts gX1_plantAt_X1_canPay rfl rfl rfl (by decide +kernel) ⟨Nat.le_of_ble_eq_true rfl, Nat.le_of_ble_eq_true rfl⟩) (g_preV xEx_g hK [0, 1] rfl hPc hDc (fun U _ hW => xEx_w hW hE) (q0 := 0) (ci := 1) rfl rfl rfl) rfl rfl hl.1 rfl (lv_room (Nat.le_of_ble_eq_true rfl)) dX1_plantAt_11 ⟨Nat.le_of_ble_eq_true rfl, Nat.le_of_ble_eq_true rfl⟩) hPc hDc hS hA (fun κ9 H locs hk hP hD hS => ?_)
    have hk : κ = κ9 := hk.symm
    subst hk
    have hP : va_P D vwCl (XW cI cZ d σ κ) H := by have h9 : va_P D vwCl (XW cI cZ d σ κ ++ []) H := hP; rw [List.append_nil] at h9; exact h9
    have hD : va_D A (XW cI cZ d σ κ) := by have h9 : va_D A (XW cI cZ d σ κ ++ []) := hD; rw [List.append_nil] at h9; exact h9
    show W p l e ({ frames := 2, cells := 0, slots := 0, locals := 42 } : Room) s m args below meth c H locs 0 0 (MQ below (gQ D (tyXs cI cZ) (fun κ' => XW cI cZ d (xPlant σ s0 n0 n1) κ') A (fun _ => some (.int (iI (plA σ s0)))) (fun κ' => κ' = κ)) args s 0 0 A) (F0 m 14 ls [.int (iI (bI (5 ≤ σ 8 (tw s0))))])
    refine gb_if_ne (tgt := 19) hx hb dX1_plantAt_14 (by decide)  (fun c14 => ?_) (fun c14 => ?_)
    · skip
      refine lv_aload_n hx hb dX1_plantAt_19 rfl (lv_at hl 0 rfl) ?_
      refine lv_iload_n hx hb dX1_plantAt_20 rfl (lv_at hl 1 rfl) ?_
      refine lv_iconst (v := iI (5)) hx hb dX1_plantAt_21 rfl ?_
      have hPc : va_P D vwCl (XW cI cZ d σ κ ++ []) H := by rw [List.append_nil]; exact hP
      have hDc : va_D A (XW cI cZ d σ κ ++ []) := by rw [List.append_nil]; exact hD
      refine g_call (va_runV (As := [.int (iI (s0)), .int (iI (5))]) (rest := []) S ((kX1_pay l D cI cZ d σ κ s0 5 (by first | assumption | omega) (by first | assumption | omega)) H.size) (cwV 2 hts gX1_plantAt_X1_pay rfl rfl rfl (by decide +kernel) ⟨Nat.le_of_ble_eq_true rfl, Nat.le_of_ble_eq_true rfl⟩) (g_preV xEx_g hK [0, 1] rfl hPc hDc (fun U _ hW => xEx_w hW hE) (q0 := 0) (ci := 1) rfl rfl rfl) rfl rfl hl.1 rfl (lv_room (Nat.le_of_ble_eq_true rfl)) dX1_plantAt_22 ⟨Nat.le_of_ble_eq_true rfl, Nat.le_of_ble_eq_true rfl⟩) hPc hDc hS hA (fun κ9 H locs hk hP hD hS => ?_)
      have hk : κ = κ9 := hk.symm
      subst hk
      have hP : va_P D vwCl (XW cI cZ d (su σ 8 (tw s0) (σ 8 (tw s0) - 5)) κ) H := by have h9 : va_P D vwCl (XW cI cZ d (su σ 8 (tw s0) (σ 8 (tw s0) - 5)) κ ++ []) H := hP; rw [List.append_nil] at h9; exact h9
      have hD : va_D A (XW cI cZ d (su σ 8 (tw s0) (σ 8 (tw s0) - 5)) κ) := by have h9 : va_D A (XW cI cZ d (su σ 8 (tw s0) (σ 8 (tw s0) - 5)) κ ++ []) := hD; rw [List.append_nil] at h9; exact h9
      show W p l e ({ frames := 2, cells := 0, slots := 0, locals := 42 } : Room) s m args below meth c H locs 0 0 (MQ below (gQ D (tyXs cI cZ) (fun κ' => XW cI cZ d (xPlant σ s0 n0 n1) κ') A (fun _ => some (.int (iI (plA σ s0)))) (fun κ' => κ' = κ)) args s 0 0 A) (F0 m 25 ls [])
      refine lv_aload_n hx hb dX1_plantAt_25 rfl (lv_at hl 0 rfl) ?_
      refine va_get (D := D) (ci := 1) (v := .ref (d 5)) (C := RX1) (T := TX1) (N := 13) hx hb hts hinX1 hown hK hP 0 rfl rfl 4 (by decide) (hts (.fieldLink RX1 22 "TwinOrchard" "kinds" "[I") (List.mem_of_getElem? (i := 1) rfl)) (fun _ h9 => h9) rfl dX1_plantAt_26 ?_
      refine lv_iload_n hx hb dX1_plantAt_29 rfl (lv_at hl 1 rfl) ?_
      refine lv_iload_n hx hb dX1_plantAt_30 rfl (lv_at hl 2 rfl) ?_
      refine gi_iast (a := d 5) (n := 40) (f := (su σ 8 (tw s0) (σ 8 (tw s0) - 5)) 4) hx hb hK hP hD hS 5 0 rfl rfl (by omega) (by omega) (by decide) dX1_plantAt_31 (fun H locs hP hD hS => ?_)
      have hP : va_P D vwCl (XW cI cZ d (su (su σ 8 (tw s0) (σ 8 (tw s0) - 5)) 4 s0 (n0)) κ) H := hP
      have hD : va_D A (XW cI cZ d (su (su σ 8 (tw s0) (σ 8 (tw s0) - 5)) 4 s0 (n0)) κ) := hD
      refine lv_aload_n hx hb dX1_plantAt_32 rfl (lv_at hl 0 rfl) ?_
      refine va_get (D := D) (ci := 1) (v := .ref (d 6)) (C := RX1) (T := TX1) (N := 13) hx hb hts hinX1 hown hK hP 0 rfl rfl 5 (by decide) (hts (.fieldLink RX1 25 "TwinOrchard" "branches" "[I") (List.mem_of_getElem? (i := 2) rfl)) (fun _ h9 => h9) rfl dX1_plantAt_33 ?_
      refine lv_iload_n hx hb dX1_plantAt_36 rfl (lv_at hl 1 rfl) ?_
      refine lv_iconst (v := iI (1)) hx hb dX1_plantAt_37 rfl ?_
      refine gi_iast (a := d 6) (n := 40) (f := (su (su σ 8 (tw s0) (σ 8 (tw s0) - 5)) 4 s0 (n0)) 5) hx hb hK hP hD hS 6 0 rfl rfl (by omega) (by omega) (by decide) dX1_plantAt_38 (fun H locs hP hD hS => ?_)
      have hP : va_P D vwCl (XW cI cZ d (su (su (su σ 8 (tw s0) (σ 8 (tw s0) - 5)) 4 s0 (n0)) 5 s0 (1)) κ) H := hP
      have hD : va_D A (XW cI cZ d (su (su (su σ 8 (tw s0) (σ 8 (tw s0) - 5)) 4 s0 (n0)) 5 s0 (1)) κ) := hD
      refine lv_aload_n hx hb dX1_plantAt_39 rfl (lv_at hl 0 rfl) ?_
      refine va_get (D := D) (ci := 1) (v := .ref (d 7)) (C := RX1) (T := TX1) (N := 13) hx hb hts hinX1 hown hK hP 0 rfl rfl 6 (by decide) (hts (.fieldLink RX1 28 "TwinOrchard" "vigours" "[I") (List.mem_of_getElem? (i := 3) rfl)) (fun _ h9 => h9) rfl dX1_plantAt_40 ?_
      refine lv_iload_n hx hb dX1_plantAt_43 rfl (lv_at hl 1 rfl) ?_
      refine lv_iload_n hx hb dX1_plantAt_44 rfl (lv_at hl 3 rfl) ?_
      refine gi_iast (a := d 7) (n := 40) (f := (su (su (su σ 8 (tw s0) (σ 8 (tw s0) - 5)) 4 s0 (n0)) 5 s0 (1)) 6) hx hb hK hP hD hS 7 0 rfl rfl (by omega) (by omega) (by decide) dX1_plantAt_45 (fun H locs hP hD hS => ?_)
      have hP : va_P D vwCl (XW cI cZ d (su (su (su (su σ 8 (tw s0) (σ 8 (tw s0) - 5)) 4 s0 (n0)) 5 s0 (1)) 6 s0 (n1)) κ) H := hP
      have hD : va_D A (XW cI cZ d (su (su (su (su σ 8 (tw s0) (σ 8 (tw s0) - 5)) 4 s0 (n0)) 5 s0 (1)) 6 s0 (n1)) κ) := hD
      refine lv_aload_n hx hb dX1_plantAt_46 rfl (lv_at hl 0 rfl) ?_
      refine va_get (D := D) (ci := 1) (v := .ref (d 8)) (C := RX1) (T := TX1) (N := 13) hx hb hts hinX1 hown hK hP 0 rfl rfl 7 (by decide) (hts (.fieldLink RX1 31 "TwinOrchard" "tired" "[Z") (List.mem_of_getElem? (i := 4) rfl)) (fun _ h9 => h9) rfl dX1_plantAt_47 ?_
      refine lv_iload_n hx hb dX1_plantAt_50 rfl (lv_at hl 1 rfl) ?_
      refine lv_iconst (v := iI (0)) hx hb dX1_plantAt_51 rfl ?_
      refine gi_zast (a := d 8) (n := 40) (f := (su (su (su (su σ 8 (tw s0) (σ 8 (tw s0) - 5)) 4 s0 (n0)) 5 s0 (1)) 6 s0 (n1)) 7) hx hb hK hP hD hS 8 1 rfl rfl (by omega) (by omega) (by decide) (Or.inl rfl) dX1_plantAt_52 (fun H locs hP hD hS => ?_)
      have hP : va_P D vwCl (XW cI cZ d (su (su (su (su (su σ 8 (tw s0) (σ 8 (tw s0) - 5)) 4 s0 (n0)) 5 s0 (1)) 6 s0 (n1)) 7 s0 (0)) κ) H := hP
      have hD : va_D A (XW cI cZ d (su (su (su (su (su σ 8 (tw s0) (σ 8 (tw s0) - 5)) 4 s0 (n0)) 5 s0 (1)) 6 s0 (n1)) 7 s0 (0)) κ) := hD
      refine lv_iconst (v := iI (1)) hx hb dX1_plantAt_53 rfl ?_
      have es : (xPlant σ s0 n0 n1) = (su (su (su (su (su σ 8 (tw s0) (σ 8 (tw s0) - 5)) 4 s0 (n0)) 5 s0 (1)) 6 s0 (n1)) 7 s0 (0)) := by unfold xPlant; first | (rw [if_neg (by omega)]; done) | (rw [if_pos (by omega)]; rfl)
      have er : ((plA σ s0 : Int)) = (1) := by unfold plA; first | (rw [bI_t (by omega)]; done) | (rw [bI_f (by omega)]; done)
      exact g_iret (wo := (fun κ' => XW cI cZ d (xPlant σ s0 n0 n1) κ')) (kr := (fun κ' => κ' = κ)) (rv := (fun _ => some (.int (iI (plA σ s0))))) hx hb hr hlocks κ (nar_z (Or.inr rfl)) (by rw [es]; exact hP) hK (by rw [es]; exact hD) hS rfl (by rw [er]) (Nat.le_of_ble_eq_true rfl) (Nat.le_of_ble_eq_true rfl) dX1_plantAt_54
    · skip
      refine lv_iconst (v := iI (0)) hx hb dX1_plantAt_17 rfl ?_
      have es : (xPlant σ s0 n0 n1) = (σ) := by unfold xPlant; first | (rw [if_neg (by omega)]; done) | (rw [if_pos (by omega)]; rfl)
      have er : ((plA σ s0 : Int)) = (0) := by unfold plA; first | (rw [bI_t (by omega)]; done) | (rw [bI_f (by omega)]; done)
      exact g_iret (wo := (fun κ' => XW cI cZ d (xPlant σ s0 n0 n1) κ')) (kr := (fun κ' => κ' = κ)) (rv := (fun _ => some (.int (iI (plA σ s0))))) hx hb hr hlocks κ (nar_z (Or.inl rfl)) (by rw [es]; exact hP) hK (by rw [es]; exact hD) hS rfl (by rw [er]) (Nat.le_of_ble_eq_true rfl) (Nat.le_of_ble_eq_true rfl) dX1_plantAt_18
set_option maxHeartbeats 4000000 in
set_option maxRecDepth 100000 in
theorem kX1_fellAt (l : Launch) (D : va_G) (cI cZ : ClassId) (d : Nat → Nat) (σ κ : St)  (s0 : Int) (h0 : 0 ≤ s0) (h1 : s0 < 40) (hwf : xWF σ) : gMet l yX1_fellAt wsX1_fellAt ({ frames := 2, cells := 0, slots := 0, locals := 42 } : Room) D (tyXs cI cZ) (XW cI cZ d σ κ) [.ref (d 0), .int (iI s0)] xEx (fun _ => some (.int (iI (feA σ s0)))) (fun κ' => κ' = κ) (fun κ' => XW cI cZ d (xFell σ s0) κ') := by
  refine g_start (cc := cX1_fellAt) (maxL := 2) (ret := (some .boolean)) (by decide) rfl (Nat.le_of_ble_eq_true rfl) ?_
  intro p e s m args below meth c A ls H locs S hr hlocks hname hP hK hD hA hS hE hl
  have S0 := S
  obtain ⟨hx, hb, hml, hown, hts⟩ := S0
  have hl : lv_has ls 2 [(0, .ref (d 0)), (1, .int (iI (s0)))] := hl
  have hinX1 : ∀ w ∈ wsX10, w ∈ wsX1_fellAt := by decide +kernel
  refine lv_aload_n hx hb dX1_fellAt_0 rfl (lv_at hl 0 rfl) ?_
  refine lv_iload_n hx hb dX1_fellAt_1 rfl (lv_at hl 1 rfl) ?_
  have hPc : va_P D vwCl (XW cI cZ d σ κ ++ []) H := by rw [List.append_nil]; exact hP
  have hDc : va_D A (XW cI cZ d σ κ ++ []) := by rw [List.append_nil]; exact hD
  refine g_call (va_runV (As := [.int (iI (s0))]) (rest := []) S ((kX1_hasTree l D cI cZ d σ κ s0 (by first | assumption | omega) (by first | assumption | omega) (by first | assumption | omega)) H.size) (cwV 1 hts gX1_fellAt_X1_hasTree rfl rfl rfl (by decide +kernel) ⟨Nat.le_of_ble_eq_true rfl, Nat.le_of_ble_eq_true rfl⟩) (g_preV xEx_g hK [0, 1] rfl hPc hDc (fun U _ hW => xEx_w hW hE) (q0 := 0) (ci := 1) rfl rfl rfl) rfl rfl hl.1 rfl (lv_room (Nat.le_of_ble_eq_true rfl)) dX1_fellAt_2 ⟨Nat.le_of_ble_eq_true rfl, Nat.le_of_ble_eq_true rfl⟩) hPc hDc hS hA (fun κ9 H locs hk hP hD hS => ?_)
  have hk : κ = κ9 := hk.symm
  subst hk
  have hP : va_P D vwCl (XW cI cZ d σ κ) H := by have h9 : va_P D vwCl (XW cI cZ d σ κ ++ []) H := hP; rw [List.append_nil] at h9; exact h9
  have hD : va_D A (XW cI cZ d σ κ) := by have h9 : va_D A (XW cI cZ d σ κ ++ []) := hD; rw [List.append_nil] at h9; exact h9
  show W p l e ({ frames := 2, cells := 0, slots := 0, locals := 42 } : Room) s m args below meth c H locs 0 0 (MQ below (gQ D (tyXs cI cZ) (fun κ' => XW cI cZ d (xFell σ s0) κ') A (fun _ => some (.int (iI (feA σ s0)))) (fun κ' => κ' = κ)) args s 0 0 A) (F0 m 5 ls [.int (iI (bI (¬ σ 4 s0 = -1)))])
  refine gb_if_eq (tgt := 18) hx hb dX1_fellAt_5 (by decide)  (fun c5 => ?_) (fun c5 => ?_)
  · skip
    refine lv_iconst (v := iI (0)) hx hb dX1_fellAt_18 rfl ?_
    have es : (xFell σ s0) = (σ) := by unfold xFell; first | (rw [if_neg (by omega)]; done) | (rw [if_pos (by omega)]; rfl)
    have er : ((feA σ s0 : Int)) = (0) := by unfold feA; first | (rw [bI_t (by omega)]; done) | (rw [bI_f (by omega)]; done)
    exact g_iret (wo := (fun κ' => XW cI cZ d (xFell σ s0) κ')) (kr := (fun κ' => κ' = κ)) (rv := (fun _ => some (.int (iI (feA σ s0))))) hx hb hr hlocks κ (nar_z (Or.inl rfl)) (by rw [es]; exact hP) hK (by rw [es]; exact hD) hS rfl (by rw [er]) (Nat.le_of_ble_eq_true rfl) (Nat.le_of_ble_eq_true rfl) dX1_fellAt_19
  · skip
    refine lv_aload_n hx hb dX1_fellAt_8 rfl (lv_at hl 0 rfl) ?_
    refine lv_iload_n hx hb dX1_fellAt_9 rfl (lv_at hl 1 rfl) ?_
    refine lv_bipush (v := iI (6)) hx hb dX1_fellAt_10 rfl ?_
    have hPc : va_P D vwCl (XW cI cZ d σ κ ++ []) H := by rw [List.append_nil]; exact hP
    have hDc : va_D A (XW cI cZ d σ κ ++ []) := by rw [List.append_nil]; exact hD
    refine g_call (va_runV (As := [.int (iI (s0)), .int (iI (6))]) (rest := []) S ((kX1_canPay l D cI cZ d σ κ s0 6 (by first | assumption | omega) (by first | assumption | omega) (by first | assumption | omega) (by first | assumption | omega) (by first | assumption | omega)) H.size) (cwV 2 hts gX1_fellAt_X1_canPay rfl rfl rfl (by decide +kernel) ⟨Nat.le_of_ble_eq_true rfl, Nat.le_of_ble_eq_true rfl⟩) (g_preV xEx_g hK [0, 1] rfl hPc hDc (fun U _ hW => xEx_w hW hE) (q0 := 0) (ci := 1) rfl rfl rfl) rfl rfl hl.1 rfl (lv_room (Nat.le_of_ble_eq_true rfl)) dX1_fellAt_12 ⟨Nat.le_of_ble_eq_true rfl, Nat.le_of_ble_eq_true rfl⟩) hPc hDc hS hA (fun κ9 H locs hk hP hD hS => ?_)
    have hk : κ = κ9 := hk.symm
    subst hk
    have hP : va_P D vwCl (XW cI cZ d σ κ) H := by have h9 : va_P D vwCl (XW cI cZ d σ κ ++ []) H := hP; rw [List.append_nil] at h9; exact h9
    have hD : va_D A (XW cI cZ d σ κ) := by have h9 : va_D A (XW cI cZ d σ κ ++ []) := hD; rw [List.append_nil] at h9; exact h9
    show W p l e ({ frames := 2, cells := 0, slots := 0, locals := 42 } : Room) s m args below meth c H locs 0 0 (MQ below (gQ D (tyXs cI cZ) (fun κ' => XW cI cZ d (xFell σ s0) κ') A (fun _ => some (.int (iI (feA σ s0)))) (fun κ' => κ' = κ)) args s 0 0 A) (F0 m 15 ls [.int (iI (bI (6 ≤ σ 8 (tw s0))))])
    refine gb_if_ne (tgt := 20) hx hb dX1_fellAt_15 (by decide)  (fun c15 => ?_) (fun c15 => ?_)
    · skip
      refine lv_aload_n hx hb dX1_fellAt_20 rfl (lv_at hl 0 rfl) ?_
      refine lv_iload_n hx hb dX1_fellAt_21 rfl (lv_at hl 1 rfl) ?_
      refine lv_bipush (v := iI (6)) hx hb dX1_fellAt_22 rfl ?_
      have hPc : va_P D vwCl (XW cI cZ d σ κ ++ []) H := by rw [List.append_nil]; exact hP
      have hDc : va_D A (XW cI cZ d σ κ ++ []) := by rw [List.append_nil]; exact hD
      refine g_call (va_runV (As := [.int (iI (s0)), .int (iI (6))]) (rest := []) S ((kX1_pay l D cI cZ d σ κ s0 6 (by first | assumption | omega) (by first | assumption | omega)) H.size) (cwV 2 hts gX1_fellAt_X1_pay rfl rfl rfl (by decide +kernel) ⟨Nat.le_of_ble_eq_true rfl, Nat.le_of_ble_eq_true rfl⟩) (g_preV xEx_g hK [0, 1] rfl hPc hDc (fun U _ hW => xEx_w hW hE) (q0 := 0) (ci := 1) rfl rfl rfl) rfl rfl hl.1 rfl (lv_room (Nat.le_of_ble_eq_true rfl)) dX1_fellAt_24 ⟨Nat.le_of_ble_eq_true rfl, Nat.le_of_ble_eq_true rfl⟩) hPc hDc hS hA (fun κ9 H locs hk hP hD hS => ?_)
      have hk : κ = κ9 := hk.symm
      subst hk
      have hP : va_P D vwCl (XW cI cZ d (su σ 8 (tw s0) (σ 8 (tw s0) - 6)) κ) H := by have h9 : va_P D vwCl (XW cI cZ d (su σ 8 (tw s0) (σ 8 (tw s0) - 6)) κ ++ []) H := hP; rw [List.append_nil] at h9; exact h9
      have hD : va_D A (XW cI cZ d (su σ 8 (tw s0) (σ 8 (tw s0) - 6)) κ) := by have h9 : va_D A (XW cI cZ d (su σ 8 (tw s0) (σ 8 (tw s0) - 6)) κ ++ []) := hD; rw [List.append_nil] at h9; exact h9
      show W p l e ({ frames := 2, cells := 0, slots := 0, locals := 42 } : Room) s m args below meth c H locs 0 0 (MQ below (gQ D (tyXs cI cZ) (fun κ' => XW cI cZ d (xFell σ s0) κ') A (fun _ => some (.int (iI (feA σ s0)))) (fun κ' => κ' = κ)) args s 0 0 A) (F0 m 27 ls [])
      refine lv_aload_n hx hb dX1_fellAt_27 rfl (lv_at hl 0 rfl) ?_
      refine va_get (D := D) (ci := 1) (v := .ref (d 5)) (C := RX1) (T := TX1) (N := 13) hx hb hts hinX1 hown hK hP 0 rfl rfl 4 (by decide) (hts (.fieldLink RX1 22 "TwinOrchard" "kinds" "[I") (List.mem_of_getElem? (i := 1) rfl)) (fun _ h9 => h9) rfl dX1_fellAt_28 ?_
      refine lv_iload_n hx hb dX1_fellAt_31 rfl (lv_at hl 1 rfl) ?_
      refine lv_iconst (v := iI (-1)) hx hb dX1_fellAt_32 rfl ?_
      refine gi_iast (a := d 5) (n := 40) (f := (su σ 8 (tw s0) (σ 8 (tw s0) - 6)) 4) hx hb hK hP hD hS 5 0 rfl rfl (by omega) (by omega) (by decide) dX1_fellAt_33 (fun H locs hP hD hS => ?_)
      have hP : va_P D vwCl (XW cI cZ d (su (su σ 8 (tw s0) (σ 8 (tw s0) - 6)) 4 s0 (-1)) κ) H := hP
      have hD : va_D A (XW cI cZ d (su (su σ 8 (tw s0) (σ 8 (tw s0) - 6)) 4 s0 (-1)) κ) := hD
      refine lv_aload_n hx hb dX1_fellAt_34 rfl (lv_at hl 0 rfl) ?_
      refine va_get (D := D) (ci := 1) (v := .ref (d 6)) (C := RX1) (T := TX1) (N := 13) hx hb hts hinX1 hown hK hP 0 rfl rfl 5 (by decide) (hts (.fieldLink RX1 25 "TwinOrchard" "branches" "[I") (List.mem_of_getElem? (i := 2) rfl)) (fun _ h9 => h9) rfl dX1_fellAt_35 ?_
      refine lv_iload_n hx hb dX1_fellAt_38 rfl (lv_at hl 1 rfl) ?_
      refine lv_iconst (v := iI (0)) hx hb dX1_fellAt_39 rfl ?_
      refine gi_iast (a := d 6) (n := 40) (f := (su (su σ 8 (tw s0) (σ 8 (tw s0) - 6)) 4 s0 (-1)) 5) hx hb hK hP hD hS 6 0 rfl rfl (by omega) (by omega) (by decide) dX1_fellAt_40 (fun H locs hP hD hS => ?_)
      have hP : va_P D vwCl (XW cI cZ d (su (su (su σ 8 (tw s0) (σ 8 (tw s0) - 6)) 4 s0 (-1)) 5 s0 (0)) κ) H := hP
      have hD : va_D A (XW cI cZ d (su (su (su σ 8 (tw s0) (σ 8 (tw s0) - 6)) 4 s0 (-1)) 5 s0 (0)) κ) := hD
      refine lv_aload_n hx hb dX1_fellAt_41 rfl (lv_at hl 0 rfl) ?_
      refine va_get (D := D) (ci := 1) (v := .ref (d 7)) (C := RX1) (T := TX1) (N := 13) hx hb hts hinX1 hown hK hP 0 rfl rfl 6 (by decide) (hts (.fieldLink RX1 28 "TwinOrchard" "vigours" "[I") (List.mem_of_getElem? (i := 3) rfl)) (fun _ h9 => h9) rfl dX1_fellAt_42 ?_
      refine lv_iload_n hx hb dX1_fellAt_45 rfl (lv_at hl 1 rfl) ?_
      refine lv_iconst (v := iI (0)) hx hb dX1_fellAt_46 rfl ?_
      refine gi_iast (a := d 7) (n := 40) (f := (su (su (su σ 8 (tw s0) (σ 8 (tw s0) - 6)) 4 s0 (-1)) 5 s0 (0)) 6) hx hb hK hP hD hS 7 0 rfl rfl (by omega) (by omega) (by decide) dX1_fellAt_47 (fun H locs hP hD hS => ?_)
      have hP : va_P D vwCl (XW cI cZ d (su (su (su (su σ 8 (tw s0) (σ 8 (tw s0) - 6)) 4 s0 (-1)) 5 s0 (0)) 6 s0 (0)) κ) H := hP
      have hD : va_D A (XW cI cZ d (su (su (su (su σ 8 (tw s0) (σ 8 (tw s0) - 6)) 4 s0 (-1)) 5 s0 (0)) 6 s0 (0)) κ) := hD
      refine lv_aload_n hx hb dX1_fellAt_48 rfl (lv_at hl 0 rfl) ?_
      refine va_get (D := D) (ci := 1) (v := .ref (d 8)) (C := RX1) (T := TX1) (N := 13) hx hb hts hinX1 hown hK hP 0 rfl rfl 7 (by decide) (hts (.fieldLink RX1 31 "TwinOrchard" "tired" "[Z") (List.mem_of_getElem? (i := 4) rfl)) (fun _ h9 => h9) rfl dX1_fellAt_49 ?_
      refine lv_iload_n hx hb dX1_fellAt_52 rfl (lv_at hl 1 rfl) ?_
      refine lv_iconst (v := iI (0)) hx hb dX1_fellAt_53 rfl ?_
      refine gi_zast (a := d 8) (n := 40) (f := (su (su (su (su σ 8 (tw s0) (σ 8 (tw s0) - 6)) 4 s0 (-1)) 5 s0 (0)) 6 s0 (0)) 7) hx hb hK hP hD hS 8 1 rfl rfl (by omega) (by omega) (by decide) (Or.inl rfl) dX1_fellAt_54 (fun H locs hP hD hS => ?_)
      have hP : va_P D vwCl (XW cI cZ d (su (su (su (su (su σ 8 (tw s0) (σ 8 (tw s0) - 6)) 4 s0 (-1)) 5 s0 (0)) 6 s0 (0)) 7 s0 (0)) κ) H := hP
      have hD : va_D A (XW cI cZ d (su (su (su (su (su σ 8 (tw s0) (σ 8 (tw s0) - 6)) 4 s0 (-1)) 5 s0 (0)) 6 s0 (0)) 7 s0 (0)) κ) := hD
      refine lv_iconst (v := iI (1)) hx hb dX1_fellAt_55 rfl ?_
      have es : (xFell σ s0) = (su (su (su (su (su σ 8 (tw s0) (σ 8 (tw s0) - 6)) 4 s0 (-1)) 5 s0 (0)) 6 s0 (0)) 7 s0 (0)) := by unfold xFell; first | (rw [if_neg (by omega)]; done) | (rw [if_pos (by omega)]; rfl)
      have er : ((feA σ s0 : Int)) = (1) := by unfold feA; first | (rw [bI_t (by omega)]; done) | (rw [bI_f (by omega)]; done)
      exact g_iret (wo := (fun κ' => XW cI cZ d (xFell σ s0) κ')) (kr := (fun κ' => κ' = κ)) (rv := (fun _ => some (.int (iI (feA σ s0))))) hx hb hr hlocks κ (nar_z (Or.inr rfl)) (by rw [es]; exact hP) hK (by rw [es]; exact hD) hS rfl (by rw [er]) (Nat.le_of_ble_eq_true rfl) (Nat.le_of_ble_eq_true rfl) dX1_fellAt_56
    · skip
      refine lv_iconst (v := iI (0)) hx hb dX1_fellAt_18 rfl ?_
      have es : (xFell σ s0) = (σ) := by unfold xFell; first | (rw [if_neg (by omega)]; done) | (rw [if_pos (by omega)]; rfl)
      have er : ((feA σ s0 : Int)) = (0) := by unfold feA; first | (rw [bI_t (by omega)]; done) | (rw [bI_f (by omega)]; done)
      exact g_iret (wo := (fun κ' => XW cI cZ d (xFell σ s0) κ')) (kr := (fun κ' => κ' = κ)) (rv := (fun _ => some (.int (iI (feA σ s0))))) hx hb hr hlocks κ (nar_z (Or.inl rfl)) (by rw [es]; exact hP) hK (by rw [es]; exact hD) hS rfl (by rw [er]) (Nat.le_of_ble_eq_true rfl) (Nat.le_of_ble_eq_true rfl) dX1_fellAt_19
set_option maxHeartbeats 4000000 in
set_option maxRecDepth 100000 in
theorem kX1_graftAt (l : Launch) (D : va_G) (cI cZ : ClassId) (d : Nat → Nat) (σ κ : St)  (s0 : Int) (n0 : Int) (h0 : 0 ≤ s0) (h1 : s0 < 40) (hwf : xWF σ) (hl_n0 : -2147483648 ≤ n0) (hh_n0 : n0 ≤ 2147483647) : gMet l yX1_graftAt wsX1_graftAt ({ frames := 2, cells := 0, slots := 0, locals := 42 } : Room) D (tyXs cI cZ) (XW cI cZ d σ κ) [.ref (d 0), .int (iI s0), .int (iI n0)] xEx (fun _ => some (.int (iI (grA σ s0 n0)))) (fun κ' => κ' = κ) (fun κ' => XW cI cZ d (xGraft σ s0 n0) κ') := by
  refine g_start (cc := cX1_graftAt) (maxL := 3) (ret := (some .boolean)) (by decide) rfl (Nat.le_of_ble_eq_true rfl) ?_
  intro p e s m args below meth c A ls H locs S hr hlocks hname hP hK hD hA hS hE hl
  have S0 := S
  obtain ⟨hx, hb, hml, hown, hts⟩ := S0
  have hl : lv_has ls 3 [(0, .ref (d 0)), (1, .int (iI (s0))), (2, .int (iI (n0)))] := hl
  have hinX1 : ∀ w ∈ wsX10, w ∈ wsX1_graftAt := by decide +kernel
  have k4 := xWF_4 hwf s0
  have k5 := xWF_5 hwf s0
  refine lv_aload_n hx hb dX1_graftAt_0 rfl (lv_at hl 0 rfl) ?_
  refine lv_iload_n hx hb dX1_graftAt_1 rfl (lv_at hl 1 rfl) ?_
  have hPc : va_P D vwCl (XW cI cZ d σ κ ++ []) H := by rw [List.append_nil]; exact hP
  have hDc : va_D A (XW cI cZ d σ κ ++ []) := by rw [List.append_nil]; exact hD
  refine g_call (va_runV (As := [.int (iI (s0))]) (rest := []) S ((kX1_hasTree l D cI cZ d σ κ s0 (by first | assumption | omega) (by first | assumption | omega) (by first | assumption | omega)) H.size) (cwV 1 hts gX1_graftAt_X1_hasTree rfl rfl rfl (by decide +kernel) ⟨Nat.le_of_ble_eq_true rfl, Nat.le_of_ble_eq_true rfl⟩) (g_preV xEx_g hK [0, 1] rfl hPc hDc (fun U _ hW => xEx_w hW hE) (q0 := 0) (ci := 1) rfl rfl rfl) rfl rfl hl.1 rfl (lv_room (Nat.le_of_ble_eq_true rfl)) dX1_graftAt_2 ⟨Nat.le_of_ble_eq_true rfl, Nat.le_of_ble_eq_true rfl⟩) hPc hDc hS hA (fun κ9 H locs hk hP hD hS => ?_)
  have hk : κ = κ9 := hk.symm
  subst hk
  have hP : va_P D vwCl (XW cI cZ d σ κ) H := by have h9 : va_P D vwCl (XW cI cZ d σ κ ++ []) H := hP; rw [List.append_nil] at h9; exact h9
  have hD : va_D A (XW cI cZ d σ κ) := by have h9 : va_D A (XW cI cZ d σ κ ++ []) := hD; rw [List.append_nil] at h9; exact h9
  show W p l e ({ frames := 2, cells := 0, slots := 0, locals := 42 } : Room) s m args below meth c H locs 0 0 (MQ below (gQ D (tyXs cI cZ) (fun κ' => XW cI cZ d (xGraft σ s0 n0) κ') A (fun _ => some (.int (iI (grA σ s0 n0)))) (fun κ' => κ' = κ)) args s 0 0 A) (F0 m 5 ls [.int (iI (bI (¬ σ 4 s0 = -1)))])
  refine gb_if_eq (tgt := 37) hx hb dX1_graftAt_5 (by decide)  (fun c5 => ?_) (fun c5 => ?_)
  · skip
    refine lv_iconst (v := iI (0)) hx hb dX1_graftAt_37 rfl ?_
    have es : (xGraft σ s0 n0) = (σ) := by unfold xGraft; first | (rw [if_neg (by omega)]; done) | (rw [if_pos (by omega)]; rfl)
    have er : ((grA σ s0 n0 : Int)) = (0) := by unfold grA; first | (rw [bI_t (by omega)]; done) | (rw [bI_f (by omega)]; done)
    exact g_iret (wo := (fun κ' => XW cI cZ d (xGraft σ s0 n0) κ')) (kr := (fun κ' => κ' = κ)) (rv := (fun _ => some (.int (iI (grA σ s0 n0))))) hx hb hr hlocks κ (nar_z (Or.inl rfl)) (by rw [es]; exact hP) hK (by rw [es]; exact hD) hS rfl (by rw [er]) (Nat.le_of_ble_eq_true rfl) (Nat.le_of_ble_eq_true rfl) dX1_graftAt_38
  · skip
    refine lv_aload_n hx hb dX1_graftAt_8 rfl (lv_at hl 0 rfl) ?_
    refine va_get (D := D) (ci := 1) (v := .ref (d 5)) (C := RX1) (T := TX1) (N := 13) hx hb hts hinX1 hown hK hP 0 rfl rfl 4 (by decide) (hts (.fieldLink RX1 22 "TwinOrchard" "kinds" "[I") (List.mem_of_getElem? (i := 1) rfl)) (fun _ h9 => h9) rfl dX1_graftAt_9 ?_
    refine lv_iload_n hx hb dX1_graftAt_12 rfl (lv_at hl 1 rfl) ?_
    refine gi_iald (a := d 5) (n := 40) (f := σ 4) hx hb hK hP 5 0 rfl rfl (by omega) (by omega) (by decide) dX1_graftAt_13 ?_
    refine lv_iload_n hx hb dX1_graftAt_14 rfl (lv_at hl 2 rfl) ?_
    refine gi_icmp_eq (tgt := 37) hx hb dX1_graftAt_15 (by decide) ⟨by omega, by omega⟩ ⟨by omega, by omega⟩ (fun c15 => ?_) (fun c15 => ?_)
    · skip
      refine lv_iconst (v := iI (0)) hx hb dX1_graftAt_37 rfl ?_
      have es : (xGraft σ s0 n0) = (σ) := by unfold xGraft; first | (rw [if_neg (by omega)]; done) | (rw [if_pos (by omega)]; rfl)
      have er : ((grA σ s0 n0 : Int)) = (0) := by unfold grA; first | (rw [bI_t (by omega)]; done) | (rw [bI_f (by omega)]; done)
      exact g_iret (wo := (fun κ' => XW cI cZ d (xGraft σ s0 n0) κ')) (kr := (fun κ' => κ' = κ)) (rv := (fun _ => some (.int (iI (grA σ s0 n0))))) hx hb hr hlocks κ (nar_z (Or.inl rfl)) (by rw [es]; exact hP) hK (by rw [es]; exact hD) hS rfl (by rw [er]) (Nat.le_of_ble_eq_true rfl) (Nat.le_of_ble_eq_true rfl) dX1_graftAt_38
    · skip
      refine lv_aload_n hx hb dX1_graftAt_18 rfl (lv_at hl 0 rfl) ?_
      refine va_get (D := D) (ci := 1) (v := .ref (d 6)) (C := RX1) (T := TX1) (N := 13) hx hb hts hinX1 hown hK hP 0 rfl rfl 5 (by decide) (hts (.fieldLink RX1 25 "TwinOrchard" "branches" "[I") (List.mem_of_getElem? (i := 2) rfl)) (fun _ h9 => h9) rfl dX1_graftAt_19 ?_
      refine lv_iload_n hx hb dX1_graftAt_22 rfl (lv_at hl 1 rfl) ?_
      refine gi_iald (a := d 6) (n := 40) (f := σ 5) hx hb hK hP 6 0 rfl rfl (by omega) (by omega) (by decide) dX1_graftAt_23 ?_
      refine lv_iconst (v := iI (1)) hx hb dX1_graftAt_24 rfl ?_
      refine gi_icmp_lt (tgt := 37) hx hb dX1_graftAt_25 (by decide) ⟨by omega, by omega⟩ ⟨by decide, by decide⟩ (fun c25 => ?_) (fun c25 => ?_)
      · skip
        refine lv_iconst (v := iI (0)) hx hb dX1_graftAt_37 rfl ?_
        have es : (xGraft σ s0 n0) = (σ) := by unfold xGraft; first | (rw [if_neg (by omega)]; done) | (rw [if_pos (by omega)]; rfl)
        have er : ((grA σ s0 n0 : Int)) = (0) := by unfold grA; first | (rw [bI_t (by omega)]; done) | (rw [bI_f (by omega)]; done)
        exact g_iret (wo := (fun κ' => XW cI cZ d (xGraft σ s0 n0) κ')) (kr := (fun κ' => κ' = κ)) (rv := (fun _ => some (.int (iI (grA σ s0 n0))))) hx hb hr hlocks κ (nar_z (Or.inl rfl)) (by rw [es]; exact hP) hK (by rw [es]; exact hD) hS rfl (by rw [er]) (Nat.le_of_ble_eq_true rfl) (Nat.le_of_ble_eq_true rfl) dX1_graftAt_38
      · skip
        refine lv_aload_n hx hb dX1_graftAt_28 rfl (lv_at hl 0 rfl) ?_
        refine lv_iload_n hx hb dX1_graftAt_29 rfl (lv_at hl 1 rfl) ?_
        refine lv_iconst (v := iI (4)) hx hb dX1_graftAt_30 rfl ?_
        have hPc : va_P D vwCl (XW cI cZ d σ κ ++ []) H := by rw [List.append_nil]; exact hP
        have hDc : va_D A (XW cI cZ d σ κ ++ []) := by rw [List.append_nil]; exact hD
        refine g_call (va_runV (As := [.int (iI (s0)), .int (iI (4))]) (rest := []) S ((kX1_canPay l D cI cZ d σ κ s0 4 (by first | assumption | omega) (by first | assumption | omega) (by first | assumption | omega) (by first | assumption | omega) (by first | assumption | omega)) H.size) (cwV 2 hts gX1_graftAt_X1_canPay rfl rfl rfl (by decide +kernel) ⟨Nat.le_of_ble_eq_true rfl, Nat.le_of_ble_eq_true rfl⟩) (g_preV xEx_g hK [0, 1] rfl hPc hDc (fun U _ hW => xEx_w hW hE) (q0 := 0) (ci := 1) rfl rfl rfl) rfl rfl hl.1 rfl (lv_room (Nat.le_of_ble_eq_true rfl)) dX1_graftAt_31 ⟨Nat.le_of_ble_eq_true rfl, Nat.le_of_ble_eq_true rfl⟩) hPc hDc hS hA (fun κ9 H locs hk hP hD hS => ?_)
        have hk : κ = κ9 := hk.symm
        subst hk
        have hP : va_P D vwCl (XW cI cZ d σ κ) H := by have h9 : va_P D vwCl (XW cI cZ d σ κ ++ []) H := hP; rw [List.append_nil] at h9; exact h9
        have hD : va_D A (XW cI cZ d σ κ) := by have h9 : va_D A (XW cI cZ d σ κ ++ []) := hD; rw [List.append_nil] at h9; exact h9
        show W p l e ({ frames := 2, cells := 0, slots := 0, locals := 42 } : Room) s m args below meth c H locs 0 0 (MQ below (gQ D (tyXs cI cZ) (fun κ' => XW cI cZ d (xGraft σ s0 n0) κ') A (fun _ => some (.int (iI (grA σ s0 n0)))) (fun κ' => κ' = κ)) args s 0 0 A) (F0 m 34 ls [.int (iI (bI (4 ≤ σ 8 (tw s0))))])
        refine gb_if_ne (tgt := 39) hx hb dX1_graftAt_34 (by decide)  (fun c34 => ?_) (fun c34 => ?_)
        · skip
          refine lv_aload_n hx hb dX1_graftAt_39 rfl (lv_at hl 0 rfl) ?_
          refine lv_iload_n hx hb dX1_graftAt_40 rfl (lv_at hl 1 rfl) ?_
          refine lv_iconst (v := iI (4)) hx hb dX1_graftAt_41 rfl ?_
          have hPc : va_P D vwCl (XW cI cZ d σ κ ++ []) H := by rw [List.append_nil]; exact hP
          have hDc : va_D A (XW cI cZ d σ κ ++ []) := by rw [List.append_nil]; exact hD
          refine g_call (va_runV (As := [.int (iI (s0)), .int (iI (4))]) (rest := []) S ((kX1_pay l D cI cZ d σ κ s0 4 (by first | assumption | omega) (by first | assumption | omega)) H.size) (cwV 2 hts gX1_graftAt_X1_pay rfl rfl rfl (by decide +kernel) ⟨Nat.le_of_ble_eq_true rfl, Nat.le_of_ble_eq_true rfl⟩) (g_preV xEx_g hK [0, 1] rfl hPc hDc (fun U _ hW => xEx_w hW hE) (q0 := 0) (ci := 1) rfl rfl rfl) rfl rfl hl.1 rfl (lv_room (Nat.le_of_ble_eq_true rfl)) dX1_graftAt_42 ⟨Nat.le_of_ble_eq_true rfl, Nat.le_of_ble_eq_true rfl⟩) hPc hDc hS hA (fun κ9 H locs hk hP hD hS => ?_)
          have hk : κ = κ9 := hk.symm
          subst hk
          have hP : va_P D vwCl (XW cI cZ d (su σ 8 (tw s0) (σ 8 (tw s0) - 4)) κ) H := by have h9 : va_P D vwCl (XW cI cZ d (su σ 8 (tw s0) (σ 8 (tw s0) - 4)) κ ++ []) H := hP; rw [List.append_nil] at h9; exact h9
          have hD : va_D A (XW cI cZ d (su σ 8 (tw s0) (σ 8 (tw s0) - 4)) κ) := by have h9 : va_D A (XW cI cZ d (su σ 8 (tw s0) (σ 8 (tw s0) - 4)) κ ++ []) := hD; rw [List.append_nil] at h9; exact h9
          show W p l e ({ frames := 2, cells := 0, slots := 0, locals := 42 } : Room) s m args below meth c H locs 0 0 (MQ below (gQ D (tyXs cI cZ) (fun κ' => XW cI cZ d (xGraft σ s0 n0) κ') A (fun _ => some (.int (iI (grA σ s0 n0)))) (fun κ' => κ' = κ)) args s 0 0 A) (F0 m 45 ls [])
          refine lv_aload_n hx hb dX1_graftAt_45 rfl (lv_at hl 0 rfl) ?_
          refine va_get (D := D) (ci := 1) (v := .ref (d 5)) (C := RX1) (T := TX1) (N := 13) hx hb hts hinX1 hown hK hP 0 rfl rfl 4 (by decide) (hts (.fieldLink RX1 22 "TwinOrchard" "kinds" "[I") (List.mem_of_getElem? (i := 1) rfl)) (fun _ h9 => h9) rfl dX1_graftAt_46 ?_
          refine lv_iload_n hx hb dX1_graftAt_49 rfl (lv_at hl 1 rfl) ?_
          refine lv_iload_n hx hb dX1_graftAt_50 rfl (lv_at hl 2 rfl) ?_
          refine gi_iast (a := d 5) (n := 40) (f := (su σ 8 (tw s0) (σ 8 (tw s0) - 4)) 4) hx hb hK hP hD hS 5 0 rfl rfl (by omega) (by omega) (by decide) dX1_graftAt_51 (fun H locs hP hD hS => ?_)
          have hP : va_P D vwCl (XW cI cZ d (su (su σ 8 (tw s0) (σ 8 (tw s0) - 4)) 4 s0 (n0)) κ) H := hP
          have hD : va_D A (XW cI cZ d (su (su σ 8 (tw s0) (σ 8 (tw s0) - 4)) 4 s0 (n0)) κ) := hD
          refine lv_aload_n hx hb dX1_graftAt_52 rfl (lv_at hl 0 rfl) ?_
          refine va_get (D := D) (ci := 1) (v := .ref (d 6)) (C := RX1) (T := TX1) (N := 13) hx hb hts hinX1 hown hK hP 0 rfl rfl 5 (by decide) (hts (.fieldLink RX1 25 "TwinOrchard" "branches" "[I") (List.mem_of_getElem? (i := 2) rfl)) (fun _ h9 => h9) rfl dX1_graftAt_53 ?_
          refine lv_iload_n hx hb dX1_graftAt_56 rfl (lv_at hl 1 rfl) ?_
          refine lv_iconst (v := iI (1)) hx hb dX1_graftAt_57 rfl ?_
          refine lv_aload_n hx hb dX1_graftAt_58 rfl (lv_at hl 0 rfl) ?_
          refine va_get (D := D) (ci := 1) (v := .ref (d 6)) (C := RX1) (T := TX1) (N := 13) hx hb hts hinX1 hown hK hP 0 rfl rfl 5 (by decide) (hts (.fieldLink RX1 25 "TwinOrchard" "branches" "[I") (List.mem_of_getElem? (i := 2) rfl)) (fun _ h9 => h9) rfl dX1_graftAt_59 ?_
          refine lv_iload_n hx hb dX1_graftAt_62 rfl (lv_at hl 1 rfl) ?_
          refine gi_iald (a := d 6) (n := 40) (f := (su (su σ 8 (tw s0) (σ 8 (tw s0) - 4)) 4 s0 (n0)) 5) hx hb hK hP 6 0 rfl rfl (by omega) (by omega) (by decide) dX1_graftAt_63 ?_
          rw [show ((su (su σ 8 (tw s0) (σ 8 (tw s0) - 4)) 4 s0 (n0)) 5 s0) = (σ 5 s0) from by rfl]
          refine lv_iconst (v := iI (2)) hx hb dX1_graftAt_64 rfl ?_
          refine gi_div hx hb ⟨by omega, by omega⟩ ⟨by omega, by omega⟩ dX1_graftAt_65 ?_
          refine gi_max hx hb (hml.trans hl.1.symm) hown (hts _ (List.mem_of_getElem? (i := 3) rfl)) (hts _ (List.mem_of_getElem? (i := 4) rfl)) (hts _ (List.mem_of_getElem? (i := 5) rfl)) (hts _ (List.mem_of_getElem? (i := 6) rfl)) (Nat.le_of_ble_eq_true rfl) (Nat.le_of_ble_eq_true rfl) (Nat.le_of_ble_eq_true rfl) (Nat.le_of_ble_eq_true rfl) ⟨by decide, by decide⟩ ⟨by omega, by omega⟩ dX1_graftAt_66 ?_
          refine gi_iast (a := d 6) (n := 40) (f := (su (su σ 8 (tw s0) (σ 8 (tw s0) - 4)) 4 s0 (n0)) 5) hx hb hK hP hD hS 6 0 rfl rfl (by omega) (by omega) (by decide) dX1_graftAt_69 (fun H locs hP hD hS => ?_)
          have hP : va_P D vwCl (XW cI cZ d (su (su (su σ 8 (tw s0) (σ 8 (tw s0) - 4)) 4 s0 (n0)) 5 s0 (max 1 ((σ 5 s0) / 2))) κ) H := hP
          have hD : va_D A (XW cI cZ d (su (su (su σ 8 (tw s0) (σ 8 (tw s0) - 4)) 4 s0 (n0)) 5 s0 (max 1 ((σ 5 s0) / 2))) κ) := hD
          refine lv_iconst (v := iI (1)) hx hb dX1_graftAt_70 rfl ?_
          have es : (xGraft σ s0 n0) = (su (su (su σ 8 (tw s0) (σ 8 (tw s0) - 4)) 4 s0 (n0)) 5 s0 (max 1 ((σ 5 s0) / 2))) := by unfold xGraft; first | (rw [if_neg (by omega)]; done) | (rw [if_pos (by omega)]; rfl)
          have er : ((grA σ s0 n0 : Int)) = (1) := by unfold grA; first | (rw [bI_t (by omega)]; done) | (rw [bI_f (by omega)]; done)
          exact g_iret (wo := (fun κ' => XW cI cZ d (xGraft σ s0 n0) κ')) (kr := (fun κ' => κ' = κ)) (rv := (fun _ => some (.int (iI (grA σ s0 n0))))) hx hb hr hlocks κ (nar_z (Or.inr rfl)) (by rw [es]; exact hP) hK (by rw [es]; exact hD) hS rfl (by rw [er]) (Nat.le_of_ble_eq_true rfl) (Nat.le_of_ble_eq_true rfl) dX1_graftAt_71
        · skip
          refine lv_iconst (v := iI (0)) hx hb dX1_graftAt_37 rfl ?_
          have es : (xGraft σ s0 n0) = (σ) := by unfold xGraft; first | (rw [if_neg (by omega)]; done) | (rw [if_pos (by omega)]; rfl)
          have er : ((grA σ s0 n0 : Int)) = (0) := by unfold grA; first | (rw [bI_t (by omega)]; done) | (rw [bI_f (by omega)]; done)
          exact g_iret (wo := (fun κ' => XW cI cZ d (xGraft σ s0 n0) κ')) (kr := (fun κ' => κ' = κ)) (rv := (fun _ => some (.int (iI (grA σ s0 n0))))) hx hb hr hlocks κ (nar_z (Or.inl rfl)) (by rw [es]; exact hP) hK (by rw [es]; exact hD) hS rfl (by rw [er]) (Nat.le_of_ble_eq_true rfl) (Nat.le_of_ble_eq_true rfl) dX1_graftAt_38
set_option maxHeartbeats 4000000 in
set_option maxRecDepth 100000 in
theorem kX1_pruneAt (l : Launch) (D : va_G) (cI cZ : ClassId) (d : Nat → Nat) (σ κ : St)  (s0 : Int) (c0 : Int) (h0 : 0 ≤ s0) (h1 : s0 < 40) (hwf : xWF σ) (hl_c0 : -2147483648 ≤ c0) (hh_c0 : c0 ≤ 2147483647) : gMet l yX1_pruneAt wsX1_pruneAt ({ frames := 3, cells := 0, slots := 0, locals := 64 } : Room) D (tyXs cI cZ) (XW cI cZ d σ κ) [.ref (d 0), .int (iI s0), .int (iI c0)] xEx (fun _ => some (.int (iI (prA σ s0 c0)))) (fun κ' => True) (fun κ' => XW cI cZ d (xPrune σ s0 c0) κ') := by
  refine g_start (cc := cX1_pruneAt) (maxL := 3) (ret := (some .boolean)) (by decide) rfl (Nat.le_of_ble_eq_true rfl) ?_
  intro p e s m args below meth c A ls H locs S hr hlocks hname hP hK hD hA hS hE hl
  have S0 := S
  obtain ⟨hx, hb, hml, hown, hts⟩ := S0
  have hl : lv_has ls 3 [(0, .ref (d 0)), (1, .int (iI (s0))), (2, .int (iI (c0)))] := hl
  have hinX0 : ∀ w ∈ wsX00, w ∈ wsX1_pruneAt := by decide +kernel
  have hinX1 : ∀ w ∈ wsX10, w ∈ wsX1_pruneAt := by decide +kernel
  refine lv_aload_n hx hb dX1_pruneAt_0 rfl (lv_at hl 0 rfl) ?_
  refine lv_iload_n hx hb dX1_pruneAt_1 rfl (lv_at hl 1 rfl) ?_
  refine lv_iload_n hx hb dX1_pruneAt_2 rfl (lv_at hl 2 rfl) ?_
  have hPc : va_P D vwCl (XW cI cZ d σ κ ++ []) H := by rw [List.append_nil]; exact hP
  have hDc : va_D A (XW cI cZ d σ κ ++ []) := by rw [List.append_nil]; exact hD
  refine g_call (va_runV (As := [.int (iI (s0)), .int (iI (c0))]) (rest := []) S ((kX1_canPrune l D cI cZ d σ κ s0 c0 (by first | assumption | omega) (by first | assumption | omega) (by first | assumption | omega) (by first | assumption | omega) (by first | assumption | omega)) H.size) (cwV 2 hts gX1_pruneAt_X1_canPrune rfl rfl rfl (by decide +kernel) ⟨Nat.le_of_ble_eq_true rfl, Nat.le_of_ble_eq_true rfl⟩) (g_preV xEx_g hK [0, 1] rfl hPc hDc (fun U _ hW => xEx_w hW hE) (q0 := 0) (ci := 1) rfl rfl rfl) rfl rfl hl.1 rfl (lv_room (Nat.le_of_ble_eq_true rfl)) dX1_pruneAt_3 ⟨Nat.le_of_ble_eq_true rfl, Nat.le_of_ble_eq_true rfl⟩) hPc hDc hS hA (fun κ9 H locs hk hP hD hS => ?_)
  have hk : κ = κ9 := hk.symm
  subst hk
  have hP : va_P D vwCl (XW cI cZ d σ κ) H := by have h9 : va_P D vwCl (XW cI cZ d σ κ ++ []) H := hP; rw [List.append_nil] at h9; exact h9
  have hD : va_D A (XW cI cZ d σ κ) := by have h9 : va_D A (XW cI cZ d σ κ ++ []) := hD; rw [List.append_nil] at h9; exact h9
  show W p l e ({ frames := 3, cells := 0, slots := 0, locals := 64 } : Room) s m args below meth c H locs 0 0 (MQ below (gQ D (tyXs cI cZ) (fun κ' => XW cI cZ d (xPrune σ s0 c0) κ') A (fun _ => some (.int (iI (prA σ s0 c0)))) (fun κ' => True)) args s 0 0 A) (F0 m 6 ls [.int (iI (bI (¬ σ 4 s0 = -1 ∧ c0 ≤ σ 5 s0 ∧ 2 ≤ σ 8 (tw s0))))])
  refine gb_if_ne (tgt := 11) hx hb dX1_pruneAt_6 (by decide)  (fun c6 => ?_) (fun c6 => ?_)
  · skip
    refine lv_aload_n hx hb dX1_pruneAt_11 rfl (lv_at hl 0 rfl) ?_
    refine lv_iload_n hx hb dX1_pruneAt_12 rfl (lv_at hl 1 rfl) ?_
    refine lv_iconst (v := iI (2)) hx hb dX1_pruneAt_13 rfl ?_
    have hPc : va_P D vwCl (XW cI cZ d σ κ ++ []) H := by rw [List.append_nil]; exact hP
    have hDc : va_D A (XW cI cZ d σ κ ++ []) := by rw [List.append_nil]; exact hD
    refine g_call (va_runV (As := [.int (iI (s0)), .int (iI (2))]) (rest := []) S ((kX1_pay l D cI cZ d σ κ s0 2 (by first | assumption | omega) (by first | assumption | omega)) H.size) (cwV 2 hts gX1_pruneAt_X1_pay rfl rfl rfl (by decide +kernel) ⟨Nat.le_of_ble_eq_true rfl, Nat.le_of_ble_eq_true rfl⟩) (g_preV xEx_g hK [0, 1] rfl hPc hDc (fun U _ hW => xEx_w hW hE) (q0 := 0) (ci := 1) rfl rfl rfl) rfl rfl hl.1 rfl (lv_room (Nat.le_of_ble_eq_true rfl)) dX1_pruneAt_14 ⟨Nat.le_of_ble_eq_true rfl, Nat.le_of_ble_eq_true rfl⟩) hPc hDc hS hA (fun κ9 H locs hk hP hD hS => ?_)
    have hk : κ = κ9 := hk.symm
    subst hk
    have hP : va_P D vwCl (XW cI cZ d (su σ 8 (tw s0) (σ 8 (tw s0) - 2)) κ) H := by have h9 : va_P D vwCl (XW cI cZ d (su σ 8 (tw s0) (σ 8 (tw s0) - 2)) κ ++ []) H := hP; rw [List.append_nil] at h9; exact h9
    have hD : va_D A (XW cI cZ d (su σ 8 (tw s0) (σ 8 (tw s0) - 2)) κ) := by have h9 : va_D A (XW cI cZ d (su σ 8 (tw s0) (σ 8 (tw s0) - 2)) κ ++ []) := hD; rw [List.append_nil] at h9; exact h9
    show W p l e ({ frames := 3, cells := 0, slots := 0, locals := 64 } : Room) s m args below meth c H locs 0 0 (MQ below (gQ D (tyXs cI cZ) (fun κ' => XW cI cZ d (xPrune σ s0 c0) κ') A (fun _ => some (.int (iI (prA σ s0 c0)))) (fun κ' => True)) args s 0 0 A) (F0 m 17 ls [])
    refine lv_aload_n hx hb dX1_pruneAt_17 rfl (lv_at hl 0 rfl) ?_
    refine lv_iload_n hx hb dX1_pruneAt_18 rfl (lv_at hl 1 rfl) ?_
    have hPc : va_P D vwCl (XW cI cZ d (su σ 8 (tw s0) (σ 8 (tw s0) - 2)) κ ++ []) H := by rw [List.append_nil]; exact hP
    have hDc : va_D A (XW cI cZ d (su σ 8 (tw s0) (σ 8 (tw s0) - 2)) κ ++ []) := by rw [List.append_nil]; exact hD
    refine g_call (va_runV (As := [.int (iI (s0))]) (rest := []) S ((kX1_lookAt l D cI cZ d (su σ 8 (tw s0) (σ 8 (tw s0) - 2)) κ s0 (by first | assumption | omega) (by first | assumption | omega) (xWF_sp hwf (by decide) (by omega))) H.size) (cwV 1 hts gX1_pruneAt_X1_lookAt rfl rfl rfl (by decide +kernel) ⟨Nat.le_of_ble_eq_true rfl, Nat.le_of_ble_eq_true rfl⟩) (g_preV xEx_g hK [0, 1] rfl hPc hDc (fun U _ hW => xEx_w hW hE) (q0 := 0) (ci := 1) rfl rfl rfl) rfl rfl hl.1 rfl (lv_room (Nat.le_of_ble_eq_true rfl)) dX1_pruneAt_19 ⟨Nat.le_of_ble_eq_true rfl, Nat.le_of_ble_eq_true rfl⟩) hPc hDc hS hA (fun κ9 H locs hk hP hD hS => ?_)
    have hk : su (su (su (su κ 0 0 (σ 6 s0)) 0 2 (σ 5 s0)) 0 3 (σ 7 s0)) 0 1 (lkh (su σ 8 (tw s0) (σ 8 (tw s0) - 2)) s0) = κ9 := hk.symm
    subst hk
    have hP : va_P D vwCl (XW cI cZ d (su σ 8 (tw s0) (σ 8 (tw s0) - 2)) (su (su (su (su κ 0 0 (σ 6 s0)) 0 2 (σ 5 s0)) 0 3 (σ 7 s0)) 0 1 (lkh (su σ 8 (tw s0) (σ 8 (tw s0) - 2)) s0))) H := by have h9 : va_P D vwCl (XW cI cZ d (su σ 8 (tw s0) (σ 8 (tw s0) - 2)) (su (su (su (su κ 0 0 (σ 6 s0)) 0 2 (σ 5 s0)) 0 3 (σ 7 s0)) 0 1 (lkh (su σ 8 (tw s0) (σ 8 (tw s0) - 2)) s0)) ++ []) H := hP; rw [List.append_nil] at h9; exact h9
    have hD : va_D A (XW cI cZ d (su σ 8 (tw s0) (σ 8 (tw s0) - 2)) (su (su (su (su κ 0 0 (σ 6 s0)) 0 2 (σ 5 s0)) 0 3 (σ 7 s0)) 0 1 (lkh (su σ 8 (tw s0) (σ 8 (tw s0) - 2)) s0))) := by have h9 : va_D A (XW cI cZ d (su σ 8 (tw s0) (σ 8 (tw s0) - 2)) (su (su (su (su κ 0 0 (σ 6 s0)) 0 2 (σ 5 s0)) 0 3 (σ 7 s0)) 0 1 (lkh (su σ 8 (tw s0) (σ 8 (tw s0) - 2)) s0)) ++ []) := hD; rw [List.append_nil] at h9; exact h9
    show W p l e ({ frames := 3, cells := 0, slots := 0, locals := 64 } : Room) s m args below meth c H locs 0 0 (MQ below (gQ D (tyXs cI cZ) (fun κ' => XW cI cZ d (xPrune σ s0 c0) κ') A (fun _ => some (.int (iI (prA σ s0 c0)))) (fun κ' => True)) args s 0 0 A) (F0 m 22 ls [])
    refine lv_aload_n hx hb dX1_pruneAt_22 rfl (lv_at hl 0 rfl) ?_
    refine va_get (D := D) (ci := 1) (v := .ref (d 10)) (C := RX1) (T := TX1) (N := 13) hx hb hts hinX1 hown hK hP 0 rfl rfl 11 (by decide) (hts (.fieldLink RX1 48 "TwinOrchard" "looked" "LTwinOrchard$Tree;") (List.mem_of_getElem? (i := 1) rfl)) (fun _ h9 => h9) rfl dX1_pruneAt_23 ?_
    refine lv_iload_n hx hb dX1_pruneAt_26 rfl (lv_at hl 2 rfl) ?_
    have hPc : va_P D vwCl (XW cI cZ d (su σ 8 (tw s0) (σ 8 (tw s0) - 2)) (su (su (su (su κ 0 0 (σ 6 s0)) 0 2 (σ 5 s0)) 0 3 (σ 7 s0)) 0 1 (lkh (su σ 8 (tw s0) (σ 8 (tw s0) - 2)) s0)) ++ []) H := by rw [List.append_nil]; exact hP
    have hDc : va_D A (XW cI cZ d (su σ 8 (tw s0) (σ 8 (tw s0) - 2)) (su (su (su (su κ 0 0 (σ 6 s0)) 0 2 (σ 5 s0)) 0 3 (σ 7 s0)) 0 1 (lkh (su σ 8 (tw s0) (σ 8 (tw s0) - 2)) s0)) ++ []) := by rw [List.append_nil]; exact hD
    refine g_call (va_runVN (As := [.int (iI (c0))]) (rest := []) S ((kX0_shorten l D cI cZ d (su σ 8 (tw s0) (σ 8 (tw s0) - 2)) (su (su (su (su κ 0 0 (σ 6 s0)) 0 2 (σ 5 s0)) 0 3 (σ 7 s0)) 0 1 (lkh (su σ 8 (tw s0) (σ 8 (tw s0) - 2)) s0)) c0 ) H.size) ⟨va_cnB 1 hts gX1_pruneAt_X0_shorten_n215 rfl rfl rfl (va_Nw.of (A := #[]) rfl (xEx_u hE 1 rfl rfl)) (hts (.initialized RX0) (List.mem_of_getElem? (i := 33) rfl)) (by decide +kernel) ⟨Nat.le_of_ble_eq_true rfl, Nat.le_of_ble_eq_true rfl⟩, (hts _ (List.mem_of_getElem? (i := 32) rfl)), (hts _ (List.mem_of_getElem? (i := 34) rfl))⟩ (g_preV xEx_g hK [0, 1] rfl hPc hDc (fun U _ hW => xEx_w hW hE) (q0 := 10) (ci := 0) rfl rfl rfl) rfl rfl hl.1 rfl (lv_room (Nat.le_of_ble_eq_true rfl)) dX1_pruneAt_27 ⟨Nat.le_of_ble_eq_true rfl, Nat.le_of_ble_eq_true rfl⟩) hPc hDc hS hA (fun κ9 H locs hk hP hD hS => ?_)
    have hk : su (su (su (su (su (su κ 0 0 (σ 6 s0)) 0 2 (σ 5 s0)) 0 3 (σ 7 s0)) 0 1 (lkh (su σ 8 (tw s0) (σ 8 (tw s0) - 2)) s0)) 0 2 ((σ 5 s0) - c0)) 0 3 (0) = κ9 := hk.symm
    subst hk
    have hP : va_P D vwCl (XW cI cZ d (su σ 8 (tw s0) (σ 8 (tw s0) - 2)) (su (su (su (su (su (su κ 0 0 (σ 6 s0)) 0 2 (σ 5 s0)) 0 3 (σ 7 s0)) 0 1 (lkh (su σ 8 (tw s0) (σ 8 (tw s0) - 2)) s0)) 0 2 ((σ 5 s0) - c0)) 0 3 (0))) H := by have h9 : va_P D vwCl (XW cI cZ d (su σ 8 (tw s0) (σ 8 (tw s0) - 2)) (su (su (su (su (su (su κ 0 0 (σ 6 s0)) 0 2 (σ 5 s0)) 0 3 (σ 7 s0)) 0 1 (lkh (su σ 8 (tw s0) (σ 8 (tw s0) - 2)) s0)) 0 2 ((σ 5 s0) - c0)) 0 3 (0)) ++ []) H := hP; rw [List.append_nil] at h9; exact h9
    have hD : va_D A (XW cI cZ d (su σ 8 (tw s0) (σ 8 (tw s0) - 2)) (su (su (su (su (su (su κ 0 0 (σ 6 s0)) 0 2 (σ 5 s0)) 0 3 (σ 7 s0)) 0 1 (lkh (su σ 8 (tw s0) (σ 8 (tw s0) - 2)) s0)) 0 2 ((σ 5 s0) - c0)) 0 3 (0))) := by have h9 : va_D A (XW cI cZ d (su σ 8 (tw s0) (σ 8 (tw s0) - 2)) (su (su (su (su (su (su κ 0 0 (σ 6 s0)) 0 2 (σ 5 s0)) 0 3 (σ 7 s0)) 0 1 (lkh (su σ 8 (tw s0) (σ 8 (tw s0) - 2)) s0)) 0 2 ((σ 5 s0) - c0)) 0 3 (0)) ++ []) := hD; rw [List.append_nil] at h9; exact h9
    show W p l e ({ frames := 3, cells := 0, slots := 0, locals := 64 } : Room) s m args below meth c H locs 0 0 (MQ below (gQ D (tyXs cI cZ) (fun κ' => XW cI cZ d (xPrune σ s0 c0) κ') A (fun _ => some (.int (iI (prA σ s0 c0)))) (fun κ' => True)) args s 0 0 A) (F0 m 30 ls [])
    refine lv_aload_n hx hb dX1_pruneAt_30 rfl (lv_at hl 0 rfl) ?_
    refine lv_iload_n hx hb dX1_pruneAt_31 rfl (lv_at hl 1 rfl) ?_
    have hPc : va_P D vwCl (XW cI cZ d (su σ 8 (tw s0) (σ 8 (tw s0) - 2)) (su (su (su (su (su (su κ 0 0 (σ 6 s0)) 0 2 (σ 5 s0)) 0 3 (σ 7 s0)) 0 1 (lkh (su σ 8 (tw s0) (σ 8 (tw s0) - 2)) s0)) 0 2 ((σ 5 s0) - c0)) 0 3 (0)) ++ []) H := by rw [List.append_nil]; exact hP
    have hDc : va_D A (XW cI cZ d (su σ 8 (tw s0) (σ 8 (tw s0) - 2)) (su (su (su (su (su (su κ 0 0 (σ 6 s0)) 0 2 (σ 5 s0)) 0 3 (σ 7 s0)) 0 1 (lkh (su σ 8 (tw s0) (σ 8 (tw s0) - 2)) s0)) 0 2 ((σ 5 s0) - c0)) 0 3 (0)) ++ []) := by rw [List.append_nil]; exact hD
    refine g_call (va_runV (As := [.int (iI (s0))]) (rest := []) S ((kX1_keepLooked l D cI cZ d (su σ 8 (tw s0) (σ 8 (tw s0) - 2)) (su (su (su (su (su (su κ 0 0 (σ 6 s0)) 0 2 (σ 5 s0)) 0 3 (σ 7 s0)) 0 1 (lkh (su σ 8 (tw s0) (σ 8 (tw s0) - 2)) s0)) 0 2 ((σ 5 s0) - c0)) 0 3 (0)) s0 (by first | assumption | omega) (by first | assumption | omega) (by show (0 : Int) ≤ 0 ∧ (0 : Int) ≤ 1; decide)) H.size) (cwV 1 hts gX1_pruneAt_X1_keepLooked rfl rfl rfl (by decide +kernel) ⟨Nat.le_of_ble_eq_true rfl, Nat.le_of_ble_eq_true rfl⟩) (g_preV xEx_g hK [0, 1] rfl hPc hDc (fun U _ hW => xEx_w hW hE) (q0 := 0) (ci := 1) rfl rfl rfl) rfl rfl hl.1 rfl (lv_room (Nat.le_of_ble_eq_true rfl)) dX1_pruneAt_32 ⟨Nat.le_of_ble_eq_true rfl, Nat.le_of_ble_eq_true rfl⟩) hPc hDc hS hA (fun κ9 H locs hk hP hD hS => ?_)
    have hk : su (su (su (su (su (su κ 0 0 (σ 6 s0)) 0 2 (σ 5 s0)) 0 3 (σ 7 s0)) 0 1 (lkh (su σ 8 (tw s0) (σ 8 (tw s0) - 2)) s0)) 0 2 ((σ 5 s0) - c0)) 0 3 (0) = κ9 := hk.symm
    subst hk
    have hP : va_P D vwCl (XW cI cZ d (su (su (su σ 8 (tw s0) (σ 8 (tw s0) - 2)) 5 s0 ((σ 5 s0) - c0)) 7 s0 (0)) (su (su (su (su (su (su κ 0 0 (σ 6 s0)) 0 2 (σ 5 s0)) 0 3 (σ 7 s0)) 0 1 (lkh (su σ 8 (tw s0) (σ 8 (tw s0) - 2)) s0)) 0 2 ((σ 5 s0) - c0)) 0 3 (0))) H := by have h9 : va_P D vwCl (XW cI cZ d (su (su (su σ 8 (tw s0) (σ 8 (tw s0) - 2)) 5 s0 ((σ 5 s0) - c0)) 7 s0 (0)) (su (su (su (su (su (su κ 0 0 (σ 6 s0)) 0 2 (σ 5 s0)) 0 3 (σ 7 s0)) 0 1 (lkh (su σ 8 (tw s0) (σ 8 (tw s0) - 2)) s0)) 0 2 ((σ 5 s0) - c0)) 0 3 (0)) ++ []) H := hP; rw [List.append_nil] at h9; exact h9
    have hD : va_D A (XW cI cZ d (su (su (su σ 8 (tw s0) (σ 8 (tw s0) - 2)) 5 s0 ((σ 5 s0) - c0)) 7 s0 (0)) (su (su (su (su (su (su κ 0 0 (σ 6 s0)) 0 2 (σ 5 s0)) 0 3 (σ 7 s0)) 0 1 (lkh (su σ 8 (tw s0) (σ 8 (tw s0) - 2)) s0)) 0 2 ((σ 5 s0) - c0)) 0 3 (0))) := by have h9 : va_D A (XW cI cZ d (su (su (su σ 8 (tw s0) (σ 8 (tw s0) - 2)) 5 s0 ((σ 5 s0) - c0)) 7 s0 (0)) (su (su (su (su (su (su κ 0 0 (σ 6 s0)) 0 2 (σ 5 s0)) 0 3 (σ 7 s0)) 0 1 (lkh (su σ 8 (tw s0) (σ 8 (tw s0) - 2)) s0)) 0 2 ((σ 5 s0) - c0)) 0 3 (0)) ++ []) := hD; rw [List.append_nil] at h9; exact h9
    show W p l e ({ frames := 3, cells := 0, slots := 0, locals := 64 } : Room) s m args below meth c H locs 0 0 (MQ below (gQ D (tyXs cI cZ) (fun κ' => XW cI cZ d (xPrune σ s0 c0) κ') A (fun _ => some (.int (iI (prA σ s0 c0)))) (fun κ' => True)) args s 0 0 A) (F0 m 35 ls [])
    refine lv_iconst (v := iI (1)) hx hb dX1_pruneAt_35 rfl ?_
    have es : (xPrune σ s0 c0) = (su (su (su σ 8 (tw s0) (σ 8 (tw s0) - 2)) 5 s0 ((σ 5 s0) - c0)) 7 s0 (0)) := by unfold xPrune; first | (rw [if_neg (by omega)]; done) | (rw [if_pos (by omega)]; rfl)
    have er : ((prA σ s0 c0 : Int)) = (1) := by unfold prA; first | (rw [bI_t (by omega)]; done) | (rw [bI_f (by omega)]; done)
    exact g_iret (wo := (fun κ' => XW cI cZ d (xPrune σ s0 c0) κ')) (kr := (fun κ' => True)) (rv := (fun _ => some (.int (iI (prA σ s0 c0))))) hx hb hr hlocks (su (su (su (su (su (su κ 0 0 (σ 6 s0)) 0 2 (σ 5 s0)) 0 3 (σ 7 s0)) 0 1 (lkh (su σ 8 (tw s0) (σ 8 (tw s0) - 2)) s0)) 0 2 ((σ 5 s0) - c0)) 0 3 (0)) (nar_z (Or.inr rfl)) (by rw [es]; exact hP) hK (by rw [es]; exact hD) hS trivial (by rw [er]) (Nat.le_of_ble_eq_true rfl) (Nat.le_of_ble_eq_true rfl) dX1_pruneAt_36
  · skip
    refine lv_iconst (v := iI (0)) hx hb dX1_pruneAt_9 rfl ?_
    have es : (xPrune σ s0 c0) = (σ) := by unfold xPrune; first | (rw [if_neg (by omega)]; done) | (rw [if_pos (by omega)]; rfl)
    have er : ((prA σ s0 c0 : Int)) = (0) := by unfold prA; first | (rw [bI_t (by omega)]; done) | (rw [bI_f (by omega)]; done)
    exact g_iret (wo := (fun κ' => XW cI cZ d (xPrune σ s0 c0) κ')) (kr := (fun κ' => True)) (rv := (fun _ => some (.int (iI (prA σ s0 c0))))) hx hb hr hlocks κ (nar_z (Or.inl rfl)) (by rw [es]; exact hP) hK (by rw [es]; exact hD) hS trivial (by rw [er]) (Nat.le_of_ble_eq_true rfl) (Nat.le_of_ble_eq_true rfl) dX1_pruneAt_10
set_option maxHeartbeats 4000000 in
set_option maxRecDepth 100000 in
theorem kX1_liveLooked (l : Launch) (D : va_G) (cI cZ : ClassId) (d : Nat → Nat) (σ κ : St)  (y0 : Int) (hwf : xWF σ) (hkw : kWF κ) (hy : 0 ≤ y0 ∧ y0 ≤ 30) : gMet l yX1_liveLooked wsX1_liveLooked ({ frames := 3, cells := 0, slots := 0, locals := 68 } : Room) D (tyXs cI cZ) (XW cI cZ d σ κ) [.ref (d 0), .int (iI y0)] xEx (fun _ => some (.int (iI (lvS σ (κ 0 0) (κ 0 1) (κ 0 2) (κ 0 3) y0)))) (fun κ' => κ' 0 0 = κ 0 0 ∧ κ' 0 1 = κ 0 1 ∧ κ' 0 2 = lvB σ (κ 0 0) (κ 0 1) (κ 0 2) (κ 0 3) y0 ∧ κ' 0 3 = lvT σ (κ 0 0) (κ 0 1) (κ 0 2) (κ 0 3) y0) (fun κ' => XW cI cZ d σ κ') := by
  refine g_start (cc := cX1_liveLooked) (maxL := 4) (ret := (some .int)) (by decide) rfl (Nat.le_of_ble_eq_true rfl) ?_
  intro p e s m args below meth c A ls H locs S hr hlocks hname hP hK hD hA hS hE hl
  have S0 := S
  obtain ⟨hx, hb, hml, hown, hts⟩ := S0
  have hl : lv_has ls 4 [(0, .ref (d 0)), (1, .int (iI (y0)))] := hl
  have hinX0 : ∀ w ∈ wsX00, w ∈ wsX1_liveLooked := by decide +kernel
  have hinX1 : ∀ w ∈ wsX10, w ∈ wsX1_liveLooked := by decide +kernel
  have k9 := xWF_9 hwf
  refine lv_iconst (v := iI (0)) hx hb dX1_liveLooked_0 rfl ?_
  refine lv_istore_n (lv' := [(2, .int (iI (0))), (0, .ref (d 0)), (1, .int (iI (y0)))]) hx hb dX1_liveLooked_1 rfl hl (by decide) rfl (fun ls hl => ?_)
  refine lv_iconst (v := iI (0)) hx hb dX1_liveLooked_2 rfl ?_
  refine lv_istore_n (lv' := [(3, .int (iI (0))), (2, .int (iI (0))), (0, .ref (d 0)), (1, .int (iI (y0)))]) hx hb dX1_liveLooked_3 rfl hl (by decide) rfl (fun ls hl => ?_)
  have loop4 : ∀ (n4 : Nat) (i a : Int) (κ_4 : St), (0 ≤ i) → (i ≤ y0) → (y0 - i < (n4 : Int)) → (a = lvS σ (κ 0 0) (κ 0 1) (κ 0 2) (κ 0 3) i) → (κ_4 0 0 = κ 0 0 ∧ κ_4 0 1 = κ 0 1 ∧ κ_4 0 2 = lvB σ (κ 0 0) (κ 0 1) (κ 0 2) (κ 0 3) i ∧ κ_4 0 3 = lvT σ (κ 0 0) (κ 0 1) (κ 0 2) (κ 0 3) i) → ∀ (H : Heap) (locs : List Loc) (ls : Array Slot), va_P D vwCl (XW cI cZ d σ κ_4) H → va_D A (XW cI cZ d σ κ_4) → va_S A s.heap H locs → lv_has ls 4 [(3, .int (iI (i))), (2, .int (iI (a))), (0, .ref (d 0)), (1, .int (iI (y0)))] → W p l e ({ frames := 3, cells := 0, slots := 0, locals := 68 } : Room) s m args below meth c H locs 0 0 (MQ below (gQ D (tyXs cI cZ) (fun κ' => XW cI cZ d σ κ') A (fun _ => some (.int (iI (lvS σ (κ 0 0) (κ 0 1) (κ 0 2) (κ 0 3) y0)))) (fun κ' => κ' 0 0 = κ 0 0 ∧ κ' 0 1 = κ 0 1 ∧ κ' 0 2 = lvB σ (κ 0 0) (κ 0 1) (κ 0 2) (κ 0 3) y0 ∧ κ' 0 3 = lvT σ (κ 0 0) (κ 0 1) (κ 0 2) (κ 0 3) y0)) args s 0 0 A) (F0 m 4 ls []) := by
    intro n4
    induction n4 with
    | zero =>
      intro i a κ_4 hlo4 hhi4 hm4
      omega
    | succ n4 ih4 =>
      intro i a κ_4 hlo4 hhi4 hm4 ia ik H locs ls hP hD hS hl
      obtain ⟨q1, q2, q3, q4⟩ := id ik
      have kk : kWF κ_4 := by obtain ⟨w1, w2, w3, w4⟩ := id hkw; exact ⟨by rw [q1]; exact w1, by rw [q2]; exact w2, by rw [q3]; exact lvB_in σ _ _ _ w3, by rw [q4]; exact lvT_in σ _ _ _ _ w4⟩
      refine lv_iload_n hx hb dX1_liveLooked_4 rfl (lv_at hl 0 rfl) ?_
      refine lv_iload_n hx hb dX1_liveLooked_5 rfl (lv_at hl 3 rfl) ?_
      refine gi_icmp_ge (tgt := 41) hx hb dX1_liveLooked_6 (by decide) ⟨by omega, by omega⟩ ⟨by omega, by omega⟩ (fun c6 => ?_) (fun c6 => ?_)
      · skip
        refine lv_iload_n hx hb dX1_liveLooked_41 rfl (lv_at hl 1 rfl) ?_
        have er : ((lvS σ (κ 0 0) (κ 0 1) (κ 0 2) (κ 0 3) y0 : Int)) = (a) := by rw [ia, show i = y0 by omega]
        exact g_iret (wo := (fun κ' => XW cI cZ d σ κ')) (kr := (fun κ' => κ' 0 0 = κ 0 0 ∧ κ' 0 1 = κ 0 1 ∧ κ' 0 2 = lvB σ (κ 0 0) (κ 0 1) (κ 0 2) (κ 0 3) y0 ∧ κ' 0 3 = lvT σ (κ 0 0) (κ 0 1) (κ 0 2) (κ 0 3) y0)) (rv := (fun _ => some (.int (iI (lvS σ (κ 0 0) (κ 0 1) (κ 0 2) (κ 0 3) y0))))) hx hb hr hlocks κ_4 rfl hP hK hD hS (by rw [show i = y0 by omega] at q3 q4; exact ⟨q1, q2, q3, q4⟩) (by rw [er]) (Nat.le_of_ble_eq_true rfl) (Nat.le_of_ble_eq_true rfl) dX1_liveLooked_42
      · skip
        refine lv_iload_n hx hb dX1_liveLooked_9 rfl (lv_at hl 1 rfl) ?_
        refine lv_aload_n hx hb dX1_liveLooked_10 rfl (lv_at hl 2 rfl) ?_
        refine va_get (D := D) (ci := 1) (v := .ref (d 10)) (C := RX1) (T := TX1) (N := 13) hx hb hts hinX1 hown hK hP 0 rfl rfl 11 (by decide) (hts (.fieldLink RX1 48 "TwinOrchard" "looked" "LTwinOrchard$Tree;") (List.mem_of_getElem? (i := 1) rfl)) (fun _ h9 => h9) rfl dX1_liveLooked_11 ?_
        refine lv_aload_n hx hb dX1_liveLooked_14 rfl (lv_at hl 2 rfl) ?_
        refine va_get (D := D) (ci := 1) (v := .ref (d 4)) (C := RX1) (T := TX1) (N := 13) hx hb hts hinX1 hown hK hP 0 rfl rfl 3 (by decide) (hts (.fieldLink RX1 19 "TwinOrchard" "frosts" "[I") (List.mem_of_getElem? (i := 2) rfl)) (fun _ h9 => h9) rfl dX1_liveLooked_15 ?_
        refine lv_aload_n hx hb dX1_liveLooked_18 rfl (lv_at hl 2 rfl) ?_
        refine va_get (D := D) (ci := 1) (v := .int (iI (σ 9 0))) (C := RX1) (T := TX1) (N := 13) hx hb hts hinX1 hown hK hP 0 rfl rfl 9 (by decide) (hts (.fieldLink RX1 38 "TwinOrchard" "year" "I") (List.mem_of_getElem? (i := 3) rfl)) (fun _ h9 => h9) rfl dX1_liveLooked_19 ?_
        refine lv_iload_n hx hb dX1_liveLooked_22 rfl (lv_at hl 0 rfl) ?_
        refine gi_add hx hb dX1_liveLooked_23 ?_
        refine lv_bipush (v := iI (10)) hx hb dX1_liveLooked_24 rfl ?_
        have hPc : va_P D vwCl ([] ++ XW cI cZ d σ κ_4) H := hP
        have hDc : va_D A ([] ++ XW cI cZ d σ κ_4) := hD
        refine g_call (va_runS (As := [.int (iI ((σ 9 0) + i)), .int (iI (10))]) (rest := [.ref (d 4), .ref (d 10), .int (iI (a))]) S ((kJ9_floorMod_7cf53 l D  ((σ 9 0) + i) 10 (by first | assumption | omega) (by first | assumption | omega)) H.size) (va_cwS 2 hts gX1_liveLooked_J9_floorMod_7cf53 rfl rfl rfl (by decide +kernel) ⟨Nat.le_of_ble_eq_true rfl, Nat.le_of_ble_eq_true rfl⟩) (g_preS gEx_t hK [] rfl hPc hDc (fun _ _ _ => trivial)) rfl rfl hl.1 rfl (lv_room (Nat.le_of_ble_eq_true rfl)) dX1_liveLooked_26 ⟨Nat.le_of_ble_eq_true rfl, Nat.le_of_ble_eq_true rfl⟩) hPc hDc hS hA (fun κ9 H locs hk hP hD hS => ?_)
        have hP : va_P D vwCl (XW cI cZ d σ κ_4) H := hP
        have hD : va_D A (XW cI cZ d σ κ_4) := hD
        show W p l e ({ frames := 3, cells := 0, slots := 0, locals := 68 } : Room) s m args below meth c H locs 0 0 (MQ below (gQ D (tyXs cI cZ) (fun κ' => XW cI cZ d σ κ') A (fun _ => some (.int (iI (lvS σ (κ 0 0) (κ 0 1) (κ 0 2) (κ 0 3) y0)))) (fun κ' => κ' 0 0 = κ 0 0 ∧ κ' 0 1 = κ 0 1 ∧ κ' 0 2 = lvB σ (κ 0 0) (κ 0 1) (κ 0 2) (κ 0 3) y0 ∧ κ' 0 3 = lvT σ (κ 0 0) (κ 0 1) (κ 0 2) (κ 0 3) y0)) args s 0 0 A) (F0 m 29 ls [.int (iI (((σ 9 0) + i) % 10)), .ref (d 4), .ref (d 10), .int (iI (a))])
        refine gi_iald (a := d 4) (n := 10) (f := σ 3) hx hb hK hP 4 0 rfl rfl (by omega) (by omega) (by decide) dX1_liveLooked_29 ?_
        have hPc : va_P D vwCl (XW cI cZ d σ κ_4 ++ []) H := by rw [List.append_nil]; exact hP
        have hDc : va_D A (XW cI cZ d σ κ_4 ++ []) := by rw [List.append_nil]; exact hD
        refine g_call (va_runVN (As := [.int (iI (σ 3 (((σ 9 0) + i) % 10)))]) (rest := [.int (iI (a))]) S ((kX0_liveYear l D cI cZ d σ κ_4 (σ 3 (((σ 9 0) + i) % 10)) kk (xWF_3 hwf _)) H.size) ⟨va_cnB 1 hts gX1_liveLooked_X0_liveYear_n243 rfl rfl rfl (va_Nw.of (A := #[]) rfl (xEx_u hE 3 rfl rfl)) (hts (.initialized RX0) (List.mem_of_getElem? (i := 9) rfl)) (by decide +kernel) ⟨Nat.le_of_ble_eq_true rfl, Nat.le_of_ble_eq_true rfl⟩, (hts _ (List.mem_of_getElem? (i := 8) rfl)), (hts _ (List.mem_of_getElem? (i := 10) rfl))⟩ (g_preV xEx_g hK [0, 1] rfl hPc hDc (fun U _ hW => xEx_w hW hE) (q0 := 10) (ci := 0) rfl rfl rfl) rfl rfl hl.1 rfl (lv_room (Nat.le_of_ble_eq_true rfl)) dX1_liveLooked_30 ⟨Nat.le_of_ble_eq_true rfl, Nat.le_of_ble_eq_true rfl⟩) hPc hDc hS hA (fun κ9 H locs hk hP hD hS => ?_)
        have hk : su (su (su κ_4 0 2 (yfz (σ 3 (((σ 9 0) + i) % 10)) (κ_4 0 1) (κ_4 0 2))) 0 3 (bI (20 ≤ yap (κ_4 0 0) (σ 3 (((σ 9 0) + i) % 10)) (κ_4 0 1) (κ_4 0 2) (κ_4 0 3)))) 0 2 (yb (κ_4 0 0) (σ 3 (((σ 9 0) + i) % 10)) (κ_4 0 1) (κ_4 0 2)) = κ9 := hk.symm
        subst hk
        have hP : va_P D vwCl (XW cI cZ d σ (su (su (su κ_4 0 2 (yfz (σ 3 (((σ 9 0) + i) % 10)) (κ_4 0 1) (κ_4 0 2))) 0 3 (bI (20 ≤ yap (κ_4 0 0) (σ 3 (((σ 9 0) + i) % 10)) (κ_4 0 1) (κ_4 0 2) (κ_4 0 3)))) 0 2 (yb (κ_4 0 0) (σ 3 (((σ 9 0) + i) % 10)) (κ_4 0 1) (κ_4 0 2)))) H := by have h9 : va_P D vwCl (XW cI cZ d σ (su (su (su κ_4 0 2 (yfz (σ 3 (((σ 9 0) + i) % 10)) (κ_4 0 1) (κ_4 0 2))) 0 3 (bI (20 ≤ yap (κ_4 0 0) (σ 3 (((σ 9 0) + i) % 10)) (κ_4 0 1) (κ_4 0 2) (κ_4 0 3)))) 0 2 (yb (κ_4 0 0) (σ 3 (((σ 9 0) + i) % 10)) (κ_4 0 1) (κ_4 0 2))) ++ []) H := hP; rw [List.append_nil] at h9; exact h9
        have hD : va_D A (XW cI cZ d σ (su (su (su κ_4 0 2 (yfz (σ 3 (((σ 9 0) + i) % 10)) (κ_4 0 1) (κ_4 0 2))) 0 3 (bI (20 ≤ yap (κ_4 0 0) (σ 3 (((σ 9 0) + i) % 10)) (κ_4 0 1) (κ_4 0 2) (κ_4 0 3)))) 0 2 (yb (κ_4 0 0) (σ 3 (((σ 9 0) + i) % 10)) (κ_4 0 1) (κ_4 0 2)))) := by have h9 : va_D A (XW cI cZ d σ (su (su (su κ_4 0 2 (yfz (σ 3 (((σ 9 0) + i) % 10)) (κ_4 0 1) (κ_4 0 2))) 0 3 (bI (20 ≤ yap (κ_4 0 0) (σ 3 (((σ 9 0) + i) % 10)) (κ_4 0 1) (κ_4 0 2) (κ_4 0 3)))) 0 2 (yb (κ_4 0 0) (σ 3 (((σ 9 0) + i) % 10)) (κ_4 0 1) (κ_4 0 2))) ++ []) := hD; rw [List.append_nil] at h9; exact h9
        show W p l e ({ frames := 3, cells := 0, slots := 0, locals := 68 } : Room) s m args below meth c H locs 0 0 (MQ below (gQ D (tyXs cI cZ) (fun κ' => XW cI cZ d σ κ') A (fun _ => some (.int (iI (lvS σ (κ 0 0) (κ 0 1) (κ 0 2) (κ 0 3) y0)))) (fun κ' => κ' 0 0 = κ 0 0 ∧ κ' 0 1 = κ 0 1 ∧ κ' 0 2 = lvB σ (κ 0 0) (κ 0 1) (κ 0 2) (κ 0 3) y0 ∧ κ' 0 3 = lvT σ (κ 0 0) (κ 0 1) (κ 0 2) (κ 0 3) y0)) args s 0 0 A) (F0 m 33 ls [.int (iI (yap (κ_4 0 0) (σ 3 (((σ 9 0) + i) % 10)) (κ_4 0 1) (κ_4 0 2) (κ_4 0 3))), .int (iI (a))])
        refine gi_add hx hb dX1_liveLooked_33 ?_
        refine lv_istore_n (lv' := [(2, .int (iI (a + (yap (κ_4 0 0) (σ 3 (((σ 9 0) + i) % 10)) (κ_4 0 1) (κ_4 0 2) (κ_4 0 3))))), (3, .int (iI (i))), (0, .ref (d 0)), (1, .int (iI (y0)))]) hx hb dX1_liveLooked_34 rfl hl (by decide) rfl (fun ls hl => ?_)
        refine lv_iinc (v := iI (i + 1)) (lv' := [(3, .int (iI (i + 1))), (2, .int (iI (a + (yap (κ_4 0 0) (σ 3 (((σ 9 0) + i) % 10)) (κ_4 0 1) (κ_4 0 2) (κ_4 0 3))))), (0, .ref (d 0)), (1, .int (iI (y0)))]) hx hb dX1_liveLooked_35 hl (k := 1) rfl (iI_add _ _) (by decide) rfl (fun ls hl => ?_)
        refine lv_goto (tgt := 4) hx hb dX1_liveLooked_38 (by decide) ?_
        exact ih4 (i + 1) (a + (yap (κ_4 0 0) (σ 3 (((σ 9 0) + i) % 10)) (κ_4 0 1) (κ_4 0 2) (κ_4 0 3))) (su (su (su κ_4 0 2 (yfz (σ 3 (((σ 9 0) + i) % 10)) (κ_4 0 1) (κ_4 0 2))) 0 3 (bI (20 ≤ yap (κ_4 0 0) (σ 3 (((σ 9 0) + i) % 10)) (κ_4 0 1) (κ_4 0 2) (κ_4 0 3)))) 0 2 (yb (κ_4 0 0) (σ 3 (((σ 9 0) + i) % 10)) (κ_4 0 1) (κ_4 0 2))) (by omega) (by omega) (by omega) (by rw [(lv_step σ _ _ _ _ hlo4).2.2, ia, q1, q2, q3, q4] <;> rfl) (by refine ⟨q1, q2, ?_, ?_⟩; (show yb (κ_4 0 0) (fr σ i) (κ_4 0 1) (κ_4 0 2) = _; rw [(lv_step σ _ _ _ _ hlo4).1, q1, q2, q3]); (show bI (20 ≤ yap (κ_4 0 0) (fr σ i) (κ_4 0 1) (κ_4 0 2) (κ_4 0 3)) = _; rw [(lv_step σ _ _ _ _ hlo4).2.1, q1, q2, q3, q4])) H locs ls hP hD hS (lv_sub hl [0, 1, 2, 3] rfl)
  exact loop4 (((y0 - (0) + 1 : Int)).toNat) 0 0 κ (by omega) (by omega) (by omega) (by rfl) (by exact ⟨rfl, rfl, rfl, rfl⟩) H locs ls hP hD hS (lv_sub hl [0, 1, 2, 3] rfl)
set_option maxHeartbeats 4000000 in
set_option maxRecDepth 100000 in
theorem kX1_passAt (l : Launch) (D : va_G) (cI cZ : ClassId) (d : Nat → Nat) (σ κ : St)  (s0 : Int) (y0 : Int) (h0 : 0 ≤ s0) (h1 : s0 < 40) (hwf : xWF σ) (hy : 0 ≤ y0 ∧ y0 ≤ 30) (hn : ¬ σ 4 s0 = -1) : gMet l yX1_passAt wsX1_passAt ({ frames := 4, cells := 0, slots := 0, locals := 91 } : Room) D (tyXs cI cZ) (XW cI cZ d σ κ) [.ref (d 0), .int (iI s0), .int (iI y0)] xEx (fun _ => some (.int (iI (lvS σ (σ 6 s0) (lkh σ s0) (σ 5 s0) (σ 7 s0) y0)))) (fun κ' => True) (fun κ' => XW cI cZ d (xPassA σ s0 y0) κ') := by
  refine g_start (cc := cX1_passAt) (maxL := 4) (ret := (some .int)) (by decide) rfl (Nat.le_of_ble_eq_true rfl) ?_
  intro p e s m args below meth c A ls H locs S hr hlocks hname hP hK hD hA hS hE hl
  have S0 := S
  obtain ⟨hx, hb, hml, hown, hts⟩ := S0
  have hl : lv_has ls 4 [(0, .ref (d 0)), (1, .int (iI (s0))), (2, .int (iI (y0)))] := hl
  have hinX0 : ∀ w ∈ wsX00, w ∈ wsX1_passAt := by decide +kernel
  have hinX1 : ∀ w ∈ wsX10, w ∈ wsX1_passAt := by decide +kernel
  have k4 := xWF_4 hwf s0
  refine lv_aload_n hx hb dX1_passAt_0 rfl (lv_at hl 0 rfl) ?_
  refine lv_iload_n hx hb dX1_passAt_1 rfl (lv_at hl 1 rfl) ?_
  have hPc : va_P D vwCl (XW cI cZ d σ κ ++ []) H := by rw [List.append_nil]; exact hP
  have hDc : va_D A (XW cI cZ d σ κ ++ []) := by rw [List.append_nil]; exact hD
  refine g_call (va_runV (As := [.int (iI (s0))]) (rest := []) S ((kX1_lookAt l D cI cZ d σ κ s0 (by first | assumption | omega) (by first | assumption | omega) (by first | assumption | omega)) H.size) (cwV 1 hts gX1_passAt_X1_lookAt rfl rfl rfl (by decide +kernel) ⟨Nat.le_of_ble_eq_true rfl, Nat.le_of_ble_eq_true rfl⟩) (g_preV xEx_g hK [0, 1] rfl hPc hDc (fun U _ hW => xEx_w hW hE) (q0 := 0) (ci := 1) rfl rfl rfl) rfl rfl hl.1 rfl (lv_room (Nat.le_of_ble_eq_true rfl)) dX1_passAt_2 ⟨Nat.le_of_ble_eq_true rfl, Nat.le_of_ble_eq_true rfl⟩) hPc hDc hS hA (fun κ9 H locs hk hP hD hS => ?_)
  have hk : su (su (su (su κ 0 0 (σ 6 s0)) 0 2 (σ 5 s0)) 0 3 (σ 7 s0)) 0 1 (lkh σ s0) = κ9 := hk.symm
  subst hk
  have hP : va_P D vwCl (XW cI cZ d σ (su (su (su (su κ 0 0 (σ 6 s0)) 0 2 (σ 5 s0)) 0 3 (σ 7 s0)) 0 1 (lkh σ s0))) H := by have h9 : va_P D vwCl (XW cI cZ d σ (su (su (su (su κ 0 0 (σ 6 s0)) 0 2 (σ 5 s0)) 0 3 (σ 7 s0)) 0 1 (lkh σ s0)) ++ []) H := hP; rw [List.append_nil] at h9; exact h9
  have hD : va_D A (XW cI cZ d σ (su (su (su (su κ 0 0 (σ 6 s0)) 0 2 (σ 5 s0)) 0 3 (σ 7 s0)) 0 1 (lkh σ s0))) := by have h9 : va_D A (XW cI cZ d σ (su (su (su (su κ 0 0 (σ 6 s0)) 0 2 (σ 5 s0)) 0 3 (σ 7 s0)) 0 1 (lkh σ s0)) ++ []) := hD; rw [List.append_nil] at h9; exact h9
  show W p l e ({ frames := 4, cells := 0, slots := 0, locals := 91 } : Room) s m args below meth c H locs 0 0 (MQ below (gQ D (tyXs cI cZ) (fun κ' => XW cI cZ d (xPassA σ s0 y0) κ') A (fun _ => some (.int (iI (lvS σ (σ 6 s0) (lkh σ s0) (σ 5 s0) (σ 7 s0) y0)))) (fun κ' => True)) args s 0 0 A) (F0 m 5 ls [])
  refine lv_aload_n hx hb dX1_passAt_5 rfl (lv_at hl 0 rfl) ?_
  refine lv_iload_n hx hb dX1_passAt_6 rfl (lv_at hl 2 rfl) ?_
  have hPc : va_P D vwCl (XW cI cZ d σ (su (su (su (su κ 0 0 (σ 6 s0)) 0 2 (σ 5 s0)) 0 3 (σ 7 s0)) 0 1 (lkh σ s0)) ++ []) H := by rw [List.append_nil]; exact hP
  have hDc : va_D A (XW cI cZ d σ (su (su (su (su κ 0 0 (σ 6 s0)) 0 2 (σ 5 s0)) 0 3 (σ 7 s0)) 0 1 (lkh σ s0)) ++ []) := by rw [List.append_nil]; exact hD
  refine g_call (va_runV (As := [.int (iI (y0))]) (rest := []) S ((kX1_liveLooked l D cI cZ d σ (su (su (su (su κ 0 0 (σ 6 s0)) 0 2 (σ 5 s0)) 0 3 (σ 7 s0)) 0 1 (lkh σ s0)) y0 (by first | assumption | omega) (kWF_lk hwf s0) (by first | assumption | omega)) H.size) (cwV 1 hts gX1_passAt_X1_liveLooked rfl rfl rfl (by decide +kernel) ⟨Nat.le_of_ble_eq_true rfl, Nat.le_of_ble_eq_true rfl⟩) (g_preV xEx_g hK [0, 1] rfl hPc hDc (fun U _ hW => xEx_w hW hE) (q0 := 0) (ci := 1) rfl rfl rfl) rfl rfl hl.1 rfl (lv_room (Nat.le_of_ble_eq_true rfl)) dX1_passAt_7 ⟨Nat.le_of_ble_eq_true rfl, Nat.le_of_ble_eq_true rfl⟩) hPc hDc hS hA (fun κ9 H locs hk hP hD hS => ?_)
  obtain ⟨κ_1, rfl⟩ : ∃ z, z = κ9 := ⟨_, rfl⟩
  have hk7 : κ_1 0 0 = (σ 6 s0) ∧ κ_1 0 1 = (lkh σ s0) ∧ κ_1 0 2 = lvB σ (σ 6 s0) (lkh σ s0) (σ 5 s0) (σ 7 s0) y0 ∧ κ_1 0 3 = lvT σ (σ 6 s0) (lkh σ s0) (σ 5 s0) (σ 7 s0) y0 := hk
  have hP : va_P D vwCl (XW cI cZ d σ κ_1) H := by have h9 : va_P D vwCl (XW cI cZ d σ κ_1 ++ []) H := hP; rw [List.append_nil] at h9; exact h9
  have hD : va_D A (XW cI cZ d σ κ_1) := by have h9 : va_D A (XW cI cZ d σ κ_1 ++ []) := hD; rw [List.append_nil] at h9; exact h9
  show W p l e ({ frames := 4, cells := 0, slots := 0, locals := 91 } : Room) s m args below meth c H locs 0 0 (MQ below (gQ D (tyXs cI cZ) (fun κ' => XW cI cZ d (xPassA σ s0 y0) κ') A (fun _ => some (.int (iI (lvS σ (σ 6 s0) (lkh σ s0) (σ 5 s0) (σ 7 s0) y0)))) (fun κ' => True)) args s 0 0 A) (F0 m 10 ls [.int (iI (lvS σ (σ 6 s0) (lkh σ s0) (σ 5 s0) (σ 7 s0) y0))])
  refine lv_istore_n (lv' := [(3, .int (iI (lvS σ (σ 6 s0) (lkh σ s0) (σ 5 s0) (σ 7 s0) y0))), (0, .ref (d 0)), (1, .int (iI (s0))), (2, .int (iI (y0)))]) hx hb dX1_passAt_10 rfl hl (by decide) rfl (fun ls hl => ?_)
  refine lv_aload_n hx hb dX1_passAt_11 rfl (lv_at hl 1 rfl) ?_
  refine lv_iload_n hx hb dX1_passAt_12 rfl (lv_at hl 2 rfl) ?_
  have hPc : va_P D vwCl (XW cI cZ d σ κ_1 ++ []) H := by rw [List.append_nil]; exact hP
  have hDc : va_D A (XW cI cZ d σ κ_1 ++ []) := by rw [List.append_nil]; exact hD
  refine g_call (va_runV (As := [.int (iI (s0))]) (rest := []) S ((kX1_keepLooked l D cI cZ d σ κ_1 s0 (by first | assumption | omega) (by first | assumption | omega) (by rw [hk7.2.2.2]; exact lvT_in σ _ _ _ _ (xWF_7 hwf s0))) H.size) (cwV 1 hts gX1_passAt_X1_keepLooked rfl rfl rfl (by decide +kernel) ⟨Nat.le_of_ble_eq_true rfl, Nat.le_of_ble_eq_true rfl⟩) (g_preV xEx_g hK [0, 1] rfl hPc hDc (fun U _ hW => xEx_w hW hE) (q0 := 0) (ci := 1) rfl rfl rfl) rfl rfl hl.1 rfl (lv_room (Nat.le_of_ble_eq_true rfl)) dX1_passAt_13 ⟨Nat.le_of_ble_eq_true rfl, Nat.le_of_ble_eq_true rfl⟩) hPc hDc hS hA (fun κ9 H locs hk hP hD hS => ?_)
  have hk : κ_1 = κ9 := hk.symm
  subst hk
  have hP : va_P D vwCl (XW cI cZ d (su (su σ 5 s0 (κ_1 0 2)) 7 s0 (κ_1 0 3)) κ_1) H := by have h9 : va_P D vwCl (XW cI cZ d (su (su σ 5 s0 (κ_1 0 2)) 7 s0 (κ_1 0 3)) κ_1 ++ []) H := hP; rw [List.append_nil] at h9; exact h9
  have hD : va_D A (XW cI cZ d (su (su σ 5 s0 (κ_1 0 2)) 7 s0 (κ_1 0 3)) κ_1) := by have h9 : va_D A (XW cI cZ d (su (su σ 5 s0 (κ_1 0 2)) 7 s0 (κ_1 0 3)) κ_1 ++ []) := hD; rw [List.append_nil] at h9; exact h9
  show W p l e ({ frames := 4, cells := 0, slots := 0, locals := 91 } : Room) s m args below meth c H locs 0 0 (MQ below (gQ D (tyXs cI cZ) (fun κ' => XW cI cZ d (xPassA σ s0 y0) κ') A (fun _ => some (.int (iI (lvS σ (σ 6 s0) (lkh σ s0) (σ 5 s0) (σ 7 s0) y0)))) (fun κ' => True)) args s 0 0 A) (F0 m 16 ls [])
  refine lv_aload_n hx hb dX1_passAt_16 rfl (lv_at hl 1 rfl) ?_
  refine va_get (D := D) (ci := 1) (v := .ref (d 3)) (C := RX1) (T := TX1) (N := 13) hx hb hts hinX1 hown hK hP 0 rfl rfl 2 (by decide) (hts (.fieldLink RX1 16 "TwinOrchard" "barn" "[I") (List.mem_of_getElem? (i := 1) rfl)) (fun _ h9 => h9) rfl dX1_passAt_17 ?_
  refine lv_aload_n hx hb dX1_passAt_20 rfl (lv_at hl 1 rfl) ?_
  refine va_get (D := D) (ci := 1) (v := .ref (d 5)) (C := RX1) (T := TX1) (N := 13) hx hb hts hinX1 hown hK hP 0 rfl rfl 4 (by decide) (hts (.fieldLink RX1 22 "TwinOrchard" "kinds" "[I") (List.mem_of_getElem? (i := 2) rfl)) (fun _ h9 => h9) rfl dX1_passAt_21 ?_
  refine lv_iload_n hx hb dX1_passAt_24 rfl (lv_at hl 2 rfl) ?_
  refine gi_iald (a := d 5) (n := 40) (f := (su (su σ 5 s0 (κ_1 0 2)) 7 s0 (κ_1 0 3)) 4) hx hb hK hP 5 0 rfl rfl (by omega) (by omega) (by decide) dX1_passAt_25 ?_
  rw [show ((su (su σ 5 s0 (κ_1 0 2)) 7 s0 (κ_1 0 3)) 4 s0) = (σ 4 s0) from by rfl]
  refine lv_dup2_11 hx hb dX1_passAt_26 rfl rfl ?_
  refine gi_iald (a := d 3) (n := 6) (f := (su (su σ 5 s0 (κ_1 0 2)) 7 s0 (κ_1 0 3)) 2) hx hb hK hP 3 0 rfl rfl (by omega) (by omega) (by decide) dX1_passAt_27 ?_
  rw [show ((su (su σ 5 s0 (κ_1 0 2)) 7 s0 (κ_1 0 3)) 2 (σ 4 s0)) = (σ 2 (σ 4 s0)) from by rfl]
  refine lv_iload_n hx hb dX1_passAt_28 rfl (lv_at hl 0 rfl) ?_
  refine gi_add hx hb dX1_passAt_29 ?_
  refine gi_iast (a := d 3) (n := 6) (f := (su (su σ 5 s0 (κ_1 0 2)) 7 s0 (κ_1 0 3)) 2) hx hb hK hP hD hS 3 0 rfl rfl (by omega) (by omega) (by decide) dX1_passAt_30 (fun H locs hP hD hS => ?_)
  have hP : va_P D vwCl (XW cI cZ d (su (su (su σ 5 s0 (κ_1 0 2)) 7 s0 (κ_1 0 3)) 2 (σ 4 s0) ((σ 2 (σ 4 s0)) + (lvS σ (σ 6 s0) (lkh σ s0) (σ 5 s0) (σ 7 s0) y0))) κ_1) H := hP
  have hD : va_D A (XW cI cZ d (su (su (su σ 5 s0 (κ_1 0 2)) 7 s0 (κ_1 0 3)) 2 (σ 4 s0) ((σ 2 (σ 4 s0)) + (lvS σ (σ 6 s0) (lkh σ s0) (σ 5 s0) (σ 7 s0) y0))) κ_1) := hD
  refine lv_iload_n hx hb dX1_passAt_31 rfl (lv_at hl 0 rfl) ?_
  have es : (xPassA σ s0 y0) = (su (su (su σ 5 s0 (κ_1 0 2)) 7 s0 (κ_1 0 3)) 2 (σ 4 s0) ((σ 2 (σ 4 s0)) + (lvS σ (σ 6 s0) (lkh σ s0) (σ 5 s0) (σ 7 s0) y0))) := by unfold xPassA; rw [hk7.2.2.1, hk7.2.2.2]
  exact g_iret (wo := (fun κ' => XW cI cZ d (xPassA σ s0 y0) κ')) (kr := (fun κ' => True)) (rv := (fun _ => some (.int (iI (lvS σ (σ 6 s0) (lkh σ s0) (σ 5 s0) (σ 7 s0) y0))))) hx hb hr hlocks κ_1 rfl (by rw [es]; exact hP) hK (by rw [es]; exact hD) hS trivial rfl (Nat.le_of_ble_eq_true rfl) (Nat.le_of_ble_eq_true rfl) dX1_passAt_32