set_option maxHeartbeats 4000000 in
set_option maxRecDepth 100000 in
theorem kX2_foresee (l : Launch) (D : va_G) (cI cZ cQ : ClassId) (d : Nat → Nat) (σ : St)  (y0 : Int) (w0 : Int) (hl_y0 : -2147483648 ≤ y0) (hh_y0 : y0 ≤ 2147483647) (hl_w0 : -2147483648 ≤ w0) (hh_w0 : w0 ≤ 2147483647) (hwf : mWF σ) (hbn : ∀ j, σ 4 j ≤ 90000000) (hyr : σ 5 2 ≤ 90000000) : gMet l yX2_foresee wsX2_foresee ({ frames := 4, cells := 5, slots := 215, locals := 92 } : Room) D (tyMs cI cZ cQ) (MW cI d σ) [.ref (d 0), .int (iI y0), .int (iI w0)] (mEx (MW cI d σ)) (fun _ => some (.int (iI (mVal (tForesee y0 w0) (mFore (mZ σ) y0 w0))))) (fun _ => True) (fun κ' => MW cI d (mRes (tForesee y0 w0) (mZ σ) σ)) := by
  refine g_startM (cc := cX2_foresee) (maxL := 6) (ret := (some .int)) (by decide) rfl (Nat.le_of_ble_eq_true rfl) ?_
  intro p e s m args below meth c A ls H locs S hr hlocks hname hP hK hD hA hS hE hl
  have S0 := S
  obtain ⟨hx, hb, hml, hown, hts⟩ := S0
  have hl : lv_has ls 6 [(0, .ref (d 0)), (1, .int (iI (y0))), (2, .int (iI (w0)))] := hl
  have hinX2 : ∀ w ∈ wsX20, w ∈ wsX2_foresee := by decide +kernel
  refine lv_aload_n hx hb dX2_foresee_0 rfl (lv_at hl 0 rfl) ?_
  refine lv_iconst (v := iI (0)) hx hb dX2_foresee_1 rfl ?_
  refine va_put (D := D) (ci := 2) (v := .int (iI (0))) (ty := .int) (C := RX2) (T := TX2) (N := 8) hx hb hts hinX2 tyX2 tyX2_ok nmX2 hown hK hP hD hS 0 rfl rfl 0 (by decide) (hts (.fieldLink RX2 28 "TwinOrchardModel" "thrown" "I") (List.mem_of_getElem? (i := 1) rfl)) (fun _ h9 => h9) rfl (by decide +kernel) rfl rfl (Nat.le_of_ble_eq_true rfl) dX2_foresee_2 (fun H locs hP hD hS => ?_)
  have hP : va_P D vwCl (MW cI d (su σ 6 0 (0))) H := hP
  have hD : va_D A (MW cI d (su σ 6 0 (0))) := hD
  refine lv_iload_n hx hb dX2_foresee_5 rfl (lv_at hl 1 rfl) ?_
  refine lv_iconst (v := iI (1)) hx hb dX2_foresee_6 rfl ?_
  refine lv_bipush (v := iI (30)) hx hb dX2_foresee_7 rfl ?_
  have hPc : va_P D vwCl ([] ++ (MW cI d (su σ 6 0 (0)))) H := hP
  have hDc : va_D A ([] ++ (MW cI d (su σ 6 0 (0)))) := hD
  refine g_call (va_runS (As := [.int (iI (y0)), .int (iI (1)), .int (iI (30))]) (rest := []) S ((kX2_isIn l D  y0 1 30 (by first | assumption | omega) (by first | assumption | omega) (by first | assumption | omega) (by first | assumption | omega) (by first | assumption | omega) (by first | assumption | omega)) H.size) (va_cwS 3 hts gX2_foresee_X2_isIn rfl rfl rfl (by decide +kernel) ⟨Nat.le_of_ble_eq_true rfl, Nat.le_of_ble_eq_true rfl⟩) (g_preS gEx_t hK [] rfl hPc hDc (fun _ _ _ => trivial)) rfl rfl hl.1 rfl (lv_room (Nat.le_of_ble_eq_true rfl)) dX2_foresee_9 ⟨Nat.le_of_ble_eq_true rfl, Nat.le_of_ble_eq_true rfl⟩) hPc hDc hS hA (fun κ9 H locs hk hP hD hS => ?_)
  have hP : va_P D vwCl (MW cI d (su σ 6 0 (0))) H := hP
  have hD : va_D A (MW cI d (su σ 6 0 (0))) := hD
  show W p l e ({ frames := 4, cells := 5, slots := 215, locals := 92 } : Room) s m args below meth c H locs 0 0 (MQ below (gQ D (tyMs cI cZ cQ) (fun κ' => MW cI d (mRes (tForesee y0 w0) (mZ σ) σ)) A (fun _ => some (.int (iI (mVal (tForesee y0 w0) (mFore (mZ σ) y0 w0))))) (fun _ => True)) args s 5 215 A) (F0 m 12 ls [.int (iI (bI (1 ≤ y0 ∧ y0 ≤ 30)))])
  refine gb_if_ne (tgt := 21) hx hb dX2_foresee_12 (by decide)  (fun c12 => ?_) (fun c12 => ?_)
  · skip
    refine lv_iload_n hx hb dX2_foresee_21 rfl (lv_at hl 2 rfl) ?_
    refine lv_iconst (v := iI (0)) hx hb dX2_foresee_22 rfl ?_
    refine lv_iconst (v := iI (2)) hx hb dX2_foresee_23 rfl ?_
    have hPc : va_P D vwCl ([] ++ (MW cI d (su σ 6 0 (0)))) H := hP
    have hDc : va_D A ([] ++ (MW cI d (su σ 6 0 (0)))) := hD
    refine g_call (va_runS (As := [.int (iI (w0)), .int (iI (0)), .int (iI (2))]) (rest := []) S ((kX2_isIn l D  w0 0 2 (by first | assumption | omega) (by first | assumption | omega) (by first | assumption | omega) (by first | assumption | omega) (by first | assumption | omega) (by first | assumption | omega)) H.size) (va_cwS 3 hts gX2_foresee_X2_isIn rfl rfl rfl (by decide +kernel) ⟨Nat.le_of_ble_eq_true rfl, Nat.le_of_ble_eq_true rfl⟩) (g_preS gEx_t hK [] rfl hPc hDc (fun _ _ _ => trivial)) rfl rfl hl.1 rfl (lv_room (Nat.le_of_ble_eq_true rfl)) dX2_foresee_24 ⟨Nat.le_of_ble_eq_true rfl, Nat.le_of_ble_eq_true rfl⟩) hPc hDc hS hA (fun κ9 H locs hk hP hD hS => ?_)
    have hP : va_P D vwCl (MW cI d (su σ 6 0 (0))) H := hP
    have hD : va_D A (MW cI d (su σ 6 0 (0))) := hD
    show W p l e ({ frames := 4, cells := 5, slots := 215, locals := 92 } : Room) s m args below meth c H locs 0 0 (MQ below (gQ D (tyMs cI cZ cQ) (fun κ' => MW cI d (mRes (tForesee y0 w0) (mZ σ) σ)) A (fun _ => some (.int (iI (mVal (tForesee y0 w0) (mFore (mZ σ) y0 w0))))) (fun _ => True)) args s 5 215 A) (F0 m 27 ls [.int (iI (bI (0 ≤ w0 ∧ w0 ≤ 2)))])
    refine gb_if_ne (tgt := 36) hx hb dX2_foresee_27 (by decide)  (fun c27 => ?_) (fun c27 => ?_)
    · skip
      refine lv_aload_n hx hb dX2_foresee_36 rfl (lv_at hl 0 rfl) ?_
      have hPc : va_P D vwCl (MW cI d (su σ 6 0 (0)) ++ []) H := by rw [List.append_nil]; exact hP
      have hDc : va_D A (MW cI d (su σ 6 0 (0)) ++ []) := by rw [List.append_nil]; exact hD
      refine g_call (va_runV (As := []) (rest := []) S ((kX2_kept l D cI cZ cQ d (su σ 6 0 (0))  ) H.size) (cwV 0 hts gX2_foresee_X2_kept rfl rfl rfl (by decide +kernel) ⟨Nat.le_of_ble_eq_true rfl, Nat.le_of_ble_eq_true rfl⟩) (g_preV (mEx_g _) hK [0, 1, 2] rfl hPc hDc (fun U hU hW => mEx_w hE hDc hS hA hU hW) (q0 := 0) (ci := 2) rfl rfl rfl) rfl rfl hl.1 rfl (lv_room (Nat.le_of_ble_eq_true rfl)) dX2_foresee_37 ⟨Nat.le_of_ble_eq_true rfl, Nat.le_of_ble_eq_true rfl⟩) hPc hDc hS hA (fun κ9 H locs hk hP hD hS => ?_)
      have hP : va_P D vwCl ((MW cI d (su σ 6 0 (0)) ++ KW cI cQ (κ9 0 0).toNat (κ9 0 1).toNat (κ9 0 2).toNat (κ9 0 3).toNat (su σ 6 0 (0)))) H := by have h9 : va_P D vwCl ((MW cI d (su σ 6 0 (0)) ++ KW cI cQ (κ9 0 0).toNat (κ9 0 1).toNat (κ9 0 2).toNat (κ9 0 3).toNat (su σ 6 0 (0))) ++ []) H := hP; rw [List.append_nil] at h9; exact h9
      have hD : va_D A ((MW cI d (su σ 6 0 (0)) ++ KW cI cQ (κ9 0 0).toNat (κ9 0 1).toNat (κ9 0 2).toNat (κ9 0 3).toNat (su σ 6 0 (0)))) := by have h9 : va_D A ((MW cI d (su σ 6 0 (0)) ++ KW cI cQ (κ9 0 0).toNat (κ9 0 1).toNat (κ9 0 2).toNat (κ9 0 3).toNat (su σ 6 0 (0))) ++ []) := hD; rw [List.append_nil] at h9; exact h9
      show W p l e ({ frames := 4, cells := 5, slots := 215, locals := 92 } : Room) s m args below meth c H locs 4 212 (MQ below (gQ D (tyMs cI cZ cQ) (fun κ' => MW cI d (mRes (tForesee y0 w0) (mZ σ) σ)) A (fun _ => some (.int (iI (mVal (tForesee y0 w0) (mFore (mZ σ) y0 w0))))) (fun _ => True)) args s 5 215 A) (F0 m 40 ls [.ref ((κ9 0 0).toNat)])
      generalize (κ9 0 0).toNat = o37 at hP hD ⊢
      generalize (κ9 0 1).toNat = a37 at hP hD ⊢
      generalize (κ9 0 2).toNat = b37 at hP hD ⊢
      generalize (κ9 0 3).toNat = c37 at hP hD ⊢
      have hP : va_P D vwCl (MW cI d (su σ 6 0 (0)) ++ [(o37, .inl (cQ, (3, .inr (.inr (.inr (.inr (kq a37 b37 c37))))))), (a37, aI cI 200 ((su σ 6 0 (0)) 3)), (b37, aI cI 6 ((su σ 6 0 (0)) 4)), (c37, aI cI 3 ((su σ 6 0 (0)) 5))]) H := hP
      have hD : va_D A (MW cI d (su σ 6 0 (0)) ++ [(o37, .inl (cQ, (3, .inr (.inr (.inr (.inr (kq a37 b37 c37))))))), (a37, aI cI 200 ((su σ 6 0 (0)) 3)), (b37, aI cI 6 ((su σ 6 0 (0)) 4)), (c37, aI cI 3 ((su σ 6 0 (0)) 5))]) := hD
      refine lv_astore_n (lv' := [(3, .ref (o37)), (0, .ref (d 0)), (1, .int (iI (y0))), (2, .int (iI (w0)))]) hx hb dX2_foresee_40 rfl hl (by decide) rfl (fun ls hl => ?_)
      refine lv_aload_n hx hb dX2_foresee_41 rfl (lv_at hl 1 rfl) ?_
      refine lv_iload_n hx hb dX2_foresee_42 rfl (lv_at hl 2 rfl) ?_
      have hPc : va_P D vwCl (MW cI d (su σ 6 0 (0)) ++ [(o37, .inl (cQ, (3, .inr (.inr (.inr (.inr (kq a37 b37 c37))))))), (a37, aI cI 200 ((su σ 6 0 (0)) 3)), (b37, aI cI 6 ((su σ 6 0 (0)) 4)), (c37, aI cI 3 ((su σ 6 0 (0)) 5))]) H := hP
      have hDc : va_D A (MW cI d (su σ 6 0 (0)) ++ [(o37, .inl (cQ, (3, .inr (.inr (.inr (.inr (kq a37 b37 c37))))))), (a37, aI cI 200 ((su σ 6 0 (0)) 3)), (b37, aI cI 6 ((su σ 6 0 (0)) 4)), (c37, aI cI 3 ((su σ 6 0 (0)) 5))]) := hD
      refine g_call (va_runV (As := [.int (iI (y0))]) (rest := []) S ((kX2_yearsOn l D cI cZ cQ d (su σ 6 0 (0)) y0 (by first | assumption | omega) (mWF_6 hwf _ _) hbn hyr) H.size) (cwV 1 hts gX2_foresee_X2_yearsOn rfl rfl rfl (by decide +kernel) ⟨Nat.le_of_ble_eq_true rfl, Nat.le_of_ble_eq_true rfl⟩) (g_preV gEx_t hK [0, 1, 2] rfl hPc hDc (fun _ _ _ => trivial) (q0 := 0) (ci := 2) rfl rfl rfl) rfl rfl hl.1 rfl (lv_room (Nat.le_of_ble_eq_true rfl)) dX2_foresee_43 ⟨Nat.le_of_ble_eq_true rfl, Nat.le_of_ble_eq_true rfl⟩) hPc hDc hS hA (fun κ9 H locs hk hP hD hS => ?_)
      have hP : va_P D vwCl (MW cI d (yrS (su σ 6 0 (0)) y0.toNat) ++ [(o37, .inl (cQ, (3, .inr (.inr (.inr (.inr (kq a37 b37 c37))))))), (a37, aI cI 200 ((su σ 6 0 (0)) 3)), (b37, aI cI 6 ((su σ 6 0 (0)) 4)), (c37, aI cI 3 ((su σ 6 0 (0)) 5))]) H := hP
      have hD : va_D A (MW cI d (yrS (su σ 6 0 (0)) y0.toNat) ++ [(o37, .inl (cQ, (3, .inr (.inr (.inr (.inr (kq a37 b37 c37))))))), (a37, aI cI 200 ((su σ 6 0 (0)) 3)), (b37, aI cI 6 ((su σ 6 0 (0)) 4)), (c37, aI cI 3 ((su σ 6 0 (0)) 5))]) := hD
      show W p l e ({ frames := 4, cells := 5, slots := 215, locals := 92 } : Room) s m args below meth c H locs 4 212 (MQ below (gQ D (tyMs cI cZ cQ) (fun κ' => MW cI d (mRes (tForesee y0 w0) (mZ σ) σ)) A (fun _ => some (.int (iI (mVal (tForesee y0 w0) (mFore (mZ σ) y0 w0))))) (fun _ => True)) args s 5 215 A) (F0 m 46 ls [.int (iI (yrA (su σ 6 0 (0)) y0.toNat))])
      refine lv_istore (lv' := [(4, .int (iI (yrA (su σ 6 0 (0)) y0.toNat))), (3, .ref (o37)), (0, .ref (d 0)), (1, .int (iI (y0))), (2, .int (iI (w0)))]) hx hb dX2_foresee_46 hl (by decide) rfl (fun ls hl => ?_)
      refine lv_iload_n hx hb dX2_foresee_48 rfl (lv_at hl 4 rfl) ?_
      refine gi_if_ne (tgt := 57) hx hb dX2_foresee_49 (by decide) ⟨by omega, by omega⟩ (fun c49 => ?_) (fun c49 => ?_)
      · skip
        refine lv_aload_n hx hb dX2_foresee_57 rfl (lv_at hl 2 rfl) ?_
        refine lv_iload_n hx hb dX2_foresee_58 rfl (lv_at hl 4 rfl) ?_
        refine lv_iconst (v := iI (1)) hx hb dX2_foresee_59 rfl ?_
        refine gi_icmp_ne (tgt := 67) hx hb dX2_foresee_60 (by decide) ⟨by omega, by omega⟩ ⟨by decide, by decide⟩ (fun c60 => ?_) (fun c60 => ?_)
        · skip
          refine lv_iconst (v := iI (4)) hx hb dX2_foresee_67 rfl ?_
          have hPc : va_P D vwCl (MW cI d (yrS (su σ 6 0 (0)) y0.toNat) ++ [(o37, .inl (cQ, (3, .inr (.inr (.inr (.inr (kq a37 b37 c37))))))), (a37, aI cI 200 ((su σ 6 0 (0)) 3)), (b37, aI cI 6 ((su σ 6 0 (0)) 4)), (c37, aI cI 3 ((su σ 6 0 (0)) 5))]) H := hP
          have hDc : va_D A (MW cI d (yrS (su σ 6 0 (0)) y0.toNat) ++ [(o37, .inl (cQ, (3, .inr (.inr (.inr (.inr (kq a37 b37 c37))))))), (a37, aI cI 200 ((su σ 6 0 (0)) 3)), (b37, aI cI 6 ((su σ 6 0 (0)) 4)), (c37, aI cI 3 ((su σ 6 0 (0)) 5))]) := hD
          refine g_call (va_runV (As := [.int (iI (4))]) (rest := []) S ((kX2_all l D cI cZ cQ d (yrS (su σ 6 0 (0)) y0.toNat) 4 (by first | assumption | omega) (by first | assumption | omega)) H.size) (cwV 1 hts gX2_foresee_X2_all rfl rfl rfl (by decide +kernel) ⟨Nat.le_of_ble_eq_true rfl, Nat.le_of_ble_eq_true rfl⟩) (g_preV gEx_t hK [0, 1, 2] rfl hPc hDc (fun _ _ _ => trivial) (q0 := 0) (ci := 2) rfl rfl rfl) rfl rfl hl.1 rfl (lv_room (Nat.le_of_ble_eq_true rfl)) dX2_foresee_68 ⟨Nat.le_of_ble_eq_true rfl, Nat.le_of_ble_eq_true rfl⟩) hPc hDc hS hA (fun κ9 H locs hk hP hD hS => ?_)
          have hP : va_P D vwCl (MW cI d (yrS (su σ 6 0 (0)) y0.toNat) ++ [(o37, .inl (cQ, (3, .inr (.inr (.inr (.inr (kq a37 b37 c37))))))), (a37, aI cI 200 ((su σ 6 0 (0)) 3)), (b37, aI cI 6 ((su σ 6 0 (0)) 4)), (c37, aI cI 3 ((su σ 6 0 (0)) 5))]) H := hP
          have hD : va_D A (MW cI d (yrS (su σ 6 0 (0)) y0.toNat) ++ [(o37, .inl (cQ, (3, .inr (.inr (.inr (.inr (kq a37 b37 c37))))))), (a37, aI cI 200 ((su σ 6 0 (0)) 3)), (b37, aI cI 6 ((su σ 6 0 (0)) 4)), (c37, aI cI 3 ((su σ 6 0 (0)) 5))]) := hD
          show W p l e ({ frames := 4, cells := 5, slots := 215, locals := 92 } : Room) s m args below meth c H locs 4 212 (MQ below (gQ D (tyMs cI cZ cQ) (fun κ' => MW cI d (mRes (tForesee y0 w0) (mZ σ) σ)) A (fun _ => some (.int (iI (mVal (tForesee y0 w0) (mFore (mZ σ) y0 w0))))) (fun _ => True)) args s 5 215 A) (F0 m 71 ls [.int (iI (mAll (yrS (su σ 6 0 (0)) y0.toNat) 4))])
          refine lv_istore (lv' := [(5, .int (iI (mAll (yrS (su σ 6 0 (0)) y0.toNat) 4))), (4, .int (iI (yrA (su σ 6 0 (0)) y0.toNat))), (3, .ref (o37)), (0, .ref (d 0)), (1, .int (iI (y0))), (2, .int (iI (w0)))]) hx hb dX2_foresee_71 hl (by decide) rfl (fun ls hl => ?_)
          refine lv_aload_n hx hb dX2_foresee_73 rfl (lv_at hl 3 rfl) ?_
          refine lv_aload_n hx hb dX2_foresee_74 rfl (lv_at hl 2 rfl) ?_
          have hPc : va_P D vwCl ((MW cI d (yrS (su σ 6 0 (0)) y0.toNat) ++ KW cI cQ o37 a37 b37 c37 (su σ 6 0 (0))) ++ []) H := by rw [List.append_nil]; exact hP
          have hDc : va_D A ((MW cI d (yrS (su σ 6 0 (0)) y0.toNat) ++ KW cI cQ o37 a37 b37 c37 (su σ 6 0 (0))) ++ []) := by rw [List.append_nil]; exact hD
          refine g_call (va_runV (As := [.ref (o37)]) (rest := []) S ((kX2_bringBack l D cI cZ cQ d (yrS (su σ 6 0 (0)) y0.toNat) o37 a37 b37 c37 (su σ 6 0 (0)) ) H.size) (cwV 1 hts gX2_foresee_X2_bringBack rfl rfl rfl (by decide +kernel) ⟨Nat.le_of_ble_eq_true rfl, Nat.le_of_ble_eq_true rfl⟩) (g_preV (mEx_g _) hK [0, 1, 2] rfl hPc hDc (fun U hU hW => mEx_w hE hDc hS hA hU hW) (q0 := 0) (ci := 2) rfl rfl rfl) rfl rfl hl.1 rfl (lv_room (Nat.le_of_ble_eq_true rfl)) dX2_foresee_75 ⟨Nat.le_of_ble_eq_true rfl, Nat.le_of_ble_eq_true rfl⟩) hPc hDc hS hA (fun κ9 H locs hk hP hD hS => ?_)
          have hP : va_P D vwCl (MW cI d (bbS (yrS (su σ 6 0 (0)) y0.toNat) (su σ 6 0 (0))) ++ [(o37, .inl (cQ, (3, .inr (.inr (.inr (.inr (kq a37 b37 c37))))))), (a37, aI cI 200 ((su σ 6 0 (0)) 3)), (b37, aI cI 6 ((su σ 6 0 (0)) 4)), (c37, aI cI 3 ((su σ 6 0 (0)) 5))]) H := by have h9 : va_P D vwCl ((MW cI d (bbS (yrS (su σ 6 0 (0)) y0.toNat) (su σ 6 0 (0))) ++ KW cI cQ o37 a37 b37 c37 (su σ 6 0 (0))) ++ []) H := hP; rw [List.append_nil] at h9; exact h9
          have hD : va_D A (MW cI d (bbS (yrS (su σ 6 0 (0)) y0.toNat) (su σ 6 0 (0))) ++ [(o37, .inl (cQ, (3, .inr (.inr (.inr (.inr (kq a37 b37 c37))))))), (a37, aI cI 200 ((su σ 6 0 (0)) 3)), (b37, aI cI 6 ((su σ 6 0 (0)) 4)), (c37, aI cI 3 ((su σ 6 0 (0)) 5))]) := by have h9 : va_D A ((MW cI d (bbS (yrS (su σ 6 0 (0)) y0.toNat) (su σ 6 0 (0))) ++ KW cI cQ o37 a37 b37 c37 (su σ 6 0 (0))) ++ []) := hD; rw [List.append_nil] at h9; exact h9
          show W p l e ({ frames := 4, cells := 5, slots := 215, locals := 92 } : Room) s m args below meth c H locs 5 215 (MQ below (gQ D (tyMs cI cZ cQ) (fun κ' => MW cI d (mRes (tForesee y0 w0) (mZ σ) σ)) A (fun _ => some (.int (iI (mVal (tForesee y0 w0) (mFore (mZ σ) y0 w0))))) (fun _ => True)) args s 5 215 A) (F0 m 78 ls [])
          have e8 : (bbS (yrS (su σ 6 0 (0)) y0.toNat) (su σ 6 0 (0))) = (su σ 6 0 0) := bb_yr _ _
          rw [e8] at hP hD
          have hP : va_P D vwCl (MW cI d (su σ 6 0 0) ++ [(o37, .inl (cQ, (3, .inr (.inr (.inr (.inr (kq a37 b37 c37))))))), (a37, aI cI 200 ((su σ 6 0 (0)) 3)), (b37, aI cI 6 ((su σ 6 0 (0)) 4)), (c37, aI cI 3 ((su σ 6 0 (0)) 5))]) H := hP
          have hD : va_D A (MW cI d (su σ 6 0 0) ++ [(o37, .inl (cQ, (3, .inr (.inr (.inr (.inr (kq a37 b37 c37))))))), (a37, aI cI 200 ((su σ 6 0 (0)) 3)), (b37, aI cI 6 ((su σ 6 0 (0)) 4)), (c37, aI cI 3 ((su σ 6 0 (0)) 5))]) := hD
          refine lv_iload hx hb dX2_foresee_78 (lv_at hl 0 rfl) ?_
          have es : (mRes (tForesee y0 w0) (mZ σ) σ) = (su σ 6 0 0) := by first | (rw [show tForesee y0 w0 = 1 from by unfold tForesee; rw [if_pos (by omega)]]; rfl) | (rw [show tForesee y0 w0 = 2 from by unfold tForesee; rw [if_neg (by omega), if_pos (by omega)]]; rfl) | (rw [show tForesee y0 w0 = 0 from by unfold tForesee; rw [if_neg (by omega), if_neg (by omega)]]; rfl)
          have er : ((mVal (tForesee y0 w0) (mFore (mZ σ) y0 w0) : Int)) = (mAll (yrS (su σ 6 0 (0)) y0.toNat) 4) := by rw [show tForesee y0 w0 = 0 from by unfold tForesee; rw [if_neg (by omega), if_neg (by omega)]]; show mFore (mZ σ) y0 w0 = _; unfold mFore; first | exact if_pos (by omega) | exact (if_neg (by omega)).trans (if_pos (by omega)) | exact (if_neg (by omega)).trans (if_neg (by omega))
          exact g_iret (wo := (fun κ' => MW cI d (mRes (tForesee y0 w0) (mZ σ) σ))) (kr := (fun _ => True)) (rv := (fun _ => some (.int (iI (mVal (tForesee y0 w0) (mFore (mZ σ) y0 w0)))))) hx hb hr hlocks (fun _ _ => 0) rfl (by rw [es]; exact g_left hP) hK (by rw [es]; exact g_Dleft hD) hS trivial (by rw [er]) (Nat.le_of_ble_eq_true rfl) (Nat.le_of_ble_eq_true rfl) dX2_foresee_80
        · skip
          refine lv_iconst (v := iI (1)) hx hb dX2_foresee_63 rfl ?_
          refine lv_goto (tgt := 68) hx hb dX2_foresee_64 (by decide) ?_
          have hPc : va_P D vwCl (MW cI d (yrS (su σ 6 0 (0)) y0.toNat) ++ [(o37, .inl (cQ, (3, .inr (.inr (.inr (.inr (kq a37 b37 c37))))))), (a37, aI cI 200 ((su σ 6 0 (0)) 3)), (b37, aI cI 6 ((su σ 6 0 (0)) 4)), (c37, aI cI 3 ((su σ 6 0 (0)) 5))]) H := hP
          have hDc : va_D A (MW cI d (yrS (su σ 6 0 (0)) y0.toNat) ++ [(o37, .inl (cQ, (3, .inr (.inr (.inr (.inr (kq a37 b37 c37))))))), (a37, aI cI 200 ((su σ 6 0 (0)) 3)), (b37, aI cI 6 ((su σ 6 0 (0)) 4)), (c37, aI cI 3 ((su σ 6 0 (0)) 5))]) := hD
          refine g_call (va_runV (As := [.int (iI (1))]) (rest := []) S ((kX2_all l D cI cZ cQ d (yrS (su σ 6 0 (0)) y0.toNat) 1 (by first | assumption | omega) (by first | assumption | omega)) H.size) (cwV 1 hts gX2_foresee_X2_all rfl rfl rfl (by decide +kernel) ⟨Nat.le_of_ble_eq_true rfl, Nat.le_of_ble_eq_true rfl⟩) (g_preV gEx_t hK [0, 1, 2] rfl hPc hDc (fun _ _ _ => trivial) (q0 := 0) (ci := 2) rfl rfl rfl) rfl rfl hl.1 rfl (lv_room (Nat.le_of_ble_eq_true rfl)) dX2_foresee_68 ⟨Nat.le_of_ble_eq_true rfl, Nat.le_of_ble_eq_true rfl⟩) hPc hDc hS hA (fun κ9 H locs hk hP hD hS => ?_)
          have hP : va_P D vwCl (MW cI d (yrS (su σ 6 0 (0)) y0.toNat) ++ [(o37, .inl (cQ, (3, .inr (.inr (.inr (.inr (kq a37 b37 c37))))))), (a37, aI cI 200 ((su σ 6 0 (0)) 3)), (b37, aI cI 6 ((su σ 6 0 (0)) 4)), (c37, aI cI 3 ((su σ 6 0 (0)) 5))]) H := hP
          have hD : va_D A (MW cI d (yrS (su σ 6 0 (0)) y0.toNat) ++ [(o37, .inl (cQ, (3, .inr (.inr (.inr (.inr (kq a37 b37 c37))))))), (a37, aI cI 200 ((su σ 6 0 (0)) 3)), (b37, aI cI 6 ((su σ 6 0 (0)) 4)), (c37, aI cI 3 ((su σ 6 0 (0)) 5))]) := hD
          show W p l e ({ frames := 4, cells := 5, slots := 215, locals := 92 } : Room) s m args below meth c H locs 4 212 (MQ below (gQ D (tyMs cI cZ cQ) (fun κ' => MW cI d (mRes (tForesee y0 w0) (mZ σ) σ)) A (fun _ => some (.int (iI (mVal (tForesee y0 w0) (mFore (mZ σ) y0 w0))))) (fun _ => True)) args s 5 215 A) (F0 m 71 ls [.int (iI (mAll (yrS (su σ 6 0 (0)) y0.toNat) 1))])
          refine lv_istore (lv' := [(5, .int (iI (mAll (yrS (su σ 6 0 (0)) y0.toNat) 1))), (4, .int (iI (yrA (su σ 6 0 (0)) y0.toNat))), (3, .ref (o37)), (0, .ref (d 0)), (1, .int (iI (y0))), (2, .int (iI (w0)))]) hx hb dX2_foresee_71 hl (by decide) rfl (fun ls hl => ?_)
          refine lv_aload_n hx hb dX2_foresee_73 rfl (lv_at hl 3 rfl) ?_
          refine lv_aload_n hx hb dX2_foresee_74 rfl (lv_at hl 2 rfl) ?_
          have hPc : va_P D vwCl ((MW cI d (yrS (su σ 6 0 (0)) y0.toNat) ++ KW cI cQ o37 a37 b37 c37 (su σ 6 0 (0))) ++ []) H := by rw [List.append_nil]; exact hP
          have hDc : va_D A ((MW cI d (yrS (su σ 6 0 (0)) y0.toNat) ++ KW cI cQ o37 a37 b37 c37 (su σ 6 0 (0))) ++ []) := by rw [List.append_nil]; exact hD
          refine g_call (va_runV (As := [.ref (o37)]) (rest := []) S ((kX2_bringBack l D cI cZ cQ d (yrS (su σ 6 0 (0)) y0.toNat) o37 a37 b37 c37 (su σ 6 0 (0)) ) H.size) (cwV 1 hts gX2_foresee_X2_bringBack rfl rfl rfl (by decide +kernel) ⟨Nat.le_of_ble_eq_true rfl, Nat.le_of_ble_eq_true rfl⟩) (g_preV (mEx_g _) hK [0, 1, 2] rfl hPc hDc (fun U hU hW => mEx_w hE hDc hS hA hU hW) (q0 := 0) (ci := 2) rfl rfl rfl) rfl rfl hl.1 rfl (lv_room (Nat.le_of_ble_eq_true rfl)) dX2_foresee_75 ⟨Nat.le_of_ble_eq_true rfl, Nat.le_of_ble_eq_true rfl⟩) hPc hDc hS hA (fun κ9 H locs hk hP hD hS => ?_)
          have hP : va_P D vwCl (MW cI d (bbS (yrS (su σ 6 0 (0)) y0.toNat) (su σ 6 0 (0))) ++ [(o37, .inl (cQ, (3, .inr (.inr (.inr (.inr (kq a37 b37 c37))))))), (a37, aI cI 200 ((su σ 6 0 (0)) 3)), (b37, aI cI 6 ((su σ 6 0 (0)) 4)), (c37, aI cI 3 ((su σ 6 0 (0)) 5))]) H := by have h9 : va_P D vwCl ((MW cI d (bbS (yrS (su σ 6 0 (0)) y0.toNat) (su σ 6 0 (0))) ++ KW cI cQ o37 a37 b37 c37 (su σ 6 0 (0))) ++ []) H := hP; rw [List.append_nil] at h9; exact h9
          have hD : va_D A (MW cI d (bbS (yrS (su σ 6 0 (0)) y0.toNat) (su σ 6 0 (0))) ++ [(o37, .inl (cQ, (3, .inr (.inr (.inr (.inr (kq a37 b37 c37))))))), (a37, aI cI 200 ((su σ 6 0 (0)) 3)), (b37, aI cI 6 ((su σ 6 0 (0)) 4)), (c37, aI cI 3 ((su σ 6 0 (0)) 5))]) := by have h9 : va_D A ((MW cI d (bbS (yrS (su σ 6 0 (0)) y0.toNat) (su σ 6 0 (0))) ++ KW cI cQ o37 a37 b37 c37 (su σ 6 0 (0))) ++ []) := hD; rw [List.append_nil] at h9; exact h9
          show W p l e ({ frames := 4, cells := 5, slots := 215, locals := 92 } : Room) s m args below meth c H locs 5 215 (MQ below (gQ D (tyMs cI cZ cQ) (fun κ' => MW cI d (mRes (tForesee y0 w0) (mZ σ) σ)) A (fun _ => some (.int (iI (mVal (tForesee y0 w0) (mFore (mZ σ) y0 w0))))) (fun _ => True)) args s 5 215 A) (F0 m 78 ls [])
          have e8 : (bbS (yrS (su σ 6 0 (0)) y0.toNat) (su σ 6 0 (0))) = (su σ 6 0 0) := bb_yr _ _
          rw [e8] at hP hD
          have hP : va_P D vwCl (MW cI d (su σ 6 0 0) ++ [(o37, .inl (cQ, (3, .inr (.inr (.inr (.inr (kq a37 b37 c37))))))), (a37, aI cI 200 ((su σ 6 0 (0)) 3)), (b37, aI cI 6 ((su σ 6 0 (0)) 4)), (c37, aI cI 3 ((su σ 6 0 (0)) 5))]) H := hP
          have hD : va_D A (MW cI d (su σ 6 0 0) ++ [(o37, .inl (cQ, (3, .inr (.inr (.inr (.inr (kq a37 b37 c37))))))), (a37, aI cI 200 ((su σ 6 0 (0)) 3)), (b37, aI cI 6 ((su σ 6 0 (0)) 4)), (c37, aI cI 3 ((su σ 6 0 (0)) 5))]) := hD
          refine lv_iload hx hb dX2_foresee_78 (lv_at hl 0 rfl) ?_
          have es : (mRes (tForesee y0 w0) (mZ σ) σ) = (su σ 6 0 0) := by first | (rw [show tForesee y0 w0 = 1 from by unfold tForesee; rw [if_pos (by omega)]]; rfl) | (rw [show tForesee y0 w0 = 2 from by unfold tForesee; rw [if_neg (by omega), if_pos (by omega)]]; rfl) | (rw [show tForesee y0 w0 = 0 from by unfold tForesee; rw [if_neg (by omega), if_neg (by omega)]]; rfl)
          have er : ((mVal (tForesee y0 w0) (mFore (mZ σ) y0 w0) : Int)) = (mAll (yrS (su σ 6 0 (0)) y0.toNat) 1) := by rw [show tForesee y0 w0 = 0 from by unfold tForesee; rw [if_neg (by omega), if_neg (by omega)]]; show mFore (mZ σ) y0 w0 = _; unfold mFore; first | exact if_pos (by omega) | exact (if_neg (by omega)).trans (if_pos (by omega)) | exact (if_neg (by omega)).trans (if_neg (by omega))
          exact g_iret (wo := (fun κ' => MW cI d (mRes (tForesee y0 w0) (mZ σ) σ))) (kr := (fun _ => True)) (rv := (fun _ => some (.int (iI (mVal (tForesee y0 w0) (mFore (mZ σ) y0 w0)))))) hx hb hr hlocks (fun _ _ => 0) rfl (by rw [es]; exact g_left hP) hK (by rw [es]; exact g_Dleft hD) hS trivial (by rw [er]) (Nat.le_of_ble_eq_true rfl) (Nat.le_of_ble_eq_true rfl) dX2_foresee_80
      · skip
        refine lv_iload hx hb dX2_foresee_52 (lv_at hl 0 rfl) ?_
        refine lv_goto (tgt := 71) hx hb dX2_foresee_54 (by decide) ?_
        refine lv_istore (lv' := [(5, .int (iI (yrA (su σ 6 0 (0)) y0.toNat))), (4, .int (iI (yrA (su σ 6 0 (0)) y0.toNat))), (3, .ref (o37)), (0, .ref (d 0)), (1, .int (iI (y0))), (2, .int (iI (w0)))]) hx hb dX2_foresee_71 hl (by decide) rfl (fun ls hl => ?_)
        refine lv_aload_n hx hb dX2_foresee_73 rfl (lv_at hl 3 rfl) ?_
        refine lv_aload_n hx hb dX2_foresee_74 rfl (lv_at hl 2 rfl) ?_
        have hPc : va_P D vwCl ((MW cI d (yrS (su σ 6 0 (0)) y0.toNat) ++ KW cI cQ o37 a37 b37 c37 (su σ 6 0 (0))) ++ []) H := by rw [List.append_nil]; exact hP
        have hDc : va_D A ((MW cI d (yrS (su σ 6 0 (0)) y0.toNat) ++ KW cI cQ o37 a37 b37 c37 (su σ 6 0 (0))) ++ []) := by rw [List.append_nil]; exact hD
        refine g_call (va_runV (As := [.ref (o37)]) (rest := []) S ((kX2_bringBack l D cI cZ cQ d (yrS (su σ 6 0 (0)) y0.toNat) o37 a37 b37 c37 (su σ 6 0 (0)) ) H.size) (cwV 1 hts gX2_foresee_X2_bringBack rfl rfl rfl (by decide +kernel) ⟨Nat.le_of_ble_eq_true rfl, Nat.le_of_ble_eq_true rfl⟩) (g_preV (mEx_g _) hK [0, 1, 2] rfl hPc hDc (fun U hU hW => mEx_w hE hDc hS hA hU hW) (q0 := 0) (ci := 2) rfl rfl rfl) rfl rfl hl.1 rfl (lv_room (Nat.le_of_ble_eq_true rfl)) dX2_foresee_75 ⟨Nat.le_of_ble_eq_true rfl, Nat.le_of_ble_eq_true rfl⟩) hPc hDc hS hA (fun κ9 H locs hk hP hD hS => ?_)
        have hP : va_P D vwCl (MW cI d (bbS (yrS (su σ 6 0 (0)) y0.toNat) (su σ 6 0 (0))) ++ [(o37, .inl (cQ, (3, .inr (.inr (.inr (.inr (kq a37 b37 c37))))))), (a37, aI cI 200 ((su σ 6 0 (0)) 3)), (b37, aI cI 6 ((su σ 6 0 (0)) 4)), (c37, aI cI 3 ((su σ 6 0 (0)) 5))]) H := by have h9 : va_P D vwCl ((MW cI d (bbS (yrS (su σ 6 0 (0)) y0.toNat) (su σ 6 0 (0))) ++ KW cI cQ o37 a37 b37 c37 (su σ 6 0 (0))) ++ []) H := hP; rw [List.append_nil] at h9; exact h9
        have hD : va_D A (MW cI d (bbS (yrS (su σ 6 0 (0)) y0.toNat) (su σ 6 0 (0))) ++ [(o37, .inl (cQ, (3, .inr (.inr (.inr (.inr (kq a37 b37 c37))))))), (a37, aI cI 200 ((su σ 6 0 (0)) 3)), (b37, aI cI 6 ((su σ 6 0 (0)) 4)), (c37, aI cI 3 ((su σ 6 0 (0)) 5))]) := by have h9 : va_D A ((MW cI d (bbS (yrS (su σ 6 0 (0)) y0.toNat) (su σ 6 0 (0))) ++ KW cI cQ o37 a37 b37 c37 (su σ 6 0 (0))) ++ []) := hD; rw [List.append_nil] at h9; exact h9
        show W p l e ({ frames := 4, cells := 5, slots := 215, locals := 92 } : Room) s m args below meth c H locs 5 215 (MQ below (gQ D (tyMs cI cZ cQ) (fun κ' => MW cI d (mRes (tForesee y0 w0) (mZ σ) σ)) A (fun _ => some (.int (iI (mVal (tForesee y0 w0) (mFore (mZ σ) y0 w0))))) (fun _ => True)) args s 5 215 A) (F0 m 78 ls [])
        have e8 : (bbS (yrS (su σ 6 0 (0)) y0.toNat) (su σ 6 0 (0))) = (su σ 6 0 0) := bb_yr _ _
        rw [e8] at hP hD
        have hP : va_P D vwCl (MW cI d (su σ 6 0 0) ++ [(o37, .inl (cQ, (3, .inr (.inr (.inr (.inr (kq a37 b37 c37))))))), (a37, aI cI 200 ((su σ 6 0 (0)) 3)), (b37, aI cI 6 ((su σ 6 0 (0)) 4)), (c37, aI cI 3 ((su σ 6 0 (0)) 5))]) H := hP
        have hD : va_D A (MW cI d (su σ 6 0 0) ++ [(o37, .inl (cQ, (3, .inr (.inr (.inr (.inr (kq a37 b37 c37))))))), (a37, aI cI 200 ((su σ 6 0 (0)) 3)), (b37, aI cI 6 ((su σ 6 0 (0)) 4)), (c37, aI cI 3 ((su σ 6 0 (0)) 5))]) := hD
        refine lv_iload hx hb dX2_foresee_78 (lv_at hl 0 rfl) ?_
        have es : (mRes (tForesee y0 w0) (mZ σ) σ) = (su σ 6 0 0) := by first | (rw [show tForesee y0 w0 = 1 from by unfold tForesee; rw [if_pos (by omega)]]; rfl) | (rw [show tForesee y0 w0 = 2 from by unfold tForesee; rw [if_neg (by omega), if_pos (by omega)]]; rfl) | (rw [show tForesee y0 w0 = 0 from by unfold tForesee; rw [if_neg (by omega), if_neg (by omega)]]; rfl)
        have er : ((mVal (tForesee y0 w0) (mFore (mZ σ) y0 w0) : Int)) = (yrA (su σ 6 0 (0)) y0.toNat) := by rw [show tForesee y0 w0 = 0 from by unfold tForesee; rw [if_neg (by omega), if_neg (by omega)]]; show mFore (mZ σ) y0 w0 = _; unfold mFore; first | exact if_pos (by omega) | exact (if_neg (by omega)).trans (if_pos (by omega)) | exact (if_neg (by omega)).trans (if_neg (by omega))
        exact g_iret (wo := (fun κ' => MW cI d (mRes (tForesee y0 w0) (mZ σ) σ))) (kr := (fun _ => True)) (rv := (fun _ => some (.int (iI (mVal (tForesee y0 w0) (mFore (mZ σ) y0 w0)))))) hx hb hr hlocks (fun _ _ => 0) rfl (by rw [es]; exact g_left hP) hK (by rw [es]; exact g_Dleft hD) hS trivial (by rw [er]) (Nat.le_of_ble_eq_true rfl) (Nat.le_of_ble_eq_true rfl) dX2_foresee_80
    · skip
      refine lv_aload_n hx hb dX2_foresee_30 rfl (lv_at hl 0 rfl) ?_
      refine lv_iconst (v := iI (2)) hx hb dX2_foresee_31 rfl ?_
      have hPc : va_P D vwCl (MW cI d (su σ 6 0 (0)) ++ []) H := by rw [List.append_nil]; exact hP
      have hDc : va_D A (MW cI d (su σ 6 0 (0)) ++ []) := by rw [List.append_nil]; exact hD
      refine g_call (va_runV (As := [.int (iI (2))]) (rest := []) S ((kX2_fail l D cI cZ cQ d (su σ 6 0 (0)) 2 ) H.size) (cwV 1 hts gX2_foresee_X2_fail rfl rfl rfl (by decide +kernel) ⟨Nat.le_of_ble_eq_true rfl, Nat.le_of_ble_eq_true rfl⟩) (g_preV gEx_t hK [0, 1, 2] rfl hPc hDc (fun _ _ _ => trivial) (q0 := 0) (ci := 2) rfl rfl rfl) rfl rfl hl.1 rfl (lv_room (Nat.le_of_ble_eq_true rfl)) dX2_foresee_32 ⟨Nat.le_of_ble_eq_true rfl, Nat.le_of_ble_eq_true rfl⟩) hPc hDc hS hA (fun κ9 H locs hk hP hD hS => ?_)
      have hP : va_P D vwCl (MW cI d (su (su σ 6 0 (0)) 6 0 2)) H := by have h9 : va_P D vwCl (MW cI d (su (su σ 6 0 (0)) 6 0 2) ++ []) H := hP; rw [List.append_nil] at h9; exact h9
      have hD : va_D A (MW cI d (su (su σ 6 0 (0)) 6 0 2)) := by have h9 : va_D A (MW cI d (su (su σ 6 0 (0)) 6 0 2) ++ []) := hD; rw [List.append_nil] at h9; exact h9
      show W p l e ({ frames := 4, cells := 5, slots := 215, locals := 92 } : Room) s m args below meth c H locs 0 0 (MQ below (gQ D (tyMs cI cZ cQ) (fun κ' => MW cI d (mRes (tForesee y0 w0) (mZ σ) σ)) A (fun _ => some (.int (iI (mVal (tForesee y0 w0) (mFore (mZ σ) y0 w0))))) (fun _ => True)) args s 5 215 A) (F0 m 35 ls [.int (iI (0))])
      have es : (mRes (tForesee y0 w0) (mZ σ) σ) = (su (su σ 6 0 (0)) 6 0 2) := by first | (rw [show tForesee y0 w0 = 1 from by unfold tForesee; rw [if_pos (by omega)]]; rfl) | (rw [show tForesee y0 w0 = 2 from by unfold tForesee; rw [if_neg (by omega), if_pos (by omega)]]; rfl) | (rw [show tForesee y0 w0 = 0 from by unfold tForesee; rw [if_neg (by omega), if_neg (by omega)]]; rfl)
      have er : ((mVal (tForesee y0 w0) (mFore (mZ σ) y0 w0) : Int)) = (0) := by first | (rw [show tForesee y0 w0 = 1 from by unfold tForesee; rw [if_pos (by omega)]]; rfl) | (rw [show tForesee y0 w0 = 2 from by unfold tForesee; rw [if_neg (by omega), if_pos (by omega)]]; rfl) | (rw [show tForesee y0 w0 = 0 from by unfold tForesee; rw [if_neg (by omega), if_neg (by omega)]]; rfl)
      exact g_iret (wo := (fun κ' => MW cI d (mRes (tForesee y0 w0) (mZ σ) σ))) (kr := (fun _ => True)) (rv := (fun _ => some (.int (iI (mVal (tForesee y0 w0) (mFore (mZ σ) y0 w0)))))) hx hb hr hlocks (fun _ _ => 0) rfl (by rw [es]; exact hP) hK (by rw [es]; exact hD) hS trivial (by rw [er]) (Nat.le_of_ble_eq_true rfl) (Nat.le_of_ble_eq_true rfl) dX2_foresee_35
  · skip
    refine lv_aload_n hx hb dX2_foresee_15 rfl (lv_at hl 0 rfl) ?_
    refine lv_iconst (v := iI (1)) hx hb dX2_foresee_16 rfl ?_
    have hPc : va_P D vwCl (MW cI d (su σ 6 0 (0)) ++ []) H := by rw [List.append_nil]; exact hP
    have hDc : va_D A (MW cI d (su σ 6 0 (0)) ++ []) := by rw [List.append_nil]; exact hD
    refine g_call (va_runV (As := [.int (iI (1))]) (rest := []) S ((kX2_fail l D cI cZ cQ d (su σ 6 0 (0)) 1 ) H.size) (cwV 1 hts gX2_foresee_X2_fail rfl rfl rfl (by decide +kernel) ⟨Nat.le_of_ble_eq_true rfl, Nat.le_of_ble_eq_true rfl⟩) (g_preV gEx_t hK [0, 1, 2] rfl hPc hDc (fun _ _ _ => trivial) (q0 := 0) (ci := 2) rfl rfl rfl) rfl rfl hl.1 rfl (lv_room (Nat.le_of_ble_eq_true rfl)) dX2_foresee_17 ⟨Nat.le_of_ble_eq_true rfl, Nat.le_of_ble_eq_true rfl⟩) hPc hDc hS hA (fun κ9 H locs hk hP hD hS => ?_)
    have hP : va_P D vwCl (MW cI d (su (su σ 6 0 (0)) 6 0 1)) H := by have h9 : va_P D vwCl (MW cI d (su (su σ 6 0 (0)) 6 0 1) ++ []) H := hP; rw [List.append_nil] at h9; exact h9
    have hD : va_D A (MW cI d (su (su σ 6 0 (0)) 6 0 1)) := by have h9 : va_D A (MW cI d (su (su σ 6 0 (0)) 6 0 1) ++ []) := hD; rw [List.append_nil] at h9; exact h9
    show W p l e ({ frames := 4, cells := 5, slots := 215, locals := 92 } : Room) s m args below meth c H locs 0 0 (MQ below (gQ D (tyMs cI cZ cQ) (fun κ' => MW cI d (mRes (tForesee y0 w0) (mZ σ) σ)) A (fun _ => some (.int (iI (mVal (tForesee y0 w0) (mFore (mZ σ) y0 w0))))) (fun _ => True)) args s 5 215 A) (F0 m 20 ls [.int (iI (0))])
    have es : (mRes (tForesee y0 w0) (mZ σ) σ) = (su (su σ 6 0 (0)) 6 0 1) := by first | (rw [show tForesee y0 w0 = 1 from by unfold tForesee; rw [if_pos (by omega)]]; rfl) | (rw [show tForesee y0 w0 = 2 from by unfold tForesee; rw [if_neg (by omega), if_pos (by omega)]]; rfl) | (rw [show tForesee y0 w0 = 0 from by unfold tForesee; rw [if_neg (by omega), if_neg (by omega)]]; rfl)
    have er : ((mVal (tForesee y0 w0) (mFore (mZ σ) y0 w0) : Int)) = (0) := by first | (rw [show tForesee y0 w0 = 1 from by unfold tForesee; rw [if_pos (by omega)]]; rfl) | (rw [show tForesee y0 w0 = 2 from by unfold tForesee; rw [if_neg (by omega), if_pos (by omega)]]; rfl) | (rw [show tForesee y0 w0 = 0 from by unfold tForesee; rw [if_neg (by omega), if_neg (by omega)]]; rfl)
    exact g_iret (wo := (fun κ' => MW cI d (mRes (tForesee y0 w0) (mZ σ) σ))) (kr := (fun _ => True)) (rv := (fun _ => some (.int (iI (mVal (tForesee y0 w0) (mFore (mZ σ) y0 w0)))))) hx hb hr hlocks (fun _ _ => 0) rfl (by rw [es]; exact hP) hK (by rw [es]; exact hD) hS trivial (by rw [er]) (Nat.le_of_ble_eq_true rfl) (Nat.le_of_ble_eq_true rfl) dX2_foresee_20
set_option maxHeartbeats 4000000 in
set_option maxRecDepth 100000 in
theorem kX2_advise (l : Launch) (D : va_G) (cI cZ cQ : ClassId) (d : Nat → Nat) (σ : St)  (y0 : Int) (hl_y0 : -2147483648 ≤ y0) (hh_y0 : y0 ≤ 2147483647) (hwf : mWF σ) (hbn : ∀ j, σ 4 j ≤ 90000000) (hyr : σ 5 2 ≤ 90000000) : gMet l yX2_advise wsX2_advise ({ frames := 4, cells := 1085, slots := 4895, locals := 120 } : Room) D (tyMs cI cZ cQ) (MW cI d σ) [.ref (d 0), .int (iI y0)] (mEx (MW cI d σ)) (fun _ => some (.int (iI (mVal (tAdvise y0) ((mvO (mZ σ) y0 40).1))))) (fun _ => True) (fun κ' => MW cI d (mRes (tAdvise y0) (mZ σ) σ)) := by
  refine g_startM (cc := cX2_advise) (maxL := 8) (ret := (some .int)) (by decide) rfl (Nat.le_of_ble_eq_true rfl) ?_
  intro p e s m args below meth c A ls H locs S hr hlocks hname hP hK hD hA hS hE hl
  have S0 := S
  obtain ⟨hx, hb, hml, hown, hts⟩ := S0
  have hl : lv_has ls 8 [(0, .ref (d 0)), (1, .int (iI (y0)))] := hl
  have hinX2 : ∀ w ∈ wsX20, w ∈ wsX2_advise := by decide +kernel
  refine lv_aload_n hx hb dX2_advise_0 rfl (lv_at hl 0 rfl) ?_
  refine lv_iconst (v := iI (0)) hx hb dX2_advise_1 rfl ?_
  refine va_put (D := D) (ci := 2) (v := .int (iI (0))) (ty := .int) (C := RX2) (T := TX2) (N := 8) hx hb hts hinX2 tyX2 tyX2_ok nmX2 hown hK hP hD hS 0 rfl rfl 0 (by decide) (hts (.fieldLink RX2 28 "TwinOrchardModel" "thrown" "I") (List.mem_of_getElem? (i := 1) rfl)) (fun _ h9 => h9) rfl (by decide +kernel) rfl rfl (Nat.le_of_ble_eq_true rfl) dX2_advise_2 (fun H locs hP hD hS => ?_)
  have hP : va_P D vwCl (MW cI d (su σ 6 0 (0))) H := hP
  have hD : va_D A (MW cI d (su σ 6 0 (0))) := hD
  refine lv_iload_n hx hb dX2_advise_5 rfl (lv_at hl 1 rfl) ?_
  refine lv_iconst (v := iI (1)) hx hb dX2_advise_6 rfl ?_
  refine lv_bipush (v := iI (6)) hx hb dX2_advise_7 rfl ?_
  have hPc : va_P D vwCl ([] ++ (MW cI d (su σ 6 0 (0)))) H := hP
  have hDc : va_D A ([] ++ (MW cI d (su σ 6 0 (0)))) := hD
  refine g_call (va_runS (As := [.int (iI (y0)), .int (iI (1)), .int (iI (6))]) (rest := []) S ((kX2_isIn l D  y0 1 6 (by first | assumption | omega) (by first | assumption | omega) (by first | assumption | omega) (by first | assumption | omega) (by first | assumption | omega) (by first | assumption | omega)) H.size) (va_cwS 3 hts gX2_advise_X2_isIn rfl rfl rfl (by decide +kernel) ⟨Nat.le_of_ble_eq_true rfl, Nat.le_of_ble_eq_true rfl⟩) (g_preS gEx_t hK [] rfl hPc hDc (fun _ _ _ => trivial)) rfl rfl hl.1 rfl (lv_room (Nat.le_of_ble_eq_true rfl)) dX2_advise_9 ⟨Nat.le_of_ble_eq_true rfl, Nat.le_of_ble_eq_true rfl⟩) hPc hDc hS hA (fun κ9 H locs hk hP hD hS => ?_)
  have hP : va_P D vwCl (MW cI d (su σ 6 0 (0))) H := hP
  have hD : va_D A (MW cI d (su σ 6 0 (0))) := hD
  show W p l e ({ frames := 4, cells := 1085, slots := 4895, locals := 120 } : Room) s m args below meth c H locs 0 0 (MQ below (gQ D (tyMs cI cZ cQ) (fun κ' => MW cI d (mRes (tAdvise y0) (mZ σ) σ)) A (fun _ => some (.int (iI (mVal (tAdvise y0) ((mvO (mZ σ) y0 40).1))))) (fun _ => True)) args s 1085 4895 A) (F0 m 12 ls [.int (iI (bI (1 ≤ y0 ∧ y0 ≤ 6)))])
  refine gb_if_ne (tgt := 21) hx hb dX2_advise_12 (by decide)  (fun c12 => ?_) (fun c12 => ?_)
  · skip
    refine lv_aload_n hx hb dX2_advise_21 rfl (lv_at hl 0 rfl) ?_
    have hPc : va_P D vwCl (MW cI d (su σ 6 0 (0)) ++ []) H := by rw [List.append_nil]; exact hP
    have hDc : va_D A (MW cI d (su σ 6 0 (0)) ++ []) := by rw [List.append_nil]; exact hD
    refine g_call (va_runV (As := []) (rest := []) S ((kX2_kept l D cI cZ cQ d (su σ 6 0 (0))  ) H.size) (cwV 0 hts gX2_advise_X2_kept rfl rfl rfl (by decide +kernel) ⟨Nat.le_of_ble_eq_true rfl, Nat.le_of_ble_eq_true rfl⟩) (g_preV (mEx_g _) hK [0, 1, 2] rfl hPc hDc (fun U hU hW => mEx_w hE hDc hS hA hU hW) (q0 := 0) (ci := 2) rfl rfl rfl) rfl rfl hl.1 rfl (lv_room (Nat.le_of_ble_eq_true rfl)) dX2_advise_22 ⟨Nat.le_of_ble_eq_true rfl, Nat.le_of_ble_eq_true rfl⟩) hPc hDc hS hA (fun κ9 H locs hk hP hD hS => ?_)
    have hP : va_P D vwCl ((MW cI d (su σ 6 0 (0)) ++ KW cI cQ (κ9 0 0).toNat (κ9 0 1).toNat (κ9 0 2).toNat (κ9 0 3).toNat (su σ 6 0 (0)))) H := by have h9 : va_P D vwCl ((MW cI d (su σ 6 0 (0)) ++ KW cI cQ (κ9 0 0).toNat (κ9 0 1).toNat (κ9 0 2).toNat (κ9 0 3).toNat (su σ 6 0 (0))) ++ []) H := hP; rw [List.append_nil] at h9; exact h9
    have hD : va_D A ((MW cI d (su σ 6 0 (0)) ++ KW cI cQ (κ9 0 0).toNat (κ9 0 1).toNat (κ9 0 2).toNat (κ9 0 3).toNat (su σ 6 0 (0)))) := by have h9 : va_D A ((MW cI d (su σ 6 0 (0)) ++ KW cI cQ (κ9 0 0).toNat (κ9 0 1).toNat (κ9 0 2).toNat (κ9 0 3).toNat (su σ 6 0 (0))) ++ []) := hD; rw [List.append_nil] at h9; exact h9
    show W p l e ({ frames := 4, cells := 1085, slots := 4895, locals := 120 } : Room) s m args below meth c H locs 4 212 (MQ below (gQ D (tyMs cI cZ cQ) (fun κ' => MW cI d (mRes (tAdvise y0) (mZ σ) σ)) A (fun _ => some (.int (iI (mVal (tAdvise y0) ((mvO (mZ σ) y0 40).1))))) (fun _ => True)) args s 1085 4895 A) (F0 m 25 ls [.ref ((κ9 0 0).toNat)])
    generalize (κ9 0 0).toNat = o22 at hP hD ⊢
    generalize (κ9 0 1).toNat = a22 at hP hD ⊢
    generalize (κ9 0 2).toNat = b22 at hP hD ⊢
    generalize (κ9 0 3).toNat = c22 at hP hD ⊢
    have hP : va_P D vwCl (MW cI d (su σ 6 0 (0)) ++ [(o22, .inl (cQ, (3, .inr (.inr (.inr (.inr (kq a22 b22 c22))))))), (a22, aI cI 200 ((su σ 6 0 (0)) 3)), (b22, aI cI 6 ((su σ 6 0 (0)) 4)), (c22, aI cI 3 ((su σ 6 0 (0)) 5))]) H := hP
    have hD : va_D A (MW cI d (su σ 6 0 (0)) ++ [(o22, .inl (cQ, (3, .inr (.inr (.inr (.inr (kq a22 b22 c22))))))), (a22, aI cI 200 ((su σ 6 0 (0)) 3)), (b22, aI cI 6 ((su σ 6 0 (0)) 4)), (c22, aI cI 3 ((su σ 6 0 (0)) 5))]) := hD
    refine lv_astore_n (lv' := [(2, .ref (o22)), (0, .ref (d 0)), (1, .int (iI (y0)))]) hx hb dX2_advise_25 rfl hl (by decide) rfl (fun ls hl => ?_)
    refine lv_iconst (v := iI (-1)) hx hb dX2_advise_26 rfl ?_
    refine lv_istore_n (lv' := [(3, .int (iI (-1))), (2, .ref (o22)), (0, .ref (d 0)), (1, .int (iI (y0)))]) hx hb dX2_advise_27 rfl hl (by decide) rfl (fun ls hl => ?_)
    refine lv_aload_n hx hb dX2_advise_28 rfl (lv_at hl 2 rfl) ?_
    refine lv_iload_n hx hb dX2_advise_29 rfl (lv_at hl 3 rfl) ?_
    have hPc : va_P D vwCl (MW cI d (su σ 6 0 (0)) ++ [(o22, .inl (cQ, (3, .inr (.inr (.inr (.inr (kq a22 b22 c22))))))), (a22, aI cI 200 ((su σ 6 0 (0)) 3)), (b22, aI cI 6 ((su σ 6 0 (0)) 4)), (c22, aI cI 3 ((su σ 6 0 (0)) 5))]) H := hP
    have hDc : va_D A (MW cI d (su σ 6 0 (0)) ++ [(o22, .inl (cQ, (3, .inr (.inr (.inr (.inr (kq a22 b22 c22))))))), (a22, aI cI 200 ((su σ 6 0 (0)) 3)), (b22, aI cI 6 ((su σ 6 0 (0)) 4)), (c22, aI cI 3 ((su σ 6 0 (0)) 5))]) := hD
    refine g_call (va_runV (As := [.int (iI (y0))]) (rest := []) S ((kX2_yearsOn l D cI cZ cQ d (su σ 6 0 (0)) y0 (by first | assumption | omega) (mWF_6 hwf _ _) hbn hyr) H.size) (cwV 1 hts gX2_advise_X2_yearsOn rfl rfl rfl (by decide +kernel) ⟨Nat.le_of_ble_eq_true rfl, Nat.le_of_ble_eq_true rfl⟩) (g_preV gEx_t hK [0, 1, 2] rfl hPc hDc (fun _ _ _ => trivial) (q0 := 0) (ci := 2) rfl rfl rfl) rfl rfl hl.1 rfl (lv_room (Nat.le_of_ble_eq_true rfl)) dX2_advise_30 ⟨Nat.le_of_ble_eq_true rfl, Nat.le_of_ble_eq_true rfl⟩) hPc hDc hS hA (fun κ9 H locs hk hP hD hS => ?_)
    have hP : va_P D vwCl (MW cI d (yrS (su σ 6 0 (0)) y0.toNat) ++ [(o22, .inl (cQ, (3, .inr (.inr (.inr (.inr (kq a22 b22 c22))))))), (a22, aI cI 200 ((su σ 6 0 (0)) 3)), (b22, aI cI 6 ((su σ 6 0 (0)) 4)), (c22, aI cI 3 ((su σ 6 0 (0)) 5))]) H := hP
    have hD : va_D A (MW cI d (yrS (su σ 6 0 (0)) y0.toNat) ++ [(o22, .inl (cQ, (3, .inr (.inr (.inr (.inr (kq a22 b22 c22))))))), (a22, aI cI 200 ((su σ 6 0 (0)) 3)), (b22, aI cI 6 ((su σ 6 0 (0)) 4)), (c22, aI cI 3 ((su σ 6 0 (0)) 5))]) := hD
    show W p l e ({ frames := 4, cells := 1085, slots := 4895, locals := 120 } : Room) s m args below meth c H locs 4 212 (MQ below (gQ D (tyMs cI cZ cQ) (fun κ' => MW cI d (mRes (tAdvise y0) (mZ σ) σ)) A (fun _ => some (.int (iI (mVal (tAdvise y0) ((mvO (mZ σ) y0 40).1))))) (fun _ => True)) args s 1085 4895 A) (F0 m 33 ls [.int (iI (yrA (su σ 6 0 (0)) y0.toNat))])
    refine lv_istore (lv' := [(4, .int (iI (yrA (su σ 6 0 (0)) y0.toNat))), (3, .int (iI (-1))), (2, .ref (o22)), (0, .ref (d 0)), (1, .int (iI (y0)))]) hx hb dX2_advise_33 hl (by decide) rfl (fun ls hl => ?_)
    refine lv_aload_n hx hb dX2_advise_35 rfl (lv_at hl 3 rfl) ?_
    refine lv_aload_n hx hb dX2_advise_36 rfl (lv_at hl 2 rfl) ?_
    have hPc : va_P D vwCl ((MW cI d (yrS (su σ 6 0 (0)) y0.toNat) ++ KW cI cQ o22 a22 b22 c22 (su σ 6 0 (0))) ++ []) H := by rw [List.append_nil]; exact hP
    have hDc : va_D A ((MW cI d (yrS (su σ 6 0 (0)) y0.toNat) ++ KW cI cQ o22 a22 b22 c22 (su σ 6 0 (0))) ++ []) := by rw [List.append_nil]; exact hD
    refine g_call (va_runV (As := [.ref (o22)]) (rest := []) S ((kX2_bringBack l D cI cZ cQ d (yrS (su σ 6 0 (0)) y0.toNat) o22 a22 b22 c22 (su σ 6 0 (0)) ) H.size) (cwV 1 hts gX2_advise_X2_bringBack rfl rfl rfl (by decide +kernel) ⟨Nat.le_of_ble_eq_true rfl, Nat.le_of_ble_eq_true rfl⟩) (g_preV (mEx_g _) hK [0, 1, 2] rfl hPc hDc (fun U hU hW => mEx_w hE hDc hS hA hU hW) (q0 := 0) (ci := 2) rfl rfl rfl) rfl rfl hl.1 rfl (lv_room (Nat.le_of_ble_eq_true rfl)) dX2_advise_37 ⟨Nat.le_of_ble_eq_true rfl, Nat.le_of_ble_eq_true rfl⟩) hPc hDc hS hA (fun κ9 H locs hk hP hD hS => ?_)
    have hP : va_P D vwCl (MW cI d (bbS (yrS (su σ 6 0 (0)) y0.toNat) (su σ 6 0 (0))) ++ [(o22, .inl (cQ, (3, .inr (.inr (.inr (.inr (kq a22 b22 c22))))))), (a22, aI cI 200 ((su σ 6 0 (0)) 3)), (b22, aI cI 6 ((su σ 6 0 (0)) 4)), (c22, aI cI 3 ((su σ 6 0 (0)) 5))]) H := by have h9 : va_P D vwCl ((MW cI d (bbS (yrS (su σ 6 0 (0)) y0.toNat) (su σ 6 0 (0))) ++ KW cI cQ o22 a22 b22 c22 (su σ 6 0 (0))) ++ []) H := hP; rw [List.append_nil] at h9; exact h9
    have hD : va_D A (MW cI d (bbS (yrS (su σ 6 0 (0)) y0.toNat) (su σ 6 0 (0))) ++ [(o22, .inl (cQ, (3, .inr (.inr (.inr (.inr (kq a22 b22 c22))))))), (a22, aI cI 200 ((su σ 6 0 (0)) 3)), (b22, aI cI 6 ((su σ 6 0 (0)) 4)), (c22, aI cI 3 ((su σ 6 0 (0)) 5))]) := by have h9 : va_D A ((MW cI d (bbS (yrS (su σ 6 0 (0)) y0.toNat) (su σ 6 0 (0))) ++ KW cI cQ o22 a22 b22 c22 (su σ 6 0 (0))) ++ []) := hD; rw [List.append_nil] at h9; exact h9
    show W p l e ({ frames := 4, cells := 1085, slots := 4895, locals := 120 } : Room) s m args below meth c H locs 5 215 (MQ below (gQ D (tyMs cI cZ cQ) (fun κ' => MW cI d (mRes (tAdvise y0) (mZ σ) σ)) A (fun _ => some (.int (iI (mVal (tAdvise y0) ((mvO (mZ σ) y0 40).1))))) (fun _ => True)) args s 1085 4895 A) (F0 m 40 ls [])
    have e8 : (bbS (yrS (su σ 6 0 (0)) y0.toNat) (su σ 6 0 (0))) = (su σ 6 0 0) := bb_yr _ _
    rw [e8] at hP hD
    have hP : va_P D vwCl (MW cI d (su σ 6 0 0) ++ [(o22, .inl (cQ, (3, .inr (.inr (.inr (.inr (kq a22 b22 c22))))))), (a22, aI cI 200 ((su σ 6 0 (0)) 3)), (b22, aI cI 6 ((su σ 6 0 (0)) 4)), (c22, aI cI 3 ((su σ 6 0 (0)) 5))]) H := hP
    have hD : va_D A (MW cI d (su σ 6 0 0) ++ [(o22, .inl (cQ, (3, .inr (.inr (.inr (.inr (kq a22 b22 c22))))))), (a22, aI cI 200 ((su σ 6 0 (0)) 3)), (b22, aI cI 6 ((su σ 6 0 (0)) 4)), (c22, aI cI 3 ((su σ 6 0 (0)) 5))]) := hD
    refine lv_iconst (v := iI (0)) hx hb dX2_advise_40 rfl ?_
    refine lv_istore (lv' := [(5, .int (iI (0))), (4, .int (iI (yrA (su σ 6 0 (0)) y0.toNat))), (3, .int (iI (-1))), (2, .ref (o22)), (0, .ref (d 0)), (1, .int (iI (y0)))]) hx hb dX2_advise_41 hl (by decide) rfl (fun ls hl => ?_)
    have loop43 : ∀ (n43 : Nat) (t : Int) (q : Int) (g : Int) (cl43 sl43 : Nat), (0 ≤ t) → (t ≤ 40) → (40 - t < (n43 : Int)) → ((q, g) = mvO (mZ σ) y0 t.toNat) → (0 ≤ g ∧ g ≤ 97200) → ((cl43 : Int) ≤ 5 + 27 * t) → ((sl43 : Int) ≤ 215 + 117 * t) → ∀ (H : Heap) (locs : List Loc) (ls : Array Slot), va_P D vwCl (MW cI d (su σ 6 0 0) ++ [(o22, .inl (cQ, (3, .inr (.inr (.inr (.inr (kq a22 b22 c22))))))), (a22, aI cI 200 ((su σ 6 0 (0)) 3)), (b22, aI cI 6 ((su σ 6 0 (0)) 4)), (c22, aI cI 3 ((su σ 6 0 (0)) 5))]) H → va_D A (MW cI d (su σ 6 0 0) ++ [(o22, .inl (cQ, (3, .inr (.inr (.inr (.inr (kq a22 b22 c22))))))), (a22, aI cI 200 ((su σ 6 0 (0)) 3)), (b22, aI cI 6 ((su σ 6 0 (0)) 4)), (c22, aI cI 3 ((su σ 6 0 (0)) 5))]) → va_S A s.heap H locs → lv_has ls 8 [(5, .int (iI (t))), (3, .int (iI (q))), (4, .int (iI (g))), (2, .ref (o22)), (0, .ref (d 0)), (1, .int (iI (y0)))] → W p l e ({ frames := 4, cells := 1085, slots := 4895, locals := 120 } : Room) s m args below meth c H locs cl43 sl43 (MQ below (gQ D (tyMs cI cZ cQ) (fun κ' => MW cI d (mRes (tAdvise y0) (mZ σ) σ)) A (fun _ => some (.int (iI (mVal (tAdvise y0) ((mvO (mZ σ) y0 40).1))))) (fun _ => True)) args s 1085 4895 A) (F0 m 43 ls []) := by
      intro n43
      induction n43 with
      | zero =>
        intro t q g  cl43 sl43 hlo43 hhi43 hm43
        omega
      | succ n43 ih43 =>
        intro t q g  cl43 sl43 hlo43 hhi43 hm43 io im hcl43 hsl43 H locs ls hP hD hS hl
        refine lv_iload hx hb dX2_advise_43 (lv_at hl 0 rfl) ?_
        refine lv_bipush (v := iI (40)) hx hb dX2_advise_45 rfl ?_
        refine gi_icmp_ge (tgt := 138) hx hb dX2_advise_47 (by decide) ⟨by omega, by omega⟩ ⟨by decide, by decide⟩ (fun c47 => ?_) (fun c47 => ?_)
        · skip
          refine lv_iload_n hx hb dX2_advise_138 rfl (lv_at hl 1 rfl) ?_
          have es : (mRes (tAdvise y0) (mZ σ) σ) = (su σ 6 0 0) := by first | (rw [show tAdvise y0 = 1 from by unfold tAdvise; rw [if_pos (by omega)]]; rfl) | (rw [show tAdvise y0 = 0 from by unfold tAdvise; rw [if_neg (by omega)]]; rfl)
          have er : ((mVal (tAdvise y0) ((mvO (mZ σ) y0 40).1) : Int)) = (q) := by rw [show tAdvise y0 = 0 from by unfold tAdvise; rw [if_neg (by omega)]]; show (mvO (mZ σ) y0 40).1 = _; rw [← show t.toNat = 40 by omega, ← io]
          exact g_iret (wo := (fun κ' => MW cI d (mRes (tAdvise y0) (mZ σ) σ))) (kr := (fun _ => True)) (rv := (fun _ => some (.int (iI (mVal (tAdvise y0) ((mvO (mZ σ) y0 40).1)))))) hx hb hr hlocks (fun _ _ => 0) rfl (by rw [es]; exact g_left hP) hK (by rw [es]; exact g_Dleft hD) hS trivial (by rw [er]) (by show cl43 ≤ 1085; omega) (by show sl43 ≤ 4895; omega) dX2_advise_139
        · skip
          refine lv_iconst (v := iI (1)) hx hb dX2_advise_50 rfl ?_
          refine lv_istore (lv' := [(6, .int (iI (1))), (5, .int (iI (t))), (3, .int (iI (q))), (4, .int (iI (g))), (2, .ref (o22)), (0, .ref (d 0)), (1, .int (iI (y0)))]) hx hb dX2_advise_51 hl (by decide) rfl (fun ls hl => ?_)
          have loop53 : ∀ (n53 : Nat) (k : Int) (q2 : Int) (g2 : Int) (cl53 sl53 : Nat), (1 ≤ k) → (k ≤ 10) → (10 - k < (n53 : Int)) → ((q2, g2) = mvC (mZ σ) y0 t (q, g) (k - 1).toNat) → (0 ≤ g2 ∧ g2 ≤ 97200) → ((cl53 : Int) ≤ 5 + 27 * t + 3 * (k - 1)) → ((sl53 : Int) ≤ 215 + 117 * t + 13 * (k - 1)) → ∀ (H : Heap) (locs : List Loc) (ls : Array Slot), va_P D vwCl (MW cI d (su σ 6 0 0) ++ [(o22, .inl (cQ, (3, .inr (.inr (.inr (.inr (kq a22 b22 c22))))))), (a22, aI cI 200 ((su σ 6 0 (0)) 3)), (b22, aI cI 6 ((su σ 6 0 (0)) 4)), (c22, aI cI 3 ((su σ 6 0 (0)) 5))]) H → va_D A (MW cI d (su σ 6 0 0) ++ [(o22, .inl (cQ, (3, .inr (.inr (.inr (.inr (kq a22 b22 c22))))))), (a22, aI cI 200 ((su σ 6 0 (0)) 3)), (b22, aI cI 6 ((su σ 6 0 (0)) 4)), (c22, aI cI 3 ((su σ 6 0 (0)) 5))]) → va_S A s.heap H locs → lv_has ls 8 [(6, .int (iI (k))), (3, .int (iI (q2))), (4, .int (iI (g2))), (5, .int (iI (t))), (2, .ref (o22)), (0, .ref (d 0)), (1, .int (iI (y0)))] → W p l e ({ frames := 4, cells := 1085, slots := 4895, locals := 120 } : Room) s m args below meth c H locs cl53 sl53 (MQ below (gQ D (tyMs cI cZ cQ) (fun κ' => MW cI d (mRes (tAdvise y0) (mZ σ) σ)) A (fun _ => some (.int (iI (mVal (tAdvise y0) ((mvO (mZ σ) y0 40).1))))) (fun _ => True)) args s 1085 4895 A) (F0 m 53 ls []) := by
            intro n53
            induction n53 with
            | zero =>
              intro k q2 g2  cl53 sl53 hlo53 hhi53 hm53
              omega
            | succ n53 ih53 =>
              intro k q2 g2  cl53 sl53 hlo53 hhi53 hm53 ii im2 hcl53 hsl53 H locs ls hP hD hS hl
              have gi := mGn_in (mWF_6 hwf 0 0) hbn hyr (y := y0) (t := t) (c := k) (by omega) (by omega) hlo43 hlo53
              unfold mGn at gi
              refine lv_iload hx hb dX2_advise_53 (lv_at hl 0 rfl) ?_
              refine lv_bipush (v := iI (9)) hx hb dX2_advise_55 rfl ?_
              refine gi_icmp_gt (tgt := 132) hx hb dX2_advise_57 (by decide) ⟨by omega, by omega⟩ ⟨by decide, by decide⟩ (fun c57 => ?_) (fun c57 => ?_)
              · skip
                refine lv_iinc (v := iI (t + 1)) (lv' := [(5, .int (iI (t + 1))), (6, .int (iI (k))), (3, .int (iI (q2))), (4, .int (iI (g2))), (2, .ref (o22)), (0, .ref (d 0)), (1, .int (iI (y0)))]) hx hb dX2_advise_132 hl (k := 3) rfl (iI_add _ _) (by decide) rfl (fun ls hl => ?_)
                refine lv_goto (tgt := 43) hx hb dX2_advise_135 (by decide) ?_
                exact ih43 (t + 1) q2 g2 cl53 sl53 (by omega) (by omega) (by omega) (by rw [mvO_s _ y0 hlo43, ← io, ii, show (k - 1).toNat = 9 by omega]) (by omega) (by omega) (by omega) H locs ls hP hD hS (lv_sub hl [0, 2, 3, 4, 5, 6] rfl)
              · skip
                refine lv_aload_n hx hb dX2_advise_60 rfl (lv_at hl 5 rfl) ?_
                refine lv_iload hx hb dX2_advise_61 (lv_at hl 3 rfl) ?_
                refine lv_bipush (v := iI (8)) hx hb dX2_advise_63 rfl ?_
                refine gi_div hx hb ⟨by omega, by omega⟩ ⟨by omega, by omega⟩ dX2_advise_65 ?_
                refine lv_iload hx hb dX2_advise_66 (lv_at hl 3 rfl) ?_
                refine lv_bipush (v := iI (8)) hx hb dX2_advise_68 rfl ?_
                refine gi_rem hx hb ⟨by omega, by omega⟩ ⟨by omega, by omega⟩ dX2_advise_70 ?_
                refine lv_iconst (v := iI (1)) hx hb dX2_advise_71 rfl ?_
                refine lv_iload hx hb dX2_advise_72 (lv_at hl 0 rfl) ?_
                refine lv_iconst (v := iI (0)) hx hb dX2_advise_74 rfl ?_
                have hPc : va_P D vwCl (MW cI d (su σ 6 0 0) ++ [(o22, .inl (cQ, (3, .inr (.inr (.inr (.inr (kq a22 b22 c22))))))), (a22, aI cI 200 ((su σ 6 0 (0)) 3)), (b22, aI cI 6 ((su σ 6 0 (0)) 4)), (c22, aI cI 3 ((su σ 6 0 (0)) 5))]) H := hP
                have hDc : va_D A (MW cI d (su σ 6 0 0) ++ [(o22, .inl (cQ, (3, .inr (.inr (.inr (.inr (kq a22 b22 c22))))))), (a22, aI cI 200 ((su σ 6 0 (0)) 3)), (b22, aI cI 6 ((su σ 6 0 (0)) 4)), (c22, aI cI 3 ((su σ 6 0 (0)) 5))]) := hD
                refine g_call (va_runV (As := [.int (iI (t / 8)), .int (iI (t % 8)), .int (iI (1)), .int (iI (k)), .int (iI (0))]) (rest := []) S ((kX2_both l D cI cZ cQ d (su σ 6 0 0) (t / 8) (t % 8) 1 k 0 (by first | assumption | omega) (by first | assumption | omega) (by first | assumption | omega) (by unfold mArg; omega) (by first | assumption | omega) (by first | assumption | omega) (mWF_6 hwf _ _)) H.size) (cwV 5 hts gX2_advise_X2_both rfl rfl rfl (by decide +kernel) ⟨Nat.le_of_ble_eq_true rfl, Nat.le_of_ble_eq_true rfl⟩) (g_preV (mEx_g _) hK [0, 1, 2] rfl hPc hDc (fun U hU hW => mEx_w hE hDc hS hA hU hW) (q0 := 0) (ci := 2) rfl rfl rfl) rfl rfl hl.1 rfl (lv_room (Nat.le_of_ble_eq_true rfl)) dX2_advise_75 ⟨by show cl53 + 2 ≤ 1085; omega, by show sl53 + 10 ≤ 4895; omega⟩) hPc hDc hS hA (fun κ9 H locs hk hP hD hS => ?_)
                have hP : va_P D vwCl (MW cI d (mBo (su σ 6 0 0) (t / 8) (t % 8) 1 k 0) ++ [(o22, .inl (cQ, (3, .inr (.inr (.inr (.inr (kq a22 b22 c22))))))), (a22, aI cI 200 ((su σ 6 0 (0)) 3)), (b22, aI cI 6 ((su σ 6 0 (0)) 4)), (c22, aI cI 3 ((su σ 6 0 (0)) 5))]) H := hP
                have hD : va_D A (MW cI d (mBo (su σ 6 0 0) (t / 8) (t % 8) 1 k 0) ++ [(o22, .inl (cQ, (3, .inr (.inr (.inr (.inr (kq a22 b22 c22))))))), (a22, aI cI 200 ((su σ 6 0 (0)) 3)), (b22, aI cI 6 ((su σ 6 0 (0)) 4)), (c22, aI cI 3 ((su σ 6 0 (0)) 5))]) := hD
                show W p l e ({ frames := 4, cells := 1085, slots := 4895, locals := 120 } : Room) s m args below meth c H locs (cl53 + 2) (sl53 + 10) (MQ below (gQ D (tyMs cI cZ cQ) (fun κ' => MW cI d (mRes (tAdvise y0) (mZ σ) σ)) A (fun _ => some (.int (iI (mVal (tAdvise y0) ((mvO (mZ σ) y0 40).1))))) (fun _ => True)) args s 1085 4895 A) (F0 m 78 ls [.int (iI (mBoA (su σ 6 0 0) (t / 8) (t % 8) 1 k 0))])
                refine lv_pop hx hb dX2_advise_78 rfl ?_
                refine lv_aload_n hx hb dX2_advise_79 rfl (lv_at hl 5 rfl) ?_
                refine lv_iload_n hx hb dX2_advise_80 rfl (lv_at hl 6 rfl) ?_
                have hPc : va_P D vwCl (MW cI d (mBo (su σ 6 0 0) (t / 8) (t % 8) 1 k 0) ++ [(o22, .inl (cQ, (3, .inr (.inr (.inr (.inr (kq a22 b22 c22))))))), (a22, aI cI 200 ((su σ 6 0 (0)) 3)), (b22, aI cI 6 ((su σ 6 0 (0)) 4)), (c22, aI cI 3 ((su σ 6 0 (0)) 5))]) H := hP
                have hDc : va_D A (MW cI d (mBo (su σ 6 0 0) (t / 8) (t % 8) 1 k 0) ++ [(o22, .inl (cQ, (3, .inr (.inr (.inr (.inr (kq a22 b22 c22))))))), (a22, aI cI 200 ((su σ 6 0 (0)) 3)), (b22, aI cI 6 ((su σ 6 0 (0)) 4)), (c22, aI cI 3 ((su σ 6 0 (0)) 5))]) := hD
                refine g_call (va_runV (As := [.int (iI (y0))]) (rest := []) S ((kX2_yearsOn l D cI cZ cQ d (mBo (su σ 6 0 0) (t / 8) (t % 8) 1 k 0) y0 (by first | assumption | omega) (mWF_bo (mWF_6 hwf _ _) (by omega) (by decide) (by unfold mArg; omega)) (fun j => by rw [mBo_r _ _ _ _ _ _ 4 (by decide) (by decide)]; exact hbn j) (by rw [mBo_52 _ _ _ _ _ (by omega)]; exact hyr)) H.size) (cwV 1 hts gX2_advise_X2_yearsOn rfl rfl rfl (by decide +kernel) ⟨Nat.le_of_ble_eq_true rfl, Nat.le_of_ble_eq_true rfl⟩) (g_preV gEx_t hK [0, 1, 2] rfl hPc hDc (fun _ _ _ => trivial) (q0 := 0) (ci := 2) rfl rfl rfl) rfl rfl hl.1 rfl (lv_room (Nat.le_of_ble_eq_true rfl)) dX2_advise_81 ⟨by show (cl53 + 2) + 0 ≤ 1085; omega, by show (sl53 + 10) + 0 ≤ 4895; omega⟩) hPc hDc hS hA (fun κ9 H locs hk hP hD hS => ?_)
                have hP : va_P D vwCl (MW cI d (yrS (mBo (su σ 6 0 0) (t / 8) (t % 8) 1 k 0) y0.toNat) ++ [(o22, .inl (cQ, (3, .inr (.inr (.inr (.inr (kq a22 b22 c22))))))), (a22, aI cI 200 ((su σ 6 0 (0)) 3)), (b22, aI cI 6 ((su σ 6 0 (0)) 4)), (c22, aI cI 3 ((su σ 6 0 (0)) 5))]) H := hP
                have hD : va_D A (MW cI d (yrS (mBo (su σ 6 0 0) (t / 8) (t % 8) 1 k 0) y0.toNat) ++ [(o22, .inl (cQ, (3, .inr (.inr (.inr (.inr (kq a22 b22 c22))))))), (a22, aI cI 200 ((su σ 6 0 (0)) 3)), (b22, aI cI 6 ((su σ 6 0 (0)) 4)), (c22, aI cI 3 ((su σ 6 0 (0)) 5))]) := hD
                show W p l e ({ frames := 4, cells := 1085, slots := 4895, locals := 120 } : Room) s m args below meth c H locs (cl53 + 2) (sl53 + 10) (MQ below (gQ D (tyMs cI cZ cQ) (fun κ' => MW cI d (mRes (tAdvise y0) (mZ σ) σ)) A (fun _ => some (.int (iI (mVal (tAdvise y0) ((mvO (mZ σ) y0 40).1))))) (fun _ => True)) args s 1085 4895 A) (F0 m 84 ls [.int (iI (yrA (mBo (su σ 6 0 0) (t / 8) (t % 8) 1 k 0) y0.toNat))])
                refine lv_istore (lv' := [(7, .int (iI (yrA (mBo (su σ 6 0 0) (t / 8) (t % 8) 1 k 0) y0.toNat))), (6, .int (iI (k))), (3, .int (iI (q2))), (4, .int (iI (g2))), (5, .int (iI (t))), (2, .ref (o22)), (0, .ref (d 0)), (1, .int (iI (y0)))]) hx hb dX2_advise_84 hl (by decide) rfl (fun ls hl => ?_)
                refine lv_aload_n hx hb dX2_advise_86 rfl (lv_at hl 6 rfl) ?_
                refine lv_aload_n hx hb dX2_advise_87 rfl (lv_at hl 5 rfl) ?_
                have hPc : va_P D vwCl ((MW cI d (yrS (mBo (su σ 6 0 0) (t / 8) (t % 8) 1 k 0) y0.toNat) ++ KW cI cQ o22 a22 b22 c22 (su σ 6 0 (0))) ++ []) H := by rw [List.append_nil]; exact hP
                have hDc : va_D A ((MW cI d (yrS (mBo (su σ 6 0 0) (t / 8) (t % 8) 1 k 0) y0.toNat) ++ KW cI cQ o22 a22 b22 c22 (su σ 6 0 (0))) ++ []) := by rw [List.append_nil]; exact hD
                refine g_call (va_runV (As := [.ref (o22)]) (rest := []) S ((kX2_bringBack l D cI cZ cQ d (yrS (mBo (su σ 6 0 0) (t / 8) (t % 8) 1 k 0) y0.toNat) o22 a22 b22 c22 (su σ 6 0 (0)) ) H.size) (cwV 1 hts gX2_advise_X2_bringBack rfl rfl rfl (by decide +kernel) ⟨Nat.le_of_ble_eq_true rfl, Nat.le_of_ble_eq_true rfl⟩) (g_preV (mEx_g _) hK [0, 1, 2] rfl hPc hDc (fun U hU hW => mEx_w hE hDc hS hA hU hW) (q0 := 0) (ci := 2) rfl rfl rfl) rfl rfl hl.1 rfl (lv_room (Nat.le_of_ble_eq_true rfl)) dX2_advise_88 ⟨by show (cl53 + 2) + 1 ≤ 1085; omega, by show (sl53 + 10) + 3 ≤ 4895; omega⟩) hPc hDc hS hA (fun κ9 H locs hk hP hD hS => ?_)
                have hP : va_P D vwCl (MW cI d (bbS (yrS (mBo (su σ 6 0 0) (t / 8) (t % 8) 1 k 0) y0.toNat) (su σ 6 0 (0))) ++ [(o22, .inl (cQ, (3, .inr (.inr (.inr (.inr (kq a22 b22 c22))))))), (a22, aI cI 200 ((su σ 6 0 (0)) 3)), (b22, aI cI 6 ((su σ 6 0 (0)) 4)), (c22, aI cI 3 ((su σ 6 0 (0)) 5))]) H := by have h9 : va_P D vwCl ((MW cI d (bbS (yrS (mBo (su σ 6 0 0) (t / 8) (t % 8) 1 k 0) y0.toNat) (su σ 6 0 (0))) ++ KW cI cQ o22 a22 b22 c22 (su σ 6 0 (0))) ++ []) H := hP; rw [List.append_nil] at h9; exact h9
                have hD : va_D A (MW cI d (bbS (yrS (mBo (su σ 6 0 0) (t / 8) (t % 8) 1 k 0) y0.toNat) (su σ 6 0 (0))) ++ [(o22, .inl (cQ, (3, .inr (.inr (.inr (.inr (kq a22 b22 c22))))))), (a22, aI cI 200 ((su σ 6 0 (0)) 3)), (b22, aI cI 6 ((su σ 6 0 (0)) 4)), (c22, aI cI 3 ((su σ 6 0 (0)) 5))]) := by have h9 : va_D A ((MW cI d (bbS (yrS (mBo (su σ 6 0 0) (t / 8) (t % 8) 1 k 0) y0.toNat) (su σ 6 0 (0))) ++ KW cI cQ o22 a22 b22 c22 (su σ 6 0 (0))) ++ []) := hD; rw [List.append_nil] at h9; exact h9
                show W p l e ({ frames := 4, cells := 1085, slots := 4895, locals := 120 } : Room) s m args below meth c H locs (cl53 + 3) (sl53 + 13) (MQ below (gQ D (tyMs cI cZ cQ) (fun κ' => MW cI d (mRes (tAdvise y0) (mZ σ) σ)) A (fun _ => some (.int (iI (mVal (tAdvise y0) ((mvO (mZ σ) y0 40).1))))) (fun _ => True)) args s 1085 4895 A) (F0 m 91 ls [])
                have e8 : (bbS (yrS (mBo (su σ 6 0 0) (t / 8) (t % 8) 1 k 0) y0.toNat) (su σ 6 0 (0))) = (su σ 6 0 0) := bb_by _ _ _ _ _ _ _
                rw [e8] at hP hD
                have hP : va_P D vwCl (MW cI d (su σ 6 0 0) ++ [(o22, .inl (cQ, (3, .inr (.inr (.inr (.inr (kq a22 b22 c22))))))), (a22, aI cI 200 ((su σ 6 0 (0)) 3)), (b22, aI cI 6 ((su σ 6 0 (0)) 4)), (c22, aI cI 3 ((su σ 6 0 (0)) 5))]) H := hP
                have hD : va_D A (MW cI d (su σ 6 0 0) ++ [(o22, .inl (cQ, (3, .inr (.inr (.inr (.inr (kq a22 b22 c22))))))), (a22, aI cI 200 ((su σ 6 0 (0)) 3)), (b22, aI cI 6 ((su σ 6 0 (0)) 4)), (c22, aI cI 3 ((su σ 6 0 (0)) 5))]) := hD
                refine lv_iload hx hb dX2_advise_91 (lv_at hl 0 rfl) ?_
                refine lv_iload hx hb dX2_advise_93 (lv_at hl 3 rfl) ?_
                refine gi_icmp_gt (tgt := 101) hx hb dX2_advise_95 (by decide) ⟨by omega, by omega⟩ ⟨by omega, by omega⟩ (fun c95 => ?_) (fun c95 => ?_)
                · skip
                  refine lv_bipush (v := iI (100)) hx hb dX2_advise_101 rfl ?_
                  refine lv_iload hx hb dX2_advise_103 (lv_at hl 4 rfl) ?_
                  refine lv_bipush (v := iI (8)) hx hb dX2_advise_105 rfl ?_
                  refine gi_div hx hb ⟨by omega, by omega⟩ ⟨by omega, by omega⟩ dX2_advise_107 ?_
                  refine gi_mul hx hb dX2_advise_108 ?_
                  refine lv_bipush (v := iI (10)) hx hb dX2_advise_109 rfl ?_
                  refine lv_iload hx hb dX2_advise_111 (lv_at hl 4 rfl) ?_
                  refine lv_bipush (v := iI (8)) hx hb dX2_advise_113 rfl ?_
                  refine gi_rem hx hb ⟨by omega, by omega⟩ ⟨by omega, by omega⟩ dX2_advise_115 ?_
                  refine gi_mul hx hb dX2_advise_116 ?_
                  refine gi_add hx hb dX2_advise_117 ?_
                  refine lv_iload hx hb dX2_advise_118 (lv_at hl 1 rfl) ?_
                  refine gi_add hx hb dX2_advise_120 ?_
                  refine lv_istore_n (lv' := [(3, .int (iI (((100 * (t / 8)) + (10 * (t % 8))) + k))), (7, .int (iI (yrA (mBo (su σ 6 0 0) (t / 8) (t % 8) 1 k 0) y0.toNat))), (6, .int (iI (k))), (4, .int (iI (g2))), (5, .int (iI (t))), (2, .ref (o22)), (0, .ref (d 0)), (1, .int (iI (y0)))]) hx hb dX2_advise_121 rfl hl (by decide) rfl (fun ls hl => ?_)
                  refine lv_iload hx hb dX2_advise_122 (lv_at hl 1 rfl) ?_
                  refine lv_istore (lv' := [(4, .int (iI (yrA (mBo (su σ 6 0 0) (t / 8) (t % 8) 1 k 0) y0.toNat))), (3, .int (iI (((100 * (t / 8)) + (10 * (t % 8))) + k))), (7, .int (iI (yrA (mBo (su σ 6 0 0) (t / 8) (t % 8) 1 k 0) y0.toNat))), (6, .int (iI (k))), (5, .int (iI (t))), (2, .ref (o22)), (0, .ref (d 0)), (1, .int (iI (y0)))]) hx hb dX2_advise_124 hl (by decide) rfl (fun ls hl => ?_)
                  refine lv_iinc (v := iI (k + 1)) (lv' := [(6, .int (iI (k + 1))), (4, .int (iI (yrA (mBo (su σ 6 0 0) (t / 8) (t % 8) 1 k 0) y0.toNat))), (3, .int (iI (((100 * (t / 8)) + (10 * (t % 8))) + k))), (7, .int (iI (yrA (mBo (su σ 6 0 0) (t / 8) (t % 8) 1 k 0) y0.toNat))), (5, .int (iI (t))), (2, .ref (o22)), (0, .ref (d 0)), (1, .int (iI (y0)))]) hx hb dX2_advise_126 hl (k := 3) rfl (iI_add _ _) (by decide) rfl (fun ls hl => ?_)
                  refine lv_goto (tgt := 53) hx hb dX2_advise_129 (by decide) ?_
                  exact ih53 (k + 1) (((100 * (t / 8)) + (10 * (t % 8))) + k) (yrA (mBo (su σ 6 0 0) (t / 8) (t % 8) 1 k 0) y0.toNat) (cl53 + 3) (sl53 + 13) (by omega) (by omega) (by omega) (by rw [mvC_s _ y0 t (q, g) hlo53, ← ii]; unfold mvS mGn mZ; first | (rw [if_pos (by omega)]; done) | (rw [if_neg (by omega)]; done)) (by omega) (by omega) (by omega) H locs ls hP hD hS (lv_sub hl [0, 2, 1, 4, 5, 6, 7] rfl)
                · skip
                  refine lv_goto (tgt := 126) hx hb dX2_advise_98 (by decide) ?_
                  refine lv_iinc (v := iI (k + 1)) (lv' := [(6, .int (iI (k + 1))), (7, .int (iI (yrA (mBo (su σ 6 0 0) (t / 8) (t % 8) 1 k 0) y0.toNat))), (3, .int (iI (q2))), (4, .int (iI (g2))), (5, .int (iI (t))), (2, .ref (o22)), (0, .ref (d 0)), (1, .int (iI (y0)))]) hx hb dX2_advise_126 hl (k := 1) rfl (iI_add _ _) (by decide) rfl (fun ls hl => ?_)
                  refine lv_goto (tgt := 53) hx hb dX2_advise_129 (by decide) ?_
                  exact ih53 (k + 1) q2 g2 (cl53 + 3) (sl53 + 13) (by omega) (by omega) (by omega) (by rw [mvC_s _ y0 t (q, g) hlo53, ← ii]; unfold mvS mGn mZ; first | (rw [if_pos (by omega)]; done) | (rw [if_neg (by omega)]; done)) (by omega) (by omega) (by omega) H locs ls hP hD hS (lv_sub hl [0, 2, 3, 4, 5, 6, 7] rfl)
          exact loop53 (((10 - (1) + 1 : Int)).toNat) 1 q g cl43 sl43 (by omega) (by omega) (by omega) (by rfl) (by omega) (by omega) (by omega) H locs ls hP hD hS (lv_sub hl [0, 2, 3, 1, 4, 5, 6] rfl)
    exact loop43 (((40 - (0) + 1 : Int)).toNat) 0 (-1) (yrA (su σ 6 0 (0)) y0.toNat) 5 215 (by omega) (by omega) (by omega) (by rfl) (by exact yr1_in (mWF_6 hwf _ _) hbn hyr (by omega) (by omega)) (by omega) (by omega) H locs ls hP hD hS (lv_sub hl [0, 2, 1, 3, 4, 5] rfl)
  · skip
    refine lv_aload_n hx hb dX2_advise_15 rfl (lv_at hl 0 rfl) ?_
    refine lv_iconst (v := iI (1)) hx hb dX2_advise_16 rfl ?_
    have hPc : va_P D vwCl (MW cI d (su σ 6 0 (0)) ++ []) H := by rw [List.append_nil]; exact hP
    have hDc : va_D A (MW cI d (su σ 6 0 (0)) ++ []) := by rw [List.append_nil]; exact hD
    refine g_call (va_runV (As := [.int (iI (1))]) (rest := []) S ((kX2_fail l D cI cZ cQ d (su σ 6 0 (0)) 1 ) H.size) (cwV 1 hts gX2_advise_X2_fail rfl rfl rfl (by decide +kernel) ⟨Nat.le_of_ble_eq_true rfl, Nat.le_of_ble_eq_true rfl⟩) (g_preV gEx_t hK [0, 1, 2] rfl hPc hDc (fun _ _ _ => trivial) (q0 := 0) (ci := 2) rfl rfl rfl) rfl rfl hl.1 rfl (lv_room (Nat.le_of_ble_eq_true rfl)) dX2_advise_17 ⟨Nat.le_of_ble_eq_true rfl, Nat.le_of_ble_eq_true rfl⟩) hPc hDc hS hA (fun κ9 H locs hk hP hD hS => ?_)
    have hP : va_P D vwCl (MW cI d (su (su σ 6 0 (0)) 6 0 1)) H := by have h9 : va_P D vwCl (MW cI d (su (su σ 6 0 (0)) 6 0 1) ++ []) H := hP; rw [List.append_nil] at h9; exact h9
    have hD : va_D A (MW cI d (su (su σ 6 0 (0)) 6 0 1)) := by have h9 : va_D A (MW cI d (su (su σ 6 0 (0)) 6 0 1) ++ []) := hD; rw [List.append_nil] at h9; exact h9
    show W p l e ({ frames := 4, cells := 1085, slots := 4895, locals := 120 } : Room) s m args below meth c H locs 0 0 (MQ below (gQ D (tyMs cI cZ cQ) (fun κ' => MW cI d (mRes (tAdvise y0) (mZ σ) σ)) A (fun _ => some (.int (iI (mVal (tAdvise y0) ((mvO (mZ σ) y0 40).1))))) (fun _ => True)) args s 1085 4895 A) (F0 m 20 ls [.int (iI (0))])
    have es : (mRes (tAdvise y0) (mZ σ) σ) = (su (su σ 6 0 (0)) 6 0 1) := by first | (rw [show tAdvise y0 = 1 from by unfold tAdvise; rw [if_pos (by omega)]]; rfl) | (rw [show tAdvise y0 = 0 from by unfold tAdvise; rw [if_neg (by omega)]]; rfl)
    have er : ((mVal (tAdvise y0) ((mvO (mZ σ) y0 40).1) : Int)) = (0) := by first | (rw [show tAdvise y0 = 1 from by unfold tAdvise; rw [if_pos (by omega)]]; rfl) | (rw [show tAdvise y0 = 0 from by unfold tAdvise; rw [if_neg (by omega)]]; rfl)
    exact g_iret (wo := (fun κ' => MW cI d (mRes (tAdvise y0) (mZ σ) σ))) (kr := (fun _ => True)) (rv := (fun _ => some (.int (iI (mVal (tAdvise y0) ((mvO (mZ σ) y0 40).1)))))) hx hb hr hlocks (fun _ _ => 0) rfl (by rw [es]; exact hP) hK (by rw [es]; exact hD) hS trivial (by rw [er]) (Nat.le_of_ble_eq_true rfl) (Nat.le_of_ble_eq_true rfl) dX2_advise_20
