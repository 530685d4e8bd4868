set_option maxHeartbeats 4000000 in
set_option maxRecDepth 100000 in
theorem kX1_mean (l : Launch) (D : va_G) (cI cZ : ClassId) (d : Nat → Nat) (σ κ : St)   (hwf : xWF σ) : gMet l yX1_mean wsX1_mean ({ frames := 2, cells := 0, slots := 0, locals := 43 } : Room) D (tyXs cI cZ) (XW cI cZ d σ κ) [.ref (d 0)] xEx (fun _ => some (.double (xMean σ))) (fun κ' => κ' = κ) (fun κ' => XW cI cZ d σ κ') := by
  refine g_start (cc := cX1_mean) (maxL := 4) (ret := (some .double)) (by decide) rfl (Nat.le_of_ble_eq_true rfl) ?_
  intro p e s m args below meth c A ls H locs S hr hlocks hname hP hK hD hA hS hE hl
  have S0 := S
  obtain ⟨hx, hb, hml, hown, hts⟩ := S0
  have hl : lv_has ls 4 [(0, .ref (d 0))] := hl
  have hinX1 : ∀ w ∈ wsX10, w ∈ wsX1_mean := by decide +kernel
  have kT := xTrees_in σ
  have kB := xBran_in hwf
  refine lv_aload_n hx hb dX1_mean_0 rfl (lv_at hl 0 rfl) ?_
  have hPc : va_P D vwCl (XW cI cZ d σ κ ++ []) H := by rw [List.append_nil]; exact hP
  have hDc : va_D A (XW cI cZ d σ κ ++ []) := by rw [List.append_nil]; exact hD
  refine g_call (va_runV (As := []) (rest := []) S ((kX1_allTrees l D cI cZ d σ κ  (by first | assumption | omega)) H.size) (cwV 0 hts gX1_mean_X1_allTrees rfl rfl rfl (by decide +kernel) ⟨Nat.le_of_ble_eq_true rfl, Nat.le_of_ble_eq_true rfl⟩) (g_preV xEx_g hK [0, 1] rfl hPc hDc (fun U _ hW => xEx_w hW hE) (q0 := 0) (ci := 1) rfl rfl rfl) rfl rfl hl.1 rfl (lv_room (Nat.le_of_ble_eq_true rfl)) dX1_mean_1 ⟨Nat.le_of_ble_eq_true rfl, Nat.le_of_ble_eq_true rfl⟩) hPc hDc hS hA (fun κ9 H locs hk hP hD hS => ?_)
  have hk : κ = κ9 := hk.symm
  subst hk
  have hP : va_P D vwCl (XW cI cZ d σ κ) H := by have h9 : va_P D vwCl (XW cI cZ d σ κ ++ []) H := hP; rw [List.append_nil] at h9; exact h9
  have hD : va_D A (XW cI cZ d σ κ) := by have h9 : va_D A (XW cI cZ d σ κ ++ []) := hD; rw [List.append_nil] at h9; exact h9
  show W p l e ({ frames := 2, cells := 0, slots := 0, locals := 43 } : Room) s m args below meth c H locs 0 0 (MQ below (gQ D (tyXs cI cZ) (fun κ' => XW cI cZ d σ κ') A (fun _ => some (.double (xMean σ))) (fun κ' => κ' = κ)) args s 0 0 A) (F0 m 4 ls [.int (iI (isumI (fun j => bI (¬ σ 4 j = -1)) 40))])
  refine lv_istore_n (lv' := [(1, .int (iI (isumI (fun j => bI (¬ σ 4 j = -1)) 40))), (0, .ref (d 0))]) hx hb dX1_mean_4 rfl hl (by decide) rfl (fun ls hl => ?_)
  have iT : isumI (fun j => bI (¬ σ 4 j = -1)) 40 = xTrees σ := rfl
  refine lv_iload_n hx hb dX1_mean_5 rfl (lv_at hl 0 rfl) ?_
  refine gi_if_ne (tgt := 11) hx hb dX1_mean_6 (by decide) ⟨by omega, by omega⟩ (fun c6 => ?_) (fun c6 => ?_)
  · skip
    refine lv_iconst (v := iI (0)) hx hb dX1_mean_11 rfl ?_
    refine lv_istore_n (lv' := [(2, .int (iI (0))), (1, .int (iI (isumI (fun j => bI (¬ σ 4 j = -1)) 40))), (0, .ref (d 0))]) hx hb dX1_mean_12 rfl hl (by decide) rfl (fun ls hl => ?_)
    refine lv_iconst (v := iI (0)) hx hb dX1_mean_13 rfl ?_
    refine lv_istore_n (lv' := [(3, .int (iI (0))), (2, .int (iI (0))), (1, .int (iI (isumI (fun j => bI (¬ σ 4 j = -1)) 40))), (0, .ref (d 0))]) hx hb dX1_mean_14 rfl hl (by decide) rfl (fun ls hl => ?_)
    have loop15 : ∀ (n15 : Nat) (i : Int) (a : Int), (0 ≤ i) → (i ≤ 40) → (40 - i < (n15 : Int)) → (a = isumI (σ 5) i) → ∀ (H : Heap) (locs : List Loc) (ls : Array Slot), va_P D vwCl (XW cI cZ d σ κ) H → va_D A (XW cI cZ d σ κ) → va_S A s.heap H locs → lv_has ls 4 [(3, .int (iI (i))), (2, .int (iI (a))), (1, .int (iI (isumI (fun j => bI (¬ σ 4 j = -1)) 40))), (0, .ref (d 0))] → W p l e ({ frames := 2, cells := 0, slots := 0, locals := 43 } : Room) s m args below meth c H locs 0 0 (MQ below (gQ D (tyXs cI cZ) (fun κ' => XW cI cZ d σ κ') A (fun _ => some (.double (xMean σ))) (fun κ' => κ' = κ)) args s 0 0 A) (F0 m 15 ls []) := by
      intro n15
      induction n15 with
      | zero =>
        intro i a  hlo15 hhi15 hm15
        omega
      | succ n15 ih15 =>
        intro i a  hlo15 hhi15 hm15 ia15 H locs ls hP hD hS hl
        refine lv_iload_n hx hb dX1_mean_15 rfl (lv_at hl 0 rfl) ?_
        refine lv_bipush (v := iI (40)) hx hb dX1_mean_16 rfl ?_
        refine gi_icmp_ge (tgt := 36) hx hb dX1_mean_18 (by decide) ⟨by omega, by omega⟩ ⟨by decide, by decide⟩ (fun c18 => ?_) (fun c18 => ?_)
        · skip
          have iB : a = xBran σ := by rw [ia15, show i = 40 by omega]; rfl
          have nn : vf_n64 (FP.ddiv (FP.i2d (iI a)) (FP.i2d (iI (isumI (fun j => bI (¬ σ 4 j = -1)) 40)))) := by rw [iB, iT]; exact mn_ok kB (by omega)
          refine lv_iload_n hx hb dX1_mean_36 rfl (lv_at hl 1 rfl) ?_
          refine lv_i2d hx hb dX1_mean_37 ?_
          refine lv_iload_n hx hb dX1_mean_38 rfl (lv_at hl 2 rfl) ?_
          refine lv_i2d hx hb dX1_mean_39 ?_
          refine lv_ddiv hx hb dX1_mean_40 nn ?_
          have er : (xMean σ) = (FP.ddiv (FP.i2d (iI (a))) (FP.i2d (iI (isumI (fun j => bI (¬ σ 4 j = -1)) 40)))) := by unfold xMean; rw [if_neg (by omega), ← iB]; rfl
          exact g_dret (wo := (fun κ' => XW cI cZ d σ κ')) (kr := (fun κ' => κ' = κ)) (rv := (fun _ => some (.double (xMean σ)))) hx hb hr hlocks κ hP hK hD hS rfl (by rw [er]) (Nat.le_of_ble_eq_true rfl) (Nat.le_of_ble_eq_true rfl) dX1_mean_41
        · skip
          refine lv_iload_n hx hb dX1_mean_21 rfl (lv_at hl 1 rfl) ?_
          refine lv_aload_n hx hb dX1_mean_22 rfl (lv_at hl 3 rfl) ?_
          refine va_get (D := D) (ci := 1) (v := .ref (d 6)) (C := RX1) (T := TX1) (N := 13) hx hb hts hinX1 hown hK hP 0 rfl rfl 5 (by decide) (hts (.fieldLink RX1 25 "TwinOrchard" "branches" "[I") (List.mem_of_getElem? (i := 1) rfl)) (fun _ h9 => h9) rfl dX1_mean_23 ?_
          refine lv_iload_n hx hb dX1_mean_26 rfl (lv_at hl 0 rfl) ?_
          refine gi_iald (a := d 6) (n := 40) (f := σ 5) hx hb hK hP 6 0 rfl rfl (by omega) (by omega) (by decide) dX1_mean_27 ?_
          refine gi_add hx hb dX1_mean_28 ?_
          refine lv_istore_n (lv' := [(2, .int (iI (a + (σ 5 i)))), (3, .int (iI (i))), (1, .int (iI (isumI (fun j => bI (¬ σ 4 j = -1)) 40))), (0, .ref (d 0))]) hx hb dX1_mean_29 rfl hl (by decide) rfl (fun ls hl => ?_)
          refine lv_iinc (v := iI (i + 1)) (lv' := [(3, .int (iI (i + 1))), (2, .int (iI (a + (σ 5 i)))), (1, .int (iI (isumI (fun j => bI (¬ σ 4 j = -1)) 40))), (0, .ref (d 0))]) hx hb dX1_mean_30 hl (k := 1) rfl (iI_add _ _) (by decide) rfl (fun ls hl => ?_)
          refine lv_goto (tgt := 15) hx hb dX1_mean_33 (by decide) ?_
          exact ih15 (i + 1) (a + (σ 5 i))  (by omega) (by omega) (by omega) (by rw [isumI_s _ hlo15, ia15]) H locs ls hP hD hS (lv_sub hl [0, 1, 2, 3] rfl)
    exact loop15 (((40 - (0) + 1 : Int)).toNat) 0 0  (by omega) (by omega) (by omega) (by rw [isumI_0]) H locs ls hP hD hS (lv_sub hl [0, 1, 2, 3] rfl)
  · skip
    refine lv_dconst0 hx hb dX1_mean_9 ?_
    have er : (xMean σ) = (FP.dconst0) := by unfold xMean; rw [if_pos (by omega)]
    exact g_dret (wo := (fun κ' => XW cI cZ d σ κ')) (kr := (fun κ' => κ' = κ)) (rv := (fun _ => some (.double (xMean σ)))) hx hb hr hlocks κ hP hK hD hS rfl (by rw [er]) (Nat.le_of_ble_eq_true rfl) (Nat.le_of_ble_eq_true rfl) dX1_mean_10
