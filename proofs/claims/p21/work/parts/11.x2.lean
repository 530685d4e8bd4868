set_option maxHeartbeats 4000000 in
set_option maxRecDepth 100000 in
theorem kX1_allTrees (l : Launch) (D : va_G) (cI cZ : ClassId) (d : Nat → Nat) (σ κ : St)   (hwf : xWF σ) : gMet l yX1_allTrees wsX1_allTrees ({ frames := 1, cells := 0, slots := 0, locals := 21 } : Room) D (tyXs cI cZ) (XW cI cZ d σ κ) [.ref (d 0)] xEx (fun _ => some (.int (iI (isumI (fun j => bI (¬ σ 4 j = -1)) 40)))) (fun κ' => κ' = κ) (fun κ' => XW cI cZ d σ κ') := by
  refine g_start (cc := cX1_allTrees) (maxL := 3) (ret := (some .int)) (by decide) rfl (Nat.le_of_ble_eq_true rfl) ?_
  intro p e s m args below meth c A ls H locs S hr hlocks hname hP hK hD hA hS hE hl
  have S0 := S
  obtain ⟨hx, hb, hml, hown, hts⟩ := S0
  have hl : lv_has ls 3 [(0, .ref (d 0))] := hl
  have hinX1 : ∀ w ∈ wsX10, w ∈ wsX1_allTrees := by decide +kernel
  refine lv_iconst (v := iI (0)) hx hb dX1_allTrees_0 rfl ?_
  refine lv_istore_n (lv' := [(1, .int (iI (0))), (0, .ref (d 0))]) hx hb dX1_allTrees_1 rfl hl (by decide) rfl (fun ls hl => ?_)
  refine lv_iconst (v := iI (0)) hx hb dX1_allTrees_2 rfl ?_
  refine lv_istore_n (lv' := [(2, .int (iI (0))), (1, .int (iI (0))), (0, .ref (d 0))]) hx hb dX1_allTrees_3 rfl hl (by decide) rfl (fun ls hl => ?_)
  have loop4 : ∀ (n4 : Nat) (i a : Int), (0 ≤ i) → (i ≤ 40) → (40 - i < (n4 : Int)) → (a = isumI (fun j => bI (¬ σ 4 j = -1)) i) → ∀ (H : Heap) (locs : List Loc) (ls : Array Slot), va_P D vwCl (XW cI cZ d σ κ) H → va_D A (XW cI cZ d σ κ) → va_S A s.heap H locs → lv_has ls 3 [(2, .int (iI (i))), (1, .int (iI (a))), (0, .ref (d 0))] → W p l e ({ frames := 1, cells := 0, slots := 0, locals := 21 } : Room) s m args below meth c H locs 0 0 (MQ below (gQ D (tyXs cI cZ) (fun κ' => XW cI cZ d σ κ') A (fun _ => some (.int (iI (isumI (fun j => bI (¬ σ 4 j = -1)) 40)))) (fun κ' => κ' = κ)) args s 0 0 A) (F0 m 4 ls []) := by
    intro n4
    induction n4 with
    | zero =>
      intro i a  hlo4 hhi4 hm4
      omega
    | succ n4 ih4 =>
      intro i a  hlo4 hhi4 hm4 ia4 H locs ls hP hD hS hl
      refine lv_iload_n hx hb dX1_allTrees_4 rfl (lv_at hl 0 rfl) ?_
      refine lv_bipush (v := iI (40)) hx hb dX1_allTrees_5 rfl ?_
      refine gi_icmp_ge (tgt := 32) hx hb dX1_allTrees_7 (by decide) ⟨by omega, by omega⟩ ⟨by decide, by decide⟩ (fun c7 => ?_) (fun c7 => ?_)
      · skip
        refine lv_iload_n hx hb dX1_allTrees_32 rfl (lv_at hl 1 rfl) ?_
        have er : ((isumI (fun j => bI (¬ σ 4 j = -1)) 40 : Int)) = (a) := by rw [ia4, show i = 40 by omega]
        exact g_iret (wo := (fun κ' => XW cI cZ d σ κ')) (kr := (fun κ' => κ' = κ)) (rv := (fun _ => some (.int (iI (isumI (fun j => bI (¬ σ 4 j = -1)) 40))))) hx hb hr hlocks κ rfl hP hK hD hS rfl (by rw [er]) (Nat.le_of_ble_eq_true rfl) (Nat.le_of_ble_eq_true rfl) dX1_allTrees_33
      · skip
        refine lv_iload_n hx hb dX1_allTrees_10 rfl (lv_at hl 1 rfl) ?_
        refine lv_aload_n hx hb dX1_allTrees_11 rfl (lv_at hl 2 rfl) ?_
        refine lv_iload_n hx hb dX1_allTrees_12 rfl (lv_at hl 0 rfl) ?_
        have hPc : va_P D vwCl (XW cI cZ d σ κ ++ []) H := by rw [List.append_nil]; exact hP
        have hDc : va_D A (XW cI cZ d σ κ ++ []) := by rw [List.append_nil]; exact hD
        refine g_call (va_runV (As := [.int (iI (i))]) (rest := [.int (iI (a))]) S ((kX1_hasTree l D cI cZ d σ κ i (by first | assumption | omega) (by first | assumption | omega) (by first | assumption | omega)) H.size) (cwV 1 hts gX1_allTrees_X1_hasTree rfl rfl rfl (by decide +kernel) ⟨Nat.le_of_ble_eq_true rfl, Nat.le_of_ble_eq_true rfl⟩) (g_preV xEx_g hK [0, 1] rfl hPc hDc (fun U _ hW => xEx_w hW hE) (q0 := 0) (ci := 1) rfl rfl rfl) rfl rfl hl.1 rfl (lv_room (Nat.le_of_ble_eq_true rfl)) dX1_allTrees_13 ⟨Nat.le_of_ble_eq_true rfl, Nat.le_of_ble_eq_true rfl⟩) hPc hDc hS hA (fun κ9 H locs hk hP hD hS => ?_)
        have hk : κ = κ9 := hk.symm
        subst hk
        have hP : va_P D vwCl (XW cI cZ d σ κ) H := by have h9 : va_P D vwCl (XW cI cZ d σ κ ++ []) H := hP; rw [List.append_nil] at h9; exact h9
        have hD : va_D A (XW cI cZ d σ κ) := by have h9 : va_D A (XW cI cZ d σ κ ++ []) := hD; rw [List.append_nil] at h9; exact h9
        show W p l e ({ frames := 1, cells := 0, slots := 0, locals := 21 } : Room) s m args below meth c H locs 0 0 (MQ below (gQ D (tyXs cI cZ) (fun κ' => XW cI cZ d σ κ') A (fun _ => some (.int (iI (isumI (fun j => bI (¬ σ 4 j = -1)) 40)))) (fun κ' => κ' = κ)) args s 0 0 A) (F0 m 16 ls [.int (iI (bI (¬ σ 4 i = -1))), .int (iI (a))])
        refine gb_if_eq (tgt := 23) hx hb dX1_allTrees_16 (by decide)  (fun c16 => ?_) (fun c16 => ?_)
        · skip
          refine lv_iconst (v := iI (0)) hx hb dX1_allTrees_23 rfl ?_
          refine gi_add hx hb dX1_allTrees_24 ?_
          refine lv_istore_n (lv' := [(1, .int (iI (a + 0))), (2, .int (iI (i))), (0, .ref (d 0))]) hx hb dX1_allTrees_25 rfl hl (by decide) rfl (fun ls hl => ?_)
          refine lv_iinc (v := iI (i + 1)) (lv' := [(2, .int (iI (i + 1))), (1, .int (iI (a + 0))), (0, .ref (d 0))]) hx hb dX1_allTrees_26 hl (k := 1) rfl (iI_add _ _) (by decide) rfl (fun ls hl => ?_)
          refine lv_goto (tgt := 4) hx hb dX1_allTrees_29 (by decide) ?_
          exact ih4 (i + 1) (a + 0)  (by omega) (by omega) (by omega) (by rw [isumI_s _ hlo4, ia4]; first | rw [bI_t (by assumption)] | rw [bI_f (by assumption)]) H locs ls hP hD hS (lv_sub hl [0, 1, 2] rfl)
        · skip
          refine lv_iconst (v := iI (1)) hx hb dX1_allTrees_19 rfl ?_
          refine lv_goto (tgt := 24) hx hb dX1_allTrees_20 (by decide) ?_
          refine gi_add hx hb dX1_allTrees_24 ?_
          refine lv_istore_n (lv' := [(1, .int (iI (a + 1))), (2, .int (iI (i))), (0, .ref (d 0))]) hx hb dX1_allTrees_25 rfl hl (by decide) rfl (fun ls hl => ?_)
          refine lv_iinc (v := iI (i + 1)) (lv' := [(2, .int (iI (i + 1))), (1, .int (iI (a + 1))), (0, .ref (d 0))]) hx hb dX1_allTrees_26 hl (k := 1) rfl (iI_add _ _) (by decide) rfl (fun ls hl => ?_)
          refine lv_goto (tgt := 4) hx hb dX1_allTrees_29 (by decide) ?_
          exact ih4 (i + 1) (a + 1)  (by omega) (by omega) (by omega) (by rw [isumI_s _ hlo4, ia4]; first | rw [bI_t (by assumption)] | rw [bI_f (by assumption)]) H locs ls hP hD hS (lv_sub hl [0, 1, 2] rfl)
  exact loop4 (((40 - (0) + 1 : Int)).toNat) 0 0  (by omega) (by omega) (by omega) (by rw [isumI_0]) H locs ls hP hD hS (lv_sub hl [0, 1, 2] rfl)
set_option maxHeartbeats 4000000 in
set_option maxRecDepth 100000 in
theorem kX1_allTired (l : Launch) (D : va_G) (cI cZ : ClassId) (d : Nat → Nat) (σ κ : St)   (hwf : xWF σ) : gMet l yX1_allTired wsX1_allTired ({ frames := 0, cells := 0, slots := 0, locals := 0 } : Room) D (tyXs cI cZ) (XW cI cZ d σ κ) [.ref (d 0)] xEx (fun _ => some (.int (iI (isumI (fun j => bI (¬ σ 7 j = 0)) 40)))) (fun κ' => κ' = κ) (fun κ' => XW cI cZ d σ κ') := by
  refine g_start (cc := cX1_allTired) (maxL := 3) (ret := (some .int)) (by decide) rfl (Nat.le_of_ble_eq_true rfl) ?_
  intro p e s m args below meth c A ls H locs S hr hlocks hname hP hK hD hA hS hE hl
  have S0 := S
  obtain ⟨hx, hb, hml, hown, hts⟩ := S0
  have hl : lv_has ls 3 [(0, .ref (d 0))] := hl
  have hinX1 : ∀ w ∈ wsX10, w ∈ wsX1_allTired := by decide +kernel
  refine lv_iconst (v := iI (0)) hx hb dX1_allTired_0 rfl ?_
  refine lv_istore_n (lv' := [(1, .int (iI (0))), (0, .ref (d 0))]) hx hb dX1_allTired_1 rfl hl (by decide) rfl (fun ls hl => ?_)
  refine lv_iconst (v := iI (0)) hx hb dX1_allTired_2 rfl ?_
  refine lv_istore_n (lv' := [(2, .int (iI (0))), (1, .int (iI (0))), (0, .ref (d 0))]) hx hb dX1_allTired_3 rfl hl (by decide) rfl (fun ls hl => ?_)
  have loop4 : ∀ (n4 : Nat) (i a : Int), (0 ≤ i) → (i ≤ 40) → (40 - i < (n4 : Int)) → (a = isumI (fun j => bI (¬ σ 7 j = 0)) i) → ∀ (H : Heap) (locs : List Loc) (ls : Array Slot), va_P D vwCl (XW cI cZ d σ κ) H → va_D A (XW cI cZ d σ κ) → va_S A s.heap H locs → lv_has ls 3 [(2, .int (iI (i))), (1, .int (iI (a))), (0, .ref (d 0))] → W p l e ({ frames := 0, cells := 0, slots := 0, locals := 0 } : Room) s m args below meth c H locs 0 0 (MQ below (gQ D (tyXs cI cZ) (fun κ' => XW cI cZ d σ κ') A (fun _ => some (.int (iI (isumI (fun j => bI (¬ σ 7 j = 0)) 40)))) (fun κ' => κ' = κ)) args s 0 0 A) (F0 m 4 ls []) := by
    intro n4
    induction n4 with
    | zero =>
      intro i a  hlo4 hhi4 hm4
      omega
    | succ n4 ih4 =>
      intro i a  hlo4 hhi4 hm4 ia4 H locs ls hP hD hS hl
      have k7 := xWF_7 hwf i
      refine lv_iload_n hx hb dX1_allTired_4 rfl (lv_at hl 0 rfl) ?_
      refine lv_bipush (v := iI (40)) hx hb dX1_allTired_5 rfl ?_
      refine gi_icmp_ge (tgt := 33) hx hb dX1_allTired_7 (by decide) ⟨by omega, by omega⟩ ⟨by decide, by decide⟩ (fun c7 => ?_) (fun c7 => ?_)
      · skip
        refine lv_iload_n hx hb dX1_allTired_33 rfl (lv_at hl 1 rfl) ?_
        have er : ((isumI (fun j => bI (¬ σ 7 j = 0)) 40 : Int)) = (a) := by rw [ia4, show i = 40 by omega]
        exact g_iret (wo := (fun κ' => XW cI cZ d σ κ')) (kr := (fun κ' => κ' = κ)) (rv := (fun _ => some (.int (iI (isumI (fun j => bI (¬ σ 7 j = 0)) 40))))) hx hb hr hlocks κ rfl hP hK hD hS rfl (by rw [er]) (Nat.le_of_ble_eq_true rfl) (Nat.le_of_ble_eq_true rfl) dX1_allTired_34
      · skip
        refine lv_iload_n hx hb dX1_allTired_10 rfl (lv_at hl 1 rfl) ?_
        refine lv_aload_n hx hb dX1_allTired_11 rfl (lv_at hl 2 rfl) ?_
        refine va_get (D := D) (ci := 1) (v := .ref (d 8)) (C := RX1) (T := TX1) (N := 13) hx hb hts hinX1 hown hK hP 0 rfl rfl 7 (by decide) (hts (.fieldLink RX1 31 "TwinOrchard" "tired" "[Z") (List.mem_of_getElem? (i := 1) rfl)) (fun _ h9 => h9) rfl dX1_allTired_12 ?_
        refine lv_iload_n hx hb dX1_allTired_15 rfl (lv_at hl 0 rfl) ?_
        refine gi_zald (a := d 8) (n := 40) (f := σ 7) hx hb hK hP 8 1 rfl rfl (by omega) (by omega) (by decide) dX1_allTired_16 ?_
        refine gi_if_eq (tgt := 24) hx hb dX1_allTired_17 (by decide) ⟨by omega, by omega⟩ (fun c17 => ?_) (fun c17 => ?_)
        · skip
          refine lv_iconst (v := iI (0)) hx hb dX1_allTired_24 rfl ?_
          refine gi_add hx hb dX1_allTired_25 ?_
          refine lv_istore_n (lv' := [(1, .int (iI (a + 0))), (2, .int (iI (i))), (0, .ref (d 0))]) hx hb dX1_allTired_26 rfl hl (by decide) rfl (fun ls hl => ?_)
          refine lv_iinc (v := iI (i + 1)) (lv' := [(2, .int (iI (i + 1))), (1, .int (iI (a + 0))), (0, .ref (d 0))]) hx hb dX1_allTired_27 hl (k := 1) rfl (iI_add _ _) (by decide) rfl (fun ls hl => ?_)
          refine lv_goto (tgt := 4) hx hb dX1_allTired_30 (by decide) ?_
          exact ih4 (i + 1) (a + 0)  (by omega) (by omega) (by omega) (by rw [isumI_s _ hlo4, ia4]; first | rw [bI_t (by omega)] | rw [bI_f (by omega)]) H locs ls hP hD hS (lv_sub hl [0, 1, 2] rfl)
        · skip
          refine lv_iconst (v := iI (1)) hx hb dX1_allTired_20 rfl ?_
          refine lv_goto (tgt := 25) hx hb dX1_allTired_21 (by decide) ?_
          refine gi_add hx hb dX1_allTired_25 ?_
          refine lv_istore_n (lv' := [(1, .int (iI (a + 1))), (2, .int (iI (i))), (0, .ref (d 0))]) hx hb dX1_allTired_26 rfl hl (by decide) rfl (fun ls hl => ?_)
          refine lv_iinc (v := iI (i + 1)) (lv' := [(2, .int (iI (i + 1))), (1, .int (iI (a + 1))), (0, .ref (d 0))]) hx hb dX1_allTired_27 hl (k := 1) rfl (iI_add _ _) (by decide) rfl (fun ls hl => ?_)
          refine lv_goto (tgt := 4) hx hb dX1_allTired_30 (by decide) ?_
          exact ih4 (i + 1) (a + 1)  (by omega) (by omega) (by omega) (by rw [isumI_s _ hlo4, ia4]; first | rw [bI_t (by omega)] | rw [bI_f (by omega)]) H locs ls hP hD hS (lv_sub hl [0, 1, 2] rfl)
  exact loop4 (((40 - (0) + 1 : Int)).toNat) 0 0  (by omega) (by omega) (by omega) (by rw [isumI_0]) H locs ls hP hD hS (lv_sub hl [0, 1, 2] rfl)
set_option maxHeartbeats 4000000 in
set_option maxRecDepth 100000 in
theorem kX1_applesInBarn (l : Launch) (D : va_G) (cI cZ : ClassId) (d : Nat → Nat) (σ κ : St)    : gMet l yX1_applesInBarn wsX1_applesInBarn ({ frames := 0, cells := 0, slots := 0, locals := 0 } : Room) D (tyXs cI cZ) (XW cI cZ d σ κ) [.ref (d 0)] xEx (fun _ => some (.int (iI (isumI (σ 2) 6)))) (fun κ' => κ' = κ) (fun κ' => XW cI cZ d σ κ') := by
  refine g_start (cc := cX1_applesInBarn) (maxL := 3) (ret := (some .int)) (by decide) rfl (Nat.le_of_ble_eq_true rfl) ?_
  intro p e s m args below meth c A ls H locs S hr hlocks hname hP hK hD hA hS hE hl
  have S0 := S
  obtain ⟨hx, hb, hml, hown, hts⟩ := S0
  have hl : lv_has ls 3 [(0, .ref (d 0))] := hl
  have hinX1 : ∀ w ∈ wsX10, w ∈ wsX1_applesInBarn := by decide +kernel
  refine lv_iconst (v := iI (0)) hx hb dX1_applesInBarn_0 rfl ?_
  refine lv_istore_n (lv' := [(1, .int (iI (0))), (0, .ref (d 0))]) hx hb dX1_applesInBarn_1 rfl hl (by decide) rfl (fun ls hl => ?_)
  refine lv_iconst (v := iI (0)) hx hb dX1_applesInBarn_2 rfl ?_
  refine lv_istore_n (lv' := [(2, .int (iI (0))), (1, .int (iI (0))), (0, .ref (d 0))]) hx hb dX1_applesInBarn_3 rfl hl (by decide) rfl (fun ls hl => ?_)
  have loop4 : ∀ (n4 : Nat) (i a : Int), (0 ≤ i) → (i ≤ 6) → (6 - i < (n4 : Int)) → (a = isumI (σ 2) i) → ∀ (H : Heap) (locs : List Loc) (ls : Array Slot), va_P D vwCl (XW cI cZ d σ κ) H → va_D A (XW cI cZ d σ κ) → va_S A s.heap H locs → lv_has ls 3 [(2, .int (iI (i))), (1, .int (iI (a))), (0, .ref (d 0))] → W p l e ({ frames := 0, cells := 0, slots := 0, locals := 0 } : Room) s m args below meth c H locs 0 0 (MQ below (gQ D (tyXs cI cZ) (fun κ' => XW cI cZ d σ κ') A (fun _ => some (.int (iI (isumI (σ 2) 6)))) (fun κ' => κ' = κ)) args s 0 0 A) (F0 m 4 ls []) := by
    intro n4
    induction n4 with
    | zero =>
      intro i a  hlo4 hhi4 hm4
      omega
    | succ n4 ih4 =>
      intro i a  hlo4 hhi4 hm4 ia4 H locs ls hP hD hS hl
      refine lv_iload_n hx hb dX1_applesInBarn_4 rfl (lv_at hl 0 rfl) ?_
      refine lv_bipush (v := iI (6)) hx hb dX1_applesInBarn_5 rfl ?_
      refine gi_icmp_ge (tgt := 25) hx hb dX1_applesInBarn_7 (by decide) ⟨by omega, by omega⟩ ⟨by decide, by decide⟩ (fun c7 => ?_) (fun c7 => ?_)
      · skip
        refine lv_iload_n hx hb dX1_applesInBarn_25 rfl (lv_at hl 1 rfl) ?_
        have er : ((isumI (σ 2) 6 : Int)) = (a) := by rw [ia4, show i = 6 by omega]
        exact g_iret (wo := (fun κ' => XW cI cZ d σ κ')) (kr := (fun κ' => κ' = κ)) (rv := (fun _ => some (.int (iI (isumI (σ 2) 6))))) hx hb hr hlocks κ rfl hP hK hD hS rfl (by rw [er]) (Nat.le_of_ble_eq_true rfl) (Nat.le_of_ble_eq_true rfl) dX1_applesInBarn_26
      · skip
        refine lv_iload_n hx hb dX1_applesInBarn_10 rfl (lv_at hl 1 rfl) ?_
        refine lv_aload_n hx hb dX1_applesInBarn_11 rfl (lv_at hl 2 rfl) ?_
        refine va_get (D := D) (ci := 1) (v := .ref (d 3)) (C := RX1) (T := TX1) (N := 13) hx hb hts hinX1 hown hK hP 0 rfl rfl 2 (by decide) (hts (.fieldLink RX1 16 "TwinOrchard" "barn" "[I") (List.mem_of_getElem? (i := 1) rfl)) (fun _ h9 => h9) rfl dX1_applesInBarn_12 ?_
        refine lv_iload_n hx hb dX1_applesInBarn_15 rfl (lv_at hl 0 rfl) ?_
        refine gi_iald (a := d 3) (n := 6) (f := σ 2) hx hb hK hP 3 0 rfl rfl (by omega) (by omega) (by decide) dX1_applesInBarn_16 ?_
        refine gi_add hx hb dX1_applesInBarn_17 ?_
        refine lv_istore_n (lv' := [(1, .int (iI (a + (σ 2 i)))), (2, .int (iI (i))), (0, .ref (d 0))]) hx hb dX1_applesInBarn_18 rfl hl (by decide) rfl (fun ls hl => ?_)
        refine lv_iinc (v := iI (i + 1)) (lv' := [(2, .int (iI (i + 1))), (1, .int (iI (a + (σ 2 i)))), (0, .ref (d 0))]) hx hb dX1_applesInBarn_19 hl (k := 1) rfl (iI_add _ _) (by decide) rfl (fun ls hl => ?_)
        refine lv_goto (tgt := 4) hx hb dX1_applesInBarn_22 (by decide) ?_
        exact ih4 (i + 1) (a + (σ 2 i))  (by omega) (by omega) (by omega) (by rw [isumI_s _ hlo4, ia4]) H locs ls hP hD hS (lv_sub hl [0, 1, 2] rfl)
  exact loop4 (((6 - (0) + 1 : Int)).toNat) 0 0  (by omega) (by omega) (by omega) (by rw [isumI_0]) H locs ls hP hD hS (lv_sub hl [0, 1, 2] rfl)
set_option maxHeartbeats 4000000 in
set_option maxRecDepth 100000 in
theorem kX1_weightInBarn (l : Launch) (D : va_G) (cI cZ : ClassId) (d : Nat → Nat) (σ κ : St)    : gMet l yX1_weightInBarn wsX1_weightInBarn ({ frames := 0, cells := 0, slots := 0, locals := 0 } : Room) D (tyXs cI cZ) (XW cI cZ d σ κ) [.ref (d 0)] xEx (fun _ => some (.int (iI (isumI (fun j => σ 2 j * σ 0 j) 6)))) (fun κ' => κ' = κ) (fun κ' => XW cI cZ d σ κ') := by
  refine g_start (cc := cX1_weightInBarn) (maxL := 3) (ret := (some .int)) (by decide) rfl (Nat.le_of_ble_eq_true rfl) ?_
  intro p e s m args below meth c A ls H locs S hr hlocks hname hP hK hD hA hS hE hl
  have S0 := S
  obtain ⟨hx, hb, hml, hown, hts⟩ := S0
  have hl : lv_has ls 3 [(0, .ref (d 0))] := hl
  have hinX1 : ∀ w ∈ wsX10, w ∈ wsX1_weightInBarn := by decide +kernel
  refine lv_iconst (v := iI (0)) hx hb dX1_weightInBarn_0 rfl ?_
  refine lv_istore_n (lv' := [(1, .int (iI (0))), (0, .ref (d 0))]) hx hb dX1_weightInBarn_1 rfl hl (by decide) rfl (fun ls hl => ?_)
  refine lv_iconst (v := iI (0)) hx hb dX1_weightInBarn_2 rfl ?_
  refine lv_istore_n (lv' := [(2, .int (iI (0))), (1, .int (iI (0))), (0, .ref (d 0))]) hx hb dX1_weightInBarn_3 rfl hl (by decide) rfl (fun ls hl => ?_)
  have loop4 : ∀ (n4 : Nat) (i a : Int), (0 ≤ i) → (i ≤ 6) → (6 - i < (n4 : Int)) → (a = isumI (fun j => σ 2 j * σ 0 j) i) → ∀ (H : Heap) (locs : List Loc) (ls : Array Slot), va_P D vwCl (XW cI cZ d σ κ) H → va_D A (XW cI cZ d σ κ) → va_S A s.heap H locs → lv_has ls 3 [(2, .int (iI (i))), (1, .int (iI (a))), (0, .ref (d 0))] → W p l e ({ frames := 0, cells := 0, slots := 0, locals := 0 } : Room) s m args below meth c H locs 0 0 (MQ below (gQ D (tyXs cI cZ) (fun κ' => XW cI cZ d σ κ') A (fun _ => some (.int (iI (isumI (fun j => σ 2 j * σ 0 j) 6)))) (fun κ' => κ' = κ)) args s 0 0 A) (F0 m 4 ls []) := by
    intro n4
    induction n4 with
    | zero =>
      intro i a  hlo4 hhi4 hm4
      omega
    | succ n4 ih4 =>
      intro i a  hlo4 hhi4 hm4 ia4 H locs ls hP hD hS hl
      refine lv_iload_n hx hb dX1_weightInBarn_4 rfl (lv_at hl 0 rfl) ?_
      refine lv_bipush (v := iI (6)) hx hb dX1_weightInBarn_5 rfl ?_
      refine gi_icmp_ge (tgt := 32) hx hb dX1_weightInBarn_7 (by decide) ⟨by omega, by omega⟩ ⟨by decide, by decide⟩ (fun c7 => ?_) (fun c7 => ?_)
      · skip
        refine lv_iload_n hx hb dX1_weightInBarn_32 rfl (lv_at hl 1 rfl) ?_
        have er : ((isumI (fun j => σ 2 j * σ 0 j) 6 : Int)) = (a) := by rw [ia4, show i = 6 by omega]
        exact g_iret (wo := (fun κ' => XW cI cZ d σ κ')) (kr := (fun κ' => κ' = κ)) (rv := (fun _ => some (.int (iI (isumI (fun j => σ 2 j * σ 0 j) 6))))) hx hb hr hlocks κ rfl hP hK hD hS rfl (by rw [er]) (Nat.le_of_ble_eq_true rfl) (Nat.le_of_ble_eq_true rfl) dX1_weightInBarn_33
      · skip
        refine lv_iload_n hx hb dX1_weightInBarn_10 rfl (lv_at hl 1 rfl) ?_
        refine lv_aload_n hx hb dX1_weightInBarn_11 rfl (lv_at hl 2 rfl) ?_
        refine va_get (D := D) (ci := 1) (v := .ref (d 3)) (C := RX1) (T := TX1) (N := 13) hx hb hts hinX1 hown hK hP 0 rfl rfl 2 (by decide) (hts (.fieldLink RX1 16 "TwinOrchard" "barn" "[I") (List.mem_of_getElem? (i := 1) rfl)) (fun _ h9 => h9) rfl dX1_weightInBarn_12 ?_
        refine lv_iload_n hx hb dX1_weightInBarn_15 rfl (lv_at hl 0 rfl) ?_
        refine gi_iald (a := d 3) (n := 6) (f := σ 2) hx hb hK hP 3 0 rfl rfl (by omega) (by omega) (by decide) dX1_weightInBarn_16 ?_
        refine lv_aload_n hx hb dX1_weightInBarn_17 rfl (lv_at hl 2 rfl) ?_
        refine va_get (D := D) (ci := 1) (v := .ref (d 1)) (C := RX1) (T := TX1) (N := 13) hx hb hts hinX1 hown hK hP 0 rfl rfl 0 (by decide) (hts (.fieldLink RX1 9 "TwinOrchard" "weights" "[I") (List.mem_of_getElem? (i := 2) rfl)) (fun _ h9 => h9) rfl dX1_weightInBarn_18 ?_
        refine lv_iload_n hx hb dX1_weightInBarn_21 rfl (lv_at hl 0 rfl) ?_
        refine gi_iald (a := d 1) (n := 6) (f := σ 0) hx hb hK hP 1 0 rfl rfl (by omega) (by omega) (by decide) dX1_weightInBarn_22 ?_
        refine gi_mul hx hb dX1_weightInBarn_23 ?_
        refine gi_add hx hb dX1_weightInBarn_24 ?_
        refine lv_istore_n (lv' := [(1, .int (iI (a + ((σ 2 i) * (σ 0 i))))), (2, .int (iI (i))), (0, .ref (d 0))]) hx hb dX1_weightInBarn_25 rfl hl (by decide) rfl (fun ls hl => ?_)
        refine lv_iinc (v := iI (i + 1)) (lv' := [(2, .int (iI (i + 1))), (1, .int (iI (a + ((σ 2 i) * (σ 0 i))))), (0, .ref (d 0))]) hx hb dX1_weightInBarn_26 hl (k := 1) rfl (iI_add _ _) (by decide) rfl (fun ls hl => ?_)
        refine lv_goto (tgt := 4) hx hb dX1_weightInBarn_29 (by decide) ?_
        exact ih4 (i + 1) (a + ((σ 2 i) * (σ 0 i)))  (by omega) (by omega) (by omega) (by rw [isumI_s _ hlo4, ia4]) H locs ls hP hD hS (lv_sub hl [0, 1, 2] rfl)
  exact loop4 (((6 - (0) + 1 : Int)).toNat) 0 0  (by omega) (by omega) (by omega) (by rw [isumI_0]) H locs ls hP hD hS (lv_sub hl [0, 1, 2] rfl)
set_option maxHeartbeats 4000000 in
set_option maxRecDepth 100000 in
theorem kX1_unlikePairs (l : Launch) (D : va_G) (cI cZ : ClassId) (d : Nat → Nat) (σ κ : St)   (hwf : xWF σ) : gMet l yX1_unlikePairs wsX1_unlikePairs ({ frames := 1, cells := 0, slots := 0, locals := 21 } : Room) D (tyXs cI cZ) (XW cI cZ d σ κ) [.ref (d 0)] xEx (fun _ => some (.int (iI (isumI (fun r => isumI (fun q => upr σ r q) 4) 5)))) (fun κ' => κ' = κ) (fun κ' => XW cI cZ d σ κ') := by
  refine g_start (cc := cX1_unlikePairs) (maxL := 6) (ret := (some .int)) (by decide) rfl (Nat.le_of_ble_eq_true rfl) ?_
  intro p e s m args below meth c A ls H locs S hr hlocks hname hP hK hD hA hS hE hl
  have S0 := S
  obtain ⟨hx, hb, hml, hown, hts⟩ := S0
  have hl : lv_has ls 6 [(0, .ref (d 0))] := hl
  have hinX1 : ∀ w ∈ wsX10, w ∈ wsX1_unlikePairs := by decide +kernel
  refine lv_iconst (v := iI (0)) hx hb dX1_unlikePairs_0 rfl ?_
  refine lv_istore_n (lv' := [(1, .int (iI (0))), (0, .ref (d 0))]) hx hb dX1_unlikePairs_1 rfl hl (by decide) rfl (fun ls hl => ?_)
  refine lv_iconst (v := iI (0)) hx hb dX1_unlikePairs_2 rfl ?_
  refine lv_istore_n (lv' := [(2, .int (iI (0))), (1, .int (iI (0))), (0, .ref (d 0))]) hx hb dX1_unlikePairs_3 rfl hl (by decide) rfl (fun ls hl => ?_)
  have loop4 : ∀ (n4 : Nat) (r a : Int), (0 ≤ r) → (r ≤ 5) → (5 - r < (n4 : Int)) → (a = isumI (fun r => isumI (fun q => upr σ r q) 4) r) → ∀ (H : Heap) (locs : List Loc) (ls : Array Slot), va_P D vwCl (XW cI cZ d σ κ) H → va_D A (XW cI cZ d σ κ) → va_S A s.heap H locs → lv_has ls 6 [(2, .int (iI (r))), (1, .int (iI (a))), (0, .ref (d 0))] → W p l e ({ frames := 1, cells := 0, slots := 0, locals := 21 } : Room) s m args below meth c H locs 0 0 (MQ below (gQ D (tyXs cI cZ) (fun κ' => XW cI cZ d σ κ') A (fun _ => some (.int (iI (isumI (fun r => isumI (fun q => upr σ r q) 4) 5)))) (fun κ' => κ' = κ)) args s 0 0 A) (F0 m 4 ls []) := by
    intro n4
    induction n4 with
    | zero =>
      intro r a  hlo4 hhi4 hm4
      omega
    | succ n4 ih4 =>
      intro r a  hlo4 hhi4 hm4 ia4 H locs ls hP hD hS hl
      refine lv_iload_n hx hb dX1_unlikePairs_4 rfl (lv_at hl 0 rfl) ?_
      refine lv_iconst (v := iI (5)) hx hb dX1_unlikePairs_5 rfl ?_
      refine gi_icmp_ge (tgt := 84) hx hb dX1_unlikePairs_6 (by decide) ⟨by omega, by omega⟩ ⟨by decide, by decide⟩ (fun c6 => ?_) (fun c6 => ?_)
      · skip
        refine lv_iload_n hx hb dX1_unlikePairs_84 rfl (lv_at hl 1 rfl) ?_
        have er : ((isumI (fun r => isumI (fun q => upr σ r q) 4) 5 : Int)) = (a) := by rw [ia4, show r = 5 by omega]
        exact g_iret (wo := (fun κ' => XW cI cZ d σ κ')) (kr := (fun κ' => κ' = κ)) (rv := (fun _ => some (.int (iI (isumI (fun r => isumI (fun q => upr σ r q) 4) 5))))) hx hb hr hlocks κ rfl hP hK hD hS rfl (by rw [er]) (Nat.le_of_ble_eq_true rfl) (Nat.le_of_ble_eq_true rfl) dX1_unlikePairs_85
      · skip
        refine lv_iconst (v := iI (0)) hx hb dX1_unlikePairs_9 rfl ?_
        refine lv_istore_n (lv' := [(3, .int (iI (0))), (2, .int (iI (r))), (1, .int (iI (a))), (0, .ref (d 0))]) hx hb dX1_unlikePairs_10 rfl hl (by decide) rfl (fun ls hl => ?_)
        have loop11 : ∀ (n11 : Nat) (q b : Int), (0 ≤ q) → (q ≤ 4) → (4 - q < (n11 : Int)) → (b = a + isumI (fun q => upr σ r q) q) → ∀ (H : Heap) (locs : List Loc) (ls : Array Slot), va_P D vwCl (XW cI cZ d σ κ) H → va_D A (XW cI cZ d σ κ) → va_S A s.heap H locs → lv_has ls 6 [(3, .int (iI (q))), (1, .int (iI (b))), (2, .int (iI (r))), (0, .ref (d 0))] → W p l e ({ frames := 1, cells := 0, slots := 0, locals := 21 } : Room) s m args below meth c H locs 0 0 (MQ below (gQ D (tyXs cI cZ) (fun κ' => XW cI cZ d σ κ') A (fun _ => some (.int (iI (isumI (fun r => isumI (fun q => upr σ r q) 4) 5)))) (fun κ' => κ' = κ)) args s 0 0 A) (F0 m 11 ls []) := by
          intro n11
          induction n11 with
          | zero =>
            intro q b  hlo11 hhi11 hm11
            omega
          | succ n11 ih11 =>
            intro q b  hlo11 hhi11 hm11 ib H locs ls hP hD hS hl
            have k1 := mir_in (s := r * 8 + q)
            have k41 := xWF_4 hwf (r * 8 + q)
            have k42 := xWF_4 hwf (mir (r * 8 + q))
            have k51 := xWF_5 hwf (r * 8 + q)
            have k52 := xWF_5 hwf (mir (r * 8 + q))
            refine lv_iload_n hx hb dX1_unlikePairs_11 rfl (lv_at hl 0 rfl) ?_
            refine lv_iconst (v := iI (4)) hx hb dX1_unlikePairs_12 rfl ?_
            refine gi_icmp_ge (tgt := 78) hx hb dX1_unlikePairs_13 (by decide) ⟨by omega, by omega⟩ ⟨by decide, by decide⟩ (fun c13 => ?_) (fun c13 => ?_)
            · skip
              refine lv_iinc (v := iI (r + 1)) (lv' := [(2, .int (iI (r + 1))), (3, .int (iI (q))), (1, .int (iI (b))), (0, .ref (d 0))]) hx hb dX1_unlikePairs_78 hl (k := 2) rfl (iI_add _ _) (by decide) rfl (fun ls hl => ?_)
              refine lv_goto (tgt := 4) hx hb dX1_unlikePairs_81 (by decide) ?_
              exact ih4 (r + 1) b  (by omega) (by omega) (by omega) (by rw [isumI_s _ hlo4, ← ia4, ib, show q = 4 by omega]) H locs ls hP hD hS (lv_sub hl [0, 2, 3] rfl)
            · skip
              refine lv_iload_n hx hb dX1_unlikePairs_16 rfl (lv_at hl 2 rfl) ?_
              refine lv_iload_n hx hb dX1_unlikePairs_17 rfl (lv_at hl 0 rfl) ?_
              have hPc : va_P D vwCl ([] ++ XW cI cZ d σ κ) H := hP
              have hDc : va_D A ([] ++ XW cI cZ d σ κ) := hD
              refine g_call (va_runS (As := [.int (iI (r)), .int (iI (q))]) (rest := []) S ((kX1_spotOf l D  r q ) H.size) (va_cwS 2 hts gX1_unlikePairs_X1_spotOf rfl rfl rfl (by decide +kernel) ⟨Nat.le_of_ble_eq_true rfl, Nat.le_of_ble_eq_true rfl⟩) (g_preS gEx_t hK [] rfl hPc hDc (fun _ _ _ => trivial)) rfl rfl hl.1 rfl (lv_room (Nat.le_of_ble_eq_true rfl)) dX1_unlikePairs_18 ⟨Nat.le_of_ble_eq_true rfl, Nat.le_of_ble_eq_true rfl⟩) hPc hDc hS hA (fun κ9 H locs hk hP hD hS => ?_)
              have hP : va_P D vwCl (XW cI cZ d σ κ) H := hP
              have hD : va_D A (XW cI cZ d σ κ) := hD
              show W p l e ({ frames := 1, cells := 0, slots := 0, locals := 21 } : Room) s m args below meth c H locs 0 0 (MQ below (gQ D (tyXs cI cZ) (fun κ' => XW cI cZ d σ κ') A (fun _ => some (.int (iI (isumI (fun r => isumI (fun q => upr σ r q) 4) 5)))) (fun κ' => κ' = κ)) args s 0 0 A) (F0 m 21 ls [.int (iI (r * 8 + q))])
              have k1b := k1 (by omega) (by omega)
              refine lv_istore (lv' := [(4, .int (iI (r * 8 + q))), (3, .int (iI (q))), (1, .int (iI (b))), (2, .int (iI (r))), (0, .ref (d 0))]) hx hb dX1_unlikePairs_21 hl (by decide) rfl (fun ls hl => ?_)
              refine lv_iload hx hb dX1_unlikePairs_23 (lv_at hl 0 rfl) ?_
              have hPc : va_P D vwCl ([] ++ XW cI cZ d σ κ) H := hP
              have hDc : va_D A ([] ++ XW cI cZ d σ κ) := hD
              refine g_call (va_runS (As := [.int (iI (r * 8 + q))]) (rest := []) S ((kX1_mirrorOf l D  (r * 8 + q) (by first | assumption | omega) (by first | assumption | omega)) H.size) (va_cwS 1 hts gX1_unlikePairs_X1_mirrorOf rfl rfl rfl (by decide +kernel) ⟨Nat.le_of_ble_eq_true rfl, Nat.le_of_ble_eq_true rfl⟩) (g_preS gEx_t hK [] rfl hPc hDc (fun _ _ _ => trivial)) rfl rfl hl.1 rfl (lv_room (Nat.le_of_ble_eq_true rfl)) dX1_unlikePairs_25 ⟨Nat.le_of_ble_eq_true rfl, Nat.le_of_ble_eq_true rfl⟩) hPc hDc hS hA (fun κ9 H locs hk hP hD hS => ?_)
              have hP : va_P D vwCl (XW cI cZ d σ κ) H := hP
              have hD : va_D A (XW cI cZ d σ κ) := hD
              show W p l e ({ frames := 1, cells := 0, slots := 0, locals := 21 } : Room) s m args below meth c H locs 0 0 (MQ below (gQ D (tyXs cI cZ) (fun κ' => XW cI cZ d σ κ') A (fun _ => some (.int (iI (isumI (fun r => isumI (fun q => upr σ r q) 4) 5)))) (fun κ' => κ' = κ)) args s 0 0 A) (F0 m 28 ls [.int (iI (mir (r * 8 + q)))])
              refine lv_istore (lv' := [(5, .int (iI (mir (r * 8 + q)))), (4, .int (iI (r * 8 + q))), (3, .int (iI (q))), (1, .int (iI (b))), (2, .int (iI (r))), (0, .ref (d 0))]) hx hb dX1_unlikePairs_28 hl (by decide) rfl (fun ls hl => ?_)
              refine lv_iload_n hx hb dX1_unlikePairs_30 rfl (lv_at hl 3 rfl) ?_
              refine lv_aload_n hx hb dX1_unlikePairs_31 rfl (lv_at hl 5 rfl) ?_
              refine va_get (D := D) (ci := 1) (v := .ref (d 5)) (C := RX1) (T := TX1) (N := 13) hx hb hts hinX1 hown hK hP 0 rfl rfl 4 (by decide) (hts (.fieldLink RX1 22 "TwinOrchard" "kinds" "[I") (List.mem_of_getElem? (i := 1) rfl)) (fun _ h9 => h9) rfl dX1_unlikePairs_32 ?_
              refine lv_iload hx hb dX1_unlikePairs_35 (lv_at hl 1 rfl) ?_
              refine gi_iald (a := d 5) (n := 40) (f := σ 4) hx hb hK hP 5 0 rfl rfl (by omega) (by omega) (by decide) dX1_unlikePairs_37 ?_
              refine lv_aload_n hx hb dX1_unlikePairs_38 rfl (lv_at hl 5 rfl) ?_
              refine va_get (D := D) (ci := 1) (v := .ref (d 5)) (C := RX1) (T := TX1) (N := 13) hx hb hts hinX1 hown hK hP 0 rfl rfl 4 (by decide) (hts (.fieldLink RX1 22 "TwinOrchard" "kinds" "[I") (List.mem_of_getElem? (i := 1) rfl)) (fun _ h9 => h9) rfl dX1_unlikePairs_39 ?_
              refine lv_iload hx hb dX1_unlikePairs_42 (lv_at hl 0 rfl) ?_
              refine gi_iald (a := d 5) (n := 40) (f := σ 4) hx hb hK hP 5 0 rfl rfl (by omega) (by omega) (by decide) dX1_unlikePairs_44 ?_
              refine gi_icmp_ne (tgt := 65) hx hb dX1_unlikePairs_45 (by decide) ⟨by omega, by omega⟩ ⟨by omega, by omega⟩ (fun c45 => ?_) (fun c45 => ?_)
              · skip
                refine lv_iconst (v := iI (1)) hx hb dX1_unlikePairs_65 rfl ?_
                refine lv_goto (tgt := 70) hx hb dX1_unlikePairs_66 (by decide) ?_
                refine gi_add hx hb dX1_unlikePairs_70 ?_
                refine lv_istore_n (lv' := [(1, .int (iI (b + 1))), (5, .int (iI (mir (r * 8 + q)))), (4, .int (iI (r * 8 + q))), (3, .int (iI (q))), (2, .int (iI (r))), (0, .ref (d 0))]) hx hb dX1_unlikePairs_71 rfl hl (by decide) rfl (fun ls hl => ?_)
                refine lv_iinc (v := iI (q + 1)) (lv' := [(3, .int (iI (q + 1))), (1, .int (iI (b + 1))), (5, .int (iI (mir (r * 8 + q)))), (4, .int (iI (r * 8 + q))), (2, .int (iI (r))), (0, .ref (d 0))]) hx hb dX1_unlikePairs_72 hl (k := 3) rfl (iI_add _ _) (by decide) rfl (fun ls hl => ?_)
                refine lv_goto (tgt := 11) hx hb dX1_unlikePairs_75 (by decide) ?_
                exact ih11 (q + 1) (b + 1)  (by omega) (by omega) (by omega) (by rw [isumI_s _ hlo11, ib]; first | (rw [show upr σ r q = 1 from bI_t (by omega)]; omega) | (rw [show upr σ r q = 0 from bI_f (by omega)]; omega)) H locs ls hP hD hS (lv_sub hl [0, 1, 4, 5] rfl)
              · skip
                refine lv_aload_n hx hb dX1_unlikePairs_48 rfl (lv_at hl 5 rfl) ?_
                refine va_get (D := D) (ci := 1) (v := .ref (d 6)) (C := RX1) (T := TX1) (N := 13) hx hb hts hinX1 hown hK hP 0 rfl rfl 5 (by decide) (hts (.fieldLink RX1 25 "TwinOrchard" "branches" "[I") (List.mem_of_getElem? (i := 2) rfl)) (fun _ h9 => h9) rfl dX1_unlikePairs_49 ?_
                refine lv_iload hx hb dX1_unlikePairs_52 (lv_at hl 1 rfl) ?_
                refine gi_iald (a := d 6) (n := 40) (f := σ 5) hx hb hK hP 6 0 rfl rfl (by omega) (by omega) (by decide) dX1_unlikePairs_54 ?_
                refine lv_aload_n hx hb dX1_unlikePairs_55 rfl (lv_at hl 5 rfl) ?_
                refine va_get (D := D) (ci := 1) (v := .ref (d 6)) (C := RX1) (T := TX1) (N := 13) hx hb hts hinX1 hown hK hP 0 rfl rfl 5 (by decide) (hts (.fieldLink RX1 25 "TwinOrchard" "branches" "[I") (List.mem_of_getElem? (i := 2) rfl)) (fun _ h9 => h9) rfl dX1_unlikePairs_56 ?_
                refine lv_iload hx hb dX1_unlikePairs_59 (lv_at hl 0 rfl) ?_
                refine gi_iald (a := d 6) (n := 40) (f := σ 5) hx hb hK hP 6 0 rfl rfl (by omega) (by omega) (by decide) dX1_unlikePairs_61 ?_
                refine gi_icmp_eq (tgt := 69) hx hb dX1_unlikePairs_62 (by decide) ⟨by omega, by omega⟩ ⟨by omega, by omega⟩ (fun c62 => ?_) (fun c62 => ?_)
                · skip
                  refine lv_iconst (v := iI (0)) hx hb dX1_unlikePairs_69 rfl ?_
                  refine gi_add hx hb dX1_unlikePairs_70 ?_
                  refine lv_istore_n (lv' := [(1, .int (iI (b + 0))), (5, .int (iI (mir (r * 8 + q)))), (4, .int (iI (r * 8 + q))), (3, .int (iI (q))), (2, .int (iI (r))), (0, .ref (d 0))]) hx hb dX1_unlikePairs_71 rfl hl (by decide) rfl (fun ls hl => ?_)
                  refine lv_iinc (v := iI (q + 1)) (lv' := [(3, .int (iI (q + 1))), (1, .int (iI (b + 0))), (5, .int (iI (mir (r * 8 + q)))), (4, .int (iI (r * 8 + q))), (2, .int (iI (r))), (0, .ref (d 0))]) hx hb dX1_unlikePairs_72 hl (k := 3) rfl (iI_add _ _) (by decide) rfl (fun ls hl => ?_)
                  refine lv_goto (tgt := 11) hx hb dX1_unlikePairs_75 (by decide) ?_
                  exact ih11 (q + 1) (b + 0)  (by omega) (by omega) (by omega) (by rw [isumI_s _ hlo11, ib]; first | (rw [show upr σ r q = 1 from bI_t (by omega)]; omega) | (rw [show upr σ r q = 0 from bI_f (by omega)]; omega)) H locs ls hP hD hS (lv_sub hl [0, 1, 4, 5] rfl)
                · skip
                  refine lv_iconst (v := iI (1)) hx hb dX1_unlikePairs_65 rfl ?_
                  refine lv_goto (tgt := 70) hx hb dX1_unlikePairs_66 (by decide) ?_
                  refine gi_add hx hb dX1_unlikePairs_70 ?_
                  refine lv_istore_n (lv' := [(1, .int (iI (b + 1))), (5, .int (iI (mir (r * 8 + q)))), (4, .int (iI (r * 8 + q))), (3, .int (iI (q))), (2, .int (iI (r))), (0, .ref (d 0))]) hx hb dX1_unlikePairs_71 rfl hl (by decide) rfl (fun ls hl => ?_)
                  refine lv_iinc (v := iI (q + 1)) (lv' := [(3, .int (iI (q + 1))), (1, .int (iI (b + 1))), (5, .int (iI (mir (r * 8 + q)))), (4, .int (iI (r * 8 + q))), (2, .int (iI (r))), (0, .ref (d 0))]) hx hb dX1_unlikePairs_72 hl (k := 3) rfl (iI_add _ _) (by decide) rfl (fun ls hl => ?_)
                  refine lv_goto (tgt := 11) hx hb dX1_unlikePairs_75 (by decide) ?_
                  exact ih11 (q + 1) (b + 1)  (by omega) (by omega) (by omega) (by rw [isumI_s _ hlo11, ib]; first | (rw [show upr σ r q = 1 from bI_t (by omega)]; omega) | (rw [show upr σ r q = 0 from bI_f (by omega)]; omega)) H locs ls hP hD hS (lv_sub hl [0, 1, 4, 5] rfl)
        exact loop11 (((4 - (0) + 1 : Int)).toNat) 0 a  (by omega) (by omega) (by omega) (by rw [isumI_0, Int.add_zero]) H locs ls hP hD hS (lv_sub hl [0, 2, 1, 3] rfl)
  exact loop4 (((5 - (0) + 1 : Int)).toNat) 0 0  (by omega) (by omega) (by omega) (by rw [isumI_0]) H locs ls hP hD hS (lv_sub hl [0, 1, 2] rfl)
set_option maxHeartbeats 4000000 in
set_option maxRecDepth 100000 in
theorem kX1_balancedApples (l : Launch) (D : va_G) (cI cZ : ClassId) (d : Nat → Nat) (σ κ : St)  (s0 : Int) (h0 : 0 ≤ s0) (h1 : s0 < 6) (hwf : xWF σ) : gMet l yX1_balancedApples wsX1_balancedApples ({ frames := 1, cells := 0, slots := 0, locals := 24 } : Room) D (tyXs cI cZ) (XW cI cZ d σ κ) [.ref (d 0), .int (iI s0)] xEx (fun _ => some (.int (iI (bal σ s0)))) (fun κ' => κ' = κ) (fun κ' => XW cI cZ d σ κ') := by
  refine g_start (cc := cX1_balancedApples) (maxL := 2) (ret := (some .int)) (by decide) rfl (Nat.le_of_ble_eq_true rfl) ?_
  intro p e s m args below meth c A ls H locs S hr hlocks hname hP hK hD hA hS hE hl
  have S0 := S
  obtain ⟨hx, hb, hml, hown, hts⟩ := S0
  have hl : lv_has ls 2 [(0, .ref (d 0)), (1, .int (iI (s0)))] := hl
  have hinX1 : ∀ w ∈ wsX10, w ∈ wsX1_balancedApples := by decide +kernel
  have k2 := xWF_2 hwf s0
  refine lv_iconst (v := iI (0)) hx hb dX1_balancedApples_0 rfl ?_
  refine lv_aload_n hx hb dX1_balancedApples_1 rfl (lv_at hl 0 rfl) ?_
  refine va_get (D := D) (ci := 1) (v := .ref (d 3)) (C := RX1) (T := TX1) (N := 13) hx hb hts hinX1 hown hK hP 0 rfl rfl 2 (by decide) (hts (.fieldLink RX1 16 "TwinOrchard" "barn" "[I") (List.mem_of_getElem? (i := 1) rfl)) (fun _ h9 => h9) rfl dX1_balancedApples_2 ?_
  refine lv_iload_n hx hb dX1_balancedApples_5 rfl (lv_at hl 1 rfl) ?_
  refine gi_iald (a := d 3) (n := 6) (f := σ 2) hx hb hK hP 3 0 rfl rfl (by omega) (by omega) (by decide) dX1_balancedApples_6 ?_
  refine lv_bipush (v := iI (20)) hx hb dX1_balancedApples_7 rfl ?_
  refine gi_min hx hb (hml.trans hl.1.symm) hown (hts _ (List.mem_of_getElem? (i := 2) rfl)) (hts _ (List.mem_of_getElem? (i := 3) rfl)) (hts _ (List.mem_of_getElem? (i := 4) rfl)) (hts _ (List.mem_of_getElem? (i := 5) rfl)) (Nat.le_of_ble_eq_true rfl) (Nat.le_of_ble_eq_true rfl) (Nat.le_of_ble_eq_true rfl) (Nat.le_of_ble_eq_true rfl) ⟨by omega, by omega⟩ ⟨by decide, by decide⟩ dX1_balancedApples_9 ?_
  refine gi_max hx hb (hml.trans hl.1.symm) hown (hts _ (List.mem_of_getElem? (i := 6) rfl)) (hts _ (List.mem_of_getElem? (i := 7) rfl)) (hts _ (List.mem_of_getElem? (i := 4) rfl)) (hts _ (List.mem_of_getElem? (i := 8) rfl)) (Nat.le_of_ble_eq_true rfl) (Nat.le_of_ble_eq_true rfl) (Nat.le_of_ble_eq_true rfl) (Nat.le_of_ble_eq_true rfl) ⟨by decide, by decide⟩ ⟨by omega, by omega⟩ dX1_balancedApples_12 ?_
  have er : ((bal σ s0 : Int)) = (max 0 (min (σ 2 s0) 20)) := by first | rfl | omega | (simp [bI, *]; done)
  exact g_iret (wo := (fun κ' => XW cI cZ d σ κ')) (kr := (fun κ' => κ' = κ)) (rv := (fun _ => some (.int (iI (bal σ s0))))) hx hb hr hlocks κ rfl hP hK hD hS rfl (by rw [er]) (Nat.le_of_ble_eq_true rfl) (Nat.le_of_ble_eq_true rfl) dX1_balancedApples_15
set_option maxHeartbeats 4000000 in
set_option maxRecDepth 100000 in
theorem kX0_shorten (l : Launch) (D : va_G) (cI cZ : ClassId) (d : Nat → Nat) (σ κ : St)  (n0 : Int)  : gMet l yX0_shorten wsX0_shorten ({ frames := 0, cells := 0, slots := 0, locals := 0 } : Room) D (tyXs cI cZ) (XW cI cZ d σ κ) [.ref (d 10), .int (iI n0)] xEx (fun _ => none) (fun κ' => κ' = su (su κ 0 2 (κ 0 2 - n0)) 0 3 (0)) (fun κ' => XW cI cZ d σ κ') := by
  refine g_start (cc := cX0_shorten) (maxL := 2) (ret := none) (by decide) rfl (Nat.le_of_ble_eq_true rfl) ?_
  intro p e s m args below meth c A ls H locs S hr hlocks hname hP hK hD hA hS hE hl
  have S0 := S
  obtain ⟨hx, hb, hml, hown, hts⟩ := S0
  have hl : lv_has ls 2 [(0, .ref (d 10)), (1, .int (iI (n0)))] := hl
  have hinX0 : ∀ w ∈ wsX00, w ∈ wsX0_shorten := by decide +kernel
  refine lv_aload_n hx hb dX0_shorten_0 rfl (lv_at hl 0 rfl) ?_
  refine lv_dup hx hb dX0_shorten_1 rfl ?_
  refine va_get (D := D) (ci := 0) (v := .int (iI (κ 0 2))) (C := RX0) (T := TX0) (N := 4) hx hb hts hinX0 hown hK hP 10 rfl rfl 2 (by decide) (hts (.fieldLink RX0 9 "TwinOrchard$Tree" "branches" "I") (List.mem_of_getElem? (i := 1) rfl)) (fun _ h9 => h9) rfl dX0_shorten_2 ?_
  refine lv_iload_n hx hb dX0_shorten_5 rfl (lv_at hl 1 rfl) ?_
  refine gi_sub hx hb dX0_shorten_6 ?_
  refine va_put (D := D) (ci := 0) (v := .int (iI ((κ 0 2) - n0))) (ty := .int) (C := RX0) (T := TX0) (N := 4) hx hb hts hinX0 tyX0 tyX0_ok nmX0 hown hK hP hD hS 10 rfl rfl 2 (by decide) (hts (.fieldLink RX0 9 "TwinOrchard$Tree" "branches" "I") (List.mem_of_getElem? (i := 1) rfl)) (fun _ h9 => h9) rfl (by decide +kernel) rfl rfl (Nat.le_of_ble_eq_true rfl) dX0_shorten_7 (fun H locs hP hD hS => ?_)
  have hP : va_P D vwCl (XW cI cZ d σ (su κ 0 2 ((κ 0 2) - n0))) H := hP
  have hD : va_D A (XW cI cZ d σ (su κ 0 2 ((κ 0 2) - n0))) := hD
  refine lv_aload_n hx hb dX0_shorten_10 rfl (lv_at hl 0 rfl) ?_
  refine lv_iconst (v := iI (0)) hx hb dX0_shorten_11 rfl ?_
  refine va_put (D := D) (ci := 0) (v := .int (iI (0))) (ty := .boolean) (C := RX0) (T := TX0) (N := 4) hx hb hts hinX0 tyX0 tyX0_ok nmX0 hown hK hP hD hS 10 rfl rfl 3 (by decide) (hts (.fieldLink RX0 15 "TwinOrchard$Tree" "tired" "Z") (List.mem_of_getElem? (i := 2) rfl)) (fun _ h9 => h9) rfl (by decide +kernel) (nar_z (Or.inl rfl)) (fit_z (Or.inl rfl)) (Nat.le_of_ble_eq_true rfl) dX0_shorten_12 (fun H locs hP hD hS => ?_)
  have hP : va_P D vwCl (XW cI cZ d σ (su (su κ 0 2 ((κ 0 2) - n0)) 0 3 (0))) H := hP
  have hD : va_D A (XW cI cZ d σ (su (su κ 0 2 ((κ 0 2) - n0)) 0 3 (0))) := hD
  exact g_vret (wo := (fun κ' => XW cI cZ d σ κ')) (kr := (fun κ' => κ' = su (su κ 0 2 (κ 0 2 - n0)) 0 3 (0))) (rv := (fun _ => none)) hx hb hr hlocks (su (su κ 0 2 ((κ 0 2) - n0)) 0 3 (0)) hP hK hD hS rfl rfl (Nat.le_of_ble_eq_true rfl) (Nat.le_of_ble_eq_true rfl) dX0_shorten_15
set_option maxHeartbeats 4000000 in
set_option maxRecDepth 100000 in
theorem kX0_apples (l : Launch) (D : va_G) (cI cZ : ClassId) (d : Nat → Nat) (σ κ : St)   (hkw : kWF κ) : gMet l yX0_apples wsX0_apples ({ frames := 0, cells := 0, slots := 0, locals := 0 } : Room) D (tyXs cI cZ) (XW cI cZ d σ κ) [.ref (d 10)] xEx (fun _ => some (.int (iI (apl (κ 0 0) (κ 0 2) (κ 0 3))))) (fun κ' => κ' = κ) (fun κ' => XW cI cZ d σ κ') := by
  refine g_start (cc := cX0_apples) (maxL := 2) (ret := (some .int)) (by decide) rfl (Nat.le_of_ble_eq_true rfl) ?_
  intro p e s m args below meth c A ls H locs S hr hlocks hname hP hK hD hA hS hE hl
  have S0 := S
  obtain ⟨hx, hb, hml, hown, hts⟩ := S0
  have hl : lv_has ls 2 [(0, .ref (d 10))] := hl
  have hinX0 : ∀ w ∈ wsX00, w ∈ wsX0_apples := by decide +kernel
  obtain ⟨⟨v1, v2⟩, ⟨a1, a2⟩, ⟨b1, b2⟩, t1, t2⟩ := id hkw
  have km := mul9 ⟨b1, b2⟩ ⟨v1, v2⟩
  refine lv_aload_n hx hb dX0_apples_0 rfl (lv_at hl 0 rfl) ?_
  refine va_get (D := D) (ci := 0) (v := .int (iI (κ 0 2))) (C := RX0) (T := TX0) (N := 4) hx hb hts hinX0 hown hK hP 10 rfl rfl 2 (by decide) (hts (.fieldLink RX0 9 "TwinOrchard$Tree" "branches" "I") (List.mem_of_getElem? (i := 1) rfl)) (fun _ h9 => h9) rfl dX0_apples_1 ?_
  refine lv_aload_n hx hb dX0_apples_4 rfl (lv_at hl 0 rfl) ?_
  refine va_get (D := D) (ci := 0) (v := .int (iI (κ 0 0))) (C := RX0) (T := TX0) (N := 4) hx hb hts hinX0 hown hK hP 10 rfl rfl 0 (by decide) (hts (.fieldLink RX0 19 "TwinOrchard$Tree" "vigour" "I") (List.mem_of_getElem? (i := 2) rfl)) (fun _ h9 => h9) rfl dX0_apples_5 ?_
  refine gi_mul hx hb dX0_apples_8 ?_
  refine lv_istore_n (lv' := [(1, .int (iI ((κ 0 2) * (κ 0 0)))), (0, .ref (d 10))]) hx hb dX0_apples_9 rfl hl (by decide) rfl (fun ls hl => ?_)
  refine lv_aload_n hx hb dX0_apples_10 rfl (lv_at hl 1 rfl) ?_
  refine va_get (D := D) (ci := 0) (v := .int (iI (κ 0 3))) (C := RX0) (T := TX0) (N := 4) hx hb hts hinX0 hown hK hP 10 rfl rfl 3 (by decide) (hts (.fieldLink RX0 15 "TwinOrchard$Tree" "tired" "Z") (List.mem_of_getElem? (i := 3) rfl)) (fun _ h9 => h9) rfl dX0_apples_11 ?_
  refine gi_if_eq (tgt := 23) hx hb dX0_apples_14 (by decide) ⟨by omega, by omega⟩ (fun c14 => ?_) (fun c14 => ?_)
  · skip
    refine lv_iload_n hx hb dX0_apples_23 rfl (lv_at hl 0 rfl) ?_
    have er : ((apl (κ 0 0) (κ 0 2) (κ 0 3) : Int)) = ((κ 0 2) * (κ 0 0)) := by unfold apl; first | (rw [if_pos (by omega)]; done) | (rw [if_neg (by omega)]; done)
    exact g_iret (wo := (fun κ' => XW cI cZ d σ κ')) (kr := (fun κ' => κ' = κ)) (rv := (fun _ => some (.int (iI (apl (κ 0 0) (κ 0 2) (κ 0 3)))))) hx hb hr hlocks κ rfl hP hK hD hS rfl (by rw [er]) (Nat.le_of_ble_eq_true rfl) (Nat.le_of_ble_eq_true rfl) dX0_apples_24
  · skip
    refine lv_iload_n hx hb dX0_apples_17 rfl (lv_at hl 0 rfl) ?_
    refine lv_iconst (v := iI (4)) hx hb dX0_apples_18 rfl ?_
    refine gi_div hx hb ⟨by omega, by omega⟩ ⟨by omega, by omega⟩ dX0_apples_19 ?_
    refine lv_goto (tgt := 24) hx hb dX0_apples_20 (by decide) ?_
    have er : ((apl (κ 0 0) (κ 0 2) (κ 0 3) : Int)) = (((κ 0 2) * (κ 0 0)) / 4) := by unfold apl; first | (rw [if_pos (by omega)]; done) | (rw [if_neg (by omega)]; done)
    exact g_iret (wo := (fun κ' => XW cI cZ d σ κ')) (kr := (fun κ' => κ' = κ)) (rv := (fun _ => some (.int (iI (apl (κ 0 0) (κ 0 2) (κ 0 3)))))) hx hb hr hlocks κ rfl hP hK hD hS rfl (by rw [er]) (Nat.le_of_ble_eq_true rfl) (Nat.le_of_ble_eq_true rfl) dX0_apples_24
set_option maxHeartbeats 4000000 in
set_option maxRecDepth 100000 in
theorem kX0_freeze (l : Launch) (D : va_G) (cI cZ : ClassId) (d : Nat → Nat) (σ κ : St)  (n0 : Int) (hkw : kWF κ) (hf : 0 ≤ n0 ∧ n0 ≤ 9) : gMet l yX0_freeze wsX0_freeze ({ frames := 1, cells := 0, slots := 0, locals := 24 } : Room) D (tyXs cI cZ) (XW cI cZ d σ κ) [.ref (d 10), .int (iI n0)] xEx (fun _ => none) (fun κ' => κ' = su κ 0 2 (yfz n0 (κ 0 1) (κ 0 2))) (fun κ' => XW cI cZ d σ κ') := by
  refine g_start (cc := cX0_freeze) (maxL := 3) (ret := none) (by decide) rfl (Nat.le_of_ble_eq_true rfl) ?_
  intro p e s m args below meth c A ls H locs S hr hlocks hname hP hK hD hA hS hE hl
  have S0 := S
  obtain ⟨hx, hb, hml, hown, hts⟩ := S0
  have hl : lv_has ls 3 [(0, .ref (d 10)), (1, .int (iI (n0)))] := hl
  have hinX0 : ∀ w ∈ wsX00, w ∈ wsX0_freeze := by decide +kernel
  obtain ⟨⟨v1, v2⟩, ⟨a1, a2⟩, ⟨b1, b2⟩, t1, t2⟩ := id hkw
  refine lv_iconst (v := iI (0)) hx hb dX0_freeze_0 rfl ?_
  refine lv_iload_n hx hb dX0_freeze_1 rfl (lv_at hl 1 rfl) ?_
  refine lv_aload_n hx hb dX0_freeze_2 rfl (lv_at hl 0 rfl) ?_
  refine va_get (D := D) (ci := 0) (v := .int (iI (κ 0 1))) (C := RX0) (T := TX0) (N := 4) hx hb hts hinX0 hown hK hP 10 rfl rfl 1 (by decide) (hts (.fieldLink RX0 33 "TwinOrchard$Tree" "hardiness" "I") (List.mem_of_getElem? (i := 1) rfl)) (fun _ h9 => h9) rfl dX0_freeze_3 ?_
  refine gi_sub hx hb dX0_freeze_6 ?_
  refine gi_max hx hb (hml.trans hl.1.symm) hown (hts _ (List.mem_of_getElem? (i := 2) rfl)) (hts _ (List.mem_of_getElem? (i := 3) rfl)) (hts _ (List.mem_of_getElem? (i := 4) rfl)) (hts _ (List.mem_of_getElem? (i := 5) rfl)) (Nat.le_of_ble_eq_true rfl) (Nat.le_of_ble_eq_true rfl) (Nat.le_of_ble_eq_true rfl) (Nat.le_of_ble_eq_true rfl) ⟨by decide, by decide⟩ ⟨by omega, by omega⟩ dX0_freeze_7 ?_
  refine lv_istore_n (lv' := [(2, .int (iI (max 0 (n0 - (κ 0 1))))), (0, .ref (d 10)), (1, .int (iI (n0)))]) hx hb dX0_freeze_10 rfl hl (by decide) rfl (fun ls hl => ?_)
  refine lv_aload_n hx hb dX0_freeze_11 rfl (lv_at hl 1 rfl) ?_
  refine lv_iconst (v := iI (0)) hx hb dX0_freeze_12 rfl ?_
  refine lv_aload_n hx hb dX0_freeze_13 rfl (lv_at hl 1 rfl) ?_
  refine va_get (D := D) (ci := 0) (v := .int (iI (κ 0 2))) (C := RX0) (T := TX0) (N := 4) hx hb hts hinX0 hown hK hP 10 rfl rfl 2 (by decide) (hts (.fieldLink RX0 9 "TwinOrchard$Tree" "branches" "I") (List.mem_of_getElem? (i := 6) rfl)) (fun _ h9 => h9) rfl dX0_freeze_14 ?_
  refine lv_iload_n hx hb dX0_freeze_17 rfl (lv_at hl 0 rfl) ?_
  refine gi_sub hx hb dX0_freeze_18 ?_
  refine gi_max hx hb (hml.trans hl.1.symm) hown (hts _ (List.mem_of_getElem? (i := 2) rfl)) (hts _ (List.mem_of_getElem? (i := 3) rfl)) (hts _ (List.mem_of_getElem? (i := 4) rfl)) (hts _ (List.mem_of_getElem? (i := 5) rfl)) (Nat.le_of_ble_eq_true rfl) (Nat.le_of_ble_eq_true rfl) (Nat.le_of_ble_eq_true rfl) (Nat.le_of_ble_eq_true rfl) ⟨by decide, by decide⟩ ⟨by omega, by omega⟩ dX0_freeze_19 ?_
  refine va_put (D := D) (ci := 0) (v := .int (iI (max 0 ((κ 0 2) - (max 0 (n0 - (κ 0 1))))))) (ty := .int) (C := RX0) (T := TX0) (N := 4) hx hb hts hinX0 tyX0 tyX0_ok nmX0 hown hK hP hD hS 10 rfl rfl 2 (by decide) (hts (.fieldLink RX0 9 "TwinOrchard$Tree" "branches" "I") (List.mem_of_getElem? (i := 6) rfl)) (fun _ h9 => h9) rfl (by decide +kernel) rfl rfl (Nat.le_of_ble_eq_true rfl) dX0_freeze_22 (fun H locs hP hD hS => ?_)
  have hP : va_P D vwCl (XW cI cZ d σ (su κ 0 2 (max 0 ((κ 0 2) - (max 0 (n0 - (κ 0 1))))))) H := hP
  have hD : va_D A (XW cI cZ d σ (su κ 0 2 (max 0 ((κ 0 2) - (max 0 (n0 - (κ 0 1))))))) := hD
  exact g_vret (wo := (fun κ' => XW cI cZ d σ κ')) (kr := (fun κ' => κ' = su κ 0 2 (yfz n0 (κ 0 1) (κ 0 2)))) (rv := (fun _ => none)) hx hb hr hlocks (su κ 0 2 (max 0 ((κ 0 2) - (max 0 (n0 - (κ 0 1)))))) hP hK hD hS rfl rfl (Nat.le_of_ble_eq_true rfl) (Nat.le_of_ble_eq_true rfl) dX0_freeze_25
set_option maxHeartbeats 4000000 in
set_option maxRecDepth 100000 in
theorem kX0_grow (l : Launch) (D : va_G) (cI cZ : ClassId) (d : Nat → Nat) (σ κ : St)   (hkw : kWF κ) : gMet l yX0_grow wsX0_grow ({ frames := 1, cells := 0, slots := 0, locals := 24 } : Room) D (tyXs cI cZ) (XW cI cZ d σ κ) [.ref (d 10)] xEx (fun _ => none) (fun κ' => κ' = su κ 0 2 (min 9 (κ 0 2 + grm (κ 0 0)))) (fun κ' => XW cI cZ d σ κ') := by
  refine g_start (cc := cX0_grow) (maxL := 2) (ret := none) (by decide) rfl (Nat.le_of_ble_eq_true rfl) ?_
  intro p e s m args below meth c A ls H locs S hr hlocks hname hP hK hD hA hS hE hl
  have S0 := S
  obtain ⟨hx, hb, hml, hown, hts⟩ := S0
  have hl : lv_has ls 2 [(0, .ref (d 10))] := hl
  have hinX0 : ∀ w ∈ wsX00, w ∈ wsX0_grow := by decide +kernel
  obtain ⟨⟨v1, v2⟩, ⟨a1, a2⟩, ⟨b1, b2⟩, t1, t2⟩ := id hkw
  refine lv_aload_n hx hb dX0_grow_0 rfl (lv_at hl 0 rfl) ?_
  refine va_get (D := D) (ci := 0) (v := .int (iI (κ 0 0))) (C := RX0) (T := TX0) (N := 4) hx hb hts hinX0 hown hK hP 10 rfl rfl 0 (by decide) (hts (.fieldLink RX0 19 "TwinOrchard$Tree" "vigour" "I") (List.mem_of_getElem? (i := 1) rfl)) (fun _ h9 => h9) rfl dX0_grow_1 ?_
  refine lv_bipush (v := iI (7)) hx hb dX0_grow_4 rfl ?_
  refine gi_icmp_lt (tgt := 13) hx hb dX0_grow_6 (by decide) ⟨by omega, by omega⟩ ⟨by decide, by decide⟩ (fun c6 => ?_) (fun c6 => ?_)
  · skip
    refine lv_iconst (v := iI (1)) hx hb dX0_grow_13 rfl ?_
    refine lv_istore_n (lv' := [(1, .int (iI (1))), (0, .ref (d 10))]) hx hb dX0_grow_14 rfl hl (by decide) rfl (fun ls hl => ?_)
    refine lv_aload_n hx hb dX0_grow_15 rfl (lv_at hl 1 rfl) ?_
    refine lv_bipush (v := iI (9)) hx hb dX0_grow_16 rfl ?_
    refine lv_aload_n hx hb dX0_grow_18 rfl (lv_at hl 1 rfl) ?_
    refine va_get (D := D) (ci := 0) (v := .int (iI (κ 0 2))) (C := RX0) (T := TX0) (N := 4) hx hb hts hinX0 hown hK hP 10 rfl rfl 2 (by decide) (hts (.fieldLink RX0 9 "TwinOrchard$Tree" "branches" "I") (List.mem_of_getElem? (i := 2) rfl)) (fun _ h9 => h9) rfl dX0_grow_19 ?_
    refine lv_iload_n hx hb dX0_grow_22 rfl (lv_at hl 0 rfl) ?_
    refine gi_add hx hb dX0_grow_23 ?_
    refine gi_min hx hb (hml.trans hl.1.symm) hown (hts _ (List.mem_of_getElem? (i := 3) rfl)) (hts _ (List.mem_of_getElem? (i := 4) rfl)) (hts _ (List.mem_of_getElem? (i := 5) rfl)) (hts _ (List.mem_of_getElem? (i := 6) rfl)) (Nat.le_of_ble_eq_true rfl) (Nat.le_of_ble_eq_true rfl) (Nat.le_of_ble_eq_true rfl) (Nat.le_of_ble_eq_true rfl) ⟨by decide, by decide⟩ ⟨by omega, by omega⟩ dX0_grow_24 ?_
    refine va_put (D := D) (ci := 0) (v := .int (iI (min 9 ((κ 0 2) + 1)))) (ty := .int) (C := RX0) (T := TX0) (N := 4) hx hb hts hinX0 tyX0 tyX0_ok nmX0 hown hK hP hD hS 10 rfl rfl 2 (by decide) (hts (.fieldLink RX0 9 "TwinOrchard$Tree" "branches" "I") (List.mem_of_getElem? (i := 2) rfl)) (fun _ h9 => h9) rfl (by decide +kernel) rfl rfl (Nat.le_of_ble_eq_true rfl) dX0_grow_27 (fun H locs hP hD hS => ?_)
    have hP : va_P D vwCl (XW cI cZ d σ (su κ 0 2 (min 9 ((κ 0 2) + 1)))) H := hP
    have hD : va_D A (XW cI cZ d σ (su κ 0 2 (min 9 ((κ 0 2) + 1)))) := hD
    exact g_vret (wo := (fun κ' => XW cI cZ d σ κ')) (kr := (fun κ' => κ' = su κ 0 2 (min 9 (κ 0 2 + grm (κ 0 0))))) (rv := (fun _ => none)) hx hb hr hlocks (su κ 0 2 (min 9 ((κ 0 2) + 1))) hP hK hD hS (by show _ = _; first | (rw [show grm (κ 0 0) = 2 from if_pos (by omega)]; done) | (rw [show grm (κ 0 0) = 1 from if_neg (by omega)]; done)) rfl (Nat.le_of_ble_eq_true rfl) (Nat.le_of_ble_eq_true rfl) dX0_grow_30
  · skip
    refine lv_iconst (v := iI (2)) hx hb dX0_grow_9 rfl ?_
    refine lv_goto (tgt := 14) hx hb dX0_grow_10 (by decide) ?_
    refine lv_istore_n (lv' := [(1, .int (iI (2))), (0, .ref (d 10))]) hx hb dX0_grow_14 rfl hl (by decide) rfl (fun ls hl => ?_)
    refine lv_aload_n hx hb dX0_grow_15 rfl (lv_at hl 1 rfl) ?_
    refine lv_bipush (v := iI (9)) hx hb dX0_grow_16 rfl ?_
    refine lv_aload_n hx hb dX0_grow_18 rfl (lv_at hl 1 rfl) ?_
    refine va_get (D := D) (ci := 0) (v := .int (iI (κ 0 2))) (C := RX0) (T := TX0) (N := 4) hx hb hts hinX0 hown hK hP 10 rfl rfl 2 (by decide) (hts (.fieldLink RX0 9 "TwinOrchard$Tree" "branches" "I") (List.mem_of_getElem? (i := 2) rfl)) (fun _ h9 => h9) rfl dX0_grow_19 ?_
    refine lv_iload_n hx hb dX0_grow_22 rfl (lv_at hl 0 rfl) ?_
    refine gi_add hx hb dX0_grow_23 ?_
    refine gi_min hx hb (hml.trans hl.1.symm) hown (hts _ (List.mem_of_getElem? (i := 3) rfl)) (hts _ (List.mem_of_getElem? (i := 4) rfl)) (hts _ (List.mem_of_getElem? (i := 5) rfl)) (hts _ (List.mem_of_getElem? (i := 6) rfl)) (Nat.le_of_ble_eq_true rfl) (Nat.le_of_ble_eq_true rfl) (Nat.le_of_ble_eq_true rfl) (Nat.le_of_ble_eq_true rfl) ⟨by decide, by decide⟩ ⟨by omega, by omega⟩ dX0_grow_24 ?_
    refine va_put (D := D) (ci := 0) (v := .int (iI (min 9 ((κ 0 2) + 2)))) (ty := .int) (C := RX0) (T := TX0) (N := 4) hx hb hts hinX0 tyX0 tyX0_ok nmX0 hown hK hP hD hS 10 rfl rfl 2 (by decide) (hts (.fieldLink RX0 9 "TwinOrchard$Tree" "branches" "I") (List.mem_of_getElem? (i := 2) rfl)) (fun _ h9 => h9) rfl (by decide +kernel) rfl rfl (Nat.le_of_ble_eq_true rfl) dX0_grow_27 (fun H locs hP hD hS => ?_)
    have hP : va_P D vwCl (XW cI cZ d σ (su κ 0 2 (min 9 ((κ 0 2) + 2)))) H := hP
    have hD : va_D A (XW cI cZ d σ (su κ 0 2 (min 9 ((κ 0 2) + 2)))) := hD
    exact g_vret (wo := (fun κ' => XW cI cZ d σ κ')) (kr := (fun κ' => κ' = su κ 0 2 (min 9 (κ 0 2 + grm (κ 0 0))))) (rv := (fun _ => none)) hx hb hr hlocks (su κ 0 2 (min 9 ((κ 0 2) + 2))) hP hK hD hS (by show _ = _; first | (rw [show grm (κ 0 0) = 2 from if_pos (by omega)]; done) | (rw [show grm (κ 0 0) = 1 from if_neg (by omega)]; done)) rfl (Nat.le_of_ble_eq_true rfl) (Nat.le_of_ble_eq_true rfl) dX0_grow_30
set_option maxHeartbeats 4000000 in
set_option maxRecDepth 100000 in
theorem kX0_liveYear (l : Launch) (D : va_G) (cI cZ : ClassId) (d : Nat → Nat) (σ κ : St)  (n0 : Int) (hkw : kWF κ) (hf : 0 ≤ n0 ∧ n0 ≤ 9) : gMet l yX0_liveYear wsX0_liveYear ({ frames := 2, cells := 0, slots := 0, locals := 46 } : Room) D (tyXs cI cZ) (XW cI cZ d σ κ) [.ref (d 10), .int (iI n0)] xEx (fun _ => some (.int (iI (yap (κ 0 0) n0 (κ 0 1) (κ 0 2) (κ 0 3))))) (fun κ' => κ' = su (su (su κ 0 2 (yfz n0 (κ 0 1) (κ 0 2))) 0 3 (bI (20 ≤ yap (κ 0 0) n0 (κ 0 1) (κ 0 2) (κ 0 3)))) 0 2 (yb (κ 0 0) n0 (κ 0 1) (κ 0 2))) (fun κ' => XW cI cZ d σ κ') := by
  refine g_start (cc := cX0_liveYear) (maxL := 3) (ret := (some .int)) (by decide) rfl (Nat.le_of_ble_eq_true rfl) ?_
  intro p e s m args below meth c A ls H locs S hr hlocks hname hP hK hD hA hS hE hl
  have S0 := S
  obtain ⟨hx, hb, hml, hown, hts⟩ := S0
  have hl : lv_has ls 3 [(0, .ref (d 10)), (1, .int (iI (n0)))] := hl
  have hinX0 : ∀ w ∈ wsX00, w ∈ wsX0_liveYear := by decide +kernel
  obtain ⟨⟨v1, v2⟩, ⟨a1, a2⟩, ⟨b1, b2⟩, t1, t2⟩ := id hkw
  have kf := yfz_in n0 (κ 0 1) ⟨b1, b2⟩
  have ka := apl_in (t := κ 0 3) ⟨v1, v2⟩ kf
  refine lv_aload_n hx hb dX0_liveYear_0 rfl (lv_at hl 0 rfl) ?_
  refine lv_iload_n hx hb dX0_liveYear_1 rfl (lv_at hl 1 rfl) ?_
  have hPc : va_P D vwCl (XW cI cZ d σ κ ++ []) H := by rw [List.append_nil]; exact hP
  have hDc : va_D A (XW cI cZ d σ κ ++ []) := by rw [List.append_nil]; exact hD
  refine g_call (va_runV (As := [.int (iI (n0))]) (rest := []) S ((kX0_freeze l D cI cZ d σ κ n0 (by first | assumption | omega) (by first | assumption | omega)) H.size) (cwV 1 hts gX0_liveYear_X0_freeze rfl rfl rfl (by decide +kernel) ⟨Nat.le_of_ble_eq_true rfl, Nat.le_of_ble_eq_true rfl⟩) (g_preV xEx_g hK [0, 1] rfl hPc hDc (fun U _ hW => xEx_w hW hE) (q0 := 10) (ci := 0) rfl rfl rfl) rfl rfl hl.1 rfl (lv_room (Nat.le_of_ble_eq_true rfl)) dX0_liveYear_2 ⟨Nat.le_of_ble_eq_true rfl, Nat.le_of_ble_eq_true rfl⟩) hPc hDc hS hA (fun κ9 H locs hk hP hD hS => ?_)
  have hk : su κ 0 2 (yfz n0 (κ 0 1) (κ 0 2)) = κ9 := hk.symm
  subst hk
  have hP : va_P D vwCl (XW cI cZ d σ (su κ 0 2 (yfz n0 (κ 0 1) (κ 0 2)))) H := by have h9 : va_P D vwCl (XW cI cZ d σ (su κ 0 2 (yfz n0 (κ 0 1) (κ 0 2))) ++ []) H := hP; rw [List.append_nil] at h9; exact h9
  have hD : va_D A (XW cI cZ d σ (su κ 0 2 (yfz n0 (κ 0 1) (κ 0 2)))) := by have h9 : va_D A (XW cI cZ d σ (su κ 0 2 (yfz n0 (κ 0 1) (κ 0 2))) ++ []) := hD; rw [List.append_nil] at h9; exact h9
  show W p l e ({ frames := 2, cells := 0, slots := 0, locals := 46 } : Room) s m args below meth c H locs 0 0 (MQ below (gQ D (tyXs cI cZ) (fun κ' => XW cI cZ d σ κ') A (fun _ => some (.int (iI (yap (κ 0 0) n0 (κ 0 1) (κ 0 2) (κ 0 3))))) (fun κ' => κ' = su (su (su κ 0 2 (yfz n0 (κ 0 1) (κ 0 2))) 0 3 (bI (20 ≤ yap (κ 0 0) n0 (κ 0 1) (κ 0 2) (κ 0 3)))) 0 2 (yb (κ 0 0) n0 (κ 0 1) (κ 0 2)))) args s 0 0 A) (F0 m 5 ls [])
  refine lv_aload_n hx hb dX0_liveYear_5 rfl (lv_at hl 0 rfl) ?_
  have hPc : va_P D vwCl (XW cI cZ d σ (su κ 0 2 (yfz n0 (κ 0 1) (κ 0 2))) ++ []) H := by rw [List.append_nil]; exact hP
  have hDc : va_D A (XW cI cZ d σ (su κ 0 2 (yfz n0 (κ 0 1) (κ 0 2))) ++ []) := by rw [List.append_nil]; exact hD
  refine g_call (va_runV (As := []) (rest := []) S ((kX0_apples l D cI cZ d σ (su κ 0 2 (yfz n0 (κ 0 1) (κ 0 2)))  ⟨⟨v1, v2⟩, ⟨a1, a2⟩, kf, t1, t2⟩) H.size) (cwV 0 hts gX0_liveYear_X0_apples rfl rfl rfl (by decide +kernel) ⟨Nat.le_of_ble_eq_true rfl, Nat.le_of_ble_eq_true rfl⟩) (g_preV xEx_g hK [0, 1] rfl hPc hDc (fun U _ hW => xEx_w hW hE) (q0 := 10) (ci := 0) rfl rfl rfl) rfl rfl hl.1 rfl (lv_room (Nat.le_of_ble_eq_true rfl)) dX0_liveYear_6 ⟨Nat.le_of_ble_eq_true rfl, Nat.le_of_ble_eq_true rfl⟩) hPc hDc hS hA (fun κ9 H locs hk hP hD hS => ?_)
  have hk : su κ 0 2 (yfz n0 (κ 0 1) (κ 0 2)) = κ9 := hk.symm
  subst hk
  have hP : va_P D vwCl (XW cI cZ d σ (su κ 0 2 (yfz n0 (κ 0 1) (κ 0 2)))) H := by have h9 : va_P D vwCl (XW cI cZ d σ (su κ 0 2 (yfz n0 (κ 0 1) (κ 0 2))) ++ []) H := hP; rw [List.append_nil] at h9; exact h9
  have hD : va_D A (XW cI cZ d σ (su κ 0 2 (yfz n0 (κ 0 1) (κ 0 2)))) := by have h9 : va_D A (XW cI cZ d σ (su κ 0 2 (yfz n0 (κ 0 1) (κ 0 2))) ++ []) := hD; rw [List.append_nil] at h9; exact h9
  show W p l e ({ frames := 2, cells := 0, slots := 0, locals := 46 } : Room) s m args below meth c H locs 0 0 (MQ below (gQ D (tyXs cI cZ) (fun κ' => XW cI cZ d σ κ') A (fun _ => some (.int (iI (yap (κ 0 0) n0 (κ 0 1) (κ 0 2) (κ 0 3))))) (fun κ' => κ' = su (su (su κ 0 2 (yfz n0 (κ 0 1) (κ 0 2))) 0 3 (bI (20 ≤ yap (κ 0 0) n0 (κ 0 1) (κ 0 2) (κ 0 3)))) 0 2 (yb (κ 0 0) n0 (κ 0 1) (κ 0 2)))) args s 0 0 A) (F0 m 9 ls [.int (iI (apl (κ 0 0) (yfz n0 (κ 0 1) (κ 0 2)) (κ 0 3)))])
  refine lv_istore_n (lv' := [(2, .int (iI (apl (κ 0 0) (yfz n0 (κ 0 1) (κ 0 2)) (κ 0 3)))), (0, .ref (d 10)), (1, .int (iI (n0)))]) hx hb dX0_liveYear_9 rfl hl (by decide) rfl (fun ls hl => ?_)
  refine lv_aload_n hx hb dX0_liveYear_10 rfl (lv_at hl 1 rfl) ?_
  refine lv_iload_n hx hb dX0_liveYear_11 rfl (lv_at hl 0 rfl) ?_
  refine lv_bipush (v := iI (20)) hx hb dX0_liveYear_12 rfl ?_
  refine gi_icmp_lt (tgt := 21) hx hb dX0_liveYear_14 (by decide) ⟨by omega, by omega⟩ ⟨by decide, by decide⟩ (fun c14 => ?_) (fun c14 => ?_)
  · skip
    refine lv_iconst (v := iI (0)) hx hb dX0_liveYear_21 rfl ?_
    refine va_put (D := D) (ci := 0) (v := .int (iI (0))) (ty := .boolean) (C := RX0) (T := TX0) (N := 4) hx hb hts hinX0 tyX0 tyX0_ok nmX0 hown hK hP hD hS 10 rfl rfl 3 (by decide) (hts (.fieldLink RX0 15 "TwinOrchard$Tree" "tired" "Z") (List.mem_of_getElem? (i := 1) rfl)) (fun _ h9 => h9) rfl (by decide +kernel) (nar_z (Or.inl rfl)) (fit_z (Or.inl rfl)) (Nat.le_of_ble_eq_true rfl) dX0_liveYear_22 (fun H locs hP hD hS => ?_)
    have hP : va_P D vwCl (XW cI cZ d σ (su (su κ 0 2 (yfz n0 (κ 0 1) (κ 0 2))) 0 3 (0))) H := hP
    have hD : va_D A (XW cI cZ d σ (su (su κ 0 2 (yfz n0 (κ 0 1) (κ 0 2))) 0 3 (0))) := hD
    refine lv_aload_n hx hb dX0_liveYear_25 rfl (lv_at hl 1 rfl) ?_
    have hPc : va_P D vwCl (XW cI cZ d σ (su (su κ 0 2 (yfz n0 (κ 0 1) (κ 0 2))) 0 3 (0)) ++ []) H := by rw [List.append_nil]; exact hP
    have hDc : va_D A (XW cI cZ d σ (su (su κ 0 2 (yfz n0 (κ 0 1) (κ 0 2))) 0 3 (0)) ++ []) := by rw [List.append_nil]; exact hD
    refine g_call (va_runV (As := []) (rest := []) S ((kX0_grow l D cI cZ d σ (su (su κ 0 2 (yfz n0 (κ 0 1) (κ 0 2))) 0 3 (0))  ⟨⟨v1, v2⟩, ⟨a1, a2⟩, kf, (by first | exact ⟨(by decide : (0 : Int) ≤ 0), (by decide : (0 : Int) ≤ 1)⟩ | exact ⟨(by decide : (0 : Int) ≤ 1), (by decide : (1 : Int) ≤ 1)⟩)⟩) H.size) (cwV 0 hts gX0_liveYear_X0_grow rfl rfl rfl (by decide +kernel) ⟨Nat.le_of_ble_eq_true rfl, Nat.le_of_ble_eq_true rfl⟩) (g_preV xEx_g hK [0, 1] rfl hPc hDc (fun U _ hW => xEx_w hW hE) (q0 := 10) (ci := 0) rfl rfl rfl) rfl rfl hl.1 rfl (lv_room (Nat.le_of_ble_eq_true rfl)) dX0_liveYear_26 ⟨Nat.le_of_ble_eq_true rfl, Nat.le_of_ble_eq_true rfl⟩) hPc hDc hS hA (fun κ9 H locs hk hP hD hS => ?_)
    have hk : su (su (su κ 0 2 (yfz n0 (κ 0 1) (κ 0 2))) 0 3 (0)) 0 2 (min 9 ((yfz n0 (κ 0 1) (κ 0 2)) + grm (κ 0 0))) = κ9 := hk.symm
    subst hk
    have hP : va_P D vwCl (XW cI cZ d σ (su (su (su κ 0 2 (yfz n0 (κ 0 1) (κ 0 2))) 0 3 (0)) 0 2 (min 9 ((yfz n0 (κ 0 1) (κ 0 2)) + grm (κ 0 0))))) H := by have h9 : va_P D vwCl (XW cI cZ d σ (su (su (su κ 0 2 (yfz n0 (κ 0 1) (κ 0 2))) 0 3 (0)) 0 2 (min 9 ((yfz n0 (κ 0 1) (κ 0 2)) + grm (κ 0 0)))) ++ []) H := hP; rw [List.append_nil] at h9; exact h9
    have hD : va_D A (XW cI cZ d σ (su (su (su κ 0 2 (yfz n0 (κ 0 1) (κ 0 2))) 0 3 (0)) 0 2 (min 9 ((yfz n0 (κ 0 1) (κ 0 2)) + grm (κ 0 0))))) := by have h9 : va_D A (XW cI cZ d σ (su (su (su κ 0 2 (yfz n0 (κ 0 1) (κ 0 2))) 0 3 (0)) 0 2 (min 9 ((yfz n0 (κ 0 1) (κ 0 2)) + grm (κ 0 0)))) ++ []) := hD; rw [List.append_nil] at h9; exact h9
    show W p l e ({ frames := 2, cells := 0, slots := 0, locals := 46 } : Room) s m args below meth c H locs 0 0 (MQ below (gQ D (tyXs cI cZ) (fun κ' => XW cI cZ d σ κ') A (fun _ => some (.int (iI (yap (κ 0 0) n0 (κ 0 1) (κ 0 2) (κ 0 3))))) (fun κ' => κ' = su (su (su κ 0 2 (yfz n0 (κ 0 1) (κ 0 2))) 0 3 (bI (20 ≤ yap (κ 0 0) n0 (κ 0 1) (κ 0 2) (κ 0 3)))) 0 2 (yb (κ 0 0) n0 (κ 0 1) (κ 0 2)))) args s 0 0 A) (F0 m 29 ls [])
    refine lv_iload_n hx hb dX0_liveYear_29 rfl (lv_at hl 0 rfl) ?_
    have er : ((yap (κ 0 0) n0 (κ 0 1) (κ 0 2) (κ 0 3) : Int)) = (apl (κ 0 0) (yfz n0 (κ 0 1) (κ 0 2)) (κ 0 3)) := by rfl
    exact g_iret (wo := (fun κ' => XW cI cZ d σ κ')) (kr := (fun κ' => κ' = su (su (su κ 0 2 (yfz n0 (κ 0 1) (κ 0 2))) 0 3 (bI (20 ≤ yap (κ 0 0) n0 (κ 0 1) (κ 0 2) (κ 0 3)))) 0 2 (yb (κ 0 0) n0 (κ 0 1) (κ 0 2)))) (rv := (fun _ => some (.int (iI (yap (κ 0 0) n0 (κ 0 1) (κ 0 2) (κ 0 3)))))) hx hb hr hlocks (su (su (su κ 0 2 (yfz n0 (κ 0 1) (κ 0 2))) 0 3 (0)) 0 2 (min 9 ((yfz n0 (κ 0 1) (κ 0 2)) + grm (κ 0 0)))) rfl hP hK hD hS (by show _ = _; first | (rw [show bI (20 ≤ yap (κ 0 0) n0 (κ 0 1) (κ 0 2) (κ 0 3)) = 1 from bI_t (by unfold yap; omega)]; rfl) | (rw [show bI (20 ≤ yap (κ 0 0) n0 (κ 0 1) (κ 0 2) (κ 0 3)) = 0 from bI_f (by unfold yap; omega)]; rfl)) (by rw [er]) (Nat.le_of_ble_eq_true rfl) (Nat.le_of_ble_eq_true rfl) dX0_liveYear_30
  · skip
    refine lv_iconst (v := iI (1)) hx hb dX0_liveYear_17 rfl ?_
    refine lv_goto (tgt := 22) hx hb dX0_liveYear_18 (by decide) ?_
    refine va_put (D := D) (ci := 0) (v := .int (iI (1))) (ty := .boolean) (C := RX0) (T := TX0) (N := 4) hx hb hts hinX0 tyX0 tyX0_ok nmX0 hown hK hP hD hS 10 rfl rfl 3 (by decide) (hts (.fieldLink RX0 15 "TwinOrchard$Tree" "tired" "Z") (List.mem_of_getElem? (i := 1) rfl)) (fun _ h9 => h9) rfl (by decide +kernel) (nar_z (Or.inr rfl)) (fit_z (Or.inr rfl)) (Nat.le_of_ble_eq_true rfl) dX0_liveYear_22 (fun H locs hP hD hS => ?_)
    have hP : va_P D vwCl (XW cI cZ d σ (su (su κ 0 2 (yfz n0 (κ 0 1) (κ 0 2))) 0 3 (1))) H := hP
    have hD : va_D A (XW cI cZ d σ (su (su κ 0 2 (yfz n0 (κ 0 1) (κ 0 2))) 0 3 (1))) := hD
    refine lv_aload_n hx hb dX0_liveYear_25 rfl (lv_at hl 1 rfl) ?_
    have hPc : va_P D vwCl (XW cI cZ d σ (su (su κ 0 2 (yfz n0 (κ 0 1) (κ 0 2))) 0 3 (1)) ++ []) H := by rw [List.append_nil]; exact hP
    have hDc : va_D A (XW cI cZ d σ (su (su κ 0 2 (yfz n0 (κ 0 1) (κ 0 2))) 0 3 (1)) ++ []) := by rw [List.append_nil]; exact hD
    refine g_call (va_runV (As := []) (rest := []) S ((kX0_grow l D cI cZ d σ (su (su κ 0 2 (yfz n0 (κ 0 1) (κ 0 2))) 0 3 (1))  ⟨⟨v1, v2⟩, ⟨a1, a2⟩, kf, (by first | exact ⟨(by decide : (0 : Int) ≤ 0), (by decide : (0 : Int) ≤ 1)⟩ | exact ⟨(by decide : (0 : Int) ≤ 1), (by decide : (1 : Int) ≤ 1)⟩)⟩) H.size) (cwV 0 hts gX0_liveYear_X0_grow rfl rfl rfl (by decide +kernel) ⟨Nat.le_of_ble_eq_true rfl, Nat.le_of_ble_eq_true rfl⟩) (g_preV xEx_g hK [0, 1] rfl hPc hDc (fun U _ hW => xEx_w hW hE) (q0 := 10) (ci := 0) rfl rfl rfl) rfl rfl hl.1 rfl (lv_room (Nat.le_of_ble_eq_true rfl)) dX0_liveYear_26 ⟨Nat.le_of_ble_eq_true rfl, Nat.le_of_ble_eq_true rfl⟩) hPc hDc hS hA (fun κ9 H locs hk hP hD hS => ?_)
    have hk : su (su (su κ 0 2 (yfz n0 (κ 0 1) (κ 0 2))) 0 3 (1)) 0 2 (min 9 ((yfz n0 (κ 0 1) (κ 0 2)) + grm (κ 0 0))) = κ9 := hk.symm
    subst hk
    have hP : va_P D vwCl (XW cI cZ d σ (su (su (su κ 0 2 (yfz n0 (κ 0 1) (κ 0 2))) 0 3 (1)) 0 2 (min 9 ((yfz n0 (κ 0 1) (κ 0 2)) + grm (κ 0 0))))) H := by have h9 : va_P D vwCl (XW cI cZ d σ (su (su (su κ 0 2 (yfz n0 (κ 0 1) (κ 0 2))) 0 3 (1)) 0 2 (min 9 ((yfz n0 (κ 0 1) (κ 0 2)) + grm (κ 0 0)))) ++ []) H := hP; rw [List.append_nil] at h9; exact h9
    have hD : va_D A (XW cI cZ d σ (su (su (su κ 0 2 (yfz n0 (κ 0 1) (κ 0 2))) 0 3 (1)) 0 2 (min 9 ((yfz n0 (κ 0 1) (κ 0 2)) + grm (κ 0 0))))) := by have h9 : va_D A (XW cI cZ d σ (su (su (su κ 0 2 (yfz n0 (κ 0 1) (κ 0 2))) 0 3 (1)) 0 2 (min 9 ((yfz n0 (κ 0 1) (κ 0 2)) + grm (κ 0 0)))) ++ []) := hD; rw [List.append_nil] at h9; exact h9
    show W p l e ({ frames := 2, cells := 0, slots := 0, locals := 46 } : Room) s m args below meth c H locs 0 0 (MQ below (gQ D (tyXs cI cZ) (fun κ' => XW cI cZ d σ κ') A (fun _ => some (.int (iI (yap (κ 0 0) n0 (κ 0 1) (κ 0 2) (κ 0 3))))) (fun κ' => κ' = su (su (su κ 0 2 (yfz n0 (κ 0 1) (κ 0 2))) 0 3 (bI (20 ≤ yap (κ 0 0) n0 (κ 0 1) (κ 0 2) (κ 0 3)))) 0 2 (yb (κ 0 0) n0 (κ 0 1) (κ 0 2)))) args s 0 0 A) (F0 m 29 ls [])
    refine lv_iload_n hx hb dX0_liveYear_29 rfl (lv_at hl 0 rfl) ?_
    have er : ((yap (κ 0 0) n0 (κ 0 1) (κ 0 2) (κ 0 3) : Int)) = (apl (κ 0 0) (yfz n0 (κ 0 1) (κ 0 2)) (κ 0 3)) := by rfl
    exact g_iret (wo := (fun κ' => XW cI cZ d σ κ')) (kr := (fun κ' => κ' = su (su (su κ 0 2 (yfz n0 (κ 0 1) (κ 0 2))) 0 3 (bI (20 ≤ yap (κ 0 0) n0 (κ 0 1) (κ 0 2) (κ 0 3)))) 0 2 (yb (κ 0 0) n0 (κ 0 1) (κ 0 2)))) (rv := (fun _ => some (.int (iI (yap (κ 0 0) n0 (κ 0 1) (κ 0 2) (κ 0 3)))))) hx hb hr hlocks (su (su (su κ 0 2 (yfz n0 (κ 0 1) (κ 0 2))) 0 3 (1)) 0 2 (min 9 ((yfz n0 (κ 0 1) (κ 0 2)) + grm (κ 0 0)))) rfl hP hK hD hS (by show _ = _; first | (rw [show bI (20 ≤ yap (κ 0 0) n0 (κ 0 1) (κ 0 2) (κ 0 3)) = 1 from bI_t (by unfold yap; omega)]; rfl) | (rw [show bI (20 ≤ yap (κ 0 0) n0 (κ 0 1) (κ 0 2) (κ 0 3)) = 0 from bI_f (by unfold yap; omega)]; rfl)) (by rw [er]) (Nat.le_of_ble_eq_true rfl) (Nat.le_of_ble_eq_true rfl) dX0_liveYear_30
set_option maxHeartbeats 4000000 in
set_option maxRecDepth 100000 in
theorem kX1_lookAt (l : Launch) (D : va_G) (cI cZ : ClassId) (d : Nat → Nat) (σ κ : St)  (s0 : Int) (h0 : 0 ≤ s0) (h1 : s0 < 40) (hwf : xWF σ) : gMet l yX1_lookAt wsX1_lookAt ({ frames := 1, cells := 0, slots := 0, locals := 21 } : Room) D (tyXs cI cZ) (XW cI cZ d σ κ) [.ref (d 0), .int (iI s0)] xEx (fun _ => none) (fun κ' => κ' = su (su (su (su κ 0 0 (σ 6 s0)) 0 2 (σ 5 s0)) 0 3 (σ 7 s0)) 0 1 (lkh σ s0)) (fun κ' => XW cI cZ d σ κ') := by
  refine g_start (cc := cX1_lookAt) (maxL := 2) (ret := none) (by decide) rfl (Nat.le_of_ble_eq_true rfl) ?_
  intro p e s m args below meth c A ls H locs S hr hlocks hname hP hK hD hA hS hE hl
  have S0 := S
  obtain ⟨hx, hb, hml, hown, hts⟩ := S0
  have hl : lv_has ls 2 [(0, .ref (d 0)), (1, .int (iI (s0)))] := hl
  have hinX0 : ∀ w ∈ wsX00, w ∈ wsX1_lookAt := by decide +kernel
  have hinX1 : ∀ w ∈ wsX10, w ∈ wsX1_lookAt := by decide +kernel
  have k4 := xWF_4 hwf s0
  have k7 := xWF_7 hwf s0
  refine lv_aload_n hx hb dX1_lookAt_0 rfl (lv_at hl 0 rfl) ?_
  refine va_get (D := D) (ci := 1) (v := .ref (d 10)) (C := RX1) (T := TX1) (N := 13) hx hb hts hinX1 hown hK hP 0 rfl rfl 11 (by decide) (hts (.fieldLink RX1 48 "TwinOrchard" "looked" "LTwinOrchard$Tree;") (List.mem_of_getElem? (i := 1) rfl)) (fun _ h9 => h9) rfl dX1_lookAt_1 ?_
  refine lv_aload_n hx hb dX1_lookAt_4 rfl (lv_at hl 0 rfl) ?_
  refine va_get (D := D) (ci := 1) (v := .ref (d 7)) (C := RX1) (T := TX1) (N := 13) hx hb hts hinX1 hown hK hP 0 rfl rfl 6 (by decide) (hts (.fieldLink RX1 28 "TwinOrchard" "vigours" "[I") (List.mem_of_getElem? (i := 2) rfl)) (fun _ h9 => h9) rfl dX1_lookAt_5 ?_
  refine lv_iload_n hx hb dX1_lookAt_8 rfl (lv_at hl 1 rfl) ?_
  refine gi_iald (a := d 7) (n := 40) (f := σ 6) hx hb hK hP 7 0 rfl rfl (by omega) (by omega) (by decide) dX1_lookAt_9 ?_
  refine va_putN (host := "TwinOrchard") (D := D) (ci := 0) (v := .int (iI (σ 6 s0))) (ty := .int) (C := RX0) (T := TX0) (N := 4) hx hb hts hinX0 tyX0 tyX0_ok nmX0 hown hK hP hD hS 10 rfl rfl 0 (by decide) (xEx_u hE 6 rfl rfl) (fun _ h9 => h9) rfl (by decide +kernel) rfl rfl (Nat.le_of_ble_eq_true rfl) dX1_lookAt_10 (fun H locs hP hD hS => ?_)
  have hP : va_P D vwCl (XW cI cZ d σ (su κ 0 0 (σ 6 s0))) H := hP
  have hD : va_D A (XW cI cZ d σ (su κ 0 0 (σ 6 s0))) := hD
  refine lv_aload_n hx hb dX1_lookAt_13 rfl (lv_at hl 0 rfl) ?_
  refine va_get (D := D) (ci := 1) (v := .ref (d 10)) (C := RX1) (T := TX1) (N := 13) hx hb hts hinX1 hown hK hP 0 rfl rfl 11 (by decide) (hts (.fieldLink RX1 48 "TwinOrchard" "looked" "LTwinOrchard$Tree;") (List.mem_of_getElem? (i := 1) rfl)) (fun _ h9 => h9) rfl dX1_lookAt_14 ?_
  refine lv_aload_n hx hb dX1_lookAt_17 rfl (lv_at hl 0 rfl) ?_
  refine va_get (D := D) (ci := 1) (v := .ref (d 6)) (C := RX1) (T := TX1) (N := 13) hx hb hts hinX1 hown hK hP 0 rfl rfl 5 (by decide) (hts (.fieldLink RX1 25 "TwinOrchard" "branches" "[I") (List.mem_of_getElem? (i := 3) rfl)) (fun _ h9 => h9) rfl dX1_lookAt_18 ?_
  refine lv_iload_n hx hb dX1_lookAt_21 rfl (lv_at hl 1 rfl) ?_
  refine gi_iald (a := d 6) (n := 40) (f := σ 5) hx hb hK hP 6 0 rfl rfl (by omega) (by omega) (by decide) dX1_lookAt_22 ?_
  refine va_putN (host := "TwinOrchard") (D := D) (ci := 0) (v := .int (iI (σ 5 s0))) (ty := .int) (C := RX0) (T := TX0) (N := 4) hx hb hts hinX0 tyX0 tyX0_ok nmX0 hown hK hP hD hS 10 rfl rfl 2 (by decide) (xEx_u hE 4 rfl rfl) (fun _ h9 => h9) rfl (by decide +kernel) rfl rfl (Nat.le_of_ble_eq_true rfl) dX1_lookAt_23 (fun H locs hP hD hS => ?_)
  have hP : va_P D vwCl (XW cI cZ d σ (su (su κ 0 0 (σ 6 s0)) 0 2 (σ 5 s0))) H := hP
  have hD : va_D A (XW cI cZ d σ (su (su κ 0 0 (σ 6 s0)) 0 2 (σ 5 s0))) := hD
  refine lv_aload_n hx hb dX1_lookAt_26 rfl (lv_at hl 0 rfl) ?_
  refine va_get (D := D) (ci := 1) (v := .ref (d 10)) (C := RX1) (T := TX1) (N := 13) hx hb hts hinX1 hown hK hP 0 rfl rfl 11 (by decide) (hts (.fieldLink RX1 48 "TwinOrchard" "looked" "LTwinOrchard$Tree;") (List.mem_of_getElem? (i := 1) rfl)) (fun _ h9 => h9) rfl dX1_lookAt_27 ?_
  refine lv_aload_n hx hb dX1_lookAt_30 rfl (lv_at hl 0 rfl) ?_
  refine va_get (D := D) (ci := 1) (v := .ref (d 8)) (C := RX1) (T := TX1) (N := 13) hx hb hts hinX1 hown hK hP 0 rfl rfl 7 (by decide) (hts (.fieldLink RX1 31 "TwinOrchard" "tired" "[Z") (List.mem_of_getElem? (i := 4) rfl)) (fun _ h9 => h9) rfl dX1_lookAt_31 ?_
  refine lv_iload_n hx hb dX1_lookAt_34 rfl (lv_at hl 1 rfl) ?_
  refine gi_zald (a := d 8) (n := 40) (f := σ 7) hx hb hK hP 8 1 rfl rfl (by omega) (by omega) (by decide) dX1_lookAt_35 ?_
  refine va_putN (host := "TwinOrchard") (D := D) (ci := 0) (v := .int (iI (σ 7 s0))) (ty := .boolean) (C := RX0) (T := TX0) (N := 4) hx hb hts hinX0 tyX0 tyX0_ok nmX0 hown hK hP hD hS 10 rfl rfl 3 (by decide) (xEx_u hE 5 rfl rfl) (fun _ h9 => h9) rfl (by decide +kernel) (nar_z (by omega)) (fit_z (by omega)) (Nat.le_of_ble_eq_true rfl) dX1_lookAt_36 (fun H locs hP hD hS => ?_)
  have hP : va_P D vwCl (XW cI cZ d σ (su (su (su κ 0 0 (σ 6 s0)) 0 2 (σ 5 s0)) 0 3 (σ 7 s0))) H := hP
  have hD : va_D A (XW cI cZ d σ (su (su (su κ 0 0 (σ 6 s0)) 0 2 (σ 5 s0)) 0 3 (σ 7 s0))) := hD
  refine lv_aload_n hx hb dX1_lookAt_39 rfl (lv_at hl 0 rfl) ?_
  refine va_get (D := D) (ci := 1) (v := .ref (d 10)) (C := RX1) (T := TX1) (N := 13) hx hb hts hinX1 hown hK hP 0 rfl rfl 11 (by decide) (hts (.fieldLink RX1 48 "TwinOrchard" "looked" "LTwinOrchard$Tree;") (List.mem_of_getElem? (i := 1) rfl)) (fun _ h9 => h9) rfl dX1_lookAt_40 ?_
  refine lv_aload_n hx hb dX1_lookAt_43 rfl (lv_at hl 0 rfl) ?_
  refine lv_iload_n hx hb dX1_lookAt_44 rfl (lv_at hl 1 rfl) ?_
  have hPc : va_P D vwCl (XW cI cZ d σ (su (su (su κ 0 0 (σ 6 s0)) 0 2 (σ 5 s0)) 0 3 (σ 7 s0)) ++ []) H := by rw [List.append_nil]; exact hP
  have hDc : va_D A (XW cI cZ d σ (su (su (su κ 0 0 (σ 6 s0)) 0 2 (σ 5 s0)) 0 3 (σ 7 s0)) ++ []) := by rw [List.append_nil]; exact hD
  refine g_call (va_runV (As := [.int (iI (s0))]) (rest := [.ref (d 10)]) S ((kX1_hasTree l D cI cZ d σ (su (su (su κ 0 0 (σ 6 s0)) 0 2 (σ 5 s0)) 0 3 (σ 7 s0)) s0 (by first | assumption | omega) (by first | assumption | omega) (by first | assumption | omega)) H.size) (cwV 1 hts gX1_lookAt_X1_hasTree rfl rfl rfl (by decide +kernel) ⟨Nat.le_of_ble_eq_true rfl, Nat.le_of_ble_eq_true rfl⟩) (g_preV xEx_g hK [0, 1] rfl hPc hDc (fun U _ hW => xEx_w hW hE) (q0 := 0) (ci := 1) rfl rfl rfl) rfl rfl hl.1 rfl (lv_room (Nat.le_of_ble_eq_true rfl)) dX1_lookAt_45 ⟨Nat.le_of_ble_eq_true rfl, Nat.le_of_ble_eq_true rfl⟩) hPc hDc hS hA (fun κ9 H locs hk hP hD hS => ?_)
  have hk : su (su (su κ 0 0 (σ 6 s0)) 0 2 (σ 5 s0)) 0 3 (σ 7 s0) = κ9 := hk.symm
  subst hk
  have hP : va_P D vwCl (XW cI cZ d σ (su (su (su κ 0 0 (σ 6 s0)) 0 2 (σ 5 s0)) 0 3 (σ 7 s0))) H := by have h9 : va_P D vwCl (XW cI cZ d σ (su (su (su κ 0 0 (σ 6 s0)) 0 2 (σ 5 s0)) 0 3 (σ 7 s0)) ++ []) H := hP; rw [List.append_nil] at h9; exact h9
  have hD : va_D A (XW cI cZ d σ (su (su (su κ 0 0 (σ 6 s0)) 0 2 (σ 5 s0)) 0 3 (σ 7 s0))) := by have h9 : va_D A (XW cI cZ d σ (su (su (su κ 0 0 (σ 6 s0)) 0 2 (σ 5 s0)) 0 3 (σ 7 s0)) ++ []) := hD; rw [List.append_nil] at h9; exact h9
  show W p l e ({ frames := 1, cells := 0, slots := 0, locals := 21 } : Room) s m args below meth c H locs 0 0 (MQ below (gQ D (tyXs cI cZ) (fun κ' => XW cI cZ d σ κ') A (fun _ => none) (fun κ' => κ' = su (su (su (su κ 0 0 (σ 6 s0)) 0 2 (σ 5 s0)) 0 3 (σ 7 s0)) 0 1 (lkh σ s0))) args s 0 0 A) (F0 m 48 ls [.int (iI (bI (¬ σ 4 s0 = -1))), .ref (d 10)])
  refine gb_if_eq (tgt := 65) hx hb dX1_lookAt_48 (by decide)  (fun c48 => ?_) (fun c48 => ?_)
  · skip
    refine lv_iconst (v := iI (0)) hx hb dX1_lookAt_65 rfl ?_
    refine va_putN (host := "TwinOrchard") (D := D) (ci := 0) (v := .int (iI (0))) (ty := .int) (C := RX0) (T := TX0) (N := 4) hx hb hts hinX0 tyX0 tyX0_ok nmX0 hown hK hP hD hS 10 rfl rfl 1 (by decide) (xEx_u hE 7 rfl rfl) (fun _ h9 => h9) rfl (by decide +kernel) rfl rfl (Nat.le_of_ble_eq_true rfl) dX1_lookAt_66 (fun H locs hP hD hS => ?_)
    have hP : va_P D vwCl (XW cI cZ d σ (su (su (su (su κ 0 0 (σ 6 s0)) 0 2 (σ 5 s0)) 0 3 (σ 7 s0)) 0 1 (0))) H := hP
    have hD : va_D A (XW cI cZ d σ (su (su (su (su κ 0 0 (σ 6 s0)) 0 2 (σ 5 s0)) 0 3 (σ 7 s0)) 0 1 (0))) := hD
    exact g_vret (wo := (fun κ' => XW cI cZ d σ κ')) (kr := (fun κ' => κ' = su (su (su (su κ 0 0 (σ 6 s0)) 0 2 (σ 5 s0)) 0 3 (σ 7 s0)) 0 1 (lkh σ s0))) (rv := (fun _ => none)) hx hb hr hlocks (su (su (su (su κ 0 0 (σ 6 s0)) 0 2 (σ 5 s0)) 0 3 (σ 7 s0)) 0 1 (0)) hP hK hD hS (by show _ = _; first | (rw [show lkh σ s0 = 0 from if_pos (by omega)]; done) | (rw [show lkh σ s0 = σ 1 (σ 4 s0) from if_neg (by omega)]; done)) rfl (Nat.le_of_ble_eq_true rfl) (Nat.le_of_ble_eq_true rfl) dX1_lookAt_69
  · skip
    refine lv_aload_n hx hb dX1_lookAt_51 rfl (lv_at hl 0 rfl) ?_
    refine va_get (D := D) (ci := 1) (v := .ref (d 2)) (C := RX1) (T := TX1) (N := 13) hx hb hts hinX1 hown hK hP 0 rfl rfl 1 (by decide) (hts (.fieldLink RX1 13 "TwinOrchard" "hardiness" "[I") (List.mem_of_getElem? (i := 5) rfl)) (fun _ h9 => h9) rfl dX1_lookAt_52 ?_
    refine lv_aload_n hx hb dX1_lookAt_55 rfl (lv_at hl 0 rfl) ?_
    refine va_get (D := D) (ci := 1) (v := .ref (d 5)) (C := RX1) (T := TX1) (N := 13) hx hb hts hinX1 hown hK hP 0 rfl rfl 4 (by decide) (hts (.fieldLink RX1 22 "TwinOrchard" "kinds" "[I") (List.mem_of_getElem? (i := 6) rfl)) (fun _ h9 => h9) rfl dX1_lookAt_56 ?_
    refine lv_iload_n hx hb dX1_lookAt_59 rfl (lv_at hl 1 rfl) ?_
    refine gi_iald (a := d 5) (n := 40) (f := σ 4) hx hb hK hP 5 0 rfl rfl (by omega) (by omega) (by decide) dX1_lookAt_60 ?_
    refine gi_iald (a := d 2) (n := 6) (f := σ 1) hx hb hK hP 2 0 rfl rfl (by omega) (by omega) (by decide) dX1_lookAt_61 ?_
    refine lv_goto (tgt := 66) hx hb dX1_lookAt_62 (by decide) ?_
    refine va_putN (host := "TwinOrchard") (D := D) (ci := 0) (v := .int (iI (σ 1 (σ 4 s0)))) (ty := .int) (C := RX0) (T := TX0) (N := 4) hx hb hts hinX0 tyX0 tyX0_ok nmX0 hown hK hP hD hS 10 rfl rfl 1 (by decide) (xEx_u hE 7 rfl rfl) (fun _ h9 => h9) rfl (by decide +kernel) rfl rfl (Nat.le_of_ble_eq_true rfl) dX1_lookAt_66 (fun H locs hP hD hS => ?_)
    have hP : va_P D vwCl (XW cI cZ d σ (su (su (su (su κ 0 0 (σ 6 s0)) 0 2 (σ 5 s0)) 0 3 (σ 7 s0)) 0 1 (σ 1 (σ 4 s0)))) H := hP
    have hD : va_D A (XW cI cZ d σ (su (su (su (su κ 0 0 (σ 6 s0)) 0 2 (σ 5 s0)) 0 3 (σ 7 s0)) 0 1 (σ 1 (σ 4 s0)))) := hD
    exact g_vret (wo := (fun κ' => XW cI cZ d σ κ')) (kr := (fun κ' => κ' = su (su (su (su κ 0 0 (σ 6 s0)) 0 2 (σ 5 s0)) 0 3 (σ 7 s0)) 0 1 (lkh σ s0))) (rv := (fun _ => none)) hx hb hr hlocks (su (su (su (su κ 0 0 (σ 6 s0)) 0 2 (σ 5 s0)) 0 3 (σ 7 s0)) 0 1 (σ 1 (σ 4 s0))) hP hK hD hS (by show _ = _; first | (rw [show lkh σ s0 = 0 from if_pos (by omega)]; done) | (rw [show lkh σ s0 = σ 1 (σ 4 s0) from if_neg (by omega)]; done)) rfl (Nat.le_of_ble_eq_true rfl) (Nat.le_of_ble_eq_true rfl) dX1_lookAt_69
set_option maxHeartbeats 4000000 in
set_option maxRecDepth 100000 in
theorem kX1_keepLooked (l : Launch) (D : va_G) (cI cZ : ClassId) (d : Nat → Nat) (σ κ : St)  (s0 : Int) (h0 : 0 ≤ s0) (h1 : s0 < 40) (kt : 0 ≤ κ 0 3 ∧ κ 0 3 ≤ 1) : gMet l yX1_keepLooked wsX1_keepLooked ({ frames := 0, cells := 0, slots := 0, locals := 0 } : Room) D (tyXs cI cZ) (XW cI cZ d σ κ) [.ref (d 0), .int (iI s0)] xEx (fun _ => none) (fun κ' => κ' = κ) (fun κ' => XW cI cZ d (su (su σ 5 s0 (κ 0 2)) 7 s0 (κ 0 3)) κ') := by
  refine g_start (cc := cX1_keepLooked) (maxL := 2) (ret := none) (by decide) rfl (Nat.le_of_ble_eq_true rfl) ?_
  intro p e s m args below meth c A ls H locs S hr hlocks hname hP hK hD hA hS hE hl
  have S0 := S
  obtain ⟨hx, hb, hml, hown, hts⟩ := S0
  have hl : lv_has ls 2 [(0, .ref (d 0)), (1, .int (iI (s0)))] := hl
  have hinX0 : ∀ w ∈ wsX00, w ∈ wsX1_keepLooked := by decide +kernel
  have hinX1 : ∀ w ∈ wsX10, w ∈ wsX1_keepLooked := by decide +kernel
  refine lv_aload_n hx hb dX1_keepLooked_0 rfl (lv_at hl 0 rfl) ?_
  refine va_get (D := D) (ci := 1) (v := .ref (d 6)) (C := RX1) (T := TX1) (N := 13) hx hb hts hinX1 hown hK hP 0 rfl rfl 5 (by decide) (hts (.fieldLink RX1 25 "TwinOrchard" "branches" "[I") (List.mem_of_getElem? (i := 1) rfl)) (fun _ h9 => h9) rfl dX1_keepLooked_1 ?_
  refine lv_iload_n hx hb dX1_keepLooked_4 rfl (lv_at hl 1 rfl) ?_
  refine lv_aload_n hx hb dX1_keepLooked_5 rfl (lv_at hl 0 rfl) ?_
  refine va_get (D := D) (ci := 1) (v := .ref (d 10)) (C := RX1) (T := TX1) (N := 13) hx hb hts hinX1 hown hK hP 0 rfl rfl 11 (by decide) (hts (.fieldLink RX1 48 "TwinOrchard" "looked" "LTwinOrchard$Tree;") (List.mem_of_getElem? (i := 2) rfl)) (fun _ h9 => h9) rfl dX1_keepLooked_6 ?_
  refine va_getN (host := "TwinOrchard") (D := D) (ci := 0) (v := .int (iI (κ 0 2))) (C := RX0) (T := TX0) (N := 4) hx hb hts hinX0 hown hK hP 10 rfl rfl 2 (by decide) (xEx_u hE 4 rfl rfl) (fun _ h9 => h9) rfl dX1_keepLooked_9 ?_
  refine gi_iast (a := d 6) (n := 40) (f := σ 5) hx hb hK hP hD hS 6 0 rfl rfl (by omega) (by omega) (by decide) dX1_keepLooked_12 (fun H locs hP hD hS => ?_)
  have hP : va_P D vwCl (XW cI cZ d (su σ 5 s0 (κ 0 2)) κ) H := hP
  have hD : va_D A (XW cI cZ d (su σ 5 s0 (κ 0 2)) κ) := hD
  refine lv_aload_n hx hb dX1_keepLooked_13 rfl (lv_at hl 0 rfl) ?_
  refine va_get (D := D) (ci := 1) (v := .ref (d 8)) (C := RX1) (T := TX1) (N := 13) hx hb hts hinX1 hown hK hP 0 rfl rfl 7 (by decide) (hts (.fieldLink RX1 31 "TwinOrchard" "tired" "[Z") (List.mem_of_getElem? (i := 3) rfl)) (fun _ h9 => h9) rfl dX1_keepLooked_14 ?_
  refine lv_iload_n hx hb dX1_keepLooked_17 rfl (lv_at hl 1 rfl) ?_
  refine lv_aload_n hx hb dX1_keepLooked_18 rfl (lv_at hl 0 rfl) ?_
  refine va_get (D := D) (ci := 1) (v := .ref (d 10)) (C := RX1) (T := TX1) (N := 13) hx hb hts hinX1 hown hK hP 0 rfl rfl 11 (by decide) (hts (.fieldLink RX1 48 "TwinOrchard" "looked" "LTwinOrchard$Tree;") (List.mem_of_getElem? (i := 2) rfl)) (fun _ h9 => h9) rfl dX1_keepLooked_19 ?_
  refine va_getN (host := "TwinOrchard") (D := D) (ci := 0) (v := .int (iI (κ 0 3))) (C := RX0) (T := TX0) (N := 4) hx hb hts hinX0 hown hK hP 10 rfl rfl 3 (by decide) (xEx_u hE 5 rfl rfl) (fun _ h9 => h9) rfl dX1_keepLooked_22 ?_
  refine gi_zast (a := d 8) (n := 40) (f := (su σ 5 s0 (κ 0 2)) 7) hx hb hK hP hD hS 8 1 rfl rfl (by omega) (by omega) (by decide) (by omega) dX1_keepLooked_25 (fun H locs hP hD hS => ?_)
  have hP : va_P D vwCl (XW cI cZ d (su (su σ 5 s0 (κ 0 2)) 7 s0 (κ 0 3)) κ) H := hP
  have hD : va_D A (XW cI cZ d (su (su σ 5 s0 (κ 0 2)) 7 s0 (κ 0 3)) κ) := hD
  exact g_vret (wo := (fun κ' => XW cI cZ d (su (su σ 5 s0 (κ 0 2)) 7 s0 (κ 0 3)) κ')) (kr := (fun κ' => κ' = κ)) (rv := (fun _ => none)) hx hb hr hlocks κ hP hK hD hS rfl rfl (Nat.le_of_ble_eq_true rfl) (Nat.le_of_ble_eq_true rfl) dX1_keepLooked_26
set_option maxHeartbeats 4000000 in
set_option maxRecDepth 100000 in
theorem kX1_applesNow (l : Launch) (D : va_G) (cI cZ : ClassId) (d : Nat → Nat) (σ κ : St)  (s0 : Int) (h0 : 0 ≤ s0) (h1 : s0 < 40) (hwf : xWF σ) : gMet l yX1_applesNow wsX1_applesNow ({ frames := 2, cells := 0, slots := 0, locals := 42 } : Room) D (tyXs cI cZ) (XW cI cZ d σ κ) [.ref (d 0), .int (iI s0)] xEx (fun _ => some (.int (iI (apx σ s0)))) (fun κ' => True) (fun κ' => XW cI cZ d σ κ') := by
  refine g_start (cc := cX1_applesNow) (maxL := 2) (ret := (some .int)) (by decide) rfl (Nat.le_of_ble_eq_true rfl) ?_
  intro p e s m args below meth c A ls H locs S hr hlocks hname hP hK hD hA hS hE hl
  have S0 := S
  obtain ⟨hx, hb, hml, hown, hts⟩ := S0
  have hl : lv_has ls 2 [(0, .ref (d 0)), (1, .int (iI (s0)))] := hl
  have hinX0 : ∀ w ∈ wsX00, w ∈ wsX1_applesNow := by decide +kernel
  have hinX1 : ∀ w ∈ wsX10, w ∈ wsX1_applesNow := by decide +kernel
  refine lv_aload_n hx hb dX1_applesNow_0 rfl (lv_at hl 0 rfl) ?_
  refine lv_iload_n hx hb dX1_applesNow_1 rfl (lv_at hl 1 rfl) ?_
  have hPc : va_P D vwCl (XW cI cZ d σ κ ++ []) H := by rw [List.append_nil]; exact hP
  have hDc : va_D A (XW cI cZ d σ κ ++ []) := by rw [List.append_nil]; exact hD
  refine g_call (va_runV (As := [.int (iI (s0))]) (rest := []) S ((kX1_lookAt l D cI cZ d σ κ s0 (by first | assumption | omega) (by first | assumption | omega) (by first | assumption | omega)) H.size) (cwV 1 hts gX1_applesNow_X1_lookAt rfl rfl rfl (by decide +kernel) ⟨Nat.le_of_ble_eq_true rfl, Nat.le_of_ble_eq_true rfl⟩) (g_preV xEx_g hK [0, 1] rfl hPc hDc (fun U _ hW => xEx_w hW hE) (q0 := 0) (ci := 1) rfl rfl rfl) rfl rfl hl.1 rfl (lv_room (Nat.le_of_ble_eq_true rfl)) dX1_applesNow_2 ⟨Nat.le_of_ble_eq_true rfl, Nat.le_of_ble_eq_true rfl⟩) hPc hDc hS hA (fun κ9 H locs hk hP hD hS => ?_)
  have hk : su (su (su (su κ 0 0 (σ 6 s0)) 0 2 (σ 5 s0)) 0 3 (σ 7 s0)) 0 1 (lkh σ s0) = κ9 := hk.symm
  subst hk
  have hP : va_P D vwCl (XW cI cZ d σ (su (su (su (su κ 0 0 (σ 6 s0)) 0 2 (σ 5 s0)) 0 3 (σ 7 s0)) 0 1 (lkh σ s0))) H := by have h9 : va_P D vwCl (XW cI cZ d σ (su (su (su (su κ 0 0 (σ 6 s0)) 0 2 (σ 5 s0)) 0 3 (σ 7 s0)) 0 1 (lkh σ s0)) ++ []) H := hP; rw [List.append_nil] at h9; exact h9
  have hD : va_D A (XW cI cZ d σ (su (su (su (su κ 0 0 (σ 6 s0)) 0 2 (σ 5 s0)) 0 3 (σ 7 s0)) 0 1 (lkh σ s0))) := by have h9 : va_D A (XW cI cZ d σ (su (su (su (su κ 0 0 (σ 6 s0)) 0 2 (σ 5 s0)) 0 3 (σ 7 s0)) 0 1 (lkh σ s0)) ++ []) := hD; rw [List.append_nil] at h9; exact h9
  show W p l e ({ frames := 2, cells := 0, slots := 0, locals := 42 } : Room) s m args below meth c H locs 0 0 (MQ below (gQ D (tyXs cI cZ) (fun κ' => XW cI cZ d σ κ') A (fun _ => some (.int (iI (apx σ s0)))) (fun κ' => True)) args s 0 0 A) (F0 m 5 ls [])
  refine lv_aload_n hx hb dX1_applesNow_5 rfl (lv_at hl 0 rfl) ?_
  refine va_get (D := D) (ci := 1) (v := .ref (d 10)) (C := RX1) (T := TX1) (N := 13) hx hb hts hinX1 hown hK hP 0 rfl rfl 11 (by decide) (hts (.fieldLink RX1 48 "TwinOrchard" "looked" "LTwinOrchard$Tree;") (List.mem_of_getElem? (i := 1) rfl)) (fun _ h9 => h9) rfl dX1_applesNow_6 ?_
  have hPc : va_P D vwCl (XW cI cZ d σ (su (su (su (su κ 0 0 (σ 6 s0)) 0 2 (σ 5 s0)) 0 3 (σ 7 s0)) 0 1 (lkh σ s0)) ++ []) H := by rw [List.append_nil]; exact hP
  have hDc : va_D A (XW cI cZ d σ (su (su (su (su κ 0 0 (σ 6 s0)) 0 2 (σ 5 s0)) 0 3 (σ 7 s0)) 0 1 (lkh σ s0)) ++ []) := by rw [List.append_nil]; exact hD
  refine g_call (va_runVN (As := []) (rest := []) S ((kX0_apples l D cI cZ d σ (su (su (su (su κ 0 0 (σ 6 s0)) 0 2 (σ 5 s0)) 0 3 (σ 7 s0)) 0 1 (lkh σ s0))  (kWF_lk hwf s0)) H.size) ⟨va_cnB 0 hts gX1_applesNow_X0_apples_n237 rfl rfl rfl (va_Nw.of (A := #[]) rfl (xEx_u hE 2 rfl rfl)) (hts (.initialized RX0) (List.mem_of_getElem? (i := 17) rfl)) (by decide +kernel) ⟨Nat.le_of_ble_eq_true rfl, Nat.le_of_ble_eq_true rfl⟩, (hts _ (List.mem_of_getElem? (i := 16) rfl)), (hts _ (List.mem_of_getElem? (i := 18) rfl))⟩ (g_preV xEx_g hK [0, 1] rfl hPc hDc (fun U _ hW => xEx_w hW hE) (q0 := 10) (ci := 0) rfl rfl rfl) rfl rfl hl.1 rfl (lv_room (Nat.le_of_ble_eq_true rfl)) dX1_applesNow_9 ⟨Nat.le_of_ble_eq_true rfl, Nat.le_of_ble_eq_true rfl⟩) hPc hDc hS hA (fun κ9 H locs hk hP hD hS => ?_)
  have hk : su (su (su (su κ 0 0 (σ 6 s0)) 0 2 (σ 5 s0)) 0 3 (σ 7 s0)) 0 1 (lkh σ s0) = κ9 := hk.symm
  subst hk
  have hP : va_P D vwCl (XW cI cZ d σ (su (su (su (su κ 0 0 (σ 6 s0)) 0 2 (σ 5 s0)) 0 3 (σ 7 s0)) 0 1 (lkh σ s0))) H := by have h9 : va_P D vwCl (XW cI cZ d σ (su (su (su (su κ 0 0 (σ 6 s0)) 0 2 (σ 5 s0)) 0 3 (σ 7 s0)) 0 1 (lkh σ s0)) ++ []) H := hP; rw [List.append_nil] at h9; exact h9
  have hD : va_D A (XW cI cZ d σ (su (su (su (su κ 0 0 (σ 6 s0)) 0 2 (σ 5 s0)) 0 3 (σ 7 s0)) 0 1 (lkh σ s0))) := by have h9 : va_D A (XW cI cZ d σ (su (su (su (su κ 0 0 (σ 6 s0)) 0 2 (σ 5 s0)) 0 3 (σ 7 s0)) 0 1 (lkh σ s0)) ++ []) := hD; rw [List.append_nil] at h9; exact h9
  show W p l e ({ frames := 2, cells := 0, slots := 0, locals := 42 } : Room) s m args below meth c H locs 0 0 (MQ below (gQ D (tyXs cI cZ) (fun κ' => XW cI cZ d σ κ') A (fun _ => some (.int (iI (apx σ s0)))) (fun κ' => True)) args s 0 0 A) (F0 m 12 ls [.int (iI (apl (σ 6 s0) (σ 5 s0) (σ 7 s0)))])
  have er : ((apx σ s0 : Int)) = (apl (σ 6 s0) (σ 5 s0) (σ 7 s0)) := by rfl
  exact g_iret (wo := (fun κ' => XW cI cZ d σ κ')) (kr := (fun κ' => True)) (rv := (fun _ => some (.int (iI (apx σ s0))))) hx hb hr hlocks (su (su (su (su κ 0 0 (σ 6 s0)) 0 2 (σ 5 s0)) 0 3 (σ 7 s0)) 0 1 (lkh σ s0)) rfl hP hK hD hS trivial (by rw [er]) (Nat.le_of_ble_eq_true rfl) (Nat.le_of_ble_eq_true rfl) dX1_applesNow_12
