set_option maxHeartbeats 4000000 in
set_option maxRecDepth 100000 in
theorem lq_dif {p : Program} {l : Launch} {e : Env} {s : State} {m : MethodId} {args : Array Value} {below : List Frame} {meth : Method} {c : Code} {H : Heap} {locs : List Loc} {cells slots : Nat} {Q : State → Prop} {ls : Array Slot} {D : va_G} {A : Nat → Prop} {cI cZ cT cU cQ : ClassId} {b L : Nat} {xs : Nat → Int32} {d ds : Nat → Nat} {σ κ : St} {ι : Int → Int} {w4 : Nat} {t : Int} {x : Int} {w : Int} {r : Int} {pl : Int} {hw : Int} {c1 : Int} {c2 : Int} {c5 : Int} {tl : Int} {al : Int} {df : Int} {h : Int} {tt : Int} {Wx : va_W} {w6 : Nat} {w17 : Nat} {τ : St} (G : lG p l s m c args A D cI cZ cT cU cQ b L xs) (hwf : xWF τ) (hbn : ∀ j, τ 2 j ≤ 200000) (hh : h = 0 ∨ h = 1) (ht : tt = 0 ∨ tt = 1) (hal : 0 ≤ al ∧ al ≤ 1) (hdf : inR df) (hd : h = 1 → tt = 1 → al = 1 → xCount τ 7 ≤ df) (hcc : cells + 1 ≤ 600104) (hss : slots + 6 ≤ 7301314) (hP : va_P D vwCl ([(w4, aI cI 4 cst)] ++ ((XW cI cZ d τ κ) ++ ((SW cI cT cU ds τ ι) ++ (Wx)))) H) (hD : va_D A ([(w4, aI cI 4 cst)] ++ ((XW cI cZ d τ κ) ++ ((SW cI cT cU ds τ ι) ++ (Wx))))) (hS : va_S A s.heap H locs) (hl : lv_has ls 35 [(21, .int (iI (tt))), (20, .int (iI (h))), (17, .ref (w17)), (16, .int (iI (al))), (15, .int (iI (df))), (14, .int (iI (w))), (13, .int (iI (hw))), (12, .int (iI (pl))), (11, .int (iI (r))), (10, .int (iI (tl))), (9, .int (iI (c5))), (8, .int (iI (c2))), (7, .int (iI (c1))), (6, .ref (w6)), (5, .int (iI (x))), (4, .int (iI (t))), (3, .ref (w4)), (2, .ref (ds 0)), (1, .ref (d 0)), (0, .ref (b))]) (K : ∀ (κ1 : St) (H : Heap) (locs : List Loc) (cells1 slots1 : Nat) (ls : Array Slot), cells1 ≤ cells + 1 → slots1 ≤ slots + 6 → va_P D vwCl ([(w4, aI cI 4 cst)] ++ ((XW cI cZ d τ κ1) ++ ((SW cI cT cU ds τ ι) ++ (Wx)))) H → va_D A ([(w4, aI cI 4 cst)] ++ ((XW cI cZ d τ κ1) ++ ((SW cI cT cU ds τ ι) ++ (Wx)))) → va_S A s.heap H locs → lv_has ls 35 [(21, .int (iI (tt))), (20, .int (iI (h))), (17, .ref (w17)), (16, .int (iI (al))), (15, .int (iI (df))), (14, .int (iI (w))), (13, .int (iI (hw))), (12, .int (iI (pl))), (11, .int (iI (r))), (10, .int (iI (tl))), (9, .int (iI (c5))), (8, .int (iI (c2))), (7, .int (iI (c1))), (6, .ref (w6)), (5, .int (iI (x))), (4, .int (iI (t))), (3, .ref (w4)), (2, .ref (ds 0)), (1, .ref (d 0)), (0, .ref (b))] → W p l e room_1 s m args below meth c H locs cells1 slots1 Q (F0 m 703 ls [])) : W p l e room_1 s m args below meth c H locs cells slots Q (F0 m 675 ls []) := by
  obtain ⟨S, hfl, hK, hA, hTE, hN, hX9, hL⟩ := id G
  have hE := hTE.1
  have S0 := S
  obtain ⟨hx, hb, hml, hown, hts⟩ := S0
  have hinX2 := inlX2
  refine lv_iload hx hb dL_law_675 (lv_at hl 1 rfl) ?_
  refine gi_if_eq (tgt := 703) hx hb dL_law_677 (by decide) ⟨by omega, by omega⟩ (fun c677 => ?_) (fun c677 => ?_)
  · skip
    exact K κ H locs cells slots ls  (by omega) (by omega) hP hD hS (lv_sub hl [0, 1, 2, 3, 4, 5, 6, 7, 8, 9, 10, 11, 12, 13, 14, 15, 16, 17, 18, 19] rfl)
  · skip
    refine lv_iload hx hb dL_law_680 (lv_at hl 0 rfl) ?_
    refine gi_if_eq (tgt := 703) hx hb dL_law_682 (by decide) ⟨by omega, by omega⟩ (fun c682 => ?_) (fun c682 => ?_)
    · skip
      exact K κ H locs cells slots ls  (by omega) (by omega) hP hD hS (lv_sub hl [0, 1, 2, 3, 4, 5, 6, 7, 8, 9, 10, 11, 12, 13, 14, 15, 16, 17, 18, 19] rfl)
    · skip
      refine lv_iload hx hb dL_law_685 (lv_at hl 3 rfl) ?_
      refine gi_if_eq (tgt := 703) hx hb dL_law_687 (by decide) ⟨by omega, by omega⟩ (fun c687 => ?_) (fun c687 => ?_)
      · skip
        exact K κ H locs cells slots ls  (by omega) (by omega) hP hD hS (lv_sub hl [0, 1, 2, 3, 4, 5, 6, 7, 8, 9, 10, 11, 12, 13, 14, 15, 16, 17, 18, 19] rfl)
      · skip
        refine lv_aload_n hx hb dL_law_690 rfl (lv_at hl 18 rfl) ?_
        refine lv_bipush (v := iI (7)) hx hb dL_law_691 rfl ?_
        have hp9 : ((XW cI cZ d τ κ) ++ ([(w4, aI cI 4 cst)] ++ ((SW cI cT cU ds τ ι) ++ (Wx))) : va_W).Perm ([(w4, aI cI 4 cst)] ++ ((XW cI cZ d τ κ) ++ ((SW cI cT cU ds τ ι) ++ (Wx))) : va_W) := (List.perm_append_comm_assoc _ _ _)
        have hPc : va_P D vwCl ((XW cI cZ d τ κ) ++ ([(w4, aI cI 4 cst)] ++ ((SW cI cT cU ds τ ι) ++ (Wx)))) H := va_mem hP (fun q9 hq9 => hp9.mem_iff.mp hq9)
        have hDc : va_D A ((XW cI cZ d τ κ) ++ ([(w4, aI cI 4 cst)] ++ ((SW cI cT cU ds τ ι) ++ (Wx)))) := va_Dp hD hp9
        refine h_call0 (vx_runV (As := [.int (iI (7))]) (rest := []) S ((kX1_count l hfl D cI cZ d τ κ 7 (by first | assumption | omega) (by first | assumption | omega) (by first | assumption | omega)) H.size) (cwV 1 hts gL_law_X1_count rfl rfl rfl (by decide +kernel) ⟨Nat.le_of_ble_eq_true rfl, Nat.le_of_ble_eq_true rfl⟩) (h_preV hK [0, 1] rfl hPc hDc hS hA hTE (q0 := 0) (ci := 1) rfl rfl rfl) rfl rfl hl.1 rfl (lv_room (Nat.le_of_ble_eq_true rfl)) dL_law_693 ⟨by show cells + 1 ≤ 600104; omega, by show slots + 6 ≤ 7301314; omega⟩) hPc hDc hS hA (fun E h => (by have h0 : (tCount 7) = 0 := (by unfold tCount; rw [if_neg (by omega)]); rcases h with ⟨_, h⟩ <;> omega)) (fun κ9 H locs hk hP hD hS => ?_)
        obtain ⟨z1, ezz1⟩ : ∃ z, z = κ9 := ⟨_, rfl⟩
        subst ezz1
        have hP : va_P D vwCl ((XW cI cZ d τ z1) ++ ([(w4, aI cI 4 cst)] ++ ((SW cI cT cU ds τ ι) ++ (Wx)))) H := hP
        have hD : va_D A ((XW cI cZ d τ z1) ++ ([(w4, aI cI 4 cst)] ++ ((SW cI cT cU ds τ ι) ++ (Wx)))) := hD
        have hp9 : ([(w4, aI cI 4 cst)] ++ ((XW cI cZ d τ z1) ++ ((SW cI cT cU ds τ ι) ++ (Wx))) : va_W).Perm ((XW cI cZ d τ z1) ++ ([(w4, aI cI 4 cst)] ++ ((SW cI cT cU ds τ ι) ++ (Wx))) : va_W) := (List.perm_append_comm_assoc _ _ _)
        have hP : va_P D vwCl ([(w4, aI cI 4 cst)] ++ ((XW cI cZ d τ z1) ++ ((SW cI cT cU ds τ ι) ++ (Wx)))) H := va_mem hP (fun q9 hq9 => hp9.mem_iff.mp hq9)
        have hD : va_D A ([(w4, aI cI 4 cst)] ++ ((XW cI cZ d τ z1) ++ ((SW cI cT cU ds τ ι) ++ (Wx)))) := va_Dp hD hp9
        show W p l e room_1 s m args below meth c H locs (cells + 1) (slots + 6) Q (F0 m 696 ls [.int (iI (xCount τ 7))])
        refine lv_iload hx hb dL_law_696 (lv_at hl 4 rfl) ?_
        refine gi_icmp_le (tgt := 703) hx hb dL_law_698 (by decide) (xCountR hwf hbn _) hdf (fun c698 => ?_) (fun c698 => ?_)
        · skip
          exact K z1 H locs (cells + 1) (slots + 6) ls  (by omega) (by omega) hP hD hS (lv_sub hl [0, 1, 2, 3, 4, 5, 6, 7, 8, 9, 10, 11, 12, 13, 14, 15, 16, 17, 18, 19] rfl)
        · skip
          exfalso
          have := hd (by omega) (by omega) (by omega)
          omega
set_option maxHeartbeats 4000000 in
set_option maxRecDepth 100000 in
theorem lq_barn {p : Program} {l : Launch} {e : Env} {s : State} {m : MethodId} {args : Array Value} {below : List Frame} {meth : Method} {c : Code} {H : Heap} {locs : List Loc} {cells slots : Nat} {Q : State → Prop} {ls : Array Slot} {D : va_G} {A : Nat → Prop} {cI cZ cT cU cQ : ClassId} {b L : Nat} {xs : Nat → Int32} {d ds : Nat → Nat} {σ κ : St} {ι : Int → Int} {w4 : Nat} {t : Int} {x : Int} {w : Int} {r : Int} {pl : Int} {hw : Int} {c1 : Int} {c2 : Int} {c5 : Int} {tl : Int} {al : Int} {df : Int} {h : Int} {tt : Int} {Wx : va_W} {w6 : Nat} {w17 : Nat} {τ : St} (G : lG p l s m c args A D cI cZ cT cU cQ b L xs) (hwf : xWF τ) (hbn : ∀ j, τ 2 j ≤ 200000) (hw9 : -1 ≤ w ∧ w ≤ 3) (hc5 : inR c5) (h5 : xCount τ 5 ≤ c5) (h5e : 0 ≤ w → xCount τ 5 = c5) (htl : 0 ≤ w → τ 9 1 = tl) (hcc : cells + 2 ≤ 600104) (hss : slots + 12 ≤ 7301314) (hP : va_P D vwCl ([(w4, aI cI 4 cst)] ++ ((XW cI cZ d τ κ) ++ ((SW cI cT cU ds τ ι) ++ (Wx)))) H) (hD : va_D A ([(w4, aI cI 4 cst)] ++ ((XW cI cZ d τ κ) ++ ((SW cI cT cU ds τ ι) ++ (Wx))))) (hS : va_S A s.heap H locs) (hl : lv_has ls 35 [(21, .int (iI (tt))), (20, .int (iI (h))), (17, .ref (w17)), (16, .int (iI (al))), (15, .int (iI (df))), (14, .int (iI (w))), (13, .int (iI (hw))), (12, .int (iI (pl))), (11, .int (iI (r))), (10, .int (iI (tl))), (9, .int (iI (c5))), (8, .int (iI (c2))), (7, .int (iI (c1))), (6, .ref (w6)), (5, .int (iI (x))), (4, .int (iI (t))), (3, .ref (w4)), (2, .ref (ds 0)), (1, .ref (d 0)), (0, .ref (b))]) (K : ∀ (κ1 : St) (H : Heap) (locs : List Loc) (cells1 slots1 : Nat) (ls : Array Slot), cells1 ≤ cells + 2 → slots1 ≤ slots + 12 → va_P D vwCl ([(w4, aI cI 4 cst)] ++ ((XW cI cZ d τ κ1) ++ ((SW cI cT cU ds τ ι) ++ (Wx)))) H → va_D A ([(w4, aI cI 4 cst)] ++ ((XW cI cZ d τ κ1) ++ ((SW cI cT cU ds τ ι) ++ (Wx)))) → va_S A s.heap H locs → lv_has ls 35 [(17, .ref (w17)), (5, .int (iI (x))), (4, .int (iI (t))), (3, .ref (w4)), (2, .ref (ds 0)), (1, .ref (d 0)), (0, .ref (b))] → W p l e room_1 s m args below meth c H locs cells1 slots1 Q (F0 m 739 ls [])) : W p l e room_1 s m args below meth c H locs cells slots Q (F0 m 703 ls []) := by
  obtain ⟨S, hfl, hK, hA, hTE, hN, hX9, hL⟩ := id G
  have hE := hTE.1
  have S0 := S
  obtain ⟨hx, hb, hml, hown, hts⟩ := S0
  have hinX2 := inlX2
  refine lv_aload_n hx hb dL_law_703 rfl (lv_at hl 18 rfl) ?_
  refine lv_iconst (v := iI (5)) hx hb dL_law_704 rfl ?_
  have hp9 : ((XW cI cZ d τ κ) ++ ([(w4, aI cI 4 cst)] ++ ((SW cI cT cU ds τ ι) ++ (Wx))) : va_W).Perm ([(w4, aI cI 4 cst)] ++ ((XW cI cZ d τ κ) ++ ((SW cI cT cU ds τ ι) ++ (Wx))) : va_W) := (List.perm_append_comm_assoc _ _ _)
  have hPc : va_P D vwCl ((XW cI cZ d τ κ) ++ ([(w4, aI cI 4 cst)] ++ ((SW cI cT cU ds τ ι) ++ (Wx)))) H := va_mem hP (fun q9 hq9 => hp9.mem_iff.mp hq9)
  have hDc : va_D A ((XW cI cZ d τ κ) ++ ([(w4, aI cI 4 cst)] ++ ((SW cI cT cU ds τ ι) ++ (Wx)))) := va_Dp hD hp9
  refine h_call0 (vx_runV (As := [.int (iI (5))]) (rest := []) S ((kX1_count l hfl D cI cZ d τ κ 5 (by first | assumption | omega) (by first | assumption | omega) (by first | assumption | omega)) H.size) (cwV 1 hts gL_law_X1_count rfl rfl rfl (by decide +kernel) ⟨Nat.le_of_ble_eq_true rfl, Nat.le_of_ble_eq_true rfl⟩) (h_preV hK [0, 1] rfl hPc hDc hS hA hTE (q0 := 0) (ci := 1) rfl rfl rfl) rfl rfl hl.1 rfl (lv_room (Nat.le_of_ble_eq_true rfl)) dL_law_705 ⟨by show cells + 1 ≤ 600104; omega, by show slots + 6 ≤ 7301314; omega⟩) hPc hDc hS hA (fun E h => (by have h0 : (tCount 5) = 0 := (by unfold tCount; rw [if_neg (by omega)]); rcases h with ⟨_, h⟩ <;> omega)) (fun κ9 H locs hk hP hD hS => ?_)
  obtain ⟨z1, ezz1⟩ : ∃ z, z = κ9 := ⟨_, rfl⟩
  subst ezz1
  have hP : va_P D vwCl ((XW cI cZ d τ z1) ++ ([(w4, aI cI 4 cst)] ++ ((SW cI cT cU ds τ ι) ++ (Wx)))) H := hP
  have hD : va_D A ((XW cI cZ d τ z1) ++ ([(w4, aI cI 4 cst)] ++ ((SW cI cT cU ds τ ι) ++ (Wx)))) := hD
  have hp9 : ([(w4, aI cI 4 cst)] ++ ((XW cI cZ d τ z1) ++ ((SW cI cT cU ds τ ι) ++ (Wx))) : va_W).Perm ((XW cI cZ d τ z1) ++ ([(w4, aI cI 4 cst)] ++ ((SW cI cT cU ds τ ι) ++ (Wx))) : va_W) := (List.perm_append_comm_assoc _ _ _)
  have hP : va_P D vwCl ([(w4, aI cI 4 cst)] ++ ((XW cI cZ d τ z1) ++ ((SW cI cT cU ds τ ι) ++ (Wx)))) H := va_mem hP (fun q9 hq9 => hp9.mem_iff.mp hq9)
  have hD : va_D A ([(w4, aI cI 4 cst)] ++ ((XW cI cZ d τ z1) ++ ((SW cI cT cU ds τ ι) ++ (Wx)))) := va_Dp hD hp9
  show W p l e room_1 s m args below meth c H locs (cells + 1) (slots + 6) Q (F0 m 708 ls [.int (iI (xCount τ 5))])
  refine lv_iload hx hb dL_law_708 (lv_at hl 10 rfl) ?_
  refine gi_icmp_gt (tgt := 737) hx hb dL_law_710 (by decide) (xCountR hwf hbn _) hc5 (fun c710 => ?_) (fun c710 => ?_)
  · skip
    exfalso
    omega
  · skip
    refine lv_iload hx hb dL_law_713 (lv_at hl 5 rfl) ?_
    refine gi_if_lt (tgt := 739) hx hb dL_law_715 (by decide) ⟨by omega, by omega⟩ (fun c715 => ?_) (fun c715 => ?_)
    · skip
      exact K z1 H locs (cells + 1) (slots + 6) ls  (by omega) (by omega) hP hD hS (lv_sub hl [2, 14, 15, 16, 17, 18, 19] rfl)
    · skip
      refine lv_aload_n hx hb dL_law_718 rfl (lv_at hl 18 rfl) ?_
      refine lv_iconst (v := iI (5)) hx hb dL_law_719 rfl ?_
      have hp9 : ((XW cI cZ d τ z1) ++ ([(w4, aI cI 4 cst)] ++ ((SW cI cT cU ds τ ι) ++ (Wx))) : va_W).Perm ([(w4, aI cI 4 cst)] ++ ((XW cI cZ d τ z1) ++ ((SW cI cT cU ds τ ι) ++ (Wx))) : va_W) := (List.perm_append_comm_assoc _ _ _)
      have hPc : va_P D vwCl ((XW cI cZ d τ z1) ++ ([(w4, aI cI 4 cst)] ++ ((SW cI cT cU ds τ ι) ++ (Wx)))) H := va_mem hP (fun q9 hq9 => hp9.mem_iff.mp hq9)
      have hDc : va_D A ((XW cI cZ d τ z1) ++ ([(w4, aI cI 4 cst)] ++ ((SW cI cT cU ds τ ι) ++ (Wx)))) := va_Dp hD hp9
      refine h_call0 (vx_runV (As := [.int (iI (5))]) (rest := []) S ((kX1_count l hfl D cI cZ d τ z1 5 (by first | assumption | omega) (by first | assumption | omega) (by first | assumption | omega)) H.size) (cwV 1 hts gL_law_X1_count rfl rfl rfl (by decide +kernel) ⟨Nat.le_of_ble_eq_true rfl, Nat.le_of_ble_eq_true rfl⟩) (h_preV hK [0, 1] rfl hPc hDc hS hA hTE (q0 := 0) (ci := 1) rfl rfl rfl) rfl rfl hl.1 rfl (lv_room (Nat.le_of_ble_eq_true rfl)) dL_law_720 ⟨by show (cells + 1) + 1 ≤ 600104; omega, by show (slots + 6) + 6 ≤ 7301314; omega⟩) hPc hDc hS hA (fun E h => (by have h0 : (tCount 5) = 0 := (by unfold tCount; rw [if_neg (by omega)]); rcases h with ⟨_, h⟩ <;> omega)) (fun κ9 H locs hk hP hD hS => ?_)
      obtain ⟨z2, ezz2⟩ : ∃ z, z = κ9 := ⟨_, rfl⟩
      subst ezz2
      have hP : va_P D vwCl ((XW cI cZ d τ z2) ++ ([(w4, aI cI 4 cst)] ++ ((SW cI cT cU ds τ ι) ++ (Wx)))) H := hP
      have hD : va_D A ((XW cI cZ d τ z2) ++ ([(w4, aI cI 4 cst)] ++ ((SW cI cT cU ds τ ι) ++ (Wx)))) := hD
      have hp9 : ([(w4, aI cI 4 cst)] ++ ((XW cI cZ d τ z2) ++ ((SW cI cT cU ds τ ι) ++ (Wx))) : va_W).Perm ((XW cI cZ d τ z2) ++ ([(w4, aI cI 4 cst)] ++ ((SW cI cT cU ds τ ι) ++ (Wx))) : va_W) := (List.perm_append_comm_assoc _ _ _)
      have hP : va_P D vwCl ([(w4, aI cI 4 cst)] ++ ((XW cI cZ d τ z2) ++ ((SW cI cT cU ds τ ι) ++ (Wx)))) H := va_mem hP (fun q9 hq9 => hp9.mem_iff.mp hq9)
      have hD : va_D A ([(w4, aI cI 4 cst)] ++ ((XW cI cZ d τ z2) ++ ((SW cI cT cU ds τ ι) ++ (Wx)))) := va_Dp hD hp9
      show W p l e room_1 s m args below meth c H locs (cells + 2) (slots + 12) Q (F0 m 723 ls [.int (iI (xCount τ 5))])
      refine lv_iload hx hb dL_law_723 (lv_at hl 10 rfl) ?_
      refine gi_icmp_ne (tgt := 737) hx hb dL_law_725 (by decide) (xCountR hwf hbn _) hc5 (fun c725 => ?_) (fun c725 => ?_)
      · skip
        exfalso
        omega
      · skip
        refine lv_aload_n hx hb dL_law_728 rfl (lv_at hl 18 rfl) ?_
        have hp9 : ((XW cI cZ d τ z2) ++ ([(w4, aI cI 4 cst)] ++ ((SW cI cT cU ds τ ι) ++ (Wx))) : va_W).Perm ([(w4, aI cI 4 cst)] ++ ((XW cI cZ d τ z2) ++ ((SW cI cT cU ds τ ι) ++ (Wx))) : va_W) := (List.perm_append_comm_assoc _ _ _)
        have hPc : va_P D vwCl ((XW cI cZ d τ z2) ++ ([(w4, aI cI 4 cst)] ++ ((SW cI cT cU ds τ ι) ++ (Wx)))) H := va_mem hP (fun q9 hq9 => hp9.mem_iff.mp hq9)
        have hDc : va_D A ((XW cI cZ d τ z2) ++ ([(w4, aI cI 4 cst)] ++ ((SW cI cT cU ds τ ι) ++ (Wx)))) := va_Dp hD hp9
        refine g_call (va_runV (As := []) (rest := []) S ((kX1_tilt l D cI cZ d τ z2  ) H.size) (cwV 0 hts gL_law_X1_tilt rfl rfl rfl (by decide +kernel) ⟨Nat.le_of_ble_eq_true rfl, Nat.le_of_ble_eq_true rfl⟩) (g_preV xEx_g hK [0, 1] rfl hPc hDc (fun U _ hW => xEx_w hW hE) (q0 := 0) (ci := 1) rfl rfl rfl) rfl rfl hl.1 rfl (lv_room (Nat.le_of_ble_eq_true rfl)) dL_law_729 ⟨by show (cells + 2) + 0 ≤ 600104; omega, by show (slots + 12) + 0 ≤ 7301314; omega⟩) hPc hDc hS hA (fun κ9 H locs hk hP hD hS => ?_)
        obtain ⟨z3, ezz3⟩ : ∃ z, z = κ9 := ⟨_, rfl⟩
        subst ezz3
        have hP : va_P D vwCl ((XW cI cZ d τ z3) ++ ([(w4, aI cI 4 cst)] ++ ((SW cI cT cU ds τ ι) ++ (Wx)))) H := hP
        have hD : va_D A ((XW cI cZ d τ z3) ++ ([(w4, aI cI 4 cst)] ++ ((SW cI cT cU ds τ ι) ++ (Wx)))) := hD
        have hp9 : ([(w4, aI cI 4 cst)] ++ ((XW cI cZ d τ z3) ++ ((SW cI cT cU ds τ ι) ++ (Wx))) : va_W).Perm ((XW cI cZ d τ z3) ++ ([(w4, aI cI 4 cst)] ++ ((SW cI cT cU ds τ ι) ++ (Wx))) : va_W) := (List.perm_append_comm_assoc _ _ _)
        have hP : va_P D vwCl ([(w4, aI cI 4 cst)] ++ ((XW cI cZ d τ z3) ++ ((SW cI cT cU ds τ ι) ++ (Wx)))) H := va_mem hP (fun q9 hq9 => hp9.mem_iff.mp hq9)
        have hD : va_D A ([(w4, aI cI 4 cst)] ++ ((XW cI cZ d τ z3) ++ ((SW cI cT cU ds τ ι) ++ (Wx)))) := va_Dp hD hp9
        show W p l e room_1 s m args below meth c H locs (cells + 2) (slots + 12) Q (F0 m 732 ls [.int (iI (τ 9 1))])
        refine lv_iload hx hb dL_law_732 (lv_at hl 9 rfl) ?_
        rw [htl (by omega)]
        refine lv_icmp_eq (tgt := 739) hx hb dL_law_734 (by decide) (fun _ => ?_) (fun h9 => absurd rfl h9)
        exact K z3 H locs (cells + 2) (slots + 12) ls  (by omega) (by omega) hP hD hS (lv_sub hl [2, 14, 15, 16, 17, 18, 19] rfl)
set_option maxHeartbeats 4000000 in
set_option maxRecDepth 100000 in
theorem lq_heavy {p : Program} {l : Launch} {e : Env} {s : State} {m : MethodId} {args : Array Value} {below : List Frame} {meth : Method} {c : Code} {H : Heap} {locs : List Loc} {cells slots : Nat} {Q : State → Prop} {ls : Array Slot} {D : va_G} {A : Nat → Prop} {cI cZ cT cU cQ : ClassId} {b L : Nat} {xs : Nat → Int32} {d ds : Nat → Nat} {σ κ : St} {ι : Int → Int} {w4 : Nat} {t : Int} {x : Int} {Wx : va_W} {w17 : Nat} {τ : St} (G : lG p l s m c args A D cI cZ cT cU cQ b L xs) (hwf : xWF τ) (hbn : ∀ j, τ 2 j ≤ 200000) (hcc : cells + 25 ≤ 600104) (hss : slots + 150 ≤ 7301314) (hP : va_P D vwCl ([(w4, aI cI 4 cst)] ++ ((XW cI cZ d τ κ) ++ ((SW cI cT cU ds τ ι) ++ (Wx)))) H) (hD : va_D A ([(w4, aI cI 4 cst)] ++ ((XW cI cZ d τ κ) ++ ((SW cI cT cU ds τ ι) ++ (Wx))))) (hS : va_S A s.heap H locs) (hl : lv_has ls 35 [(17, .ref (w17)), (5, .int (iI (x))), (4, .int (iI (t))), (3, .ref (w4)), (2, .ref (ds 0)), (1, .ref (d 0)), (0, .ref (b))]) (K : ∀ (κ1 : St) (H : Heap) (locs : List Loc) (cells1 slots1 : Nat) (ls : Array Slot), cells1 ≤ cells + 25 → slots1 ≤ slots + 150 → va_P D vwCl ([(w4, aI cI 4 cst)] ++ ((XW cI cZ d τ κ1) ++ ((SW cI cT cU ds τ ι) ++ (Wx)))) H → va_D A ([(w4, aI cI 4 cst)] ++ ((XW cI cZ d τ κ1) ++ ((SW cI cT cU ds τ ι) ++ (Wx)))) → va_S A s.heap H locs → lv_has ls 35 [(17, .ref (w17)), (5, .int (iI (x))), (4, .int (iI (t))), (3, .ref (w4)), (2, .ref (ds 0)), (1, .ref (d 0)), (0, .ref (b))] → W p l e room_1 s m args below meth c H locs cells1 slots1 Q (F0 m 814 ls [])) : W p l e room_1 s m args below meth c H locs cells slots Q (F0 m 739 ls []) := by
  obtain ⟨S, hfl, hK, hA, hTE, hN, hX9, hL⟩ := id G
  have hE := hTE.1
  have S0 := S
  obtain ⟨hx, hb, hml, hown, hts⟩ := S0
  have hinX2 := inlX2
  refine lv_iconst (v := iI (0)) hx hb dL_law_739 rfl ?_
  refine lv_istore (lv' := [(22, .int (iI (0))), (17, .ref (w17)), (5, .int (iI (x))), (4, .int (iI (t))), (3, .ref (w4)), (2, .ref (ds 0)), (1, .ref (d 0)), (0, .ref (b))]) hx hb dL_law_740 hl (by decide) rfl (fun ls hl => ?_)
  refine lv_iconst (v := iI (0)) hx hb dL_law_742 rfl ?_
  refine lv_istore (lv' := [(23, .int (iI (0))), (22, .int (iI (0))), (17, .ref (w17)), (5, .int (iI (x))), (4, .int (iI (t))), (3, .ref (w4)), (2, .ref (ds 0)), (1, .ref (d 0)), (0, .ref (b))]) hx hb dL_law_743 hl (by decide) rfl (fun ls hl => ?_)
  have loop745 : ∀ (n745 : Nat) (k u : Int) (κx745 : St) (cl745 sl745 : Nat), (0 ≤ k) → (k ≤ 6) → (6 - k < (n745 : Int)) → (u = isumI (fun j => τ 0 j * τ 2 j) k) → ((cl745 : Int) ≤ cells + 2 * k) → ((sl745 : Int) ≤ slots + 12 * k) → ∀ (H : Heap) (locs : List Loc) (ls : Array Slot), va_P D vwCl ([(w4, aI cI 4 cst)] ++ ((XW cI cZ d τ κx745) ++ ((SW cI cT cU ds τ ι) ++ (Wx)))) H → va_D A ([(w4, aI cI 4 cst)] ++ ((XW cI cZ d τ κx745) ++ ((SW cI cT cU ds τ ι) ++ (Wx)))) → va_S A s.heap H locs → lv_has ls 35 [(23, .int (iI (k))), (22, .int (iI (u))), (17, .ref (w17)), (5, .int (iI (x))), (4, .int (iI (t))), (3, .ref (w4)), (2, .ref (ds 0)), (1, .ref (d 0)), (0, .ref (b))] → W p l e room_1 s m args below meth c H locs cl745 sl745 Q (F0 m 745 ls []) := by
    intro n745
    induction n745 with
    | zero =>
      intro k u κx745 cl745 sl745 hlo745 hhi745 hm745
      omega
    | succ n745 ih745 =>
      intro k u κx745 cl745 sl745 hlo745 hhi745 hm745 iu hcl745 hsl745 H locs ls hP hD hS hl
      refine lv_iload hx hb dL_law_745 (lv_at hl 0 rfl) ?_
      refine lv_bipush (v := iI (6)) hx hb dL_law_747 rfl ?_
      refine gi_icmp_ge (tgt := 778) hx hb dL_law_749 (by decide) ⟨by omega, by omega⟩ ⟨by decide, by decide⟩ (fun c749 => ?_) (fun c749 => ?_)
      · skip
        have eu : u = xCount τ 6 := by rw [iu, show k = 6 by omega]; exact wgt_e τ
        obtain ⟨v1, v2, v3, v4, v5⟩ := bal_ok hwf
        have ev9 : evB τ = isumI (fun j => τ 0 j * min 20 (τ 2 j)) 6 % 2 := rfl
        have kx := xCountR hwf hbn 6
        have kx2 : 0 ≤ xCount τ 6 := by omega
        refine lv_aload_n hx hb dL_law_778 rfl (lv_at hl 7 rfl) ?_
        refine lv_bipush (v := iI (6)) hx hb dL_law_779 rfl ?_
        have hp9 : ((XW cI cZ d τ κx745) ++ ([(w4, aI cI 4 cst)] ++ ((SW cI cT cU ds τ ι) ++ (Wx))) : va_W).Perm ([(w4, aI cI 4 cst)] ++ ((XW cI cZ d τ κx745) ++ ((SW cI cT cU ds τ ι) ++ (Wx))) : va_W) := (List.perm_append_comm_assoc _ _ _)
        have hPc : va_P D vwCl ((XW cI cZ d τ κx745) ++ ([(w4, aI cI 4 cst)] ++ ((SW cI cT cU ds τ ι) ++ (Wx)))) H := va_mem hP (fun q9 hq9 => hp9.mem_iff.mp hq9)
        have hDc : va_D A ((XW cI cZ d τ κx745) ++ ([(w4, aI cI 4 cst)] ++ ((SW cI cT cU ds τ ι) ++ (Wx)))) := va_Dp hD hp9
        refine h_call0 (vx_runV (As := [.int (iI (6))]) (rest := []) S ((kX1_count l hfl D cI cZ d τ κx745 6 (by first | assumption | omega) (by first | assumption | omega) (by first | assumption | omega)) H.size) (cwV 1 hts gL_law_X1_count rfl rfl rfl (by decide +kernel) ⟨Nat.le_of_ble_eq_true rfl, Nat.le_of_ble_eq_true rfl⟩) (h_preV hK [0, 1] rfl hPc hDc hS hA hTE (q0 := 0) (ci := 1) rfl rfl rfl) rfl rfl hl.1 rfl (lv_room (Nat.le_of_ble_eq_true rfl)) dL_law_781 ⟨by show cl745 + 1 ≤ 600104; omega, by show sl745 + 6 ≤ 7301314; omega⟩) hPc hDc hS hA (fun E h => (by have h0 : (tCount 6) = 0 := (by unfold tCount; rw [if_neg (by omega)]); rcases h with ⟨_, h⟩ <;> omega)) (fun κ9 H locs hk hP hD hS => ?_)
        obtain ⟨z1, ezz1⟩ : ∃ z, z = κ9 := ⟨_, rfl⟩
        subst ezz1
        have hP : va_P D vwCl ((XW cI cZ d τ z1) ++ ([(w4, aI cI 4 cst)] ++ ((SW cI cT cU ds τ ι) ++ (Wx)))) H := hP
        have hD : va_D A ((XW cI cZ d τ z1) ++ ([(w4, aI cI 4 cst)] ++ ((SW cI cT cU ds τ ι) ++ (Wx)))) := hD
        have hp9 : ([(w4, aI cI 4 cst)] ++ ((XW cI cZ d τ z1) ++ ((SW cI cT cU ds τ ι) ++ (Wx))) : va_W).Perm ((XW cI cZ d τ z1) ++ ([(w4, aI cI 4 cst)] ++ ((SW cI cT cU ds τ ι) ++ (Wx))) : va_W) := (List.perm_append_comm_assoc _ _ _)
        have hP : va_P D vwCl ([(w4, aI cI 4 cst)] ++ ((XW cI cZ d τ z1) ++ ((SW cI cT cU ds τ ι) ++ (Wx)))) H := va_mem hP (fun q9 hq9 => hp9.mem_iff.mp hq9)
        have hD : va_D A ([(w4, aI cI 4 cst)] ++ ((XW cI cZ d τ z1) ++ ((SW cI cT cU ds τ ι) ++ (Wx)))) := va_Dp hD hp9
        show W p l e room_1 s m args below meth c H locs (cl745 + 1) (sl745 + 6) Q (F0 m 784 ls [.int (iI (xCount τ 6))])
        refine lv_iload hx hb dL_law_784 (lv_at hl 1 rfl) ?_
        rw [show (u : Int) = (xCount τ 6) from by exact eu]
        refine gi_icmp_ne (tgt := 812) hx hb dL_law_786 (by decide) kx kx (fun c786 => ?_) (fun c786 => ?_)
        · skip
          exact absurd rfl c786
        · skip
          refine lv_aload_n hx hb dL_law_789 rfl (lv_at hl 7 rfl) ?_
          have hp9 : ((XW cI cZ d τ z1) ++ ([(w4, aI cI 4 cst)] ++ ((SW cI cT cU ds τ ι) ++ (Wx))) : va_W).Perm ([(w4, aI cI 4 cst)] ++ ((XW cI cZ d τ z1) ++ ((SW cI cT cU ds τ ι) ++ (Wx))) : va_W) := (List.perm_append_comm_assoc _ _ _)
          have hPc : va_P D vwCl ((XW cI cZ d τ z1) ++ ([(w4, aI cI 4 cst)] ++ ((SW cI cT cU ds τ ι) ++ (Wx)))) H := va_mem hP (fun q9 hq9 => hp9.mem_iff.mp hq9)
          have hDc : va_D A ((XW cI cZ d τ z1) ++ ([(w4, aI cI 4 cst)] ++ ((SW cI cT cU ds τ ι) ++ (Wx)))) := va_Dp hD hp9
          refine g_call (va_runV (As := []) (rest := []) S ((kX1_balance l D cI cZ d τ z1  (by first | assumption | omega)) H.size) (cwV 0 hts gL_law_X1_balance rfl rfl rfl (by decide +kernel) ⟨Nat.le_of_ble_eq_true rfl, Nat.le_of_ble_eq_true rfl⟩) (g_preV xEx_g hK [0, 1] rfl hPc hDc (fun U _ hW => xEx_w hW hE) (q0 := 0) (ci := 1) rfl rfl rfl) rfl rfl hl.1 rfl (lv_room (Nat.le_of_ble_eq_true rfl)) dL_law_790 ⟨by show (cl745 + 1) + 0 ≤ 600104; omega, by show (sl745 + 6) + 0 ≤ 7301314; omega⟩) hPc hDc hS hA (fun κ9 H locs hk hP hD hS => ?_)
          obtain ⟨z2, ezz2⟩ : ∃ z, z = κ9 := ⟨_, rfl⟩
          subst ezz2
          have hP : va_P D vwCl ((XW cI cZ d τ z2) ++ ([(w4, aI cI 4 cst)] ++ ((SW cI cT cU ds τ ι) ++ (Wx)))) H := hP
          have hD : va_D A ((XW cI cZ d τ z2) ++ ([(w4, aI cI 4 cst)] ++ ((SW cI cT cU ds τ ι) ++ (Wx)))) := hD
          have hp9 : ([(w4, aI cI 4 cst)] ++ ((XW cI cZ d τ z2) ++ ((SW cI cT cU ds τ ι) ++ (Wx))) : va_W).Perm ((XW cI cZ d τ z2) ++ ([(w4, aI cI 4 cst)] ++ ((SW cI cT cU ds τ ι) ++ (Wx))) : va_W) := (List.perm_append_comm_assoc _ _ _)
          have hP : va_P D vwCl ([(w4, aI cI 4 cst)] ++ ((XW cI cZ d τ z2) ++ ((SW cI cT cU ds τ ι) ++ (Wx)))) H := va_mem hP (fun q9 hq9 => hp9.mem_iff.mp hq9)
          have hD : va_D A ([(w4, aI cI 4 cst)] ++ ((XW cI cZ d τ z2) ++ ((SW cI cT cU ds τ ι) ++ (Wx)))) := va_Dp hD hp9
          show W p l e room_1 s m args below meth c H locs (cl745 + 1) (sl745 + 6) Q (F0 m 793 ls [.int (iI (xBal τ))])
          refine lv_iload hx hb dL_law_793 (lv_at hl 1 rfl) ?_
          rw [show (u : Int) = (xCount τ 6) from by exact eu]
          refine gi_icmp_gt (tgt := 812) hx hb dL_law_795 (by decide) ⟨by omega, by have := kx.2; omega⟩ kx (fun c795 => ?_) (fun c795 => ?_)
          · skip
            exfalso
            omega
          · skip
            refine lv_aload_n hx hb dL_law_798 rfl (lv_at hl 7 rfl) ?_
            have hp9 : ((XW cI cZ d τ z2) ++ ([(w4, aI cI 4 cst)] ++ ((SW cI cT cU ds τ ι) ++ (Wx))) : va_W).Perm ([(w4, aI cI 4 cst)] ++ ((XW cI cZ d τ z2) ++ ((SW cI cT cU ds τ ι) ++ (Wx))) : va_W) := (List.perm_append_comm_assoc _ _ _)
            have hPc : va_P D vwCl ((XW cI cZ d τ z2) ++ ([(w4, aI cI 4 cst)] ++ ((SW cI cT cU ds τ ι) ++ (Wx)))) H := va_mem hP (fun q9 hq9 => hp9.mem_iff.mp hq9)
            have hDc : va_D A ((XW cI cZ d τ z2) ++ ([(w4, aI cI 4 cst)] ++ ((SW cI cT cU ds τ ι) ++ (Wx)))) := va_Dp hD hp9
            refine g_call (va_runV (As := []) (rest := []) S ((kX1_balance l D cI cZ d τ z2  (by first | assumption | omega)) H.size) (cwV 0 hts gL_law_X1_balance rfl rfl rfl (by decide +kernel) ⟨Nat.le_of_ble_eq_true rfl, Nat.le_of_ble_eq_true rfl⟩) (g_preV xEx_g hK [0, 1] rfl hPc hDc (fun U _ hW => xEx_w hW hE) (q0 := 0) (ci := 1) rfl rfl rfl) rfl rfl hl.1 rfl (lv_room (Nat.le_of_ble_eq_true rfl)) dL_law_799 ⟨by show (cl745 + 1) + 0 ≤ 600104; omega, by show (sl745 + 6) + 0 ≤ 7301314; omega⟩) hPc hDc hS hA (fun κ9 H locs hk hP hD hS => ?_)
            obtain ⟨z3, ezz3⟩ : ∃ z, z = κ9 := ⟨_, rfl⟩
            subst ezz3
            have hP : va_P D vwCl ((XW cI cZ d τ z3) ++ ([(w4, aI cI 4 cst)] ++ ((SW cI cT cU ds τ ι) ++ (Wx)))) H := hP
            have hD : va_D A ((XW cI cZ d τ z3) ++ ([(w4, aI cI 4 cst)] ++ ((SW cI cT cU ds τ ι) ++ (Wx)))) := hD
            have hp9 : ([(w4, aI cI 4 cst)] ++ ((XW cI cZ d τ z3) ++ ((SW cI cT cU ds τ ι) ++ (Wx))) : va_W).Perm ((XW cI cZ d τ z3) ++ ([(w4, aI cI 4 cst)] ++ ((SW cI cT cU ds τ ι) ++ (Wx))) : va_W) := (List.perm_append_comm_assoc _ _ _)
            have hP : va_P D vwCl ([(w4, aI cI 4 cst)] ++ ((XW cI cZ d τ z3) ++ ((SW cI cT cU ds τ ι) ++ (Wx)))) H := va_mem hP (fun q9 hq9 => hp9.mem_iff.mp hq9)
            have hD : va_D A ([(w4, aI cI 4 cst)] ++ ((XW cI cZ d τ z3) ++ ((SW cI cT cU ds τ ι) ++ (Wx)))) := va_Dp hD hp9
            show W p l e room_1 s m args below meth c H locs (cl745 + 1) (sl745 + 6) Q (F0 m 802 ls [.int (iI (xBal τ))])
            refine lv_aload_n hx hb dL_law_802 rfl (lv_at hl 7 rfl) ?_
            have hp9 : ((XW cI cZ d τ z3) ++ ([(w4, aI cI 4 cst)] ++ ((SW cI cT cU ds τ ι) ++ (Wx))) : va_W).Perm ([(w4, aI cI 4 cst)] ++ ((XW cI cZ d τ z3) ++ ((SW cI cT cU ds τ ι) ++ (Wx))) : va_W) := (List.perm_append_comm_assoc _ _ _)
            have hPc : va_P D vwCl ((XW cI cZ d τ z3) ++ ([(w4, aI cI 4 cst)] ++ ((SW cI cT cU ds τ ι) ++ (Wx)))) H := va_mem hP (fun q9 hq9 => hp9.mem_iff.mp hq9)
            have hDc : va_D A ((XW cI cZ d τ z3) ++ ([(w4, aI cI 4 cst)] ++ ((SW cI cT cU ds τ ι) ++ (Wx)))) := va_Dp hD hp9
            refine g_call (va_runS (As := [.ref (d 0)]) (rest := [.int (iI (xBal τ))]) S ((kL_even l hfl D cI cZ cT cU cQ d τ z3  (by first | assumption | omega)) H.size) (va_cwS 1 hts gL_law_L_even rfl rfl rfl (by decide +kernel) ⟨Nat.le_of_ble_eq_true rfl, Nat.le_of_ble_eq_true rfl⟩) (g_preS (As := [.ref (d 0)]) (lEx_g _) hK [0, 1, 2, 3, 4] rfl hPc hDc (fun U hU hW => lEx_w hTE hN hDc hS hA hU hW)) rfl rfl hl.1 rfl (lv_room (Nat.le_of_ble_eq_true rfl)) dL_law_803 ⟨by show (cl745 + 1) + 12 ≤ 600104; omega, by show (sl745 + 6) + 72 ≤ 7301314; omega⟩) hPc hDc hS hA (fun κ9 H locs hk hP hD hS => ?_)
            obtain ⟨z4, ezz4⟩ : ∃ z, z = κ9 := ⟨_, rfl⟩
            subst ezz4
            have hP : va_P D vwCl ((XW cI cZ d τ z4) ++ ([(w4, aI cI 4 cst)] ++ ((SW cI cT cU ds τ ι) ++ (Wx)))) H := hP
            have hD : va_D A ((XW cI cZ d τ z4) ++ ([(w4, aI cI 4 cst)] ++ ((SW cI cT cU ds τ ι) ++ (Wx)))) := hD
            have hp9 : ([(w4, aI cI 4 cst)] ++ ((XW cI cZ d τ z4) ++ ((SW cI cT cU ds τ ι) ++ (Wx))) : va_W).Perm ((XW cI cZ d τ z4) ++ ([(w4, aI cI 4 cst)] ++ ((SW cI cT cU ds τ ι) ++ (Wx))) : va_W) := (List.perm_append_comm_assoc _ _ _)
            have hP : va_P D vwCl ([(w4, aI cI 4 cst)] ++ ((XW cI cZ d τ z4) ++ ((SW cI cT cU ds τ ι) ++ (Wx)))) H := va_mem hP (fun q9 hq9 => hp9.mem_iff.mp hq9)
            have hD : va_D A ([(w4, aI cI 4 cst)] ++ ((XW cI cZ d τ z4) ++ ((SW cI cT cU ds τ ι) ++ (Wx)))) := va_Dp hD hp9
            show W p l e room_1 s m args below meth c H locs (cl745 + 13) (sl745 + 78) Q (F0 m 806 ls [.int (iI (isumI (fun j => τ 0 j * min 20 (τ 2 j)) 6 % 2)), .int (iI (xBal τ))])
            refine gi_sub hx hb dL_law_806 ?_
            refine lv_iconst (v := iI (2)) hx hb dL_law_807 rfl ?_
            refine gi_rem hx hb ⟨by show 0 ≤ xBal τ - evB τ; omega, by have := kx.2; show xBal τ - evB τ ≤ 2147483647; omega⟩ ⟨by decide, by decide⟩ dL_law_808 ?_
            refine gi_if_eq (tgt := 814) hx hb dL_law_809 (by decide) ⟨by omega, by omega⟩ (fun c809 => ?_) (fun c809 => ?_)
            · skip
              exact K z4 H locs (cl745 + 13) (sl745 + 78) ls  (by omega) (by omega) hP hD hS (lv_sub hl [2, 3, 4, 5, 6, 7, 8] rfl)
            · skip
              exfalso
              omega
      · skip
        refine lv_iload hx hb dL_law_752 (lv_at hl 1 rfl) ?_
        refine lv_aload_n hx hb dL_law_754 rfl (lv_at hl 7 rfl) ?_
        refine lv_iload hx hb dL_law_755 (lv_at hl 0 rfl) ?_
        refine lv_iconst (v := iI (0)) hx hb dL_law_757 rfl ?_
        have hp9 : ((XW cI cZ d τ κx745) ++ ([(w4, aI cI 4 cst)] ++ ((SW cI cT cU ds τ ι) ++ (Wx))) : va_W).Perm ([(w4, aI cI 4 cst)] ++ ((XW cI cZ d τ κx745) ++ ((SW cI cT cU ds τ ι) ++ (Wx))) : va_W) := (List.perm_append_comm_assoc _ _ _)
        have hPc : va_P D vwCl ((XW cI cZ d τ κx745) ++ ([(w4, aI cI 4 cst)] ++ ((SW cI cT cU ds τ ι) ++ (Wx)))) H := va_mem hP (fun q9 hq9 => hp9.mem_iff.mp hq9)
        have hDc : va_D A ((XW cI cZ d τ κx745) ++ ([(w4, aI cI 4 cst)] ++ ((SW cI cT cU ds τ ι) ++ (Wx)))) := va_Dp hD hp9
        refine h_call0 (vx_runV (As := [.int (iI (k)), .int (iI (0))]) (rest := [.int (iI (u))]) S ((kX1_sort l hfl D cI cZ d τ κx745 k 0 (by first | assumption | omega) (by first | assumption | omega) (by first | assumption | omega) (by first | assumption | omega) (by first | assumption | omega)) H.size) (cwV 2 hts gL_law_X1_sort rfl rfl rfl (by decide +kernel) ⟨Nat.le_of_ble_eq_true rfl, Nat.le_of_ble_eq_true rfl⟩) (h_preV hK [0, 1] rfl hPc hDc hS hA hTE (q0 := 0) (ci := 1) rfl rfl rfl) rfl rfl hl.1 rfl (lv_room (Nat.le_of_ble_eq_true rfl)) dL_law_758 ⟨by show cl745 + 1 ≤ 600104; omega, by show sl745 + 6 ≤ 7301314; omega⟩) hPc hDc hS hA (fun E h => (by have h0 : (tSort k 0) = 0 := (by unfold tSort; rw [if_neg (by omega)]); rcases h with ⟨_, h⟩ <;> omega)) (fun κ9 H locs hk hP hD hS => ?_)
        obtain ⟨z5, ezz5⟩ : ∃ z, z = κ9 := ⟨_, rfl⟩
        subst ezz5
        have hP : va_P D vwCl ((XW cI cZ d τ z5) ++ ([(w4, aI cI 4 cst)] ++ ((SW cI cT cU ds τ ι) ++ (Wx)))) H := hP
        have hD : va_D A ((XW cI cZ d τ z5) ++ ([(w4, aI cI 4 cst)] ++ ((SW cI cT cU ds τ ι) ++ (Wx)))) := hD
        have hp9 : ([(w4, aI cI 4 cst)] ++ ((XW cI cZ d τ z5) ++ ((SW cI cT cU ds τ ι) ++ (Wx))) : va_W).Perm ((XW cI cZ d τ z5) ++ ([(w4, aI cI 4 cst)] ++ ((SW cI cT cU ds τ ι) ++ (Wx))) : va_W) := (List.perm_append_comm_assoc _ _ _)
        have hP : va_P D vwCl ([(w4, aI cI 4 cst)] ++ ((XW cI cZ d τ z5) ++ ((SW cI cT cU ds τ ι) ++ (Wx)))) H := va_mem hP (fun q9 hq9 => hp9.mem_iff.mp hq9)
        have hD : va_D A ([(w4, aI cI 4 cst)] ++ ((XW cI cZ d τ z5) ++ ((SW cI cT cU ds τ ι) ++ (Wx)))) := va_Dp hD hp9
        show W p l e room_1 s m args below meth c H locs (cl745 + 1) (sl745 + 6) Q (F0 m 761 ls [.int (iI (xSort τ k 0)), .int (iI (u))])
        rw [show (xSort τ k 0 : Int) = (τ 0 k) from by rfl]
        refine lv_aload_n hx hb dL_law_761 rfl (lv_at hl 7 rfl) ?_
        refine lv_iload hx hb dL_law_762 (lv_at hl 0 rfl) ?_
        refine lv_iconst (v := iI (2)) hx hb dL_law_764 rfl ?_
        have hp9 : ((XW cI cZ d τ z5) ++ ([(w4, aI cI 4 cst)] ++ ((SW cI cT cU ds τ ι) ++ (Wx))) : va_W).Perm ([(w4, aI cI 4 cst)] ++ ((XW cI cZ d τ z5) ++ ((SW cI cT cU ds τ ι) ++ (Wx))) : va_W) := (List.perm_append_comm_assoc _ _ _)
        have hPc : va_P D vwCl ((XW cI cZ d τ z5) ++ ([(w4, aI cI 4 cst)] ++ ((SW cI cT cU ds τ ι) ++ (Wx)))) H := va_mem hP (fun q9 hq9 => hp9.mem_iff.mp hq9)
        have hDc : va_D A ((XW cI cZ d τ z5) ++ ([(w4, aI cI 4 cst)] ++ ((SW cI cT cU ds τ ι) ++ (Wx)))) := va_Dp hD hp9
        refine h_call0 (vx_runV (As := [.int (iI (k)), .int (iI (2))]) (rest := [.int (iI (τ 0 k)), .int (iI (u))]) S ((kX1_sort l hfl D cI cZ d τ z5 k 2 (by first | assumption | omega) (by first | assumption | omega) (by first | assumption | omega) (by first | assumption | omega) (by first | assumption | omega)) H.size) (cwV 2 hts gL_law_X1_sort rfl rfl rfl (by decide +kernel) ⟨Nat.le_of_ble_eq_true rfl, Nat.le_of_ble_eq_true rfl⟩) (h_preV hK [0, 1] rfl hPc hDc hS hA hTE (q0 := 0) (ci := 1) rfl rfl rfl) rfl rfl hl.1 rfl (lv_room (Nat.le_of_ble_eq_true rfl)) dL_law_765 ⟨by show (cl745 + 1) + 1 ≤ 600104; omega, by show (sl745 + 6) + 6 ≤ 7301314; omega⟩) hPc hDc hS hA (fun E h => (by have h0 : (tSort k 2) = 0 := (by unfold tSort; rw [if_neg (by omega)]); rcases h with ⟨_, h⟩ <;> omega)) (fun κ9 H locs hk hP hD hS => ?_)
        obtain ⟨z6, ezz6⟩ : ∃ z, z = κ9 := ⟨_, rfl⟩
        subst ezz6
        have hP : va_P D vwCl ((XW cI cZ d τ z6) ++ ([(w4, aI cI 4 cst)] ++ ((SW cI cT cU ds τ ι) ++ (Wx)))) H := hP
        have hD : va_D A ((XW cI cZ d τ z6) ++ ([(w4, aI cI 4 cst)] ++ ((SW cI cT cU ds τ ι) ++ (Wx)))) := hD
        have hp9 : ([(w4, aI cI 4 cst)] ++ ((XW cI cZ d τ z6) ++ ((SW cI cT cU ds τ ι) ++ (Wx))) : va_W).Perm ((XW cI cZ d τ z6) ++ ([(w4, aI cI 4 cst)] ++ ((SW cI cT cU ds τ ι) ++ (Wx))) : va_W) := (List.perm_append_comm_assoc _ _ _)
        have hP : va_P D vwCl ([(w4, aI cI 4 cst)] ++ ((XW cI cZ d τ z6) ++ ((SW cI cT cU ds τ ι) ++ (Wx)))) H := va_mem hP (fun q9 hq9 => hp9.mem_iff.mp hq9)
        have hD : va_D A ([(w4, aI cI 4 cst)] ++ ((XW cI cZ d τ z6) ++ ((SW cI cT cU ds τ ι) ++ (Wx)))) := va_Dp hD hp9
        show W p l e room_1 s m args below meth c H locs (cl745 + 2) (sl745 + 12) Q (F0 m 768 ls [.int (iI (xSort τ k 2)), .int (iI (τ 0 k)), .int (iI (u))])
        rw [show (xSort τ k 2 : Int) = (τ 2 k) from by rfl]
        refine gi_mul hx hb dL_law_768 ?_
        refine gi_add hx hb dL_law_769 ?_
        refine lv_istore (lv' := [(22, .int (iI (u + ((τ 0 k) * (τ 2 k))))), (23, .int (iI (k))), (17, .ref (w17)), (5, .int (iI (x))), (4, .int (iI (t))), (3, .ref (w4)), (2, .ref (ds 0)), (1, .ref (d 0)), (0, .ref (b))]) hx hb dL_law_770 hl (by decide) rfl (fun ls hl => ?_)
        refine lv_iinc (v := iI (k + 1)) (lv' := [(23, .int (iI (k + 1))), (22, .int (iI (u + ((τ 0 k) * (τ 2 k))))), (17, .ref (w17)), (5, .int (iI (x))), (4, .int (iI (t))), (3, .ref (w4)), (2, .ref (ds 0)), (1, .ref (d 0)), (0, .ref (b))]) hx hb dL_law_772 hl (k := 1) rfl (iI_add _ _) (by decide) rfl (fun ls hl => ?_)
        refine lv_goto (tgt := 745) hx hb dL_law_775 (by decide) ?_
        exact ih745 (k + 1) (u + ((τ 0 k) * (τ 2 k))) z6 (cl745 + 2) (sl745 + 12) (by omega) (by omega) (by omega) (by rw [isumI_s _ hlo745, ← iu]) (by omega) (by omega) H locs ls hP hD hS (lv_sub hl [0, 1, 2, 3, 4, 5, 6, 7, 8] rfl)
  exact loop745 (((6 - (0) + 1 : Int)).toNat) 0 0 κ cells slots (by omega) (by omega) (by omega) (by rfl) (by omega) (by omega) H locs ls hP hD hS (lv_sub hl [0, 1, 2, 3, 4, 5, 6, 7, 8] rfl)
set_option maxHeartbeats 4000000 in
set_option maxRecDepth 100000 in
theorem lq_go {p : Program} {l : Launch} {e : Env} {s : State} {m : MethodId} {args : Array Value} {below : List Frame} {meth : Method} {c : Code} {H : Heap} {locs : List Loc} {cells slots : Nat} {Q : State → Prop} {ls : Array Slot} {D : va_G} {A : Nat → Prop} {cI cZ cT cU cQ : ClassId} {b L : Nat} {xs : Nat → Int32} {d ds : Nat → Nat} {σ κ : St} {ι : Int → Int} {w4 : Nat} {t : Int} {x : Int} {Wx : va_W} {w17 : Nat} (G : lG p l s m c args A D cI cZ cT cU cQ b L xs)  (hcc : cells + 0 ≤ 600104) (hss : slots + 0 ≤ 7301314) (hP : va_P D vwCl (Wx) H) (hD : va_D A (Wx)) (hS : va_S A s.heap H locs) (hl : lv_has ls 35 [(17, .ref (w17)), (5, .int (iI (x))), (4, .int (iI (t))), (3, .ref (w4)), (2, .ref (ds 0)), (1, .ref (d 0)), (0, .ref (b))]) (K1 : ∀ (H : Heap) (locs : List Loc) (cells1 slots1 : Nat) (ls : Array Slot), cells1 ≤ cells + 0 → slots1 ≤ slots + 0 → va_P D vwCl (Wx) H → va_D A (Wx) → va_S A s.heap H locs → lv_has ls 35 [(17, .ref (w17)), (5, .int (iI (x))), (4, .int (iI (t))), (3, .ref (w4)), (2, .ref (ds 0)), (1, .ref (d 0)), (0, .ref (b))] → W p l e room_1 s m args below meth c H locs cells1 slots1 Q (F0 m 828 ls [])) (K2 : ∀ (H : Heap) (locs : List Loc) (cells1 slots1 : Nat) (ls : Array Slot), cells1 ≤ cells + 0 → slots1 ≤ slots + 0 → va_P D vwCl (Wx) H → va_D A (Wx) → va_S A s.heap H locs → lv_has ls 35 [(4, .int (iI (t))), (3, .ref (w4)), (2, .ref (ds 0)), (1, .ref (d 0)), (0, .ref (b))] → W p l e room_1 s m args below meth c H locs cells1 slots1 Q (F0 m 1209 ls [])) : W p l e room_1 s m args below meth c H locs cells slots Q (F0 m 814 ls []) := by
  obtain ⟨S, hfl, hK, hA, hTE, hN, hX9, hL⟩ := id G
  have hE := hTE.1
  have S0 := S
  obtain ⟨hx, hb, hml, hown, hts⟩ := S0
  have hinX2 := inlX2
  have k2 := blw_in (shr x 4) (n := 2) (by decide)
  refine lv_iload hx hb dL_law_814 (lv_at hl 1 rfl) ?_
  refine lv_iconst (v := iI (4)) hx hb dL_law_816 rfl ?_
  refine gi_shr hx hb dL_law_817 ?_
  refine lv_iconst (v := iI (2)) hx hb dL_law_818 rfl ?_
  have hPc : va_P D vwCl (Wx) H := hP
  have hDc : va_D A (Wx) := hD
  have hPc : va_P D vwCl ([] ++ (Wx)) H := hPc
  have hDc : va_D A ([] ++ (Wx)) := hDc
  refine g_call (va_runS (As := [.int (iI (shr x 4)), .int (iI (2))]) (rest := []) S ((kL_below l D cI cZ cT cU cQ (shr x 4) 2 (by first | assumption | omega)) H.size) (va_cwS 2 hts gL_law_L_below rfl rfl rfl (by decide +kernel) ⟨Nat.le_of_ble_eq_true rfl, Nat.le_of_ble_eq_true rfl⟩) (g_preS (As := [.int (iI (shr x 4)), .int (iI (2))]) gEx_t hK [0, 1, 2, 3, 4] rfl hPc hDc (fun _ _ _ => trivial)) rfl rfl hl.1 rfl (lv_room (Nat.le_of_ble_eq_true rfl)) dL_law_819 ⟨by show cells + 0 ≤ 600104; omega, by show slots + 0 ≤ 7301314; omega⟩) hPc hDc hS hA (fun κ9 H locs hk hP hD hS => ?_)
  obtain ⟨z1, ezz1⟩ : ∃ z, z = κ9 := ⟨_, rfl⟩
  subst ezz1
  have hP : va_P D vwCl (Wx) H := hP
  have hD : va_D A (Wx) := hD
  show W p l e room_1 s m args below meth c H locs cells slots Q (F0 m 822 ls [.int (iI (blw (shr x 4) 2))])
  refine gi_if_ne (tgt := 828) hx hb dL_law_822 (by decide) ⟨by omega, by omega⟩ (fun c822 => ?_) (fun c822 => ?_)
  · skip
    exact K1  H locs cells slots ls  (by omega) (by omega) hP hD hS (lv_sub hl [0, 1, 2, 3, 4, 5, 6] rfl)
  · skip
    refine lv_goto (tgt := 1209) hx hb dL_law_825 (by decide) ?_
    exact K2  H locs cells slots ls  (by omega) (by omega) hP hD hS (lv_sub hl [2, 3, 4, 5, 6] rfl)
set_option maxHeartbeats 4000000 in
set_option maxRecDepth 100000 in
theorem lq_year1 {p : Program} {l : Launch} {e : Env} {s : State} {m : MethodId} {args : Array Value} {below : List Frame} {meth : Method} {c : Code} {H : Heap} {locs : List Loc} {cells slots : Nat} {Q : State → Prop} {ls : Array Slot} {D : va_G} {A : Nat → Prop} {cI cZ cT cU cQ : ClassId} {b L : Nat} {xs : Nat → Int32} {d ds : Nat → Nat} {σ κ : St} {ι : Int → Int} {w4 : Nat} {t : Int} {x : Int} {Wx : va_W} {w17 : Nat} {τ : St} (G : lG p l s m c args A D cI cZ cT cU cQ b L xs) (hwf : xWF τ) (hz : zWF τ) (hbn : ∀ j, τ 2 j ≤ 200000) (hyr : τ 9 0 ≤ 1000) (hcc : cells + 11 ≤ 600104) (hss : slots + 66 ≤ 7301314) (hP : va_P D vwCl ([(w4, aI cI 4 cst)] ++ ((XW cI cZ d τ κ) ++ ((SW cI cT cU ds τ ι) ++ (Wx)))) H) (hD : va_D A ([(w4, aI cI 4 cst)] ++ ((XW cI cZ d τ κ) ++ ((SW cI cT cU ds τ ι) ++ (Wx))))) (hS : va_S A s.heap H locs) (hl : lv_has ls 35 [(17, .ref (w17)), (5, .int (iI (x))), (4, .int (iI (t))), (3, .ref (w4)), (2, .ref (ds 0)), (1, .ref (d 0)), (0, .ref (b))]) (K : ∀ (κ1 : St) (H : Heap) (locs : List Loc) (cells1 slots1 : Nat) (ls : Array Slot), cells1 ≤ cells + 11 → slots1 ≤ slots + 66 → va_P D vwCl ([(w4, aI cI 4 cst)] ++ ((XW cI cZ d (xPass τ 1) κ1) ++ ((SW cI cT cU ds τ ι) ++ (Wx)))) H → va_D A ([(w4, aI cI 4 cst)] ++ ((XW cI cZ d (xPass τ 1) κ1) ++ ((SW cI cT cU ds τ ι) ++ (Wx)))) → va_S A s.heap H locs → lv_has ls 35 [(27, .int (iI (yF τ))), (24, .int (iI (xFore τ 1 1))), (23, .int (iI (xFore τ 1 0))), (17, .ref (w17)), (5, .int (iI (x))), (4, .int (iI (t))), (3, .ref (w4)), (2, .ref (ds 0)), (1, .ref (d 0)), (0, .ref (b))] → W p l e room_1 s m args below meth c H locs cells1 slots1 Q (F0 m 945 ls [])) : W p l e room_1 s m args below meth c H locs cells slots Q (F0 m 828 ls []) := by
  obtain ⟨S, hfl, hK, hA, hTE, hN, hX9, hL⟩ := id G
  have hE := hTE.1
  have S0 := S
  obtain ⟨hx, hb, hml, hown, hts⟩ := S0
  have hinX2 := inlX2
  have hb9 : ∀ j, τ 2 j ≤ 90000000 := fun j => by have := hbn j; omega
  obtain ⟨y0, y1, y2, y3, y4, y5, -, -, -, -, -⟩ := yr_ok hwf hz hb9
  have yc : xCount τ 0 = τ 9 0 := rfl
  obtain ⟨pw, pz, p2, p9, pR⟩ := pass_ok hwf hz hb9 (by omega)
  have k9 := xWF_9 hwf
  have pb : ∀ j, xPass τ 1 2 j ≤ 210000 := fun j => by have := p2 j; have := hbn j; omega
  have pC : ∀ w9, inR (xCount (xPass τ 1) w9) := fun w9 => xCountR3 pw pb w9
  have kC := xCountR hwf hbn
  refine lv_aload_n hx hb dL_law_828 rfl (lv_at hl 5 rfl) ?_
  refine lv_iconst (v := iI (1)) hx hb dL_law_829 rfl ?_
  refine lv_iconst (v := iI (0)) hx hb dL_law_830 rfl ?_
  have hp9 : ((XW cI cZ d τ κ) ++ ([(w4, aI cI 4 cst)] ++ ((SW cI cT cU ds τ ι) ++ (Wx))) : va_W).Perm ([(w4, aI cI 4 cst)] ++ ((XW cI cZ d τ κ) ++ ((SW cI cT cU ds τ ι) ++ (Wx))) : va_W) := (List.perm_append_comm_assoc _ _ _)
  have hPc : va_P D vwCl ((XW cI cZ d τ κ) ++ ([(w4, aI cI 4 cst)] ++ ((SW cI cT cU ds τ ι) ++ (Wx)))) H := va_mem hP (fun q9 hq9 => hp9.mem_iff.mp hq9)
  have hDc : va_D A ((XW cI cZ d τ κ) ++ ([(w4, aI cI 4 cst)] ++ ((SW cI cT cU ds τ ι) ++ (Wx)))) := va_Dp hD hp9
  refine h_call0 (vx_runV (As := [.int (iI (1)), .int (iI (0))]) (rest := []) S ((kX1_foresee l hfl D cI cZ d τ κ 1 0 (by first | assumption | omega) (by first | assumption | omega) (by first | assumption | omega) (by first | assumption | omega) (by first | assumption | omega)) H.size) (cwV 2 hts gL_law_X1_foresee rfl rfl rfl (by decide +kernel) ⟨Nat.le_of_ble_eq_true rfl, Nat.le_of_ble_eq_true rfl⟩) (h_preV hK [0, 1] rfl hPc hDc hS hA hTE (q0 := 0) (ci := 1) rfl rfl rfl) rfl rfl hl.1 rfl (lv_room (Nat.le_of_ble_eq_true rfl)) dL_law_831 ⟨by show cells + 1 ≤ 600104; omega, by show slots + 6 ≤ 7301314; omega⟩) hPc hDc hS hA (fun E h => (by have h0 : (tForesee 1 0) = 0 := (by unfold tForesee; rw [if_neg (by omega), if_neg (by omega)]); rcases h with ⟨_, h⟩ | ⟨_, h⟩ <;> omega)) (fun κ9 H locs hk hP hD hS => ?_)
  obtain ⟨z1, ezz1⟩ : ∃ z, z = κ9 := ⟨_, rfl⟩
  subst ezz1
  have hP : va_P D vwCl ((XW cI cZ d τ z1) ++ ([(w4, aI cI 4 cst)] ++ ((SW cI cT cU ds τ ι) ++ (Wx)))) H := hP
  have hD : va_D A ((XW cI cZ d τ z1) ++ ([(w4, aI cI 4 cst)] ++ ((SW cI cT cU ds τ ι) ++ (Wx)))) := hD
  have hp9 : ([(w4, aI cI 4 cst)] ++ ((XW cI cZ d τ z1) ++ ((SW cI cT cU ds τ ι) ++ (Wx))) : va_W).Perm ((XW cI cZ d τ z1) ++ ([(w4, aI cI 4 cst)] ++ ((SW cI cT cU ds τ ι) ++ (Wx))) : va_W) := (List.perm_append_comm_assoc _ _ _)
  have hP : va_P D vwCl ([(w4, aI cI 4 cst)] ++ ((XW cI cZ d τ z1) ++ ((SW cI cT cU ds τ ι) ++ (Wx)))) H := va_mem hP (fun q9 hq9 => hp9.mem_iff.mp hq9)
  have hD : va_D A ([(w4, aI cI 4 cst)] ++ ((XW cI cZ d τ z1) ++ ((SW cI cT cU ds τ ι) ++ (Wx)))) := va_Dp hD hp9
  show W p l e room_1 s m args below meth c H locs (cells + 1) (slots + 6) Q (F0 m 834 ls [.int (iI (xFore τ 1 0))])
  refine lv_istore (lv' := [(23, .int (iI (xFore τ 1 0))), (17, .ref (w17)), (5, .int (iI (x))), (4, .int (iI (t))), (3, .ref (w4)), (2, .ref (ds 0)), (1, .ref (d 0)), (0, .ref (b))]) hx hb dL_law_834 hl (by decide) rfl (fun ls hl => ?_)
  refine lv_aload_n hx hb dL_law_836 rfl (lv_at hl 6 rfl) ?_
  refine lv_iconst (v := iI (1)) hx hb dL_law_837 rfl ?_
  refine lv_iconst (v := iI (1)) hx hb dL_law_838 rfl ?_
  have hp9 : ((XW cI cZ d τ z1) ++ ([(w4, aI cI 4 cst)] ++ ((SW cI cT cU ds τ ι) ++ (Wx))) : va_W).Perm ([(w4, aI cI 4 cst)] ++ ((XW cI cZ d τ z1) ++ ((SW cI cT cU ds τ ι) ++ (Wx))) : va_W) := (List.perm_append_comm_assoc _ _ _)
  have hPc : va_P D vwCl ((XW cI cZ d τ z1) ++ ([(w4, aI cI 4 cst)] ++ ((SW cI cT cU ds τ ι) ++ (Wx)))) H := va_mem hP (fun q9 hq9 => hp9.mem_iff.mp hq9)
  have hDc : va_D A ((XW cI cZ d τ z1) ++ ([(w4, aI cI 4 cst)] ++ ((SW cI cT cU ds τ ι) ++ (Wx)))) := va_Dp hD hp9
  refine h_call0 (vx_runV (As := [.int (iI (1)), .int (iI (1))]) (rest := []) S ((kX1_foresee l hfl D cI cZ d τ z1 1 1 (by first | assumption | omega) (by first | assumption | omega) (by first | assumption | omega) (by first | assumption | omega) (by first | assumption | omega)) H.size) (cwV 2 hts gL_law_X1_foresee rfl rfl rfl (by decide +kernel) ⟨Nat.le_of_ble_eq_true rfl, Nat.le_of_ble_eq_true rfl⟩) (h_preV hK [0, 1] rfl hPc hDc hS hA hTE (q0 := 0) (ci := 1) rfl rfl rfl) rfl rfl hl.1 rfl (lv_room (Nat.le_of_ble_eq_true rfl)) dL_law_839 ⟨by show (cells + 1) + 1 ≤ 600104; omega, by show (slots + 6) + 6 ≤ 7301314; omega⟩) hPc hDc hS hA (fun E h => (by have h0 : (tForesee 1 1) = 0 := (by unfold tForesee; rw [if_neg (by omega), if_neg (by omega)]); rcases h with ⟨_, h⟩ | ⟨_, h⟩ <;> omega)) (fun κ9 H locs hk hP hD hS => ?_)
  obtain ⟨z2, ezz2⟩ : ∃ z, z = κ9 := ⟨_, rfl⟩
  subst ezz2
  have hP : va_P D vwCl ((XW cI cZ d τ z2) ++ ([(w4, aI cI 4 cst)] ++ ((SW cI cT cU ds τ ι) ++ (Wx)))) H := hP
  have hD : va_D A ((XW cI cZ d τ z2) ++ ([(w4, aI cI 4 cst)] ++ ((SW cI cT cU ds τ ι) ++ (Wx)))) := hD
  have hp9 : ([(w4, aI cI 4 cst)] ++ ((XW cI cZ d τ z2) ++ ((SW cI cT cU ds τ ι) ++ (Wx))) : va_W).Perm ((XW cI cZ d τ z2) ++ ([(w4, aI cI 4 cst)] ++ ((SW cI cT cU ds τ ι) ++ (Wx))) : va_W) := (List.perm_append_comm_assoc _ _ _)
  have hP : va_P D vwCl ([(w4, aI cI 4 cst)] ++ ((XW cI cZ d τ z2) ++ ((SW cI cT cU ds τ ι) ++ (Wx)))) H := va_mem hP (fun q9 hq9 => hp9.mem_iff.mp hq9)
  have hD : va_D A ([(w4, aI cI 4 cst)] ++ ((XW cI cZ d τ z2) ++ ((SW cI cT cU ds τ ι) ++ (Wx)))) := va_Dp hD hp9
  show W p l e room_1 s m args below meth c H locs (cells + 2) (slots + 12) Q (F0 m 842 ls [.int (iI (xFore τ 1 1))])
  refine lv_istore (lv' := [(24, .int (iI (xFore τ 1 1))), (23, .int (iI (xFore τ 1 0))), (17, .ref (w17)), (5, .int (iI (x))), (4, .int (iI (t))), (3, .ref (w4)), (2, .ref (ds 0)), (1, .ref (d 0)), (0, .ref (b))]) hx hb dL_law_842 hl (by decide) rfl (fun ls hl => ?_)
  refine lv_aload_n hx hb dL_law_844 rfl (lv_at hl 7 rfl) ?_
  refine lv_iconst (v := iI (1)) hx hb dL_law_845 rfl ?_
  refine lv_iconst (v := iI (2)) hx hb dL_law_846 rfl ?_
  have hp9 : ((XW cI cZ d τ z2) ++ ([(w4, aI cI 4 cst)] ++ ((SW cI cT cU ds τ ι) ++ (Wx))) : va_W).Perm ([(w4, aI cI 4 cst)] ++ ((XW cI cZ d τ z2) ++ ((SW cI cT cU ds τ ι) ++ (Wx))) : va_W) := (List.perm_append_comm_assoc _ _ _)
  have hPc : va_P D vwCl ((XW cI cZ d τ z2) ++ ([(w4, aI cI 4 cst)] ++ ((SW cI cT cU ds τ ι) ++ (Wx)))) H := va_mem hP (fun q9 hq9 => hp9.mem_iff.mp hq9)
  have hDc : va_D A ((XW cI cZ d τ z2) ++ ([(w4, aI cI 4 cst)] ++ ((SW cI cT cU ds τ ι) ++ (Wx)))) := va_Dp hD hp9
  refine h_call0 (vx_runV (As := [.int (iI (1)), .int (iI (2))]) (rest := []) S ((kX1_foresee l hfl D cI cZ d τ z2 1 2 (by first | assumption | omega) (by first | assumption | omega) (by first | assumption | omega) (by first | assumption | omega) (by first | assumption | omega)) H.size) (cwV 2 hts gL_law_X1_foresee rfl rfl rfl (by decide +kernel) ⟨Nat.le_of_ble_eq_true rfl, Nat.le_of_ble_eq_true rfl⟩) (h_preV hK [0, 1] rfl hPc hDc hS hA hTE (q0 := 0) (ci := 1) rfl rfl rfl) rfl rfl hl.1 rfl (lv_room (Nat.le_of_ble_eq_true rfl)) dL_law_847 ⟨by show (cells + 2) + 1 ≤ 600104; omega, by show (slots + 12) + 6 ≤ 7301314; omega⟩) hPc hDc hS hA (fun E h => (by have h0 : (tForesee 1 2) = 0 := (by unfold tForesee; rw [if_neg (by omega), if_neg (by omega)]); rcases h with ⟨_, h⟩ | ⟨_, h⟩ <;> omega)) (fun κ9 H locs hk hP hD hS => ?_)
  obtain ⟨z3, ezz3⟩ : ∃ z, z = κ9 := ⟨_, rfl⟩
  subst ezz3
  have hP : va_P D vwCl ((XW cI cZ d τ z3) ++ ([(w4, aI cI 4 cst)] ++ ((SW cI cT cU ds τ ι) ++ (Wx)))) H := hP
  have hD : va_D A ((XW cI cZ d τ z3) ++ ([(w4, aI cI 4 cst)] ++ ((SW cI cT cU ds τ ι) ++ (Wx)))) := hD
  have hp9 : ([(w4, aI cI 4 cst)] ++ ((XW cI cZ d τ z3) ++ ((SW cI cT cU ds τ ι) ++ (Wx))) : va_W).Perm ((XW cI cZ d τ z3) ++ ([(w4, aI cI 4 cst)] ++ ((SW cI cT cU ds τ ι) ++ (Wx))) : va_W) := (List.perm_append_comm_assoc _ _ _)
  have hP : va_P D vwCl ([(w4, aI cI 4 cst)] ++ ((XW cI cZ d τ z3) ++ ((SW cI cT cU ds τ ι) ++ (Wx)))) H := va_mem hP (fun q9 hq9 => hp9.mem_iff.mp hq9)
  have hD : va_D A ([(w4, aI cI 4 cst)] ++ ((XW cI cZ d τ z3) ++ ((SW cI cT cU ds τ ι) ++ (Wx)))) := va_Dp hD hp9
  show W p l e room_1 s m args below meth c H locs (cells + 3) (slots + 18) Q (F0 m 850 ls [.int (iI (xFore τ 1 2))])
  refine lv_istore (lv' := [(25, .int (iI (xFore τ 1 2))), (24, .int (iI (xFore τ 1 1))), (23, .int (iI (xFore τ 1 0))), (17, .ref (w17)), (5, .int (iI (x))), (4, .int (iI (t))), (3, .ref (w4)), (2, .ref (ds 0)), (1, .ref (d 0)), (0, .ref (b))]) hx hb dL_law_850 hl (by decide) rfl (fun ls hl => ?_)
  refine lv_aload_n hx hb dL_law_852 rfl (lv_at hl 8 rfl) ?_
  refine lv_iconst (v := iI (0)) hx hb dL_law_853 rfl ?_
  have hp9 : ((XW cI cZ d τ z3) ++ ([(w4, aI cI 4 cst)] ++ ((SW cI cT cU ds τ ι) ++ (Wx))) : va_W).Perm ([(w4, aI cI 4 cst)] ++ ((XW cI cZ d τ z3) ++ ((SW cI cT cU ds τ ι) ++ (Wx))) : va_W) := (List.perm_append_comm_assoc _ _ _)
  have hPc : va_P D vwCl ((XW cI cZ d τ z3) ++ ([(w4, aI cI 4 cst)] ++ ((SW cI cT cU ds τ ι) ++ (Wx)))) H := va_mem hP (fun q9 hq9 => hp9.mem_iff.mp hq9)
  have hDc : va_D A ((XW cI cZ d τ z3) ++ ([(w4, aI cI 4 cst)] ++ ((SW cI cT cU ds τ ι) ++ (Wx)))) := va_Dp hD hp9
  refine h_call0 (vx_runV (As := [.int (iI (0))]) (rest := []) S ((kX1_count l hfl D cI cZ d τ z3 0 (by first | assumption | omega) (by first | assumption | omega) (by first | assumption | omega)) H.size) (cwV 1 hts gL_law_X1_count rfl rfl rfl (by decide +kernel) ⟨Nat.le_of_ble_eq_true rfl, Nat.le_of_ble_eq_true rfl⟩) (h_preV hK [0, 1] rfl hPc hDc hS hA hTE (q0 := 0) (ci := 1) rfl rfl rfl) rfl rfl hl.1 rfl (lv_room (Nat.le_of_ble_eq_true rfl)) dL_law_854 ⟨by show (cells + 3) + 1 ≤ 600104; omega, by show (slots + 18) + 6 ≤ 7301314; omega⟩) hPc hDc hS hA (fun E h => (by have h0 : (tCount 0) = 0 := (by unfold tCount; rw [if_neg (by omega)]); rcases h with ⟨_, h⟩ <;> omega)) (fun κ9 H locs hk hP hD hS => ?_)
  obtain ⟨z4, ezz4⟩ : ∃ z, z = κ9 := ⟨_, rfl⟩
  subst ezz4
  have hP : va_P D vwCl ((XW cI cZ d τ z4) ++ ([(w4, aI cI 4 cst)] ++ ((SW cI cT cU ds τ ι) ++ (Wx)))) H := hP
  have hD : va_D A ((XW cI cZ d τ z4) ++ ([(w4, aI cI 4 cst)] ++ ((SW cI cT cU ds τ ι) ++ (Wx)))) := hD
  have hp9 : ([(w4, aI cI 4 cst)] ++ ((XW cI cZ d τ z4) ++ ((SW cI cT cU ds τ ι) ++ (Wx))) : va_W).Perm ((XW cI cZ d τ z4) ++ ([(w4, aI cI 4 cst)] ++ ((SW cI cT cU ds τ ι) ++ (Wx))) : va_W) := (List.perm_append_comm_assoc _ _ _)
  have hP : va_P D vwCl ([(w4, aI cI 4 cst)] ++ ((XW cI cZ d τ z4) ++ ((SW cI cT cU ds τ ι) ++ (Wx)))) H := va_mem hP (fun q9 hq9 => hp9.mem_iff.mp hq9)
  have hD : va_D A ([(w4, aI cI 4 cst)] ++ ((XW cI cZ d τ z4) ++ ((SW cI cT cU ds τ ι) ++ (Wx)))) := va_Dp hD hp9
  show W p l e room_1 s m args below meth c H locs (cells + 4) (slots + 24) Q (F0 m 857 ls [.int (iI (xCount τ 0))])
  refine lv_istore (lv' := [(26, .int (iI (xCount τ 0))), (25, .int (iI (xFore τ 1 2))), (24, .int (iI (xFore τ 1 1))), (23, .int (iI (xFore τ 1 0))), (17, .ref (w17)), (5, .int (iI (x))), (4, .int (iI (t))), (3, .ref (w4)), (2, .ref (ds 0)), (1, .ref (d 0)), (0, .ref (b))]) hx hb dL_law_857 hl (by decide) rfl (fun ls hl => ?_)
  refine lv_aload_n hx hb dL_law_859 rfl (lv_at hl 8 rfl) ?_
  refine va_get (D := D) (ci := 2) (v := .ref (ds 4)) (C := RX2) (T := TX2) (N := 8) hx hb hts hinX2 hown hK (g_left (g_right (g_right hP))) 0 rfl rfl 3 (by decide) (hts (.fieldLink RL 35 "TwinOrchardLaw$Sim" "frost" "[I") (List.mem_of_getElem? (i := 4) rfl)) (fun _ h9 => h9) rfl dL_law_860 ?_
  have hl : lv_has ls 35 [(26, .int (iI (τ 9 0))), (25, .int (iI (xFore τ 1 2))), (24, .int (iI (xFore τ 1 1))), (23, .int (iI (xFore τ 1 0))), (17, .ref (w17)), (5, .int (iI (x))), (4, .int (iI (t))), (3, .ref (w4)), (2, .ref (ds 0)), (1, .ref (d 0)), (0, .ref (b))] := hl
  refine lv_iload hx hb dL_law_863 (lv_at hl 0 rfl) ?_
  refine lv_bipush (v := iI (10)) hx hb dL_law_865 rfl ?_
  refine gi_rem hx hb ⟨by omega, by omega⟩ ⟨by omega, by omega⟩ dL_law_867 ?_
  refine gi_iald (a := (ds 4)) (n := 10) (f := τ 3) hx hb hK (g_left (g_right (g_right hP))) 4 0 rfl rfl (by omega) (by omega) (by decide) dL_law_868 ?_
  refine lv_istore (lv' := [(27, .int (iI (τ 3 ((τ 9 0) % 10)))), (26, .int (iI (τ 9 0))), (25, .int (iI (xFore τ 1 2))), (24, .int (iI (xFore τ 1 1))), (23, .int (iI (xFore τ 1 0))), (17, .ref (w17)), (5, .int (iI (x))), (4, .int (iI (t))), (3, .ref (w4)), (2, .ref (ds 0)), (1, .ref (d 0)), (0, .ref (b))]) hx hb dL_law_869 hl (by decide) rfl (fun ls hl => ?_)
  refine lv_aload_n hx hb dL_law_871 rfl (lv_at hl 10 rfl) ?_
  refine lv_iconst (v := iI (5)) hx hb dL_law_872 rfl ?_
  have hp9 : ((XW cI cZ d τ z4) ++ ([(w4, aI cI 4 cst)] ++ ((SW cI cT cU ds τ ι) ++ (Wx))) : va_W).Perm ([(w4, aI cI 4 cst)] ++ ((XW cI cZ d τ z4) ++ ((SW cI cT cU ds τ ι) ++ (Wx))) : va_W) := (List.perm_append_comm_assoc _ _ _)
  have hPc : va_P D vwCl ((XW cI cZ d τ z4) ++ ([(w4, aI cI 4 cst)] ++ ((SW cI cT cU ds τ ι) ++ (Wx)))) H := va_mem hP (fun q9 hq9 => hp9.mem_iff.mp hq9)
  have hDc : va_D A ((XW cI cZ d τ z4) ++ ([(w4, aI cI 4 cst)] ++ ((SW cI cT cU ds τ ι) ++ (Wx)))) := va_Dp hD hp9
  refine h_call0 (vx_runV (As := [.int (iI (5))]) (rest := []) S ((kX1_count l hfl D cI cZ d τ z4 5 (by first | assumption | omega) (by first | assumption | omega) (by first | assumption | omega)) H.size) (cwV 1 hts gL_law_X1_count rfl rfl rfl (by decide +kernel) ⟨Nat.le_of_ble_eq_true rfl, Nat.le_of_ble_eq_true rfl⟩) (h_preV hK [0, 1] rfl hPc hDc hS hA hTE (q0 := 0) (ci := 1) rfl rfl rfl) rfl rfl hl.1 rfl (lv_room (Nat.le_of_ble_eq_true rfl)) dL_law_873 ⟨by show (cells + 4) + 1 ≤ 600104; omega, by show (slots + 24) + 6 ≤ 7301314; omega⟩) hPc hDc hS hA (fun E h => (by have h0 : (tCount 5) = 0 := (by unfold tCount; rw [if_neg (by omega)]); rcases h with ⟨_, h⟩ <;> omega)) (fun κ9 H locs hk hP hD hS => ?_)
  obtain ⟨z5, ezz5⟩ : ∃ z, z = κ9 := ⟨_, rfl⟩
  subst ezz5
  have hP : va_P D vwCl ((XW cI cZ d τ z5) ++ ([(w4, aI cI 4 cst)] ++ ((SW cI cT cU ds τ ι) ++ (Wx)))) H := hP
  have hD : va_D A ((XW cI cZ d τ z5) ++ ([(w4, aI cI 4 cst)] ++ ((SW cI cT cU ds τ ι) ++ (Wx)))) := hD
  have hp9 : ([(w4, aI cI 4 cst)] ++ ((XW cI cZ d τ z5) ++ ((SW cI cT cU ds τ ι) ++ (Wx))) : va_W).Perm ((XW cI cZ d τ z5) ++ ([(w4, aI cI 4 cst)] ++ ((SW cI cT cU ds τ ι) ++ (Wx))) : va_W) := (List.perm_append_comm_assoc _ _ _)
  have hP : va_P D vwCl ([(w4, aI cI 4 cst)] ++ ((XW cI cZ d τ z5) ++ ((SW cI cT cU ds τ ι) ++ (Wx)))) H := va_mem hP (fun q9 hq9 => hp9.mem_iff.mp hq9)
  have hD : va_D A ([(w4, aI cI 4 cst)] ++ ((XW cI cZ d τ z5) ++ ((SW cI cT cU ds τ ι) ++ (Wx)))) := va_Dp hD hp9
  show W p l e room_1 s m args below meth c H locs (cells + 5) (slots + 30) Q (F0 m 876 ls [.int (iI (xCount τ 5))])
  refine lv_istore (lv' := [(28, .int (iI (xCount τ 5))), (27, .int (iI (τ 3 ((τ 9 0) % 10)))), (26, .int (iI (τ 9 0))), (25, .int (iI (xFore τ 1 2))), (24, .int (iI (xFore τ 1 1))), (23, .int (iI (xFore τ 1 0))), (17, .ref (w17)), (5, .int (iI (x))), (4, .int (iI (t))), (3, .ref (w4)), (2, .ref (ds 0)), (1, .ref (d 0)), (0, .ref (b))]) hx hb dL_law_876 hl (by decide) rfl (fun ls hl => ?_)
  refine lv_aload_n hx hb dL_law_878 rfl (lv_at hl 11 rfl) ?_
  refine lv_iconst (v := iI (1)) hx hb dL_law_879 rfl ?_
  have hp9 : ((XW cI cZ d τ z5) ++ ([(w4, aI cI 4 cst)] ++ ((SW cI cT cU ds τ ι) ++ (Wx))) : va_W).Perm ([(w4, aI cI 4 cst)] ++ ((XW cI cZ d τ z5) ++ ((SW cI cT cU ds τ ι) ++ (Wx))) : va_W) := (List.perm_append_comm_assoc _ _ _)
  have hPc : va_P D vwCl ((XW cI cZ d τ z5) ++ ([(w4, aI cI 4 cst)] ++ ((SW cI cT cU ds τ ι) ++ (Wx)))) H := va_mem hP (fun q9 hq9 => hp9.mem_iff.mp hq9)
  have hDc : va_D A ((XW cI cZ d τ z5) ++ ([(w4, aI cI 4 cst)] ++ ((SW cI cT cU ds τ ι) ++ (Wx)))) := va_Dp hD hp9
  refine h_call0 (vx_runV (As := [.int (iI (1))]) (rest := []) S ((kX1_pass l hfl D cI cZ d τ z5 1 hwf (by first | assumption | omega) (by first | assumption | omega) hb9 (by omega)) H.size) (cwV 1 hts gL_law_X1_pass rfl rfl rfl (by decide +kernel) ⟨Nat.le_of_ble_eq_true rfl, Nat.le_of_ble_eq_true rfl⟩) (h_preV hK [0, 1] rfl hPc hDc hS hA hTE (q0 := 0) (ci := 1) rfl rfl rfl) rfl rfl hl.1 rfl (lv_room (Nat.le_of_ble_eq_true rfl)) dL_law_880 ⟨by show (cells + 5) + 1 ≤ 600104; omega, by show (slots + 30) + 6 ≤ 7301314; omega⟩) hPc hDc hS hA (fun E h => (by have h0 : (tPass 1) = 0 := (by unfold tPass; rw [if_neg (by omega)]); rcases h with ⟨_, h⟩ <;> omega)) (fun κ9 H locs hk hP hD hS => ?_)
  obtain ⟨z6, ezz6⟩ : ∃ z, z = κ9 := ⟨_, rfl⟩
  subst ezz6
  have hP : va_P D vwCl ((XW cI cZ d (xPass τ 1) z6) ++ ([(w4, aI cI 4 cst)] ++ ((SW cI cT cU ds τ ι) ++ (Wx)))) H := hP
  have hD : va_D A ((XW cI cZ d (xPass τ 1) z6) ++ ([(w4, aI cI 4 cst)] ++ ((SW cI cT cU ds τ ι) ++ (Wx)))) := hD
  have hp9 : ([(w4, aI cI 4 cst)] ++ ((XW cI cZ d (xPass τ 1) z6) ++ ((SW cI cT cU ds τ ι) ++ (Wx))) : va_W).Perm ((XW cI cZ d (xPass τ 1) z6) ++ ([(w4, aI cI 4 cst)] ++ ((SW cI cT cU ds τ ι) ++ (Wx))) : va_W) := (List.perm_append_comm_assoc _ _ _)
  have hP : va_P D vwCl ([(w4, aI cI 4 cst)] ++ ((XW cI cZ d (xPass τ 1) z6) ++ ((SW cI cT cU ds τ ι) ++ (Wx)))) H := va_mem hP (fun q9 hq9 => hp9.mem_iff.mp hq9)
  have hD : va_D A ([(w4, aI cI 4 cst)] ++ ((XW cI cZ d (xPass τ 1) z6) ++ ((SW cI cT cU ds τ ι) ++ (Wx)))) := va_Dp hD hp9
  show W p l e room_1 s m args below meth c H locs (cells + 6) (slots + 36) Q (F0 m 883 ls [.int (iI ((xPs τ 1 40).2))])
  refine lv_iload hx hb dL_law_883 (lv_at hl 5 rfl) ?_
  rw [show (xFore τ 1 0 : Int) = ((xPs τ 1 40).2) from by exact y0]
  refine gi_icmp_ne (tgt := 943) hx hb dL_law_885 (by decide) pR pR (fun c885 => ?_) (fun c885 => ?_)
  · skip
    exact absurd rfl c885
  · skip
    refine lv_aload_n hx hb dL_law_888 rfl (lv_at hl 11 rfl) ?_
    refine lv_iconst (v := iI (5)) hx hb dL_law_889 rfl ?_
    have hp9 : ((XW cI cZ d (xPass τ 1) z6) ++ ([(w4, aI cI 4 cst)] ++ ((SW cI cT cU ds τ ι) ++ (Wx))) : va_W).Perm ([(w4, aI cI 4 cst)] ++ ((XW cI cZ d (xPass τ 1) z6) ++ ((SW cI cT cU ds τ ι) ++ (Wx))) : va_W) := (List.perm_append_comm_assoc _ _ _)
    have hPc : va_P D vwCl ((XW cI cZ d (xPass τ 1) z6) ++ ([(w4, aI cI 4 cst)] ++ ((SW cI cT cU ds τ ι) ++ (Wx)))) H := va_mem hP (fun q9 hq9 => hp9.mem_iff.mp hq9)
    have hDc : va_D A ((XW cI cZ d (xPass τ 1) z6) ++ ([(w4, aI cI 4 cst)] ++ ((SW cI cT cU ds τ ι) ++ (Wx)))) := va_Dp hD hp9
    refine h_call0 (vx_runV (As := [.int (iI (5))]) (rest := []) S ((kX1_count l hfl D cI cZ d (xPass τ 1) z6 5 pw (by first | assumption | omega) (by first | assumption | omega)) H.size) (cwV 1 hts gL_law_X1_count rfl rfl rfl (by decide +kernel) ⟨Nat.le_of_ble_eq_true rfl, Nat.le_of_ble_eq_true rfl⟩) (h_preV hK [0, 1] rfl hPc hDc hS hA hTE (q0 := 0) (ci := 1) rfl rfl rfl) rfl rfl hl.1 rfl (lv_room (Nat.le_of_ble_eq_true rfl)) dL_law_890 ⟨by show (cells + 6) + 1 ≤ 600104; omega, by show (slots + 36) + 6 ≤ 7301314; omega⟩) hPc hDc hS hA (fun E h => (by have h0 : (tCount 5) = 0 := (by unfold tCount; rw [if_neg (by omega)]); rcases h with ⟨_, h⟩ <;> omega)) (fun κ9 H locs hk hP hD hS => ?_)
    obtain ⟨z7, ezz7⟩ : ∃ z, z = κ9 := ⟨_, rfl⟩
    subst ezz7
    have hP : va_P D vwCl ((XW cI cZ d (xPass τ 1) z7) ++ ([(w4, aI cI 4 cst)] ++ ((SW cI cT cU ds τ ι) ++ (Wx)))) H := hP
    have hD : va_D A ((XW cI cZ d (xPass τ 1) z7) ++ ([(w4, aI cI 4 cst)] ++ ((SW cI cT cU ds τ ι) ++ (Wx)))) := hD
    have hp9 : ([(w4, aI cI 4 cst)] ++ ((XW cI cZ d (xPass τ 1) z7) ++ ((SW cI cT cU ds τ ι) ++ (Wx))) : va_W).Perm ((XW cI cZ d (xPass τ 1) z7) ++ ([(w4, aI cI 4 cst)] ++ ((SW cI cT cU ds τ ι) ++ (Wx))) : va_W) := (List.perm_append_comm_assoc _ _ _)
    have hP : va_P D vwCl ([(w4, aI cI 4 cst)] ++ ((XW cI cZ d (xPass τ 1) z7) ++ ((SW cI cT cU ds τ ι) ++ (Wx)))) H := va_mem hP (fun q9 hq9 => hp9.mem_iff.mp hq9)
    have hD : va_D A ([(w4, aI cI 4 cst)] ++ ((XW cI cZ d (xPass τ 1) z7) ++ ((SW cI cT cU ds τ ι) ++ (Wx)))) := va_Dp hD hp9
    show W p l e room_1 s m args below meth c H locs (cells + 7) (slots + 42) Q (F0 m 893 ls [.int (iI (xCount (xPass τ 1) 5))])
    refine lv_iload hx hb dL_law_893 (lv_at hl 0 rfl) ?_
    refine lv_iload hx hb dL_law_895 (lv_at hl 5 rfl) ?_
    refine gi_add hx hb dL_law_897 ?_
    rw [show (xCount (xPass τ 1) 5 : Int) = (xCount τ 5 + (xPs τ 1 40).2) from by exact y1]
    rw [show ((xCount τ 5) + (xFore τ 1 0) : Int) = (xCount τ 5 + (xPs τ 1 40).2) from by rw [y0]]
    refine gi_icmp_ne (tgt := 943) hx hb dL_law_898 (by decide) (y1 ▸ pC 5) (y1 ▸ pC 5) (fun c898 => ?_) (fun c898 => ?_)
    · skip
      exact absurd rfl c898
    · skip
      refine lv_aload_n hx hb dL_law_901 rfl (lv_at hl 11 rfl) ?_
      refine lv_iconst (v := iI (4)) hx hb dL_law_902 rfl ?_
      have hp9 : ((XW cI cZ d (xPass τ 1) z7) ++ ([(w4, aI cI 4 cst)] ++ ((SW cI cT cU ds τ ι) ++ (Wx))) : va_W).Perm ([(w4, aI cI 4 cst)] ++ ((XW cI cZ d (xPass τ 1) z7) ++ ((SW cI cT cU ds τ ι) ++ (Wx))) : va_W) := (List.perm_append_comm_assoc _ _ _)
      have hPc : va_P D vwCl ((XW cI cZ d (xPass τ 1) z7) ++ ([(w4, aI cI 4 cst)] ++ ((SW cI cT cU ds τ ι) ++ (Wx)))) H := va_mem hP (fun q9 hq9 => hp9.mem_iff.mp hq9)
      have hDc : va_D A ((XW cI cZ d (xPass τ 1) z7) ++ ([(w4, aI cI 4 cst)] ++ ((SW cI cT cU ds τ ι) ++ (Wx)))) := va_Dp hD hp9
      refine h_call0 (vx_runV (As := [.int (iI (4))]) (rest := []) S ((kX1_count l hfl D cI cZ d (xPass τ 1) z7 4 pw (by first | assumption | omega) (by first | assumption | omega)) H.size) (cwV 1 hts gL_law_X1_count rfl rfl rfl (by decide +kernel) ⟨Nat.le_of_ble_eq_true rfl, Nat.le_of_ble_eq_true rfl⟩) (h_preV hK [0, 1] rfl hPc hDc hS hA hTE (q0 := 0) (ci := 1) rfl rfl rfl) rfl rfl hl.1 rfl (lv_room (Nat.le_of_ble_eq_true rfl)) dL_law_903 ⟨by show (cells + 7) + 1 ≤ 600104; omega, by show (slots + 42) + 6 ≤ 7301314; omega⟩) hPc hDc hS hA (fun E h => (by have h0 : (tCount 4) = 0 := (by unfold tCount; rw [if_neg (by omega)]); rcases h with ⟨_, h⟩ <;> omega)) (fun κ9 H locs hk hP hD hS => ?_)
      obtain ⟨z8, ezz8⟩ : ∃ z, z = κ9 := ⟨_, rfl⟩
      subst ezz8
      have hP : va_P D vwCl ((XW cI cZ d (xPass τ 1) z8) ++ ([(w4, aI cI 4 cst)] ++ ((SW cI cT cU ds τ ι) ++ (Wx)))) H := hP
      have hD : va_D A ((XW cI cZ d (xPass τ 1) z8) ++ ([(w4, aI cI 4 cst)] ++ ((SW cI cT cU ds τ ι) ++ (Wx)))) := hD
      have hp9 : ([(w4, aI cI 4 cst)] ++ ((XW cI cZ d (xPass τ 1) z8) ++ ((SW cI cT cU ds τ ι) ++ (Wx))) : va_W).Perm ((XW cI cZ d (xPass τ 1) z8) ++ ([(w4, aI cI 4 cst)] ++ ((SW cI cT cU ds τ ι) ++ (Wx))) : va_W) := (List.perm_append_comm_assoc _ _ _)
      have hP : va_P D vwCl ([(w4, aI cI 4 cst)] ++ ((XW cI cZ d (xPass τ 1) z8) ++ ((SW cI cT cU ds τ ι) ++ (Wx)))) H := va_mem hP (fun q9 hq9 => hp9.mem_iff.mp hq9)
      have hD : va_D A ([(w4, aI cI 4 cst)] ++ ((XW cI cZ d (xPass τ 1) z8) ++ ((SW cI cT cU ds τ ι) ++ (Wx)))) := va_Dp hD hp9
      show W p l e room_1 s m args below meth c H locs (cells + 8) (slots + 48) Q (F0 m 906 ls [.int (iI (xCount (xPass τ 1) 4))])
      refine lv_iload hx hb dL_law_906 (lv_at hl 3 rfl) ?_
      rw [show (xCount (xPass τ 1) 4 : Int) = (xFore τ 1 2) from by exact y2]
      refine gi_icmp_ne (tgt := 943) hx hb dL_law_908 (by decide) (y2 ▸ pC 4) (y2 ▸ pC 4) (fun c908 => ?_) (fun c908 => ?_)
      · skip
        exact absurd rfl c908
      · skip
        refine lv_aload_n hx hb dL_law_911 rfl (lv_at hl 11 rfl) ?_
        refine lv_iconst (v := iI (0)) hx hb dL_law_912 rfl ?_
        have hp9 : ((XW cI cZ d (xPass τ 1) z8) ++ ([(w4, aI cI 4 cst)] ++ ((SW cI cT cU ds τ ι) ++ (Wx))) : va_W).Perm ([(w4, aI cI 4 cst)] ++ ((XW cI cZ d (xPass τ 1) z8) ++ ((SW cI cT cU ds τ ι) ++ (Wx))) : va_W) := (List.perm_append_comm_assoc _ _ _)
        have hPc : va_P D vwCl ((XW cI cZ d (xPass τ 1) z8) ++ ([(w4, aI cI 4 cst)] ++ ((SW cI cT cU ds τ ι) ++ (Wx)))) H := va_mem hP (fun q9 hq9 => hp9.mem_iff.mp hq9)
        have hDc : va_D A ((XW cI cZ d (xPass τ 1) z8) ++ ([(w4, aI cI 4 cst)] ++ ((SW cI cT cU ds τ ι) ++ (Wx)))) := va_Dp hD hp9
        refine h_call0 (vx_runV (As := [.int (iI (0))]) (rest := []) S ((kX1_count l hfl D cI cZ d (xPass τ 1) z8 0 pw (by first | assumption | omega) (by first | assumption | omega)) H.size) (cwV 1 hts gL_law_X1_count rfl rfl rfl (by decide +kernel) ⟨Nat.le_of_ble_eq_true rfl, Nat.le_of_ble_eq_true rfl⟩) (h_preV hK [0, 1] rfl hPc hDc hS hA hTE (q0 := 0) (ci := 1) rfl rfl rfl) rfl rfl hl.1 rfl (lv_room (Nat.le_of_ble_eq_true rfl)) dL_law_913 ⟨by show (cells + 8) + 1 ≤ 600104; omega, by show (slots + 48) + 6 ≤ 7301314; omega⟩) hPc hDc hS hA (fun E h => (by have h0 : (tCount 0) = 0 := (by unfold tCount; rw [if_neg (by omega)]); rcases h with ⟨_, h⟩ <;> omega)) (fun κ9 H locs hk hP hD hS => ?_)
        obtain ⟨z9, ezz9⟩ : ∃ z, z = κ9 := ⟨_, rfl⟩
        subst ezz9
        have hP : va_P D vwCl ((XW cI cZ d (xPass τ 1) z9) ++ ([(w4, aI cI 4 cst)] ++ ((SW cI cT cU ds τ ι) ++ (Wx)))) H := hP
        have hD : va_D A ((XW cI cZ d (xPass τ 1) z9) ++ ([(w4, aI cI 4 cst)] ++ ((SW cI cT cU ds τ ι) ++ (Wx)))) := hD
        have hp9 : ([(w4, aI cI 4 cst)] ++ ((XW cI cZ d (xPass τ 1) z9) ++ ((SW cI cT cU ds τ ι) ++ (Wx))) : va_W).Perm ((XW cI cZ d (xPass τ 1) z9) ++ ([(w4, aI cI 4 cst)] ++ ((SW cI cT cU ds τ ι) ++ (Wx))) : va_W) := (List.perm_append_comm_assoc _ _ _)
        have hP : va_P D vwCl ([(w4, aI cI 4 cst)] ++ ((XW cI cZ d (xPass τ 1) z9) ++ ((SW cI cT cU ds τ ι) ++ (Wx)))) H := va_mem hP (fun q9 hq9 => hp9.mem_iff.mp hq9)
        have hD : va_D A ([(w4, aI cI 4 cst)] ++ ((XW cI cZ d (xPass τ 1) z9) ++ ((SW cI cT cU ds τ ι) ++ (Wx)))) := va_Dp hD hp9
        show W p l e room_1 s m args below meth c H locs (cells + 9) (slots + 54) Q (F0 m 916 ls [.int (iI (xCount (xPass τ 1) 0))])
        refine lv_iload hx hb dL_law_916 (lv_at hl 2 rfl) ?_
        refine lv_iconst (v := iI (1)) hx hb dL_law_918 rfl ?_
        refine gi_add hx hb dL_law_919 ?_
        rw [show (xCount (xPass τ 1) 0 : Int) = (xCount τ 0 + 1) from by exact y3]
        refine gi_icmp_ne (tgt := 943) hx hb dL_law_920 (by decide) (y3 ▸ pC 0) (y3 ▸ pC 0) (fun c920 => ?_) (fun c920 => ?_)
        · skip
          exfalso
          omega
        · skip
          refine lv_aload_n hx hb dL_law_923 rfl (lv_at hl 11 rfl) ?_
          refine lv_iconst (v := iI (1)) hx hb dL_law_924 rfl ?_
          have hp9 : ((XW cI cZ d (xPass τ 1) z9) ++ ([(w4, aI cI 4 cst)] ++ ((SW cI cT cU ds τ ι) ++ (Wx))) : va_W).Perm ([(w4, aI cI 4 cst)] ++ ((XW cI cZ d (xPass τ 1) z9) ++ ((SW cI cT cU ds τ ι) ++ (Wx))) : va_W) := (List.perm_append_comm_assoc _ _ _)
          have hPc : va_P D vwCl ((XW cI cZ d (xPass τ 1) z9) ++ ([(w4, aI cI 4 cst)] ++ ((SW cI cT cU ds τ ι) ++ (Wx)))) H := va_mem hP (fun q9 hq9 => hp9.mem_iff.mp hq9)
          have hDc : va_D A ((XW cI cZ d (xPass τ 1) z9) ++ ([(w4, aI cI 4 cst)] ++ ((SW cI cT cU ds τ ι) ++ (Wx)))) := va_Dp hD hp9
          refine h_call0 (vx_runV (As := [.int (iI (1))]) (rest := []) S ((kX1_count l hfl D cI cZ d (xPass τ 1) z9 1 pw (by first | assumption | omega) (by first | assumption | omega)) H.size) (cwV 1 hts gL_law_X1_count rfl rfl rfl (by decide +kernel) ⟨Nat.le_of_ble_eq_true rfl, Nat.le_of_ble_eq_true rfl⟩) (h_preV hK [0, 1] rfl hPc hDc hS hA hTE (q0 := 0) (ci := 1) rfl rfl rfl) rfl rfl hl.1 rfl (lv_room (Nat.le_of_ble_eq_true rfl)) dL_law_925 ⟨by show (cells + 9) + 1 ≤ 600104; omega, by show (slots + 54) + 6 ≤ 7301314; omega⟩) hPc hDc hS hA (fun E h => (by have h0 : (tCount 1) = 0 := (by unfold tCount; rw [if_neg (by omega)]); rcases h with ⟨_, h⟩ <;> omega)) (fun κ9 H locs hk hP hD hS => ?_)
          obtain ⟨z10, ezz10⟩ : ∃ z, z = κ9 := ⟨_, rfl⟩
          subst ezz10
          have hP : va_P D vwCl ((XW cI cZ d (xPass τ 1) z10) ++ ([(w4, aI cI 4 cst)] ++ ((SW cI cT cU ds τ ι) ++ (Wx)))) H := hP
          have hD : va_D A ((XW cI cZ d (xPass τ 1) z10) ++ ([(w4, aI cI 4 cst)] ++ ((SW cI cT cU ds τ ι) ++ (Wx)))) := hD
          have hp9 : ([(w4, aI cI 4 cst)] ++ ((XW cI cZ d (xPass τ 1) z10) ++ ((SW cI cT cU ds τ ι) ++ (Wx))) : va_W).Perm ((XW cI cZ d (xPass τ 1) z10) ++ ([(w4, aI cI 4 cst)] ++ ((SW cI cT cU ds τ ι) ++ (Wx))) : va_W) := (List.perm_append_comm_assoc _ _ _)
          have hP : va_P D vwCl ([(w4, aI cI 4 cst)] ++ ((XW cI cZ d (xPass τ 1) z10) ++ ((SW cI cT cU ds τ ι) ++ (Wx)))) H := va_mem hP (fun q9 hq9 => hp9.mem_iff.mp hq9)
          have hD : va_D A ([(w4, aI cI 4 cst)] ++ ((XW cI cZ d (xPass τ 1) z10) ++ ((SW cI cT cU ds τ ι) ++ (Wx)))) := va_Dp hD hp9
          show W p l e room_1 s m args below meth c H locs (cells + 10) (slots + 60) Q (F0 m 928 ls [.int (iI (xCount (xPass τ 1) 1))])
          refine lv_bipush (v := iI (20)) hx hb dL_law_928 rfl ?_
          rw [show (xCount (xPass τ 1) 1 : Int) = (20) from by exact y4]
          refine gi_icmp_ne (tgt := 943) hx hb dL_law_930 (by decide) ⟨by decide, by decide⟩ ⟨by decide, by decide⟩ (fun c930 => ?_) (fun c930 => ?_)
          · skip
            exact absurd rfl c930
          · skip
            refine lv_aload_n hx hb dL_law_933 rfl (lv_at hl 11 rfl) ?_
            refine lv_iconst (v := iI (2)) hx hb dL_law_934 rfl ?_
            have hp9 : ((XW cI cZ d (xPass τ 1) z10) ++ ([(w4, aI cI 4 cst)] ++ ((SW cI cT cU ds τ ι) ++ (Wx))) : va_W).Perm ([(w4, aI cI 4 cst)] ++ ((XW cI cZ d (xPass τ 1) z10) ++ ((SW cI cT cU ds τ ι) ++ (Wx))) : va_W) := (List.perm_append_comm_assoc _ _ _)
            have hPc : va_P D vwCl ((XW cI cZ d (xPass τ 1) z10) ++ ([(w4, aI cI 4 cst)] ++ ((SW cI cT cU ds τ ι) ++ (Wx)))) H := va_mem hP (fun q9 hq9 => hp9.mem_iff.mp hq9)
            have hDc : va_D A ((XW cI cZ d (xPass τ 1) z10) ++ ([(w4, aI cI 4 cst)] ++ ((SW cI cT cU ds τ ι) ++ (Wx)))) := va_Dp hD hp9
            refine h_call0 (vx_runV (As := [.int (iI (2))]) (rest := []) S ((kX1_count l hfl D cI cZ d (xPass τ 1) z10 2 pw (by first | assumption | omega) (by first | assumption | omega)) H.size) (cwV 1 hts gL_law_X1_count rfl rfl rfl (by decide +kernel) ⟨Nat.le_of_ble_eq_true rfl, Nat.le_of_ble_eq_true rfl⟩) (h_preV hK [0, 1] rfl hPc hDc hS hA hTE (q0 := 0) (ci := 1) rfl rfl rfl) rfl rfl hl.1 rfl (lv_room (Nat.le_of_ble_eq_true rfl)) dL_law_935 ⟨by show (cells + 10) + 1 ≤ 600104; omega, by show (slots + 60) + 6 ≤ 7301314; omega⟩) hPc hDc hS hA (fun E h => (by have h0 : (tCount 2) = 0 := (by unfold tCount; rw [if_neg (by omega)]); rcases h with ⟨_, h⟩ <;> omega)) (fun κ9 H locs hk hP hD hS => ?_)
            obtain ⟨z11, ezz11⟩ : ∃ z, z = κ9 := ⟨_, rfl⟩
            subst ezz11
            have hP : va_P D vwCl ((XW cI cZ d (xPass τ 1) z11) ++ ([(w4, aI cI 4 cst)] ++ ((SW cI cT cU ds τ ι) ++ (Wx)))) H := hP
            have hD : va_D A ((XW cI cZ d (xPass τ 1) z11) ++ ([(w4, aI cI 4 cst)] ++ ((SW cI cT cU ds τ ι) ++ (Wx)))) := hD
            have hp9 : ([(w4, aI cI 4 cst)] ++ ((XW cI cZ d (xPass τ 1) z11) ++ ((SW cI cT cU ds τ ι) ++ (Wx))) : va_W).Perm ((XW cI cZ d (xPass τ 1) z11) ++ ([(w4, aI cI 4 cst)] ++ ((SW cI cT cU ds τ ι) ++ (Wx))) : va_W) := (List.perm_append_comm_assoc _ _ _)
            have hP : va_P D vwCl ([(w4, aI cI 4 cst)] ++ ((XW cI cZ d (xPass τ 1) z11) ++ ((SW cI cT cU ds τ ι) ++ (Wx)))) H := va_mem hP (fun q9 hq9 => hp9.mem_iff.mp hq9)
            have hD : va_D A ([(w4, aI cI 4 cst)] ++ ((XW cI cZ d (xPass τ 1) z11) ++ ((SW cI cT cU ds τ ι) ++ (Wx)))) := va_Dp hD hp9
            show W p l e room_1 s m args below meth c H locs (cells + 11) (slots + 66) Q (F0 m 938 ls [.int (iI (xCount (xPass τ 1) 2))])
            refine lv_bipush (v := iI (20)) hx hb dL_law_938 rfl ?_
            rw [show (xCount (xPass τ 1) 2 : Int) = (20) from by exact y5]
            refine gi_icmp_eq (tgt := 945) hx hb dL_law_940 (by decide) ⟨by decide, by decide⟩ ⟨by decide, by decide⟩ (fun c940 => ?_) (fun c940 => ?_)
            · skip
              exact K z11 H locs (cells + 11) (slots + 66) ls  (by omega) (by omega) hP hD hS (lv_sub hl [1, 4, 5, 6, 7, 8, 9, 10, 11, 12] rfl)
            · skip
              exact absurd rfl c940
set_option maxHeartbeats 4000000 in
set_option maxRecDepth 100000 in
theorem lq_year2 {p : Program} {l : Launch} {e : Env} {s : State} {m : MethodId} {args : Array Value} {below : List Frame} {meth : Method} {c : Code} {H : Heap} {locs : List Loc} {cells slots : Nat} {Q : State → Prop} {ls : Array Slot} {D : va_G} {A : Nat → Prop} {cI cZ cT cU cQ : ClassId} {b L : Nat} {xs : Nat → Int32} {d ds : Nat → Nat} {σ κ : St} {ι : Int → Int} {w4 : Nat} {t : Int} {x : Int} {fa : Int} {fb : Int} {Wx : va_W} {w17 : Nat} {τ : St} (G : lG p l s m c args A D cI cZ cT cU cQ b L xs) (hwf : xWF τ) (hbn : ∀ j, τ 2 j ≤ 90000000) (hwp : xWF (xPass τ 1)) (hcc : cells + 241 ≤ 600104) (hss : slots + 1440 ≤ 7301314) (hP : va_P D vwCl ([(w4, aI cI 4 cst)] ++ ((XW cI cZ d (xPass τ 1) κ) ++ ((SW cI cT cU ds τ ι) ++ (Wx)))) H) (hD : va_D A ([(w4, aI cI 4 cst)] ++ ((XW cI cZ d (xPass τ 1) κ) ++ ((SW cI cT cU ds τ ι) ++ (Wx))))) (hS : va_S A s.heap H locs) (hl : lv_has ls 35 [(27, .int (iI (yF τ))), (24, .int (iI (fb))), (23, .int (iI (fa))), (17, .ref (w17)), (5, .int (iI (x))), (4, .int (iI (t))), (3, .ref (w4)), (2, .ref (ds 0)), (1, .ref (d 0)), (0, .ref (b))]) (K : ∀ (κ1 : St) (ι1 : Int → Int) (w29 : Nat) (a29 : Nat → Nat) (H : Heap) (locs : List Loc) (cells1 slots1 : Nat) (ls : Array Slot), cells1 ≤ cells + 241 → slots1 ≤ slots + 1440 → va_P D vwCl ([(w4, aI cI 4 cst)] ++ ((XW cI cZ d (xPass τ 1) κ1) ++ ((SW cI cT cU ds (xPass τ 1) ι1) ++ (Wx ++ (QW cI cQ w29 a29 (tG (xPass τ 1))))))) H → va_D A ([(w4, aI cI 4 cst)] ++ ((XW cI cZ d (xPass τ 1) κ1) ++ ((SW cI cT cU ds (xPass τ 1) ι1) ++ (Wx ++ (QW cI cQ w29 a29 (tG (xPass τ 1))))))) → va_S A s.heap H locs → lv_has ls 35 [(32, .int (iI (0))), (31, .int (iI (0))), (30, .int (iI (0))), (29, .ref (w29)), (27, .int (iI (yF τ))), (24, .int (iI (fb))), (23, .int (iI (fa))), (17, .ref (w17)), (5, .int (iI (x))), (4, .int (iI (t))), (3, .ref (w4)), (2, .ref (ds 0)), (1, .ref (d 0)), (0, .ref (b))] → W p l e room_1 s m args below meth c H locs cells1 slots1 Q (F0 m 965 ls [])) : W p l e room_1 s m args below meth c H locs cells slots Q (F0 m 945 ls []) := by
  obtain ⟨S, hfl, hK, hA, hTE, hN, hX9, hL⟩ := id G
  have hE := hTE.1
  have S0 := S
  obtain ⟨hx, hb, hml, hown, hts⟩ := S0
  have hinX2 := inlX2
  refine lv_aload_n hx hb dL_law_945 rfl (lv_at hl 7 rfl) ?_
  have hp9 : ((SW cI cT cU ds τ ι) ++ ([(w4, aI cI 4 cst)] ++ ((XW cI cZ d (xPass τ 1) κ) ++ (Wx))) : va_W).Perm ([(w4, aI cI 4 cst)] ++ ((XW cI cZ d (xPass τ 1) κ) ++ ((SW cI cT cU ds τ ι) ++ (Wx))) : va_W) := ((List.perm_append_comm_assoc _ _ _)).trans ((List.Perm.append_left _ (List.perm_append_comm_assoc _ _ _)))
  have hPc : va_P D vwCl ((SW cI cT cU ds τ ι) ++ ([(w4, aI cI 4 cst)] ++ ((XW cI cZ d (xPass τ 1) κ) ++ (Wx)))) H := va_mem hP (fun q9 hq9 => hp9.mem_iff.mp hq9)
  have hDc : va_D A ((SW cI cT cU ds τ ι) ++ ([(w4, aI cI 4 cst)] ++ ((XW cI cZ d (xPass τ 1) κ) ++ (Wx)))) := va_Dp hD hp9
  refine g_call (va_runV (As := []) (rest := []) S ((kX2_pass l D cI cZ cT cU cQ ds τ ι  hwf (by first | assumption | omega)) H.size) (cwV 0 hts gL_law_X2_pass rfl rfl rfl (by decide +kernel) ⟨Nat.le_of_ble_eq_true rfl, Nat.le_of_ble_eq_true rfl⟩) (g_preV gEx_t hK [0, 1, 2, 3, 4] rfl hPc hDc (fun _ _ _ => trivial) (q0 := 0) (ci := 2) rfl rfl rfl) rfl rfl hl.1 rfl (lv_room (Nat.le_of_ble_eq_true rfl)) dL_law_946 ⟨by show cells + 0 ≤ 600104; omega, by show slots + 0 ≤ 7301314; omega⟩) hPc hDc hS hA (fun κ9 H locs hk hP hD hS => ?_)
  obtain ⟨z1, ezz1⟩ : ∃ z, z = κ9 := ⟨_, rfl⟩
  subst ezz1
  have hP : va_P D vwCl ((SW cI cT cU ds (xPass τ 1) (z1 2)) ++ ([(w4, aI cI 4 cst)] ++ ((XW cI cZ d (xPass τ 1) κ) ++ (Wx)))) H := hP
  have hD : va_D A ((SW cI cT cU ds (xPass τ 1) (z1 2)) ++ ([(w4, aI cI 4 cst)] ++ ((XW cI cZ d (xPass τ 1) κ) ++ (Wx)))) := hD
  have hp9 : ([(w4, aI cI 4 cst)] ++ ((XW cI cZ d (xPass τ 1) κ) ++ ((SW cI cT cU ds (xPass τ 1) (z1 2)) ++ (Wx))) : va_W).Perm ((SW cI cT cU ds (xPass τ 1) (z1 2)) ++ ([(w4, aI cI 4 cst)] ++ ((XW cI cZ d (xPass τ 1) κ) ++ (Wx))) : va_W) := ((List.Perm.append_left _ (List.perm_append_comm_assoc _ _ _))).trans ((List.perm_append_comm_assoc _ _ _))
  have hP : va_P D vwCl ([(w4, aI cI 4 cst)] ++ ((XW cI cZ d (xPass τ 1) κ) ++ ((SW cI cT cU ds (xPass τ 1) (z1 2)) ++ (Wx)))) H := va_mem hP (fun q9 hq9 => hp9.mem_iff.mp hq9)
  have hD : va_D A ([(w4, aI cI 4 cst)] ++ ((XW cI cZ d (xPass τ 1) κ) ++ ((SW cI cT cU ds (xPass τ 1) (z1 2)) ++ (Wx)))) := va_Dp hD hp9
  show W p l e room_1 s m args below meth c H locs cells slots Q (F0 m 949 ls [.int (iI ((xPs τ 1 40).2))])
  refine lv_pop hx hb dL_law_949 rfl ?_
  refine lv_aload_n hx hb dL_law_950 rfl (lv_at hl 8 rfl) ?_
  have hp9 : ((XW cI cZ d (xPass τ 1) κ) ++ ([(w4, aI cI 4 cst)] ++ ((SW cI cT cU ds (xPass τ 1) (z1 2)) ++ (Wx))) : va_W).Perm ([(w4, aI cI 4 cst)] ++ ((XW cI cZ d (xPass τ 1) κ) ++ ((SW cI cT cU ds (xPass τ 1) (z1 2)) ++ (Wx))) : va_W) := (List.perm_append_comm_assoc _ _ _)
  have hPc : va_P D vwCl ((XW cI cZ d (xPass τ 1) κ) ++ ([(w4, aI cI 4 cst)] ++ ((SW cI cT cU ds (xPass τ 1) (z1 2)) ++ (Wx)))) H := va_mem hP (fun q9 hq9 => hp9.mem_iff.mp hq9)
  have hDc : va_D A ((XW cI cZ d (xPass τ 1) κ) ++ ([(w4, aI cI 4 cst)] ++ ((SW cI cT cU ds (xPass τ 1) (z1 2)) ++ (Wx)))) := va_Dp hD hp9
  refine g_call (va_runS (As := [.ref (d 0)]) (rest := []) S ((kL_trees l hfl D cI cZ cT cU cQ d (xPass τ 1) κ hwp) H.size) (va_cwS 1 hts gL_law_L_trees rfl rfl rfl (by decide +kernel) ⟨Nat.le_of_ble_eq_true rfl, Nat.le_of_ble_eq_true rfl⟩) (g_preS (As := [.ref (d 0)]) (lEx_g _) hK [0, 1, 2, 3, 4] rfl hPc hDc (fun U hU hW => lEx_w hTE hN hDc hS hA hU hW)) rfl rfl hl.1 rfl (lv_room (Nat.le_of_ble_eq_true rfl)) dL_law_951 ⟨by show cells + 241 ≤ 600104; omega, by show slots + 1440 ≤ 7301314; omega⟩) hPc hDc hS hA (fun κ9 H locs hk hP hD hS => ?_)
  obtain ⟨z2, ezz2⟩ : ∃ z, z = κ9 := ⟨_, rfl⟩
  subst ezz2
  have hP : va_P D vwCl ((XW cI cZ d (xPass τ 1) z2 ++ QW cI cQ (z2 2 0).toNat (fun i => (z2 3 i).toNat) (tG (xPass τ 1))) ++ ([(w4, aI cI 4 cst)] ++ ((SW cI cT cU ds (xPass τ 1) (z1 2)) ++ (Wx)))) H := hP
  have hD : va_D A ((XW cI cZ d (xPass τ 1) z2 ++ QW cI cQ (z2 2 0).toNat (fun i => (z2 3 i).toNat) (tG (xPass τ 1))) ++ ([(w4, aI cI 4 cst)] ++ ((SW cI cT cU ds (xPass τ 1) (z1 2)) ++ (Wx)))) := hD
  generalize (z2 2 0).toNat = w951 at hP hD ⊢
  generalize (fun i : Nat => (z2 3 (i : Int)).toNat) = a951 at hP hD
  rw [List.append_assoc] at hP hD
  have hp9 : ([(w4, aI cI 4 cst)] ++ ((XW cI cZ d (xPass τ 1) z2) ++ ((SW cI cT cU ds (xPass τ 1) (z1 2)) ++ (Wx ++ (QW cI cQ w951 a951 (tG (xPass τ 1)))))) : va_W).Perm ((XW cI cZ d (xPass τ 1) z2) ++ ((QW cI cQ w951 a951 (tG (xPass τ 1))) ++ ([(w4, aI cI 4 cst)] ++ ((SW cI cT cU ds (xPass τ 1) (z1 2)) ++ (Wx)))) : va_W) := ((List.Perm.append_left _ (List.Perm.append_left _ (List.Perm.append_left _ List.perm_append_comm)))).trans (((List.Perm.append_left _ (List.Perm.append_left _ (List.perm_append_comm_assoc _ _ _)))).trans (((List.perm_append_comm_assoc _ _ _)).trans ((List.Perm.append_left _ (List.perm_append_comm_assoc _ _ _)))))
  have hP : va_P D vwCl ([(w4, aI cI 4 cst)] ++ ((XW cI cZ d (xPass τ 1) z2) ++ ((SW cI cT cU ds (xPass τ 1) (z1 2)) ++ (Wx ++ (QW cI cQ w951 a951 (tG (xPass τ 1))))))) H := va_mem hP (fun q9 hq9 => hp9.mem_iff.mp hq9)
  have hD : va_D A ([(w4, aI cI 4 cst)] ++ ((XW cI cZ d (xPass τ 1) z2) ++ ((SW cI cT cU ds (xPass τ 1) (z1 2)) ++ (Wx ++ (QW cI cQ w951 a951 (tG (xPass τ 1))))))) := va_Dp hD hp9
  show W p l e room_1 s m args below meth c H locs (cells + 241) (slots + 1440) Q (F0 m 954 ls [.ref (w951)])
  refine lv_astore (lv' := [(29, .ref (w951)), (27, .int (iI (yF τ))), (24, .int (iI (fb))), (23, .int (iI (fa))), (17, .ref (w17)), (5, .int (iI (x))), (4, .int (iI (t))), (3, .ref (w4)), (2, .ref (ds 0)), (1, .ref (d 0)), (0, .ref (b))]) hx hb dL_law_954 hl (by decide) rfl (fun ls hl => ?_)
  refine lv_iconst (v := iI (0)) hx hb dL_law_956 rfl ?_
  refine lv_istore (lv' := [(30, .int (iI (0))), (29, .ref (w951)), (27, .int (iI (yF τ))), (24, .int (iI (fb))), (23, .int (iI (fa))), (17, .ref (w17)), (5, .int (iI (x))), (4, .int (iI (t))), (3, .ref (w4)), (2, .ref (ds 0)), (1, .ref (d 0)), (0, .ref (b))]) hx hb dL_law_957 hl (by decide) rfl (fun ls hl => ?_)
  refine lv_iconst (v := iI (0)) hx hb dL_law_959 rfl ?_
  refine lv_istore (lv' := [(31, .int (iI (0))), (30, .int (iI (0))), (29, .ref (w951)), (27, .int (iI (yF τ))), (24, .int (iI (fb))), (23, .int (iI (fa))), (17, .ref (w17)), (5, .int (iI (x))), (4, .int (iI (t))), (3, .ref (w4)), (2, .ref (ds 0)), (1, .ref (d 0)), (0, .ref (b))]) hx hb dL_law_960 hl (by decide) rfl (fun ls hl => ?_)
  refine lv_iconst (v := iI (0)) hx hb dL_law_962 rfl ?_
  refine lv_istore (lv' := [(32, .int (iI (0))), (31, .int (iI (0))), (30, .int (iI (0))), (29, .ref (w951)), (27, .int (iI (yF τ))), (24, .int (iI (fb))), (23, .int (iI (fa))), (17, .ref (w17)), (5, .int (iI (x))), (4, .int (iI (t))), (3, .ref (w4)), (2, .ref (ds 0)), (1, .ref (d 0)), (0, .ref (b))]) hx hb dL_law_963 hl (by decide) rfl (fun ls hl => ?_)
  exact K z2 (z1 2) w951 a951 H locs (cells + 241) (slots + 1440) ls  (by omega) (by omega) hP hD hS (lv_sub hl [0, 1, 2, 3, 4, 5, 6, 7, 8, 9, 10, 11, 12, 13] rfl)
set_option maxHeartbeats 4000000 in
set_option maxRecDepth 100000 in
theorem lq_tree {p : Program} {l : Launch} {e : Env} {s : State} {m : MethodId} {args : Array Value} {below : List Frame} {meth : Method} {c : Code} {H : Heap} {locs : List Loc} {cells slots : Nat} {Q : State → Prop} {ls : Array Slot} {D : va_G} {A : Nat → Prop} {cI cZ cT cU cQ : ClassId} {b L : Nat} {xs : Nat → Int32} {d ds : Nat → Nat} {σ κ : St} {ι : Int → Int} {w4 : Nat} {t : Int} {x : Int} {fa : Int} {fb : Int} {k : Int} {su : Int} {al : Int} {Wy : va_W} {w17 : Nat} {τ : St} {w29 : Nat} {a17 : Nat → Nat} {a29 : Nat → Nat} (G : lG p l s m c args A D cI cZ cT cU cQ b L xs) (hwf : xWF τ) (hz : zWF τ) (hbn : ∀ j, τ 2 j ≤ 90000000) (hyr : τ 9 0 ≤ 1000) (hk : 0 ≤ k ∧ k < 40) (hcc : cells + 1 ≤ 600104) (hss : slots + 6 ≤ 7301314) (hP : va_P D vwCl ([(w4, aI cI 4 cst)] ++ ((XW cI cZ d (xPass τ 1) κ) ++ ((SW cI cT cU ds (xPass τ 1) ι) ++ (Wy ++ ((QW cI cQ w17 a17 (tG τ)) ++ (QW cI cQ w29 a29 (tG (xPass τ 1)))))))) H) (hD : va_D A ([(w4, aI cI 4 cst)] ++ ((XW cI cZ d (xPass τ 1) κ) ++ ((SW cI cT cU ds (xPass τ 1) ι) ++ (Wy ++ ((QW cI cQ w17 a17 (tG τ)) ++ (QW cI cQ w29 a29 (tG (xPass τ 1))))))))) (hS : va_S A s.heap H locs) (hl : lv_has ls 35 [(32, .int (iI (k))), (31, .int (iI (su))), (30, .int (iI (al))), (29, .ref (w29)), (27, .int (iI (yF τ))), (24, .int (iI (fb))), (23, .int (iI (fa))), (17, .ref (w17)), (5, .int (iI (x))), (4, .int (iI (t))), (3, .ref (w4)), (2, .ref (ds 0)), (1, .ref (d 0)), (0, .ref (b))]) (K : ∀ (κ1 : St) (su1 : Int) (al1 : Int) (H : Heap) (locs : List Loc) (cells1 slots1 : Nat) (ls : Array Slot), (su1 = su + fsA τ 1 k) → (al1 = al + fsB τ 1 k) → cells1 ≤ cells + 1 → slots1 ≤ slots + 6 → va_P D vwCl ([(w4, aI cI 4 cst)] ++ ((XW cI cZ d (xPass τ 1) κ1) ++ ((SW cI cT cU ds (xPass τ 1) ι) ++ (Wy ++ ((QW cI cQ w17 a17 (tG τ)) ++ (QW cI cQ w29 a29 (tG (xPass τ 1)))))))) H → va_D A ([(w4, aI cI 4 cst)] ++ ((XW cI cZ d (xPass τ 1) κ1) ++ ((SW cI cT cU ds (xPass τ 1) ι) ++ (Wy ++ ((QW cI cQ w17 a17 (tG τ)) ++ (QW cI cQ w29 a29 (tG (xPass τ 1)))))))) → va_S A s.heap H locs → lv_has ls 35 [(32, .int (iI (k))), (31, .int (iI (su1))), (30, .int (iI (al1))), (29, .ref (w29)), (27, .int (iI (yF τ))), (24, .int (iI (fb))), (23, .int (iI (fa))), (17, .ref (w17)), (5, .int (iI (x))), (4, .int (iI (t))), (3, .ref (w4)), (2, .ref (ds 0)), (1, .ref (d 0)), (0, .ref (b))] → W p l e room_1 s m args below meth c H locs cells1 slots1 Q (F0 m 1187 ls [])) : W p l e room_1 s m args below meth c H locs cells slots Q (F0 m 972 ls []) := by
  obtain ⟨S, hfl, hK, hA, hTE, hN, hX9, hL⟩ := id G
  have hE := hTE.1
  have S0 := S
  obtain ⟨hx, hb, hml, hown, hts⟩ := S0
  have hinX2 := inlX2
  obtain ⟨-, -, -, -, -, -, -, q1, q4, q6, qk⟩ := yr_ok hwf hz hbn
  obtain ⟨pw, pz, -⟩ := pass_ok hwf hz hbn (by omega)
  have b1 := wB01 τ k
  have b3 := wD01 τ k
  have b4 := wD01 (xPass τ 1) k
  have k4 := xWF_4 hwf k
  have k5 := xWF_5 hwf k
  have k6 := xWF_6 hwf k
  have k7 := xWF_7 hwf k
  have j5 := xWF_5 pw k
  have k1 := xWF_1 hwf (τ 4 k)
  have kf : 0 ≤ yF τ ∧ yF τ ≤ 9 := xWF_3 hwf _
  have eb : wB (xPass τ 1) k = wB τ k := by unfold wB; rw [q4]
  have e4 : xPass τ 1 4 k = τ 4 k := by rw [q4]
  have e6 : xPass τ 1 6 k = τ 6 k := by rw [q6]
  refine lv_aload hx hb dL_law_972 (lv_at hl 7 rfl) ?_
  refine lv_iload hx hb dL_law_974 (lv_at hl 0 rfl) ?_
  refine s_row (f := tgr a17) hx hb hK (g_left (g_right (g_right (g_right (g_right hP))))) 0 4 rfl rfl (by omega) (by omega) (by decide) (v := a17 k.toNat) (if_pos (by omega)) dL_law_976 ?_
  refine lv_iconst (v := iI (0)) hx hb dL_law_977 rfl ?_
  refine gi_iald (a := (a17 k.toNat)) (n := 5) (f := (tG τ) k.toNat) hx hb hK (g_left (g_right (g_right (g_right (g_right hP))))) (k.toNat + 1) 0 (qw_at (by omega)) rfl (by omega) (by omega) (by decide) dL_law_978 ?_
  rw [show (((tG τ) k.toNat) 0 : Int) = wB τ k from tG_0 (by omega)]
  refine lv_aload hx hb dL_law_979 (lv_at hl 3 rfl) ?_
  refine lv_iload hx hb dL_law_981 (lv_at hl 0 rfl) ?_
  refine s_row (f := tgr a29) hx hb hK (g_right (g_right (g_right (g_right (g_right hP))))) 0 4 rfl rfl (by omega) (by omega) (by decide) (v := a29 k.toNat) (if_pos (by omega)) dL_law_983 ?_
  refine lv_iconst (v := iI (0)) hx hb dL_law_984 rfl ?_
  refine gi_iald (a := (a29 k.toNat)) (n := 5) (f := (tG (xPass τ 1)) k.toNat) hx hb hK (g_right (g_right (g_right (g_right (g_right hP))))) (k.toNat + 1) 0 (qw_at (by omega)) rfl (by omega) (by omega) (by decide) dL_law_985 ?_
  rw [show (((tG (xPass τ 1)) k.toNat) 0 : Int) = wB (xPass τ 1) k from tG_0 (by omega)]
  refine gi_icmp_ne (tgt := 1023) hx hb dL_law_986 (by decide) ⟨by omega, by omega⟩ ⟨by omega, by omega⟩ (fun c986 => ?_) (fun c986 => ?_)
  · skip
    exfalso
    omega
  · skip
    refine lv_aload hx hb dL_law_989 (lv_at hl 7 rfl) ?_
    refine lv_iload hx hb dL_law_991 (lv_at hl 0 rfl) ?_
    refine s_row (f := tgr a17) hx hb hK (g_left (g_right (g_right (g_right (g_right hP))))) 0 4 rfl rfl (by omega) (by omega) (by decide) (v := a17 k.toNat) (if_pos (by omega)) dL_law_993 ?_
    refine lv_iconst (v := iI (2)) hx hb dL_law_994 rfl ?_
    refine gi_iald (a := (a17 k.toNat)) (n := 5) (f := (tG τ) k.toNat) hx hb hK (g_left (g_right (g_right (g_right (g_right hP))))) (k.toNat + 1) 0 (qw_at (by omega)) rfl (by omega) (by omega) (by decide) dL_law_995 ?_
    rw [show (((tG τ) k.toNat) 2 : Int) = τ 6 k from tG_2 (by omega)]
    refine lv_aload hx hb dL_law_996 (lv_at hl 3 rfl) ?_
    refine lv_iload hx hb dL_law_998 (lv_at hl 0 rfl) ?_
    refine s_row (f := tgr a29) hx hb hK (g_right (g_right (g_right (g_right (g_right hP))))) 0 4 rfl rfl (by omega) (by omega) (by decide) (v := a29 k.toNat) (if_pos (by omega)) dL_law_1000 ?_
    refine lv_iconst (v := iI (2)) hx hb dL_law_1001 rfl ?_
    refine gi_iald (a := (a29 k.toNat)) (n := 5) (f := (tG (xPass τ 1)) k.toNat) hx hb hK (g_right (g_right (g_right (g_right (g_right hP))))) (k.toNat + 1) 0 (qw_at (by omega)) rfl (by omega) (by omega) (by decide) dL_law_1002 ?_
    rw [show (((tG (xPass τ 1)) k.toNat) 2 : Int) = (xPass τ 1) 6 k from tG_2 (by omega)]
    refine gi_icmp_ne (tgt := 1023) hx hb dL_law_1003 (by decide) ⟨by omega, by omega⟩ ⟨by omega, by omega⟩ (fun c1003 => ?_) (fun c1003 => ?_)
    · skip
      exfalso
      omega
    · skip
      refine lv_aload hx hb dL_law_1006 (lv_at hl 7 rfl) ?_
      refine lv_iload hx hb dL_law_1008 (lv_at hl 0 rfl) ?_
      refine s_row (f := tgr a17) hx hb hK (g_left (g_right (g_right (g_right (g_right hP))))) 0 4 rfl rfl (by omega) (by omega) (by decide) (v := a17 k.toNat) (if_pos (by omega)) dL_law_1010 ?_
      refine lv_iconst (v := iI (3)) hx hb dL_law_1011 rfl ?_
      refine gi_iald (a := (a17 k.toNat)) (n := 5) (f := (tG τ) k.toNat) hx hb hK (g_left (g_right (g_right (g_right (g_right hP))))) (k.toNat + 1) 0 (qw_at (by omega)) rfl (by omega) (by omega) (by decide) dL_law_1012 ?_
      rw [show (((tG τ) k.toNat) 3 : Int) = τ 4 k from tG_3 (by omega)]
      refine lv_aload hx hb dL_law_1013 (lv_at hl 3 rfl) ?_
      refine lv_iload hx hb dL_law_1015 (lv_at hl 0 rfl) ?_
      refine s_row (f := tgr a29) hx hb hK (g_right (g_right (g_right (g_right (g_right hP))))) 0 4 rfl rfl (by omega) (by omega) (by decide) (v := a29 k.toNat) (if_pos (by omega)) dL_law_1017 ?_
      refine lv_iconst (v := iI (3)) hx hb dL_law_1018 rfl ?_
      refine gi_iald (a := (a29 k.toNat)) (n := 5) (f := (tG (xPass τ 1)) k.toNat) hx hb hK (g_right (g_right (g_right (g_right (g_right hP))))) (k.toNat + 1) 0 (qw_at (by omega)) rfl (by omega) (by omega) (by decide) dL_law_1019 ?_
      rw [show (((tG (xPass τ 1)) k.toNat) 3 : Int) = (xPass τ 1) 4 k from tG_3 (by omega)]
      refine gi_icmp_eq (tgt := 1025) hx hb dL_law_1020 (by decide) ⟨by omega, by omega⟩ ⟨by omega, by omega⟩ (fun c1020 => ?_) (fun c1020 => ?_)
      · skip
        refine lv_aload hx hb dL_law_1025 (lv_at hl 7 rfl) ?_
        refine lv_iload hx hb dL_law_1027 (lv_at hl 0 rfl) ?_
        refine s_row (f := tgr a17) hx hb hK (g_left (g_right (g_right (g_right (g_right hP))))) 0 4 rfl rfl (by omega) (by omega) (by decide) (v := a17 k.toNat) (if_pos (by omega)) dL_law_1029 ?_
        refine lv_iconst (v := iI (0)) hx hb dL_law_1030 rfl ?_
        refine gi_iald (a := (a17 k.toNat)) (n := 5) (f := (tG τ) k.toNat) hx hb hK (g_left (g_right (g_right (g_right (g_right hP))))) (k.toNat + 1) 0 (qw_at (by omega)) rfl (by omega) (by omega) (by decide) dL_law_1031 ?_
        rw [show (((tG τ) k.toNat) 0 : Int) = wB τ k from tG_0 (by omega)]
        refine gi_if_ne (tgt := 1038) hx hb dL_law_1032 (by decide) ⟨by omega, by omega⟩ (fun c1032 => ?_) (fun c1032 => ?_)
        · skip
          have h4 : ¬ τ 4 k = -1 := fun q => c1032 (wB_n q)
          obtain ⟨u5, u7, ua, ub⟩ := qk k hk.1 hk.2 h4
          have kyk : 0 ≤ yK τ k ∧ yK τ k ≤ 9 := yfz_in _ _ k5
          have kyi : 0 ≤ yI τ k ∧ yI τ k ≤ 81 := apl_in k6 kyk
          have km := mul9 kyk k6
          have u7a : yI τ k < 20 → wD (xPass τ 1) k = 0 := fun q => by rw [u7]; exact bI_f (by omega)
          have u7b : ¬ yI τ k < 20 → wD (xPass τ 1) k = 1 := fun q => by rw [u7]; exact bI_t (by omega)
          have ug1 : 6 < τ 6 k → grm (τ 6 k) = 2 := fun q => if_pos (by omega)
          have ug2 : ¬ 6 < τ 6 k → grm (τ 6 k) = 1 := fun q => if_neg (by omega)
          refine lv_iconst (v := iI (0)) hx hb dL_law_1038 rfl ?_
          refine lv_aload hx hb dL_law_1039 (lv_at hl 7 rfl) ?_
          refine lv_iload hx hb dL_law_1041 (lv_at hl 0 rfl) ?_
          refine s_row (f := tgr a17) hx hb hK (g_left (g_right (g_right (g_right (g_right hP))))) 0 4 rfl rfl (by omega) (by omega) (by decide) (v := a17 k.toNat) (if_pos (by omega)) dL_law_1043 ?_
          refine lv_iconst (v := iI (1)) hx hb dL_law_1044 rfl ?_
          refine gi_iald (a := (a17 k.toNat)) (n := 5) (f := (tG τ) k.toNat) hx hb hK (g_left (g_right (g_right (g_right (g_right hP))))) (k.toNat + 1) 0 (qw_at (by omega)) rfl (by omega) (by omega) (by decide) dL_law_1045 ?_
          rw [show (((tG τ) k.toNat) 1 : Int) = τ 5 k from tG_1 (by omega)]
          refine lv_iconst (v := iI (0)) hx hb dL_law_1046 rfl ?_
          refine lv_iload hx hb dL_law_1047 (lv_at hl 4 rfl) ?_
          refine lv_aload_n hx hb dL_law_1049 rfl (lv_at hl 12 rfl) ?_
          refine lv_aload hx hb dL_law_1050 (lv_at hl 7 rfl) ?_
          refine lv_iload hx hb dL_law_1052 (lv_at hl 0 rfl) ?_
          refine s_row (f := tgr a17) hx hb hK (g_left (g_right (g_right (g_right (g_right hP))))) 0 4 rfl rfl (by omega) (by omega) (by decide) (v := a17 k.toNat) (if_pos (by omega)) dL_law_1054 ?_
          refine lv_iconst (v := iI (3)) hx hb dL_law_1055 rfl ?_
          refine gi_iald (a := (a17 k.toNat)) (n := 5) (f := (tG τ) k.toNat) hx hb hK (g_left (g_right (g_right (g_right (g_right hP))))) (k.toNat + 1) 0 (qw_at (by omega)) rfl (by omega) (by omega) (by decide) dL_law_1056 ?_
          rw [show (((tG τ) k.toNat) 3 : Int) = τ 4 k from tG_3 (by omega)]
          refine lv_iconst (v := iI (1)) hx hb dL_law_1057 rfl ?_
          have hp9 : ((XW cI cZ d (xPass τ 1) κ) ++ ([(w4, aI cI 4 cst)] ++ ((SW cI cT cU ds (xPass τ 1) ι) ++ (Wy ++ ((QW cI cQ w17 a17 (tG τ)) ++ (QW cI cQ w29 a29 (tG (xPass τ 1))))))) : va_W).Perm ([(w4, aI cI 4 cst)] ++ ((XW cI cZ d (xPass τ 1) κ) ++ ((SW cI cT cU ds (xPass τ 1) ι) ++ (Wy ++ ((QW cI cQ w17 a17 (tG τ)) ++ (QW cI cQ w29 a29 (tG (xPass τ 1))))))) : va_W) := (List.perm_append_comm_assoc _ _ _)
          have hPc : va_P D vwCl ((XW cI cZ d (xPass τ 1) κ) ++ ([(w4, aI cI 4 cst)] ++ ((SW cI cT cU ds (xPass τ 1) ι) ++ (Wy ++ ((QW cI cQ w17 a17 (tG τ)) ++ (QW cI cQ w29 a29 (tG (xPass τ 1)))))))) H := va_mem hP (fun q9 hq9 => hp9.mem_iff.mp hq9)
          have hDc : va_D A ((XW cI cZ d (xPass τ 1) κ) ++ ([(w4, aI cI 4 cst)] ++ ((SW cI cT cU ds (xPass τ 1) ι) ++ (Wy ++ ((QW cI cQ w17 a17 (tG τ)) ++ (QW cI cQ w29 a29 (tG (xPass τ 1)))))))) := va_Dp hD hp9
          refine h_call0 (vx_runV (As := [.int (iI (τ 4 k)), .int (iI (1))]) (rest := [.int (iI (yF τ)), .int (iI (0)), .int (iI (τ 5 k)), .int (iI (0))]) S ((kX1_sort l hfl D cI cZ d (xPass τ 1) κ (τ 4 k) 1 pw (by first | assumption | omega) (by first | assumption | omega) (by first | assumption | omega) (by first | assumption | omega)) H.size) (cwV 2 hts gL_law_X1_sort rfl rfl rfl (by decide +kernel) ⟨Nat.le_of_ble_eq_true rfl, Nat.le_of_ble_eq_true rfl⟩) (h_preV hK [0, 1] rfl hPc hDc hS hA hTE (q0 := 0) (ci := 1) rfl rfl rfl) rfl rfl hl.1 rfl (lv_room (Nat.le_of_ble_eq_true rfl)) dL_law_1058 ⟨by show cells + 1 ≤ 600104; omega, by show slots + 6 ≤ 7301314; omega⟩) hPc hDc hS hA (fun E h => (by have h0 : (tSort (τ 4 k) 1) = 0 := (by unfold tSort; rw [if_neg (by omega)]); rcases h with ⟨_, h⟩ <;> omega)) (fun κ9 H locs hk hP hD hS => ?_)
          obtain ⟨z1, ezz1⟩ : ∃ z, z = κ9 := ⟨_, rfl⟩
          subst ezz1
          have hP : va_P D vwCl ((XW cI cZ d (xPass τ 1) z1) ++ ([(w4, aI cI 4 cst)] ++ ((SW cI cT cU ds (xPass τ 1) ι) ++ (Wy ++ ((QW cI cQ w17 a17 (tG τ)) ++ (QW cI cQ w29 a29 (tG (xPass τ 1)))))))) H := hP
          have hD : va_D A ((XW cI cZ d (xPass τ 1) z1) ++ ([(w4, aI cI 4 cst)] ++ ((SW cI cT cU ds (xPass τ 1) ι) ++ (Wy ++ ((QW cI cQ w17 a17 (tG τ)) ++ (QW cI cQ w29 a29 (tG (xPass τ 1)))))))) := hD
          have hp9 : ([(w4, aI cI 4 cst)] ++ ((XW cI cZ d (xPass τ 1) z1) ++ ((SW cI cT cU ds (xPass τ 1) ι) ++ (Wy ++ ((QW cI cQ w17 a17 (tG τ)) ++ (QW cI cQ w29 a29 (tG (xPass τ 1))))))) : va_W).Perm ((XW cI cZ d (xPass τ 1) z1) ++ ([(w4, aI cI 4 cst)] ++ ((SW cI cT cU ds (xPass τ 1) ι) ++ (Wy ++ ((QW cI cQ w17 a17 (tG τ)) ++ (QW cI cQ w29 a29 (tG (xPass τ 1))))))) : va_W) := (List.perm_append_comm_assoc _ _ _)
          have hP : va_P D vwCl ([(w4, aI cI 4 cst)] ++ ((XW cI cZ d (xPass τ 1) z1) ++ ((SW cI cT cU ds (xPass τ 1) ι) ++ (Wy ++ ((QW cI cQ w17 a17 (tG τ)) ++ (QW cI cQ w29 a29 (tG (xPass τ 1)))))))) H := va_mem hP (fun q9 hq9 => hp9.mem_iff.mp hq9)
          have hD : va_D A ([(w4, aI cI 4 cst)] ++ ((XW cI cZ d (xPass τ 1) z1) ++ ((SW cI cT cU ds (xPass τ 1) ι) ++ (Wy ++ ((QW cI cQ w17 a17 (tG τ)) ++ (QW cI cQ w29 a29 (tG (xPass τ 1)))))))) := va_Dp hD hp9
          show W p l e room_1 s m args below meth c H locs (cells + 1) (slots + 6) Q (F0 m 1061 ls [.int (iI (xSort (xPass τ 1) (τ 4 k) 1)), .int (iI (yF τ)), .int (iI (0)), .int (iI (τ 5 k)), .int (iI (0))])
          rw [show (xSort (xPass τ 1) (τ 4 k) 1 : Int) = (τ 1 (τ 4 k)) from by show xPass τ 1 1 (τ 4 k) = _; rw [q1]]
          refine gi_sub hx hb dL_law_1061 ?_
          refine gi_max hx hb (hml.trans hl.1.symm) hown (hts _ (List.mem_of_getElem? (i := 5) rfl)) (hts _ (List.mem_of_getElem? (i := 6) rfl)) (hts _ (List.mem_of_getElem? (i := 7) rfl)) (hts _ (List.mem_of_getElem? (i := 8) rfl)) (Nat.le_of_ble_eq_true rfl) (Nat.le_of_ble_eq_true rfl) (by show (cells + 1) ≤ 600104; omega) (by show (slots + 6) ≤ 7301314; omega) ⟨by decide, by decide⟩ ⟨by omega, by omega⟩ dL_law_1062 ?_
          refine gi_sub hx hb dL_law_1065 ?_
          refine gi_max hx hb (hml.trans hl.1.symm) hown (hts _ (List.mem_of_getElem? (i := 5) rfl)) (hts _ (List.mem_of_getElem? (i := 6) rfl)) (hts _ (List.mem_of_getElem? (i := 7) rfl)) (hts _ (List.mem_of_getElem? (i := 8) rfl)) (Nat.le_of_ble_eq_true rfl) (Nat.le_of_ble_eq_true rfl) (by show (cells + 1) ≤ 600104; omega) (by show (slots + 6) ≤ 7301314; omega) ⟨by decide, by decide⟩ ⟨by omega, by omega⟩ dL_law_1066 ?_
          refine lv_istore (lv' := [(33, .int (iI (max 0 ((τ 5 k) - (max 0 ((yF τ) - (τ 1 (τ 4 k)))))))), (32, .int (iI (k))), (31, .int (iI (su))), (30, .int (iI (al))), (29, .ref (w29)), (27, .int (iI (yF τ))), (24, .int (iI (fb))), (23, .int (iI (fa))), (17, .ref (w17)), (5, .int (iI (x))), (4, .int (iI (t))), (3, .ref (w4)), (2, .ref (ds 0)), (1, .ref (d 0)), (0, .ref (b))]) hx hb dL_law_1069 hl (by decide) rfl (fun ls hl => ?_)
          have hl : lv_has ls 35 [(33, .int (iI (yK τ k))), (32, .int (iI (k))), (31, .int (iI (su))), (30, .int (iI (al))), (29, .ref (w29)), (27, .int (iI (yF τ))), (24, .int (iI (fb))), (23, .int (iI (fa))), (17, .ref (w17)), (5, .int (iI (x))), (4, .int (iI (t))), (3, .ref (w4)), (2, .ref (ds 0)), (1, .ref (d 0)), (0, .ref (b))] := hl
          refine lv_aload hx hb dL_law_1071 (lv_at hl 8 rfl) ?_
          refine lv_iload hx hb dL_law_1073 (lv_at hl 1 rfl) ?_
          refine s_row (f := tgr a17) hx hb hK (g_left (g_right (g_right (g_right (g_right hP))))) 0 4 rfl rfl (by omega) (by omega) (by decide) (v := a17 k.toNat) (if_pos (by omega)) dL_law_1075 ?_
          refine lv_iconst (v := iI (4)) hx hb dL_law_1076 rfl ?_
          refine gi_iald (a := (a17 k.toNat)) (n := 5) (f := (tG τ) k.toNat) hx hb hK (g_left (g_right (g_right (g_right (g_right hP))))) (k.toNat + 1) 0 (qw_at (by omega)) rfl (by omega) (by omega) (by decide) dL_law_1077 ?_
          rw [show (((tG τ) k.toNat) 4 : Int) = wD τ k from tG_4 (by omega)]
          refine lv_iconst (v := iI (1)) hx hb dL_law_1078 rfl ?_
          refine gi_icmp_ne (tgt := 1097) hx hb dL_law_1079 (by decide) ⟨by omega, by omega⟩ ⟨by decide, by decide⟩ (fun c1079 => ?_) (fun c1079 => ?_)
          · skip
            refine lv_iload hx hb dL_law_1097 (lv_at hl 0 rfl) ?_
            refine lv_aload hx hb dL_law_1099 (lv_at hl 8 rfl) ?_
            refine lv_iload hx hb dL_law_1101 (lv_at hl 1 rfl) ?_
            refine s_row (f := tgr a17) hx hb hK (g_left (g_right (g_right (g_right (g_right hP))))) 0 4 rfl rfl (by omega) (by omega) (by decide) (v := a17 k.toNat) (if_pos (by omega)) dL_law_1103 ?_
            refine lv_iconst (v := iI (2)) hx hb dL_law_1104 rfl ?_
            refine gi_iald (a := (a17 k.toNat)) (n := 5) (f := (tG τ) k.toNat) hx hb hK (g_left (g_right (g_right (g_right (g_right hP))))) (k.toNat + 1) 0 (qw_at (by omega)) rfl (by omega) (by omega) (by decide) dL_law_1105 ?_
            rw [show (((tG τ) k.toNat) 2 : Int) = τ 6 k from tG_2 (by omega)]
            refine gi_mul hx hb dL_law_1106 ?_
            refine lv_istore (lv' := [(34, .int (iI ((yK τ k) * (τ 6 k)))), (33, .int (iI (yK τ k))), (32, .int (iI (k))), (31, .int (iI (su))), (30, .int (iI (al))), (29, .ref (w29)), (27, .int (iI (yF τ))), (24, .int (iI (fb))), (23, .int (iI (fa))), (17, .ref (w17)), (5, .int (iI (x))), (4, .int (iI (t))), (3, .ref (w4)), (2, .ref (ds 0)), (1, .ref (d 0)), (0, .ref (b))]) hx hb dL_law_1107 hl (by decide) rfl (fun ls hl => ?_)
            have e8 : ((yK τ k) * (τ 6 k) : Int) = yI τ k := by unfold yI apl; first | (rw [if_pos (wD_z (by omega))]; done) | (rw [if_neg (wD_o (by omega))]; done)
            rw [e8] at hl
            have hl : lv_has ls 35 [(34, .int (iI (yI τ k))), (33, .int (iI (yK τ k))), (32, .int (iI (k))), (31, .int (iI (su))), (30, .int (iI (al))), (29, .ref (w29)), (27, .int (iI (yF τ))), (24, .int (iI (fb))), (23, .int (iI (fa))), (17, .ref (w17)), (5, .int (iI (x))), (4, .int (iI (t))), (3, .ref (w4)), (2, .ref (ds 0)), (1, .ref (d 0)), (0, .ref (b))] := hl
            refine lv_iload hx hb dL_law_1109 (lv_at hl 3 rfl) ?_
            refine lv_iload hx hb dL_law_1111 (lv_at hl 0 rfl) ?_
            refine gi_add hx hb dL_law_1113 ?_
            refine lv_istore (lv' := [(31, .int (iI (su + (yI τ k)))), (34, .int (iI (yI τ k))), (33, .int (iI (yK τ k))), (32, .int (iI (k))), (30, .int (iI (al))), (29, .ref (w29)), (27, .int (iI (yF τ))), (24, .int (iI (fb))), (23, .int (iI (fa))), (17, .ref (w17)), (5, .int (iI (x))), (4, .int (iI (t))), (3, .ref (w4)), (2, .ref (ds 0)), (1, .ref (d 0)), (0, .ref (b))]) hx hb dL_law_1114 hl (by decide) rfl (fun ls hl => ?_)
            refine lv_iload hx hb dL_law_1116 (lv_at hl 4 rfl) ?_
            refine lv_aload hx hb dL_law_1118 (lv_at hl 5 rfl) ?_
            refine lv_iload hx hb dL_law_1120 (lv_at hl 3 rfl) ?_
            refine s_row (f := tgr a29) hx hb hK (g_right (g_right (g_right (g_right (g_right hP))))) 0 4 rfl rfl (by omega) (by omega) (by decide) (v := a29 k.toNat) (if_pos (by omega)) dL_law_1122 ?_
            refine lv_iconst (v := iI (1)) hx hb dL_law_1123 rfl ?_
            refine gi_iald (a := (a29 k.toNat)) (n := 5) (f := (tG (xPass τ 1)) k.toNat) hx hb hK (g_right (g_right (g_right (g_right (g_right hP))))) (k.toNat + 1) 0 (qw_at (by omega)) rfl (by omega) (by omega) (by decide) dL_law_1124 ?_
            rw [show (((tG (xPass τ 1)) k.toNat) 1 : Int) = (xPass τ 1) 5 k from tG_1 (by omega)]
            refine gi_add hx hb dL_law_1125 ?_
            refine lv_istore (lv' := [(30, .int (iI (al + ((xPass τ 1) 5 k)))), (31, .int (iI (su + (yI τ k)))), (34, .int (iI (yI τ k))), (33, .int (iI (yK τ k))), (32, .int (iI (k))), (29, .ref (w29)), (27, .int (iI (yF τ))), (24, .int (iI (fb))), (23, .int (iI (fa))), (17, .ref (w17)), (5, .int (iI (x))), (4, .int (iI (t))), (3, .ref (w4)), (2, .ref (ds 0)), (1, .ref (d 0)), (0, .ref (b))]) hx hb dL_law_1126 hl (by decide) rfl (fun ls hl => ?_)
            refine lv_aload hx hb dL_law_1128 (lv_at hl 5 rfl) ?_
            refine lv_iload hx hb dL_law_1130 (lv_at hl 4 rfl) ?_
            refine s_row (f := tgr a29) hx hb hK (g_right (g_right (g_right (g_right (g_right hP))))) 0 4 rfl rfl (by omega) (by omega) (by decide) (v := a29 k.toNat) (if_pos (by omega)) dL_law_1132 ?_
            refine lv_iconst (v := iI (4)) hx hb dL_law_1133 rfl ?_
            refine gi_iald (a := (a29 k.toNat)) (n := 5) (f := (tG (xPass τ 1)) k.toNat) hx hb hK (g_right (g_right (g_right (g_right (g_right hP))))) (k.toNat + 1) 0 (qw_at (by omega)) rfl (by omega) (by omega) (by decide) dL_law_1134 ?_
            rw [show (((tG (xPass τ 1)) k.toNat) 4 : Int) = wD (xPass τ 1) k from tG_4 (by omega)]
            refine lv_iload hx hb dL_law_1135 (lv_at hl 2 rfl) ?_
            refine lv_bipush (v := iI (20)) hx hb dL_law_1137 rfl ?_
            refine gi_icmp_lt (tgt := 1146) hx hb dL_law_1139 (by decide) ⟨by omega, by omega⟩ ⟨by decide, by decide⟩ (fun c1139 => ?_) (fun c1139 => ?_)
            · skip
              refine lv_iconst (v := iI (0)) hx hb dL_law_1146 rfl ?_
              refine gi_icmp_ne (tgt := 1185) hx hb dL_law_1147 (by decide) ⟨by omega, by omega⟩ ⟨by decide, by decide⟩ (fun c1147 => ?_) (fun c1147 => ?_)
              · skip
                exfalso
                omega
              · skip
                refine lv_aload hx hb dL_law_1150 (lv_at hl 5 rfl) ?_
                refine lv_iload hx hb dL_law_1152 (lv_at hl 4 rfl) ?_
                refine s_row (f := tgr a29) hx hb hK (g_right (g_right (g_right (g_right (g_right hP))))) 0 4 rfl rfl (by omega) (by omega) (by decide) (v := a29 k.toNat) (if_pos (by omega)) dL_law_1154 ?_
                refine lv_iconst (v := iI (1)) hx hb dL_law_1155 rfl ?_
                refine gi_iald (a := (a29 k.toNat)) (n := 5) (f := (tG (xPass τ 1)) k.toNat) hx hb hK (g_right (g_right (g_right (g_right (g_right hP))))) (k.toNat + 1) 0 (qw_at (by omega)) rfl (by omega) (by omega) (by decide) dL_law_1156 ?_
                rw [show (((tG (xPass τ 1)) k.toNat) 1 : Int) = (xPass τ 1) 5 k from tG_1 (by omega)]
                refine lv_bipush (v := iI (9)) hx hb dL_law_1157 rfl ?_
                refine lv_iload hx hb dL_law_1159 (lv_at hl 3 rfl) ?_
                refine lv_aload hx hb dL_law_1161 (lv_at hl 9 rfl) ?_
                refine lv_iload hx hb dL_law_1163 (lv_at hl 4 rfl) ?_
                refine s_row (f := tgr a17) hx hb hK (g_left (g_right (g_right (g_right (g_right hP))))) 0 4 rfl rfl (by omega) (by omega) (by decide) (v := a17 k.toNat) (if_pos (by omega)) dL_law_1165 ?_
                refine lv_iconst (v := iI (2)) hx hb dL_law_1166 rfl ?_
                refine gi_iald (a := (a17 k.toNat)) (n := 5) (f := (tG τ) k.toNat) hx hb hK (g_left (g_right (g_right (g_right (g_right hP))))) (k.toNat + 1) 0 (qw_at (by omega)) rfl (by omega) (by omega) (by decide) dL_law_1167 ?_
                rw [show (((tG τ) k.toNat) 2 : Int) = τ 6 k from tG_2 (by omega)]
                refine lv_bipush (v := iI (6)) hx hb dL_law_1168 rfl ?_
                refine gi_icmp_le (tgt := 1177) hx hb dL_law_1170 (by decide) ⟨by omega, by omega⟩ ⟨by decide, by decide⟩ (fun c1170 => ?_) (fun c1170 => ?_)
                · skip
                  refine lv_iconst (v := iI (1)) hx hb dL_law_1177 rfl ?_
                  refine gi_add hx hb dL_law_1178 ?_
                  refine gi_min hx hb (hml.trans hl.1.symm) hown (hts _ (List.mem_of_getElem? (i := 9) rfl)) (hts _ (List.mem_of_getElem? (i := 10) rfl)) (hts _ (List.mem_of_getElem? (i := 7) rfl)) (hts _ (List.mem_of_getElem? (i := 11) rfl)) (Nat.le_of_ble_eq_true rfl) (Nat.le_of_ble_eq_true rfl) (by show (cells + 1) ≤ 600104; omega) (by show (slots + 6) ≤ 7301314; omega) ⟨by decide, by decide⟩ ⟨by omega, by omega⟩ dL_law_1179 ?_
                  refine gi_icmp_eq (tgt := 1187) hx hb dL_law_1182 (by decide) ⟨by omega, by omega⟩ ⟨by omega, by omega⟩ (fun c1182 => ?_) (fun c1182 => ?_)
                  · skip
                    exact K z1 (su + (yI τ k)) (al + ((xPass τ 1) 5 k)) H locs (cells + 1) (slots + 6) ls (by first | (rw [ua]; done) | (rw [(fs_z c1032).1]; omega)) (by first | (rw [ub]; done) | (rw [(fs_z c1032).2]; omega)) (by omega) (by omega) hP hD hS (lv_sub hl [4, 1, 0, 5, 6, 7, 8, 9, 10, 11, 12, 13, 14, 15] rfl)
                  · skip
                    exfalso
                    omega
                · skip
                  refine lv_iconst (v := iI (2)) hx hb dL_law_1173 rfl ?_
                  refine lv_goto (tgt := 1178) hx hb dL_law_1174 (by decide) ?_
                  refine gi_add hx hb dL_law_1178 ?_
                  refine gi_min hx hb (hml.trans hl.1.symm) hown (hts _ (List.mem_of_getElem? (i := 9) rfl)) (hts _ (List.mem_of_getElem? (i := 10) rfl)) (hts _ (List.mem_of_getElem? (i := 7) rfl)) (hts _ (List.mem_of_getElem? (i := 11) rfl)) (Nat.le_of_ble_eq_true rfl) (Nat.le_of_ble_eq_true rfl) (by show (cells + 1) ≤ 600104; omega) (by show (slots + 6) ≤ 7301314; omega) ⟨by decide, by decide⟩ ⟨by omega, by omega⟩ dL_law_1179 ?_
                  refine gi_icmp_eq (tgt := 1187) hx hb dL_law_1182 (by decide) ⟨by omega, by omega⟩ ⟨by omega, by omega⟩ (fun c1182 => ?_) (fun c1182 => ?_)
                  · skip
                    exact K z1 (su + (yI τ k)) (al + ((xPass τ 1) 5 k)) H locs (cells + 1) (slots + 6) ls (by first | (rw [ua]; done) | (rw [(fs_z c1032).1]; omega)) (by first | (rw [ub]; done) | (rw [(fs_z c1032).2]; omega)) (by omega) (by omega) hP hD hS (lv_sub hl [4, 1, 0, 5, 6, 7, 8, 9, 10, 11, 12, 13, 14, 15] rfl)
                  · skip
                    exfalso
                    omega
            · skip
              refine lv_iconst (v := iI (1)) hx hb dL_law_1142 rfl ?_
              refine lv_goto (tgt := 1147) hx hb dL_law_1143 (by decide) ?_
              refine gi_icmp_ne (tgt := 1185) hx hb dL_law_1147 (by decide) ⟨by omega, by omega⟩ ⟨by decide, by decide⟩ (fun c1147 => ?_) (fun c1147 => ?_)
              · skip
                exfalso
                omega
              · skip
                refine lv_aload hx hb dL_law_1150 (lv_at hl 5 rfl) ?_
                refine lv_iload hx hb dL_law_1152 (lv_at hl 4 rfl) ?_
                refine s_row (f := tgr a29) hx hb hK (g_right (g_right (g_right (g_right (g_right hP))))) 0 4 rfl rfl (by omega) (by omega) (by decide) (v := a29 k.toNat) (if_pos (by omega)) dL_law_1154 ?_
                refine lv_iconst (v := iI (1)) hx hb dL_law_1155 rfl ?_
                refine gi_iald (a := (a29 k.toNat)) (n := 5) (f := (tG (xPass τ 1)) k.toNat) hx hb hK (g_right (g_right (g_right (g_right (g_right hP))))) (k.toNat + 1) 0 (qw_at (by omega)) rfl (by omega) (by omega) (by decide) dL_law_1156 ?_
                rw [show (((tG (xPass τ 1)) k.toNat) 1 : Int) = (xPass τ 1) 5 k from tG_1 (by omega)]
                refine lv_bipush (v := iI (9)) hx hb dL_law_1157 rfl ?_
                refine lv_iload hx hb dL_law_1159 (lv_at hl 3 rfl) ?_
                refine lv_aload hx hb dL_law_1161 (lv_at hl 9 rfl) ?_
                refine lv_iload hx hb dL_law_1163 (lv_at hl 4 rfl) ?_
                refine s_row (f := tgr a17) hx hb hK (g_left (g_right (g_right (g_right (g_right hP))))) 0 4 rfl rfl (by omega) (by omega) (by decide) (v := a17 k.toNat) (if_pos (by omega)) dL_law_1165 ?_
                refine lv_iconst (v := iI (2)) hx hb dL_law_1166 rfl ?_
                refine gi_iald (a := (a17 k.toNat)) (n := 5) (f := (tG τ) k.toNat) hx hb hK (g_left (g_right (g_right (g_right (g_right hP))))) (k.toNat + 1) 0 (qw_at (by omega)) rfl (by omega) (by omega) (by decide) dL_law_1167 ?_
                rw [show (((tG τ) k.toNat) 2 : Int) = τ 6 k from tG_2 (by omega)]
                refine lv_bipush (v := iI (6)) hx hb dL_law_1168 rfl ?_
                refine gi_icmp_le (tgt := 1177) hx hb dL_law_1170 (by decide) ⟨by omega, by omega⟩ ⟨by decide, by decide⟩ (fun c1170 => ?_) (fun c1170 => ?_)
                · skip
                  refine lv_iconst (v := iI (1)) hx hb dL_law_1177 rfl ?_
                  refine gi_add hx hb dL_law_1178 ?_
                  refine gi_min hx hb (hml.trans hl.1.symm) hown (hts _ (List.mem_of_getElem? (i := 9) rfl)) (hts _ (List.mem_of_getElem? (i := 10) rfl)) (hts _ (List.mem_of_getElem? (i := 7) rfl)) (hts _ (List.mem_of_getElem? (i := 11) rfl)) (Nat.le_of_ble_eq_true rfl) (Nat.le_of_ble_eq_true rfl) (by show (cells + 1) ≤ 600104; omega) (by show (slots + 6) ≤ 7301314; omega) ⟨by decide, by decide⟩ ⟨by omega, by omega⟩ dL_law_1179 ?_
                  refine gi_icmp_eq (tgt := 1187) hx hb dL_law_1182 (by decide) ⟨by omega, by omega⟩ ⟨by omega, by omega⟩ (fun c1182 => ?_) (fun c1182 => ?_)
                  · skip
                    exact K z1 (su + (yI τ k)) (al + ((xPass τ 1) 5 k)) H locs (cells + 1) (slots + 6) ls (by first | (rw [ua]; done) | (rw [(fs_z c1032).1]; omega)) (by first | (rw [ub]; done) | (rw [(fs_z c1032).2]; omega)) (by omega) (by omega) hP hD hS (lv_sub hl [4, 1, 0, 5, 6, 7, 8, 9, 10, 11, 12, 13, 14, 15] rfl)
                  · skip
                    exfalso
                    omega
                · skip
                  refine lv_iconst (v := iI (2)) hx hb dL_law_1173 rfl ?_
                  refine lv_goto (tgt := 1178) hx hb dL_law_1174 (by decide) ?_
                  refine gi_add hx hb dL_law_1178 ?_
                  refine gi_min hx hb (hml.trans hl.1.symm) hown (hts _ (List.mem_of_getElem? (i := 9) rfl)) (hts _ (List.mem_of_getElem? (i := 10) rfl)) (hts _ (List.mem_of_getElem? (i := 7) rfl)) (hts _ (List.mem_of_getElem? (i := 11) rfl)) (Nat.le_of_ble_eq_true rfl) (Nat.le_of_ble_eq_true rfl) (by show (cells + 1) ≤ 600104; omega) (by show (slots + 6) ≤ 7301314; omega) ⟨by decide, by decide⟩ ⟨by omega, by omega⟩ dL_law_1179 ?_
                  refine gi_icmp_eq (tgt := 1187) hx hb dL_law_1182 (by decide) ⟨by omega, by omega⟩ ⟨by omega, by omega⟩ (fun c1182 => ?_) (fun c1182 => ?_)
                  · skip
                    exact K z1 (su + (yI τ k)) (al + ((xPass τ 1) 5 k)) H locs (cells + 1) (slots + 6) ls (by first | (rw [ua]; done) | (rw [(fs_z c1032).1]; omega)) (by first | (rw [ub]; done) | (rw [(fs_z c1032).2]; omega)) (by omega) (by omega) hP hD hS (lv_sub hl [4, 1, 0, 5, 6, 7, 8, 9, 10, 11, 12, 13, 14, 15] rfl)
                  · skip
                    exfalso
                    omega
          · skip
            refine lv_iload hx hb dL_law_1082 (lv_at hl 0 rfl) ?_
            refine lv_aload hx hb dL_law_1084 (lv_at hl 8 rfl) ?_
            refine lv_iload hx hb dL_law_1086 (lv_at hl 1 rfl) ?_
            refine s_row (f := tgr a17) hx hb hK (g_left (g_right (g_right (g_right (g_right hP))))) 0 4 rfl rfl (by omega) (by omega) (by decide) (v := a17 k.toNat) (if_pos (by omega)) dL_law_1088 ?_
            refine lv_iconst (v := iI (2)) hx hb dL_law_1089 rfl ?_
            refine gi_iald (a := (a17 k.toNat)) (n := 5) (f := (tG τ) k.toNat) hx hb hK (g_left (g_right (g_right (g_right (g_right hP))))) (k.toNat + 1) 0 (qw_at (by omega)) rfl (by omega) (by omega) (by decide) dL_law_1090 ?_
            rw [show (((tG τ) k.toNat) 2 : Int) = τ 6 k from tG_2 (by omega)]
            refine gi_mul hx hb dL_law_1091 ?_
            refine lv_iconst (v := iI (4)) hx hb dL_law_1092 rfl ?_
            refine gi_div hx hb ⟨by omega, by omega⟩ ⟨by omega, by omega⟩ dL_law_1093 ?_
            refine lv_goto (tgt := 1107) hx hb dL_law_1094 (by decide) ?_
            refine lv_istore (lv' := [(34, .int (iI (((yK τ k) * (τ 6 k)) / 4))), (33, .int (iI (yK τ k))), (32, .int (iI (k))), (31, .int (iI (su))), (30, .int (iI (al))), (29, .ref (w29)), (27, .int (iI (yF τ))), (24, .int (iI (fb))), (23, .int (iI (fa))), (17, .ref (w17)), (5, .int (iI (x))), (4, .int (iI (t))), (3, .ref (w4)), (2, .ref (ds 0)), (1, .ref (d 0)), (0, .ref (b))]) hx hb dL_law_1107 hl (by decide) rfl (fun ls hl => ?_)
            have e8 : (((yK τ k) * (τ 6 k)) / 4 : Int) = yI τ k := by unfold yI apl; first | (rw [if_pos (wD_z (by omega))]; done) | (rw [if_neg (wD_o (by omega))]; done)
            rw [e8] at hl
            have hl : lv_has ls 35 [(34, .int (iI (yI τ k))), (33, .int (iI (yK τ k))), (32, .int (iI (k))), (31, .int (iI (su))), (30, .int (iI (al))), (29, .ref (w29)), (27, .int (iI (yF τ))), (24, .int (iI (fb))), (23, .int (iI (fa))), (17, .ref (w17)), (5, .int (iI (x))), (4, .int (iI (t))), (3, .ref (w4)), (2, .ref (ds 0)), (1, .ref (d 0)), (0, .ref (b))] := hl
            refine lv_iload hx hb dL_law_1109 (lv_at hl 3 rfl) ?_
            refine lv_iload hx hb dL_law_1111 (lv_at hl 0 rfl) ?_
            refine gi_add hx hb dL_law_1113 ?_
            refine lv_istore (lv' := [(31, .int (iI (su + (yI τ k)))), (34, .int (iI (yI τ k))), (33, .int (iI (yK τ k))), (32, .int (iI (k))), (30, .int (iI (al))), (29, .ref (w29)), (27, .int (iI (yF τ))), (24, .int (iI (fb))), (23, .int (iI (fa))), (17, .ref (w17)), (5, .int (iI (x))), (4, .int (iI (t))), (3, .ref (w4)), (2, .ref (ds 0)), (1, .ref (d 0)), (0, .ref (b))]) hx hb dL_law_1114 hl (by decide) rfl (fun ls hl => ?_)
            refine lv_iload hx hb dL_law_1116 (lv_at hl 4 rfl) ?_
            refine lv_aload hx hb dL_law_1118 (lv_at hl 5 rfl) ?_
            refine lv_iload hx hb dL_law_1120 (lv_at hl 3 rfl) ?_
            refine s_row (f := tgr a29) hx hb hK (g_right (g_right (g_right (g_right (g_right hP))))) 0 4 rfl rfl (by omega) (by omega) (by decide) (v := a29 k.toNat) (if_pos (by omega)) dL_law_1122 ?_
            refine lv_iconst (v := iI (1)) hx hb dL_law_1123 rfl ?_
            refine gi_iald (a := (a29 k.toNat)) (n := 5) (f := (tG (xPass τ 1)) k.toNat) hx hb hK (g_right (g_right (g_right (g_right (g_right hP))))) (k.toNat + 1) 0 (qw_at (by omega)) rfl (by omega) (by omega) (by decide) dL_law_1124 ?_
            rw [show (((tG (xPass τ 1)) k.toNat) 1 : Int) = (xPass τ 1) 5 k from tG_1 (by omega)]
            refine gi_add hx hb dL_law_1125 ?_
            refine lv_istore (lv' := [(30, .int (iI (al + ((xPass τ 1) 5 k)))), (31, .int (iI (su + (yI τ k)))), (34, .int (iI (yI τ k))), (33, .int (iI (yK τ k))), (32, .int (iI (k))), (29, .ref (w29)), (27, .int (iI (yF τ))), (24, .int (iI (fb))), (23, .int (iI (fa))), (17, .ref (w17)), (5, .int (iI (x))), (4, .int (iI (t))), (3, .ref (w4)), (2, .ref (ds 0)), (1, .ref (d 0)), (0, .ref (b))]) hx hb dL_law_1126 hl (by decide) rfl (fun ls hl => ?_)
            refine lv_aload hx hb dL_law_1128 (lv_at hl 5 rfl) ?_
            refine lv_iload hx hb dL_law_1130 (lv_at hl 4 rfl) ?_
            refine s_row (f := tgr a29) hx hb hK (g_right (g_right (g_right (g_right (g_right hP))))) 0 4 rfl rfl (by omega) (by omega) (by decide) (v := a29 k.toNat) (if_pos (by omega)) dL_law_1132 ?_
            refine lv_iconst (v := iI (4)) hx hb dL_law_1133 rfl ?_
            refine gi_iald (a := (a29 k.toNat)) (n := 5) (f := (tG (xPass τ 1)) k.toNat) hx hb hK (g_right (g_right (g_right (g_right (g_right hP))))) (k.toNat + 1) 0 (qw_at (by omega)) rfl (by omega) (by omega) (by decide) dL_law_1134 ?_
            rw [show (((tG (xPass τ 1)) k.toNat) 4 : Int) = wD (xPass τ 1) k from tG_4 (by omega)]
            refine lv_iload hx hb dL_law_1135 (lv_at hl 2 rfl) ?_
            refine lv_bipush (v := iI (20)) hx hb dL_law_1137 rfl ?_
            refine gi_icmp_lt (tgt := 1146) hx hb dL_law_1139 (by decide) ⟨by omega, by omega⟩ ⟨by decide, by decide⟩ (fun c1139 => ?_) (fun c1139 => ?_)
            · skip
              refine lv_iconst (v := iI (0)) hx hb dL_law_1146 rfl ?_
              refine gi_icmp_ne (tgt := 1185) hx hb dL_law_1147 (by decide) ⟨by omega, by omega⟩ ⟨by decide, by decide⟩ (fun c1147 => ?_) (fun c1147 => ?_)
              · skip
                exfalso
                omega
              · skip
                refine lv_aload hx hb dL_law_1150 (lv_at hl 5 rfl) ?_
                refine lv_iload hx hb dL_law_1152 (lv_at hl 4 rfl) ?_
                refine s_row (f := tgr a29) hx hb hK (g_right (g_right (g_right (g_right (g_right hP))))) 0 4 rfl rfl (by omega) (by omega) (by decide) (v := a29 k.toNat) (if_pos (by omega)) dL_law_1154 ?_
                refine lv_iconst (v := iI (1)) hx hb dL_law_1155 rfl ?_
                refine gi_iald (a := (a29 k.toNat)) (n := 5) (f := (tG (xPass τ 1)) k.toNat) hx hb hK (g_right (g_right (g_right (g_right (g_right hP))))) (k.toNat + 1) 0 (qw_at (by omega)) rfl (by omega) (by omega) (by decide) dL_law_1156 ?_
                rw [show (((tG (xPass τ 1)) k.toNat) 1 : Int) = (xPass τ 1) 5 k from tG_1 (by omega)]
                refine lv_bipush (v := iI (9)) hx hb dL_law_1157 rfl ?_
                refine lv_iload hx hb dL_law_1159 (lv_at hl 3 rfl) ?_
                refine lv_aload hx hb dL_law_1161 (lv_at hl 9 rfl) ?_
                refine lv_iload hx hb dL_law_1163 (lv_at hl 4 rfl) ?_
                refine s_row (f := tgr a17) hx hb hK (g_left (g_right (g_right (g_right (g_right hP))))) 0 4 rfl rfl (by omega) (by omega) (by decide) (v := a17 k.toNat) (if_pos (by omega)) dL_law_1165 ?_
                refine lv_iconst (v := iI (2)) hx hb dL_law_1166 rfl ?_
                refine gi_iald (a := (a17 k.toNat)) (n := 5) (f := (tG τ) k.toNat) hx hb hK (g_left (g_right (g_right (g_right (g_right hP))))) (k.toNat + 1) 0 (qw_at (by omega)) rfl (by omega) (by omega) (by decide) dL_law_1167 ?_
                rw [show (((tG τ) k.toNat) 2 : Int) = τ 6 k from tG_2 (by omega)]
                refine lv_bipush (v := iI (6)) hx hb dL_law_1168 rfl ?_
                refine gi_icmp_le (tgt := 1177) hx hb dL_law_1170 (by decide) ⟨by omega, by omega⟩ ⟨by decide, by decide⟩ (fun c1170 => ?_) (fun c1170 => ?_)
                · skip
                  refine lv_iconst (v := iI (1)) hx hb dL_law_1177 rfl ?_
                  refine gi_add hx hb dL_law_1178 ?_
                  refine gi_min hx hb (hml.trans hl.1.symm) hown (hts _ (List.mem_of_getElem? (i := 9) rfl)) (hts _ (List.mem_of_getElem? (i := 10) rfl)) (hts _ (List.mem_of_getElem? (i := 7) rfl)) (hts _ (List.mem_of_getElem? (i := 11) rfl)) (Nat.le_of_ble_eq_true rfl) (Nat.le_of_ble_eq_true rfl) (by show (cells + 1) ≤ 600104; omega) (by show (slots + 6) ≤ 7301314; omega) ⟨by decide, by decide⟩ ⟨by omega, by omega⟩ dL_law_1179 ?_
                  refine gi_icmp_eq (tgt := 1187) hx hb dL_law_1182 (by decide) ⟨by omega, by omega⟩ ⟨by omega, by omega⟩ (fun c1182 => ?_) (fun c1182 => ?_)
                  · skip
                    exact K z1 (su + (yI τ k)) (al + ((xPass τ 1) 5 k)) H locs (cells + 1) (slots + 6) ls (by first | (rw [ua]; done) | (rw [(fs_z c1032).1]; omega)) (by first | (rw [ub]; done) | (rw [(fs_z c1032).2]; omega)) (by omega) (by omega) hP hD hS (lv_sub hl [4, 1, 0, 5, 6, 7, 8, 9, 10, 11, 12, 13, 14, 15] rfl)
                  · skip
                    exfalso
                    omega
                · skip
                  refine lv_iconst (v := iI (2)) hx hb dL_law_1173 rfl ?_
                  refine lv_goto (tgt := 1178) hx hb dL_law_1174 (by decide) ?_
                  refine gi_add hx hb dL_law_1178 ?_
                  refine gi_min hx hb (hml.trans hl.1.symm) hown (hts _ (List.mem_of_getElem? (i := 9) rfl)) (hts _ (List.mem_of_getElem? (i := 10) rfl)) (hts _ (List.mem_of_getElem? (i := 7) rfl)) (hts _ (List.mem_of_getElem? (i := 11) rfl)) (Nat.le_of_ble_eq_true rfl) (Nat.le_of_ble_eq_true rfl) (by show (cells + 1) ≤ 600104; omega) (by show (slots + 6) ≤ 7301314; omega) ⟨by decide, by decide⟩ ⟨by omega, by omega⟩ dL_law_1179 ?_
                  refine gi_icmp_eq (tgt := 1187) hx hb dL_law_1182 (by decide) ⟨by omega, by omega⟩ ⟨by omega, by omega⟩ (fun c1182 => ?_) (fun c1182 => ?_)
                  · skip
                    exact K z1 (su + (yI τ k)) (al + ((xPass τ 1) 5 k)) H locs (cells + 1) (slots + 6) ls (by first | (rw [ua]; done) | (rw [(fs_z c1032).1]; omega)) (by first | (rw [ub]; done) | (rw [(fs_z c1032).2]; omega)) (by omega) (by omega) hP hD hS (lv_sub hl [4, 1, 0, 5, 6, 7, 8, 9, 10, 11, 12, 13, 14, 15] rfl)
                  · skip
                    exfalso
                    omega
            · skip
              refine lv_iconst (v := iI (1)) hx hb dL_law_1142 rfl ?_
              refine lv_goto (tgt := 1147) hx hb dL_law_1143 (by decide) ?_
              refine gi_icmp_ne (tgt := 1185) hx hb dL_law_1147 (by decide) ⟨by omega, by omega⟩ ⟨by decide, by decide⟩ (fun c1147 => ?_) (fun c1147 => ?_)
              · skip
                exfalso
                omega
              · skip
                refine lv_aload hx hb dL_law_1150 (lv_at hl 5 rfl) ?_
                refine lv_iload hx hb dL_law_1152 (lv_at hl 4 rfl) ?_
                refine s_row (f := tgr a29) hx hb hK (g_right (g_right (g_right (g_right (g_right hP))))) 0 4 rfl rfl (by omega) (by omega) (by decide) (v := a29 k.toNat) (if_pos (by omega)) dL_law_1154 ?_
                refine lv_iconst (v := iI (1)) hx hb dL_law_1155 rfl ?_
                refine gi_iald (a := (a29 k.toNat)) (n := 5) (f := (tG (xPass τ 1)) k.toNat) hx hb hK (g_right (g_right (g_right (g_right (g_right hP))))) (k.toNat + 1) 0 (qw_at (by omega)) rfl (by omega) (by omega) (by decide) dL_law_1156 ?_
                rw [show (((tG (xPass τ 1)) k.toNat) 1 : Int) = (xPass τ 1) 5 k from tG_1 (by omega)]
                refine lv_bipush (v := iI (9)) hx hb dL_law_1157 rfl ?_
                refine lv_iload hx hb dL_law_1159 (lv_at hl 3 rfl) ?_
                refine lv_aload hx hb dL_law_1161 (lv_at hl 9 rfl) ?_
                refine lv_iload hx hb dL_law_1163 (lv_at hl 4 rfl) ?_
                refine s_row (f := tgr a17) hx hb hK (g_left (g_right (g_right (g_right (g_right hP))))) 0 4 rfl rfl (by omega) (by omega) (by decide) (v := a17 k.toNat) (if_pos (by omega)) dL_law_1165 ?_
                refine lv_iconst (v := iI (2)) hx hb dL_law_1166 rfl ?_
                refine gi_iald (a := (a17 k.toNat)) (n := 5) (f := (tG τ) k.toNat) hx hb hK (g_left (g_right (g_right (g_right (g_right hP))))) (k.toNat + 1) 0 (qw_at (by omega)) rfl (by omega) (by omega) (by decide) dL_law_1167 ?_
                rw [show (((tG τ) k.toNat) 2 : Int) = τ 6 k from tG_2 (by omega)]
                refine lv_bipush (v := iI (6)) hx hb dL_law_1168 rfl ?_
                refine gi_icmp_le (tgt := 1177) hx hb dL_law_1170 (by decide) ⟨by omega, by omega⟩ ⟨by decide, by decide⟩ (fun c1170 => ?_) (fun c1170 => ?_)
                · skip
                  refine lv_iconst (v := iI (1)) hx hb dL_law_1177 rfl ?_
                  refine gi_add hx hb dL_law_1178 ?_
                  refine gi_min hx hb (hml.trans hl.1.symm) hown (hts _ (List.mem_of_getElem? (i := 9) rfl)) (hts _ (List.mem_of_getElem? (i := 10) rfl)) (hts _ (List.mem_of_getElem? (i := 7) rfl)) (hts _ (List.mem_of_getElem? (i := 11) rfl)) (Nat.le_of_ble_eq_true rfl) (Nat.le_of_ble_eq_true rfl) (by show (cells + 1) ≤ 600104; omega) (by show (slots + 6) ≤ 7301314; omega) ⟨by decide, by decide⟩ ⟨by omega, by omega⟩ dL_law_1179 ?_
                  refine gi_icmp_eq (tgt := 1187) hx hb dL_law_1182 (by decide) ⟨by omega, by omega⟩ ⟨by omega, by omega⟩ (fun c1182 => ?_) (fun c1182 => ?_)
                  · skip
                    exact K z1 (su + (yI τ k)) (al + ((xPass τ 1) 5 k)) H locs (cells + 1) (slots + 6) ls (by first | (rw [ua]; done) | (rw [(fs_z c1032).1]; omega)) (by first | (rw [ub]; done) | (rw [(fs_z c1032).2]; omega)) (by omega) (by omega) hP hD hS (lv_sub hl [4, 1, 0, 5, 6, 7, 8, 9, 10, 11, 12, 13, 14, 15] rfl)
                  · skip
                    exfalso
                    omega
                · skip
                  refine lv_iconst (v := iI (2)) hx hb dL_law_1173 rfl ?_
                  refine lv_goto (tgt := 1178) hx hb dL_law_1174 (by decide) ?_
                  refine gi_add hx hb dL_law_1178 ?_
                  refine gi_min hx hb (hml.trans hl.1.symm) hown (hts _ (List.mem_of_getElem? (i := 9) rfl)) (hts _ (List.mem_of_getElem? (i := 10) rfl)) (hts _ (List.mem_of_getElem? (i := 7) rfl)) (hts _ (List.mem_of_getElem? (i := 11) rfl)) (Nat.le_of_ble_eq_true rfl) (Nat.le_of_ble_eq_true rfl) (by show (cells + 1) ≤ 600104; omega) (by show (slots + 6) ≤ 7301314; omega) ⟨by decide, by decide⟩ ⟨by omega, by omega⟩ dL_law_1179 ?_
                  refine gi_icmp_eq (tgt := 1187) hx hb dL_law_1182 (by decide) ⟨by omega, by omega⟩ ⟨by omega, by omega⟩ (fun c1182 => ?_) (fun c1182 => ?_)
                  · skip
                    exact K z1 (su + (yI τ k)) (al + ((xPass τ 1) 5 k)) H locs (cells + 1) (slots + 6) ls (by first | (rw [ua]; done) | (rw [(fs_z c1032).1]; omega)) (by first | (rw [ub]; done) | (rw [(fs_z c1032).2]; omega)) (by omega) (by omega) hP hD hS (lv_sub hl [4, 1, 0, 5, 6, 7, 8, 9, 10, 11, 12, 13, 14, 15] rfl)
                  · skip
                    exfalso
                    omega
        · skip
          refine lv_goto (tgt := 1187) hx hb dL_law_1035 (by decide) ?_
          exact K κ su al H locs cells slots ls (by first | (rw [ua]; done) | (rw [(fs_z c1032).1]; omega)) (by first | (rw [ub]; done) | (rw [(fs_z c1032).2]; omega)) (by omega) (by omega) hP hD hS (lv_sub hl [0, 1, 2, 3, 4, 5, 6, 7, 8, 9, 10, 11, 12, 13] rfl)
      · skip
        exfalso
        omega
set_option maxHeartbeats 4000000 in
set_option maxRecDepth 100000 in
theorem lq_sum {p : Program} {l : Launch} {e : Env} {s : State} {m : MethodId} {args : Array Value} {below : List Frame} {meth : Method} {c : Code} {H : Heap} {locs : List Loc} {cells slots : Nat} {Q : State → Prop} {ls : Array Slot} {D : va_G} {A : Nat → Prop} {cI cZ cT cU cQ : ClassId} {b L : Nat} {xs : Nat → Int32} {d ds : Nat → Nat} {σ κ : St} {ι : Int → Int} {w4 : Nat} {t : Int} {x : Int} {fa : Int} {fb : Int} {k : Int} {su : Int} {al : Int} {Wx : va_W} {w17 : Nat} {w29 : Nat} {τ : St} (G : lG p l s m c args A D cI cZ cT cU cQ b L xs) (h1 : su = fa) (h2 : al = fb) (r1 : inR fa) (r2 : inR fb) (hcc : cells + 0 ≤ 600104) (hss : slots + 0 ≤ 7301314) (hP : va_P D vwCl (Wx) H) (hD : va_D A (Wx)) (hS : va_S A s.heap H locs) (hl : lv_has ls 35 [(32, .int (iI (k))), (31, .int (iI (su))), (30, .int (iI (al))), (29, .ref (w29)), (27, .int (iI (yF τ))), (24, .int (iI (fb))), (23, .int (iI (fa))), (17, .ref (w17)), (5, .int (iI (x))), (4, .int (iI (t))), (3, .ref (w4)), (2, .ref (ds 0)), (1, .ref (d 0)), (0, .ref (b))]) (K : ∀ (H : Heap) (locs : List Loc) (cells1 slots1 : Nat) (ls : Array Slot), cells1 ≤ cells + 0 → slots1 ≤ slots + 0 → va_P D vwCl (Wx) H → va_D A (Wx) → va_S A s.heap H locs → lv_has ls 35 [(4, .int (iI (t))), (3, .ref (w4)), (2, .ref (ds 0)), (1, .ref (d 0)), (0, .ref (b))] → W p l e room_1 s m args below meth c H locs cells1 slots1 Q (F0 m 1209 ls [])) : W p l e room_1 s m args below meth c H locs cells slots Q (F0 m 1193 ls []) := by
  obtain ⟨S, hfl, hK, hA, hTE, hN, hX9, hL⟩ := id G
  have hE := hTE.1
  have S0 := S
  obtain ⟨hx, hb, hml, hown, hts⟩ := S0
  have hinX2 := inlX2
  refine lv_iload hx hb dL_law_1193 (lv_at hl 1 rfl) ?_
  refine lv_iload hx hb dL_law_1195 (lv_at hl 6 rfl) ?_
  refine gi_icmp_ne (tgt := 1207) hx hb dL_law_1197 (by decide) (h1 ▸ r1) r1 (fun c1197 => ?_) (fun c1197 => ?_)
  · skip
    exfalso
    omega
  · skip
    refine lv_iload hx hb dL_law_1200 (lv_at hl 2 rfl) ?_
    refine lv_iload hx hb dL_law_1202 (lv_at hl 5 rfl) ?_
    refine gi_icmp_eq (tgt := 1209) hx hb dL_law_1204 (by decide) (h2 ▸ r2) r2 (fun c1204 => ?_) (fun c1204 => ?_)
    · skip
      exact K  H locs cells slots ls  (by omega) (by omega) hP hD hS (lv_sub hl [9, 10, 11, 12, 13] rfl)
    · skip
      exfalso
      omega
