set_option maxHeartbeats 4000000 in
set_option maxRecDepth 100000 in
theorem lq_look {p : Program} {l : Launch} {e : Env} {s : State} {m : MethodId} {args : Array Value} {below : List Frame} {meth : Method} {c : Code} {H : Heap} {locs : List Loc} {cells slots : Nat} {Q : State → Prop} {ls : Array Slot} {D : va_G} {A : Nat → Prop} {cI cZ cT cU cQ : ClassId} {b L : Nat} {xs : Nat → Int32} {d ds : Nat → Nat} {σ κ : St} {ι : Int → Int} {w4 : Nat} {t : Int} (G : lG p l s m c args A D cI cZ cT cU cQ b L xs) (hwf : xWF σ) (ht : 0 ≤ t ∧ t < 28) (hcc : cells + 244 ≤ 600104) (hss : slots + 1458 ≤ 7301314) (hP : va_P D vwCl ([(w4, aI cI 4 cst)] ++ ((XW cI cZ d σ κ) ++ (SW cI cT cU ds σ ι))) H) (hD : va_D A ([(w4, aI cI 4 cst)] ++ ((XW cI cZ d σ κ) ++ (SW cI cT cU ds σ ι)))) (hS : va_S A s.heap H locs) (hl : lv_has ls 35 [(4, .int (iI (t))), (3, .ref (w4)), (2, .ref (ds 0)), (1, .ref (d 0)), (0, .ref (b))]) (K : ∀ (κ1 : St) (w6 : Nat) (a6 : Nat → Nat) (H : Heap) (locs : List Loc) (cells1 slots1 : Nat) (ls : Array Slot), cells1 ≤ cells + 244 → slots1 ≤ slots + 1458 → va_P D vwCl ([(w4, aI cI 4 cst)] ++ ((XW cI cZ d σ κ1) ++ ((SW cI cT cU ds σ ι) ++ (QW cI cQ w6 a6 (tG σ))))) H → va_D A ([(w4, aI cI 4 cst)] ++ ((XW cI cZ d σ κ1) ++ ((SW cI cT cU ds σ ι) ++ (QW cI cQ w6 a6 (tG σ))))) → va_S A s.heap H locs → lv_has ls 35 [(13, .int (iI (acH (lwX L xs t)))), (12, .int (iI (acP (lwX L xs t)))), (11, .int (iI (acR (lwX L xs t)))), (10, .int (iI (σ 9 1))), (9, .int (iI (xCount σ 5))), (8, .int (iI (xCount σ 2))), (7, .int (iI (xCount σ 1))), (6, .ref (w6)), (5, .int (iI (lwX L xs t))), (4, .int (iI (t))), (3, .ref (w4)), (2, .ref (ds 0)), (1, .ref (d 0)), (0, .ref (b))] → W p l e room_1 s m args below meth c H locs cells1 slots1 Q (F0 m 193 ls [.int (iI (wkF (lwX L xs t)))])) : W p l e room_1 s m args below meth c H locs cells slots Q (F0 m 51 ls []) := by
  obtain ⟨S, hfl, hK, hA, hTE, hN, hX9, hL⟩ := id G
  have hE := hTE.1
  have S0 := S
  obtain ⟨hx, hb, hml, hown, hts⟩ := S0
  have hinX2 := inlX2
  refine lv_aload_n hx hb dL_law_51 rfl (lv_at hl 4 rfl) ?_
  refine lv_iload hx hb dL_law_52 (lv_at hl 0 rfl) ?_
  refine lv_bipush (v := iI (16)) hx hb dL_law_54 rfl ?_
  refine gi_rem hx hb ⟨by omega, by omega⟩ ⟨by omega, by omega⟩ dL_law_56 ?_
  have hPc : va_P D vwCl ([(w4, aI cI 4 cst)] ++ ((XW cI cZ d σ κ) ++ (SW cI cT cU ds σ ι))) H := hP
  have hDc : va_D A ([(w4, aI cI 4 cst)] ++ ((XW cI cZ d σ κ) ++ (SW cI cT cU ds σ ι))) := hD
  have hPc : va_P D vwCl ([] ++ ([(w4, aI cI 4 cst)] ++ ((XW cI cZ d σ κ) ++ (SW cI cT cU ds σ ι)))) H := hPc
  have hDc : va_D A ([] ++ ([(w4, aI cI 4 cst)] ++ ((XW cI cZ d σ κ) ++ (SW cI cT cU ds σ ι)))) := hDc
  refine g_call (va_runS (As := [.ref (b), .int (iI (t % 16))]) (rest := []) S ((kL_cell l D cI cZ cT cU cQ b L xs hL (t % 16) (by first | assumption | omega)) H.size) (va_cwS 2 hts gL_law_L_cell rfl rfl rfl (by decide +kernel) ⟨Nat.le_of_ble_eq_true rfl, Nat.le_of_ble_eq_true rfl⟩) (g_preS (As := [.ref (b), .int (iI (t % 16))]) (sEx_g _ _ _ _) hK [0, 1, 2, 3, 4] rfl hPc hDc (fun U hU hW => sEx_w hX9 hS hU hW)) rfl rfl hl.1 rfl (lv_room (Nat.le_of_ble_eq_true rfl)) dL_law_57 ⟨by show cells + 0 ≤ 600104; omega, by show slots + 0 ≤ 7301314; omega⟩) hPc hDc hS hA (fun κ9 H locs hk hP hD hS => ?_)
  obtain ⟨z1, ezz1⟩ : ∃ z, z = κ9 := ⟨_, rfl⟩
  subst ezz1
  have hP : va_P D vwCl ([(w4, aI cI 4 cst)] ++ ((XW cI cZ d σ κ) ++ (SW cI cT cU ds σ ι))) H := hP
  have hD : va_D A ([(w4, aI cI 4 cst)] ++ ((XW cI cZ d σ κ) ++ (SW cI cT cU ds σ ι))) := hD
  show W p l e room_1 s m args below meth c H locs cells slots Q (F0 m 60 ls [.int (iI (cel L xs (t % 16)))])
  refine lv_iload hx hb dL_law_60 (lv_at hl 0 rfl) ?_
  refine lv_bipush (v := iI (16)) hx hb dL_law_62 rfl ?_
  refine gi_div hx hb ⟨by omega, by omega⟩ ⟨by omega, by omega⟩ dL_law_64 ?_
  refine lv_iconst (v := iI (3)) hx hb dL_law_65 rfl ?_
  refine gi_mul hx hb dL_law_66 ?_
  refine gi_shr hx hb dL_law_67 ?_
  refine lv_bipush (v := iI (73)) hx hb dL_law_68 rfl ?_
  refine lv_iload hx hb dL_law_70 (lv_at hl 0 rfl) ?_
  refine gi_mul hx hb dL_law_72 ?_
  refine gi_add hx hb dL_law_73 ?_
  refine lv_istore (lv' := [(5, .int (iI ((shr (cel L xs (t % 16)) ((t / 16) * 3)) + (73 * t)))), (4, .int (iI (t))), (3, .ref (w4)), (2, .ref (ds 0)), (1, .ref (d 0)), (0, .ref (b))]) hx hb dL_law_74 hl (by decide) rfl (fun ls hl => ?_)
  have hl : lv_has ls 35 [(5, .int (iI (lwX L xs t))), (4, .int (iI (t))), (3, .ref (w4)), (2, .ref (ds 0)), (1, .ref (d 0)), (0, .ref (b))] := hl
  have kh := blw_in (shr (lwX L xs t) 7) (n := 8) (by decide)
  have k3 := blw_in (shr (lwX L xs t) 5) (n := 3) (by decide)
  refine lv_aload_n hx hb dL_law_76 rfl (lv_at hl 4 rfl) ?_
  have hp9 : ((XW cI cZ d σ κ) ++ ([(w4, aI cI 4 cst)] ++ (SW cI cT cU ds σ ι)) : va_W).Perm ([(w4, aI cI 4 cst)] ++ ((XW cI cZ d σ κ) ++ (SW cI cT cU ds σ ι)) : va_W) := (List.perm_append_comm_assoc _ _ _)
  have hPc : va_P D vwCl ((XW cI cZ d σ κ) ++ ([(w4, aI cI 4 cst)] ++ (SW cI cT cU ds σ ι))) H := va_mem hP (fun q9 hq9 => hp9.mem_iff.mp hq9)
  have hDc : va_D A ((XW cI cZ d σ κ) ++ ([(w4, aI cI 4 cst)] ++ (SW cI cT cU ds σ ι))) := va_Dp hD hp9
  refine g_call (va_runS (As := [.ref (d 0)]) (rest := []) S ((kL_trees l hfl D cI cZ cT cU cQ d σ κ (by first | assumption | omega)) H.size) (va_cwS 1 hts gL_law_L_trees rfl rfl rfl (by decide +kernel) ⟨Nat.le_of_ble_eq_true rfl, Nat.le_of_ble_eq_true rfl⟩) (g_preS (As := [.ref (d 0)]) (lEx_g _) hK [0, 1, 2, 3, 4] rfl hPc hDc (fun U hU hW => lEx_w hTE hN hDc hS hA hU hW)) rfl rfl hl.1 rfl (lv_room (Nat.le_of_ble_eq_true rfl)) dL_law_77 ⟨by show cells + 241 ≤ 600104; omega, by show slots + 1440 ≤ 7301314; omega⟩) hPc hDc hS hA (fun κ9 H locs hk hP hD hS => ?_)
  obtain ⟨z2, ezz2⟩ : ∃ z, z = κ9 := ⟨_, rfl⟩
  subst ezz2
  have hP : va_P D vwCl ((XW cI cZ d σ z2 ++ QW cI cQ (z2 2 0).toNat (fun i => (z2 3 i).toNat) (tG σ)) ++ ([(w4, aI cI 4 cst)] ++ (SW cI cT cU ds σ ι))) H := hP
  have hD : va_D A ((XW cI cZ d σ z2 ++ QW cI cQ (z2 2 0).toNat (fun i => (z2 3 i).toNat) (tG σ)) ++ ([(w4, aI cI 4 cst)] ++ (SW cI cT cU ds σ ι))) := hD
  generalize (z2 2 0).toNat = w77 at hP hD ⊢
  generalize (fun i : Nat => (z2 3 (i : Int)).toNat) = a77 at hP hD
  rw [List.append_assoc] at hP hD
  have hp9 : ([(w4, aI cI 4 cst)] ++ ((XW cI cZ d σ z2) ++ ((SW cI cT cU ds σ ι) ++ (QW cI cQ w77 a77 (tG σ)))) : va_W).Perm ((XW cI cZ d σ z2) ++ ((QW cI cQ w77 a77 (tG σ)) ++ ([(w4, aI cI 4 cst)] ++ (SW cI cT cU ds σ ι))) : va_W) := ((List.Perm.append_left _ (List.Perm.append_left _ List.perm_append_comm))).trans (((List.perm_append_comm_assoc _ _ _)).trans ((List.Perm.append_left _ (List.perm_append_comm_assoc _ _ _))))
  have hP : va_P D vwCl ([(w4, aI cI 4 cst)] ++ ((XW cI cZ d σ z2) ++ ((SW cI cT cU ds σ ι) ++ (QW cI cQ w77 a77 (tG σ))))) H := va_mem hP (fun q9 hq9 => hp9.mem_iff.mp hq9)
  have hD : va_D A ([(w4, aI cI 4 cst)] ++ ((XW cI cZ d σ z2) ++ ((SW cI cT cU ds σ ι) ++ (QW cI cQ w77 a77 (tG σ))))) := va_Dp hD hp9
  show W p l e room_1 s m args below meth c H locs (cells + 241) (slots + 1440) Q (F0 m 80 ls [.ref (w77)])
  refine lv_astore (lv' := [(6, .ref (w77)), (5, .int (iI (lwX L xs t))), (4, .int (iI (t))), (3, .ref (w4)), (2, .ref (ds 0)), (1, .ref (d 0)), (0, .ref (b))]) hx hb dL_law_80 hl (by decide) rfl (fun ls hl => ?_)
  refine lv_aload_n hx hb dL_law_82 rfl (lv_at hl 5 rfl) ?_
  refine lv_iconst (v := iI (1)) hx hb dL_law_83 rfl ?_
  have hp9 : ((XW cI cZ d σ z2) ++ ([(w4, aI cI 4 cst)] ++ ((SW cI cT cU ds σ ι) ++ (QW cI cQ w77 a77 (tG σ)))) : va_W).Perm ([(w4, aI cI 4 cst)] ++ ((XW cI cZ d σ z2) ++ ((SW cI cT cU ds σ ι) ++ (QW cI cQ w77 a77 (tG σ)))) : va_W) := (List.perm_append_comm_assoc _ _ _)
  have hPc : va_P D vwCl ((XW cI cZ d σ z2) ++ ([(w4, aI cI 4 cst)] ++ ((SW cI cT cU ds σ ι) ++ (QW cI cQ w77 a77 (tG σ))))) H := va_mem hP (fun q9 hq9 => hp9.mem_iff.mp hq9)
  have hDc : va_D A ((XW cI cZ d σ z2) ++ ([(w4, aI cI 4 cst)] ++ ((SW cI cT cU ds σ ι) ++ (QW cI cQ w77 a77 (tG σ))))) := va_Dp hD hp9
  refine h_call0 (vx_runV (As := [.int (iI (1))]) (rest := []) S ((kX1_count l hfl D cI cZ d σ z2 1 (by first | assumption | omega) (by first | assumption | omega) (by first | assumption | omega)) H.size) (cwV 1 hts gL_law_X1_count rfl rfl rfl (by decide +kernel) ⟨Nat.le_of_ble_eq_true rfl, Nat.le_of_ble_eq_true rfl⟩) (h_preV hK [0, 1] rfl hPc hDc hS hA hTE (q0 := 0) (ci := 1) rfl rfl rfl) rfl rfl hl.1 rfl (lv_room (Nat.le_of_ble_eq_true rfl)) dL_law_84 ⟨by show (cells + 241) + 1 ≤ 600104; omega, by show (slots + 1440) + 6 ≤ 7301314; omega⟩) hPc hDc hS hA (fun E h => (by have h0 : (tCount 1) = 0 := (by unfold tCount; rw [if_neg (by omega)]); rcases h with ⟨_, h⟩ <;> omega)) (fun κ9 H locs hk hP hD hS => ?_)
  obtain ⟨z3, ezz3⟩ : ∃ z, z = κ9 := ⟨_, rfl⟩
  subst ezz3
  have hP : va_P D vwCl ((XW cI cZ d σ z3) ++ ([(w4, aI cI 4 cst)] ++ ((SW cI cT cU ds σ ι) ++ (QW cI cQ w77 a77 (tG σ))))) H := hP
  have hD : va_D A ((XW cI cZ d σ z3) ++ ([(w4, aI cI 4 cst)] ++ ((SW cI cT cU ds σ ι) ++ (QW cI cQ w77 a77 (tG σ))))) := hD
  have hp9 : ([(w4, aI cI 4 cst)] ++ ((XW cI cZ d σ z3) ++ ((SW cI cT cU ds σ ι) ++ (QW cI cQ w77 a77 (tG σ)))) : va_W).Perm ((XW cI cZ d σ z3) ++ ([(w4, aI cI 4 cst)] ++ ((SW cI cT cU ds σ ι) ++ (QW cI cQ w77 a77 (tG σ)))) : va_W) := (List.perm_append_comm_assoc _ _ _)
  have hP : va_P D vwCl ([(w4, aI cI 4 cst)] ++ ((XW cI cZ d σ z3) ++ ((SW cI cT cU ds σ ι) ++ (QW cI cQ w77 a77 (tG σ))))) H := va_mem hP (fun q9 hq9 => hp9.mem_iff.mp hq9)
  have hD : va_D A ([(w4, aI cI 4 cst)] ++ ((XW cI cZ d σ z3) ++ ((SW cI cT cU ds σ ι) ++ (QW cI cQ w77 a77 (tG σ))))) := va_Dp hD hp9
  show W p l e room_1 s m args below meth c H locs (cells + 242) (slots + 1446) Q (F0 m 87 ls [.int (iI (xCount σ 1))])
  refine lv_istore (lv' := [(7, .int (iI (xCount σ 1))), (6, .ref (w77)), (5, .int (iI (lwX L xs t))), (4, .int (iI (t))), (3, .ref (w4)), (2, .ref (ds 0)), (1, .ref (d 0)), (0, .ref (b))]) hx hb dL_law_87 hl (by decide) rfl (fun ls hl => ?_)
  refine lv_aload_n hx hb dL_law_89 rfl (lv_at hl 6 rfl) ?_
  refine lv_iconst (v := iI (2)) hx hb dL_law_90 rfl ?_
  have hp9 : ((XW cI cZ d σ z3) ++ ([(w4, aI cI 4 cst)] ++ ((SW cI cT cU ds σ ι) ++ (QW cI cQ w77 a77 (tG σ)))) : va_W).Perm ([(w4, aI cI 4 cst)] ++ ((XW cI cZ d σ z3) ++ ((SW cI cT cU ds σ ι) ++ (QW cI cQ w77 a77 (tG σ)))) : va_W) := (List.perm_append_comm_assoc _ _ _)
  have hPc : va_P D vwCl ((XW cI cZ d σ z3) ++ ([(w4, aI cI 4 cst)] ++ ((SW cI cT cU ds σ ι) ++ (QW cI cQ w77 a77 (tG σ))))) H := va_mem hP (fun q9 hq9 => hp9.mem_iff.mp hq9)
  have hDc : va_D A ((XW cI cZ d σ z3) ++ ([(w4, aI cI 4 cst)] ++ ((SW cI cT cU ds σ ι) ++ (QW cI cQ w77 a77 (tG σ))))) := va_Dp hD hp9
  refine h_call0 (vx_runV (As := [.int (iI (2))]) (rest := []) S ((kX1_count l hfl D cI cZ d σ z3 2 (by first | assumption | omega) (by first | assumption | omega) (by first | assumption | omega)) H.size) (cwV 1 hts gL_law_X1_count rfl rfl rfl (by decide +kernel) ⟨Nat.le_of_ble_eq_true rfl, Nat.le_of_ble_eq_true rfl⟩) (h_preV hK [0, 1] rfl hPc hDc hS hA hTE (q0 := 0) (ci := 1) rfl rfl rfl) rfl rfl hl.1 rfl (lv_room (Nat.le_of_ble_eq_true rfl)) dL_law_91 ⟨by show (cells + 242) + 1 ≤ 600104; omega, by show (slots + 1446) + 6 ≤ 7301314; omega⟩) hPc hDc hS hA (fun E h => (by have h0 : (tCount 2) = 0 := (by unfold tCount; rw [if_neg (by omega)]); rcases h with ⟨_, h⟩ <;> omega)) (fun κ9 H locs hk hP hD hS => ?_)
  obtain ⟨z4, ezz4⟩ : ∃ z, z = κ9 := ⟨_, rfl⟩
  subst ezz4
  have hP : va_P D vwCl ((XW cI cZ d σ z4) ++ ([(w4, aI cI 4 cst)] ++ ((SW cI cT cU ds σ ι) ++ (QW cI cQ w77 a77 (tG σ))))) H := hP
  have hD : va_D A ((XW cI cZ d σ z4) ++ ([(w4, aI cI 4 cst)] ++ ((SW cI cT cU ds σ ι) ++ (QW cI cQ w77 a77 (tG σ))))) := hD
  have hp9 : ([(w4, aI cI 4 cst)] ++ ((XW cI cZ d σ z4) ++ ((SW cI cT cU ds σ ι) ++ (QW cI cQ w77 a77 (tG σ)))) : va_W).Perm ((XW cI cZ d σ z4) ++ ([(w4, aI cI 4 cst)] ++ ((SW cI cT cU ds σ ι) ++ (QW cI cQ w77 a77 (tG σ)))) : va_W) := (List.perm_append_comm_assoc _ _ _)
  have hP : va_P D vwCl ([(w4, aI cI 4 cst)] ++ ((XW cI cZ d σ z4) ++ ((SW cI cT cU ds σ ι) ++ (QW cI cQ w77 a77 (tG σ))))) H := va_mem hP (fun q9 hq9 => hp9.mem_iff.mp hq9)
  have hD : va_D A ([(w4, aI cI 4 cst)] ++ ((XW cI cZ d σ z4) ++ ((SW cI cT cU ds σ ι) ++ (QW cI cQ w77 a77 (tG σ))))) := va_Dp hD hp9
  show W p l e room_1 s m args below meth c H locs (cells + 243) (slots + 1452) Q (F0 m 94 ls [.int (iI (xCount σ 2))])
  refine lv_istore (lv' := [(8, .int (iI (xCount σ 2))), (7, .int (iI (xCount σ 1))), (6, .ref (w77)), (5, .int (iI (lwX L xs t))), (4, .int (iI (t))), (3, .ref (w4)), (2, .ref (ds 0)), (1, .ref (d 0)), (0, .ref (b))]) hx hb dL_law_94 hl (by decide) rfl (fun ls hl => ?_)
  refine lv_aload_n hx hb dL_law_96 rfl (lv_at hl 7 rfl) ?_
  refine lv_iconst (v := iI (5)) hx hb dL_law_97 rfl ?_
  have hp9 : ((XW cI cZ d σ z4) ++ ([(w4, aI cI 4 cst)] ++ ((SW cI cT cU ds σ ι) ++ (QW cI cQ w77 a77 (tG σ)))) : va_W).Perm ([(w4, aI cI 4 cst)] ++ ((XW cI cZ d σ z4) ++ ((SW cI cT cU ds σ ι) ++ (QW cI cQ w77 a77 (tG σ)))) : va_W) := (List.perm_append_comm_assoc _ _ _)
  have hPc : va_P D vwCl ((XW cI cZ d σ z4) ++ ([(w4, aI cI 4 cst)] ++ ((SW cI cT cU ds σ ι) ++ (QW cI cQ w77 a77 (tG σ))))) H := va_mem hP (fun q9 hq9 => hp9.mem_iff.mp hq9)
  have hDc : va_D A ((XW cI cZ d σ z4) ++ ([(w4, aI cI 4 cst)] ++ ((SW cI cT cU ds σ ι) ++ (QW cI cQ w77 a77 (tG σ))))) := va_Dp hD hp9
  refine h_call0 (vx_runV (As := [.int (iI (5))]) (rest := []) S ((kX1_count l hfl D cI cZ d σ z4 5 (by first | assumption | omega) (by first | assumption | omega) (by first | assumption | omega)) H.size) (cwV 1 hts gL_law_X1_count rfl rfl rfl (by decide +kernel) ⟨Nat.le_of_ble_eq_true rfl, Nat.le_of_ble_eq_true rfl⟩) (h_preV hK [0, 1] rfl hPc hDc hS hA hTE (q0 := 0) (ci := 1) rfl rfl rfl) rfl rfl hl.1 rfl (lv_room (Nat.le_of_ble_eq_true rfl)) dL_law_98 ⟨by show (cells + 243) + 1 ≤ 600104; omega, by show (slots + 1452) + 6 ≤ 7301314; omega⟩) hPc hDc hS hA (fun E h => (by have h0 : (tCount 5) = 0 := (by unfold tCount; rw [if_neg (by omega)]); rcases h with ⟨_, h⟩ <;> omega)) (fun κ9 H locs hk hP hD hS => ?_)
  obtain ⟨z5, ezz5⟩ : ∃ z, z = κ9 := ⟨_, rfl⟩
  subst ezz5
  have hP : va_P D vwCl ((XW cI cZ d σ z5) ++ ([(w4, aI cI 4 cst)] ++ ((SW cI cT cU ds σ ι) ++ (QW cI cQ w77 a77 (tG σ))))) H := hP
  have hD : va_D A ((XW cI cZ d σ z5) ++ ([(w4, aI cI 4 cst)] ++ ((SW cI cT cU ds σ ι) ++ (QW cI cQ w77 a77 (tG σ))))) := hD
  have hp9 : ([(w4, aI cI 4 cst)] ++ ((XW cI cZ d σ z5) ++ ((SW cI cT cU ds σ ι) ++ (QW cI cQ w77 a77 (tG σ)))) : va_W).Perm ((XW cI cZ d σ z5) ++ ([(w4, aI cI 4 cst)] ++ ((SW cI cT cU ds σ ι) ++ (QW cI cQ w77 a77 (tG σ)))) : va_W) := (List.perm_append_comm_assoc _ _ _)
  have hP : va_P D vwCl ([(w4, aI cI 4 cst)] ++ ((XW cI cZ d σ z5) ++ ((SW cI cT cU ds σ ι) ++ (QW cI cQ w77 a77 (tG σ))))) H := va_mem hP (fun q9 hq9 => hp9.mem_iff.mp hq9)
  have hD : va_D A ([(w4, aI cI 4 cst)] ++ ((XW cI cZ d σ z5) ++ ((SW cI cT cU ds σ ι) ++ (QW cI cQ w77 a77 (tG σ))))) := va_Dp hD hp9
  show W p l e room_1 s m args below meth c H locs (cells + 244) (slots + 1458) Q (F0 m 101 ls [.int (iI (xCount σ 5))])
  refine lv_istore (lv' := [(9, .int (iI (xCount σ 5))), (8, .int (iI (xCount σ 2))), (7, .int (iI (xCount σ 1))), (6, .ref (w77)), (5, .int (iI (lwX L xs t))), (4, .int (iI (t))), (3, .ref (w4)), (2, .ref (ds 0)), (1, .ref (d 0)), (0, .ref (b))]) hx hb dL_law_101 hl (by decide) rfl (fun ls hl => ?_)
  refine lv_aload_n hx hb dL_law_103 rfl (lv_at hl 8 rfl) ?_
  have hp9 : ((XW cI cZ d σ z5) ++ ([(w4, aI cI 4 cst)] ++ ((SW cI cT cU ds σ ι) ++ (QW cI cQ w77 a77 (tG σ)))) : va_W).Perm ([(w4, aI cI 4 cst)] ++ ((XW cI cZ d σ z5) ++ ((SW cI cT cU ds σ ι) ++ (QW cI cQ w77 a77 (tG σ)))) : va_W) := (List.perm_append_comm_assoc _ _ _)
  have hPc : va_P D vwCl ((XW cI cZ d σ z5) ++ ([(w4, aI cI 4 cst)] ++ ((SW cI cT cU ds σ ι) ++ (QW cI cQ w77 a77 (tG σ))))) H := va_mem hP (fun q9 hq9 => hp9.mem_iff.mp hq9)
  have hDc : va_D A ((XW cI cZ d σ z5) ++ ([(w4, aI cI 4 cst)] ++ ((SW cI cT cU ds σ ι) ++ (QW cI cQ w77 a77 (tG σ))))) := va_Dp hD hp9
  refine g_call (va_runV (As := []) (rest := []) S ((kX1_tilt l D cI cZ d σ z5  ) H.size) (cwV 0 hts gL_law_X1_tilt rfl rfl rfl (by decide +kernel) ⟨Nat.le_of_ble_eq_true rfl, Nat.le_of_ble_eq_true rfl⟩) (g_preV xEx_g hK [0, 1] rfl hPc hDc (fun U _ hW => xEx_w hW hE) (q0 := 0) (ci := 1) rfl rfl rfl) rfl rfl hl.1 rfl (lv_room (Nat.le_of_ble_eq_true rfl)) dL_law_104 ⟨by show (cells + 244) + 0 ≤ 600104; omega, by show (slots + 1458) + 0 ≤ 7301314; omega⟩) hPc hDc hS hA (fun κ9 H locs hk hP hD hS => ?_)
  obtain ⟨z6, ezz6⟩ : ∃ z, z = κ9 := ⟨_, rfl⟩
  subst ezz6
  have hP : va_P D vwCl ((XW cI cZ d σ z6) ++ ([(w4, aI cI 4 cst)] ++ ((SW cI cT cU ds σ ι) ++ (QW cI cQ w77 a77 (tG σ))))) H := hP
  have hD : va_D A ((XW cI cZ d σ z6) ++ ([(w4, aI cI 4 cst)] ++ ((SW cI cT cU ds σ ι) ++ (QW cI cQ w77 a77 (tG σ))))) := hD
  have hp9 : ([(w4, aI cI 4 cst)] ++ ((XW cI cZ d σ z6) ++ ((SW cI cT cU ds σ ι) ++ (QW cI cQ w77 a77 (tG σ)))) : va_W).Perm ((XW cI cZ d σ z6) ++ ([(w4, aI cI 4 cst)] ++ ((SW cI cT cU ds σ ι) ++ (QW cI cQ w77 a77 (tG σ)))) : va_W) := (List.perm_append_comm_assoc _ _ _)
  have hP : va_P D vwCl ([(w4, aI cI 4 cst)] ++ ((XW cI cZ d σ z6) ++ ((SW cI cT cU ds σ ι) ++ (QW cI cQ w77 a77 (tG σ))))) H := va_mem hP (fun q9 hq9 => hp9.mem_iff.mp hq9)
  have hD : va_D A ([(w4, aI cI 4 cst)] ++ ((XW cI cZ d σ z6) ++ ((SW cI cT cU ds σ ι) ++ (QW cI cQ w77 a77 (tG σ))))) := va_Dp hD hp9
  show W p l e room_1 s m args below meth c H locs (cells + 244) (slots + 1458) Q (F0 m 107 ls [.int (iI (σ 9 1))])
  refine lv_istore (lv' := [(10, .int (iI (σ 9 1))), (9, .int (iI (xCount σ 5))), (8, .int (iI (xCount σ 2))), (7, .int (iI (xCount σ 1))), (6, .ref (w77)), (5, .int (iI (lwX L xs t))), (4, .int (iI (t))), (3, .ref (w4)), (2, .ref (ds 0)), (1, .ref (d 0)), (0, .ref (b))]) hx hb dL_law_107 hl (by decide) rfl (fun ls hl => ?_)
  refine lv_iload hx hb dL_law_109 (lv_at hl 5 rfl) ?_
  refine lv_iconst (v := iI (5)) hx hb dL_law_111 rfl ?_
  have hPc : va_P D vwCl ([(w4, aI cI 4 cst)] ++ ((XW cI cZ d σ z6) ++ ((SW cI cT cU ds σ ι) ++ (QW cI cQ w77 a77 (tG σ))))) H := hP
  have hDc : va_D A ([(w4, aI cI 4 cst)] ++ ((XW cI cZ d σ z6) ++ ((SW cI cT cU ds σ ι) ++ (QW cI cQ w77 a77 (tG σ))))) := hD
  have hPc : va_P D vwCl ([] ++ ([(w4, aI cI 4 cst)] ++ ((XW cI cZ d σ z6) ++ ((SW cI cT cU ds σ ι) ++ (QW cI cQ w77 a77 (tG σ)))))) H := hPc
  have hDc : va_D A ([] ++ ([(w4, aI cI 4 cst)] ++ ((XW cI cZ d σ z6) ++ ((SW cI cT cU ds σ ι) ++ (QW cI cQ w77 a77 (tG σ)))))) := hDc
  refine g_call (va_runS (As := [.int (iI (lwX L xs t)), .int (iI (5))]) (rest := []) S ((kL_below l D cI cZ cT cU cQ (lwX L xs t) 5 (by first | assumption | omega)) H.size) (va_cwS 2 hts gL_law_L_below rfl rfl rfl (by decide +kernel) ⟨Nat.le_of_ble_eq_true rfl, Nat.le_of_ble_eq_true rfl⟩) (g_preS (As := [.int (iI (lwX L xs t)), .int (iI (5))]) gEx_t hK [0, 1, 2, 3, 4] rfl hPc hDc (fun _ _ _ => trivial)) rfl rfl hl.1 rfl (lv_room (Nat.le_of_ble_eq_true rfl)) dL_law_112 ⟨by show (cells + 244) + 0 ≤ 600104; omega, by show (slots + 1458) + 0 ≤ 7301314; omega⟩) hPc hDc hS hA (fun κ9 H locs hk hP hD hS => ?_)
  obtain ⟨z7, ezz7⟩ : ∃ z, z = κ9 := ⟨_, rfl⟩
  subst ezz7
  have hP : va_P D vwCl ([(w4, aI cI 4 cst)] ++ ((XW cI cZ d σ z6) ++ ((SW cI cT cU ds σ ι) ++ (QW cI cQ w77 a77 (tG σ))))) H := hP
  have hD : va_D A ([(w4, aI cI 4 cst)] ++ ((XW cI cZ d σ z6) ++ ((SW cI cT cU ds σ ι) ++ (QW cI cQ w77 a77 (tG σ))))) := hD
  show W p l e room_1 s m args below meth c H locs (cells + 244) (slots + 1458) Q (F0 m 115 ls [.int (iI (blw (lwX L xs t) 5))])
  refine lv_istore (lv' := [(11, .int (iI (blw (lwX L xs t) 5))), (10, .int (iI (σ 9 1))), (9, .int (iI (xCount σ 5))), (8, .int (iI (xCount σ 2))), (7, .int (iI (xCount σ 1))), (6, .ref (w77)), (5, .int (iI (lwX L xs t))), (4, .int (iI (t))), (3, .ref (w4)), (2, .ref (ds 0)), (1, .ref (d 0)), (0, .ref (b))]) hx hb dL_law_115 hl (by decide) rfl (fun ls hl => ?_)
  refine lv_iload hx hb dL_law_117 (lv_at hl 6 rfl) ?_
  refine lv_iconst (v := iI (2)) hx hb dL_law_119 rfl ?_
  refine gi_shr hx hb dL_law_120 ?_
  refine lv_bipush (v := iI (8)) hx hb dL_law_121 rfl ?_
  have hPc : va_P D vwCl ([(w4, aI cI 4 cst)] ++ ((XW cI cZ d σ z6) ++ ((SW cI cT cU ds σ ι) ++ (QW cI cQ w77 a77 (tG σ))))) H := hP
  have hDc : va_D A ([(w4, aI cI 4 cst)] ++ ((XW cI cZ d σ z6) ++ ((SW cI cT cU ds σ ι) ++ (QW cI cQ w77 a77 (tG σ))))) := hD
  have hPc : va_P D vwCl ([] ++ ([(w4, aI cI 4 cst)] ++ ((XW cI cZ d σ z6) ++ ((SW cI cT cU ds σ ι) ++ (QW cI cQ w77 a77 (tG σ)))))) H := hPc
  have hDc : va_D A ([] ++ ([(w4, aI cI 4 cst)] ++ ((XW cI cZ d σ z6) ++ ((SW cI cT cU ds σ ι) ++ (QW cI cQ w77 a77 (tG σ)))))) := hDc
  refine g_call (va_runS (As := [.int (iI (shr (lwX L xs t) 2)), .int (iI (8))]) (rest := []) S ((kL_below l D cI cZ cT cU cQ (shr (lwX L xs t) 2) 8 (by first | assumption | omega)) H.size) (va_cwS 2 hts gL_law_L_below rfl rfl rfl (by decide +kernel) ⟨Nat.le_of_ble_eq_true rfl, Nat.le_of_ble_eq_true rfl⟩) (g_preS (As := [.int (iI (shr (lwX L xs t) 2)), .int (iI (8))]) gEx_t hK [0, 1, 2, 3, 4] rfl hPc hDc (fun _ _ _ => trivial)) rfl rfl hl.1 rfl (lv_room (Nat.le_of_ble_eq_true rfl)) dL_law_123 ⟨by show (cells + 244) + 0 ≤ 600104; omega, by show (slots + 1458) + 0 ≤ 7301314; omega⟩) hPc hDc hS hA (fun κ9 H locs hk hP hD hS => ?_)
  obtain ⟨z8, ezz8⟩ : ∃ z, z = κ9 := ⟨_, rfl⟩
  subst ezz8
  have hP : va_P D vwCl ([(w4, aI cI 4 cst)] ++ ((XW cI cZ d σ z6) ++ ((SW cI cT cU ds σ ι) ++ (QW cI cQ w77 a77 (tG σ))))) H := hP
  have hD : va_D A ([(w4, aI cI 4 cst)] ++ ((XW cI cZ d σ z6) ++ ((SW cI cT cU ds σ ι) ++ (QW cI cQ w77 a77 (tG σ))))) := hD
  show W p l e room_1 s m args below meth c H locs (cells + 244) (slots + 1458) Q (F0 m 126 ls [.int (iI (blw (shr (lwX L xs t) 2) 8))])
  refine lv_istore (lv' := [(12, .int (iI (blw (shr (lwX L xs t) 2) 8))), (11, .int (iI (blw (lwX L xs t) 5))), (10, .int (iI (σ 9 1))), (9, .int (iI (xCount σ 5))), (8, .int (iI (xCount σ 2))), (7, .int (iI (xCount σ 1))), (6, .ref (w77)), (5, .int (iI (lwX L xs t))), (4, .int (iI (t))), (3, .ref (w4)), (2, .ref (ds 0)), (1, .ref (d 0)), (0, .ref (b))]) hx hb dL_law_126 hl (by decide) rfl (fun ls hl => ?_)
  refine lv_iload hx hb dL_law_128 (lv_at hl 7 rfl) ?_
  refine lv_bipush (v := iI (7)) hx hb dL_law_130 rfl ?_
  refine gi_shr hx hb dL_law_132 ?_
  refine lv_bipush (v := iI (8)) hx hb dL_law_133 rfl ?_
  have hPc : va_P D vwCl ([(w4, aI cI 4 cst)] ++ ((XW cI cZ d σ z6) ++ ((SW cI cT cU ds σ ι) ++ (QW cI cQ w77 a77 (tG σ))))) H := hP
  have hDc : va_D A ([(w4, aI cI 4 cst)] ++ ((XW cI cZ d σ z6) ++ ((SW cI cT cU ds σ ι) ++ (QW cI cQ w77 a77 (tG σ))))) := hD
  have hPc : va_P D vwCl ([] ++ ([(w4, aI cI 4 cst)] ++ ((XW cI cZ d σ z6) ++ ((SW cI cT cU ds σ ι) ++ (QW cI cQ w77 a77 (tG σ)))))) H := hPc
  have hDc : va_D A ([] ++ ([(w4, aI cI 4 cst)] ++ ((XW cI cZ d σ z6) ++ ((SW cI cT cU ds σ ι) ++ (QW cI cQ w77 a77 (tG σ)))))) := hDc
  refine g_call (va_runS (As := [.int (iI (shr (lwX L xs t) 7)), .int (iI (8))]) (rest := []) S ((kL_below l D cI cZ cT cU cQ (shr (lwX L xs t) 7) 8 (by first | assumption | omega)) H.size) (va_cwS 2 hts gL_law_L_below rfl rfl rfl (by decide +kernel) ⟨Nat.le_of_ble_eq_true rfl, Nat.le_of_ble_eq_true rfl⟩) (g_preS (As := [.int (iI (shr (lwX L xs t) 7)), .int (iI (8))]) gEx_t hK [0, 1, 2, 3, 4] rfl hPc hDc (fun _ _ _ => trivial)) rfl rfl hl.1 rfl (lv_room (Nat.le_of_ble_eq_true rfl)) dL_law_135 ⟨by show (cells + 244) + 0 ≤ 600104; omega, by show (slots + 1458) + 0 ≤ 7301314; omega⟩) hPc hDc hS hA (fun κ9 H locs hk hP hD hS => ?_)
  obtain ⟨z9, ezz9⟩ : ∃ z, z = κ9 := ⟨_, rfl⟩
  subst ezz9
  have hP : va_P D vwCl ([(w4, aI cI 4 cst)] ++ ((XW cI cZ d σ z6) ++ ((SW cI cT cU ds σ ι) ++ (QW cI cQ w77 a77 (tG σ))))) H := hP
  have hD : va_D A ([(w4, aI cI 4 cst)] ++ ((XW cI cZ d σ z6) ++ ((SW cI cT cU ds σ ι) ++ (QW cI cQ w77 a77 (tG σ))))) := hD
  show W p l e room_1 s m args below meth c H locs (cells + 244) (slots + 1458) Q (F0 m 138 ls [.int (iI (blw (shr (lwX L xs t) 7) 8))])
  refine lv_istore (lv' := [(13, .int (iI (blw (shr (lwX L xs t) 7) 8))), (12, .int (iI (blw (shr (lwX L xs t) 2) 8))), (11, .int (iI (blw (lwX L xs t) 5))), (10, .int (iI (σ 9 1))), (9, .int (iI (xCount σ 5))), (8, .int (iI (xCount σ 2))), (7, .int (iI (xCount σ 1))), (6, .ref (w77)), (5, .int (iI (lwX L xs t))), (4, .int (iI (t))), (3, .ref (w4)), (2, .ref (ds 0)), (1, .ref (d 0)), (0, .ref (b))]) hx hb dL_law_138 hl (by decide) rfl (fun ls hl => ?_)
  refine lv_iload hx hb dL_law_140 (lv_at hl 0 rfl) ?_
  refine lv_iconst (v := iI (3)) hx hb dL_law_142 rfl ?_
  refine gi_icmp_ge (tgt := 150) hx hb dL_law_143 (by decide) ⟨by omega, by omega⟩ ⟨by decide, by decide⟩ (fun c143 => ?_) (fun c143 => ?_)
  · skip
    refine lv_iload hx hb dL_law_150 (lv_at hl 0 rfl) ?_
    refine lv_iconst (v := iI (5)) hx hb dL_law_152 rfl ?_
    refine gi_icmp_ge (tgt := 160) hx hb dL_law_153 (by decide) ⟨by omega, by omega⟩ ⟨by decide, by decide⟩ (fun c153 => ?_) (fun c153 => ?_)
    · skip
      refine lv_iload hx hb dL_law_160 (lv_at hl 0 rfl) ?_
      refine lv_iconst (v := iI (5)) hx hb dL_law_162 rfl ?_
      refine gi_icmp_ne (tgt := 170) hx hb dL_law_163 (by decide) ⟨by omega, by omega⟩ ⟨by decide, by decide⟩ (fun c163 => ?_) (fun c163 => ?_)
      · skip
        refine lv_iload hx hb dL_law_170 (lv_at hl 0 rfl) ?_
        refine lv_bipush (v := iI (6)) hx hb dL_law_172 rfl ?_
        refine gi_icmp_ne (tgt := 192) hx hb dL_law_174 (by decide) ⟨by omega, by omega⟩ ⟨by decide, by decide⟩ (fun c174 => ?_) (fun c174 => ?_)
        · skip
          refine lv_iconst (v := iI (-1)) hx hb dL_law_192 rfl ?_
          have e9 : wkF (lwX L xs t) = -1 := by unfold wkF acH; (repeat' split) <;> omega
          have k9 := K z6 w77 a77 H locs (cells + 244) (slots + 1458) ls  (by omega) (by omega) hP hD hS (lv_sub hl [0, 1, 2, 3, 4, 5, 6, 7, 8, 9, 10, 11, 12, 13] rfl)
          rw [e9] at k9
          exact k9
        · skip
          refine lv_iload hx hb dL_law_177 (lv_at hl 8 rfl) ?_
          refine lv_iconst (v := iI (5)) hx hb dL_law_179 rfl ?_
          refine gi_shr hx hb dL_law_180 ?_
          refine lv_iconst (v := iI (3)) hx hb dL_law_181 rfl ?_
          have hPc : va_P D vwCl ([(w4, aI cI 4 cst)] ++ ((XW cI cZ d σ z6) ++ ((SW cI cT cU ds σ ι) ++ (QW cI cQ w77 a77 (tG σ))))) H := hP
          have hDc : va_D A ([(w4, aI cI 4 cst)] ++ ((XW cI cZ d σ z6) ++ ((SW cI cT cU ds σ ι) ++ (QW cI cQ w77 a77 (tG σ))))) := hD
          have hPc : va_P D vwCl ([] ++ ([(w4, aI cI 4 cst)] ++ ((XW cI cZ d σ z6) ++ ((SW cI cT cU ds σ ι) ++ (QW cI cQ w77 a77 (tG σ)))))) H := hPc
          have hDc : va_D A ([] ++ ([(w4, aI cI 4 cst)] ++ ((XW cI cZ d σ z6) ++ ((SW cI cT cU ds σ ι) ++ (QW cI cQ w77 a77 (tG σ)))))) := hDc
          refine g_call (va_runS (As := [.int (iI (shr (lwX L xs t) 5)), .int (iI (3))]) (rest := []) S ((kL_below l D cI cZ cT cU cQ (shr (lwX L xs t) 5) 3 (by first | assumption | omega)) H.size) (va_cwS 2 hts gL_law_L_below rfl rfl rfl (by decide +kernel) ⟨Nat.le_of_ble_eq_true rfl, Nat.le_of_ble_eq_true rfl⟩) (g_preS (As := [.int (iI (shr (lwX L xs t) 5)), .int (iI (3))]) gEx_t hK [0, 1, 2, 3, 4] rfl hPc hDc (fun _ _ _ => trivial)) rfl rfl hl.1 rfl (lv_room (Nat.le_of_ble_eq_true rfl)) dL_law_182 ⟨by show (cells + 244) + 0 ≤ 600104; omega, by show (slots + 1458) + 0 ≤ 7301314; omega⟩) hPc hDc hS hA (fun κ9 H locs hk hP hD hS => ?_)
          obtain ⟨z10, ezz10⟩ : ∃ z, z = κ9 := ⟨_, rfl⟩
          subst ezz10
          have hP : va_P D vwCl ([(w4, aI cI 4 cst)] ++ ((XW cI cZ d σ z6) ++ ((SW cI cT cU ds σ ι) ++ (QW cI cQ w77 a77 (tG σ))))) H := hP
          have hD : va_D A ([(w4, aI cI 4 cst)] ++ ((XW cI cZ d σ z6) ++ ((SW cI cT cU ds σ ι) ++ (QW cI cQ w77 a77 (tG σ))))) := hD
          show W p l e room_1 s m args below meth c H locs (cells + 244) (slots + 1458) Q (F0 m 185 ls [.int (iI (blw (shr (lwX L xs t) 5) 3))])
          refine gi_if_ne (tgt := 192) hx hb dL_law_185 (by decide) ⟨by omega, by omega⟩ (fun c185 => ?_) (fun c185 => ?_)
          · skip
            refine lv_iconst (v := iI (-1)) hx hb dL_law_192 rfl ?_
            have e9 : wkF (lwX L xs t) = -1 := by unfold wkF acH; (repeat' split) <;> omega
            have k9 := K z6 w77 a77 H locs (cells + 244) (slots + 1458) ls  (by omega) (by omega) hP hD hS (lv_sub hl [0, 1, 2, 3, 4, 5, 6, 7, 8, 9, 10, 11, 12, 13] rfl)
            rw [e9] at k9
            exact k9
          · skip
            refine lv_iconst (v := iI (3)) hx hb dL_law_188 rfl ?_
            refine lv_goto (tgt := 193) hx hb dL_law_189 (by decide) ?_
            have e9 : wkF (lwX L xs t) = 3 := by unfold wkF acH; (repeat' split) <;> omega
            have k9 := K z6 w77 a77 H locs (cells + 244) (slots + 1458) ls  (by omega) (by omega) hP hD hS (lv_sub hl [0, 1, 2, 3, 4, 5, 6, 7, 8, 9, 10, 11, 12, 13] rfl)
            rw [e9] at k9
            exact k9
      · skip
        refine lv_iconst (v := iI (2)) hx hb dL_law_166 rfl ?_
        refine lv_goto (tgt := 193) hx hb dL_law_167 (by decide) ?_
        have e9 : wkF (lwX L xs t) = 2 := by unfold wkF acH; (repeat' split) <;> omega
        have k9 := K z6 w77 a77 H locs (cells + 244) (slots + 1458) ls  (by omega) (by omega) hP hD hS (lv_sub hl [0, 1, 2, 3, 4, 5, 6, 7, 8, 9, 10, 11, 12, 13] rfl)
        rw [e9] at k9
        exact k9
    · skip
      refine lv_iconst (v := iI (1)) hx hb dL_law_156 rfl ?_
      refine lv_goto (tgt := 193) hx hb dL_law_157 (by decide) ?_
      have e9 : wkF (lwX L xs t) = 1 := by unfold wkF acH; (repeat' split) <;> omega
      have k9 := K z6 w77 a77 H locs (cells + 244) (slots + 1458) ls  (by omega) (by omega) hP hD hS (lv_sub hl [0, 1, 2, 3, 4, 5, 6, 7, 8, 9, 10, 11, 12, 13] rfl)
      rw [e9] at k9
      exact k9
  · skip
    refine lv_iconst (v := iI (0)) hx hb dL_law_146 rfl ?_
    refine lv_goto (tgt := 193) hx hb dL_law_147 (by decide) ?_
    have e9 : wkF (lwX L xs t) = 0 := by unfold wkF acH; (repeat' split) <;> omega
    have k9 := K z6 w77 a77 H locs (cells + 244) (slots + 1458) ls  (by omega) (by omega) hP hD hS (lv_sub hl [0, 1, 2, 3, 4, 5, 6, 7, 8, 9, 10, 11, 12, 13] rfl)
    rw [e9] at k9
    exact k9
set_option maxHeartbeats 4000000 in
set_option maxRecDepth 100000 in
theorem lq_both {p : Program} {l : Launch} {e : Env} {s : State} {m : MethodId} {args : Array Value} {below : List Frame} {meth : Method} {c : Code} {H : Heap} {locs : List Loc} {cells slots : Nat} {Q : State → Prop} {ls : Array Slot} {D : va_G} {A : Nat → Prop} {cI cZ cT cU cQ : ClassId} {b L : Nat} {xs : Nat → Int32} {d ds : Nat → Nat} {σ κ : St} {ι : Int → Int} {w4 : Nat} {t : Int} {x : Int} {w : Int} {r : Int} {pl : Int} {hw : Int} {c1 : Int} {c2 : Int} {c5 : Int} {tl : Int} {w6 : Nat} {a6 : Nat → Nat} (G : lG p l s m c args A D cI cZ cT cU cQ b L xs) (hwf : xWF σ) (hz : zWF σ) (hr : 0 ≤ r ∧ r < 5) (hp : 0 ≤ pl ∧ pl < 8) (hcc : cells + 247 ≤ 600104) (hss : slots + 1472 ≤ 7301314) (hP : va_P D vwCl ([(w4, aI cI 4 cst)] ++ ((XW cI cZ d σ κ) ++ ((SW cI cT cU ds σ ι) ++ (QW cI cQ w6 a6 (tG σ))))) H) (hD : va_D A ([(w4, aI cI 4 cst)] ++ ((XW cI cZ d σ κ) ++ ((SW cI cT cU ds σ ι) ++ (QW cI cQ w6 a6 (tG σ)))))) (hS : va_S A s.heap H locs) (hl : lv_has ls 35 [(13, .int (iI (hw))), (12, .int (iI (pl))), (11, .int (iI (r))), (10, .int (iI (tl))), (9, .int (iI (c5))), (8, .int (iI (c2))), (7, .int (iI (c1))), (6, .ref (w6)), (5, .int (iI (x))), (4, .int (iI (t))), (3, .ref (w4)), (2, .ref (ds 0)), (1, .ref (d 0)), (0, .ref (b))]) (K : ∀ (κ1 : St) (ι1 : Int → Int) (w17 : Nat) (a17 : Nat → Nat) (H : Heap) (locs : List Loc) (cells1 slots1 : Nat) (ls : Array Slot), cells1 ≤ cells + 247 → slots1 ≤ slots + 1472 → va_P D vwCl ([(w4, aI cI 4 cst)] ++ ((XW cI cZ d (actS σ x) κ1) ++ ((SW cI cT cU ds (actS σ x) ι1) ++ ((QW cI cQ w6 a6 (tG σ)) ++ (QW cI cQ w17 a17 (tG (actS σ x))))))) H → va_D A ([(w4, aI cI 4 cst)] ++ ((XW cI cZ d (actS σ x) κ1) ++ ((SW cI cT cU ds (actS σ x) ι1) ++ ((QW cI cQ w6 a6 (tG σ)) ++ (QW cI cQ w17 a17 (tG (actS σ x))))))) → va_S A s.heap H locs → lv_has ls 35 [(19, .int (iI (c2 - xCount (actS σ x) 2))), (18, .int (iI (c1 - xCount (actS σ x) 1))), (17, .ref (w17)), (16, .int (iI (alB σ r pl))), (15, .int (iI (xCount σ 7))), (14, .int (iI (w))), (13, .int (iI (hw))), (12, .int (iI (pl))), (11, .int (iI (r))), (10, .int (iI (tl))), (9, .int (iI (c5))), (8, .int (iI (c2))), (7, .int (iI (c1))), (6, .ref (w6)), (5, .int (iI (x))), (4, .int (iI (t))), (3, .ref (w4)), (2, .ref (ds 0)), (1, .ref (d 0)), (0, .ref (b))] → W p l e room_1 s m args below meth c H locs cells1 slots1 Q (F0 m 267 ls [])) : W p l e room_1 s m args below meth c H locs cells slots Q (F0 m 193 ls [.int (iI (w))]) := by
  obtain ⟨S, hfl, hK, hA, hTE, hN, hX9, hL⟩ := id G
  have hE := hTE.1
  have S0 := S
  obtain ⟨hx, hb, hml, hown, hts⟩ := S0
  have hinX2 := inlX2
  refine lv_istore (lv' := [(14, .int (iI (w))), (13, .int (iI (hw))), (12, .int (iI (pl))), (11, .int (iI (r))), (10, .int (iI (tl))), (9, .int (iI (c5))), (8, .int (iI (c2))), (7, .int (iI (c1))), (6, .ref (w6)), (5, .int (iI (x))), (4, .int (iI (t))), (3, .ref (w4)), (2, .ref (ds 0)), (1, .ref (d 0)), (0, .ref (b))]) hx hb dL_law_193 hl (by decide) rfl (fun ls hl => ?_)
  refine lv_aload_n hx hb dL_law_195 rfl (lv_at hl 13 rfl) ?_
  refine lv_bipush (v := iI (7)) hx hb dL_law_196 rfl ?_
  have hp9 : ((XW cI cZ d σ κ) ++ ([(w4, aI cI 4 cst)] ++ ((SW cI cT cU ds σ ι) ++ (QW cI cQ w6 a6 (tG σ)))) : va_W).Perm ([(w4, aI cI 4 cst)] ++ ((XW cI cZ d σ κ) ++ ((SW cI cT cU ds σ ι) ++ (QW cI cQ w6 a6 (tG σ)))) : va_W) := (List.perm_append_comm_assoc _ _ _)
  have hPc : va_P D vwCl ((XW cI cZ d σ κ) ++ ([(w4, aI cI 4 cst)] ++ ((SW cI cT cU ds σ ι) ++ (QW cI cQ w6 a6 (tG σ))))) H := va_mem hP (fun q9 hq9 => hp9.mem_iff.mp hq9)
  have hDc : va_D A ((XW cI cZ d σ κ) ++ ([(w4, aI cI 4 cst)] ++ ((SW cI cT cU ds σ ι) ++ (QW cI cQ w6 a6 (tG σ))))) := va_Dp hD hp9
  refine h_call0 (vx_runV (As := [.int (iI (7))]) (rest := []) S ((kX1_count l hfl D cI cZ d σ κ 7 (by first | assumption | omega) (by first | assumption | omega) (by first | assumption | omega)) H.size) (cwV 1 hts gL_law_X1_count rfl rfl rfl (by decide +kernel) ⟨Nat.le_of_ble_eq_true rfl, Nat.le_of_ble_eq_true rfl⟩) (h_preV hK [0, 1] rfl hPc hDc hS hA hTE (q0 := 0) (ci := 1) rfl rfl rfl) rfl rfl hl.1 rfl (lv_room (Nat.le_of_ble_eq_true rfl)) dL_law_198 ⟨by show cells + 1 ≤ 600104; omega, by show slots + 6 ≤ 7301314; omega⟩) hPc hDc hS hA (fun E h => (by have h0 : (tCount 7) = 0 := (by unfold tCount; rw [if_neg (by omega)]); rcases h with ⟨_, h⟩ <;> omega)) (fun κ9 H locs hk hP hD hS => ?_)
  obtain ⟨z1, ezz1⟩ : ∃ z, z = κ9 := ⟨_, rfl⟩
  subst ezz1
  have hP : va_P D vwCl ((XW cI cZ d σ z1) ++ ([(w4, aI cI 4 cst)] ++ ((SW cI cT cU ds σ ι) ++ (QW cI cQ w6 a6 (tG σ))))) H := hP
  have hD : va_D A ((XW cI cZ d σ z1) ++ ([(w4, aI cI 4 cst)] ++ ((SW cI cT cU ds σ ι) ++ (QW cI cQ w6 a6 (tG σ))))) := hD
  have hp9 : ([(w4, aI cI 4 cst)] ++ ((XW cI cZ d σ z1) ++ ((SW cI cT cU ds σ ι) ++ (QW cI cQ w6 a6 (tG σ)))) : va_W).Perm ((XW cI cZ d σ z1) ++ ([(w4, aI cI 4 cst)] ++ ((SW cI cT cU ds σ ι) ++ (QW cI cQ w6 a6 (tG σ)))) : va_W) := (List.perm_append_comm_assoc _ _ _)
  have hP : va_P D vwCl ([(w4, aI cI 4 cst)] ++ ((XW cI cZ d σ z1) ++ ((SW cI cT cU ds σ ι) ++ (QW cI cQ w6 a6 (tG σ))))) H := va_mem hP (fun q9 hq9 => hp9.mem_iff.mp hq9)
  have hD : va_D A ([(w4, aI cI 4 cst)] ++ ((XW cI cZ d σ z1) ++ ((SW cI cT cU ds σ ι) ++ (QW cI cQ w6 a6 (tG σ))))) := va_Dp hD hp9
  show W p l e room_1 s m args below meth c H locs (cells + 1) (slots + 6) Q (F0 m 201 ls [.int (iI (xCount σ 7))])
  refine lv_istore (lv' := [(15, .int (iI (xCount σ 7))), (14, .int (iI (w))), (13, .int (iI (hw))), (12, .int (iI (pl))), (11, .int (iI (r))), (10, .int (iI (tl))), (9, .int (iI (c5))), (8, .int (iI (c2))), (7, .int (iI (c1))), (6, .ref (w6)), (5, .int (iI (x))), (4, .int (iI (t))), (3, .ref (w4)), (2, .ref (ds 0)), (1, .ref (d 0)), (0, .ref (b))]) hx hb dL_law_201 hl (by decide) rfl (fun ls hl => ?_)
  refine lv_aload hx hb dL_law_203 (lv_at hl 9 rfl) ?_
  refine lv_bipush (v := iI (8)) hx hb dL_law_205 rfl ?_
  refine lv_iload hx hb dL_law_207 (lv_at hl 4 rfl) ?_
  refine gi_mul hx hb dL_law_209 ?_
  refine lv_iload hx hb dL_law_210 (lv_at hl 3 rfl) ?_
  refine gi_add hx hb dL_law_212 ?_
  refine lv_bipush (v := iI (8)) hx hb dL_law_213 rfl ?_
  refine lv_iload hx hb dL_law_215 (lv_at hl 4 rfl) ?_
  refine gi_mul hx hb dL_law_217 ?_
  refine lv_bipush (v := iI (7)) hx hb dL_law_218 rfl ?_
  refine gi_add hx hb dL_law_220 ?_
  refine lv_iload hx hb dL_law_221 (lv_at hl 3 rfl) ?_
  refine gi_sub hx hb dL_law_223 ?_
  have hPc : va_P D vwCl (QW cI cQ w6 a6 (tG σ) ++ []) H := by rw [List.append_nil]; exact (g_right (g_right (g_right hP)))
  have hDc : va_D A (QW cI cQ w6 a6 (tG σ) ++ []) := by rw [List.append_nil]; exact (g_Dright (g_Dright (g_Dright hD)))
  refine g_callR (va_runS (As := [.ref (w6), .int (iI ((8 * r) + pl)), .int (iI (((8 * r) + 7) - pl))]) (rest := []) S ((kL_alike l D cI cZ cT cU cQ w6 a6 (tG σ) ((8 * r) + pl) (((8 * r) + 7) - pl) (by omega) (by omega) (tGR hwf)) H.size) (va_cwS 3 hts gL_law_L_alike rfl rfl rfl (by decide +kernel) ⟨Nat.le_of_ble_eq_true rfl, Nat.le_of_ble_eq_true rfl⟩) (g_preS (As := [.ref (w6), .int (iI ((8 * r) + pl)), .int (iI (((8 * r) + 7) - pl))]) gEx_t hK [0, 1, 2, 3, 4] rfl hPc hDc (fun _ _ _ => trivial)) rfl rfl hl.1 rfl (lv_room (Nat.le_of_ble_eq_true rfl)) dL_law_224 ⟨by show (cells + 1) + 0 ≤ 600104; omega, by show (slots + 6) + 0 ≤ 7301314; omega⟩) (fun x9 hx9 => List.mem_append_right _ (List.mem_append_right _ (List.mem_append_right _ (hx9)))) hP hD hS hA (fun κ9 H locs hk hP hS => ?_)
  show W p l e room_1 s m args below meth c H locs (cells + 1) (slots + 6) Q (F0 m 227 ls [.int (iI (bI (tG σ ((8 * r) + pl).toNat 0 = tG σ (((8 * r) + 7) - pl).toNat 0 ∧ tG σ ((8 * r) + pl).toNat 1 = tG σ (((8 * r) + 7) - pl).toNat 1 ∧ tG σ ((8 * r) + pl).toNat 3 = tG σ (((8 * r) + 7) - pl).toNat 3)))])
  rw [show (bI (tG σ ((8 * r) + pl).toNat 0 = tG σ (((8 * r) + 7) - pl).toNat 0 ∧ tG σ ((8 * r) + pl).toNat 1 = tG σ (((8 * r) + 7) - pl).toNat 1 ∧ tG σ ((8 * r) + pl).toNat 3 = tG σ (((8 * r) + 7) - pl).toNat 3) : Int) = alB σ r pl from alB_e hr hp]
  refine lv_istore (lv' := [(16, .int (iI (alB σ r pl))), (15, .int (iI (xCount σ 7))), (14, .int (iI (w))), (13, .int (iI (hw))), (12, .int (iI (pl))), (11, .int (iI (r))), (10, .int (iI (tl))), (9, .int (iI (c5))), (8, .int (iI (c2))), (7, .int (iI (c1))), (6, .ref (w6)), (5, .int (iI (x))), (4, .int (iI (t))), (3, .ref (w4)), (2, .ref (ds 0)), (1, .ref (d 0)), (0, .ref (b))]) hx hb dL_law_227 hl (by decide) rfl (fun ls hl => ?_)
  refine lv_aload_n hx hb dL_law_229 rfl (lv_at hl 15 rfl) ?_
  refine lv_aload_n hx hb dL_law_230 rfl (lv_at hl 14 rfl) ?_
  refine lv_iload hx hb dL_law_231 (lv_at hl 11 rfl) ?_
  have hp9 : ((XW cI cZ d σ z1) ++ ((SW cI cT cU ds σ ι) ++ ([(w4, aI cI 4 cst)] ++ (QW cI cQ w6 a6 (tG σ)))) : va_W).Perm ([(w4, aI cI 4 cst)] ++ ((XW cI cZ d σ z1) ++ ((SW cI cT cU ds σ ι) ++ (QW cI cQ w6 a6 (tG σ)))) : va_W) := ((List.Perm.append_left _ (List.perm_append_comm_assoc _ _ _))).trans ((List.perm_append_comm_assoc _ _ _))
  have hPc : va_P D vwCl ((XW cI cZ d σ z1) ++ ((SW cI cT cU ds σ ι) ++ ([(w4, aI cI 4 cst)] ++ (QW cI cQ w6 a6 (tG σ))))) H := va_mem hP (fun q9 hq9 => hp9.mem_iff.mp hq9)
  have hDc : va_D A ((XW cI cZ d σ z1) ++ ((SW cI cT cU ds σ ι) ++ ([(w4, aI cI 4 cst)] ++ (QW cI cQ w6 a6 (tG σ))))) := va_Dp hD hp9
  have hPc : va_P D vwCl (((XW cI cZ d σ z1) ++ (SW cI cT cU ds σ ι)) ++ ([(w4, aI cI 4 cst)] ++ (QW cI cQ w6 a6 (tG σ)))) H := by simp only [List.append_assoc] at hPc ⊢; exact hPc
  have hDc : va_D A (((XW cI cZ d σ z1) ++ (SW cI cT cU ds σ ι)) ++ ([(w4, aI cI 4 cst)] ++ (QW cI cQ w6 a6 (tG σ)))) := by simp only [List.append_assoc] at hDc ⊢; exact hDc
  refine g_call (va_runS (As := [.ref (d 0), .ref (ds 0), .int (iI (x))]) (rest := []) S ((kL_act l hfl D cI cZ cT cU cQ d σ z1 ds ι x (by first | assumption | omega)) H.size) (va_cwS 3 hts gL_law_L_act rfl rfl rfl (by decide +kernel) ⟨Nat.le_of_ble_eq_true rfl, Nat.le_of_ble_eq_true rfl⟩) (g_preS (As := [.ref (d 0), .ref (ds 0), .int (iI (x))]) (lEx_g _) hK [0, 1, 2, 3, 4] rfl hPc hDc (fun U hU hW => lEx_w hTE hN hDc hS hA hU hW)) rfl rfl hl.1 rfl (lv_room (Nat.le_of_ble_eq_true rfl)) dL_law_233 ⟨by show (cells + 1) + 3 ≤ 600104; omega, by show (slots + 6) + 14 ≤ 7301314; omega⟩) hPc hDc hS hA (fun κ9 H locs hk hP hD hS => ?_)
  obtain ⟨z2, ezz2⟩ : ∃ z, z = κ9 := ⟨_, rfl⟩
  subst ezz2
  have hP : va_P D vwCl (((XW cI cZ d (actS σ x) z2) ++ (SW cI cT cU ds (actS σ x) (z2 2))) ++ ([(w4, aI cI 4 cst)] ++ (QW cI cQ w6 a6 (tG σ)))) H := hP
  have hD : va_D A (((XW cI cZ d (actS σ x) z2) ++ (SW cI cT cU ds (actS σ x) (z2 2))) ++ ([(w4, aI cI 4 cst)] ++ (QW cI cQ w6 a6 (tG σ)))) := hD
  have hP : va_P D vwCl ((XW cI cZ d (actS σ x) z2) ++ ((SW cI cT cU ds (actS σ x) (z2 2)) ++ ([(w4, aI cI 4 cst)] ++ (QW cI cQ w6 a6 (tG σ))))) H := by simp only [List.append_assoc] at hP ⊢; exact hP
  have hD : va_D A ((XW cI cZ d (actS σ x) z2) ++ ((SW cI cT cU ds (actS σ x) (z2 2)) ++ ([(w4, aI cI 4 cst)] ++ (QW cI cQ w6 a6 (tG σ))))) := by simp only [List.append_assoc] at hD ⊢; exact hD
  have hp9 : ([(w4, aI cI 4 cst)] ++ ((XW cI cZ d (actS σ x) z2) ++ ((SW cI cT cU ds (actS σ x) (z2 2)) ++ (QW cI cQ w6 a6 (tG σ)))) : va_W).Perm ((XW cI cZ d (actS σ x) z2) ++ ((SW cI cT cU ds (actS σ x) (z2 2)) ++ ([(w4, aI cI 4 cst)] ++ (QW cI cQ w6 a6 (tG σ)))) : va_W) := ((List.perm_append_comm_assoc _ _ _)).trans ((List.Perm.append_left _ (List.perm_append_comm_assoc _ _ _)))
  have hP : va_P D vwCl ([(w4, aI cI 4 cst)] ++ ((XW cI cZ d (actS σ x) z2) ++ ((SW cI cT cU ds (actS σ x) (z2 2)) ++ (QW cI cQ w6 a6 (tG σ))))) H := va_mem hP (fun q9 hq9 => hp9.mem_iff.mp hq9)
  have hD : va_D A ([(w4, aI cI 4 cst)] ++ ((XW cI cZ d (actS σ x) z2) ++ ((SW cI cT cU ds (actS σ x) (z2 2)) ++ (QW cI cQ w6 a6 (tG σ))))) := va_Dp hD hp9
  show W p l e room_1 s m args below meth c H locs (cells + 4) (slots + 20) Q (F0 m 236 ls [.int (iI (1))])
  refine gi_if_ne (tgt := 241) hx hb dL_law_236 (by decide) ⟨by decide, by decide⟩ (fun c236 => ?_) (fun c236 => ?_)
  · skip
    refine lv_aload_n hx hb dL_law_241 rfl (lv_at hl 15 rfl) ?_
    have hp9 : ((XW cI cZ d (actS σ x) z2) ++ ([(w4, aI cI 4 cst)] ++ ((SW cI cT cU ds (actS σ x) (z2 2)) ++ (QW cI cQ w6 a6 (tG σ)))) : va_W).Perm ([(w4, aI cI 4 cst)] ++ ((XW cI cZ d (actS σ x) z2) ++ ((SW cI cT cU ds (actS σ x) (z2 2)) ++ (QW cI cQ w6 a6 (tG σ)))) : va_W) := (List.perm_append_comm_assoc _ _ _)
    have hPc : va_P D vwCl ((XW cI cZ d (actS σ x) z2) ++ ([(w4, aI cI 4 cst)] ++ ((SW cI cT cU ds (actS σ x) (z2 2)) ++ (QW cI cQ w6 a6 (tG σ))))) H := va_mem hP (fun q9 hq9 => hp9.mem_iff.mp hq9)
    have hDc : va_D A ((XW cI cZ d (actS σ x) z2) ++ ([(w4, aI cI 4 cst)] ++ ((SW cI cT cU ds (actS σ x) (z2 2)) ++ (QW cI cQ w6 a6 (tG σ))))) := va_Dp hD hp9
    refine g_call (va_runS (As := [.ref (d 0)]) (rest := []) S ((kL_trees l hfl D cI cZ cT cU cQ d (actS σ x) z2 (act_ok hwf hz x).1) H.size) (va_cwS 1 hts gL_law_L_trees rfl rfl rfl (by decide +kernel) ⟨Nat.le_of_ble_eq_true rfl, Nat.le_of_ble_eq_true rfl⟩) (g_preS (As := [.ref (d 0)]) (lEx_g _) hK [0, 1, 2, 3, 4] rfl hPc hDc (fun U hU hW => lEx_w hTE hN hDc hS hA hU hW)) rfl rfl hl.1 rfl (lv_room (Nat.le_of_ble_eq_true rfl)) dL_law_242 ⟨by show (cells + 4) + 241 ≤ 600104; omega, by show (slots + 20) + 1440 ≤ 7301314; omega⟩) hPc hDc hS hA (fun κ9 H locs hk hP hD hS => ?_)
    obtain ⟨z3, ezz3⟩ : ∃ z, z = κ9 := ⟨_, rfl⟩
    subst ezz3
    have hP : va_P D vwCl ((XW cI cZ d (actS σ x) z3 ++ QW cI cQ (z3 2 0).toNat (fun i => (z3 3 i).toNat) (tG (actS σ x))) ++ ([(w4, aI cI 4 cst)] ++ ((SW cI cT cU ds (actS σ x) (z2 2)) ++ (QW cI cQ w6 a6 (tG σ))))) H := hP
    have hD : va_D A ((XW cI cZ d (actS σ x) z3 ++ QW cI cQ (z3 2 0).toNat (fun i => (z3 3 i).toNat) (tG (actS σ x))) ++ ([(w4, aI cI 4 cst)] ++ ((SW cI cT cU ds (actS σ x) (z2 2)) ++ (QW cI cQ w6 a6 (tG σ))))) := hD
    generalize (z3 2 0).toNat = w242 at hP hD ⊢
    generalize (fun i : Nat => (z3 3 (i : Int)).toNat) = a242 at hP hD
    rw [List.append_assoc] at hP hD
    have hp9 : ([(w4, aI cI 4 cst)] ++ ((XW cI cZ d (actS σ x) z3) ++ ((SW cI cT cU ds (actS σ x) (z2 2)) ++ ((QW cI cQ w6 a6 (tG σ)) ++ (QW cI cQ w242 a242 (tG (actS σ x)))))) : va_W).Perm ((XW cI cZ d (actS σ x) z3) ++ ((QW cI cQ w242 a242 (tG (actS σ x))) ++ ([(w4, aI cI 4 cst)] ++ ((SW cI cT cU ds (actS σ x) (z2 2)) ++ (QW cI cQ w6 a6 (tG σ))))) : va_W) := ((List.Perm.append_left _ (List.Perm.append_left _ (List.Perm.append_left _ List.perm_append_comm)))).trans (((List.Perm.append_left _ (List.Perm.append_left _ (List.perm_append_comm_assoc _ _ _)))).trans (((List.perm_append_comm_assoc _ _ _)).trans ((List.Perm.append_left _ (List.perm_append_comm_assoc _ _ _)))))
    have hP : va_P D vwCl ([(w4, aI cI 4 cst)] ++ ((XW cI cZ d (actS σ x) z3) ++ ((SW cI cT cU ds (actS σ x) (z2 2)) ++ ((QW cI cQ w6 a6 (tG σ)) ++ (QW cI cQ w242 a242 (tG (actS σ x))))))) H := va_mem hP (fun q9 hq9 => hp9.mem_iff.mp hq9)
    have hD : va_D A ([(w4, aI cI 4 cst)] ++ ((XW cI cZ d (actS σ x) z3) ++ ((SW cI cT cU ds (actS σ x) (z2 2)) ++ ((QW cI cQ w6 a6 (tG σ)) ++ (QW cI cQ w242 a242 (tG (actS σ x))))))) := va_Dp hD hp9
    show W p l e room_1 s m args below meth c H locs (cells + 245) (slots + 1460) Q (F0 m 245 ls [.ref (w242)])
    refine lv_astore (lv' := [(17, .ref (w242)), (16, .int (iI (alB σ r pl))), (15, .int (iI (xCount σ 7))), (14, .int (iI (w))), (13, .int (iI (hw))), (12, .int (iI (pl))), (11, .int (iI (r))), (10, .int (iI (tl))), (9, .int (iI (c5))), (8, .int (iI (c2))), (7, .int (iI (c1))), (6, .ref (w6)), (5, .int (iI (x))), (4, .int (iI (t))), (3, .ref (w4)), (2, .ref (ds 0)), (1, .ref (d 0)), (0, .ref (b))]) hx hb dL_law_245 hl (by decide) rfl (fun ls hl => ?_)
    refine lv_iload hx hb dL_law_247 (lv_at hl 10 rfl) ?_
    refine lv_aload_n hx hb dL_law_249 rfl (lv_at hl 16 rfl) ?_
    refine lv_iconst (v := iI (1)) hx hb dL_law_250 rfl ?_
    have hp9 : ((XW cI cZ d (actS σ x) z3) ++ ([(w4, aI cI 4 cst)] ++ ((SW cI cT cU ds (actS σ x) (z2 2)) ++ ((QW cI cQ w6 a6 (tG σ)) ++ (QW cI cQ w242 a242 (tG (actS σ x)))))) : va_W).Perm ([(w4, aI cI 4 cst)] ++ ((XW cI cZ d (actS σ x) z3) ++ ((SW cI cT cU ds (actS σ x) (z2 2)) ++ ((QW cI cQ w6 a6 (tG σ)) ++ (QW cI cQ w242 a242 (tG (actS σ x)))))) : va_W) := (List.perm_append_comm_assoc _ _ _)
    have hPc : va_P D vwCl ((XW cI cZ d (actS σ x) z3) ++ ([(w4, aI cI 4 cst)] ++ ((SW cI cT cU ds (actS σ x) (z2 2)) ++ ((QW cI cQ w6 a6 (tG σ)) ++ (QW cI cQ w242 a242 (tG (actS σ x))))))) H := va_mem hP (fun q9 hq9 => hp9.mem_iff.mp hq9)
    have hDc : va_D A ((XW cI cZ d (actS σ x) z3) ++ ([(w4, aI cI 4 cst)] ++ ((SW cI cT cU ds (actS σ x) (z2 2)) ++ ((QW cI cQ w6 a6 (tG σ)) ++ (QW cI cQ w242 a242 (tG (actS σ x))))))) := va_Dp hD hp9
    refine h_call0 (vx_runV (As := [.int (iI (1))]) (rest := [.int (iI (c1))]) S ((kX1_count l hfl D cI cZ d (actS σ x) z3 1 (act_ok hwf hz x).1 (by first | assumption | omega) (by first | assumption | omega)) H.size) (cwV 1 hts gL_law_X1_count rfl rfl rfl (by decide +kernel) ⟨Nat.le_of_ble_eq_true rfl, Nat.le_of_ble_eq_true rfl⟩) (h_preV hK [0, 1] rfl hPc hDc hS hA hTE (q0 := 0) (ci := 1) rfl rfl rfl) rfl rfl hl.1 rfl (lv_room (Nat.le_of_ble_eq_true rfl)) dL_law_251 ⟨by show (cells + 245) + 1 ≤ 600104; omega, by show (slots + 1460) + 6 ≤ 7301314; omega⟩) hPc hDc hS hA (fun E h => (by have h0 : (tCount 1) = 0 := (by unfold tCount; rw [if_neg (by omega)]); rcases h with ⟨_, h⟩ <;> omega)) (fun κ9 H locs hk hP hD hS => ?_)
    obtain ⟨z4, ezz4⟩ : ∃ z, z = κ9 := ⟨_, rfl⟩
    subst ezz4
    have hP : va_P D vwCl ((XW cI cZ d (actS σ x) z4) ++ ([(w4, aI cI 4 cst)] ++ ((SW cI cT cU ds (actS σ x) (z2 2)) ++ ((QW cI cQ w6 a6 (tG σ)) ++ (QW cI cQ w242 a242 (tG (actS σ x))))))) H := hP
    have hD : va_D A ((XW cI cZ d (actS σ x) z4) ++ ([(w4, aI cI 4 cst)] ++ ((SW cI cT cU ds (actS σ x) (z2 2)) ++ ((QW cI cQ w6 a6 (tG σ)) ++ (QW cI cQ w242 a242 (tG (actS σ x))))))) := hD
    have hp9 : ([(w4, aI cI 4 cst)] ++ ((XW cI cZ d (actS σ x) z4) ++ ((SW cI cT cU ds (actS σ x) (z2 2)) ++ ((QW cI cQ w6 a6 (tG σ)) ++ (QW cI cQ w242 a242 (tG (actS σ x)))))) : va_W).Perm ((XW cI cZ d (actS σ x) z4) ++ ([(w4, aI cI 4 cst)] ++ ((SW cI cT cU ds (actS σ x) (z2 2)) ++ ((QW cI cQ w6 a6 (tG σ)) ++ (QW cI cQ w242 a242 (tG (actS σ x)))))) : va_W) := (List.perm_append_comm_assoc _ _ _)
    have hP : va_P D vwCl ([(w4, aI cI 4 cst)] ++ ((XW cI cZ d (actS σ x) z4) ++ ((SW cI cT cU ds (actS σ x) (z2 2)) ++ ((QW cI cQ w6 a6 (tG σ)) ++ (QW cI cQ w242 a242 (tG (actS σ x))))))) H := va_mem hP (fun q9 hq9 => hp9.mem_iff.mp hq9)
    have hD : va_D A ([(w4, aI cI 4 cst)] ++ ((XW cI cZ d (actS σ x) z4) ++ ((SW cI cT cU ds (actS σ x) (z2 2)) ++ ((QW cI cQ w6 a6 (tG σ)) ++ (QW cI cQ w242 a242 (tG (actS σ x))))))) := va_Dp hD hp9
    show W p l e room_1 s m args below meth c H locs (cells + 246) (slots + 1466) Q (F0 m 254 ls [.int (iI (xCount (actS σ x) 1)), .int (iI (c1))])
    refine gi_sub hx hb dL_law_254 ?_
    refine lv_istore (lv' := [(18, .int (iI (c1 - (xCount (actS σ x) 1)))), (17, .ref (w242)), (16, .int (iI (alB σ r pl))), (15, .int (iI (xCount σ 7))), (14, .int (iI (w))), (13, .int (iI (hw))), (12, .int (iI (pl))), (11, .int (iI (r))), (10, .int (iI (tl))), (9, .int (iI (c5))), (8, .int (iI (c2))), (7, .int (iI (c1))), (6, .ref (w6)), (5, .int (iI (x))), (4, .int (iI (t))), (3, .ref (w4)), (2, .ref (ds 0)), (1, .ref (d 0)), (0, .ref (b))]) hx hb dL_law_255 hl (by decide) rfl (fun ls hl => ?_)
    refine lv_iload hx hb dL_law_257 (lv_at hl 10 rfl) ?_
    refine lv_aload_n hx hb dL_law_259 rfl (lv_at hl 17 rfl) ?_
    refine lv_iconst (v := iI (2)) hx hb dL_law_260 rfl ?_
    have hp9 : ((XW cI cZ d (actS σ x) z4) ++ ([(w4, aI cI 4 cst)] ++ ((SW cI cT cU ds (actS σ x) (z2 2)) ++ ((QW cI cQ w6 a6 (tG σ)) ++ (QW cI cQ w242 a242 (tG (actS σ x)))))) : va_W).Perm ([(w4, aI cI 4 cst)] ++ ((XW cI cZ d (actS σ x) z4) ++ ((SW cI cT cU ds (actS σ x) (z2 2)) ++ ((QW cI cQ w6 a6 (tG σ)) ++ (QW cI cQ w242 a242 (tG (actS σ x)))))) : va_W) := (List.perm_append_comm_assoc _ _ _)
    have hPc : va_P D vwCl ((XW cI cZ d (actS σ x) z4) ++ ([(w4, aI cI 4 cst)] ++ ((SW cI cT cU ds (actS σ x) (z2 2)) ++ ((QW cI cQ w6 a6 (tG σ)) ++ (QW cI cQ w242 a242 (tG (actS σ x))))))) H := va_mem hP (fun q9 hq9 => hp9.mem_iff.mp hq9)
    have hDc : va_D A ((XW cI cZ d (actS σ x) z4) ++ ([(w4, aI cI 4 cst)] ++ ((SW cI cT cU ds (actS σ x) (z2 2)) ++ ((QW cI cQ w6 a6 (tG σ)) ++ (QW cI cQ w242 a242 (tG (actS σ x))))))) := va_Dp hD hp9
    refine h_call0 (vx_runV (As := [.int (iI (2))]) (rest := [.int (iI (c2))]) S ((kX1_count l hfl D cI cZ d (actS σ x) z4 2 (act_ok hwf hz x).1 (by first | assumption | omega) (by first | assumption | omega)) H.size) (cwV 1 hts gL_law_X1_count rfl rfl rfl (by decide +kernel) ⟨Nat.le_of_ble_eq_true rfl, Nat.le_of_ble_eq_true rfl⟩) (h_preV hK [0, 1] rfl hPc hDc hS hA hTE (q0 := 0) (ci := 1) rfl rfl rfl) rfl rfl hl.1 rfl (lv_room (Nat.le_of_ble_eq_true rfl)) dL_law_261 ⟨by show (cells + 246) + 1 ≤ 600104; omega, by show (slots + 1466) + 6 ≤ 7301314; omega⟩) hPc hDc hS hA (fun E h => (by have h0 : (tCount 2) = 0 := (by unfold tCount; rw [if_neg (by omega)]); rcases h with ⟨_, h⟩ <;> omega)) (fun κ9 H locs hk hP hD hS => ?_)
    obtain ⟨z5, ezz5⟩ : ∃ z, z = κ9 := ⟨_, rfl⟩
    subst ezz5
    have hP : va_P D vwCl ((XW cI cZ d (actS σ x) z5) ++ ([(w4, aI cI 4 cst)] ++ ((SW cI cT cU ds (actS σ x) (z2 2)) ++ ((QW cI cQ w6 a6 (tG σ)) ++ (QW cI cQ w242 a242 (tG (actS σ x))))))) H := hP
    have hD : va_D A ((XW cI cZ d (actS σ x) z5) ++ ([(w4, aI cI 4 cst)] ++ ((SW cI cT cU ds (actS σ x) (z2 2)) ++ ((QW cI cQ w6 a6 (tG σ)) ++ (QW cI cQ w242 a242 (tG (actS σ x))))))) := hD
    have hp9 : ([(w4, aI cI 4 cst)] ++ ((XW cI cZ d (actS σ x) z5) ++ ((SW cI cT cU ds (actS σ x) (z2 2)) ++ ((QW cI cQ w6 a6 (tG σ)) ++ (QW cI cQ w242 a242 (tG (actS σ x)))))) : va_W).Perm ((XW cI cZ d (actS σ x) z5) ++ ([(w4, aI cI 4 cst)] ++ ((SW cI cT cU ds (actS σ x) (z2 2)) ++ ((QW cI cQ w6 a6 (tG σ)) ++ (QW cI cQ w242 a242 (tG (actS σ x)))))) : va_W) := (List.perm_append_comm_assoc _ _ _)
    have hP : va_P D vwCl ([(w4, aI cI 4 cst)] ++ ((XW cI cZ d (actS σ x) z5) ++ ((SW cI cT cU ds (actS σ x) (z2 2)) ++ ((QW cI cQ w6 a6 (tG σ)) ++ (QW cI cQ w242 a242 (tG (actS σ x))))))) H := va_mem hP (fun q9 hq9 => hp9.mem_iff.mp hq9)
    have hD : va_D A ([(w4, aI cI 4 cst)] ++ ((XW cI cZ d (actS σ x) z5) ++ ((SW cI cT cU ds (actS σ x) (z2 2)) ++ ((QW cI cQ w6 a6 (tG σ)) ++ (QW cI cQ w242 a242 (tG (actS σ x))))))) := va_Dp hD hp9
    show W p l e room_1 s m args below meth c H locs (cells + 247) (slots + 1472) Q (F0 m 264 ls [.int (iI (xCount (actS σ x) 2)), .int (iI (c2))])
    refine gi_sub hx hb dL_law_264 ?_
    refine lv_istore (lv' := [(19, .int (iI (c2 - (xCount (actS σ x) 2)))), (18, .int (iI (c1 - (xCount (actS σ x) 1)))), (17, .ref (w242)), (16, .int (iI (alB σ r pl))), (15, .int (iI (xCount σ 7))), (14, .int (iI (w))), (13, .int (iI (hw))), (12, .int (iI (pl))), (11, .int (iI (r))), (10, .int (iI (tl))), (9, .int (iI (c5))), (8, .int (iI (c2))), (7, .int (iI (c1))), (6, .ref (w6)), (5, .int (iI (x))), (4, .int (iI (t))), (3, .ref (w4)), (2, .ref (ds 0)), (1, .ref (d 0)), (0, .ref (b))]) hx hb dL_law_265 hl (by decide) rfl (fun ls hl => ?_)
    exact K z5 (z2 2) w242 a242 H locs (cells + 247) (slots + 1472) ls  (by omega) (by omega) hP hD hS (lv_sub hl [0, 1, 2, 3, 4, 5, 6, 7, 8, 9, 10, 11, 12, 13, 14, 15, 16, 17, 18, 19] rfl)
  · skip
    exact absurd c236 (by decide)
set_option maxHeartbeats 4000000 in
set_option maxRecDepth 100000 in
theorem lq_spent {p : Program} {l : Launch} {e : Env} {s : State} {m : MethodId} {args : Array Value} {below : List Frame} {meth : Method} {c : Code} {H : Heap} {locs : List Loc} {cells slots : Nat} {Q : State → Prop} {ls : Array Slot} {D : va_G} {A : Nat → Prop} {cI cZ cT cU cQ : ClassId} {b L : Nat} {xs : Nat → Int32} {d ds : Nat → Nat} {σ κ : St} {ι : Int → Int} {w4 : Nat} {t : Int} {x : Int} {w : Int} {r : Int} {pl : Int} {hw : Int} {c1 : Int} {c2 : Int} {c5 : Int} {tl : Int} {al : Int} {df : Int} {sl : Int} {sr : Int} {Wx : va_W} {w6 : Nat} {w17 : Nat} (G : lG p l s m c args A D cI cZ cT cU cQ b L xs) (hw9 : -1 ≤ w ∧ w ≤ 3) (hs1 : w = -1 → sl = 0 ∧ sr = 0) (hs2 : sl = 0 ∨ sl = cst w) (hs3 : sr = 0 ∨ sr = cst w) (hcc : cells + 0 ≤ 600104) (hss : slots + 0 ≤ 7301314) (hP : va_P D vwCl ([(w4, aI cI 4 cst)] ++ (Wx)) H) (hD : va_D A ([(w4, aI cI 4 cst)] ++ (Wx))) (hS : va_S A s.heap H locs) (hl : lv_has ls 35 [(19, .int (iI (sr))), (18, .int (iI (sl))), (17, .ref (w17)), (16, .int (iI (al))), (15, .int (iI (df))), (14, .int (iI (w))), (13, .int (iI (hw))), (12, .int (iI (pl))), (11, .int (iI (r))), (10, .int (iI (tl))), (9, .int (iI (c5))), (8, .int (iI (c2))), (7, .int (iI (c1))), (6, .ref (w6)), (5, .int (iI (x))), (4, .int (iI (t))), (3, .ref (w4)), (2, .ref (ds 0)), (1, .ref (d 0)), (0, .ref (b))]) (K : ∀ (H : Heap) (locs : List Loc) (cells1 slots1 : Nat) (ls : Array Slot), cells1 ≤ cells + 0 → slots1 ≤ slots + 0 → va_P D vwCl ([(w4, aI cI 4 cst)] ++ (Wx)) H → va_D A ([(w4, aI cI 4 cst)] ++ (Wx)) → va_S A s.heap H locs → lv_has ls 35 [(19, .int (iI (sr))), (18, .int (iI (sl))), (17, .ref (w17)), (16, .int (iI (al))), (15, .int (iI (df))), (14, .int (iI (w))), (13, .int (iI (hw))), (12, .int (iI (pl))), (11, .int (iI (r))), (10, .int (iI (tl))), (9, .int (iI (c5))), (8, .int (iI (c2))), (7, .int (iI (c1))), (6, .ref (w6)), (5, .int (iI (x))), (4, .int (iI (t))), (3, .ref (w4)), (2, .ref (ds 0)), (1, .ref (d 0)), (0, .ref (b))] → W p l e room_1 s m args below meth c H locs cells1 slots1 Q (F0 m 313 ls [])) : W p l e room_1 s m args below meth c H locs cells slots Q (F0 m 267 ls []) := by
  obtain ⟨S, hfl, hK, hA, hTE, hN, hX9, hL⟩ := id G
  have hE := hTE.1
  have S0 := S
  obtain ⟨hx, hb, hml, hown, hts⟩ := S0
  have hinX2 := inlX2
  have kc := cst_in w
  refine lv_iload hx hb dL_law_267 (lv_at hl 5 rfl) ?_
  refine gi_if_ge (tgt := 283) hx hb dL_law_269 (by decide) ⟨by omega, by omega⟩ (fun c269 => ?_) (fun c269 => ?_)
  · skip
    refine lv_iload hx hb dL_law_283 (lv_at hl 1 rfl) ?_
    refine gi_if_eq (tgt := 297) hx hb dL_law_285 (by decide) ⟨by omega, by omega⟩ (fun c285 => ?_) (fun c285 => ?_)
    · skip
      refine lv_iload hx hb dL_law_297 (lv_at hl 0 rfl) ?_
      refine gi_if_eq (tgt := 313) hx hb dL_law_299 (by decide) ⟨by omega, by omega⟩ (fun c299 => ?_) (fun c299 => ?_)
      · skip
        exact K  H locs cells slots ls  (by omega) (by omega) hP hD hS (lv_sub hl [0, 1, 2, 3, 4, 5, 6, 7, 8, 9, 10, 11, 12, 13, 14, 15, 16, 17, 18, 19] rfl)
      · skip
        refine lv_iload hx hb dL_law_302 (lv_at hl 0 rfl) ?_
        refine lv_aload_n hx hb dL_law_304 rfl (lv_at hl 16 rfl) ?_
        refine lv_iload hx hb dL_law_305 (lv_at hl 5 rfl) ?_
        refine gi_iald (a := (w4)) (n := 4) (f := cst) hx hb hK (g_left hP) 0 0 rfl rfl (by omega) (by omega) (by decide) dL_law_307 ?_
        refine gi_icmp_eq (tgt := 313) hx hb dL_law_308 (by decide) ⟨by omega, by omega⟩ ⟨by omega, by omega⟩ (fun c308 => ?_) (fun c308 => ?_)
        · skip
          exact K  H locs cells slots ls  (by omega) (by omega) hP hD hS (lv_sub hl [0, 1, 2, 3, 4, 5, 6, 7, 8, 9, 10, 11, 12, 13, 14, 15, 16, 17, 18, 19] rfl)
        · skip
          exfalso
          omega
    · skip
      refine lv_iload hx hb dL_law_288 (lv_at hl 1 rfl) ?_
      refine lv_aload_n hx hb dL_law_290 rfl (lv_at hl 16 rfl) ?_
      refine lv_iload hx hb dL_law_291 (lv_at hl 5 rfl) ?_
      refine gi_iald (a := (w4)) (n := 4) (f := cst) hx hb hK (g_left hP) 0 0 rfl rfl (by omega) (by omega) (by decide) dL_law_293 ?_
      refine gi_icmp_ne (tgt := 311) hx hb dL_law_294 (by decide) ⟨by omega, by omega⟩ ⟨by omega, by omega⟩ (fun c294 => ?_) (fun c294 => ?_)
      · skip
        exfalso
        omega
      · skip
        refine lv_iload hx hb dL_law_297 (lv_at hl 0 rfl) ?_
        refine gi_if_eq (tgt := 313) hx hb dL_law_299 (by decide) ⟨by omega, by omega⟩ (fun c299 => ?_) (fun c299 => ?_)
        · skip
          exact K  H locs cells slots ls  (by omega) (by omega) hP hD hS (lv_sub hl [0, 1, 2, 3, 4, 5, 6, 7, 8, 9, 10, 11, 12, 13, 14, 15, 16, 17, 18, 19] rfl)
        · skip
          refine lv_iload hx hb dL_law_302 (lv_at hl 0 rfl) ?_
          refine lv_aload_n hx hb dL_law_304 rfl (lv_at hl 16 rfl) ?_
          refine lv_iload hx hb dL_law_305 (lv_at hl 5 rfl) ?_
          refine gi_iald (a := (w4)) (n := 4) (f := cst) hx hb hK (g_left hP) 0 0 rfl rfl (by omega) (by omega) (by decide) dL_law_307 ?_
          refine gi_icmp_eq (tgt := 313) hx hb dL_law_308 (by decide) ⟨by omega, by omega⟩ ⟨by omega, by omega⟩ (fun c308 => ?_) (fun c308 => ?_)
          · skip
            exact K  H locs cells slots ls  (by omega) (by omega) hP hD hS (lv_sub hl [0, 1, 2, 3, 4, 5, 6, 7, 8, 9, 10, 11, 12, 13, 14, 15, 16, 17, 18, 19] rfl)
          · skip
            exfalso
            omega
  · skip
    refine lv_iload hx hb dL_law_272 (lv_at hl 1 rfl) ?_
    refine lv_iload hx hb dL_law_274 (lv_at hl 0 rfl) ?_
    refine gi_add hx hb dL_law_276 ?_
    refine gi_if_eq (tgt := 313) hx hb dL_law_277 (by decide) ⟨by omega, by omega⟩ (fun c277 => ?_) (fun c277 => ?_)
    · skip
      exact K  H locs cells slots ls  (by omega) (by omega) hP hD hS (lv_sub hl [0, 1, 2, 3, 4, 5, 6, 7, 8, 9, 10, 11, 12, 13, 14, 15, 16, 17, 18, 19] rfl)
    · skip
      refine lv_goto (tgt := 311) hx hb dL_law_280 (by decide) ?_
      exfalso
      omega
set_option maxHeartbeats 4000000 in
set_option maxRecDepth 100000 in
theorem lq_here {p : Program} {l : Launch} {e : Env} {s : State} {m : MethodId} {args : Array Value} {below : List Frame} {meth : Method} {c : Code} {H : Heap} {locs : List Loc} {cells slots : Nat} {Q : State → Prop} {ls : Array Slot} {D : va_G} {A : Nat → Prop} {cI cZ cT cU cQ : ClassId} {b L : Nat} {xs : Nat → Int32} {d ds : Nat → Nat} {σ κ : St} {ι : Int → Int} {w4 : Nat} {t : Int} {x : Int} {w : Int} {r : Int} {pl : Int} {hw : Int} {c1 : Int} {c2 : Int} {c5 : Int} {tl : Int} {al : Int} {df : Int} {sl : Int} {sr : Int} {h : Int} {Wx : va_W} {w6 : Nat} {w17 : Nat} (G : lG p l s m c args A D cI cZ cT cU cQ b L xs) (hp : 0 ≤ pl ∧ pl < 8) (hh : h = 0 ∨ h = 1) (h1 : pl < 4 → (0 < sl ↔ h = 1)) (h2 : ¬ pl < 4 → (0 < sr ↔ h = 1)) (hsl : -10 ≤ sl ∧ sl ≤ 10) (hsr : -10 ≤ sr ∧ sr ≤ 10) (hcc : cells + 0 ≤ 600104) (hss : slots + 0 ≤ 7301314) (hP : va_P D vwCl (Wx) H) (hD : va_D A (Wx)) (hS : va_S A s.heap H locs) (hl : lv_has ls 35 [(19, .int (iI (sr))), (18, .int (iI (sl))), (17, .ref (w17)), (16, .int (iI (al))), (15, .int (iI (df))), (14, .int (iI (w))), (13, .int (iI (hw))), (12, .int (iI (pl))), (11, .int (iI (r))), (10, .int (iI (tl))), (9, .int (iI (c5))), (8, .int (iI (c2))), (7, .int (iI (c1))), (6, .ref (w6)), (5, .int (iI (x))), (4, .int (iI (t))), (3, .ref (w4)), (2, .ref (ds 0)), (1, .ref (d 0)), (0, .ref (b))]) (K : ∀ (H : Heap) (locs : List Loc) (cells1 slots1 : Nat) (ls : Array Slot), cells1 ≤ cells + 0 → slots1 ≤ slots + 0 → va_P D vwCl (Wx) H → va_D A (Wx) → va_S A s.heap H locs → lv_has ls 35 [(20, .int (iI (h))), (19, .int (iI (sr))), (18, .int (iI (sl))), (17, .ref (w17)), (16, .int (iI (al))), (15, .int (iI (df))), (14, .int (iI (w))), (13, .int (iI (hw))), (12, .int (iI (pl))), (11, .int (iI (r))), (10, .int (iI (tl))), (9, .int (iI (c5))), (8, .int (iI (c2))), (7, .int (iI (c1))), (6, .ref (w6)), (5, .int (iI (x))), (4, .int (iI (t))), (3, .ref (w4)), (2, .ref (ds 0)), (1, .ref (d 0)), (0, .ref (b))] → W p l e room_1 s m args below meth c H locs cells1 slots1 Q (F0 m 344 ls [])) : W p l e room_1 s m args below meth c H locs cells slots Q (F0 m 313 ls []) := by
  obtain ⟨S, hfl, hK, hA, hTE, hN, hX9, hL⟩ := id G
  have hE := hTE.1
  have S0 := S
  obtain ⟨hx, hb, hml, hown, hts⟩ := S0
  have hinX2 := inlX2
  refine lv_iload hx hb dL_law_313 (lv_at hl 7 rfl) ?_
  refine lv_iconst (v := iI (4)) hx hb dL_law_315 rfl ?_
  refine gi_icmp_ge (tgt := 332) hx hb dL_law_316 (by decide) ⟨by omega, by omega⟩ ⟨by decide, by decide⟩ (fun c316 => ?_) (fun c316 => ?_)
  · skip
    refine lv_iload hx hb dL_law_332 (lv_at hl 0 rfl) ?_
    refine gi_if_le (tgt := 341) hx hb dL_law_334 (by decide) ⟨by omega, by omega⟩ (fun c334 => ?_) (fun c334 => ?_)
    · skip
      refine lv_iconst (v := iI (0)) hx hb dL_law_341 rfl ?_
      refine lv_istore (lv' := [(20, .int (iI (0))), (19, .int (iI (sr))), (18, .int (iI (sl))), (17, .ref (w17)), (16, .int (iI (al))), (15, .int (iI (df))), (14, .int (iI (w))), (13, .int (iI (hw))), (12, .int (iI (pl))), (11, .int (iI (r))), (10, .int (iI (tl))), (9, .int (iI (c5))), (8, .int (iI (c2))), (7, .int (iI (c1))), (6, .ref (w6)), (5, .int (iI (x))), (4, .int (iI (t))), (3, .ref (w4)), (2, .ref (ds 0)), (1, .ref (d 0)), (0, .ref (b))]) hx hb dL_law_342 hl (by decide) rfl (fun ls hl => ?_)
      have e9 : h = 0 := by omega
      subst e9
      exact K  H locs cells slots ls  (by omega) (by omega) hP hD hS (lv_sub hl [0, 1, 2, 3, 4, 5, 6, 7, 8, 9, 10, 11, 12, 13, 14, 15, 16, 17, 18, 19, 20] rfl)
    · skip
      refine lv_iconst (v := iI (1)) hx hb dL_law_337 rfl ?_
      refine lv_goto (tgt := 342) hx hb dL_law_338 (by decide) ?_
      refine lv_istore (lv' := [(20, .int (iI (1))), (19, .int (iI (sr))), (18, .int (iI (sl))), (17, .ref (w17)), (16, .int (iI (al))), (15, .int (iI (df))), (14, .int (iI (w))), (13, .int (iI (hw))), (12, .int (iI (pl))), (11, .int (iI (r))), (10, .int (iI (tl))), (9, .int (iI (c5))), (8, .int (iI (c2))), (7, .int (iI (c1))), (6, .ref (w6)), (5, .int (iI (x))), (4, .int (iI (t))), (3, .ref (w4)), (2, .ref (ds 0)), (1, .ref (d 0)), (0, .ref (b))]) hx hb dL_law_342 hl (by decide) rfl (fun ls hl => ?_)
      have e9 : h = 1 := by omega
      subst e9
      exact K  H locs cells slots ls  (by omega) (by omega) hP hD hS (lv_sub hl [0, 1, 2, 3, 4, 5, 6, 7, 8, 9, 10, 11, 12, 13, 14, 15, 16, 17, 18, 19, 20] rfl)
  · skip
    refine lv_iload hx hb dL_law_319 (lv_at hl 1 rfl) ?_
    refine gi_if_le (tgt := 328) hx hb dL_law_321 (by decide) ⟨by omega, by omega⟩ (fun c321 => ?_) (fun c321 => ?_)
    · skip
      refine lv_iconst (v := iI (0)) hx hb dL_law_328 rfl ?_
      refine lv_goto (tgt := 342) hx hb dL_law_329 (by decide) ?_
      refine lv_istore (lv' := [(20, .int (iI (0))), (19, .int (iI (sr))), (18, .int (iI (sl))), (17, .ref (w17)), (16, .int (iI (al))), (15, .int (iI (df))), (14, .int (iI (w))), (13, .int (iI (hw))), (12, .int (iI (pl))), (11, .int (iI (r))), (10, .int (iI (tl))), (9, .int (iI (c5))), (8, .int (iI (c2))), (7, .int (iI (c1))), (6, .ref (w6)), (5, .int (iI (x))), (4, .int (iI (t))), (3, .ref (w4)), (2, .ref (ds 0)), (1, .ref (d 0)), (0, .ref (b))]) hx hb dL_law_342 hl (by decide) rfl (fun ls hl => ?_)
      have e9 : h = 0 := by omega
      subst e9
      exact K  H locs cells slots ls  (by omega) (by omega) hP hD hS (lv_sub hl [0, 1, 2, 3, 4, 5, 6, 7, 8, 9, 10, 11, 12, 13, 14, 15, 16, 17, 18, 19, 20] rfl)
    · skip
      refine lv_iconst (v := iI (1)) hx hb dL_law_324 rfl ?_
      refine lv_goto (tgt := 342) hx hb dL_law_325 (by decide) ?_
      refine lv_istore (lv' := [(20, .int (iI (1))), (19, .int (iI (sr))), (18, .int (iI (sl))), (17, .ref (w17)), (16, .int (iI (al))), (15, .int (iI (df))), (14, .int (iI (w))), (13, .int (iI (hw))), (12, .int (iI (pl))), (11, .int (iI (r))), (10, .int (iI (tl))), (9, .int (iI (c5))), (8, .int (iI (c2))), (7, .int (iI (c1))), (6, .ref (w6)), (5, .int (iI (x))), (4, .int (iI (t))), (3, .ref (w4)), (2, .ref (ds 0)), (1, .ref (d 0)), (0, .ref (b))]) hx hb dL_law_342 hl (by decide) rfl (fun ls hl => ?_)
      have e9 : h = 1 := by omega
      subst e9
      exact K  H locs cells slots ls  (by omega) (by omega) hP hD hS (lv_sub hl [0, 1, 2, 3, 4, 5, 6, 7, 8, 9, 10, 11, 12, 13, 14, 15, 16, 17, 18, 19, 20] rfl)
set_option maxHeartbeats 4000000 in
set_option maxRecDepth 100000 in
theorem lq_there {p : Program} {l : Launch} {e : Env} {s : State} {m : MethodId} {args : Array Value} {below : List Frame} {meth : Method} {c : Code} {H : Heap} {locs : List Loc} {cells slots : Nat} {Q : State → Prop} {ls : Array Slot} {D : va_G} {A : Nat → Prop} {cI cZ cT cU cQ : ClassId} {b L : Nat} {xs : Nat → Int32} {d ds : Nat → Nat} {σ κ : St} {ι : Int → Int} {w4 : Nat} {t : Int} {x : Int} {w : Int} {r : Int} {pl : Int} {hw : Int} {c1 : Int} {c2 : Int} {c5 : Int} {tl : Int} {al : Int} {df : Int} {sl : Int} {sr : Int} {h : Int} {tt : Int} {Wx : va_W} {w6 : Nat} {w17 : Nat} (G : lG p l s m c args A D cI cZ cT cU cQ b L xs) (hp : 0 ≤ pl ∧ pl < 8) (hh : tt = 0 ∨ tt = 1) (h1 : pl < 4 → (0 < sr ↔ tt = 1)) (h2 : ¬ pl < 4 → (0 < sl ↔ tt = 1)) (hsl : -10 ≤ sl ∧ sl ≤ 10) (hsr : -10 ≤ sr ∧ sr ≤ 10) (hcc : cells + 0 ≤ 600104) (hss : slots + 0 ≤ 7301314) (hP : va_P D vwCl (Wx) H) (hD : va_D A (Wx)) (hS : va_S A s.heap H locs) (hl : lv_has ls 35 [(20, .int (iI (h))), (19, .int (iI (sr))), (18, .int (iI (sl))), (17, .ref (w17)), (16, .int (iI (al))), (15, .int (iI (df))), (14, .int (iI (w))), (13, .int (iI (hw))), (12, .int (iI (pl))), (11, .int (iI (r))), (10, .int (iI (tl))), (9, .int (iI (c5))), (8, .int (iI (c2))), (7, .int (iI (c1))), (6, .ref (w6)), (5, .int (iI (x))), (4, .int (iI (t))), (3, .ref (w4)), (2, .ref (ds 0)), (1, .ref (d 0)), (0, .ref (b))]) (K : ∀ (H : Heap) (locs : List Loc) (cells1 slots1 : Nat) (ls : Array Slot), cells1 ≤ cells + 0 → slots1 ≤ slots + 0 → va_P D vwCl (Wx) H → va_D A (Wx) → va_S A s.heap H locs → lv_has ls 35 [(21, .int (iI (tt))), (20, .int (iI (h))), (19, .int (iI (sr))), (18, .int (iI (sl))), (17, .ref (w17)), (16, .int (iI (al))), (15, .int (iI (df))), (14, .int (iI (w))), (13, .int (iI (hw))), (12, .int (iI (pl))), (11, .int (iI (r))), (10, .int (iI (tl))), (9, .int (iI (c5))), (8, .int (iI (c2))), (7, .int (iI (c1))), (6, .ref (w6)), (5, .int (iI (x))), (4, .int (iI (t))), (3, .ref (w4)), (2, .ref (ds 0)), (1, .ref (d 0)), (0, .ref (b))] → W p l e room_1 s m args below meth c H locs cells1 slots1 Q (F0 m 375 ls [])) : W p l e room_1 s m args below meth c H locs cells slots Q (F0 m 344 ls []) := by
  obtain ⟨S, hfl, hK, hA, hTE, hN, hX9, hL⟩ := id G
  have hE := hTE.1
  have S0 := S
  obtain ⟨hx, hb, hml, hown, hts⟩ := S0
  have hinX2 := inlX2
  refine lv_iload hx hb dL_law_344 (lv_at hl 8 rfl) ?_
  refine lv_iconst (v := iI (4)) hx hb dL_law_346 rfl ?_
  refine gi_icmp_ge (tgt := 363) hx hb dL_law_347 (by decide) ⟨by omega, by omega⟩ ⟨by decide, by decide⟩ (fun c347 => ?_) (fun c347 => ?_)
  · skip
    refine lv_iload hx hb dL_law_363 (lv_at hl 2 rfl) ?_
    refine gi_if_le (tgt := 372) hx hb dL_law_365 (by decide) ⟨by omega, by omega⟩ (fun c365 => ?_) (fun c365 => ?_)
    · skip
      refine lv_iconst (v := iI (0)) hx hb dL_law_372 rfl ?_
      refine lv_istore (lv' := [(21, .int (iI (0))), (20, .int (iI (h))), (19, .int (iI (sr))), (18, .int (iI (sl))), (17, .ref (w17)), (16, .int (iI (al))), (15, .int (iI (df))), (14, .int (iI (w))), (13, .int (iI (hw))), (12, .int (iI (pl))), (11, .int (iI (r))), (10, .int (iI (tl))), (9, .int (iI (c5))), (8, .int (iI (c2))), (7, .int (iI (c1))), (6, .ref (w6)), (5, .int (iI (x))), (4, .int (iI (t))), (3, .ref (w4)), (2, .ref (ds 0)), (1, .ref (d 0)), (0, .ref (b))]) hx hb dL_law_373 hl (by decide) rfl (fun ls hl => ?_)
      have e9 : tt = 0 := by omega
      subst e9
      exact K  H locs cells slots ls  (by omega) (by omega) hP hD hS (lv_sub hl [0, 1, 2, 3, 4, 5, 6, 7, 8, 9, 10, 11, 12, 13, 14, 15, 16, 17, 18, 19, 20, 21] rfl)
    · skip
      refine lv_iconst (v := iI (1)) hx hb dL_law_368 rfl ?_
      refine lv_goto (tgt := 373) hx hb dL_law_369 (by decide) ?_
      refine lv_istore (lv' := [(21, .int (iI (1))), (20, .int (iI (h))), (19, .int (iI (sr))), (18, .int (iI (sl))), (17, .ref (w17)), (16, .int (iI (al))), (15, .int (iI (df))), (14, .int (iI (w))), (13, .int (iI (hw))), (12, .int (iI (pl))), (11, .int (iI (r))), (10, .int (iI (tl))), (9, .int (iI (c5))), (8, .int (iI (c2))), (7, .int (iI (c1))), (6, .ref (w6)), (5, .int (iI (x))), (4, .int (iI (t))), (3, .ref (w4)), (2, .ref (ds 0)), (1, .ref (d 0)), (0, .ref (b))]) hx hb dL_law_373 hl (by decide) rfl (fun ls hl => ?_)
      have e9 : tt = 1 := by omega
      subst e9
      exact K  H locs cells slots ls  (by omega) (by omega) hP hD hS (lv_sub hl [0, 1, 2, 3, 4, 5, 6, 7, 8, 9, 10, 11, 12, 13, 14, 15, 16, 17, 18, 19, 20, 21] rfl)
  · skip
    refine lv_iload hx hb dL_law_350 (lv_at hl 1 rfl) ?_
    refine gi_if_le (tgt := 359) hx hb dL_law_352 (by decide) ⟨by omega, by omega⟩ (fun c352 => ?_) (fun c352 => ?_)
    · skip
      refine lv_iconst (v := iI (0)) hx hb dL_law_359 rfl ?_
      refine lv_goto (tgt := 373) hx hb dL_law_360 (by decide) ?_
      refine lv_istore (lv' := [(21, .int (iI (0))), (20, .int (iI (h))), (19, .int (iI (sr))), (18, .int (iI (sl))), (17, .ref (w17)), (16, .int (iI (al))), (15, .int (iI (df))), (14, .int (iI (w))), (13, .int (iI (hw))), (12, .int (iI (pl))), (11, .int (iI (r))), (10, .int (iI (tl))), (9, .int (iI (c5))), (8, .int (iI (c2))), (7, .int (iI (c1))), (6, .ref (w6)), (5, .int (iI (x))), (4, .int (iI (t))), (3, .ref (w4)), (2, .ref (ds 0)), (1, .ref (d 0)), (0, .ref (b))]) hx hb dL_law_373 hl (by decide) rfl (fun ls hl => ?_)
      have e9 : tt = 0 := by omega
      subst e9
      exact K  H locs cells slots ls  (by omega) (by omega) hP hD hS (lv_sub hl [0, 1, 2, 3, 4, 5, 6, 7, 8, 9, 10, 11, 12, 13, 14, 15, 16, 17, 18, 19, 20, 21] rfl)
    · skip
      refine lv_iconst (v := iI (1)) hx hb dL_law_355 rfl ?_
      refine lv_goto (tgt := 373) hx hb dL_law_356 (by decide) ?_
      refine lv_istore (lv' := [(21, .int (iI (1))), (20, .int (iI (h))), (19, .int (iI (sr))), (18, .int (iI (sl))), (17, .ref (w17)), (16, .int (iI (al))), (15, .int (iI (df))), (14, .int (iI (w))), (13, .int (iI (hw))), (12, .int (iI (pl))), (11, .int (iI (r))), (10, .int (iI (tl))), (9, .int (iI (c5))), (8, .int (iI (c2))), (7, .int (iI (c1))), (6, .ref (w6)), (5, .int (iI (x))), (4, .int (iI (t))), (3, .ref (w4)), (2, .ref (ds 0)), (1, .ref (d 0)), (0, .ref (b))]) hx hb dL_law_373 hl (by decide) rfl (fun ls hl => ?_)
      have e9 : tt = 1 := by omega
      subst e9
      exact K  H locs cells slots ls  (by omega) (by omega) hP hD hS (lv_sub hl [0, 1, 2, 3, 4, 5, 6, 7, 8, 9, 10, 11, 12, 13, 14, 15, 16, 17, 18, 19, 20, 21] rfl)
set_option maxHeartbeats 4000000 in
set_option maxRecDepth 100000 in
theorem lq_asked {p : Program} {l : Launch} {e : Env} {s : State} {m : MethodId} {args : Array Value} {below : List Frame} {meth : Method} {c : Code} {H : Heap} {locs : List Loc} {cells slots : Nat} {Q : State → Prop} {ls : Array Slot} {D : va_G} {A : Nat → Prop} {cI cZ cT cU cQ : ClassId} {b L : Nat} {xs : Nat → Int32} {d ds : Nat → Nat} {σ κ : St} {ι : Int → Int} {w4 : Nat} {t : Int} {k : Int} {x : Int} {w : Int} {r : Int} {pl : Int} {hw : Int} {c1 : Int} {c2 : Int} {c5 : Int} {tl : Int} {al : Int} {df : Int} {sl : Int} {sr : Int} {h : Int} {tt : Int} {Wx : va_W} {w6 : Nat} {w17 : Nat} (G : lG p l s m c args A D cI cZ cT cU cQ b L xs) (hk : 0 ≤ k ∧ k < 40) (hr : 0 ≤ r ∧ r < 5) (hp : 0 ≤ pl ∧ pl < 8) (hw9 : -1 ≤ w ∧ w ≤ 3) (hh : h = 0 ∨ h = 1) (ht : tt = 0 ∨ tt = 1) (hwm : w = -1 → h = 0 ∧ tt = 0) (hcc : cells + 0 ≤ 600104) (hss : slots + 0 ≤ 7301314) (hP : va_P D vwCl (Wx) H) (hD : va_D A (Wx)) (hS : va_S A s.heap H locs) (hl : lv_has ls 35 [(22, .int (iI (k))), (21, .int (iI (tt))), (20, .int (iI (h))), (19, .int (iI (sr))), (18, .int (iI (sl))), (17, .ref (w17)), (16, .int (iI (al))), (15, .int (iI (df))), (14, .int (iI (w))), (13, .int (iI (hw))), (12, .int (iI (pl))), (11, .int (iI (r))), (10, .int (iI (tl))), (9, .int (iI (c5))), (8, .int (iI (c2))), (7, .int (iI (c1))), (6, .ref (w6)), (5, .int (iI (x))), (4, .int (iI (t))), (3, .ref (w4)), (2, .ref (ds 0)), (1, .ref (d 0)), (0, .ref (b))]) (K : ∀ (q : Int) (H : Heap) (locs : List Loc) (cells1 slots1 : Nat) (ls : Array Slot), ((q = 0 ∧ ¬ (k = r * 8 + pl ∧ h = 1) ∧ ¬ (k = r * 8 + (7 - pl) ∧ tt = 1)) ∨ (q = 1 ∧ ((k = r * 8 + pl ∧ h = 1) ∨ (k = r * 8 + (7 - pl) ∧ tt = 1)))) → cells1 ≤ cells + 0 → slots1 ≤ slots + 0 → va_P D vwCl (Wx) H → va_D A (Wx) → va_S A s.heap H locs → lv_has ls 35 [(23, .int (iI (q))), (22, .int (iI (k))), (21, .int (iI (tt))), (20, .int (iI (h))), (19, .int (iI (sr))), (18, .int (iI (sl))), (17, .ref (w17)), (16, .int (iI (al))), (15, .int (iI (df))), (14, .int (iI (w))), (13, .int (iI (hw))), (12, .int (iI (pl))), (11, .int (iI (r))), (10, .int (iI (tl))), (9, .int (iI (c5))), (8, .int (iI (c2))), (7, .int (iI (c1))), (6, .ref (w6)), (5, .int (iI (x))), (4, .int (iI (t))), (3, .ref (w4)), (2, .ref (ds 0)), (1, .ref (d 0)), (0, .ref (b))] → W p l e room_1 s m args below meth c H locs cells1 slots1 Q (F0 m 440 ls [])) : W p l e room_1 s m args below meth c H locs cells slots Q (F0 m 385 ls []) := by
  obtain ⟨S, hfl, hK, hA, hTE, hN, hX9, hL⟩ := id G
  have hE := hTE.1
  have S0 := S
  obtain ⟨hx, hb, hml, hown, hts⟩ := S0
  have hinX2 := inlX2
  refine lv_iload hx hb dL_law_385 (lv_at hl 8 rfl) ?_
  refine gi_if_lt (tgt := 437) hx hb dL_law_387 (by decide) ⟨by omega, by omega⟩ (fun c387 => ?_) (fun c387 => ?_)
  · skip
    refine lv_iconst (v := iI (0)) hx hb dL_law_437 rfl ?_
    refine lv_istore (lv' := [(23, .int (iI (0))), (22, .int (iI (k))), (21, .int (iI (tt))), (20, .int (iI (h))), (19, .int (iI (sr))), (18, .int (iI (sl))), (17, .ref (w17)), (16, .int (iI (al))), (15, .int (iI (df))), (14, .int (iI (w))), (13, .int (iI (hw))), (12, .int (iI (pl))), (11, .int (iI (r))), (10, .int (iI (tl))), (9, .int (iI (c5))), (8, .int (iI (c2))), (7, .int (iI (c1))), (6, .ref (w6)), (5, .int (iI (x))), (4, .int (iI (t))), (3, .ref (w4)), (2, .ref (ds 0)), (1, .ref (d 0)), (0, .ref (b))]) hx hb dL_law_438 hl (by decide) rfl (fun ls hl => ?_)
    exact K 0 H locs cells slots ls (by omega) (by omega) (by omega) hP hD hS (lv_sub hl [0, 1, 2, 3, 4, 5, 6, 7, 8, 9, 10, 11, 12, 13, 14, 15, 16, 17, 18, 19, 20, 21, 22, 23] rfl)
  · skip
    refine lv_iload hx hb dL_law_390 (lv_at hl 0 rfl) ?_
    refine lv_bipush (v := iI (8)) hx hb dL_law_392 rfl ?_
    refine gi_div hx hb ⟨by omega, by omega⟩ ⟨by omega, by omega⟩ dL_law_394 ?_
    refine lv_iload hx hb dL_law_395 (lv_at hl 11 rfl) ?_
    refine gi_icmp_ne (tgt := 437) hx hb dL_law_397 (by decide) ⟨by omega, by omega⟩ ⟨by omega, by omega⟩ (fun c397 => ?_) (fun c397 => ?_)
    · skip
      refine lv_iconst (v := iI (0)) hx hb dL_law_437 rfl ?_
      refine lv_istore (lv' := [(23, .int (iI (0))), (22, .int (iI (k))), (21, .int (iI (tt))), (20, .int (iI (h))), (19, .int (iI (sr))), (18, .int (iI (sl))), (17, .ref (w17)), (16, .int (iI (al))), (15, .int (iI (df))), (14, .int (iI (w))), (13, .int (iI (hw))), (12, .int (iI (pl))), (11, .int (iI (r))), (10, .int (iI (tl))), (9, .int (iI (c5))), (8, .int (iI (c2))), (7, .int (iI (c1))), (6, .ref (w6)), (5, .int (iI (x))), (4, .int (iI (t))), (3, .ref (w4)), (2, .ref (ds 0)), (1, .ref (d 0)), (0, .ref (b))]) hx hb dL_law_438 hl (by decide) rfl (fun ls hl => ?_)
      exact K 0 H locs cells slots ls (by omega) (by omega) (by omega) hP hD hS (lv_sub hl [0, 1, 2, 3, 4, 5, 6, 7, 8, 9, 10, 11, 12, 13, 14, 15, 16, 17, 18, 19, 20, 21, 22, 23] rfl)
    · skip
      refine lv_iload hx hb dL_law_400 (lv_at hl 0 rfl) ?_
      refine lv_bipush (v := iI (8)) hx hb dL_law_402 rfl ?_
      refine gi_rem hx hb ⟨by omega, by omega⟩ ⟨by omega, by omega⟩ dL_law_404 ?_
      refine lv_iload hx hb dL_law_405 (lv_at hl 10 rfl) ?_
      refine gi_icmp_ne (tgt := 415) hx hb dL_law_407 (by decide) ⟨by omega, by omega⟩ ⟨by omega, by omega⟩ (fun c407 => ?_) (fun c407 => ?_)
      · skip
        refine lv_iload hx hb dL_law_415 (lv_at hl 0 rfl) ?_
        refine lv_bipush (v := iI (8)) hx hb dL_law_417 rfl ?_
        refine gi_rem hx hb ⟨by omega, by omega⟩ ⟨by omega, by omega⟩ dL_law_419 ?_
        refine lv_bipush (v := iI (7)) hx hb dL_law_420 rfl ?_
        refine lv_iload hx hb dL_law_422 (lv_at hl 10 rfl) ?_
        refine gi_sub hx hb dL_law_424 ?_
        refine gi_icmp_ne (tgt := 437) hx hb dL_law_425 (by decide) ⟨by omega, by omega⟩ ⟨by omega, by omega⟩ (fun c425 => ?_) (fun c425 => ?_)
        · skip
          refine lv_iconst (v := iI (0)) hx hb dL_law_437 rfl ?_
          refine lv_istore (lv' := [(23, .int (iI (0))), (22, .int (iI (k))), (21, .int (iI (tt))), (20, .int (iI (h))), (19, .int (iI (sr))), (18, .int (iI (sl))), (17, .ref (w17)), (16, .int (iI (al))), (15, .int (iI (df))), (14, .int (iI (w))), (13, .int (iI (hw))), (12, .int (iI (pl))), (11, .int (iI (r))), (10, .int (iI (tl))), (9, .int (iI (c5))), (8, .int (iI (c2))), (7, .int (iI (c1))), (6, .ref (w6)), (5, .int (iI (x))), (4, .int (iI (t))), (3, .ref (w4)), (2, .ref (ds 0)), (1, .ref (d 0)), (0, .ref (b))]) hx hb dL_law_438 hl (by decide) rfl (fun ls hl => ?_)
          exact K 0 H locs cells slots ls (by omega) (by omega) (by omega) hP hD hS (lv_sub hl [0, 1, 2, 3, 4, 5, 6, 7, 8, 9, 10, 11, 12, 13, 14, 15, 16, 17, 18, 19, 20, 21, 22, 23] rfl)
        · skip
          refine lv_iload hx hb dL_law_428 (lv_at hl 1 rfl) ?_
          refine gi_if_eq (tgt := 437) hx hb dL_law_430 (by decide) ⟨by omega, by omega⟩ (fun c430 => ?_) (fun c430 => ?_)
          · skip
            refine lv_iconst (v := iI (0)) hx hb dL_law_437 rfl ?_
            refine lv_istore (lv' := [(23, .int (iI (0))), (22, .int (iI (k))), (21, .int (iI (tt))), (20, .int (iI (h))), (19, .int (iI (sr))), (18, .int (iI (sl))), (17, .ref (w17)), (16, .int (iI (al))), (15, .int (iI (df))), (14, .int (iI (w))), (13, .int (iI (hw))), (12, .int (iI (pl))), (11, .int (iI (r))), (10, .int (iI (tl))), (9, .int (iI (c5))), (8, .int (iI (c2))), (7, .int (iI (c1))), (6, .ref (w6)), (5, .int (iI (x))), (4, .int (iI (t))), (3, .ref (w4)), (2, .ref (ds 0)), (1, .ref (d 0)), (0, .ref (b))]) hx hb dL_law_438 hl (by decide) rfl (fun ls hl => ?_)
            exact K 0 H locs cells slots ls (by omega) (by omega) (by omega) hP hD hS (lv_sub hl [0, 1, 2, 3, 4, 5, 6, 7, 8, 9, 10, 11, 12, 13, 14, 15, 16, 17, 18, 19, 20, 21, 22, 23] rfl)
          · skip
            refine lv_iconst (v := iI (1)) hx hb dL_law_433 rfl ?_
            refine lv_goto (tgt := 438) hx hb dL_law_434 (by decide) ?_
            refine lv_istore (lv' := [(23, .int (iI (1))), (22, .int (iI (k))), (21, .int (iI (tt))), (20, .int (iI (h))), (19, .int (iI (sr))), (18, .int (iI (sl))), (17, .ref (w17)), (16, .int (iI (al))), (15, .int (iI (df))), (14, .int (iI (w))), (13, .int (iI (hw))), (12, .int (iI (pl))), (11, .int (iI (r))), (10, .int (iI (tl))), (9, .int (iI (c5))), (8, .int (iI (c2))), (7, .int (iI (c1))), (6, .ref (w6)), (5, .int (iI (x))), (4, .int (iI (t))), (3, .ref (w4)), (2, .ref (ds 0)), (1, .ref (d 0)), (0, .ref (b))]) hx hb dL_law_438 hl (by decide) rfl (fun ls hl => ?_)
            exact K 1 H locs cells slots ls (by omega) (by omega) (by omega) hP hD hS (lv_sub hl [0, 1, 2, 3, 4, 5, 6, 7, 8, 9, 10, 11, 12, 13, 14, 15, 16, 17, 18, 19, 20, 21, 22, 23] rfl)
      · skip
        refine lv_iload hx hb dL_law_410 (lv_at hl 2 rfl) ?_
        refine gi_if_ne (tgt := 433) hx hb dL_law_412 (by decide) ⟨by omega, by omega⟩ (fun c412 => ?_) (fun c412 => ?_)
        · skip
          refine lv_iconst (v := iI (1)) hx hb dL_law_433 rfl ?_
          refine lv_goto (tgt := 438) hx hb dL_law_434 (by decide) ?_
          refine lv_istore (lv' := [(23, .int (iI (1))), (22, .int (iI (k))), (21, .int (iI (tt))), (20, .int (iI (h))), (19, .int (iI (sr))), (18, .int (iI (sl))), (17, .ref (w17)), (16, .int (iI (al))), (15, .int (iI (df))), (14, .int (iI (w))), (13, .int (iI (hw))), (12, .int (iI (pl))), (11, .int (iI (r))), (10, .int (iI (tl))), (9, .int (iI (c5))), (8, .int (iI (c2))), (7, .int (iI (c1))), (6, .ref (w6)), (5, .int (iI (x))), (4, .int (iI (t))), (3, .ref (w4)), (2, .ref (ds 0)), (1, .ref (d 0)), (0, .ref (b))]) hx hb dL_law_438 hl (by decide) rfl (fun ls hl => ?_)
          exact K 1 H locs cells slots ls (by omega) (by omega) (by omega) hP hD hS (lv_sub hl [0, 1, 2, 3, 4, 5, 6, 7, 8, 9, 10, 11, 12, 13, 14, 15, 16, 17, 18, 19, 20, 21, 22, 23] rfl)
        · skip
          refine lv_iload hx hb dL_law_415 (lv_at hl 0 rfl) ?_
          refine lv_bipush (v := iI (8)) hx hb dL_law_417 rfl ?_
          refine gi_rem hx hb ⟨by omega, by omega⟩ ⟨by omega, by omega⟩ dL_law_419 ?_
          refine lv_bipush (v := iI (7)) hx hb dL_law_420 rfl ?_
          refine lv_iload hx hb dL_law_422 (lv_at hl 10 rfl) ?_
          refine gi_sub hx hb dL_law_424 ?_
          refine gi_icmp_ne (tgt := 437) hx hb dL_law_425 (by decide) ⟨by omega, by omega⟩ ⟨by omega, by omega⟩ (fun c425 => ?_) (fun c425 => ?_)
          · skip
            refine lv_iconst (v := iI (0)) hx hb dL_law_437 rfl ?_
            refine lv_istore (lv' := [(23, .int (iI (0))), (22, .int (iI (k))), (21, .int (iI (tt))), (20, .int (iI (h))), (19, .int (iI (sr))), (18, .int (iI (sl))), (17, .ref (w17)), (16, .int (iI (al))), (15, .int (iI (df))), (14, .int (iI (w))), (13, .int (iI (hw))), (12, .int (iI (pl))), (11, .int (iI (r))), (10, .int (iI (tl))), (9, .int (iI (c5))), (8, .int (iI (c2))), (7, .int (iI (c1))), (6, .ref (w6)), (5, .int (iI (x))), (4, .int (iI (t))), (3, .ref (w4)), (2, .ref (ds 0)), (1, .ref (d 0)), (0, .ref (b))]) hx hb dL_law_438 hl (by decide) rfl (fun ls hl => ?_)
            exact K 0 H locs cells slots ls (by omega) (by omega) (by omega) hP hD hS (lv_sub hl [0, 1, 2, 3, 4, 5, 6, 7, 8, 9, 10, 11, 12, 13, 14, 15, 16, 17, 18, 19, 20, 21, 22, 23] rfl)
          · skip
            refine lv_iload hx hb dL_law_428 (lv_at hl 1 rfl) ?_
            refine gi_if_eq (tgt := 437) hx hb dL_law_430 (by decide) ⟨by omega, by omega⟩ (fun c430 => ?_) (fun c430 => ?_)
            · skip
              refine lv_iconst (v := iI (0)) hx hb dL_law_437 rfl ?_
              refine lv_istore (lv' := [(23, .int (iI (0))), (22, .int (iI (k))), (21, .int (iI (tt))), (20, .int (iI (h))), (19, .int (iI (sr))), (18, .int (iI (sl))), (17, .ref (w17)), (16, .int (iI (al))), (15, .int (iI (df))), (14, .int (iI (w))), (13, .int (iI (hw))), (12, .int (iI (pl))), (11, .int (iI (r))), (10, .int (iI (tl))), (9, .int (iI (c5))), (8, .int (iI (c2))), (7, .int (iI (c1))), (6, .ref (w6)), (5, .int (iI (x))), (4, .int (iI (t))), (3, .ref (w4)), (2, .ref (ds 0)), (1, .ref (d 0)), (0, .ref (b))]) hx hb dL_law_438 hl (by decide) rfl (fun ls hl => ?_)
              exact K 0 H locs cells slots ls (by omega) (by omega) (by omega) hP hD hS (lv_sub hl [0, 1, 2, 3, 4, 5, 6, 7, 8, 9, 10, 11, 12, 13, 14, 15, 16, 17, 18, 19, 20, 21, 22, 23] rfl)
            · skip
              refine lv_iconst (v := iI (1)) hx hb dL_law_433 rfl ?_
              refine lv_goto (tgt := 438) hx hb dL_law_434 (by decide) ?_
              refine lv_istore (lv' := [(23, .int (iI (1))), (22, .int (iI (k))), (21, .int (iI (tt))), (20, .int (iI (h))), (19, .int (iI (sr))), (18, .int (iI (sl))), (17, .ref (w17)), (16, .int (iI (al))), (15, .int (iI (df))), (14, .int (iI (w))), (13, .int (iI (hw))), (12, .int (iI (pl))), (11, .int (iI (r))), (10, .int (iI (tl))), (9, .int (iI (c5))), (8, .int (iI (c2))), (7, .int (iI (c1))), (6, .ref (w6)), (5, .int (iI (x))), (4, .int (iI (t))), (3, .ref (w4)), (2, .ref (ds 0)), (1, .ref (d 0)), (0, .ref (b))]) hx hb dL_law_438 hl (by decide) rfl (fun ls hl => ?_)
              exact K 1 H locs cells slots ls (by omega) (by omega) (by omega) hP hD hS (lv_sub hl [0, 1, 2, 3, 4, 5, 6, 7, 8, 9, 10, 11, 12, 13, 14, 15, 16, 17, 18, 19, 20, 21, 22, 23] rfl)
set_option maxHeartbeats 4000000 in
set_option maxRecDepth 100000 in
theorem lq_unch {p : Program} {l : Launch} {e : Env} {s : State} {m : MethodId} {args : Array Value} {below : List Frame} {meth : Method} {c : Code} {H : Heap} {locs : List Loc} {cells slots : Nat} {Q : State → Prop} {ls : Array Slot} {D : va_G} {A : Nat → Prop} {cI cZ cT cU cQ : ClassId} {b L : Nat} {xs : Nat → Int32} {d ds : Nat → Nat} {σ κ : St} {ι : Int → Int} {w4 : Nat} {t : Int} {k : Int} {q : Int} {x : Int} {w : Int} {r : Int} {pl : Int} {hw : Int} {c1 : Int} {c2 : Int} {c5 : Int} {tl : Int} {al : Int} {df : Int} {sl : Int} {sr : Int} {h : Int} {tt : Int} {Wx : va_W} {w6 : Nat} {w17 : Nat} {a6 : Nat → Nat} {a17 : Nat → Nat} {τ : St} (G : lG p l s m c args A D cI cZ cT cU cQ b L xs) (hwf : xWF σ) (hwt : xWF τ) (hk : 0 ≤ k ∧ k < 40) (hq : q = 0 ∨ q = 1) (hq0 : q = 0 → τ 4 k = σ 4 k ∧ τ 5 k = σ 5 k ∧ τ 6 k = σ 6 k ∧ τ 7 k = σ 7 k) (hcc : cells + 0 ≤ 600104) (hss : slots + 0 ≤ 7301314) (hP : va_P D vwCl (Wx ++ ((QW cI cQ w6 a6 (tG σ)) ++ (QW cI cQ w17 a17 (tG τ)))) H) (hD : va_D A (Wx ++ ((QW cI cQ w6 a6 (tG σ)) ++ (QW cI cQ w17 a17 (tG τ))))) (hS : va_S A s.heap H locs) (hl : lv_has ls 35 [(23, .int (iI (q))), (22, .int (iI (k))), (21, .int (iI (tt))), (20, .int (iI (h))), (19, .int (iI (sr))), (18, .int (iI (sl))), (17, .ref (w17)), (16, .int (iI (al))), (15, .int (iI (df))), (14, .int (iI (w))), (13, .int (iI (hw))), (12, .int (iI (pl))), (11, .int (iI (r))), (10, .int (iI (tl))), (9, .int (iI (c5))), (8, .int (iI (c2))), (7, .int (iI (c1))), (6, .ref (w6)), (5, .int (iI (x))), (4, .int (iI (t))), (3, .ref (w4)), (2, .ref (ds 0)), (1, .ref (d 0)), (0, .ref (b))]) (K : ∀ (H : Heap) (locs : List Loc) (cells1 slots1 : Nat) (ls : Array Slot), cells1 ≤ cells + 0 → slots1 ≤ slots + 0 → va_P D vwCl (Wx ++ ((QW cI cQ w6 a6 (tG σ)) ++ (QW cI cQ w17 a17 (tG τ)))) H → va_D A (Wx ++ ((QW cI cQ w6 a6 (tG σ)) ++ (QW cI cQ w17 a17 (tG τ)))) → va_S A s.heap H locs → lv_has ls 35 [(23, .int (iI (q))), (22, .int (iI (k))), (21, .int (iI (tt))), (20, .int (iI (h))), (19, .int (iI (sr))), (18, .int (iI (sl))), (17, .ref (w17)), (16, .int (iI (al))), (15, .int (iI (df))), (14, .int (iI (w))), (13, .int (iI (hw))), (12, .int (iI (pl))), (11, .int (iI (r))), (10, .int (iI (tl))), (9, .int (iI (c5))), (8, .int (iI (c2))), (7, .int (iI (c1))), (6, .ref (w6)), (5, .int (iI (x))), (4, .int (iI (t))), (3, .ref (w4)), (2, .ref (ds 0)), (1, .ref (d 0)), (0, .ref (b))] → W p l e room_1 s m args below meth c H locs cells1 slots1 Q (F0 m 463 ls [])) : W p l e room_1 s m args below meth c H locs cells slots Q (F0 m 440 ls []) := by
  obtain ⟨S, hfl, hK, hA, hTE, hN, hX9, hL⟩ := id G
  have hE := hTE.1
  have S0 := S
  obtain ⟨hx, hb, hml, hown, hts⟩ := S0
  have hinX2 := inlX2
  refine lv_iload hx hb dL_law_440 (lv_at hl 0 rfl) ?_
  refine gi_if_ne (tgt := 463) hx hb dL_law_442 (by decide) ⟨by omega, by omega⟩ (fun c442 => ?_) (fun c442 => ?_)
  · skip
    exact K  H locs cells slots ls  (by omega) (by omega) hP hD hS (lv_sub hl [0, 1, 2, 3, 4, 5, 6, 7, 8, 9, 10, 11, 12, 13, 14, 15, 16, 17, 18, 19, 20, 21, 22, 23] rfl)
  · skip
    refine lv_aload hx hb dL_law_445 (lv_at hl 17 rfl) ?_
    refine lv_iload hx hb dL_law_447 (lv_at hl 1 rfl) ?_
    refine s_row (f := tgr a6) hx hb hK (g_left (g_right hP)) 0 4 rfl rfl (by omega) (by omega) (by decide) (v := a6 k.toNat) (if_pos (by omega)) dL_law_449 ?_
    refine lv_aload hx hb dL_law_450 (lv_at hl 6 rfl) ?_
    refine lv_iload hx hb dL_law_452 (lv_at hl 1 rfl) ?_
    refine s_row (f := tgr a17) hx hb hK (g_right (g_right hP)) 0 4 rfl rfl (by omega) (by omega) (by decide) (v := a17 k.toNat) (if_pos (by omega)) dL_law_454 ?_
    have m6 : (a6 k.toNat, aI cI 5 (tG σ k.toNat)) ∈ QW cI cQ w6 a6 (tG σ) := List.mem_of_getElem? (qw_at (by omega))
    have m17 : (a17 k.toNat, aI cI 5 (tG τ k.toNat)) ∈ QW cI cQ w17 a17 (tG τ) := List.mem_of_getElem? (qw_at (by omega))
    have hsub : ∀ x9 ∈ ([(a6 k.toNat, aI cI 5 (tG σ k.toNat)), (a17 k.toNat, aI cI 5 (tG τ k.toNat))] : va_W), x9 ∈ (Wx ++ ((QW cI cQ w6 a6 (tG σ)) ++ (QW cI cQ w17 a17 (tG τ))) : va_W) := fun x9 hx9 => by rcases List.mem_cons.mp hx9 with hx8 | hx8; (rw [hx8]; exact List.mem_append_right _ (List.mem_append_left _ (m6))); (rw [List.mem_singleton] at hx8; rw [hx8]; exact List.mem_append_right _ (List.mem_append_right _ (m17)))
    have hPc : va_P D vwCl ([(a6 k.toNat, aI cI 5 (tG σ k.toNat)), (a17 k.toNat, aI cI 5 (tG τ k.toNat))] ++ []) H := va_mem hP (fun x9 hx9 => hsub x9 (by rw [List.append_nil] at hx9; exact hx9))
    have hDc : va_D A ([(a6 k.toNat, aI cI 5 (tG σ k.toNat)), (a17 k.toNat, aI cI 5 (tG τ k.toNat))] ++ []) := by rw [List.append_nil]; exact va_D2 (g_Dright hD) m6 m17
    refine g_callR (va_runS (As := [.ref (a6 k.toNat), .ref (a17 k.toNat)]) (rest := []) S ((kL_same l D cI cZ cT cU cQ (a6 k.toNat) (a17 k.toNat) (tG σ k.toNat) (tG τ k.toNat) (tGR hwf _) (tGR hwt _)) H.size) (va_cwS 2 hts gL_law_L_same rfl rfl rfl (by decide +kernel) ⟨Nat.le_of_ble_eq_true rfl, Nat.le_of_ble_eq_true rfl⟩) (g_preS (As := [.ref (a6 k.toNat), .ref (a17 k.toNat)]) gEx_t hK [0, 1, 2, 3, 4] rfl hPc hDc (fun _ _ _ => trivial)) rfl rfl hl.1 rfl (lv_room (Nat.le_of_ble_eq_true rfl)) dL_law_455 ⟨by show cells + 0 ≤ 600104; omega, by show slots + 0 ≤ 7301314; omega⟩) hsub hP hD hS hA (fun κ9 H locs hk9 hP hS => ?_)
    show W p l e room_1 s m args below meth c H locs cells slots Q (F0 m 458 ls [.int (iI (bI (tG σ k.toNat 0 = tG τ k.toNat 0 ∧ tG σ k.toNat 1 = tG τ k.toNat 1 ∧ tG σ k.toNat 2 = tG τ k.toNat 2 ∧ tG σ k.toNat 3 = tG τ k.toNat 3 ∧ tG σ k.toNat 4 = tG τ k.toNat 4)))])
    refine gb_if_ne (tgt := 463) hx hb dL_law_458 (by decide)  (fun c458 => ?_) (fun c458 => ?_)
    · skip
      exact K  H locs cells slots ls  (by omega) (by omega) hP hD hS (lv_sub hl [0, 1, 2, 3, 4, 5, 6, 7, 8, 9, 10, 11, 12, 13, 14, 15, 16, 17, 18, 19, 20, 21, 22, 23] rfl)
    · skip
      exact absurd (same_ok hk.1 (hq0 (by omega))) c458
set_option maxHeartbeats 4000000 in
set_option maxRecDepth 100000 in
theorem lq_chk {p : Program} {l : Launch} {e : Env} {s : State} {m : MethodId} {args : Array Value} {below : List Frame} {meth : Method} {c : Code} {H : Heap} {locs : List Loc} {cells slots : Nat} {Q : State → Prop} {ls : Array Slot} {D : va_G} {A : Nat → Prop} {cI cZ cT cU cQ : ClassId} {b L : Nat} {xs : Nat → Int32} {d ds : Nat → Nat} {σ κ : St} {ι : Int → Int} {w4 : Nat} {t : Int} {k : Int} {q : Int} {x : Int} {w : Int} {r : Int} {pl : Int} {hw : Int} {c1 : Int} {c2 : Int} {c5 : Int} {tl : Int} {al : Int} {df : Int} {sl : Int} {sr : Int} {h : Int} {tt : Int} {Wx : va_W} {w6 : Nat} {w17 : Nat} {a6 : Nat → Nat} {a17 : Nat → Nat} {τ : St} (G : lG p l s m c args A D cI cZ cT cU cQ b L xs) (hwf : xWF σ) (hwt : xWF τ) (hk : 0 ≤ k ∧ k < 40) (hq : q = 0 ∨ q = 1) (hw9 : -1 ≤ w ∧ w ≤ 3) (hq1 : q = 1 → WB σ τ k w) (hcc : cells + 0 ≤ 600104) (hss : slots + 0 ≤ 7301314) (hP : va_P D vwCl (Wx ++ ((QW cI cQ w6 a6 (tG σ)) ++ (QW cI cQ w17 a17 (tG τ)))) H) (hD : va_D A (Wx ++ ((QW cI cQ w6 a6 (tG σ)) ++ (QW cI cQ w17 a17 (tG τ))))) (hS : va_S A s.heap H locs) (hl : lv_has ls 35 [(23, .int (iI (q))), (22, .int (iI (k))), (21, .int (iI (tt))), (20, .int (iI (h))), (19, .int (iI (sr))), (18, .int (iI (sl))), (17, .ref (w17)), (16, .int (iI (al))), (15, .int (iI (df))), (14, .int (iI (w))), (13, .int (iI (hw))), (12, .int (iI (pl))), (11, .int (iI (r))), (10, .int (iI (tl))), (9, .int (iI (c5))), (8, .int (iI (c2))), (7, .int (iI (c1))), (6, .ref (w6)), (5, .int (iI (x))), (4, .int (iI (t))), (3, .ref (w4)), (2, .ref (ds 0)), (1, .ref (d 0)), (0, .ref (b))]) (K : ∀ (H : Heap) (locs : List Loc) (cells1 slots1 : Nat) (ls : Array Slot), cells1 ≤ cells + 0 → slots1 ≤ slots + 0 → va_P D vwCl (Wx ++ ((QW cI cQ w6 a6 (tG σ)) ++ (QW cI cQ w17 a17 (tG τ)))) H → va_D A (Wx ++ ((QW cI cQ w6 a6 (tG σ)) ++ (QW cI cQ w17 a17 (tG τ)))) → va_S A s.heap H locs → lv_has ls 35 [(23, .int (iI (q))), (22, .int (iI (k))), (21, .int (iI (tt))), (20, .int (iI (h))), (19, .int (iI (sr))), (18, .int (iI (sl))), (17, .ref (w17)), (16, .int (iI (al))), (15, .int (iI (df))), (14, .int (iI (w))), (13, .int (iI (hw))), (12, .int (iI (pl))), (11, .int (iI (r))), (10, .int (iI (tl))), (9, .int (iI (c5))), (8, .int (iI (c2))), (7, .int (iI (c1))), (6, .ref (w6)), (5, .int (iI (x))), (4, .int (iI (t))), (3, .ref (w4)), (2, .ref (ds 0)), (1, .ref (d 0)), (0, .ref (b))] → W p l e room_1 s m args below meth c H locs cells1 slots1 Q (F0 m 669 ls [])) : W p l e room_1 s m args below meth c H locs cells slots Q (F0 m 463 ls []) := by
  obtain ⟨S, hfl, hK, hA, hTE, hN, hX9, hL⟩ := id G
  have hE := hTE.1
  have S0 := S
  obtain ⟨hx, hb, hml, hown, hts⟩ := S0
  have hinX2 := inlX2
  have b1 := wB01 σ k
  have b2 := wB01 τ k
  have b3 := wD01 σ k
  have b4 := wD01 τ k
  have k4 := xWF_4 hwf k
  have k5 := xWF_5 hwf k
  have j4 := xWF_4 hwt k
  have j5 := xWF_5 hwt k
  have hW : q = 1 → (w = 0 → wB σ k = 0 ∧ wB τ k = 1 ∧ τ 5 k = 1) ∧ (¬ w = 0 → wB σ k = 1) ∧ (w = 1 → τ 5 k < σ 5 k ∧ wD τ k = 0) ∧ (w = 2 → ¬ τ 4 k = σ 4 k ∧ 1 ≤ τ 5 k ∧ τ 5 k ≤ σ 5 k ∧ wD τ k = wD σ k) ∧ (w = 3 → wB τ k = 0) := hq1
  refine lv_iload hx hb dL_law_463 (lv_at hl 0 rfl) ?_
  refine gi_if_eq (tgt := 521) hx hb dL_law_465 (by decide) ⟨by omega, by omega⟩ (fun c465 => ?_) (fun c465 => ?_)
  · skip
    refine lv_iload hx hb dL_law_521 (lv_at hl 0 rfl) ?_
    refine gi_if_eq (tgt := 645) hx hb dL_law_523 (by decide) ⟨by omega, by omega⟩ (fun c523 => ?_) (fun c523 => ?_)
    · skip
      refine lv_aload hx hb dL_law_645 (lv_at hl 6 rfl) ?_
      refine lv_iload hx hb dL_law_647 (lv_at hl 1 rfl) ?_
      refine s_row (f := tgr a17) hx hb hK (g_right (g_right hP)) 0 4 rfl rfl (by omega) (by omega) (by decide) (v := a17 k.toNat) (if_pos (by omega)) dL_law_649 ?_
      refine lv_iconst (v := iI (1)) hx hb dL_law_650 rfl ?_
      refine gi_iald (a := (a17 k.toNat)) (n := 5) (f := (tG τ) k.toNat) hx hb hK (g_right (g_right hP)) (k.toNat + 1) 0 (qw_at (by omega)) rfl (by omega) (by omega) (by decide) dL_law_651 ?_
      rw [show (((tG τ) k.toNat) 1 : Int) = τ 5 k from tG_1 (by omega)]
      refine gi_if_lt (tgt := 667) hx hb dL_law_652 (by decide) ⟨by omega, by omega⟩ (fun c652 => ?_) (fun c652 => ?_)
      · skip
        exfalso
        omega
      · skip
        refine lv_aload hx hb dL_law_655 (lv_at hl 6 rfl) ?_
        refine lv_iload hx hb dL_law_657 (lv_at hl 1 rfl) ?_
        refine s_row (f := tgr a17) hx hb hK (g_right (g_right hP)) 0 4 rfl rfl (by omega) (by omega) (by decide) (v := a17 k.toNat) (if_pos (by omega)) dL_law_659 ?_
        refine lv_iconst (v := iI (1)) hx hb dL_law_660 rfl ?_
        refine gi_iald (a := (a17 k.toNat)) (n := 5) (f := (tG τ) k.toNat) hx hb hK (g_right (g_right hP)) (k.toNat + 1) 0 (qw_at (by omega)) rfl (by omega) (by omega) (by decide) dL_law_661 ?_
        rw [show (((tG τ) k.toNat) 1 : Int) = τ 5 k from tG_1 (by omega)]
        refine lv_bipush (v := iI (9)) hx hb dL_law_662 rfl ?_
        refine gi_icmp_le (tgt := 669) hx hb dL_law_664 (by decide) ⟨by omega, by omega⟩ ⟨by decide, by decide⟩ (fun c664 => ?_) (fun c664 => ?_)
        · skip
          exact K  H locs cells slots ls  (by omega) (by omega) hP hD hS (lv_sub hl [0, 1, 2, 3, 4, 5, 6, 7, 8, 9, 10, 11, 12, 13, 14, 15, 16, 17, 18, 19, 20, 21, 22, 23] rfl)
        · skip
          exfalso
          omega
    · skip
      refine lv_iload hx hb dL_law_526 (lv_at hl 9 rfl) ?_
      refine lv_iconst (v := iI (1)) hx hb dL_law_528 rfl ?_
      refine gi_icmp_ne (tgt := 559) hx hb dL_law_529 (by decide) ⟨by omega, by omega⟩ ⟨by decide, by decide⟩ (fun c529 => ?_) (fun c529 => ?_)
      · skip
        refine lv_iload hx hb dL_law_559 (lv_at hl 9 rfl) ?_
        refine lv_iconst (v := iI (2)) hx hb dL_law_561 rfl ?_
        refine gi_icmp_ne (tgt := 627) hx hb dL_law_562 (by decide) ⟨by omega, by omega⟩ ⟨by decide, by decide⟩ (fun c562 => ?_) (fun c562 => ?_)
        · skip
          refine lv_iload hx hb dL_law_627 (lv_at hl 9 rfl) ?_
          refine lv_iconst (v := iI (3)) hx hb dL_law_629 rfl ?_
          refine gi_icmp_ne (tgt := 645) hx hb dL_law_630 (by decide) ⟨by omega, by omega⟩ ⟨by decide, by decide⟩ (fun c630 => ?_) (fun c630 => ?_)
          · skip
            refine lv_aload hx hb dL_law_645 (lv_at hl 6 rfl) ?_
            refine lv_iload hx hb dL_law_647 (lv_at hl 1 rfl) ?_
            refine s_row (f := tgr a17) hx hb hK (g_right (g_right hP)) 0 4 rfl rfl (by omega) (by omega) (by decide) (v := a17 k.toNat) (if_pos (by omega)) dL_law_649 ?_
            refine lv_iconst (v := iI (1)) hx hb dL_law_650 rfl ?_
            refine gi_iald (a := (a17 k.toNat)) (n := 5) (f := (tG τ) k.toNat) hx hb hK (g_right (g_right hP)) (k.toNat + 1) 0 (qw_at (by omega)) rfl (by omega) (by omega) (by decide) dL_law_651 ?_
            rw [show (((tG τ) k.toNat) 1 : Int) = τ 5 k from tG_1 (by omega)]
            refine gi_if_lt (tgt := 667) hx hb dL_law_652 (by decide) ⟨by omega, by omega⟩ (fun c652 => ?_) (fun c652 => ?_)
            · skip
              exfalso
              omega
            · skip
              refine lv_aload hx hb dL_law_655 (lv_at hl 6 rfl) ?_
              refine lv_iload hx hb dL_law_657 (lv_at hl 1 rfl) ?_
              refine s_row (f := tgr a17) hx hb hK (g_right (g_right hP)) 0 4 rfl rfl (by omega) (by omega) (by decide) (v := a17 k.toNat) (if_pos (by omega)) dL_law_659 ?_
              refine lv_iconst (v := iI (1)) hx hb dL_law_660 rfl ?_
              refine gi_iald (a := (a17 k.toNat)) (n := 5) (f := (tG τ) k.toNat) hx hb hK (g_right (g_right hP)) (k.toNat + 1) 0 (qw_at (by omega)) rfl (by omega) (by omega) (by decide) dL_law_661 ?_
              rw [show (((tG τ) k.toNat) 1 : Int) = τ 5 k from tG_1 (by omega)]
              refine lv_bipush (v := iI (9)) hx hb dL_law_662 rfl ?_
              refine gi_icmp_le (tgt := 669) hx hb dL_law_664 (by decide) ⟨by omega, by omega⟩ ⟨by decide, by decide⟩ (fun c664 => ?_) (fun c664 => ?_)
              · skip
                exact K  H locs cells slots ls  (by omega) (by omega) hP hD hS (lv_sub hl [0, 1, 2, 3, 4, 5, 6, 7, 8, 9, 10, 11, 12, 13, 14, 15, 16, 17, 18, 19, 20, 21, 22, 23] rfl)
              · skip
                exfalso
                omega
          · skip
            refine lv_aload hx hb dL_law_633 (lv_at hl 6 rfl) ?_
            refine lv_iload hx hb dL_law_635 (lv_at hl 1 rfl) ?_
            refine s_row (f := tgr a17) hx hb hK (g_right (g_right hP)) 0 4 rfl rfl (by omega) (by omega) (by decide) (v := a17 k.toNat) (if_pos (by omega)) dL_law_637 ?_
            refine lv_iconst (v := iI (0)) hx hb dL_law_638 rfl ?_
            refine gi_iald (a := (a17 k.toNat)) (n := 5) (f := (tG τ) k.toNat) hx hb hK (g_right (g_right hP)) (k.toNat + 1) 0 (qw_at (by omega)) rfl (by omega) (by omega) (by decide) dL_law_639 ?_
            rw [show (((tG τ) k.toNat) 0 : Int) = wB τ k from tG_0 (by omega)]
            refine gi_if_eq (tgt := 645) hx hb dL_law_640 (by decide) ⟨by omega, by omega⟩ (fun c640 => ?_) (fun c640 => ?_)
            · skip
              refine lv_aload hx hb dL_law_645 (lv_at hl 6 rfl) ?_
              refine lv_iload hx hb dL_law_647 (lv_at hl 1 rfl) ?_
              refine s_row (f := tgr a17) hx hb hK (g_right (g_right hP)) 0 4 rfl rfl (by omega) (by omega) (by decide) (v := a17 k.toNat) (if_pos (by omega)) dL_law_649 ?_
              refine lv_iconst (v := iI (1)) hx hb dL_law_650 rfl ?_
              refine gi_iald (a := (a17 k.toNat)) (n := 5) (f := (tG τ) k.toNat) hx hb hK (g_right (g_right hP)) (k.toNat + 1) 0 (qw_at (by omega)) rfl (by omega) (by omega) (by decide) dL_law_651 ?_
              rw [show (((tG τ) k.toNat) 1 : Int) = τ 5 k from tG_1 (by omega)]
              refine gi_if_lt (tgt := 667) hx hb dL_law_652 (by decide) ⟨by omega, by omega⟩ (fun c652 => ?_) (fun c652 => ?_)
              · skip
                exfalso
                omega
              · skip
                refine lv_aload hx hb dL_law_655 (lv_at hl 6 rfl) ?_
                refine lv_iload hx hb dL_law_657 (lv_at hl 1 rfl) ?_
                refine s_row (f := tgr a17) hx hb hK (g_right (g_right hP)) 0 4 rfl rfl (by omega) (by omega) (by decide) (v := a17 k.toNat) (if_pos (by omega)) dL_law_659 ?_
                refine lv_iconst (v := iI (1)) hx hb dL_law_660 rfl ?_
                refine gi_iald (a := (a17 k.toNat)) (n := 5) (f := (tG τ) k.toNat) hx hb hK (g_right (g_right hP)) (k.toNat + 1) 0 (qw_at (by omega)) rfl (by omega) (by omega) (by decide) dL_law_661 ?_
                rw [show (((tG τ) k.toNat) 1 : Int) = τ 5 k from tG_1 (by omega)]
                refine lv_bipush (v := iI (9)) hx hb dL_law_662 rfl ?_
                refine gi_icmp_le (tgt := 669) hx hb dL_law_664 (by decide) ⟨by omega, by omega⟩ ⟨by decide, by decide⟩ (fun c664 => ?_) (fun c664 => ?_)
                · skip
                  exact K  H locs cells slots ls  (by omega) (by omega) hP hD hS (lv_sub hl [0, 1, 2, 3, 4, 5, 6, 7, 8, 9, 10, 11, 12, 13, 14, 15, 16, 17, 18, 19, 20, 21, 22, 23] rfl)
                · skip
                  exfalso
                  omega
            · skip
              exfalso
              omega
        · skip
          refine lv_aload hx hb dL_law_565 (lv_at hl 6 rfl) ?_
          refine lv_iload hx hb dL_law_567 (lv_at hl 1 rfl) ?_
          refine s_row (f := tgr a17) hx hb hK (g_right (g_right hP)) 0 4 rfl rfl (by omega) (by omega) (by decide) (v := a17 k.toNat) (if_pos (by omega)) dL_law_569 ?_
          refine lv_iconst (v := iI (3)) hx hb dL_law_570 rfl ?_
          refine gi_iald (a := (a17 k.toNat)) (n := 5) (f := (tG τ) k.toNat) hx hb hK (g_right (g_right hP)) (k.toNat + 1) 0 (qw_at (by omega)) rfl (by omega) (by omega) (by decide) dL_law_571 ?_
          rw [show (((tG τ) k.toNat) 3 : Int) = τ 4 k from tG_3 (by omega)]
          refine lv_aload hx hb dL_law_572 (lv_at hl 17 rfl) ?_
          refine lv_iload hx hb dL_law_574 (lv_at hl 1 rfl) ?_
          refine s_row (f := tgr a6) hx hb hK (g_left (g_right hP)) 0 4 rfl rfl (by omega) (by omega) (by decide) (v := a6 k.toNat) (if_pos (by omega)) dL_law_576 ?_
          refine lv_iconst (v := iI (3)) hx hb dL_law_577 rfl ?_
          refine gi_iald (a := (a6 k.toNat)) (n := 5) (f := (tG σ) k.toNat) hx hb hK (g_left (g_right hP)) (k.toNat + 1) 0 (qw_at (by omega)) rfl (by omega) (by omega) (by decide) dL_law_578 ?_
          rw [show (((tG σ) k.toNat) 3 : Int) = σ 4 k from tG_3 (by omega)]
          refine gi_icmp_eq (tgt := 643) hx hb dL_law_579 (by decide) ⟨by omega, by omega⟩ ⟨by omega, by omega⟩ (fun c579 => ?_) (fun c579 => ?_)
          · skip
            exfalso
            omega
          · skip
            refine lv_aload hx hb dL_law_582 (lv_at hl 6 rfl) ?_
            refine lv_iload hx hb dL_law_584 (lv_at hl 1 rfl) ?_
            refine s_row (f := tgr a17) hx hb hK (g_right (g_right hP)) 0 4 rfl rfl (by omega) (by omega) (by decide) (v := a17 k.toNat) (if_pos (by omega)) dL_law_586 ?_
            refine lv_iconst (v := iI (1)) hx hb dL_law_587 rfl ?_
            refine gi_iald (a := (a17 k.toNat)) (n := 5) (f := (tG τ) k.toNat) hx hb hK (g_right (g_right hP)) (k.toNat + 1) 0 (qw_at (by omega)) rfl (by omega) (by omega) (by decide) dL_law_588 ?_
            rw [show (((tG τ) k.toNat) 1 : Int) = τ 5 k from tG_1 (by omega)]
            refine lv_iconst (v := iI (1)) hx hb dL_law_589 rfl ?_
            refine gi_icmp_lt (tgt := 643) hx hb dL_law_590 (by decide) ⟨by omega, by omega⟩ ⟨by decide, by decide⟩ (fun c590 => ?_) (fun c590 => ?_)
            · skip
              exfalso
              omega
            · skip
              refine lv_aload hx hb dL_law_593 (lv_at hl 6 rfl) ?_
              refine lv_iload hx hb dL_law_595 (lv_at hl 1 rfl) ?_
              refine s_row (f := tgr a17) hx hb hK (g_right (g_right hP)) 0 4 rfl rfl (by omega) (by omega) (by decide) (v := a17 k.toNat) (if_pos (by omega)) dL_law_597 ?_
              refine lv_iconst (v := iI (1)) hx hb dL_law_598 rfl ?_
              refine gi_iald (a := (a17 k.toNat)) (n := 5) (f := (tG τ) k.toNat) hx hb hK (g_right (g_right hP)) (k.toNat + 1) 0 (qw_at (by omega)) rfl (by omega) (by omega) (by decide) dL_law_599 ?_
              rw [show (((tG τ) k.toNat) 1 : Int) = τ 5 k from tG_1 (by omega)]
              refine lv_aload hx hb dL_law_600 (lv_at hl 17 rfl) ?_
              refine lv_iload hx hb dL_law_602 (lv_at hl 1 rfl) ?_
              refine s_row (f := tgr a6) hx hb hK (g_left (g_right hP)) 0 4 rfl rfl (by omega) (by omega) (by decide) (v := a6 k.toNat) (if_pos (by omega)) dL_law_604 ?_
              refine lv_iconst (v := iI (1)) hx hb dL_law_605 rfl ?_
              refine gi_iald (a := (a6 k.toNat)) (n := 5) (f := (tG σ) k.toNat) hx hb hK (g_left (g_right hP)) (k.toNat + 1) 0 (qw_at (by omega)) rfl (by omega) (by omega) (by decide) dL_law_606 ?_
              rw [show (((tG σ) k.toNat) 1 : Int) = σ 5 k from tG_1 (by omega)]
              refine gi_icmp_gt (tgt := 643) hx hb dL_law_607 (by decide) ⟨by omega, by omega⟩ ⟨by omega, by omega⟩ (fun c607 => ?_) (fun c607 => ?_)
              · skip
                exfalso
                omega
              · skip
                refine lv_aload hx hb dL_law_610 (lv_at hl 6 rfl) ?_
                refine lv_iload hx hb dL_law_612 (lv_at hl 1 rfl) ?_
                refine s_row (f := tgr a17) hx hb hK (g_right (g_right hP)) 0 4 rfl rfl (by omega) (by omega) (by decide) (v := a17 k.toNat) (if_pos (by omega)) dL_law_614 ?_
                refine lv_iconst (v := iI (4)) hx hb dL_law_615 rfl ?_
                refine gi_iald (a := (a17 k.toNat)) (n := 5) (f := (tG τ) k.toNat) hx hb hK (g_right (g_right hP)) (k.toNat + 1) 0 (qw_at (by omega)) rfl (by omega) (by omega) (by decide) dL_law_616 ?_
                rw [show (((tG τ) k.toNat) 4 : Int) = wD τ k from tG_4 (by omega)]
                refine lv_aload hx hb dL_law_617 (lv_at hl 17 rfl) ?_
                refine lv_iload hx hb dL_law_619 (lv_at hl 1 rfl) ?_
                refine s_row (f := tgr a6) hx hb hK (g_left (g_right hP)) 0 4 rfl rfl (by omega) (by omega) (by decide) (v := a6 k.toNat) (if_pos (by omega)) dL_law_621 ?_
                refine lv_iconst (v := iI (4)) hx hb dL_law_622 rfl ?_
                refine gi_iald (a := (a6 k.toNat)) (n := 5) (f := (tG σ) k.toNat) hx hb hK (g_left (g_right hP)) (k.toNat + 1) 0 (qw_at (by omega)) rfl (by omega) (by omega) (by decide) dL_law_623 ?_
                rw [show (((tG σ) k.toNat) 4 : Int) = wD σ k from tG_4 (by omega)]
                refine gi_icmp_ne (tgt := 643) hx hb dL_law_624 (by decide) ⟨by omega, by omega⟩ ⟨by omega, by omega⟩ (fun c624 => ?_) (fun c624 => ?_)
                · skip
                  exfalso
                  omega
                · skip
                  refine lv_iload hx hb dL_law_627 (lv_at hl 9 rfl) ?_
                  refine lv_iconst (v := iI (3)) hx hb dL_law_629 rfl ?_
                  refine gi_icmp_ne (tgt := 645) hx hb dL_law_630 (by decide) ⟨by omega, by omega⟩ ⟨by decide, by decide⟩ (fun c630 => ?_) (fun c630 => ?_)
                  · skip
                    refine lv_aload hx hb dL_law_645 (lv_at hl 6 rfl) ?_
                    refine lv_iload hx hb dL_law_647 (lv_at hl 1 rfl) ?_
                    refine s_row (f := tgr a17) hx hb hK (g_right (g_right hP)) 0 4 rfl rfl (by omega) (by omega) (by decide) (v := a17 k.toNat) (if_pos (by omega)) dL_law_649 ?_
                    refine lv_iconst (v := iI (1)) hx hb dL_law_650 rfl ?_
                    refine gi_iald (a := (a17 k.toNat)) (n := 5) (f := (tG τ) k.toNat) hx hb hK (g_right (g_right hP)) (k.toNat + 1) 0 (qw_at (by omega)) rfl (by omega) (by omega) (by decide) dL_law_651 ?_
                    rw [show (((tG τ) k.toNat) 1 : Int) = τ 5 k from tG_1 (by omega)]
                    refine gi_if_lt (tgt := 667) hx hb dL_law_652 (by decide) ⟨by omega, by omega⟩ (fun c652 => ?_) (fun c652 => ?_)
                    · skip
                      exfalso
                      omega
                    · skip
                      refine lv_aload hx hb dL_law_655 (lv_at hl 6 rfl) ?_
                      refine lv_iload hx hb dL_law_657 (lv_at hl 1 rfl) ?_
                      refine s_row (f := tgr a17) hx hb hK (g_right (g_right hP)) 0 4 rfl rfl (by omega) (by omega) (by decide) (v := a17 k.toNat) (if_pos (by omega)) dL_law_659 ?_
                      refine lv_iconst (v := iI (1)) hx hb dL_law_660 rfl ?_
                      refine gi_iald (a := (a17 k.toNat)) (n := 5) (f := (tG τ) k.toNat) hx hb hK (g_right (g_right hP)) (k.toNat + 1) 0 (qw_at (by omega)) rfl (by omega) (by omega) (by decide) dL_law_661 ?_
                      rw [show (((tG τ) k.toNat) 1 : Int) = τ 5 k from tG_1 (by omega)]
                      refine lv_bipush (v := iI (9)) hx hb dL_law_662 rfl ?_
                      refine gi_icmp_le (tgt := 669) hx hb dL_law_664 (by decide) ⟨by omega, by omega⟩ ⟨by decide, by decide⟩ (fun c664 => ?_) (fun c664 => ?_)
                      · skip
                        exact K  H locs cells slots ls  (by omega) (by omega) hP hD hS (lv_sub hl [0, 1, 2, 3, 4, 5, 6, 7, 8, 9, 10, 11, 12, 13, 14, 15, 16, 17, 18, 19, 20, 21, 22, 23] rfl)
                      · skip
                        exfalso
                        omega
                  · skip
                    refine lv_aload hx hb dL_law_633 (lv_at hl 6 rfl) ?_
                    refine lv_iload hx hb dL_law_635 (lv_at hl 1 rfl) ?_
                    refine s_row (f := tgr a17) hx hb hK (g_right (g_right hP)) 0 4 rfl rfl (by omega) (by omega) (by decide) (v := a17 k.toNat) (if_pos (by omega)) dL_law_637 ?_
                    refine lv_iconst (v := iI (0)) hx hb dL_law_638 rfl ?_
                    refine gi_iald (a := (a17 k.toNat)) (n := 5) (f := (tG τ) k.toNat) hx hb hK (g_right (g_right hP)) (k.toNat + 1) 0 (qw_at (by omega)) rfl (by omega) (by omega) (by decide) dL_law_639 ?_
                    rw [show (((tG τ) k.toNat) 0 : Int) = wB τ k from tG_0 (by omega)]
                    refine gi_if_eq (tgt := 645) hx hb dL_law_640 (by decide) ⟨by omega, by omega⟩ (fun c640 => ?_) (fun c640 => ?_)
                    · skip
                      refine lv_aload hx hb dL_law_645 (lv_at hl 6 rfl) ?_
                      refine lv_iload hx hb dL_law_647 (lv_at hl 1 rfl) ?_
                      refine s_row (f := tgr a17) hx hb hK (g_right (g_right hP)) 0 4 rfl rfl (by omega) (by omega) (by decide) (v := a17 k.toNat) (if_pos (by omega)) dL_law_649 ?_
                      refine lv_iconst (v := iI (1)) hx hb dL_law_650 rfl ?_
                      refine gi_iald (a := (a17 k.toNat)) (n := 5) (f := (tG τ) k.toNat) hx hb hK (g_right (g_right hP)) (k.toNat + 1) 0 (qw_at (by omega)) rfl (by omega) (by omega) (by decide) dL_law_651 ?_
                      rw [show (((tG τ) k.toNat) 1 : Int) = τ 5 k from tG_1 (by omega)]
                      refine gi_if_lt (tgt := 667) hx hb dL_law_652 (by decide) ⟨by omega, by omega⟩ (fun c652 => ?_) (fun c652 => ?_)
                      · skip
                        exfalso
                        omega
                      · skip
                        refine lv_aload hx hb dL_law_655 (lv_at hl 6 rfl) ?_
                        refine lv_iload hx hb dL_law_657 (lv_at hl 1 rfl) ?_
                        refine s_row (f := tgr a17) hx hb hK (g_right (g_right hP)) 0 4 rfl rfl (by omega) (by omega) (by decide) (v := a17 k.toNat) (if_pos (by omega)) dL_law_659 ?_
                        refine lv_iconst (v := iI (1)) hx hb dL_law_660 rfl ?_
                        refine gi_iald (a := (a17 k.toNat)) (n := 5) (f := (tG τ) k.toNat) hx hb hK (g_right (g_right hP)) (k.toNat + 1) 0 (qw_at (by omega)) rfl (by omega) (by omega) (by decide) dL_law_661 ?_
                        rw [show (((tG τ) k.toNat) 1 : Int) = τ 5 k from tG_1 (by omega)]
                        refine lv_bipush (v := iI (9)) hx hb dL_law_662 rfl ?_
                        refine gi_icmp_le (tgt := 669) hx hb dL_law_664 (by decide) ⟨by omega, by omega⟩ ⟨by decide, by decide⟩ (fun c664 => ?_) (fun c664 => ?_)
                        · skip
                          exact K  H locs cells slots ls  (by omega) (by omega) hP hD hS (lv_sub hl [0, 1, 2, 3, 4, 5, 6, 7, 8, 9, 10, 11, 12, 13, 14, 15, 16, 17, 18, 19, 20, 21, 22, 23] rfl)
                        · skip
                          exfalso
                          omega
                    · skip
                      exfalso
                      omega
      · skip
        refine lv_aload hx hb dL_law_532 (lv_at hl 6 rfl) ?_
        refine lv_iload hx hb dL_law_534 (lv_at hl 1 rfl) ?_
        refine s_row (f := tgr a17) hx hb hK (g_right (g_right hP)) 0 4 rfl rfl (by omega) (by omega) (by decide) (v := a17 k.toNat) (if_pos (by omega)) dL_law_536 ?_
        refine lv_iconst (v := iI (1)) hx hb dL_law_537 rfl ?_
        refine gi_iald (a := (a17 k.toNat)) (n := 5) (f := (tG τ) k.toNat) hx hb hK (g_right (g_right hP)) (k.toNat + 1) 0 (qw_at (by omega)) rfl (by omega) (by omega) (by decide) dL_law_538 ?_
        rw [show (((tG τ) k.toNat) 1 : Int) = τ 5 k from tG_1 (by omega)]
        refine lv_aload hx hb dL_law_539 (lv_at hl 17 rfl) ?_
        refine lv_iload hx hb dL_law_541 (lv_at hl 1 rfl) ?_
        refine s_row (f := tgr a6) hx hb hK (g_left (g_right hP)) 0 4 rfl rfl (by omega) (by omega) (by decide) (v := a6 k.toNat) (if_pos (by omega)) dL_law_543 ?_
        refine lv_iconst (v := iI (1)) hx hb dL_law_544 rfl ?_
        refine gi_iald (a := (a6 k.toNat)) (n := 5) (f := (tG σ) k.toNat) hx hb hK (g_left (g_right hP)) (k.toNat + 1) 0 (qw_at (by omega)) rfl (by omega) (by omega) (by decide) dL_law_545 ?_
        rw [show (((tG σ) k.toNat) 1 : Int) = σ 5 k from tG_1 (by omega)]
        refine gi_icmp_ge (tgt := 643) hx hb dL_law_546 (by decide) ⟨by omega, by omega⟩ ⟨by omega, by omega⟩ (fun c546 => ?_) (fun c546 => ?_)
        · skip
          exfalso
          omega
        · skip
          refine lv_aload hx hb dL_law_549 (lv_at hl 6 rfl) ?_
          refine lv_iload hx hb dL_law_551 (lv_at hl 1 rfl) ?_
          refine s_row (f := tgr a17) hx hb hK (g_right (g_right hP)) 0 4 rfl rfl (by omega) (by omega) (by decide) (v := a17 k.toNat) (if_pos (by omega)) dL_law_553 ?_
          refine lv_iconst (v := iI (4)) hx hb dL_law_554 rfl ?_
          refine gi_iald (a := (a17 k.toNat)) (n := 5) (f := (tG τ) k.toNat) hx hb hK (g_right (g_right hP)) (k.toNat + 1) 0 (qw_at (by omega)) rfl (by omega) (by omega) (by decide) dL_law_555 ?_
          rw [show (((tG τ) k.toNat) 4 : Int) = wD τ k from tG_4 (by omega)]
          refine gi_if_ne (tgt := 643) hx hb dL_law_556 (by decide) ⟨by omega, by omega⟩ (fun c556 => ?_) (fun c556 => ?_)
          · skip
            exfalso
            omega
          · skip
            refine lv_iload hx hb dL_law_559 (lv_at hl 9 rfl) ?_
            refine lv_iconst (v := iI (2)) hx hb dL_law_561 rfl ?_
            refine gi_icmp_ne (tgt := 627) hx hb dL_law_562 (by decide) ⟨by omega, by omega⟩ ⟨by decide, by decide⟩ (fun c562 => ?_) (fun c562 => ?_)
            · skip
              refine lv_iload hx hb dL_law_627 (lv_at hl 9 rfl) ?_
              refine lv_iconst (v := iI (3)) hx hb dL_law_629 rfl ?_
              refine gi_icmp_ne (tgt := 645) hx hb dL_law_630 (by decide) ⟨by omega, by omega⟩ ⟨by decide, by decide⟩ (fun c630 => ?_) (fun c630 => ?_)
              · skip
                refine lv_aload hx hb dL_law_645 (lv_at hl 6 rfl) ?_
                refine lv_iload hx hb dL_law_647 (lv_at hl 1 rfl) ?_
                refine s_row (f := tgr a17) hx hb hK (g_right (g_right hP)) 0 4 rfl rfl (by omega) (by omega) (by decide) (v := a17 k.toNat) (if_pos (by omega)) dL_law_649 ?_
                refine lv_iconst (v := iI (1)) hx hb dL_law_650 rfl ?_
                refine gi_iald (a := (a17 k.toNat)) (n := 5) (f := (tG τ) k.toNat) hx hb hK (g_right (g_right hP)) (k.toNat + 1) 0 (qw_at (by omega)) rfl (by omega) (by omega) (by decide) dL_law_651 ?_
                rw [show (((tG τ) k.toNat) 1 : Int) = τ 5 k from tG_1 (by omega)]
                refine gi_if_lt (tgt := 667) hx hb dL_law_652 (by decide) ⟨by omega, by omega⟩ (fun c652 => ?_) (fun c652 => ?_)
                · skip
                  exfalso
                  omega
                · skip
                  refine lv_aload hx hb dL_law_655 (lv_at hl 6 rfl) ?_
                  refine lv_iload hx hb dL_law_657 (lv_at hl 1 rfl) ?_
                  refine s_row (f := tgr a17) hx hb hK (g_right (g_right hP)) 0 4 rfl rfl (by omega) (by omega) (by decide) (v := a17 k.toNat) (if_pos (by omega)) dL_law_659 ?_
                  refine lv_iconst (v := iI (1)) hx hb dL_law_660 rfl ?_
                  refine gi_iald (a := (a17 k.toNat)) (n := 5) (f := (tG τ) k.toNat) hx hb hK (g_right (g_right hP)) (k.toNat + 1) 0 (qw_at (by omega)) rfl (by omega) (by omega) (by decide) dL_law_661 ?_
                  rw [show (((tG τ) k.toNat) 1 : Int) = τ 5 k from tG_1 (by omega)]
                  refine lv_bipush (v := iI (9)) hx hb dL_law_662 rfl ?_
                  refine gi_icmp_le (tgt := 669) hx hb dL_law_664 (by decide) ⟨by omega, by omega⟩ ⟨by decide, by decide⟩ (fun c664 => ?_) (fun c664 => ?_)
                  · skip
                    exact K  H locs cells slots ls  (by omega) (by omega) hP hD hS (lv_sub hl [0, 1, 2, 3, 4, 5, 6, 7, 8, 9, 10, 11, 12, 13, 14, 15, 16, 17, 18, 19, 20, 21, 22, 23] rfl)
                  · skip
                    exfalso
                    omega
              · skip
                refine lv_aload hx hb dL_law_633 (lv_at hl 6 rfl) ?_
                refine lv_iload hx hb dL_law_635 (lv_at hl 1 rfl) ?_
                refine s_row (f := tgr a17) hx hb hK (g_right (g_right hP)) 0 4 rfl rfl (by omega) (by omega) (by decide) (v := a17 k.toNat) (if_pos (by omega)) dL_law_637 ?_
                refine lv_iconst (v := iI (0)) hx hb dL_law_638 rfl ?_
                refine gi_iald (a := (a17 k.toNat)) (n := 5) (f := (tG τ) k.toNat) hx hb hK (g_right (g_right hP)) (k.toNat + 1) 0 (qw_at (by omega)) rfl (by omega) (by omega) (by decide) dL_law_639 ?_
                rw [show (((tG τ) k.toNat) 0 : Int) = wB τ k from tG_0 (by omega)]
                refine gi_if_eq (tgt := 645) hx hb dL_law_640 (by decide) ⟨by omega, by omega⟩ (fun c640 => ?_) (fun c640 => ?_)
                · skip
                  refine lv_aload hx hb dL_law_645 (lv_at hl 6 rfl) ?_
                  refine lv_iload hx hb dL_law_647 (lv_at hl 1 rfl) ?_
                  refine s_row (f := tgr a17) hx hb hK (g_right (g_right hP)) 0 4 rfl rfl (by omega) (by omega) (by decide) (v := a17 k.toNat) (if_pos (by omega)) dL_law_649 ?_
                  refine lv_iconst (v := iI (1)) hx hb dL_law_650 rfl ?_
                  refine gi_iald (a := (a17 k.toNat)) (n := 5) (f := (tG τ) k.toNat) hx hb hK (g_right (g_right hP)) (k.toNat + 1) 0 (qw_at (by omega)) rfl (by omega) (by omega) (by decide) dL_law_651 ?_
                  rw [show (((tG τ) k.toNat) 1 : Int) = τ 5 k from tG_1 (by omega)]
                  refine gi_if_lt (tgt := 667) hx hb dL_law_652 (by decide) ⟨by omega, by omega⟩ (fun c652 => ?_) (fun c652 => ?_)
                  · skip
                    exfalso
                    omega
                  · skip
                    refine lv_aload hx hb dL_law_655 (lv_at hl 6 rfl) ?_
                    refine lv_iload hx hb dL_law_657 (lv_at hl 1 rfl) ?_
                    refine s_row (f := tgr a17) hx hb hK (g_right (g_right hP)) 0 4 rfl rfl (by omega) (by omega) (by decide) (v := a17 k.toNat) (if_pos (by omega)) dL_law_659 ?_
                    refine lv_iconst (v := iI (1)) hx hb dL_law_660 rfl ?_
                    refine gi_iald (a := (a17 k.toNat)) (n := 5) (f := (tG τ) k.toNat) hx hb hK (g_right (g_right hP)) (k.toNat + 1) 0 (qw_at (by omega)) rfl (by omega) (by omega) (by decide) dL_law_661 ?_
                    rw [show (((tG τ) k.toNat) 1 : Int) = τ 5 k from tG_1 (by omega)]
                    refine lv_bipush (v := iI (9)) hx hb dL_law_662 rfl ?_
                    refine gi_icmp_le (tgt := 669) hx hb dL_law_664 (by decide) ⟨by omega, by omega⟩ ⟨by decide, by decide⟩ (fun c664 => ?_) (fun c664 => ?_)
                    · skip
                      exact K  H locs cells slots ls  (by omega) (by omega) hP hD hS (lv_sub hl [0, 1, 2, 3, 4, 5, 6, 7, 8, 9, 10, 11, 12, 13, 14, 15, 16, 17, 18, 19, 20, 21, 22, 23] rfl)
                    · skip
                      exfalso
                      omega
                · skip
                  exfalso
                  omega
            · skip
              refine lv_aload hx hb dL_law_565 (lv_at hl 6 rfl) ?_
              refine lv_iload hx hb dL_law_567 (lv_at hl 1 rfl) ?_
              refine s_row (f := tgr a17) hx hb hK (g_right (g_right hP)) 0 4 rfl rfl (by omega) (by omega) (by decide) (v := a17 k.toNat) (if_pos (by omega)) dL_law_569 ?_
              refine lv_iconst (v := iI (3)) hx hb dL_law_570 rfl ?_
              refine gi_iald (a := (a17 k.toNat)) (n := 5) (f := (tG τ) k.toNat) hx hb hK (g_right (g_right hP)) (k.toNat + 1) 0 (qw_at (by omega)) rfl (by omega) (by omega) (by decide) dL_law_571 ?_
              rw [show (((tG τ) k.toNat) 3 : Int) = τ 4 k from tG_3 (by omega)]
              refine lv_aload hx hb dL_law_572 (lv_at hl 17 rfl) ?_
              refine lv_iload hx hb dL_law_574 (lv_at hl 1 rfl) ?_
              refine s_row (f := tgr a6) hx hb hK (g_left (g_right hP)) 0 4 rfl rfl (by omega) (by omega) (by decide) (v := a6 k.toNat) (if_pos (by omega)) dL_law_576 ?_
              refine lv_iconst (v := iI (3)) hx hb dL_law_577 rfl ?_
              refine gi_iald (a := (a6 k.toNat)) (n := 5) (f := (tG σ) k.toNat) hx hb hK (g_left (g_right hP)) (k.toNat + 1) 0 (qw_at (by omega)) rfl (by omega) (by omega) (by decide) dL_law_578 ?_
              rw [show (((tG σ) k.toNat) 3 : Int) = σ 4 k from tG_3 (by omega)]
              refine gi_icmp_eq (tgt := 643) hx hb dL_law_579 (by decide) ⟨by omega, by omega⟩ ⟨by omega, by omega⟩ (fun c579 => ?_) (fun c579 => ?_)
              · skip
                exfalso
                omega
              · skip
                refine lv_aload hx hb dL_law_582 (lv_at hl 6 rfl) ?_
                refine lv_iload hx hb dL_law_584 (lv_at hl 1 rfl) ?_
                refine s_row (f := tgr a17) hx hb hK (g_right (g_right hP)) 0 4 rfl rfl (by omega) (by omega) (by decide) (v := a17 k.toNat) (if_pos (by omega)) dL_law_586 ?_
                refine lv_iconst (v := iI (1)) hx hb dL_law_587 rfl ?_
                refine gi_iald (a := (a17 k.toNat)) (n := 5) (f := (tG τ) k.toNat) hx hb hK (g_right (g_right hP)) (k.toNat + 1) 0 (qw_at (by omega)) rfl (by omega) (by omega) (by decide) dL_law_588 ?_
                rw [show (((tG τ) k.toNat) 1 : Int) = τ 5 k from tG_1 (by omega)]
                refine lv_iconst (v := iI (1)) hx hb dL_law_589 rfl ?_
                refine gi_icmp_lt (tgt := 643) hx hb dL_law_590 (by decide) ⟨by omega, by omega⟩ ⟨by decide, by decide⟩ (fun c590 => ?_) (fun c590 => ?_)
                · skip
                  exfalso
                  omega
                · skip
                  refine lv_aload hx hb dL_law_593 (lv_at hl 6 rfl) ?_
                  refine lv_iload hx hb dL_law_595 (lv_at hl 1 rfl) ?_
                  refine s_row (f := tgr a17) hx hb hK (g_right (g_right hP)) 0 4 rfl rfl (by omega) (by omega) (by decide) (v := a17 k.toNat) (if_pos (by omega)) dL_law_597 ?_
                  refine lv_iconst (v := iI (1)) hx hb dL_law_598 rfl ?_
                  refine gi_iald (a := (a17 k.toNat)) (n := 5) (f := (tG τ) k.toNat) hx hb hK (g_right (g_right hP)) (k.toNat + 1) 0 (qw_at (by omega)) rfl (by omega) (by omega) (by decide) dL_law_599 ?_
                  rw [show (((tG τ) k.toNat) 1 : Int) = τ 5 k from tG_1 (by omega)]
                  refine lv_aload hx hb dL_law_600 (lv_at hl 17 rfl) ?_
                  refine lv_iload hx hb dL_law_602 (lv_at hl 1 rfl) ?_
                  refine s_row (f := tgr a6) hx hb hK (g_left (g_right hP)) 0 4 rfl rfl (by omega) (by omega) (by decide) (v := a6 k.toNat) (if_pos (by omega)) dL_law_604 ?_
                  refine lv_iconst (v := iI (1)) hx hb dL_law_605 rfl ?_
                  refine gi_iald (a := (a6 k.toNat)) (n := 5) (f := (tG σ) k.toNat) hx hb hK (g_left (g_right hP)) (k.toNat + 1) 0 (qw_at (by omega)) rfl (by omega) (by omega) (by decide) dL_law_606 ?_
                  rw [show (((tG σ) k.toNat) 1 : Int) = σ 5 k from tG_1 (by omega)]
                  refine gi_icmp_gt (tgt := 643) hx hb dL_law_607 (by decide) ⟨by omega, by omega⟩ ⟨by omega, by omega⟩ (fun c607 => ?_) (fun c607 => ?_)
                  · skip
                    exfalso
                    omega
                  · skip
                    refine lv_aload hx hb dL_law_610 (lv_at hl 6 rfl) ?_
                    refine lv_iload hx hb dL_law_612 (lv_at hl 1 rfl) ?_
                    refine s_row (f := tgr a17) hx hb hK (g_right (g_right hP)) 0 4 rfl rfl (by omega) (by omega) (by decide) (v := a17 k.toNat) (if_pos (by omega)) dL_law_614 ?_
                    refine lv_iconst (v := iI (4)) hx hb dL_law_615 rfl ?_
                    refine gi_iald (a := (a17 k.toNat)) (n := 5) (f := (tG τ) k.toNat) hx hb hK (g_right (g_right hP)) (k.toNat + 1) 0 (qw_at (by omega)) rfl (by omega) (by omega) (by decide) dL_law_616 ?_
                    rw [show (((tG τ) k.toNat) 4 : Int) = wD τ k from tG_4 (by omega)]
                    refine lv_aload hx hb dL_law_617 (lv_at hl 17 rfl) ?_
                    refine lv_iload hx hb dL_law_619 (lv_at hl 1 rfl) ?_
                    refine s_row (f := tgr a6) hx hb hK (g_left (g_right hP)) 0 4 rfl rfl (by omega) (by omega) (by decide) (v := a6 k.toNat) (if_pos (by omega)) dL_law_621 ?_
                    refine lv_iconst (v := iI (4)) hx hb dL_law_622 rfl ?_
                    refine gi_iald (a := (a6 k.toNat)) (n := 5) (f := (tG σ) k.toNat) hx hb hK (g_left (g_right hP)) (k.toNat + 1) 0 (qw_at (by omega)) rfl (by omega) (by omega) (by decide) dL_law_623 ?_
                    rw [show (((tG σ) k.toNat) 4 : Int) = wD σ k from tG_4 (by omega)]
                    refine gi_icmp_ne (tgt := 643) hx hb dL_law_624 (by decide) ⟨by omega, by omega⟩ ⟨by omega, by omega⟩ (fun c624 => ?_) (fun c624 => ?_)
                    · skip
                      exfalso
                      omega
                    · skip
                      refine lv_iload hx hb dL_law_627 (lv_at hl 9 rfl) ?_
                      refine lv_iconst (v := iI (3)) hx hb dL_law_629 rfl ?_
                      refine gi_icmp_ne (tgt := 645) hx hb dL_law_630 (by decide) ⟨by omega, by omega⟩ ⟨by decide, by decide⟩ (fun c630 => ?_) (fun c630 => ?_)
                      · skip
                        refine lv_aload hx hb dL_law_645 (lv_at hl 6 rfl) ?_
                        refine lv_iload hx hb dL_law_647 (lv_at hl 1 rfl) ?_
                        refine s_row (f := tgr a17) hx hb hK (g_right (g_right hP)) 0 4 rfl rfl (by omega) (by omega) (by decide) (v := a17 k.toNat) (if_pos (by omega)) dL_law_649 ?_
                        refine lv_iconst (v := iI (1)) hx hb dL_law_650 rfl ?_
                        refine gi_iald (a := (a17 k.toNat)) (n := 5) (f := (tG τ) k.toNat) hx hb hK (g_right (g_right hP)) (k.toNat + 1) 0 (qw_at (by omega)) rfl (by omega) (by omega) (by decide) dL_law_651 ?_
                        rw [show (((tG τ) k.toNat) 1 : Int) = τ 5 k from tG_1 (by omega)]
                        refine gi_if_lt (tgt := 667) hx hb dL_law_652 (by decide) ⟨by omega, by omega⟩ (fun c652 => ?_) (fun c652 => ?_)
                        · skip
                          exfalso
                          omega
                        · skip
                          refine lv_aload hx hb dL_law_655 (lv_at hl 6 rfl) ?_
                          refine lv_iload hx hb dL_law_657 (lv_at hl 1 rfl) ?_
                          refine s_row (f := tgr a17) hx hb hK (g_right (g_right hP)) 0 4 rfl rfl (by omega) (by omega) (by decide) (v := a17 k.toNat) (if_pos (by omega)) dL_law_659 ?_
                          refine lv_iconst (v := iI (1)) hx hb dL_law_660 rfl ?_
                          refine gi_iald (a := (a17 k.toNat)) (n := 5) (f := (tG τ) k.toNat) hx hb hK (g_right (g_right hP)) (k.toNat + 1) 0 (qw_at (by omega)) rfl (by omega) (by omega) (by decide) dL_law_661 ?_
                          rw [show (((tG τ) k.toNat) 1 : Int) = τ 5 k from tG_1 (by omega)]
                          refine lv_bipush (v := iI (9)) hx hb dL_law_662 rfl ?_
                          refine gi_icmp_le (tgt := 669) hx hb dL_law_664 (by decide) ⟨by omega, by omega⟩ ⟨by decide, by decide⟩ (fun c664 => ?_) (fun c664 => ?_)
                          · skip
                            exact K  H locs cells slots ls  (by omega) (by omega) hP hD hS (lv_sub hl [0, 1, 2, 3, 4, 5, 6, 7, 8, 9, 10, 11, 12, 13, 14, 15, 16, 17, 18, 19, 20, 21, 22, 23] rfl)
                          · skip
                            exfalso
                            omega
                      · skip
                        refine lv_aload hx hb dL_law_633 (lv_at hl 6 rfl) ?_
                        refine lv_iload hx hb dL_law_635 (lv_at hl 1 rfl) ?_
                        refine s_row (f := tgr a17) hx hb hK (g_right (g_right hP)) 0 4 rfl rfl (by omega) (by omega) (by decide) (v := a17 k.toNat) (if_pos (by omega)) dL_law_637 ?_
                        refine lv_iconst (v := iI (0)) hx hb dL_law_638 rfl ?_
                        refine gi_iald (a := (a17 k.toNat)) (n := 5) (f := (tG τ) k.toNat) hx hb hK (g_right (g_right hP)) (k.toNat + 1) 0 (qw_at (by omega)) rfl (by omega) (by omega) (by decide) dL_law_639 ?_
                        rw [show (((tG τ) k.toNat) 0 : Int) = wB τ k from tG_0 (by omega)]
                        refine gi_if_eq (tgt := 645) hx hb dL_law_640 (by decide) ⟨by omega, by omega⟩ (fun c640 => ?_) (fun c640 => ?_)
                        · skip
                          refine lv_aload hx hb dL_law_645 (lv_at hl 6 rfl) ?_
                          refine lv_iload hx hb dL_law_647 (lv_at hl 1 rfl) ?_
                          refine s_row (f := tgr a17) hx hb hK (g_right (g_right hP)) 0 4 rfl rfl (by omega) (by omega) (by decide) (v := a17 k.toNat) (if_pos (by omega)) dL_law_649 ?_
                          refine lv_iconst (v := iI (1)) hx hb dL_law_650 rfl ?_
                          refine gi_iald (a := (a17 k.toNat)) (n := 5) (f := (tG τ) k.toNat) hx hb hK (g_right (g_right hP)) (k.toNat + 1) 0 (qw_at (by omega)) rfl (by omega) (by omega) (by decide) dL_law_651 ?_
                          rw [show (((tG τ) k.toNat) 1 : Int) = τ 5 k from tG_1 (by omega)]
                          refine gi_if_lt (tgt := 667) hx hb dL_law_652 (by decide) ⟨by omega, by omega⟩ (fun c652 => ?_) (fun c652 => ?_)
                          · skip
                            exfalso
                            omega
                          · skip
                            refine lv_aload hx hb dL_law_655 (lv_at hl 6 rfl) ?_
                            refine lv_iload hx hb dL_law_657 (lv_at hl 1 rfl) ?_
                            refine s_row (f := tgr a17) hx hb hK (g_right (g_right hP)) 0 4 rfl rfl (by omega) (by omega) (by decide) (v := a17 k.toNat) (if_pos (by omega)) dL_law_659 ?_
                            refine lv_iconst (v := iI (1)) hx hb dL_law_660 rfl ?_
                            refine gi_iald (a := (a17 k.toNat)) (n := 5) (f := (tG τ) k.toNat) hx hb hK (g_right (g_right hP)) (k.toNat + 1) 0 (qw_at (by omega)) rfl (by omega) (by omega) (by decide) dL_law_661 ?_
                            rw [show (((tG τ) k.toNat) 1 : Int) = τ 5 k from tG_1 (by omega)]
                            refine lv_bipush (v := iI (9)) hx hb dL_law_662 rfl ?_
                            refine gi_icmp_le (tgt := 669) hx hb dL_law_664 (by decide) ⟨by omega, by omega⟩ ⟨by decide, by decide⟩ (fun c664 => ?_) (fun c664 => ?_)
                            · skip
                              exact K  H locs cells slots ls  (by omega) (by omega) hP hD hS (lv_sub hl [0, 1, 2, 3, 4, 5, 6, 7, 8, 9, 10, 11, 12, 13, 14, 15, 16, 17, 18, 19, 20, 21, 22, 23] rfl)
                            · skip
                              exfalso
                              omega
                        · skip
                          exfalso
                          omega
  · skip
    refine lv_iload hx hb dL_law_468 (lv_at hl 9 rfl) ?_
    refine gi_if_ne (tgt := 508) hx hb dL_law_470 (by decide) ⟨by omega, by omega⟩ (fun c470 => ?_) (fun c470 => ?_)
    · skip
      refine lv_aload hx hb dL_law_508 (lv_at hl 17 rfl) ?_
      refine lv_iload hx hb dL_law_510 (lv_at hl 1 rfl) ?_
      refine s_row (f := tgr a6) hx hb hK (g_left (g_right hP)) 0 4 rfl rfl (by omega) (by omega) (by decide) (v := a6 k.toNat) (if_pos (by omega)) dL_law_512 ?_
      refine lv_iconst (v := iI (0)) hx hb dL_law_513 rfl ?_
      refine gi_iald (a := (a6 k.toNat)) (n := 5) (f := (tG σ) k.toNat) hx hb hK (g_left (g_right hP)) (k.toNat + 1) 0 (qw_at (by omega)) rfl (by omega) (by omega) (by decide) dL_law_514 ?_
      rw [show (((tG σ) k.toNat) 0 : Int) = wB σ k from tG_0 (by omega)]
      refine lv_iconst (v := iI (1)) hx hb dL_law_515 rfl ?_
      refine gi_icmp_eq (tgt := 521) hx hb dL_law_516 (by decide) ⟨by omega, by omega⟩ ⟨by decide, by decide⟩ (fun c516 => ?_) (fun c516 => ?_)
      · skip
        refine lv_iload hx hb dL_law_521 (lv_at hl 0 rfl) ?_
        refine gi_if_eq (tgt := 645) hx hb dL_law_523 (by decide) ⟨by omega, by omega⟩ (fun c523 => ?_) (fun c523 => ?_)
        · skip
          refine lv_aload hx hb dL_law_645 (lv_at hl 6 rfl) ?_
          refine lv_iload hx hb dL_law_647 (lv_at hl 1 rfl) ?_
          refine s_row (f := tgr a17) hx hb hK (g_right (g_right hP)) 0 4 rfl rfl (by omega) (by omega) (by decide) (v := a17 k.toNat) (if_pos (by omega)) dL_law_649 ?_
          refine lv_iconst (v := iI (1)) hx hb dL_law_650 rfl ?_
          refine gi_iald (a := (a17 k.toNat)) (n := 5) (f := (tG τ) k.toNat) hx hb hK (g_right (g_right hP)) (k.toNat + 1) 0 (qw_at (by omega)) rfl (by omega) (by omega) (by decide) dL_law_651 ?_
          rw [show (((tG τ) k.toNat) 1 : Int) = τ 5 k from tG_1 (by omega)]
          refine gi_if_lt (tgt := 667) hx hb dL_law_652 (by decide) ⟨by omega, by omega⟩ (fun c652 => ?_) (fun c652 => ?_)
          · skip
            exfalso
            omega
          · skip
            refine lv_aload hx hb dL_law_655 (lv_at hl 6 rfl) ?_
            refine lv_iload hx hb dL_law_657 (lv_at hl 1 rfl) ?_
            refine s_row (f := tgr a17) hx hb hK (g_right (g_right hP)) 0 4 rfl rfl (by omega) (by omega) (by decide) (v := a17 k.toNat) (if_pos (by omega)) dL_law_659 ?_
            refine lv_iconst (v := iI (1)) hx hb dL_law_660 rfl ?_
            refine gi_iald (a := (a17 k.toNat)) (n := 5) (f := (tG τ) k.toNat) hx hb hK (g_right (g_right hP)) (k.toNat + 1) 0 (qw_at (by omega)) rfl (by omega) (by omega) (by decide) dL_law_661 ?_
            rw [show (((tG τ) k.toNat) 1 : Int) = τ 5 k from tG_1 (by omega)]
            refine lv_bipush (v := iI (9)) hx hb dL_law_662 rfl ?_
            refine gi_icmp_le (tgt := 669) hx hb dL_law_664 (by decide) ⟨by omega, by omega⟩ ⟨by decide, by decide⟩ (fun c664 => ?_) (fun c664 => ?_)
            · skip
              exact K  H locs cells slots ls  (by omega) (by omega) hP hD hS (lv_sub hl [0, 1, 2, 3, 4, 5, 6, 7, 8, 9, 10, 11, 12, 13, 14, 15, 16, 17, 18, 19, 20, 21, 22, 23] rfl)
            · skip
              exfalso
              omega
        · skip
          refine lv_iload hx hb dL_law_526 (lv_at hl 9 rfl) ?_
          refine lv_iconst (v := iI (1)) hx hb dL_law_528 rfl ?_
          refine gi_icmp_ne (tgt := 559) hx hb dL_law_529 (by decide) ⟨by omega, by omega⟩ ⟨by decide, by decide⟩ (fun c529 => ?_) (fun c529 => ?_)
          · skip
            refine lv_iload hx hb dL_law_559 (lv_at hl 9 rfl) ?_
            refine lv_iconst (v := iI (2)) hx hb dL_law_561 rfl ?_
            refine gi_icmp_ne (tgt := 627) hx hb dL_law_562 (by decide) ⟨by omega, by omega⟩ ⟨by decide, by decide⟩ (fun c562 => ?_) (fun c562 => ?_)
            · skip
              refine lv_iload hx hb dL_law_627 (lv_at hl 9 rfl) ?_
              refine lv_iconst (v := iI (3)) hx hb dL_law_629 rfl ?_
              refine gi_icmp_ne (tgt := 645) hx hb dL_law_630 (by decide) ⟨by omega, by omega⟩ ⟨by decide, by decide⟩ (fun c630 => ?_) (fun c630 => ?_)
              · skip
                refine lv_aload hx hb dL_law_645 (lv_at hl 6 rfl) ?_
                refine lv_iload hx hb dL_law_647 (lv_at hl 1 rfl) ?_
                refine s_row (f := tgr a17) hx hb hK (g_right (g_right hP)) 0 4 rfl rfl (by omega) (by omega) (by decide) (v := a17 k.toNat) (if_pos (by omega)) dL_law_649 ?_
                refine lv_iconst (v := iI (1)) hx hb dL_law_650 rfl ?_
                refine gi_iald (a := (a17 k.toNat)) (n := 5) (f := (tG τ) k.toNat) hx hb hK (g_right (g_right hP)) (k.toNat + 1) 0 (qw_at (by omega)) rfl (by omega) (by omega) (by decide) dL_law_651 ?_
                rw [show (((tG τ) k.toNat) 1 : Int) = τ 5 k from tG_1 (by omega)]
                refine gi_if_lt (tgt := 667) hx hb dL_law_652 (by decide) ⟨by omega, by omega⟩ (fun c652 => ?_) (fun c652 => ?_)
                · skip
                  exfalso
                  omega
                · skip
                  refine lv_aload hx hb dL_law_655 (lv_at hl 6 rfl) ?_
                  refine lv_iload hx hb dL_law_657 (lv_at hl 1 rfl) ?_
                  refine s_row (f := tgr a17) hx hb hK (g_right (g_right hP)) 0 4 rfl rfl (by omega) (by omega) (by decide) (v := a17 k.toNat) (if_pos (by omega)) dL_law_659 ?_
                  refine lv_iconst (v := iI (1)) hx hb dL_law_660 rfl ?_
                  refine gi_iald (a := (a17 k.toNat)) (n := 5) (f := (tG τ) k.toNat) hx hb hK (g_right (g_right hP)) (k.toNat + 1) 0 (qw_at (by omega)) rfl (by omega) (by omega) (by decide) dL_law_661 ?_
                  rw [show (((tG τ) k.toNat) 1 : Int) = τ 5 k from tG_1 (by omega)]
                  refine lv_bipush (v := iI (9)) hx hb dL_law_662 rfl ?_
                  refine gi_icmp_le (tgt := 669) hx hb dL_law_664 (by decide) ⟨by omega, by omega⟩ ⟨by decide, by decide⟩ (fun c664 => ?_) (fun c664 => ?_)
                  · skip
                    exact K  H locs cells slots ls  (by omega) (by omega) hP hD hS (lv_sub hl [0, 1, 2, 3, 4, 5, 6, 7, 8, 9, 10, 11, 12, 13, 14, 15, 16, 17, 18, 19, 20, 21, 22, 23] rfl)
                  · skip
                    exfalso
                    omega
              · skip
                refine lv_aload hx hb dL_law_633 (lv_at hl 6 rfl) ?_
                refine lv_iload hx hb dL_law_635 (lv_at hl 1 rfl) ?_
                refine s_row (f := tgr a17) hx hb hK (g_right (g_right hP)) 0 4 rfl rfl (by omega) (by omega) (by decide) (v := a17 k.toNat) (if_pos (by omega)) dL_law_637 ?_
                refine lv_iconst (v := iI (0)) hx hb dL_law_638 rfl ?_
                refine gi_iald (a := (a17 k.toNat)) (n := 5) (f := (tG τ) k.toNat) hx hb hK (g_right (g_right hP)) (k.toNat + 1) 0 (qw_at (by omega)) rfl (by omega) (by omega) (by decide) dL_law_639 ?_
                rw [show (((tG τ) k.toNat) 0 : Int) = wB τ k from tG_0 (by omega)]
                refine gi_if_eq (tgt := 645) hx hb dL_law_640 (by decide) ⟨by omega, by omega⟩ (fun c640 => ?_) (fun c640 => ?_)
                · skip
                  refine lv_aload hx hb dL_law_645 (lv_at hl 6 rfl) ?_
                  refine lv_iload hx hb dL_law_647 (lv_at hl 1 rfl) ?_
                  refine s_row (f := tgr a17) hx hb hK (g_right (g_right hP)) 0 4 rfl rfl (by omega) (by omega) (by decide) (v := a17 k.toNat) (if_pos (by omega)) dL_law_649 ?_
                  refine lv_iconst (v := iI (1)) hx hb dL_law_650 rfl ?_
                  refine gi_iald (a := (a17 k.toNat)) (n := 5) (f := (tG τ) k.toNat) hx hb hK (g_right (g_right hP)) (k.toNat + 1) 0 (qw_at (by omega)) rfl (by omega) (by omega) (by decide) dL_law_651 ?_
                  rw [show (((tG τ) k.toNat) 1 : Int) = τ 5 k from tG_1 (by omega)]
                  refine gi_if_lt (tgt := 667) hx hb dL_law_652 (by decide) ⟨by omega, by omega⟩ (fun c652 => ?_) (fun c652 => ?_)
                  · skip
                    exfalso
                    omega
                  · skip
                    refine lv_aload hx hb dL_law_655 (lv_at hl 6 rfl) ?_
                    refine lv_iload hx hb dL_law_657 (lv_at hl 1 rfl) ?_
                    refine s_row (f := tgr a17) hx hb hK (g_right (g_right hP)) 0 4 rfl rfl (by omega) (by omega) (by decide) (v := a17 k.toNat) (if_pos (by omega)) dL_law_659 ?_
                    refine lv_iconst (v := iI (1)) hx hb dL_law_660 rfl ?_
                    refine gi_iald (a := (a17 k.toNat)) (n := 5) (f := (tG τ) k.toNat) hx hb hK (g_right (g_right hP)) (k.toNat + 1) 0 (qw_at (by omega)) rfl (by omega) (by omega) (by decide) dL_law_661 ?_
                    rw [show (((tG τ) k.toNat) 1 : Int) = τ 5 k from tG_1 (by omega)]
                    refine lv_bipush (v := iI (9)) hx hb dL_law_662 rfl ?_
                    refine gi_icmp_le (tgt := 669) hx hb dL_law_664 (by decide) ⟨by omega, by omega⟩ ⟨by decide, by decide⟩ (fun c664 => ?_) (fun c664 => ?_)
                    · skip
                      exact K  H locs cells slots ls  (by omega) (by omega) hP hD hS (lv_sub hl [0, 1, 2, 3, 4, 5, 6, 7, 8, 9, 10, 11, 12, 13, 14, 15, 16, 17, 18, 19, 20, 21, 22, 23] rfl)
                    · skip
                      exfalso
                      omega
                · skip
                  exfalso
                  omega
            · skip
              refine lv_aload hx hb dL_law_565 (lv_at hl 6 rfl) ?_
              refine lv_iload hx hb dL_law_567 (lv_at hl 1 rfl) ?_
              refine s_row (f := tgr a17) hx hb hK (g_right (g_right hP)) 0 4 rfl rfl (by omega) (by omega) (by decide) (v := a17 k.toNat) (if_pos (by omega)) dL_law_569 ?_
              refine lv_iconst (v := iI (3)) hx hb dL_law_570 rfl ?_
              refine gi_iald (a := (a17 k.toNat)) (n := 5) (f := (tG τ) k.toNat) hx hb hK (g_right (g_right hP)) (k.toNat + 1) 0 (qw_at (by omega)) rfl (by omega) (by omega) (by decide) dL_law_571 ?_
              rw [show (((tG τ) k.toNat) 3 : Int) = τ 4 k from tG_3 (by omega)]
              refine lv_aload hx hb dL_law_572 (lv_at hl 17 rfl) ?_
              refine lv_iload hx hb dL_law_574 (lv_at hl 1 rfl) ?_
              refine s_row (f := tgr a6) hx hb hK (g_left (g_right hP)) 0 4 rfl rfl (by omega) (by omega) (by decide) (v := a6 k.toNat) (if_pos (by omega)) dL_law_576 ?_
              refine lv_iconst (v := iI (3)) hx hb dL_law_577 rfl ?_
              refine gi_iald (a := (a6 k.toNat)) (n := 5) (f := (tG σ) k.toNat) hx hb hK (g_left (g_right hP)) (k.toNat + 1) 0 (qw_at (by omega)) rfl (by omega) (by omega) (by decide) dL_law_578 ?_
              rw [show (((tG σ) k.toNat) 3 : Int) = σ 4 k from tG_3 (by omega)]
              refine gi_icmp_eq (tgt := 643) hx hb dL_law_579 (by decide) ⟨by omega, by omega⟩ ⟨by omega, by omega⟩ (fun c579 => ?_) (fun c579 => ?_)
              · skip
                exfalso
                omega
              · skip
                refine lv_aload hx hb dL_law_582 (lv_at hl 6 rfl) ?_
                refine lv_iload hx hb dL_law_584 (lv_at hl 1 rfl) ?_
                refine s_row (f := tgr a17) hx hb hK (g_right (g_right hP)) 0 4 rfl rfl (by omega) (by omega) (by decide) (v := a17 k.toNat) (if_pos (by omega)) dL_law_586 ?_
                refine lv_iconst (v := iI (1)) hx hb dL_law_587 rfl ?_
                refine gi_iald (a := (a17 k.toNat)) (n := 5) (f := (tG τ) k.toNat) hx hb hK (g_right (g_right hP)) (k.toNat + 1) 0 (qw_at (by omega)) rfl (by omega) (by omega) (by decide) dL_law_588 ?_
                rw [show (((tG τ) k.toNat) 1 : Int) = τ 5 k from tG_1 (by omega)]
                refine lv_iconst (v := iI (1)) hx hb dL_law_589 rfl ?_
                refine gi_icmp_lt (tgt := 643) hx hb dL_law_590 (by decide) ⟨by omega, by omega⟩ ⟨by decide, by decide⟩ (fun c590 => ?_) (fun c590 => ?_)
                · skip
                  exfalso
                  omega
                · skip
                  refine lv_aload hx hb dL_law_593 (lv_at hl 6 rfl) ?_
                  refine lv_iload hx hb dL_law_595 (lv_at hl 1 rfl) ?_
                  refine s_row (f := tgr a17) hx hb hK (g_right (g_right hP)) 0 4 rfl rfl (by omega) (by omega) (by decide) (v := a17 k.toNat) (if_pos (by omega)) dL_law_597 ?_
                  refine lv_iconst (v := iI (1)) hx hb dL_law_598 rfl ?_
                  refine gi_iald (a := (a17 k.toNat)) (n := 5) (f := (tG τ) k.toNat) hx hb hK (g_right (g_right hP)) (k.toNat + 1) 0 (qw_at (by omega)) rfl (by omega) (by omega) (by decide) dL_law_599 ?_
                  rw [show (((tG τ) k.toNat) 1 : Int) = τ 5 k from tG_1 (by omega)]
                  refine lv_aload hx hb dL_law_600 (lv_at hl 17 rfl) ?_
                  refine lv_iload hx hb dL_law_602 (lv_at hl 1 rfl) ?_
                  refine s_row (f := tgr a6) hx hb hK (g_left (g_right hP)) 0 4 rfl rfl (by omega) (by omega) (by decide) (v := a6 k.toNat) (if_pos (by omega)) dL_law_604 ?_
                  refine lv_iconst (v := iI (1)) hx hb dL_law_605 rfl ?_
                  refine gi_iald (a := (a6 k.toNat)) (n := 5) (f := (tG σ) k.toNat) hx hb hK (g_left (g_right hP)) (k.toNat + 1) 0 (qw_at (by omega)) rfl (by omega) (by omega) (by decide) dL_law_606 ?_
                  rw [show (((tG σ) k.toNat) 1 : Int) = σ 5 k from tG_1 (by omega)]
                  refine gi_icmp_gt (tgt := 643) hx hb dL_law_607 (by decide) ⟨by omega, by omega⟩ ⟨by omega, by omega⟩ (fun c607 => ?_) (fun c607 => ?_)
                  · skip
                    exfalso
                    omega
                  · skip
                    refine lv_aload hx hb dL_law_610 (lv_at hl 6 rfl) ?_
                    refine lv_iload hx hb dL_law_612 (lv_at hl 1 rfl) ?_
                    refine s_row (f := tgr a17) hx hb hK (g_right (g_right hP)) 0 4 rfl rfl (by omega) (by omega) (by decide) (v := a17 k.toNat) (if_pos (by omega)) dL_law_614 ?_
                    refine lv_iconst (v := iI (4)) hx hb dL_law_615 rfl ?_
                    refine gi_iald (a := (a17 k.toNat)) (n := 5) (f := (tG τ) k.toNat) hx hb hK (g_right (g_right hP)) (k.toNat + 1) 0 (qw_at (by omega)) rfl (by omega) (by omega) (by decide) dL_law_616 ?_
                    rw [show (((tG τ) k.toNat) 4 : Int) = wD τ k from tG_4 (by omega)]
                    refine lv_aload hx hb dL_law_617 (lv_at hl 17 rfl) ?_
                    refine lv_iload hx hb dL_law_619 (lv_at hl 1 rfl) ?_
                    refine s_row (f := tgr a6) hx hb hK (g_left (g_right hP)) 0 4 rfl rfl (by omega) (by omega) (by decide) (v := a6 k.toNat) (if_pos (by omega)) dL_law_621 ?_
                    refine lv_iconst (v := iI (4)) hx hb dL_law_622 rfl ?_
                    refine gi_iald (a := (a6 k.toNat)) (n := 5) (f := (tG σ) k.toNat) hx hb hK (g_left (g_right hP)) (k.toNat + 1) 0 (qw_at (by omega)) rfl (by omega) (by omega) (by decide) dL_law_623 ?_
                    rw [show (((tG σ) k.toNat) 4 : Int) = wD σ k from tG_4 (by omega)]
                    refine gi_icmp_ne (tgt := 643) hx hb dL_law_624 (by decide) ⟨by omega, by omega⟩ ⟨by omega, by omega⟩ (fun c624 => ?_) (fun c624 => ?_)
                    · skip
                      exfalso
                      omega
                    · skip
                      refine lv_iload hx hb dL_law_627 (lv_at hl 9 rfl) ?_
                      refine lv_iconst (v := iI (3)) hx hb dL_law_629 rfl ?_
                      refine gi_icmp_ne (tgt := 645) hx hb dL_law_630 (by decide) ⟨by omega, by omega⟩ ⟨by decide, by decide⟩ (fun c630 => ?_) (fun c630 => ?_)
                      · skip
                        refine lv_aload hx hb dL_law_645 (lv_at hl 6 rfl) ?_
                        refine lv_iload hx hb dL_law_647 (lv_at hl 1 rfl) ?_
                        refine s_row (f := tgr a17) hx hb hK (g_right (g_right hP)) 0 4 rfl rfl (by omega) (by omega) (by decide) (v := a17 k.toNat) (if_pos (by omega)) dL_law_649 ?_
                        refine lv_iconst (v := iI (1)) hx hb dL_law_650 rfl ?_
                        refine gi_iald (a := (a17 k.toNat)) (n := 5) (f := (tG τ) k.toNat) hx hb hK (g_right (g_right hP)) (k.toNat + 1) 0 (qw_at (by omega)) rfl (by omega) (by omega) (by decide) dL_law_651 ?_
                        rw [show (((tG τ) k.toNat) 1 : Int) = τ 5 k from tG_1 (by omega)]
                        refine gi_if_lt (tgt := 667) hx hb dL_law_652 (by decide) ⟨by omega, by omega⟩ (fun c652 => ?_) (fun c652 => ?_)
                        · skip
                          exfalso
                          omega
                        · skip
                          refine lv_aload hx hb dL_law_655 (lv_at hl 6 rfl) ?_
                          refine lv_iload hx hb dL_law_657 (lv_at hl 1 rfl) ?_
                          refine s_row (f := tgr a17) hx hb hK (g_right (g_right hP)) 0 4 rfl rfl (by omega) (by omega) (by decide) (v := a17 k.toNat) (if_pos (by omega)) dL_law_659 ?_
                          refine lv_iconst (v := iI (1)) hx hb dL_law_660 rfl ?_
                          refine gi_iald (a := (a17 k.toNat)) (n := 5) (f := (tG τ) k.toNat) hx hb hK (g_right (g_right hP)) (k.toNat + 1) 0 (qw_at (by omega)) rfl (by omega) (by omega) (by decide) dL_law_661 ?_
                          rw [show (((tG τ) k.toNat) 1 : Int) = τ 5 k from tG_1 (by omega)]
                          refine lv_bipush (v := iI (9)) hx hb dL_law_662 rfl ?_
                          refine gi_icmp_le (tgt := 669) hx hb dL_law_664 (by decide) ⟨by omega, by omega⟩ ⟨by decide, by decide⟩ (fun c664 => ?_) (fun c664 => ?_)
                          · skip
                            exact K  H locs cells slots ls  (by omega) (by omega) hP hD hS (lv_sub hl [0, 1, 2, 3, 4, 5, 6, 7, 8, 9, 10, 11, 12, 13, 14, 15, 16, 17, 18, 19, 20, 21, 22, 23] rfl)
                          · skip
                            exfalso
                            omega
                      · skip
                        refine lv_aload hx hb dL_law_633 (lv_at hl 6 rfl) ?_
                        refine lv_iload hx hb dL_law_635 (lv_at hl 1 rfl) ?_
                        refine s_row (f := tgr a17) hx hb hK (g_right (g_right hP)) 0 4 rfl rfl (by omega) (by omega) (by decide) (v := a17 k.toNat) (if_pos (by omega)) dL_law_637 ?_
                        refine lv_iconst (v := iI (0)) hx hb dL_law_638 rfl ?_
                        refine gi_iald (a := (a17 k.toNat)) (n := 5) (f := (tG τ) k.toNat) hx hb hK (g_right (g_right hP)) (k.toNat + 1) 0 (qw_at (by omega)) rfl (by omega) (by omega) (by decide) dL_law_639 ?_
                        rw [show (((tG τ) k.toNat) 0 : Int) = wB τ k from tG_0 (by omega)]
                        refine gi_if_eq (tgt := 645) hx hb dL_law_640 (by decide) ⟨by omega, by omega⟩ (fun c640 => ?_) (fun c640 => ?_)
                        · skip
                          refine lv_aload hx hb dL_law_645 (lv_at hl 6 rfl) ?_
                          refine lv_iload hx hb dL_law_647 (lv_at hl 1 rfl) ?_
                          refine s_row (f := tgr a17) hx hb hK (g_right (g_right hP)) 0 4 rfl rfl (by omega) (by omega) (by decide) (v := a17 k.toNat) (if_pos (by omega)) dL_law_649 ?_
                          refine lv_iconst (v := iI (1)) hx hb dL_law_650 rfl ?_
                          refine gi_iald (a := (a17 k.toNat)) (n := 5) (f := (tG τ) k.toNat) hx hb hK (g_right (g_right hP)) (k.toNat + 1) 0 (qw_at (by omega)) rfl (by omega) (by omega) (by decide) dL_law_651 ?_
                          rw [show (((tG τ) k.toNat) 1 : Int) = τ 5 k from tG_1 (by omega)]
                          refine gi_if_lt (tgt := 667) hx hb dL_law_652 (by decide) ⟨by omega, by omega⟩ (fun c652 => ?_) (fun c652 => ?_)
                          · skip
                            exfalso
                            omega
                          · skip
                            refine lv_aload hx hb dL_law_655 (lv_at hl 6 rfl) ?_
                            refine lv_iload hx hb dL_law_657 (lv_at hl 1 rfl) ?_
                            refine s_row (f := tgr a17) hx hb hK (g_right (g_right hP)) 0 4 rfl rfl (by omega) (by omega) (by decide) (v := a17 k.toNat) (if_pos (by omega)) dL_law_659 ?_
                            refine lv_iconst (v := iI (1)) hx hb dL_law_660 rfl ?_
                            refine gi_iald (a := (a17 k.toNat)) (n := 5) (f := (tG τ) k.toNat) hx hb hK (g_right (g_right hP)) (k.toNat + 1) 0 (qw_at (by omega)) rfl (by omega) (by omega) (by decide) dL_law_661 ?_
                            rw [show (((tG τ) k.toNat) 1 : Int) = τ 5 k from tG_1 (by omega)]
                            refine lv_bipush (v := iI (9)) hx hb dL_law_662 rfl ?_
                            refine gi_icmp_le (tgt := 669) hx hb dL_law_664 (by decide) ⟨by omega, by omega⟩ ⟨by decide, by decide⟩ (fun c664 => ?_) (fun c664 => ?_)
                            · skip
                              exact K  H locs cells slots ls  (by omega) (by omega) hP hD hS (lv_sub hl [0, 1, 2, 3, 4, 5, 6, 7, 8, 9, 10, 11, 12, 13, 14, 15, 16, 17, 18, 19, 20, 21, 22, 23] rfl)
                            · skip
                              exfalso
                              omega
                        · skip
                          exfalso
                          omega
          · skip
            refine lv_aload hx hb dL_law_532 (lv_at hl 6 rfl) ?_
            refine lv_iload hx hb dL_law_534 (lv_at hl 1 rfl) ?_
            refine s_row (f := tgr a17) hx hb hK (g_right (g_right hP)) 0 4 rfl rfl (by omega) (by omega) (by decide) (v := a17 k.toNat) (if_pos (by omega)) dL_law_536 ?_
            refine lv_iconst (v := iI (1)) hx hb dL_law_537 rfl ?_
            refine gi_iald (a := (a17 k.toNat)) (n := 5) (f := (tG τ) k.toNat) hx hb hK (g_right (g_right hP)) (k.toNat + 1) 0 (qw_at (by omega)) rfl (by omega) (by omega) (by decide) dL_law_538 ?_
            rw [show (((tG τ) k.toNat) 1 : Int) = τ 5 k from tG_1 (by omega)]
            refine lv_aload hx hb dL_law_539 (lv_at hl 17 rfl) ?_
            refine lv_iload hx hb dL_law_541 (lv_at hl 1 rfl) ?_
            refine s_row (f := tgr a6) hx hb hK (g_left (g_right hP)) 0 4 rfl rfl (by omega) (by omega) (by decide) (v := a6 k.toNat) (if_pos (by omega)) dL_law_543 ?_
            refine lv_iconst (v := iI (1)) hx hb dL_law_544 rfl ?_
            refine gi_iald (a := (a6 k.toNat)) (n := 5) (f := (tG σ) k.toNat) hx hb hK (g_left (g_right hP)) (k.toNat + 1) 0 (qw_at (by omega)) rfl (by omega) (by omega) (by decide) dL_law_545 ?_
            rw [show (((tG σ) k.toNat) 1 : Int) = σ 5 k from tG_1 (by omega)]
            refine gi_icmp_ge (tgt := 643) hx hb dL_law_546 (by decide) ⟨by omega, by omega⟩ ⟨by omega, by omega⟩ (fun c546 => ?_) (fun c546 => ?_)
            · skip
              exfalso
              omega
            · skip
              refine lv_aload hx hb dL_law_549 (lv_at hl 6 rfl) ?_
              refine lv_iload hx hb dL_law_551 (lv_at hl 1 rfl) ?_
              refine s_row (f := tgr a17) hx hb hK (g_right (g_right hP)) 0 4 rfl rfl (by omega) (by omega) (by decide) (v := a17 k.toNat) (if_pos (by omega)) dL_law_553 ?_
              refine lv_iconst (v := iI (4)) hx hb dL_law_554 rfl ?_
              refine gi_iald (a := (a17 k.toNat)) (n := 5) (f := (tG τ) k.toNat) hx hb hK (g_right (g_right hP)) (k.toNat + 1) 0 (qw_at (by omega)) rfl (by omega) (by omega) (by decide) dL_law_555 ?_
              rw [show (((tG τ) k.toNat) 4 : Int) = wD τ k from tG_4 (by omega)]
              refine gi_if_ne (tgt := 643) hx hb dL_law_556 (by decide) ⟨by omega, by omega⟩ (fun c556 => ?_) (fun c556 => ?_)
              · skip
                exfalso
                omega
              · skip
                refine lv_iload hx hb dL_law_559 (lv_at hl 9 rfl) ?_
                refine lv_iconst (v := iI (2)) hx hb dL_law_561 rfl ?_
                refine gi_icmp_ne (tgt := 627) hx hb dL_law_562 (by decide) ⟨by omega, by omega⟩ ⟨by decide, by decide⟩ (fun c562 => ?_) (fun c562 => ?_)
                · skip
                  refine lv_iload hx hb dL_law_627 (lv_at hl 9 rfl) ?_
                  refine lv_iconst (v := iI (3)) hx hb dL_law_629 rfl ?_
                  refine gi_icmp_ne (tgt := 645) hx hb dL_law_630 (by decide) ⟨by omega, by omega⟩ ⟨by decide, by decide⟩ (fun c630 => ?_) (fun c630 => ?_)
                  · skip
                    refine lv_aload hx hb dL_law_645 (lv_at hl 6 rfl) ?_
                    refine lv_iload hx hb dL_law_647 (lv_at hl 1 rfl) ?_
                    refine s_row (f := tgr a17) hx hb hK (g_right (g_right hP)) 0 4 rfl rfl (by omega) (by omega) (by decide) (v := a17 k.toNat) (if_pos (by omega)) dL_law_649 ?_
                    refine lv_iconst (v := iI (1)) hx hb dL_law_650 rfl ?_
                    refine gi_iald (a := (a17 k.toNat)) (n := 5) (f := (tG τ) k.toNat) hx hb hK (g_right (g_right hP)) (k.toNat + 1) 0 (qw_at (by omega)) rfl (by omega) (by omega) (by decide) dL_law_651 ?_
                    rw [show (((tG τ) k.toNat) 1 : Int) = τ 5 k from tG_1 (by omega)]
                    refine gi_if_lt (tgt := 667) hx hb dL_law_652 (by decide) ⟨by omega, by omega⟩ (fun c652 => ?_) (fun c652 => ?_)
                    · skip
                      exfalso
                      omega
                    · skip
                      refine lv_aload hx hb dL_law_655 (lv_at hl 6 rfl) ?_
                      refine lv_iload hx hb dL_law_657 (lv_at hl 1 rfl) ?_
                      refine s_row (f := tgr a17) hx hb hK (g_right (g_right hP)) 0 4 rfl rfl (by omega) (by omega) (by decide) (v := a17 k.toNat) (if_pos (by omega)) dL_law_659 ?_
                      refine lv_iconst (v := iI (1)) hx hb dL_law_660 rfl ?_
                      refine gi_iald (a := (a17 k.toNat)) (n := 5) (f := (tG τ) k.toNat) hx hb hK (g_right (g_right hP)) (k.toNat + 1) 0 (qw_at (by omega)) rfl (by omega) (by omega) (by decide) dL_law_661 ?_
                      rw [show (((tG τ) k.toNat) 1 : Int) = τ 5 k from tG_1 (by omega)]
                      refine lv_bipush (v := iI (9)) hx hb dL_law_662 rfl ?_
                      refine gi_icmp_le (tgt := 669) hx hb dL_law_664 (by decide) ⟨by omega, by omega⟩ ⟨by decide, by decide⟩ (fun c664 => ?_) (fun c664 => ?_)
                      · skip
                        exact K  H locs cells slots ls  (by omega) (by omega) hP hD hS (lv_sub hl [0, 1, 2, 3, 4, 5, 6, 7, 8, 9, 10, 11, 12, 13, 14, 15, 16, 17, 18, 19, 20, 21, 22, 23] rfl)
                      · skip
                        exfalso
                        omega
                  · skip
                    refine lv_aload hx hb dL_law_633 (lv_at hl 6 rfl) ?_
                    refine lv_iload hx hb dL_law_635 (lv_at hl 1 rfl) ?_
                    refine s_row (f := tgr a17) hx hb hK (g_right (g_right hP)) 0 4 rfl rfl (by omega) (by omega) (by decide) (v := a17 k.toNat) (if_pos (by omega)) dL_law_637 ?_
                    refine lv_iconst (v := iI (0)) hx hb dL_law_638 rfl ?_
                    refine gi_iald (a := (a17 k.toNat)) (n := 5) (f := (tG τ) k.toNat) hx hb hK (g_right (g_right hP)) (k.toNat + 1) 0 (qw_at (by omega)) rfl (by omega) (by omega) (by decide) dL_law_639 ?_
                    rw [show (((tG τ) k.toNat) 0 : Int) = wB τ k from tG_0 (by omega)]
                    refine gi_if_eq (tgt := 645) hx hb dL_law_640 (by decide) ⟨by omega, by omega⟩ (fun c640 => ?_) (fun c640 => ?_)
                    · skip
                      refine lv_aload hx hb dL_law_645 (lv_at hl 6 rfl) ?_
                      refine lv_iload hx hb dL_law_647 (lv_at hl 1 rfl) ?_
                      refine s_row (f := tgr a17) hx hb hK (g_right (g_right hP)) 0 4 rfl rfl (by omega) (by omega) (by decide) (v := a17 k.toNat) (if_pos (by omega)) dL_law_649 ?_
                      refine lv_iconst (v := iI (1)) hx hb dL_law_650 rfl ?_
                      refine gi_iald (a := (a17 k.toNat)) (n := 5) (f := (tG τ) k.toNat) hx hb hK (g_right (g_right hP)) (k.toNat + 1) 0 (qw_at (by omega)) rfl (by omega) (by omega) (by decide) dL_law_651 ?_
                      rw [show (((tG τ) k.toNat) 1 : Int) = τ 5 k from tG_1 (by omega)]
                      refine gi_if_lt (tgt := 667) hx hb dL_law_652 (by decide) ⟨by omega, by omega⟩ (fun c652 => ?_) (fun c652 => ?_)
                      · skip
                        exfalso
                        omega
                      · skip
                        refine lv_aload hx hb dL_law_655 (lv_at hl 6 rfl) ?_
                        refine lv_iload hx hb dL_law_657 (lv_at hl 1 rfl) ?_
                        refine s_row (f := tgr a17) hx hb hK (g_right (g_right hP)) 0 4 rfl rfl (by omega) (by omega) (by decide) (v := a17 k.toNat) (if_pos (by omega)) dL_law_659 ?_
                        refine lv_iconst (v := iI (1)) hx hb dL_law_660 rfl ?_
                        refine gi_iald (a := (a17 k.toNat)) (n := 5) (f := (tG τ) k.toNat) hx hb hK (g_right (g_right hP)) (k.toNat + 1) 0 (qw_at (by omega)) rfl (by omega) (by omega) (by decide) dL_law_661 ?_
                        rw [show (((tG τ) k.toNat) 1 : Int) = τ 5 k from tG_1 (by omega)]
                        refine lv_bipush (v := iI (9)) hx hb dL_law_662 rfl ?_
                        refine gi_icmp_le (tgt := 669) hx hb dL_law_664 (by decide) ⟨by omega, by omega⟩ ⟨by decide, by decide⟩ (fun c664 => ?_) (fun c664 => ?_)
                        · skip
                          exact K  H locs cells slots ls  (by omega) (by omega) hP hD hS (lv_sub hl [0, 1, 2, 3, 4, 5, 6, 7, 8, 9, 10, 11, 12, 13, 14, 15, 16, 17, 18, 19, 20, 21, 22, 23] rfl)
                        · skip
                          exfalso
                          omega
                    · skip
                      exfalso
                      omega
                · skip
                  refine lv_aload hx hb dL_law_565 (lv_at hl 6 rfl) ?_
                  refine lv_iload hx hb dL_law_567 (lv_at hl 1 rfl) ?_
                  refine s_row (f := tgr a17) hx hb hK (g_right (g_right hP)) 0 4 rfl rfl (by omega) (by omega) (by decide) (v := a17 k.toNat) (if_pos (by omega)) dL_law_569 ?_
                  refine lv_iconst (v := iI (3)) hx hb dL_law_570 rfl ?_
                  refine gi_iald (a := (a17 k.toNat)) (n := 5) (f := (tG τ) k.toNat) hx hb hK (g_right (g_right hP)) (k.toNat + 1) 0 (qw_at (by omega)) rfl (by omega) (by omega) (by decide) dL_law_571 ?_
                  rw [show (((tG τ) k.toNat) 3 : Int) = τ 4 k from tG_3 (by omega)]
                  refine lv_aload hx hb dL_law_572 (lv_at hl 17 rfl) ?_
                  refine lv_iload hx hb dL_law_574 (lv_at hl 1 rfl) ?_
                  refine s_row (f := tgr a6) hx hb hK (g_left (g_right hP)) 0 4 rfl rfl (by omega) (by omega) (by decide) (v := a6 k.toNat) (if_pos (by omega)) dL_law_576 ?_
                  refine lv_iconst (v := iI (3)) hx hb dL_law_577 rfl ?_
                  refine gi_iald (a := (a6 k.toNat)) (n := 5) (f := (tG σ) k.toNat) hx hb hK (g_left (g_right hP)) (k.toNat + 1) 0 (qw_at (by omega)) rfl (by omega) (by omega) (by decide) dL_law_578 ?_
                  rw [show (((tG σ) k.toNat) 3 : Int) = σ 4 k from tG_3 (by omega)]
                  refine gi_icmp_eq (tgt := 643) hx hb dL_law_579 (by decide) ⟨by omega, by omega⟩ ⟨by omega, by omega⟩ (fun c579 => ?_) (fun c579 => ?_)
                  · skip
                    exfalso
                    omega
                  · skip
                    refine lv_aload hx hb dL_law_582 (lv_at hl 6 rfl) ?_
                    refine lv_iload hx hb dL_law_584 (lv_at hl 1 rfl) ?_
                    refine s_row (f := tgr a17) hx hb hK (g_right (g_right hP)) 0 4 rfl rfl (by omega) (by omega) (by decide) (v := a17 k.toNat) (if_pos (by omega)) dL_law_586 ?_
                    refine lv_iconst (v := iI (1)) hx hb dL_law_587 rfl ?_
                    refine gi_iald (a := (a17 k.toNat)) (n := 5) (f := (tG τ) k.toNat) hx hb hK (g_right (g_right hP)) (k.toNat + 1) 0 (qw_at (by omega)) rfl (by omega) (by omega) (by decide) dL_law_588 ?_
                    rw [show (((tG τ) k.toNat) 1 : Int) = τ 5 k from tG_1 (by omega)]
                    refine lv_iconst (v := iI (1)) hx hb dL_law_589 rfl ?_
                    refine gi_icmp_lt (tgt := 643) hx hb dL_law_590 (by decide) ⟨by omega, by omega⟩ ⟨by decide, by decide⟩ (fun c590 => ?_) (fun c590 => ?_)
                    · skip
                      exfalso
                      omega
                    · skip
                      refine lv_aload hx hb dL_law_593 (lv_at hl 6 rfl) ?_
                      refine lv_iload hx hb dL_law_595 (lv_at hl 1 rfl) ?_
                      refine s_row (f := tgr a17) hx hb hK (g_right (g_right hP)) 0 4 rfl rfl (by omega) (by omega) (by decide) (v := a17 k.toNat) (if_pos (by omega)) dL_law_597 ?_
                      refine lv_iconst (v := iI (1)) hx hb dL_law_598 rfl ?_
                      refine gi_iald (a := (a17 k.toNat)) (n := 5) (f := (tG τ) k.toNat) hx hb hK (g_right (g_right hP)) (k.toNat + 1) 0 (qw_at (by omega)) rfl (by omega) (by omega) (by decide) dL_law_599 ?_
                      rw [show (((tG τ) k.toNat) 1 : Int) = τ 5 k from tG_1 (by omega)]
                      refine lv_aload hx hb dL_law_600 (lv_at hl 17 rfl) ?_
                      refine lv_iload hx hb dL_law_602 (lv_at hl 1 rfl) ?_
                      refine s_row (f := tgr a6) hx hb hK (g_left (g_right hP)) 0 4 rfl rfl (by omega) (by omega) (by decide) (v := a6 k.toNat) (if_pos (by omega)) dL_law_604 ?_
                      refine lv_iconst (v := iI (1)) hx hb dL_law_605 rfl ?_
                      refine gi_iald (a := (a6 k.toNat)) (n := 5) (f := (tG σ) k.toNat) hx hb hK (g_left (g_right hP)) (k.toNat + 1) 0 (qw_at (by omega)) rfl (by omega) (by omega) (by decide) dL_law_606 ?_
                      rw [show (((tG σ) k.toNat) 1 : Int) = σ 5 k from tG_1 (by omega)]
                      refine gi_icmp_gt (tgt := 643) hx hb dL_law_607 (by decide) ⟨by omega, by omega⟩ ⟨by omega, by omega⟩ (fun c607 => ?_) (fun c607 => ?_)
                      · skip
                        exfalso
                        omega
                      · skip
                        refine lv_aload hx hb dL_law_610 (lv_at hl 6 rfl) ?_
                        refine lv_iload hx hb dL_law_612 (lv_at hl 1 rfl) ?_
                        refine s_row (f := tgr a17) hx hb hK (g_right (g_right hP)) 0 4 rfl rfl (by omega) (by omega) (by decide) (v := a17 k.toNat) (if_pos (by omega)) dL_law_614 ?_
                        refine lv_iconst (v := iI (4)) hx hb dL_law_615 rfl ?_
                        refine gi_iald (a := (a17 k.toNat)) (n := 5) (f := (tG τ) k.toNat) hx hb hK (g_right (g_right hP)) (k.toNat + 1) 0 (qw_at (by omega)) rfl (by omega) (by omega) (by decide) dL_law_616 ?_
                        rw [show (((tG τ) k.toNat) 4 : Int) = wD τ k from tG_4 (by omega)]
                        refine lv_aload hx hb dL_law_617 (lv_at hl 17 rfl) ?_
                        refine lv_iload hx hb dL_law_619 (lv_at hl 1 rfl) ?_
                        refine s_row (f := tgr a6) hx hb hK (g_left (g_right hP)) 0 4 rfl rfl (by omega) (by omega) (by decide) (v := a6 k.toNat) (if_pos (by omega)) dL_law_621 ?_
                        refine lv_iconst (v := iI (4)) hx hb dL_law_622 rfl ?_
                        refine gi_iald (a := (a6 k.toNat)) (n := 5) (f := (tG σ) k.toNat) hx hb hK (g_left (g_right hP)) (k.toNat + 1) 0 (qw_at (by omega)) rfl (by omega) (by omega) (by decide) dL_law_623 ?_
                        rw [show (((tG σ) k.toNat) 4 : Int) = wD σ k from tG_4 (by omega)]
                        refine gi_icmp_ne (tgt := 643) hx hb dL_law_624 (by decide) ⟨by omega, by omega⟩ ⟨by omega, by omega⟩ (fun c624 => ?_) (fun c624 => ?_)
                        · skip
                          exfalso
                          omega
                        · skip
                          refine lv_iload hx hb dL_law_627 (lv_at hl 9 rfl) ?_
                          refine lv_iconst (v := iI (3)) hx hb dL_law_629 rfl ?_
                          refine gi_icmp_ne (tgt := 645) hx hb dL_law_630 (by decide) ⟨by omega, by omega⟩ ⟨by decide, by decide⟩ (fun c630 => ?_) (fun c630 => ?_)
                          · skip
                            refine lv_aload hx hb dL_law_645 (lv_at hl 6 rfl) ?_
                            refine lv_iload hx hb dL_law_647 (lv_at hl 1 rfl) ?_
                            refine s_row (f := tgr a17) hx hb hK (g_right (g_right hP)) 0 4 rfl rfl (by omega) (by omega) (by decide) (v := a17 k.toNat) (if_pos (by omega)) dL_law_649 ?_
                            refine lv_iconst (v := iI (1)) hx hb dL_law_650 rfl ?_
                            refine gi_iald (a := (a17 k.toNat)) (n := 5) (f := (tG τ) k.toNat) hx hb hK (g_right (g_right hP)) (k.toNat + 1) 0 (qw_at (by omega)) rfl (by omega) (by omega) (by decide) dL_law_651 ?_
                            rw [show (((tG τ) k.toNat) 1 : Int) = τ 5 k from tG_1 (by omega)]
                            refine gi_if_lt (tgt := 667) hx hb dL_law_652 (by decide) ⟨by omega, by omega⟩ (fun c652 => ?_) (fun c652 => ?_)
                            · skip
                              exfalso
                              omega
                            · skip
                              refine lv_aload hx hb dL_law_655 (lv_at hl 6 rfl) ?_
                              refine lv_iload hx hb dL_law_657 (lv_at hl 1 rfl) ?_
                              refine s_row (f := tgr a17) hx hb hK (g_right (g_right hP)) 0 4 rfl rfl (by omega) (by omega) (by decide) (v := a17 k.toNat) (if_pos (by omega)) dL_law_659 ?_
                              refine lv_iconst (v := iI (1)) hx hb dL_law_660 rfl ?_
                              refine gi_iald (a := (a17 k.toNat)) (n := 5) (f := (tG τ) k.toNat) hx hb hK (g_right (g_right hP)) (k.toNat + 1) 0 (qw_at (by omega)) rfl (by omega) (by omega) (by decide) dL_law_661 ?_
                              rw [show (((tG τ) k.toNat) 1 : Int) = τ 5 k from tG_1 (by omega)]
                              refine lv_bipush (v := iI (9)) hx hb dL_law_662 rfl ?_
                              refine gi_icmp_le (tgt := 669) hx hb dL_law_664 (by decide) ⟨by omega, by omega⟩ ⟨by decide, by decide⟩ (fun c664 => ?_) (fun c664 => ?_)
                              · skip
                                exact K  H locs cells slots ls  (by omega) (by omega) hP hD hS (lv_sub hl [0, 1, 2, 3, 4, 5, 6, 7, 8, 9, 10, 11, 12, 13, 14, 15, 16, 17, 18, 19, 20, 21, 22, 23] rfl)
                              · skip
                                exfalso
                                omega
                          · skip
                            refine lv_aload hx hb dL_law_633 (lv_at hl 6 rfl) ?_
                            refine lv_iload hx hb dL_law_635 (lv_at hl 1 rfl) ?_
                            refine s_row (f := tgr a17) hx hb hK (g_right (g_right hP)) 0 4 rfl rfl (by omega) (by omega) (by decide) (v := a17 k.toNat) (if_pos (by omega)) dL_law_637 ?_
                            refine lv_iconst (v := iI (0)) hx hb dL_law_638 rfl ?_
                            refine gi_iald (a := (a17 k.toNat)) (n := 5) (f := (tG τ) k.toNat) hx hb hK (g_right (g_right hP)) (k.toNat + 1) 0 (qw_at (by omega)) rfl (by omega) (by omega) (by decide) dL_law_639 ?_
                            rw [show (((tG τ) k.toNat) 0 : Int) = wB τ k from tG_0 (by omega)]
                            refine gi_if_eq (tgt := 645) hx hb dL_law_640 (by decide) ⟨by omega, by omega⟩ (fun c640 => ?_) (fun c640 => ?_)
                            · skip
                              refine lv_aload hx hb dL_law_645 (lv_at hl 6 rfl) ?_
                              refine lv_iload hx hb dL_law_647 (lv_at hl 1 rfl) ?_
                              refine s_row (f := tgr a17) hx hb hK (g_right (g_right hP)) 0 4 rfl rfl (by omega) (by omega) (by decide) (v := a17 k.toNat) (if_pos (by omega)) dL_law_649 ?_
                              refine lv_iconst (v := iI (1)) hx hb dL_law_650 rfl ?_
                              refine gi_iald (a := (a17 k.toNat)) (n := 5) (f := (tG τ) k.toNat) hx hb hK (g_right (g_right hP)) (k.toNat + 1) 0 (qw_at (by omega)) rfl (by omega) (by omega) (by decide) dL_law_651 ?_
                              rw [show (((tG τ) k.toNat) 1 : Int) = τ 5 k from tG_1 (by omega)]
                              refine gi_if_lt (tgt := 667) hx hb dL_law_652 (by decide) ⟨by omega, by omega⟩ (fun c652 => ?_) (fun c652 => ?_)
                              · skip
                                exfalso
                                omega
                              · skip
                                refine lv_aload hx hb dL_law_655 (lv_at hl 6 rfl) ?_
                                refine lv_iload hx hb dL_law_657 (lv_at hl 1 rfl) ?_
                                refine s_row (f := tgr a17) hx hb hK (g_right (g_right hP)) 0 4 rfl rfl (by omega) (by omega) (by decide) (v := a17 k.toNat) (if_pos (by omega)) dL_law_659 ?_
                                refine lv_iconst (v := iI (1)) hx hb dL_law_660 rfl ?_
                                refine gi_iald (a := (a17 k.toNat)) (n := 5) (f := (tG τ) k.toNat) hx hb hK (g_right (g_right hP)) (k.toNat + 1) 0 (qw_at (by omega)) rfl (by omega) (by omega) (by decide) dL_law_661 ?_
                                rw [show (((tG τ) k.toNat) 1 : Int) = τ 5 k from tG_1 (by omega)]
                                refine lv_bipush (v := iI (9)) hx hb dL_law_662 rfl ?_
                                refine gi_icmp_le (tgt := 669) hx hb dL_law_664 (by decide) ⟨by omega, by omega⟩ ⟨by decide, by decide⟩ (fun c664 => ?_) (fun c664 => ?_)
                                · skip
                                  exact K  H locs cells slots ls  (by omega) (by omega) hP hD hS (lv_sub hl [0, 1, 2, 3, 4, 5, 6, 7, 8, 9, 10, 11, 12, 13, 14, 15, 16, 17, 18, 19, 20, 21, 22, 23] rfl)
                                · skip
                                  exfalso
                                  omega
                            · skip
                              exfalso
                              omega
      · skip
        exfalso
        omega
    · skip
      refine lv_aload hx hb dL_law_473 (lv_at hl 17 rfl) ?_
      refine lv_iload hx hb dL_law_475 (lv_at hl 1 rfl) ?_
      refine s_row (f := tgr a6) hx hb hK (g_left (g_right hP)) 0 4 rfl rfl (by omega) (by omega) (by decide) (v := a6 k.toNat) (if_pos (by omega)) dL_law_477 ?_
      refine lv_iconst (v := iI (0)) hx hb dL_law_478 rfl ?_
      refine gi_iald (a := (a6 k.toNat)) (n := 5) (f := (tG σ) k.toNat) hx hb hK (g_left (g_right hP)) (k.toNat + 1) 0 (qw_at (by omega)) rfl (by omega) (by omega) (by decide) dL_law_479 ?_
      rw [show (((tG σ) k.toNat) 0 : Int) = wB σ k from tG_0 (by omega)]
      refine gi_if_ne (tgt := 519) hx hb dL_law_480 (by decide) ⟨by omega, by omega⟩ (fun c480 => ?_) (fun c480 => ?_)
      · skip
        exfalso
        omega
      · skip
        refine lv_aload hx hb dL_law_483 (lv_at hl 6 rfl) ?_
        refine lv_iload hx hb dL_law_485 (lv_at hl 1 rfl) ?_
        refine s_row (f := tgr a17) hx hb hK (g_right (g_right hP)) 0 4 rfl rfl (by omega) (by omega) (by decide) (v := a17 k.toNat) (if_pos (by omega)) dL_law_487 ?_
        refine lv_iconst (v := iI (0)) hx hb dL_law_488 rfl ?_
        refine gi_iald (a := (a17 k.toNat)) (n := 5) (f := (tG τ) k.toNat) hx hb hK (g_right (g_right hP)) (k.toNat + 1) 0 (qw_at (by omega)) rfl (by omega) (by omega) (by decide) dL_law_489 ?_
        rw [show (((tG τ) k.toNat) 0 : Int) = wB τ k from tG_0 (by omega)]
        refine lv_iconst (v := iI (1)) hx hb dL_law_490 rfl ?_
        refine gi_icmp_ne (tgt := 519) hx hb dL_law_491 (by decide) ⟨by omega, by omega⟩ ⟨by decide, by decide⟩ (fun c491 => ?_) (fun c491 => ?_)
        · skip
          exfalso
          omega
        · skip
          refine lv_aload hx hb dL_law_494 (lv_at hl 6 rfl) ?_
          refine lv_iload hx hb dL_law_496 (lv_at hl 1 rfl) ?_
          refine s_row (f := tgr a17) hx hb hK (g_right (g_right hP)) 0 4 rfl rfl (by omega) (by omega) (by decide) (v := a17 k.toNat) (if_pos (by omega)) dL_law_498 ?_
          refine lv_iconst (v := iI (1)) hx hb dL_law_499 rfl ?_
          refine gi_iald (a := (a17 k.toNat)) (n := 5) (f := (tG τ) k.toNat) hx hb hK (g_right (g_right hP)) (k.toNat + 1) 0 (qw_at (by omega)) rfl (by omega) (by omega) (by decide) dL_law_500 ?_
          rw [show (((tG τ) k.toNat) 1 : Int) = τ 5 k from tG_1 (by omega)]
          refine lv_iconst (v := iI (1)) hx hb dL_law_501 rfl ?_
          refine gi_icmp_eq (tgt := 521) hx hb dL_law_502 (by decide) ⟨by omega, by omega⟩ ⟨by decide, by decide⟩ (fun c502 => ?_) (fun c502 => ?_)
          · skip
            refine lv_iload hx hb dL_law_521 (lv_at hl 0 rfl) ?_
            refine gi_if_eq (tgt := 645) hx hb dL_law_523 (by decide) ⟨by omega, by omega⟩ (fun c523 => ?_) (fun c523 => ?_)
            · skip
              refine lv_aload hx hb dL_law_645 (lv_at hl 6 rfl) ?_
              refine lv_iload hx hb dL_law_647 (lv_at hl 1 rfl) ?_
              refine s_row (f := tgr a17) hx hb hK (g_right (g_right hP)) 0 4 rfl rfl (by omega) (by omega) (by decide) (v := a17 k.toNat) (if_pos (by omega)) dL_law_649 ?_
              refine lv_iconst (v := iI (1)) hx hb dL_law_650 rfl ?_
              refine gi_iald (a := (a17 k.toNat)) (n := 5) (f := (tG τ) k.toNat) hx hb hK (g_right (g_right hP)) (k.toNat + 1) 0 (qw_at (by omega)) rfl (by omega) (by omega) (by decide) dL_law_651 ?_
              rw [show (((tG τ) k.toNat) 1 : Int) = τ 5 k from tG_1 (by omega)]
              refine gi_if_lt (tgt := 667) hx hb dL_law_652 (by decide) ⟨by omega, by omega⟩ (fun c652 => ?_) (fun c652 => ?_)
              · skip
                exfalso
                omega
              · skip
                refine lv_aload hx hb dL_law_655 (lv_at hl 6 rfl) ?_
                refine lv_iload hx hb dL_law_657 (lv_at hl 1 rfl) ?_
                refine s_row (f := tgr a17) hx hb hK (g_right (g_right hP)) 0 4 rfl rfl (by omega) (by omega) (by decide) (v := a17 k.toNat) (if_pos (by omega)) dL_law_659 ?_
                refine lv_iconst (v := iI (1)) hx hb dL_law_660 rfl ?_
                refine gi_iald (a := (a17 k.toNat)) (n := 5) (f := (tG τ) k.toNat) hx hb hK (g_right (g_right hP)) (k.toNat + 1) 0 (qw_at (by omega)) rfl (by omega) (by omega) (by decide) dL_law_661 ?_
                rw [show (((tG τ) k.toNat) 1 : Int) = τ 5 k from tG_1 (by omega)]
                refine lv_bipush (v := iI (9)) hx hb dL_law_662 rfl ?_
                refine gi_icmp_le (tgt := 669) hx hb dL_law_664 (by decide) ⟨by omega, by omega⟩ ⟨by decide, by decide⟩ (fun c664 => ?_) (fun c664 => ?_)
                · skip
                  exact K  H locs cells slots ls  (by omega) (by omega) hP hD hS (lv_sub hl [0, 1, 2, 3, 4, 5, 6, 7, 8, 9, 10, 11, 12, 13, 14, 15, 16, 17, 18, 19, 20, 21, 22, 23] rfl)
                · skip
                  exfalso
                  omega
            · skip
              refine lv_iload hx hb dL_law_526 (lv_at hl 9 rfl) ?_
              refine lv_iconst (v := iI (1)) hx hb dL_law_528 rfl ?_
              refine gi_icmp_ne (tgt := 559) hx hb dL_law_529 (by decide) ⟨by omega, by omega⟩ ⟨by decide, by decide⟩ (fun c529 => ?_) (fun c529 => ?_)
              · skip
                refine lv_iload hx hb dL_law_559 (lv_at hl 9 rfl) ?_
                refine lv_iconst (v := iI (2)) hx hb dL_law_561 rfl ?_
                refine gi_icmp_ne (tgt := 627) hx hb dL_law_562 (by decide) ⟨by omega, by omega⟩ ⟨by decide, by decide⟩ (fun c562 => ?_) (fun c562 => ?_)
                · skip
                  refine lv_iload hx hb dL_law_627 (lv_at hl 9 rfl) ?_
                  refine lv_iconst (v := iI (3)) hx hb dL_law_629 rfl ?_
                  refine gi_icmp_ne (tgt := 645) hx hb dL_law_630 (by decide) ⟨by omega, by omega⟩ ⟨by decide, by decide⟩ (fun c630 => ?_) (fun c630 => ?_)
                  · skip
                    refine lv_aload hx hb dL_law_645 (lv_at hl 6 rfl) ?_
                    refine lv_iload hx hb dL_law_647 (lv_at hl 1 rfl) ?_
                    refine s_row (f := tgr a17) hx hb hK (g_right (g_right hP)) 0 4 rfl rfl (by omega) (by omega) (by decide) (v := a17 k.toNat) (if_pos (by omega)) dL_law_649 ?_
                    refine lv_iconst (v := iI (1)) hx hb dL_law_650 rfl ?_
                    refine gi_iald (a := (a17 k.toNat)) (n := 5) (f := (tG τ) k.toNat) hx hb hK (g_right (g_right hP)) (k.toNat + 1) 0 (qw_at (by omega)) rfl (by omega) (by omega) (by decide) dL_law_651 ?_
                    rw [show (((tG τ) k.toNat) 1 : Int) = τ 5 k from tG_1 (by omega)]
                    refine gi_if_lt (tgt := 667) hx hb dL_law_652 (by decide) ⟨by omega, by omega⟩ (fun c652 => ?_) (fun c652 => ?_)
                    · skip
                      exfalso
                      omega
                    · skip
                      refine lv_aload hx hb dL_law_655 (lv_at hl 6 rfl) ?_
                      refine lv_iload hx hb dL_law_657 (lv_at hl 1 rfl) ?_
                      refine s_row (f := tgr a17) hx hb hK (g_right (g_right hP)) 0 4 rfl rfl (by omega) (by omega) (by decide) (v := a17 k.toNat) (if_pos (by omega)) dL_law_659 ?_
                      refine lv_iconst (v := iI (1)) hx hb dL_law_660 rfl ?_
                      refine gi_iald (a := (a17 k.toNat)) (n := 5) (f := (tG τ) k.toNat) hx hb hK (g_right (g_right hP)) (k.toNat + 1) 0 (qw_at (by omega)) rfl (by omega) (by omega) (by decide) dL_law_661 ?_
                      rw [show (((tG τ) k.toNat) 1 : Int) = τ 5 k from tG_1 (by omega)]
                      refine lv_bipush (v := iI (9)) hx hb dL_law_662 rfl ?_
                      refine gi_icmp_le (tgt := 669) hx hb dL_law_664 (by decide) ⟨by omega, by omega⟩ ⟨by decide, by decide⟩ (fun c664 => ?_) (fun c664 => ?_)
                      · skip
                        exact K  H locs cells slots ls  (by omega) (by omega) hP hD hS (lv_sub hl [0, 1, 2, 3, 4, 5, 6, 7, 8, 9, 10, 11, 12, 13, 14, 15, 16, 17, 18, 19, 20, 21, 22, 23] rfl)
                      · skip
                        exfalso
                        omega
                  · skip
                    refine lv_aload hx hb dL_law_633 (lv_at hl 6 rfl) ?_
                    refine lv_iload hx hb dL_law_635 (lv_at hl 1 rfl) ?_
                    refine s_row (f := tgr a17) hx hb hK (g_right (g_right hP)) 0 4 rfl rfl (by omega) (by omega) (by decide) (v := a17 k.toNat) (if_pos (by omega)) dL_law_637 ?_
                    refine lv_iconst (v := iI (0)) hx hb dL_law_638 rfl ?_
                    refine gi_iald (a := (a17 k.toNat)) (n := 5) (f := (tG τ) k.toNat) hx hb hK (g_right (g_right hP)) (k.toNat + 1) 0 (qw_at (by omega)) rfl (by omega) (by omega) (by decide) dL_law_639 ?_
                    rw [show (((tG τ) k.toNat) 0 : Int) = wB τ k from tG_0 (by omega)]
                    refine gi_if_eq (tgt := 645) hx hb dL_law_640 (by decide) ⟨by omega, by omega⟩ (fun c640 => ?_) (fun c640 => ?_)
                    · skip
                      refine lv_aload hx hb dL_law_645 (lv_at hl 6 rfl) ?_
                      refine lv_iload hx hb dL_law_647 (lv_at hl 1 rfl) ?_
                      refine s_row (f := tgr a17) hx hb hK (g_right (g_right hP)) 0 4 rfl rfl (by omega) (by omega) (by decide) (v := a17 k.toNat) (if_pos (by omega)) dL_law_649 ?_
                      refine lv_iconst (v := iI (1)) hx hb dL_law_650 rfl ?_
                      refine gi_iald (a := (a17 k.toNat)) (n := 5) (f := (tG τ) k.toNat) hx hb hK (g_right (g_right hP)) (k.toNat + 1) 0 (qw_at (by omega)) rfl (by omega) (by omega) (by decide) dL_law_651 ?_
                      rw [show (((tG τ) k.toNat) 1 : Int) = τ 5 k from tG_1 (by omega)]
                      refine gi_if_lt (tgt := 667) hx hb dL_law_652 (by decide) ⟨by omega, by omega⟩ (fun c652 => ?_) (fun c652 => ?_)
                      · skip
                        exfalso
                        omega
                      · skip
                        refine lv_aload hx hb dL_law_655 (lv_at hl 6 rfl) ?_
                        refine lv_iload hx hb dL_law_657 (lv_at hl 1 rfl) ?_
                        refine s_row (f := tgr a17) hx hb hK (g_right (g_right hP)) 0 4 rfl rfl (by omega) (by omega) (by decide) (v := a17 k.toNat) (if_pos (by omega)) dL_law_659 ?_
                        refine lv_iconst (v := iI (1)) hx hb dL_law_660 rfl ?_
                        refine gi_iald (a := (a17 k.toNat)) (n := 5) (f := (tG τ) k.toNat) hx hb hK (g_right (g_right hP)) (k.toNat + 1) 0 (qw_at (by omega)) rfl (by omega) (by omega) (by decide) dL_law_661 ?_
                        rw [show (((tG τ) k.toNat) 1 : Int) = τ 5 k from tG_1 (by omega)]
                        refine lv_bipush (v := iI (9)) hx hb dL_law_662 rfl ?_
                        refine gi_icmp_le (tgt := 669) hx hb dL_law_664 (by decide) ⟨by omega, by omega⟩ ⟨by decide, by decide⟩ (fun c664 => ?_) (fun c664 => ?_)
                        · skip
                          exact K  H locs cells slots ls  (by omega) (by omega) hP hD hS (lv_sub hl [0, 1, 2, 3, 4, 5, 6, 7, 8, 9, 10, 11, 12, 13, 14, 15, 16, 17, 18, 19, 20, 21, 22, 23] rfl)
                        · skip
                          exfalso
                          omega
                    · skip
                      exfalso
                      omega
                · skip
                  refine lv_aload hx hb dL_law_565 (lv_at hl 6 rfl) ?_
                  refine lv_iload hx hb dL_law_567 (lv_at hl 1 rfl) ?_
                  refine s_row (f := tgr a17) hx hb hK (g_right (g_right hP)) 0 4 rfl rfl (by omega) (by omega) (by decide) (v := a17 k.toNat) (if_pos (by omega)) dL_law_569 ?_
                  refine lv_iconst (v := iI (3)) hx hb dL_law_570 rfl ?_
                  refine gi_iald (a := (a17 k.toNat)) (n := 5) (f := (tG τ) k.toNat) hx hb hK (g_right (g_right hP)) (k.toNat + 1) 0 (qw_at (by omega)) rfl (by omega) (by omega) (by decide) dL_law_571 ?_
                  rw [show (((tG τ) k.toNat) 3 : Int) = τ 4 k from tG_3 (by omega)]
                  refine lv_aload hx hb dL_law_572 (lv_at hl 17 rfl) ?_
                  refine lv_iload hx hb dL_law_574 (lv_at hl 1 rfl) ?_
                  refine s_row (f := tgr a6) hx hb hK (g_left (g_right hP)) 0 4 rfl rfl (by omega) (by omega) (by decide) (v := a6 k.toNat) (if_pos (by omega)) dL_law_576 ?_
                  refine lv_iconst (v := iI (3)) hx hb dL_law_577 rfl ?_
                  refine gi_iald (a := (a6 k.toNat)) (n := 5) (f := (tG σ) k.toNat) hx hb hK (g_left (g_right hP)) (k.toNat + 1) 0 (qw_at (by omega)) rfl (by omega) (by omega) (by decide) dL_law_578 ?_
                  rw [show (((tG σ) k.toNat) 3 : Int) = σ 4 k from tG_3 (by omega)]
                  refine gi_icmp_eq (tgt := 643) hx hb dL_law_579 (by decide) ⟨by omega, by omega⟩ ⟨by omega, by omega⟩ (fun c579 => ?_) (fun c579 => ?_)
                  · skip
                    exfalso
                    omega
                  · skip
                    refine lv_aload hx hb dL_law_582 (lv_at hl 6 rfl) ?_
                    refine lv_iload hx hb dL_law_584 (lv_at hl 1 rfl) ?_
                    refine s_row (f := tgr a17) hx hb hK (g_right (g_right hP)) 0 4 rfl rfl (by omega) (by omega) (by decide) (v := a17 k.toNat) (if_pos (by omega)) dL_law_586 ?_
                    refine lv_iconst (v := iI (1)) hx hb dL_law_587 rfl ?_
                    refine gi_iald (a := (a17 k.toNat)) (n := 5) (f := (tG τ) k.toNat) hx hb hK (g_right (g_right hP)) (k.toNat + 1) 0 (qw_at (by omega)) rfl (by omega) (by omega) (by decide) dL_law_588 ?_
                    rw [show (((tG τ) k.toNat) 1 : Int) = τ 5 k from tG_1 (by omega)]
                    refine lv_iconst (v := iI (1)) hx hb dL_law_589 rfl ?_
                    refine gi_icmp_lt (tgt := 643) hx hb dL_law_590 (by decide) ⟨by omega, by omega⟩ ⟨by decide, by decide⟩ (fun c590 => ?_) (fun c590 => ?_)
                    · skip
                      exfalso
                      omega
                    · skip
                      refine lv_aload hx hb dL_law_593 (lv_at hl 6 rfl) ?_
                      refine lv_iload hx hb dL_law_595 (lv_at hl 1 rfl) ?_
                      refine s_row (f := tgr a17) hx hb hK (g_right (g_right hP)) 0 4 rfl rfl (by omega) (by omega) (by decide) (v := a17 k.toNat) (if_pos (by omega)) dL_law_597 ?_
                      refine lv_iconst (v := iI (1)) hx hb dL_law_598 rfl ?_
                      refine gi_iald (a := (a17 k.toNat)) (n := 5) (f := (tG τ) k.toNat) hx hb hK (g_right (g_right hP)) (k.toNat + 1) 0 (qw_at (by omega)) rfl (by omega) (by omega) (by decide) dL_law_599 ?_
                      rw [show (((tG τ) k.toNat) 1 : Int) = τ 5 k from tG_1 (by omega)]
                      refine lv_aload hx hb dL_law_600 (lv_at hl 17 rfl) ?_
                      refine lv_iload hx hb dL_law_602 (lv_at hl 1 rfl) ?_
                      refine s_row (f := tgr a6) hx hb hK (g_left (g_right hP)) 0 4 rfl rfl (by omega) (by omega) (by decide) (v := a6 k.toNat) (if_pos (by omega)) dL_law_604 ?_
                      refine lv_iconst (v := iI (1)) hx hb dL_law_605 rfl ?_
                      refine gi_iald (a := (a6 k.toNat)) (n := 5) (f := (tG σ) k.toNat) hx hb hK (g_left (g_right hP)) (k.toNat + 1) 0 (qw_at (by omega)) rfl (by omega) (by omega) (by decide) dL_law_606 ?_
                      rw [show (((tG σ) k.toNat) 1 : Int) = σ 5 k from tG_1 (by omega)]
                      refine gi_icmp_gt (tgt := 643) hx hb dL_law_607 (by decide) ⟨by omega, by omega⟩ ⟨by omega, by omega⟩ (fun c607 => ?_) (fun c607 => ?_)
                      · skip
                        exfalso
                        omega
                      · skip
                        refine lv_aload hx hb dL_law_610 (lv_at hl 6 rfl) ?_
                        refine lv_iload hx hb dL_law_612 (lv_at hl 1 rfl) ?_
                        refine s_row (f := tgr a17) hx hb hK (g_right (g_right hP)) 0 4 rfl rfl (by omega) (by omega) (by decide) (v := a17 k.toNat) (if_pos (by omega)) dL_law_614 ?_
                        refine lv_iconst (v := iI (4)) hx hb dL_law_615 rfl ?_
                        refine gi_iald (a := (a17 k.toNat)) (n := 5) (f := (tG τ) k.toNat) hx hb hK (g_right (g_right hP)) (k.toNat + 1) 0 (qw_at (by omega)) rfl (by omega) (by omega) (by decide) dL_law_616 ?_
                        rw [show (((tG τ) k.toNat) 4 : Int) = wD τ k from tG_4 (by omega)]
                        refine lv_aload hx hb dL_law_617 (lv_at hl 17 rfl) ?_
                        refine lv_iload hx hb dL_law_619 (lv_at hl 1 rfl) ?_
                        refine s_row (f := tgr a6) hx hb hK (g_left (g_right hP)) 0 4 rfl rfl (by omega) (by omega) (by decide) (v := a6 k.toNat) (if_pos (by omega)) dL_law_621 ?_
                        refine lv_iconst (v := iI (4)) hx hb dL_law_622 rfl ?_
                        refine gi_iald (a := (a6 k.toNat)) (n := 5) (f := (tG σ) k.toNat) hx hb hK (g_left (g_right hP)) (k.toNat + 1) 0 (qw_at (by omega)) rfl (by omega) (by omega) (by decide) dL_law_623 ?_
                        rw [show (((tG σ) k.toNat) 4 : Int) = wD σ k from tG_4 (by omega)]
                        refine gi_icmp_ne (tgt := 643) hx hb dL_law_624 (by decide) ⟨by omega, by omega⟩ ⟨by omega, by omega⟩ (fun c624 => ?_) (fun c624 => ?_)
                        · skip
                          exfalso
                          omega
                        · skip
                          refine lv_iload hx hb dL_law_627 (lv_at hl 9 rfl) ?_
                          refine lv_iconst (v := iI (3)) hx hb dL_law_629 rfl ?_
                          refine gi_icmp_ne (tgt := 645) hx hb dL_law_630 (by decide) ⟨by omega, by omega⟩ ⟨by decide, by decide⟩ (fun c630 => ?_) (fun c630 => ?_)
                          · skip
                            refine lv_aload hx hb dL_law_645 (lv_at hl 6 rfl) ?_
                            refine lv_iload hx hb dL_law_647 (lv_at hl 1 rfl) ?_
                            refine s_row (f := tgr a17) hx hb hK (g_right (g_right hP)) 0 4 rfl rfl (by omega) (by omega) (by decide) (v := a17 k.toNat) (if_pos (by omega)) dL_law_649 ?_
                            refine lv_iconst (v := iI (1)) hx hb dL_law_650 rfl ?_
                            refine gi_iald (a := (a17 k.toNat)) (n := 5) (f := (tG τ) k.toNat) hx hb hK (g_right (g_right hP)) (k.toNat + 1) 0 (qw_at (by omega)) rfl (by omega) (by omega) (by decide) dL_law_651 ?_
                            rw [show (((tG τ) k.toNat) 1 : Int) = τ 5 k from tG_1 (by omega)]
                            refine gi_if_lt (tgt := 667) hx hb dL_law_652 (by decide) ⟨by omega, by omega⟩ (fun c652 => ?_) (fun c652 => ?_)
                            · skip
                              exfalso
                              omega
                            · skip
                              refine lv_aload hx hb dL_law_655 (lv_at hl 6 rfl) ?_
                              refine lv_iload hx hb dL_law_657 (lv_at hl 1 rfl) ?_
                              refine s_row (f := tgr a17) hx hb hK (g_right (g_right hP)) 0 4 rfl rfl (by omega) (by omega) (by decide) (v := a17 k.toNat) (if_pos (by omega)) dL_law_659 ?_
                              refine lv_iconst (v := iI (1)) hx hb dL_law_660 rfl ?_
                              refine gi_iald (a := (a17 k.toNat)) (n := 5) (f := (tG τ) k.toNat) hx hb hK (g_right (g_right hP)) (k.toNat + 1) 0 (qw_at (by omega)) rfl (by omega) (by omega) (by decide) dL_law_661 ?_
                              rw [show (((tG τ) k.toNat) 1 : Int) = τ 5 k from tG_1 (by omega)]
                              refine lv_bipush (v := iI (9)) hx hb dL_law_662 rfl ?_
                              refine gi_icmp_le (tgt := 669) hx hb dL_law_664 (by decide) ⟨by omega, by omega⟩ ⟨by decide, by decide⟩ (fun c664 => ?_) (fun c664 => ?_)
                              · skip
                                exact K  H locs cells slots ls  (by omega) (by omega) hP hD hS (lv_sub hl [0, 1, 2, 3, 4, 5, 6, 7, 8, 9, 10, 11, 12, 13, 14, 15, 16, 17, 18, 19, 20, 21, 22, 23] rfl)
                              · skip
                                exfalso
                                omega
                          · skip
                            refine lv_aload hx hb dL_law_633 (lv_at hl 6 rfl) ?_
                            refine lv_iload hx hb dL_law_635 (lv_at hl 1 rfl) ?_
                            refine s_row (f := tgr a17) hx hb hK (g_right (g_right hP)) 0 4 rfl rfl (by omega) (by omega) (by decide) (v := a17 k.toNat) (if_pos (by omega)) dL_law_637 ?_
                            refine lv_iconst (v := iI (0)) hx hb dL_law_638 rfl ?_
                            refine gi_iald (a := (a17 k.toNat)) (n := 5) (f := (tG τ) k.toNat) hx hb hK (g_right (g_right hP)) (k.toNat + 1) 0 (qw_at (by omega)) rfl (by omega) (by omega) (by decide) dL_law_639 ?_
                            rw [show (((tG τ) k.toNat) 0 : Int) = wB τ k from tG_0 (by omega)]
                            refine gi_if_eq (tgt := 645) hx hb dL_law_640 (by decide) ⟨by omega, by omega⟩ (fun c640 => ?_) (fun c640 => ?_)
                            · skip
                              refine lv_aload hx hb dL_law_645 (lv_at hl 6 rfl) ?_
                              refine lv_iload hx hb dL_law_647 (lv_at hl 1 rfl) ?_
                              refine s_row (f := tgr a17) hx hb hK (g_right (g_right hP)) 0 4 rfl rfl (by omega) (by omega) (by decide) (v := a17 k.toNat) (if_pos (by omega)) dL_law_649 ?_
                              refine lv_iconst (v := iI (1)) hx hb dL_law_650 rfl ?_
                              refine gi_iald (a := (a17 k.toNat)) (n := 5) (f := (tG τ) k.toNat) hx hb hK (g_right (g_right hP)) (k.toNat + 1) 0 (qw_at (by omega)) rfl (by omega) (by omega) (by decide) dL_law_651 ?_
                              rw [show (((tG τ) k.toNat) 1 : Int) = τ 5 k from tG_1 (by omega)]
                              refine gi_if_lt (tgt := 667) hx hb dL_law_652 (by decide) ⟨by omega, by omega⟩ (fun c652 => ?_) (fun c652 => ?_)
                              · skip
                                exfalso
                                omega
                              · skip
                                refine lv_aload hx hb dL_law_655 (lv_at hl 6 rfl) ?_
                                refine lv_iload hx hb dL_law_657 (lv_at hl 1 rfl) ?_
                                refine s_row (f := tgr a17) hx hb hK (g_right (g_right hP)) 0 4 rfl rfl (by omega) (by omega) (by decide) (v := a17 k.toNat) (if_pos (by omega)) dL_law_659 ?_
                                refine lv_iconst (v := iI (1)) hx hb dL_law_660 rfl ?_
                                refine gi_iald (a := (a17 k.toNat)) (n := 5) (f := (tG τ) k.toNat) hx hb hK (g_right (g_right hP)) (k.toNat + 1) 0 (qw_at (by omega)) rfl (by omega) (by omega) (by decide) dL_law_661 ?_
                                rw [show (((tG τ) k.toNat) 1 : Int) = τ 5 k from tG_1 (by omega)]
                                refine lv_bipush (v := iI (9)) hx hb dL_law_662 rfl ?_
                                refine gi_icmp_le (tgt := 669) hx hb dL_law_664 (by decide) ⟨by omega, by omega⟩ ⟨by decide, by decide⟩ (fun c664 => ?_) (fun c664 => ?_)
                                · skip
                                  exact K  H locs cells slots ls  (by omega) (by omega) hP hD hS (lv_sub hl [0, 1, 2, 3, 4, 5, 6, 7, 8, 9, 10, 11, 12, 13, 14, 15, 16, 17, 18, 19, 20, 21, 22, 23] rfl)
                                · skip
                                  exfalso
                                  omega
                            · skip
                              exfalso
                              omega
              · skip
                refine lv_aload hx hb dL_law_532 (lv_at hl 6 rfl) ?_
                refine lv_iload hx hb dL_law_534 (lv_at hl 1 rfl) ?_
                refine s_row (f := tgr a17) hx hb hK (g_right (g_right hP)) 0 4 rfl rfl (by omega) (by omega) (by decide) (v := a17 k.toNat) (if_pos (by omega)) dL_law_536 ?_
                refine lv_iconst (v := iI (1)) hx hb dL_law_537 rfl ?_
                refine gi_iald (a := (a17 k.toNat)) (n := 5) (f := (tG τ) k.toNat) hx hb hK (g_right (g_right hP)) (k.toNat + 1) 0 (qw_at (by omega)) rfl (by omega) (by omega) (by decide) dL_law_538 ?_
                rw [show (((tG τ) k.toNat) 1 : Int) = τ 5 k from tG_1 (by omega)]
                refine lv_aload hx hb dL_law_539 (lv_at hl 17 rfl) ?_
                refine lv_iload hx hb dL_law_541 (lv_at hl 1 rfl) ?_
                refine s_row (f := tgr a6) hx hb hK (g_left (g_right hP)) 0 4 rfl rfl (by omega) (by omega) (by decide) (v := a6 k.toNat) (if_pos (by omega)) dL_law_543 ?_
                refine lv_iconst (v := iI (1)) hx hb dL_law_544 rfl ?_
                refine gi_iald (a := (a6 k.toNat)) (n := 5) (f := (tG σ) k.toNat) hx hb hK (g_left (g_right hP)) (k.toNat + 1) 0 (qw_at (by omega)) rfl (by omega) (by omega) (by decide) dL_law_545 ?_
                rw [show (((tG σ) k.toNat) 1 : Int) = σ 5 k from tG_1 (by omega)]
                refine gi_icmp_ge (tgt := 643) hx hb dL_law_546 (by decide) ⟨by omega, by omega⟩ ⟨by omega, by omega⟩ (fun c546 => ?_) (fun c546 => ?_)
                · skip
                  exfalso
                  omega
                · skip
                  refine lv_aload hx hb dL_law_549 (lv_at hl 6 rfl) ?_
                  refine lv_iload hx hb dL_law_551 (lv_at hl 1 rfl) ?_
                  refine s_row (f := tgr a17) hx hb hK (g_right (g_right hP)) 0 4 rfl rfl (by omega) (by omega) (by decide) (v := a17 k.toNat) (if_pos (by omega)) dL_law_553 ?_
                  refine lv_iconst (v := iI (4)) hx hb dL_law_554 rfl ?_
                  refine gi_iald (a := (a17 k.toNat)) (n := 5) (f := (tG τ) k.toNat) hx hb hK (g_right (g_right hP)) (k.toNat + 1) 0 (qw_at (by omega)) rfl (by omega) (by omega) (by decide) dL_law_555 ?_
                  rw [show (((tG τ) k.toNat) 4 : Int) = wD τ k from tG_4 (by omega)]
                  refine gi_if_ne (tgt := 643) hx hb dL_law_556 (by decide) ⟨by omega, by omega⟩ (fun c556 => ?_) (fun c556 => ?_)
                  · skip
                    exfalso
                    omega
                  · skip
                    refine lv_iload hx hb dL_law_559 (lv_at hl 9 rfl) ?_
                    refine lv_iconst (v := iI (2)) hx hb dL_law_561 rfl ?_
                    refine gi_icmp_ne (tgt := 627) hx hb dL_law_562 (by decide) ⟨by omega, by omega⟩ ⟨by decide, by decide⟩ (fun c562 => ?_) (fun c562 => ?_)
                    · skip
                      refine lv_iload hx hb dL_law_627 (lv_at hl 9 rfl) ?_
                      refine lv_iconst (v := iI (3)) hx hb dL_law_629 rfl ?_
                      refine gi_icmp_ne (tgt := 645) hx hb dL_law_630 (by decide) ⟨by omega, by omega⟩ ⟨by decide, by decide⟩ (fun c630 => ?_) (fun c630 => ?_)
                      · skip
                        refine lv_aload hx hb dL_law_645 (lv_at hl 6 rfl) ?_
                        refine lv_iload hx hb dL_law_647 (lv_at hl 1 rfl) ?_
                        refine s_row (f := tgr a17) hx hb hK (g_right (g_right hP)) 0 4 rfl rfl (by omega) (by omega) (by decide) (v := a17 k.toNat) (if_pos (by omega)) dL_law_649 ?_
                        refine lv_iconst (v := iI (1)) hx hb dL_law_650 rfl ?_
                        refine gi_iald (a := (a17 k.toNat)) (n := 5) (f := (tG τ) k.toNat) hx hb hK (g_right (g_right hP)) (k.toNat + 1) 0 (qw_at (by omega)) rfl (by omega) (by omega) (by decide) dL_law_651 ?_
                        rw [show (((tG τ) k.toNat) 1 : Int) = τ 5 k from tG_1 (by omega)]
                        refine gi_if_lt (tgt := 667) hx hb dL_law_652 (by decide) ⟨by omega, by omega⟩ (fun c652 => ?_) (fun c652 => ?_)
                        · skip
                          exfalso
                          omega
                        · skip
                          refine lv_aload hx hb dL_law_655 (lv_at hl 6 rfl) ?_
                          refine lv_iload hx hb dL_law_657 (lv_at hl 1 rfl) ?_
                          refine s_row (f := tgr a17) hx hb hK (g_right (g_right hP)) 0 4 rfl rfl (by omega) (by omega) (by decide) (v := a17 k.toNat) (if_pos (by omega)) dL_law_659 ?_
                          refine lv_iconst (v := iI (1)) hx hb dL_law_660 rfl ?_
                          refine gi_iald (a := (a17 k.toNat)) (n := 5) (f := (tG τ) k.toNat) hx hb hK (g_right (g_right hP)) (k.toNat + 1) 0 (qw_at (by omega)) rfl (by omega) (by omega) (by decide) dL_law_661 ?_
                          rw [show (((tG τ) k.toNat) 1 : Int) = τ 5 k from tG_1 (by omega)]
                          refine lv_bipush (v := iI (9)) hx hb dL_law_662 rfl ?_
                          refine gi_icmp_le (tgt := 669) hx hb dL_law_664 (by decide) ⟨by omega, by omega⟩ ⟨by decide, by decide⟩ (fun c664 => ?_) (fun c664 => ?_)
                          · skip
                            exact K  H locs cells slots ls  (by omega) (by omega) hP hD hS (lv_sub hl [0, 1, 2, 3, 4, 5, 6, 7, 8, 9, 10, 11, 12, 13, 14, 15, 16, 17, 18, 19, 20, 21, 22, 23] rfl)
                          · skip
                            exfalso
                            omega
                      · skip
                        refine lv_aload hx hb dL_law_633 (lv_at hl 6 rfl) ?_
                        refine lv_iload hx hb dL_law_635 (lv_at hl 1 rfl) ?_
                        refine s_row (f := tgr a17) hx hb hK (g_right (g_right hP)) 0 4 rfl rfl (by omega) (by omega) (by decide) (v := a17 k.toNat) (if_pos (by omega)) dL_law_637 ?_
                        refine lv_iconst (v := iI (0)) hx hb dL_law_638 rfl ?_
                        refine gi_iald (a := (a17 k.toNat)) (n := 5) (f := (tG τ) k.toNat) hx hb hK (g_right (g_right hP)) (k.toNat + 1) 0 (qw_at (by omega)) rfl (by omega) (by omega) (by decide) dL_law_639 ?_
                        rw [show (((tG τ) k.toNat) 0 : Int) = wB τ k from tG_0 (by omega)]
                        refine gi_if_eq (tgt := 645) hx hb dL_law_640 (by decide) ⟨by omega, by omega⟩ (fun c640 => ?_) (fun c640 => ?_)
                        · skip
                          refine lv_aload hx hb dL_law_645 (lv_at hl 6 rfl) ?_
                          refine lv_iload hx hb dL_law_647 (lv_at hl 1 rfl) ?_
                          refine s_row (f := tgr a17) hx hb hK (g_right (g_right hP)) 0 4 rfl rfl (by omega) (by omega) (by decide) (v := a17 k.toNat) (if_pos (by omega)) dL_law_649 ?_
                          refine lv_iconst (v := iI (1)) hx hb dL_law_650 rfl ?_
                          refine gi_iald (a := (a17 k.toNat)) (n := 5) (f := (tG τ) k.toNat) hx hb hK (g_right (g_right hP)) (k.toNat + 1) 0 (qw_at (by omega)) rfl (by omega) (by omega) (by decide) dL_law_651 ?_
                          rw [show (((tG τ) k.toNat) 1 : Int) = τ 5 k from tG_1 (by omega)]
                          refine gi_if_lt (tgt := 667) hx hb dL_law_652 (by decide) ⟨by omega, by omega⟩ (fun c652 => ?_) (fun c652 => ?_)
                          · skip
                            exfalso
                            omega
                          · skip
                            refine lv_aload hx hb dL_law_655 (lv_at hl 6 rfl) ?_
                            refine lv_iload hx hb dL_law_657 (lv_at hl 1 rfl) ?_
                            refine s_row (f := tgr a17) hx hb hK (g_right (g_right hP)) 0 4 rfl rfl (by omega) (by omega) (by decide) (v := a17 k.toNat) (if_pos (by omega)) dL_law_659 ?_
                            refine lv_iconst (v := iI (1)) hx hb dL_law_660 rfl ?_
                            refine gi_iald (a := (a17 k.toNat)) (n := 5) (f := (tG τ) k.toNat) hx hb hK (g_right (g_right hP)) (k.toNat + 1) 0 (qw_at (by omega)) rfl (by omega) (by omega) (by decide) dL_law_661 ?_
                            rw [show (((tG τ) k.toNat) 1 : Int) = τ 5 k from tG_1 (by omega)]
                            refine lv_bipush (v := iI (9)) hx hb dL_law_662 rfl ?_
                            refine gi_icmp_le (tgt := 669) hx hb dL_law_664 (by decide) ⟨by omega, by omega⟩ ⟨by decide, by decide⟩ (fun c664 => ?_) (fun c664 => ?_)
                            · skip
                              exact K  H locs cells slots ls  (by omega) (by omega) hP hD hS (lv_sub hl [0, 1, 2, 3, 4, 5, 6, 7, 8, 9, 10, 11, 12, 13, 14, 15, 16, 17, 18, 19, 20, 21, 22, 23] rfl)
                            · skip
                              exfalso
                              omega
                        · skip
                          exfalso
                          omega
                    · skip
                      refine lv_aload hx hb dL_law_565 (lv_at hl 6 rfl) ?_
                      refine lv_iload hx hb dL_law_567 (lv_at hl 1 rfl) ?_
                      refine s_row (f := tgr a17) hx hb hK (g_right (g_right hP)) 0 4 rfl rfl (by omega) (by omega) (by decide) (v := a17 k.toNat) (if_pos (by omega)) dL_law_569 ?_
                      refine lv_iconst (v := iI (3)) hx hb dL_law_570 rfl ?_
                      refine gi_iald (a := (a17 k.toNat)) (n := 5) (f := (tG τ) k.toNat) hx hb hK (g_right (g_right hP)) (k.toNat + 1) 0 (qw_at (by omega)) rfl (by omega) (by omega) (by decide) dL_law_571 ?_
                      rw [show (((tG τ) k.toNat) 3 : Int) = τ 4 k from tG_3 (by omega)]
                      refine lv_aload hx hb dL_law_572 (lv_at hl 17 rfl) ?_
                      refine lv_iload hx hb dL_law_574 (lv_at hl 1 rfl) ?_
                      refine s_row (f := tgr a6) hx hb hK (g_left (g_right hP)) 0 4 rfl rfl (by omega) (by omega) (by decide) (v := a6 k.toNat) (if_pos (by omega)) dL_law_576 ?_
                      refine lv_iconst (v := iI (3)) hx hb dL_law_577 rfl ?_
                      refine gi_iald (a := (a6 k.toNat)) (n := 5) (f := (tG σ) k.toNat) hx hb hK (g_left (g_right hP)) (k.toNat + 1) 0 (qw_at (by omega)) rfl (by omega) (by omega) (by decide) dL_law_578 ?_
                      rw [show (((tG σ) k.toNat) 3 : Int) = σ 4 k from tG_3 (by omega)]
                      refine gi_icmp_eq (tgt := 643) hx hb dL_law_579 (by decide) ⟨by omega, by omega⟩ ⟨by omega, by omega⟩ (fun c579 => ?_) (fun c579 => ?_)
                      · skip
                        exfalso
                        omega
                      · skip
                        refine lv_aload hx hb dL_law_582 (lv_at hl 6 rfl) ?_
                        refine lv_iload hx hb dL_law_584 (lv_at hl 1 rfl) ?_
                        refine s_row (f := tgr a17) hx hb hK (g_right (g_right hP)) 0 4 rfl rfl (by omega) (by omega) (by decide) (v := a17 k.toNat) (if_pos (by omega)) dL_law_586 ?_
                        refine lv_iconst (v := iI (1)) hx hb dL_law_587 rfl ?_
                        refine gi_iald (a := (a17 k.toNat)) (n := 5) (f := (tG τ) k.toNat) hx hb hK (g_right (g_right hP)) (k.toNat + 1) 0 (qw_at (by omega)) rfl (by omega) (by omega) (by decide) dL_law_588 ?_
                        rw [show (((tG τ) k.toNat) 1 : Int) = τ 5 k from tG_1 (by omega)]
                        refine lv_iconst (v := iI (1)) hx hb dL_law_589 rfl ?_
                        refine gi_icmp_lt (tgt := 643) hx hb dL_law_590 (by decide) ⟨by omega, by omega⟩ ⟨by decide, by decide⟩ (fun c590 => ?_) (fun c590 => ?_)
                        · skip
                          exfalso
                          omega
                        · skip
                          refine lv_aload hx hb dL_law_593 (lv_at hl 6 rfl) ?_
                          refine lv_iload hx hb dL_law_595 (lv_at hl 1 rfl) ?_
                          refine s_row (f := tgr a17) hx hb hK (g_right (g_right hP)) 0 4 rfl rfl (by omega) (by omega) (by decide) (v := a17 k.toNat) (if_pos (by omega)) dL_law_597 ?_
                          refine lv_iconst (v := iI (1)) hx hb dL_law_598 rfl ?_
                          refine gi_iald (a := (a17 k.toNat)) (n := 5) (f := (tG τ) k.toNat) hx hb hK (g_right (g_right hP)) (k.toNat + 1) 0 (qw_at (by omega)) rfl (by omega) (by omega) (by decide) dL_law_599 ?_
                          rw [show (((tG τ) k.toNat) 1 : Int) = τ 5 k from tG_1 (by omega)]
                          refine lv_aload hx hb dL_law_600 (lv_at hl 17 rfl) ?_
                          refine lv_iload hx hb dL_law_602 (lv_at hl 1 rfl) ?_
                          refine s_row (f := tgr a6) hx hb hK (g_left (g_right hP)) 0 4 rfl rfl (by omega) (by omega) (by decide) (v := a6 k.toNat) (if_pos (by omega)) dL_law_604 ?_
                          refine lv_iconst (v := iI (1)) hx hb dL_law_605 rfl ?_
                          refine gi_iald (a := (a6 k.toNat)) (n := 5) (f := (tG σ) k.toNat) hx hb hK (g_left (g_right hP)) (k.toNat + 1) 0 (qw_at (by omega)) rfl (by omega) (by omega) (by decide) dL_law_606 ?_
                          rw [show (((tG σ) k.toNat) 1 : Int) = σ 5 k from tG_1 (by omega)]
                          refine gi_icmp_gt (tgt := 643) hx hb dL_law_607 (by decide) ⟨by omega, by omega⟩ ⟨by omega, by omega⟩ (fun c607 => ?_) (fun c607 => ?_)
                          · skip
                            exfalso
                            omega
                          · skip
                            refine lv_aload hx hb dL_law_610 (lv_at hl 6 rfl) ?_
                            refine lv_iload hx hb dL_law_612 (lv_at hl 1 rfl) ?_
                            refine s_row (f := tgr a17) hx hb hK (g_right (g_right hP)) 0 4 rfl rfl (by omega) (by omega) (by decide) (v := a17 k.toNat) (if_pos (by omega)) dL_law_614 ?_
                            refine lv_iconst (v := iI (4)) hx hb dL_law_615 rfl ?_
                            refine gi_iald (a := (a17 k.toNat)) (n := 5) (f := (tG τ) k.toNat) hx hb hK (g_right (g_right hP)) (k.toNat + 1) 0 (qw_at (by omega)) rfl (by omega) (by omega) (by decide) dL_law_616 ?_
                            rw [show (((tG τ) k.toNat) 4 : Int) = wD τ k from tG_4 (by omega)]
                            refine lv_aload hx hb dL_law_617 (lv_at hl 17 rfl) ?_
                            refine lv_iload hx hb dL_law_619 (lv_at hl 1 rfl) ?_
                            refine s_row (f := tgr a6) hx hb hK (g_left (g_right hP)) 0 4 rfl rfl (by omega) (by omega) (by decide) (v := a6 k.toNat) (if_pos (by omega)) dL_law_621 ?_
                            refine lv_iconst (v := iI (4)) hx hb dL_law_622 rfl ?_
                            refine gi_iald (a := (a6 k.toNat)) (n := 5) (f := (tG σ) k.toNat) hx hb hK (g_left (g_right hP)) (k.toNat + 1) 0 (qw_at (by omega)) rfl (by omega) (by omega) (by decide) dL_law_623 ?_
                            rw [show (((tG σ) k.toNat) 4 : Int) = wD σ k from tG_4 (by omega)]
                            refine gi_icmp_ne (tgt := 643) hx hb dL_law_624 (by decide) ⟨by omega, by omega⟩ ⟨by omega, by omega⟩ (fun c624 => ?_) (fun c624 => ?_)
                            · skip
                              exfalso
                              omega
                            · skip
                              refine lv_iload hx hb dL_law_627 (lv_at hl 9 rfl) ?_
                              refine lv_iconst (v := iI (3)) hx hb dL_law_629 rfl ?_
                              refine gi_icmp_ne (tgt := 645) hx hb dL_law_630 (by decide) ⟨by omega, by omega⟩ ⟨by decide, by decide⟩ (fun c630 => ?_) (fun c630 => ?_)
                              · skip
                                refine lv_aload hx hb dL_law_645 (lv_at hl 6 rfl) ?_
                                refine lv_iload hx hb dL_law_647 (lv_at hl 1 rfl) ?_
                                refine s_row (f := tgr a17) hx hb hK (g_right (g_right hP)) 0 4 rfl rfl (by omega) (by omega) (by decide) (v := a17 k.toNat) (if_pos (by omega)) dL_law_649 ?_
                                refine lv_iconst (v := iI (1)) hx hb dL_law_650 rfl ?_
                                refine gi_iald (a := (a17 k.toNat)) (n := 5) (f := (tG τ) k.toNat) hx hb hK (g_right (g_right hP)) (k.toNat + 1) 0 (qw_at (by omega)) rfl (by omega) (by omega) (by decide) dL_law_651 ?_
                                rw [show (((tG τ) k.toNat) 1 : Int) = τ 5 k from tG_1 (by omega)]
                                refine gi_if_lt (tgt := 667) hx hb dL_law_652 (by decide) ⟨by omega, by omega⟩ (fun c652 => ?_) (fun c652 => ?_)
                                · skip
                                  exfalso
                                  omega
                                · skip
                                  refine lv_aload hx hb dL_law_655 (lv_at hl 6 rfl) ?_
                                  refine lv_iload hx hb dL_law_657 (lv_at hl 1 rfl) ?_
                                  refine s_row (f := tgr a17) hx hb hK (g_right (g_right hP)) 0 4 rfl rfl (by omega) (by omega) (by decide) (v := a17 k.toNat) (if_pos (by omega)) dL_law_659 ?_
                                  refine lv_iconst (v := iI (1)) hx hb dL_law_660 rfl ?_
                                  refine gi_iald (a := (a17 k.toNat)) (n := 5) (f := (tG τ) k.toNat) hx hb hK (g_right (g_right hP)) (k.toNat + 1) 0 (qw_at (by omega)) rfl (by omega) (by omega) (by decide) dL_law_661 ?_
                                  rw [show (((tG τ) k.toNat) 1 : Int) = τ 5 k from tG_1 (by omega)]
                                  refine lv_bipush (v := iI (9)) hx hb dL_law_662 rfl ?_
                                  refine gi_icmp_le (tgt := 669) hx hb dL_law_664 (by decide) ⟨by omega, by omega⟩ ⟨by decide, by decide⟩ (fun c664 => ?_) (fun c664 => ?_)
                                  · skip
                                    exact K  H locs cells slots ls  (by omega) (by omega) hP hD hS (lv_sub hl [0, 1, 2, 3, 4, 5, 6, 7, 8, 9, 10, 11, 12, 13, 14, 15, 16, 17, 18, 19, 20, 21, 22, 23] rfl)
                                  · skip
                                    exfalso
                                    omega
                              · skip
                                refine lv_aload hx hb dL_law_633 (lv_at hl 6 rfl) ?_
                                refine lv_iload hx hb dL_law_635 (lv_at hl 1 rfl) ?_
                                refine s_row (f := tgr a17) hx hb hK (g_right (g_right hP)) 0 4 rfl rfl (by omega) (by omega) (by decide) (v := a17 k.toNat) (if_pos (by omega)) dL_law_637 ?_
                                refine lv_iconst (v := iI (0)) hx hb dL_law_638 rfl ?_
                                refine gi_iald (a := (a17 k.toNat)) (n := 5) (f := (tG τ) k.toNat) hx hb hK (g_right (g_right hP)) (k.toNat + 1) 0 (qw_at (by omega)) rfl (by omega) (by omega) (by decide) dL_law_639 ?_
                                rw [show (((tG τ) k.toNat) 0 : Int) = wB τ k from tG_0 (by omega)]
                                refine gi_if_eq (tgt := 645) hx hb dL_law_640 (by decide) ⟨by omega, by omega⟩ (fun c640 => ?_) (fun c640 => ?_)
                                · skip
                                  refine lv_aload hx hb dL_law_645 (lv_at hl 6 rfl) ?_
                                  refine lv_iload hx hb dL_law_647 (lv_at hl 1 rfl) ?_
                                  refine s_row (f := tgr a17) hx hb hK (g_right (g_right hP)) 0 4 rfl rfl (by omega) (by omega) (by decide) (v := a17 k.toNat) (if_pos (by omega)) dL_law_649 ?_
                                  refine lv_iconst (v := iI (1)) hx hb dL_law_650 rfl ?_
                                  refine gi_iald (a := (a17 k.toNat)) (n := 5) (f := (tG τ) k.toNat) hx hb hK (g_right (g_right hP)) (k.toNat + 1) 0 (qw_at (by omega)) rfl (by omega) (by omega) (by decide) dL_law_651 ?_
                                  rw [show (((tG τ) k.toNat) 1 : Int) = τ 5 k from tG_1 (by omega)]
                                  refine gi_if_lt (tgt := 667) hx hb dL_law_652 (by decide) ⟨by omega, by omega⟩ (fun c652 => ?_) (fun c652 => ?_)
                                  · skip
                                    exfalso
                                    omega
                                  · skip
                                    refine lv_aload hx hb dL_law_655 (lv_at hl 6 rfl) ?_
                                    refine lv_iload hx hb dL_law_657 (lv_at hl 1 rfl) ?_
                                    refine s_row (f := tgr a17) hx hb hK (g_right (g_right hP)) 0 4 rfl rfl (by omega) (by omega) (by decide) (v := a17 k.toNat) (if_pos (by omega)) dL_law_659 ?_
                                    refine lv_iconst (v := iI (1)) hx hb dL_law_660 rfl ?_
                                    refine gi_iald (a := (a17 k.toNat)) (n := 5) (f := (tG τ) k.toNat) hx hb hK (g_right (g_right hP)) (k.toNat + 1) 0 (qw_at (by omega)) rfl (by omega) (by omega) (by decide) dL_law_661 ?_
                                    rw [show (((tG τ) k.toNat) 1 : Int) = τ 5 k from tG_1 (by omega)]
                                    refine lv_bipush (v := iI (9)) hx hb dL_law_662 rfl ?_
                                    refine gi_icmp_le (tgt := 669) hx hb dL_law_664 (by decide) ⟨by omega, by omega⟩ ⟨by decide, by decide⟩ (fun c664 => ?_) (fun c664 => ?_)
                                    · skip
                                      exact K  H locs cells slots ls  (by omega) (by omega) hP hD hS (lv_sub hl [0, 1, 2, 3, 4, 5, 6, 7, 8, 9, 10, 11, 12, 13, 14, 15, 16, 17, 18, 19, 20, 21, 22, 23] rfl)
                                    · skip
                                      exfalso
                                      omega
                                · skip
                                  exfalso
                                  omega
          · skip
            refine lv_goto (tgt := 519) hx hb dL_law_505 (by decide) ?_
            exfalso
            omega
