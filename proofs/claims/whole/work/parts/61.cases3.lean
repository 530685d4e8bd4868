/-! the law, case by case: sort count leans carry pass foresee advise -/
section LC
variable {p : Program} {l : Launch} {e : Env} {s : State} {m : MethodId} {below : List Frame} {meth : Method} {c : Code} {H : Heap} {locs : List Loc} {cells slots : Nat} {Q : State → Prop}
variable {ls : Array Slot} {D : va_G} {cI cZ cQ cJ : ClassId} {b L : Nat} {xs : Nat → Int32} {dX dM : Nat → Nat} {w9 n : Nat} {σ κ μ : St} {g : Nat → Int64}
set_option maxHeartbeats 4000000 in
set_option maxRecDepth 100000 in
theorem lC_sort (G : lG p l s m meth c b L xs D cI cZ cQ cJ) (hn : 5 * n + 5 ≤ L) (h : Lv n σ μ) (hcc : cells + 1090 ≤ 601024) (hss : slots + 4905 ≤ 7293034) (hP : va_P D vwCl (lWx cI cZ cJ dX dM w9 σ κ μ g) H) (hD : va_D (lA s) (lWx cI cZ cJ dX dM w9 σ κ μ g)) (hS : va_S (lA s) s.heap H locs) (hl : lv_has ls 9 (lLs b (dX 0) (dM 0) w9 n)) (K : lK p l e s m below meth c D cI cZ cJ b dX dM w9 n (cells + 1090) (slots + 4905) Q) : W p l e room_1 s m #[Value.ref b] below meth c H locs cells slots Q (F0 m 672 ls []) := by
  obtain ⟨S, hfl, hr, hlocks, hX, hbl, hL, hK, hTE, hN, hME⟩ := id G
  have S0 := S
  obtain ⟨hx, hb, hml, hown, hts⟩ := S0
  have hA : ∀ q : Nat, s.heap.size ≤ q → lA s q := fun _ h => h
  have hby := Lv_b h (by omega)
  have b1 := lx_b xs n 1
  have b2 := lx_b xs n 2
  refine lv_aload_n hx hb dL_law_672 rfl (lv_at hl 3 rfl) ?_
  refine lArg hx hb hX hbl hS hL 1 hn (by decide) hl 0 4 rfl rfl dL_law_673 dL_law_674 dL_law_676 dL_law_677 dL_law_678 ?_
  refine lArg hx hb hX hbl hS hL 2 hn (by decide) hl 0 4 rfl rfl dL_law_679 dL_law_680 dL_law_682 dL_law_683 dL_law_684 ?_
  refine lv_aload_n hx hb dL_law_685 rfl (lv_at hl 1 rfl) ?_
  have hP : va_P D vwCl ((XW cI cZ dX σ κ ++ [(w9, LJ cJ g)]) ++ MW cI dM μ) H := hP
  have hD : va_D (lA s) ((XW cI cZ dX σ κ ++ [(w9, LJ cJ g)]) ++ MW cI dM μ) := hD
  refine g_call (mc := 1) (ms := 6) (vx_runSW (As := [.ref (dX 0), .int (iI (lx xs n 1)), .int (iI (lx xs n 2)), .ref w9]) (rest := []) S (kL_sort l hfl D cI cZ cJ dX σ κ w9 g (lx xs n 1) (lx xs n 2) h.1 b1.1 b1.2 b2.1 b2.2 H.size) (vx_cwSW 4 hts gL_law_L_sort rfl rfl rfl (by decide +kernel) ⟨Nat.le_of_ble_eq_true rfl, Nat.le_of_ble_eq_true rfl⟩) (g_preS (lEx_g _) hK [0, 1, 3] rfl hP hD (fun U hU hW => ⟨tEx_w hTE hD hS hA hU hW, nCa_m hW.alike hN⟩)) rfl rfl hl.1 rfl (lv_room (Nat.le_of_ble_eq_true rfl)) dL_law_686 ⟨lRc (by omega), lRs (by omega)⟩) hP hD hS hA (fun κ9 H locs hk hP hD hS => ?_)
  show W p l e room_1 s m #[Value.ref b] below meth c H locs (cells + 1) (slots + 6) Q (F0 m 689 ls [.int (iI (tSort (lx xs n 1) (lx xs n 2)))])
  obtain ⟨hP, hD⟩ := g_swap hP hD
  refine lv_istore (lv' := (5, .int (iI (tSort (lx xs n 1) (lx xs n 2)))) :: lLs b (dX 0) (dM 0) w9 n) hx hb dL_law_689 hl (by decide) rfl (fun ls hl => ?_)
  refine lv_aload_n hx hb dL_law_691 rfl (lv_at hl 3 rfl) ?_
  refine lArg hx hb hX hbl hS hL 1 hn (by decide) hl 1 5 rfl rfl dL_law_692 dL_law_693 dL_law_695 dL_law_696 dL_law_697 ?_
  refine lArg hx hb hX hbl hS hL 2 hn (by decide) hl 1 5 rfl rfl dL_law_698 dL_law_699 dL_law_701 dL_law_702 dL_law_703 ?_
  refine g_call (mc := 0) (ms := 0) (va_runV (As := [.int (iI (lx xs n 1)), .int (iI (lx xs n 2))]) (rest := []) S (kX2_sort l D cI cZ cQ dM μ (lx xs n 1) (lx xs n 2) b1.1 b1.2 b2.1 b2.2 h.2.1 H.size) (cwV 2 hts gL_law_X2_sort rfl rfl rfl (by decide +kernel) ⟨Nat.le_of_ble_eq_true rfl, Nat.le_of_ble_eq_true rfl⟩) (g_preV gEx_t hK [0, 1, 2] rfl hP hD (fun _ _ _ => trivial) (q0 := 0) (ci := 2) rfl rfl rfl) rfl rfl hl.1 rfl (lv_room (Nat.le_of_ble_eq_true rfl)) dL_law_704 ⟨lRc (by omega), lRs (by omega)⟩) hP hD hS hA (fun κ8 H locs hk8 hP hD hS => ?_)
  refine lv_istore (lv' := (6, .int (iI _)) :: (5, .int (iI (tSort (lx xs n 1) (lx xs n 2)))) :: lLs b (dX 0) (dM 0) w9 n) hx hb dL_law_707 hl (by decide) rfl (fun ls hl => ?_)
  exact lTail (t := (tSort (lx xs n 1) (lx xs n 2))) G hP hD hS hl (by rw [pk_s]; exact Lv_ask h _) (mRes_6 rfl) (tR_sort (lx xs n 1) (lx xs n 2)) (hv_L (eq_sort h (lx xs n 1) (lx xs n 2))) (by omega) (by omega) hcc hss K (by decide) dL_law_709 dL_law_710 dL_law_713 dL_law_715 dL_law_720 dL_law_722 dL_law_725 dL_law_726 dL_law_727 dL_law_728 dL_law_730 dL_law_731 dL_law_732 dL_law_737
set_option maxHeartbeats 4000000 in
set_option maxRecDepth 100000 in
theorem lC_count (G : lG p l s m meth c b L xs D cI cZ cQ cJ) (hn : 5 * n + 5 ≤ L) (h : Lv n σ μ) (hcc : cells + 1090 ≤ 601024) (hss : slots + 4905 ≤ 7293034) (hP : va_P D vwCl (lWx cI cZ cJ dX dM w9 σ κ μ g) H) (hD : va_D (lA s) (lWx cI cZ cJ dX dM w9 σ κ μ g)) (hS : va_S (lA s) s.heap H locs) (hl : lv_has ls 9 (lLs b (dX 0) (dM 0) w9 n)) (K : lK p l e s m below meth c D cI cZ cJ b dX dM w9 n (cells + 1090) (slots + 4905) Q) : W p l e room_1 s m #[Value.ref b] below meth c H locs cells slots Q (F0 m 740 ls []) := by
  obtain ⟨S, hfl, hr, hlocks, hX, hbl, hL, hK, hTE, hN, hME⟩ := id G
  have S0 := S
  obtain ⟨hx, hb, hml, hown, hts⟩ := S0
  have hA : ∀ q : Nat, s.heap.size ≤ q → lA s q := fun _ h => h
  have hby := Lv_b h (by omega)
  have b1 := lx_b xs n 1
  refine lv_aload_n hx hb dL_law_740 rfl (lv_at hl 3 rfl) ?_
  refine lArg hx hb hX hbl hS hL 1 hn (by decide) hl 0 4 rfl rfl dL_law_741 dL_law_742 dL_law_744 dL_law_745 dL_law_746 ?_
  refine lv_aload_n hx hb dL_law_747 rfl (lv_at hl 1 rfl) ?_
  have hP : va_P D vwCl ((XW cI cZ dX σ κ ++ [(w9, LJ cJ g)]) ++ MW cI dM μ) H := hP
  have hD : va_D (lA s) ((XW cI cZ dX σ κ ++ [(w9, LJ cJ g)]) ++ MW cI dM μ) := hD
  refine g_call (mc := 1) (ms := 6) (vx_runSW (As := [.ref (dX 0), .int (iI (lx xs n 1)), .ref w9]) (rest := []) S (kL_count l hfl D cI cZ cJ dX σ κ w9 g (lx xs n 1) h.1 b1.1 b1.2 H.size) (vx_cwSW 3 hts gL_law_L_count rfl rfl rfl (by decide +kernel) ⟨Nat.le_of_ble_eq_true rfl, Nat.le_of_ble_eq_true rfl⟩) (g_preS (lEx_g _) hK [0, 1, 3] rfl hP hD (fun U hU hW => ⟨tEx_w hTE hD hS hA hU hW, nCa_m hW.alike hN⟩)) rfl rfl hl.1 rfl (lv_room (Nat.le_of_ble_eq_true rfl)) dL_law_748 ⟨lRc (by omega), lRs (by omega)⟩) hP hD hS hA (fun κ9 H locs hk hP hD hS => ?_)
  show W p l e room_1 s m #[Value.ref b] below meth c H locs (cells + 1) (slots + 6) Q (F0 m 751 ls [.int (iI (tCount (lx xs n 1)))])
  obtain ⟨hP, hD⟩ := g_swap hP hD
  refine lv_istore (lv' := (5, .int (iI (tCount (lx xs n 1)))) :: lLs b (dX 0) (dM 0) w9 n) hx hb dL_law_751 hl (by decide) rfl (fun ls hl => ?_)
  refine lv_aload_n hx hb dL_law_753 rfl (lv_at hl 3 rfl) ?_
  refine lArg hx hb hX hbl hS hL 1 hn (by decide) hl 1 5 rfl rfl dL_law_754 dL_law_755 dL_law_757 dL_law_758 dL_law_759 ?_
  refine g_call (mc := 0) (ms := 0) (va_runV (As := [.int (iI (lx xs n 1))]) (rest := []) S (kX2_count l D cI cZ cQ dM μ (lx xs n 1) b1.1 b1.2 h.2.1 H.size) (cwV 1 hts gL_law_X2_count rfl rfl rfl (by decide +kernel) ⟨Nat.le_of_ble_eq_true rfl, Nat.le_of_ble_eq_true rfl⟩) (g_preV gEx_t hK [0, 1, 2] rfl hP hD (fun _ _ _ => trivial) (q0 := 0) (ci := 2) rfl rfl rfl) rfl rfl hl.1 rfl (lv_room (Nat.le_of_ble_eq_true rfl)) dL_law_760 ⟨lRc (by omega), lRs (by omega)⟩) hP hD hS hA (fun κ8 H locs hk8 hP hD hS => ?_)
  refine lv_istore (lv' := (6, .int (iI _)) :: (5, .int (iI (tCount (lx xs n 1)))) :: lLs b (dX 0) (dM 0) w9 n) hx hb dL_law_763 hl (by decide) rfl (fun ls hl => ?_)
  exact lTail (t := (tCount (lx xs n 1))) G hP hD hS hl (by rw [pk_s]; exact Lv_ask h _) (mRes_6 rfl) (tR_count (lx xs n 1)) (hv_L (eq_count h (lx xs n 1))) (by omega) (by omega) hcc hss K (by decide) dL_law_765 dL_law_766 dL_law_769 dL_law_771 dL_law_776 dL_law_778 dL_law_781 dL_law_782 dL_law_783 dL_law_784 dL_law_786 dL_law_787 dL_law_788 dL_law_793
set_option maxHeartbeats 4000000 in
set_option maxRecDepth 100000 in
theorem lC_leans (G : lG p l s m meth c b L xs D cI cZ cQ cJ) (hn : 5 * n + 5 ≤ L) (h : Lv n σ μ) (hcc : cells + 1090 ≤ 601024) (hss : slots + 4905 ≤ 7293034) (hP : va_P D vwCl (lWx cI cZ cJ dX dM w9 σ κ μ g) H) (hD : va_D (lA s) (lWx cI cZ cJ dX dM w9 σ κ μ g)) (hS : va_S (lA s) s.heap H locs) (hl : lv_has ls 9 (lLs b (dX 0) (dM 0) w9 n)) (K : lK p l e s m below meth c D cI cZ cJ b dX dM w9 n (cells + 1090) (slots + 4905) Q) : W p l e room_1 s m #[Value.ref b] below meth c H locs cells slots Q (F0 m 796 ls []) := by
  obtain ⟨S, hfl, hr, hlocks, hX, hbl, hL, hK, hTE, hN, hME⟩ := id G
  have S0 := S
  obtain ⟨hx, hb, hml, hown, hts⟩ := S0
  have hA : ∀ q : Nat, s.heap.size ≤ q → lA s q := fun _ h => h
  have hby := Lv_b h (by omega)
  have b1 := lx_b xs n 1
  refine lv_aload_n hx hb dL_law_796 rfl (lv_at hl 3 rfl) ?_
  refine lArg hx hb hX hbl hS hL 1 hn (by decide) hl 0 4 rfl rfl dL_law_797 dL_law_798 dL_law_800 dL_law_801 dL_law_802 ?_
  refine lv_aload_n hx hb dL_law_803 rfl (lv_at hl 1 rfl) ?_
  have hP : va_P D vwCl ((XW cI cZ dX σ κ ++ [(w9, LJ cJ g)]) ++ MW cI dM μ) H := hP
  have hD : va_D (lA s) ((XW cI cZ dX σ κ ++ [(w9, LJ cJ g)]) ++ MW cI dM μ) := hD
  refine g_call (mc := 1) (ms := 6) (vx_runSW (As := [.ref (dX 0), .int (iI (lx xs n 1)), .ref w9]) (rest := []) S (kL_leans l hfl D cI cZ cJ dX σ κ w9 g (lx xs n 1) h.1 b1.1 b1.2 H.size) (vx_cwSW 3 hts gL_law_L_leans rfl rfl rfl (by decide +kernel) ⟨Nat.le_of_ble_eq_true rfl, Nat.le_of_ble_eq_true rfl⟩) (g_preS (lEx_g _) hK [0, 1, 3] rfl hP hD (fun U hU hW => ⟨tEx_w hTE hD hS hA hU hW, nCa_m hW.alike hN⟩)) rfl rfl hl.1 rfl (lv_room (Nat.le_of_ble_eq_true rfl)) dL_law_804 ⟨lRc (by omega), lRs (by omega)⟩) hP hD hS hA (fun κ9 H locs hk hP hD hS => ?_)
  show W p l e room_1 s m #[Value.ref b] below meth c H locs (cells + 1) (slots + 6) Q (F0 m 807 ls [.int (iI (tLeans (lx xs n 1)))])
  obtain ⟨hP, hD⟩ := g_swap hP hD
  refine lv_istore (lv' := (5, .int (iI (tLeans (lx xs n 1)))) :: lLs b (dX 0) (dM 0) w9 n) hx hb dL_law_807 hl (by decide) rfl (fun ls hl => ?_)
  refine lv_aload_n hx hb dL_law_809 rfl (lv_at hl 3 rfl) ?_
  refine lArg hx hb hX hbl hS hL 1 hn (by decide) hl 1 5 rfl rfl dL_law_810 dL_law_811 dL_law_813 dL_law_814 dL_law_815 ?_
  refine g_call (mc := 0) (ms := 0) (va_runV (As := [.int (iI (lx xs n 1))]) (rest := []) S (kX2_leans l D cI cZ cQ dM μ (lx xs n 1) b1.1 b1.2 h.2.1 H.size) (cwV 1 hts gL_law_X2_leans rfl rfl rfl (by decide +kernel) ⟨Nat.le_of_ble_eq_true rfl, Nat.le_of_ble_eq_true rfl⟩) (g_preV gEx_t hK [0, 1, 2] rfl hP hD (fun _ _ _ => trivial) (q0 := 0) (ci := 2) rfl rfl rfl) rfl rfl hl.1 rfl (lv_room (Nat.le_of_ble_eq_true rfl)) dL_law_816 ⟨lRc (by omega), lRs (by omega)⟩) hP hD hS hA (fun κ8 H locs hk8 hP hD hS => ?_)
  refine lv_istore (lv' := (6, .int (iI _)) :: (5, .int (iI (tLeans (lx xs n 1)))) :: lLs b (dX 0) (dM 0) w9 n) hx hb dL_law_819 hl (by decide) rfl (fun ls hl => ?_)
  exact lTail (t := (tLeans (lx xs n 1))) G hP hD hS hl (by rw [pk_s]; exact Lv_ask h _) (mRes_6 rfl) (tR_leans (lx xs n 1)) (hv_L (fun _ => eq_leans h (lx xs n 1))) (by omega) (by omega) hcc hss K (by decide) dL_law_821 dL_law_822 dL_law_825 dL_law_827 dL_law_832 dL_law_834 dL_law_837 dL_law_838 dL_law_839 dL_law_840 dL_law_842 dL_law_843 dL_law_844 dL_law_849
set_option maxHeartbeats 4000000 in
set_option maxRecDepth 100000 in
theorem lC_carry (G : lG p l s m meth c b L xs D cI cZ cQ cJ) (hn : 5 * n + 5 ≤ L) (h : Lv n σ μ) (hcc : cells + 1090 ≤ 601024) (hss : slots + 4905 ≤ 7293034) (hP : va_P D vwCl (lWx cI cZ cJ dX dM w9 σ κ μ g) H) (hD : va_D (lA s) (lWx cI cZ cJ dX dM w9 σ κ μ g)) (hS : va_S (lA s) s.heap H locs) (hl : lv_has ls 9 (lLs b (dX 0) (dM 0) w9 n)) (K : lK p l e s m below meth c D cI cZ cJ b dX dM w9 n (cells + 1090) (slots + 4905) Q) : W p l e room_1 s m #[Value.ref b] below meth c H locs cells slots Q (F0 m 852 ls []) := by
  obtain ⟨S, hfl, hr, hlocks, hX, hbl, hL, hK, hTE, hN, hME⟩ := id G
  have S0 := S
  obtain ⟨hx, hb, hml, hown, hts⟩ := S0
  have hA : ∀ q : Nat, s.heap.size ≤ q → lA s q := fun _ h => h
  have hby := Lv_b h (by omega)
  have b1 := lx_b xs n 1
  have b2 := lx_b xs n 2
  have b3 := lx_b xs n 3
  refine lv_aload_n hx hb dL_law_852 rfl (lv_at hl 3 rfl) ?_
  refine lArg hx hb hX hbl hS hL 1 hn (by decide) hl 0 4 rfl rfl dL_law_853 dL_law_854 dL_law_856 dL_law_857 dL_law_858 ?_
  refine lArg hx hb hX hbl hS hL 2 hn (by decide) hl 0 4 rfl rfl dL_law_859 dL_law_860 dL_law_862 dL_law_863 dL_law_864 ?_
  refine lArg hx hb hX hbl hS hL 3 hn (by decide) hl 0 4 rfl rfl dL_law_865 dL_law_866 dL_law_868 dL_law_869 dL_law_870 ?_
  refine lv_aload_n hx hb dL_law_871 rfl (lv_at hl 1 rfl) ?_
  have hP : va_P D vwCl ((XW cI cZ dX σ κ ++ [(w9, LJ cJ g)]) ++ MW cI dM μ) H := hP
  have hD : va_D (lA s) ((XW cI cZ dX σ κ ++ [(w9, LJ cJ g)]) ++ MW cI dM μ) := hD
  refine g_call (mc := 1) (ms := 6) (vx_runSW (As := [.ref (dX 0), .int (iI (lx xs n 1)), .int (iI (lx xs n 2)), .int (iI (lx xs n 3)), .ref w9]) (rest := []) S (kL_carry l hfl D cI cZ cJ dX σ κ w9 g (lx xs n 1) (lx xs n 2) (lx xs n 3) h.1 b1.1 b1.2 b2.1 b2.2 b3.1 b3.2 H.size) (vx_cwSW 5 hts gL_law_L_carry rfl rfl rfl (by decide +kernel) ⟨Nat.le_of_ble_eq_true rfl, Nat.le_of_ble_eq_true rfl⟩) (g_preS (lEx_g _) hK [0, 1, 3] rfl hP hD (fun U hU hW => ⟨tEx_w hTE hD hS hA hU hW, nCa_m hW.alike hN⟩)) rfl rfl hl.1 rfl (lv_room (Nat.le_of_ble_eq_true rfl)) dL_law_872 ⟨lRc (by omega), lRs (by omega)⟩) hP hD hS hA (fun κ9 H locs hk hP hD hS => ?_)
  show W p l e room_1 s m #[Value.ref b] below meth c H locs (cells + 1) (slots + 6) Q (F0 m 875 ls [.int (iI (tCarry σ (lx xs n 1) (lx xs n 2) (lx xs n 3)))])
  obtain ⟨hP, hD⟩ := g_swap hP hD
  refine lv_istore (lv' := (5, .int (iI (tCarry σ (lx xs n 1) (lx xs n 2) (lx xs n 3)))) :: lLs b (dX 0) (dM 0) w9 n) hx hb dL_law_875 hl (by decide) rfl (fun ls hl => ?_)
  refine lv_aload_n hx hb dL_law_877 rfl (lv_at hl 3 rfl) ?_
  refine lArg hx hb hX hbl hS hL 1 hn (by decide) hl 1 5 rfl rfl dL_law_878 dL_law_879 dL_law_881 dL_law_882 dL_law_883 ?_
  refine lArg hx hb hX hbl hS hL 2 hn (by decide) hl 1 5 rfl rfl dL_law_884 dL_law_885 dL_law_887 dL_law_888 dL_law_889 ?_
  refine lArg hx hb hX hbl hS hL 3 hn (by decide) hl 1 5 rfl rfl dL_law_890 dL_law_891 dL_law_893 dL_law_894 dL_law_895 ?_
  refine g_call (mc := 0) (ms := 0) (va_runV (As := [.int (iI (lx xs n 1)), .int (iI (lx xs n 2)), .int (iI (lx xs n 3))]) (rest := []) S (kX2_carry l D cI cZ cQ dM μ (lx xs n 1) (lx xs n 2) (lx xs n 3) b1.1 b1.2 b2.1 b2.2 b3.1 b3.2 h.2.1 H.size) (cwV 3 hts gL_law_X2_carry rfl rfl rfl (by decide +kernel) ⟨Nat.le_of_ble_eq_true rfl, Nat.le_of_ble_eq_true rfl⟩) (g_preV gEx_t hK [0, 1, 2] rfl hP hD (fun _ _ _ => trivial) (q0 := 0) (ci := 2) rfl rfl rfl) rfl rfl hl.1 rfl (lv_room (Nat.le_of_ble_eq_true rfl)) dL_law_896 ⟨lRc (by omega), lRs (by omega)⟩) hP hD hS hA (fun κ8 H locs hk8 hP hD hS => ?_)
  refine lv_istore (lv' := (6, .int (iI _)) :: (5, .int (iI (tCarry σ (lx xs n 1) (lx xs n 2) (lx xs n 3)))) :: lLs b (dX 0) (dM 0) w9 n) hx hb dL_law_899 hl (by decide) rfl (fun ls hl => ?_)
  exact lTail (t := (tCarry σ (lx xs n 1) (lx xs n 2) (lx xs n 3))) G hP hD hS hl (Lv_carry h (lx xs n 1) (lx xs n 2) (lx xs n 3)) ((mRes_6 rfl).trans (t_carry h.2.2.1 (lx xs n 1) (lx xs n 2) (lx xs n 3))) (tR_carry σ (lx xs n 1) (lx xs n 2) (lx xs n 3)) (by rw [t_carry h.2.2.1]; exact hv_L (fun _ => eq_carry h (lx xs n 1) (lx xs n 2) (lx xs n 3))) (by omega) (by omega) hcc hss K (by decide) dL_law_901 dL_law_902 dL_law_905 dL_law_907 dL_law_912 dL_law_914 dL_law_917 dL_law_918 dL_law_919 dL_law_920 dL_law_922 dL_law_923 dL_law_924 dL_law_929
set_option maxHeartbeats 4000000 in
set_option maxRecDepth 100000 in
theorem lC_pass (G : lG p l s m meth c b L xs D cI cZ cQ cJ) (hn : 5 * n + 5 ≤ L) (h : Lv n σ μ) (hcc : cells + 1090 ≤ 601024) (hss : slots + 4905 ≤ 7293034) (hP : va_P D vwCl (lWx cI cZ cJ dX dM w9 σ κ μ g) H) (hD : va_D (lA s) (lWx cI cZ cJ dX dM w9 σ κ μ g)) (hS : va_S (lA s) s.heap H locs) (hl : lv_has ls 9 (lLs b (dX 0) (dM 0) w9 n)) (K : lK p l e s m below meth c D cI cZ cJ b dX dM w9 n (cells + 1090) (slots + 4905) Q) : W p l e room_1 s m #[Value.ref b] below meth c H locs cells slots Q (F0 m 958 ls []) := by
  obtain ⟨S, hfl, hr, hlocks, hX, hbl, hL, hK, hTE, hN, hME⟩ := id G
  have S0 := S
  obtain ⟨hx, hb, hml, hown, hts⟩ := S0
  have hA : ∀ q : Nat, s.heap.size ≤ q → lA s q := fun _ h => h
  have hby := Lv_b h (by omega)
  have b1 := lx_b xs n 1
  refine lv_aload_n hx hb dL_law_958 rfl (lv_at hl 3 rfl) ?_
  refine lArg hx hb hX hbl hS hL 1 hn (by decide) hl 0 4 rfl rfl dL_law_959 dL_law_960 dL_law_962 dL_law_963 dL_law_964 ?_
  refine lv_aload_n hx hb dL_law_965 rfl (lv_at hl 1 rfl) ?_
  have hP : va_P D vwCl ((XW cI cZ dX σ κ ++ [(w9, LJ cJ g)]) ++ MW cI dM μ) H := hP
  have hD : va_D (lA s) ((XW cI cZ dX σ κ ++ [(w9, LJ cJ g)]) ++ MW cI dM μ) := hD
  refine g_call (mc := 1) (ms := 6) (vx_runSW (As := [.ref (dX 0), .int (iI (lx xs n 1)), .ref w9]) (rest := []) S (kL_pass l hfl D cI cZ cJ dX σ κ w9 g (lx xs n 1) h.1 b1.1 b1.2 hby.2.2.1 hby.2.2.2 H.size) (vx_cwSW 3 hts gL_law_L_pass rfl rfl rfl (by decide +kernel) ⟨Nat.le_of_ble_eq_true rfl, Nat.le_of_ble_eq_true rfl⟩) (g_preS (lEx_g _) hK [0, 1, 3] rfl hP hD (fun U hU hW => ⟨tEx_w hTE hD hS hA hU hW, nCa_m hW.alike hN⟩)) rfl rfl hl.1 rfl (lv_room (Nat.le_of_ble_eq_true rfl)) dL_law_966 ⟨lRc (by omega), lRs (by omega)⟩) hP hD hS hA (fun κ9 H locs hk hP hD hS => ?_)
  show W p l e room_1 s m #[Value.ref b] below meth c H locs (cells + 1) (slots + 6) Q (F0 m 969 ls [.int (iI (tPass (lx xs n 1)))])
  obtain ⟨hP, hD⟩ := g_swap hP hD
  refine lv_istore (lv' := (5, .int (iI (tPass (lx xs n 1)))) :: lLs b (dX 0) (dM 0) w9 n) hx hb dL_law_969 hl (by decide) rfl (fun ls hl => ?_)
  refine lv_aload_n hx hb dL_law_971 rfl (lv_at hl 3 rfl) ?_
  refine lArg hx hb hX hbl hS hL 1 hn (by decide) hl 1 5 rfl rfl dL_law_972 dL_law_973 dL_law_975 dL_law_976 dL_law_977 ?_
  refine g_call (mc := 0) (ms := 0) (va_runV (As := [.int (iI (lx xs n 1))]) (rest := []) S (kX2_pass l D cI cZ cQ dM μ (lx xs n 1) b1.1 b1.2 h.2.1 hby.1 hby.2.1 H.size) (cwV 1 hts gL_law_X2_pass rfl rfl rfl (by decide +kernel) ⟨Nat.le_of_ble_eq_true rfl, Nat.le_of_ble_eq_true rfl⟩) (g_preV gEx_t hK [0, 1, 2] rfl hP hD (fun _ _ _ => trivial) (q0 := 0) (ci := 2) rfl rfl rfl) rfl rfl hl.1 rfl (lv_room (Nat.le_of_ble_eq_true rfl)) dL_law_978 ⟨lRc (by omega), lRs (by omega)⟩) hP hD hS hA (fun κ8 H locs hk8 hP hD hS => ?_)
  refine lv_istore (lv' := (6, .int (iI _)) :: (5, .int (iI (tPass (lx xs n 1)))) :: lLs b (dX 0) (dM 0) w9 n) hx hb dL_law_981 hl (by decide) rfl (fun ls hl => ?_)
  exact lTail (t := (tPass (lx xs n 1))) G hP hD hS hl (Lv_passed h (by omega) (lx xs n 1)) (mRes_6 (yrS_60 _ _)) (tR_pass (lx xs n 1)) (hv_L (eq_pass h (lx xs n 1))) (by omega) (by omega) hcc hss K (by decide) dL_law_983 dL_law_984 dL_law_987 dL_law_989 dL_law_994 dL_law_996 dL_law_999 dL_law_1000 dL_law_1001 dL_law_1002 dL_law_1004 dL_law_1005 dL_law_1006 dL_law_1011
set_option maxHeartbeats 4000000 in
set_option maxRecDepth 100000 in
theorem lC_foresee (G : lG p l s m meth c b L xs D cI cZ cQ cJ) (hn : 5 * n + 5 ≤ L) (h : Lv n σ μ) (hcc : cells + 1090 ≤ 601024) (hss : slots + 4905 ≤ 7293034) (hP : va_P D vwCl (lWx cI cZ cJ dX dM w9 σ κ μ g) H) (hD : va_D (lA s) (lWx cI cZ cJ dX dM w9 σ κ μ g)) (hS : va_S (lA s) s.heap H locs) (hl : lv_has ls 9 (lLs b (dX 0) (dM 0) w9 n)) (K : lK p l e s m below meth c D cI cZ cJ b dX dM w9 n (cells + 1090) (slots + 4905) Q) : W p l e room_1 s m #[Value.ref b] below meth c H locs cells slots Q (F0 m 1014 ls []) := by
  obtain ⟨S, hfl, hr, hlocks, hX, hbl, hL, hK, hTE, hN, hME⟩ := id G
  have S0 := S
  obtain ⟨hx, hb, hml, hown, hts⟩ := S0
  have hA : ∀ q : Nat, s.heap.size ≤ q → lA s q := fun _ h => h
  have hby := Lv_b h (by omega)
  have b1 := lx_b xs n 1
  have b2 := lx_b xs n 2
  refine lv_aload_n hx hb dL_law_1014 rfl (lv_at hl 3 rfl) ?_
  refine lArg hx hb hX hbl hS hL 1 hn (by decide) hl 0 4 rfl rfl dL_law_1015 dL_law_1016 dL_law_1018 dL_law_1019 dL_law_1020 ?_
  refine lArg hx hb hX hbl hS hL 2 hn (by decide) hl 0 4 rfl rfl dL_law_1021 dL_law_1022 dL_law_1024 dL_law_1025 dL_law_1026 ?_
  refine lv_aload_n hx hb dL_law_1027 rfl (lv_at hl 1 rfl) ?_
  have hP : va_P D vwCl ((XW cI cZ dX σ κ ++ [(w9, LJ cJ g)]) ++ MW cI dM μ) H := hP
  have hD : va_D (lA s) ((XW cI cZ dX σ κ ++ [(w9, LJ cJ g)]) ++ MW cI dM μ) := hD
  refine g_call (mc := 1) (ms := 6) (vx_runSW (As := [.ref (dX 0), .int (iI (lx xs n 1)), .int (iI (lx xs n 2)), .ref w9]) (rest := []) S (kL_foresee l hfl D cI cZ cJ dX σ κ w9 g (lx xs n 1) (lx xs n 2) h.1 b1.1 b1.2 b2.1 b2.2 H.size) (vx_cwSW 4 hts gL_law_L_foresee rfl rfl rfl (by decide +kernel) ⟨Nat.le_of_ble_eq_true rfl, Nat.le_of_ble_eq_true rfl⟩) (g_preS (lEx_g _) hK [0, 1, 3] rfl hP hD (fun U hU hW => ⟨tEx_w hTE hD hS hA hU hW, nCa_m hW.alike hN⟩)) rfl rfl hl.1 rfl (lv_room (Nat.le_of_ble_eq_true rfl)) dL_law_1028 ⟨lRc (by omega), lRs (by omega)⟩) hP hD hS hA (fun κ9 H locs hk hP hD hS => ?_)
  show W p l e room_1 s m #[Value.ref b] below meth c H locs (cells + 1) (slots + 6) Q (F0 m 1031 ls [.int (iI (tForesee (lx xs n 1) (lx xs n 2)))])
  obtain ⟨hP, hD⟩ := g_swap hP hD
  refine lv_istore (lv' := (5, .int (iI (tForesee (lx xs n 1) (lx xs n 2)))) :: lLs b (dX 0) (dM 0) w9 n) hx hb dL_law_1031 hl (by decide) rfl (fun ls hl => ?_)
  refine lv_aload_n hx hb dL_law_1033 rfl (lv_at hl 3 rfl) ?_
  refine lArg hx hb hX hbl hS hL 1 hn (by decide) hl 1 5 rfl rfl dL_law_1034 dL_law_1035 dL_law_1037 dL_law_1038 dL_law_1039 ?_
  refine lArg hx hb hX hbl hS hL 2 hn (by decide) hl 1 5 rfl rfl dL_law_1040 dL_law_1041 dL_law_1043 dL_law_1044 dL_law_1045 ?_
  refine g_call (mc := 5) (ms := 215) (va_runV (As := [.int (iI (lx xs n 1)), .int (iI (lx xs n 2))]) (rest := []) S (kX2_foresee l D cI cZ cQ dM μ (lx xs n 1) (lx xs n 2) b1.1 b1.2 b2.1 b2.2 h.2.1 hby.1 hby.2.1 H.size) (cwV 2 hts gL_law_X2_foresee rfl rfl rfl (by decide +kernel) ⟨Nat.le_of_ble_eq_true rfl, Nat.le_of_ble_eq_true rfl⟩) (g_preV (mEx_g _) hK [0, 1, 2] rfl hP hD (fun U hU hW => mEx_w hME hD hS hA hU hW) (q0 := 0) (ci := 2) rfl rfl rfl) rfl rfl hl.1 rfl (lv_room (Nat.le_of_ble_eq_true rfl)) dL_law_1046 ⟨lRc (by omega), lRs (by omega)⟩) hP hD hS hA (fun κ8 H locs hk8 hP hD hS => ?_)
  refine lv_istore (lv' := (6, .int (iI _)) :: (5, .int (iI (tForesee (lx xs n 1) (lx xs n 2)))) :: lLs b (dX 0) (dM 0) w9 n) hx hb dL_law_1049 hl (by decide) rfl (fun ls hl => ?_)
  exact lTail (t := (tForesee (lx xs n 1) (lx xs n 2))) G hP hD hS hl (by rw [pk_s]; exact Lv_ask h _) (mRes_6 rfl) (tR_foresee (lx xs n 1) (lx xs n 2)) (hv_L (eq_foresee h (lx xs n 1) (lx xs n 2))) (by omega) (by omega) hcc hss K (by decide) dL_law_1051 dL_law_1052 dL_law_1055 dL_law_1057 dL_law_1062 dL_law_1064 dL_law_1067 dL_law_1068 dL_law_1069 dL_law_1070 dL_law_1072 dL_law_1073 dL_law_1074 dL_law_1079
set_option maxHeartbeats 4000000 in
set_option maxRecDepth 100000 in
theorem lC_advise (G : lG p l s m meth c b L xs D cI cZ cQ cJ) (hn : 5 * n + 5 ≤ L) (h : Lv n σ μ) (hcc : cells + 1090 ≤ 601024) (hss : slots + 4905 ≤ 7293034) (hP : va_P D vwCl (lWx cI cZ cJ dX dM w9 σ κ μ g) H) (hD : va_D (lA s) (lWx cI cZ cJ dX dM w9 σ κ μ g)) (hS : va_S (lA s) s.heap H locs) (hl : lv_has ls 9 (lLs b (dX 0) (dM 0) w9 n)) (K : lK p l e s m below meth c D cI cZ cJ b dX dM w9 n (cells + 1090) (slots + 4905) Q) : W p l e room_1 s m #[Value.ref b] below meth c H locs cells slots Q (F0 m 1082 ls []) := by
  obtain ⟨S, hfl, hr, hlocks, hX, hbl, hL, hK, hTE, hN, hME⟩ := id G
  have S0 := S
  obtain ⟨hx, hb, hml, hown, hts⟩ := S0
  have hA : ∀ q : Nat, s.heap.size ≤ q → lA s q := fun _ h => h
  have hby := Lv_b h (by omega)
  have b1 := lx_b xs n 1
  refine lv_aload_n hx hb dL_law_1082 rfl (lv_at hl 3 rfl) ?_
  refine lArg hx hb hX hbl hS hL 1 hn (by decide) hl 0 4 rfl rfl dL_law_1083 dL_law_1084 dL_law_1086 dL_law_1087 dL_law_1088 ?_
  refine lv_aload_n hx hb dL_law_1089 rfl (lv_at hl 1 rfl) ?_
  have hP : va_P D vwCl ((XW cI cZ dX σ κ ++ [(w9, LJ cJ g)]) ++ MW cI dM μ) H := hP
  have hD : va_D (lA s) ((XW cI cZ dX σ κ ++ [(w9, LJ cJ g)]) ++ MW cI dM μ) := hD
  refine g_call (mc := 1) (ms := 6) (vx_runSW (As := [.ref (dX 0), .int (iI (lx xs n 1)), .ref w9]) (rest := []) S (kL_advise l hfl D cI cZ cJ dX σ κ w9 g (lx xs n 1) h.1 b1.1 b1.2 H.size) (vx_cwSW 3 hts gL_law_L_advise rfl rfl rfl (by decide +kernel) ⟨Nat.le_of_ble_eq_true rfl, Nat.le_of_ble_eq_true rfl⟩) (g_preS (lEx_g _) hK [0, 1, 3] rfl hP hD (fun U hU hW => ⟨tEx_w hTE hD hS hA hU hW, nCa_m hW.alike hN⟩)) rfl rfl hl.1 rfl (lv_room (Nat.le_of_ble_eq_true rfl)) dL_law_1090 ⟨lRc (by omega), lRs (by omega)⟩) hP hD hS hA (fun κ9 H locs hk hP hD hS => ?_)
  show W p l e room_1 s m #[Value.ref b] below meth c H locs (cells + 1) (slots + 6) Q (F0 m 1093 ls [.int (iI (tAdvise (lx xs n 1)))])
  obtain ⟨hP, hD⟩ := g_swap hP hD
  refine lv_istore (lv' := (5, .int (iI (tAdvise (lx xs n 1)))) :: lLs b (dX 0) (dM 0) w9 n) hx hb dL_law_1093 hl (by decide) rfl (fun ls hl => ?_)
  refine lv_aload_n hx hb dL_law_1095 rfl (lv_at hl 3 rfl) ?_
  refine lArg hx hb hX hbl hS hL 1 hn (by decide) hl 1 5 rfl rfl dL_law_1096 dL_law_1097 dL_law_1099 dL_law_1100 dL_law_1101 ?_
  refine g_call (mc := 1085) (ms := 4895) (va_runV (As := [.int (iI (lx xs n 1))]) (rest := []) S (kX2_advise l D cI cZ cQ dM μ (lx xs n 1) b1.1 b1.2 h.2.1 hby.1 hby.2.1 H.size) (cwV 1 hts gL_law_X2_advise rfl rfl rfl (by decide +kernel) ⟨Nat.le_of_ble_eq_true rfl, Nat.le_of_ble_eq_true rfl⟩) (g_preV (mEx_g _) hK [0, 1, 2] rfl hP hD (fun U hU hW => mEx_w hME hD hS hA hU hW) (q0 := 0) (ci := 2) rfl rfl rfl) rfl rfl hl.1 rfl (lv_room (Nat.le_of_ble_eq_true rfl)) dL_law_1102 ⟨lRc (by omega), lRs (by omega)⟩) hP hD hS hA (fun κ8 H locs hk8 hP hD hS => ?_)
  refine lv_istore (lv' := (6, .int (iI _)) :: (5, .int (iI (tAdvise (lx xs n 1)))) :: lLs b (dX 0) (dM 0) w9 n) hx hb dL_law_1105 hl (by decide) rfl (fun ls hl => ?_)
  exact lTail (t := (tAdvise (lx xs n 1))) G hP hD hS hl (by rw [pk_s]; exact Lv_ask h _) (mRes_6 rfl) (tR_advise (lx xs n 1)) (hv_L (fun _ => eq_advise h (lx xs n 1))) (by omega) (by omega) hcc hss K (by decide) dL_law_1107 dL_law_1108 dL_law_1111 dL_law_1113 dL_law_1118 dL_law_1120 dL_law_1123 dL_law_1124 dL_law_1125 dL_law_1126 dL_law_1128 dL_law_1129 dL_law_1130 dL_law_1135
end LC
