set_option maxHeartbeats 4000000 in
set_option maxRecDepth 100000 in
theorem kX2_change (l : Launch) (D : va_G) (cI cZ cQ : ClassId) (d : Nat → Nat) (σ : St)  (k0 : Int) (w0 : Int) (i0 : Int) (v0 : Int) (h0 : 0 ≤ k0) (h1 : k0 < 40) (hw : 0 ≤ w0 ∧ w0 ≤ 3) (ht : tWF σ k0) : gMet l yX2_change wsX2_change ({ frames := 1, cells := 1, slots := 5, locals := 40 } : Room) D (tyMs cI cZ cQ) (MW cI d σ) [.ref (d 0), .int (iI k0), .int (iI w0), .int (iI i0), .int (iI v0)] (fun _ => True) (fun _ => none) (fun _ => True) (fun κ' => MW cI d (mChg σ k0 w0 i0 v0)) := by
  refine g_start (cc := cX2_change) (maxL := 7) (ret := none) (by decide) rfl (Nat.le_of_ble_eq_true rfl) ?_
  intro p e s m args below meth c A ls H locs S hr hlocks hname hP hK hD hA hS hE hl
  have S0 := S
  obtain ⟨hx, hb, hml, hown, hts⟩ := S0
  have hl : lv_has ls 7 [(0, .ref (d 0)), (1, .int (iI (k0))), (2, .int (iI (w0))), (3, .int (iI (i0))), (4, .int (iI (v0)))] := hl
  have hinX2 : ∀ w ∈ wsX20, w ∈ wsX2_change := by decide +kernel
  obtain ⟨tk0, tk1, tk2, tk3, tk4⟩ := id ht
  refine lv_iload_n hx hb dX2_change_0 rfl (lv_at hl 2 rfl) ?_
  rcases Int.decEq w0 0 with c1_0 | c1_0
  rotate_left
  · skip
    refine gi_tableIn (tgt := 28) hx hb dX2_change_1 ⟨by omega, by omega⟩ 0 c1_0 (by decide) (by decide) rfl (by decide) ?_
    refine lv_iconst (v := iI (5)) hx hb dX2_change_28 rfl ?_
    refine va_newa (atype := .int) (ty := .int) (N' := 5) (a0 := (5, .inl (fun j : Nat => iI ((fun _ => 0 : Int → Int) (j : Int))))) hx hb (hts _ (List.mem_of_getElem? (i := 1) rfl)) rfl hK hP hD hS hA (fun _ => rfl) (by decide) rfl (Nat.le_of_ble_eq_true rfl) (Nat.le_of_ble_eq_true rfl) (Nat.le_of_ble_eq_true rfl) dX2_change_29 (fun q29 cA H hK hP hD hS => ?_)
    have e9 : cI = cA := g_clsI hK 0 3 rfl rfl
    subst e9
    have hK : va_K D vwCl (tyMs cI cZ cQ) s := hK.sub [0, 1, 2] rfl
    have hP : va_P D vwCl (MW cI d σ ++ [(q29, aI cI 5 (fun _ => 0))]) H := hP
    have hD : va_D A (MW cI d σ ++ [(q29, aI cI 5 (fun _ => 0))]) := hD
    refine lv_dup hx hb dX2_change_31 rfl ?_
    refine lv_iconst (v := iI (0)) hx hb dX2_change_32 rfl ?_
    refine lv_iconst (v := iI (1)) hx hb dX2_change_33 rfl ?_
    refine gi_iast (a := q29) (n := 5) (f := fun _ => 0) hx hb hK hP hD hS 7 0 rfl rfl (by omega) (by omega) (by decide) dX2_change_34 (fun H locs hP hD hS => ?_)
    have hP : va_P D vwCl (MW cI d σ ++ [(q29, aI cI 5 (fu (fun _ => 0) 0 (1)))]) H := hP
    have hD : va_D A (MW cI d σ ++ [(q29, aI cI 5 (fu (fun _ => 0) 0 (1)))]) := hD
    refine lv_dup hx hb dX2_change_35 rfl ?_
    refine lv_iconst (v := iI (1)) hx hb dX2_change_36 rfl ?_
    refine lv_iconst (v := iI (1)) hx hb dX2_change_37 rfl ?_
    refine gi_iast (a := q29) (n := 5) (f := fu (fun _ => 0) 0 (1)) hx hb hK hP hD hS 7 0 rfl rfl (by omega) (by omega) (by decide) dX2_change_38 (fun H locs hP hD hS => ?_)
    have hP : va_P D vwCl (MW cI d σ ++ [(q29, aI cI 5 (fu (fu (fun _ => 0) 0 (1)) 1 (1)))]) H := hP
    have hD : va_D A (MW cI d σ ++ [(q29, aI cI 5 (fu (fu (fun _ => 0) 0 (1)) 1 (1)))]) := hD
    refine lv_dup hx hb dX2_change_39 rfl ?_
    refine lv_iconst (v := iI (2)) hx hb dX2_change_40 rfl ?_
    refine lv_iload hx hb dX2_change_41 (lv_at hl 4 rfl) ?_
    refine gi_iast (a := q29) (n := 5) (f := fu (fu (fun _ => 0) 0 (1)) 1 (1)) hx hb hK hP hD hS 7 0 rfl rfl (by omega) (by omega) (by decide) dX2_change_43 (fun H locs hP hD hS => ?_)
    have hP : va_P D vwCl (MW cI d σ ++ [(q29, aI cI 5 (fu (fu (fu (fun _ => 0) 0 (1)) 1 (1)) 2 (v0)))]) H := hP
    have hD : va_D A (MW cI d σ ++ [(q29, aI cI 5 (fu (fu (fu (fun _ => 0) 0 (1)) 1 (1)) 2 (v0)))]) := hD
    refine lv_dup hx hb dX2_change_44 rfl ?_
    refine lv_iconst (v := iI (3)) hx hb dX2_change_45 rfl ?_
    refine lv_iload_n hx hb dX2_change_46 rfl (lv_at hl 3 rfl) ?_
    refine gi_iast (a := q29) (n := 5) (f := fu (fu (fu (fun _ => 0) 0 (1)) 1 (1)) 2 (v0)) hx hb hK hP hD hS 7 0 rfl rfl (by omega) (by omega) (by decide) dX2_change_47 (fun H locs hP hD hS => ?_)
    have hP : va_P D vwCl (MW cI d σ ++ [(q29, aI cI 5 (fu (fu (fu (fu (fun _ => 0) 0 (1)) 1 (1)) 2 (v0)) 3 (i0)))]) H := hP
    have hD : va_D A (MW cI d σ ++ [(q29, aI cI 5 (fu (fu (fu (fu (fun _ => 0) 0 (1)) 1 (1)) 2 (v0)) 3 (i0)))]) := hD
    refine lv_dup hx hb dX2_change_48 rfl ?_
    refine lv_iconst (v := iI (4)) hx hb dX2_change_49 rfl ?_
    refine lv_iconst (v := iI (0)) hx hb dX2_change_50 rfl ?_
    refine gi_iast (a := q29) (n := 5) (f := fu (fu (fu (fu (fun _ => 0) 0 (1)) 1 (1)) 2 (v0)) 3 (i0)) hx hb hK hP hD hS 7 0 rfl rfl (by omega) (by omega) (by decide) dX2_change_51 (fun H locs hP hD hS => ?_)
    have hP : va_P D vwCl (MW cI d σ ++ [(q29, aI cI 5 (fu (fu (fu (fu (fu (fun _ => 0) 0 (1)) 1 (1)) 2 (v0)) 3 (i0)) 4 (0)))]) H := hP
    have hD : va_D A (MW cI d σ ++ [(q29, aI cI 5 (fu (fu (fu (fu (fu (fun _ => 0) 0 (1)) 1 (1)) 2 (v0)) 3 (i0)) 4 (0)))]) := hD
    refine lv_astore (lv' := [(5, .ref (q29)), (0, .ref (d 0)), (1, .int (iI (k0))), (2, .int (iI (w0))), (3, .int (iI (i0))), (4, .int (iI (v0)))]) hx hb dX2_change_52 hl (by decide) rfl (fun ls hl => ?_)
    refine lv_aload hx hb dX2_change_54 (lv_at hl 0 rfl) ?_
    refine lv_iconst (v := iI (0)) hx hb dX2_change_56 rfl ?_
    refine lv_aload_n hx hb dX2_change_57 rfl (lv_at hl 1 rfl) ?_
    refine va_get (D := D) (ci := 2) (v := .ref (d 4)) (C := RX2) (T := TX2) (N := 8) hx hb hts hinX2 hown hK hP 0 rfl rfl 4 (by decide) (hts (.fieldLink RX2 19 "TwinOrchardModel" "trees" "[I") (List.mem_of_getElem? (i := 2) rfl)) (fun _ h9 => h9) rfl dX2_change_58 ?_
    refine lv_iconst (v := iI (5)) hx hb dX2_change_61 rfl ?_
    refine lv_iload_n hx hb dX2_change_62 rfl (lv_at hl 2 rfl) ?_
    refine gi_mul hx hb dX2_change_63 ?_
    refine lv_iconst (v := iI (5)) hx hb dX2_change_64 rfl ?_
    refine gi_copyi (f := fu (fu (fu (fu (fu (fun _ => 0) 0 (1)) 1 (1)) 2 (v0)) 3 (i0)) 4 (0)) (g := σ 3) (n0 := 5) (n1 := 200) hx hb (hml.trans hl.1.symm) hown (hts _ (List.mem_of_getElem? (i := 3) rfl)) (hts _ (List.mem_of_getElem? (i := 4) rfl)) (hts _ (List.mem_of_getElem? (i := 5) rfl)) (hts _ (List.mem_of_getElem? (i := 6) rfl)) hK hP hD hS 7 4 0 0 rfl rfl rfl rfl (by omega) (by omega) (by omega) (by omega) (by omega) (by decide) (Nat.le_of_ble_eq_true rfl) (Nat.le_of_ble_eq_true rfl) dX2_change_65 (fun H locs hP hD hS => ?_)
    have hP : va_P D vwCl (MW cI d (sr σ 3 (icpy (fu (fu (fu (fu (fu (fun _ => 0) 0 (1)) 1 (1)) 2 (v0)) 3 (i0)) 4 (0)) (σ 3) 0 (5 * k0) 5)) ++ [(q29, aI cI 5 (fu (fu (fu (fu (fu (fun _ => 0) 0 (1)) 1 (1)) 2 (v0)) 3 (i0)) 4 (0)))]) H := hP
    have hD : va_D A (MW cI d (sr σ 3 (icpy (fu (fu (fu (fu (fu (fun _ => 0) 0 (1)) 1 (1)) 2 (v0)) 3 (i0)) 4 (0)) (σ 3) 0 (5 * k0) 5)) ++ [(q29, aI cI 5 (fu (fu (fu (fu (fu (fun _ => 0) 0 (1)) 1 (1)) 2 (v0)) 3 (i0)) 4 (0)))]) := hD
    refine lv_goto (tgt := 146) hx hb dX2_change_68 (by decide) ?_
    have es : (mChg σ k0 w0 i0 v0) = (sr σ 3 (icpy (fu (fu (fu (fu (fu (fun _ => 0) 0 (1)) 1 (1)) 2 (v0)) 3 (i0)) 4 (0)) (σ 3) 0 (5 * k0) 5)) := by first | (unfold mChg; rw [if_pos (by omega)]; try rfl; done) | (unfold mChg; rw [if_neg (by omega), if_pos (by omega)]; try rfl; done) | (unfold mChg; rw [if_neg (by omega), if_neg (by omega), if_pos (by omega)]; try rfl; done) | (rw [iq, show i = 5 by omega]; unfold mChg; rw [if_neg (by omega), if_neg (by omega), if_neg (by omega)])
    exact g_vret (wo := (fun κ' => MW cI d (mChg σ k0 w0 i0 v0))) (kr := (fun _ => True)) (rv := (fun _ => none)) hx hb hr hlocks (fun _ _ => 0) (by rw [es]; exact g_left hP) hK (by rw [es]; exact g_Dleft hD) hS trivial rfl (Nat.le_of_ble_eq_true rfl) (Nat.le_of_ble_eq_true rfl) dX2_change_146
  rcases Int.decEq w0 1 with c1_1 | c1_1
  rotate_left
  · skip
    refine gi_tableIn (tgt := 71) hx hb dX2_change_1 ⟨by omega, by omega⟩ 1 c1_1 (by decide) (by decide) rfl (by decide) ?_
    refine lv_aload_n hx hb dX2_change_71 rfl (lv_at hl 0 rfl) ?_
    refine lv_iload_n hx hb dX2_change_72 rfl (lv_at hl 1 rfl) ?_
    refine lv_iconst (v := iI (1)) hx hb dX2_change_73 rfl ?_
    refine lv_aload_n hx hb dX2_change_74 rfl (lv_at hl 0 rfl) ?_
    refine lv_iload_n hx hb dX2_change_75 rfl (lv_at hl 1 rfl) ?_
    refine lv_iconst (v := iI (1)) hx hb dX2_change_76 rfl ?_
    have hPc : va_P D vwCl (MW cI d σ ++ []) H := by rw [List.append_nil]; exact hP
    have hDc : va_D A (MW cI d σ ++ []) := by rw [List.append_nil]; exact hD
    refine g_call (va_runV (As := [.int (iI (k0)), .int (iI (1))]) (rest := [.int (iI (1)), .int (iI (k0)), .ref (d 0)]) S ((kX2_tr l D cI cZ cQ d σ k0 1 (by first | assumption | omega) (by first | assumption | omega) (by first | assumption | omega) (by first | assumption | omega)) H.size) (cwV 2 hts gX2_change_X2_tr rfl rfl rfl (by decide +kernel) ⟨Nat.le_of_ble_eq_true rfl, Nat.le_of_ble_eq_true rfl⟩) (g_preV gEx_t hK [0, 1, 2] rfl hPc hDc (fun _ _ _ => trivial) (q0 := 0) (ci := 2) rfl rfl rfl) rfl rfl hl.1 rfl (lv_room (Nat.le_of_ble_eq_true rfl)) dX2_change_77 ⟨Nat.le_of_ble_eq_true rfl, Nat.le_of_ble_eq_true rfl⟩) hPc hDc hS hA (fun κ9 H locs hk hP hD hS => ?_)
    have hP : va_P D vwCl (MW cI d σ) H := by have h9 : va_P D vwCl (MW cI d σ ++ []) H := hP; rw [List.append_nil] at h9; exact h9
    have hD : va_D A (MW cI d σ) := by have h9 : va_D A (MW cI d σ ++ []) := hD; rw [List.append_nil] at h9; exact h9
    show W p l e ({ frames := 1, cells := 1, slots := 5, locals := 40 } : Room) s m args below meth c H locs 0 0 (MQ below (gQ D (tyMs cI cZ cQ) (fun κ' => MW cI d (mChg σ k0 w0 i0 v0)) A (fun _ => none) (fun _ => True)) args s 1 5 A) (F0 m 80 ls [.int (iI (σ 3 (5 * k0 + 1))), .int (iI (1)), .int (iI (k0)), .ref (d 0)])
    refine lv_iload_n hx hb dX2_change_80 rfl (lv_at hl 3 rfl) ?_
    refine gi_sub hx hb dX2_change_81 ?_
    have hPc : va_P D vwCl (MW cI d σ ++ []) H := by rw [List.append_nil]; exact hP
    have hDc : va_D A (MW cI d σ ++ []) := by rw [List.append_nil]; exact hD
    refine g_call (va_runV (As := [.int (iI (k0)), .int (iI (1)), .int (iI ((σ 3 (5 * k0 + 1)) - i0))]) (rest := []) S ((kX2_set l D cI cZ cQ d σ k0 1 ((σ 3 (5 * k0 + 1)) - i0) (by first | assumption | omega) (by first | assumption | omega) (by first | assumption | omega) (by first | assumption | omega)) H.size) (cwV 3 hts gX2_change_X2_set rfl rfl rfl (by decide +kernel) ⟨Nat.le_of_ble_eq_true rfl, Nat.le_of_ble_eq_true rfl⟩) (g_preV gEx_t hK [0, 1, 2] rfl hPc hDc (fun _ _ _ => trivial) (q0 := 0) (ci := 2) rfl rfl rfl) rfl rfl hl.1 rfl (lv_room (Nat.le_of_ble_eq_true rfl)) dX2_change_82 ⟨Nat.le_of_ble_eq_true rfl, Nat.le_of_ble_eq_true rfl⟩) hPc hDc hS hA (fun κ9 H locs hk hP hD hS => ?_)
    have hP : va_P D vwCl (MW cI d (su σ 3 (5 * k0 + 1) ((σ 3 (5 * k0 + 1)) - i0))) H := by have h9 : va_P D vwCl (MW cI d (su σ 3 (5 * k0 + 1) ((σ 3 (5 * k0 + 1)) - i0)) ++ []) H := hP; rw [List.append_nil] at h9; exact h9
    have hD : va_D A (MW cI d (su σ 3 (5 * k0 + 1) ((σ 3 (5 * k0 + 1)) - i0))) := by have h9 : va_D A (MW cI d (su σ 3 (5 * k0 + 1) ((σ 3 (5 * k0 + 1)) - i0)) ++ []) := hD; rw [List.append_nil] at h9; exact h9
    show W p l e ({ frames := 1, cells := 1, slots := 5, locals := 40 } : Room) s m args below meth c H locs 0 0 (MQ below (gQ D (tyMs cI cZ cQ) (fun κ' => MW cI d (mChg σ k0 w0 i0 v0)) A (fun _ => none) (fun _ => True)) args s 1 5 A) (F0 m 85 ls [])
    refine lv_aload_n hx hb dX2_change_85 rfl (lv_at hl 0 rfl) ?_
    refine lv_iload_n hx hb dX2_change_86 rfl (lv_at hl 1 rfl) ?_
    refine lv_iconst (v := iI (4)) hx hb dX2_change_87 rfl ?_
    refine lv_iconst (v := iI (0)) hx hb dX2_change_88 rfl ?_
    have hPc : va_P D vwCl (MW cI d (su σ 3 (5 * k0 + 1) ((σ 3 (5 * k0 + 1)) - i0)) ++ []) H := by rw [List.append_nil]; exact hP
    have hDc : va_D A (MW cI d (su σ 3 (5 * k0 + 1) ((σ 3 (5 * k0 + 1)) - i0)) ++ []) := by rw [List.append_nil]; exact hD
    refine g_call (va_runV (As := [.int (iI (k0)), .int (iI (4)), .int (iI (0))]) (rest := []) S ((kX2_set l D cI cZ cQ d (su σ 3 (5 * k0 + 1) ((σ 3 (5 * k0 + 1)) - i0)) k0 4 0 (by first | assumption | omega) (by first | assumption | omega) (by first | assumption | omega) (by first | assumption | omega)) H.size) (cwV 3 hts gX2_change_X2_set rfl rfl rfl (by decide +kernel) ⟨Nat.le_of_ble_eq_true rfl, Nat.le_of_ble_eq_true rfl⟩) (g_preV gEx_t hK [0, 1, 2] rfl hPc hDc (fun _ _ _ => trivial) (q0 := 0) (ci := 2) rfl rfl rfl) rfl rfl hl.1 rfl (lv_room (Nat.le_of_ble_eq_true rfl)) dX2_change_89 ⟨Nat.le_of_ble_eq_true rfl, Nat.le_of_ble_eq_true rfl⟩) hPc hDc hS hA (fun κ9 H locs hk hP hD hS => ?_)
    have hP : va_P D vwCl (MW cI d (su (su σ 3 (5 * k0 + 1) ((σ 3 (5 * k0 + 1)) - i0)) 3 (5 * k0 + 4) 0)) H := by have h9 : va_P D vwCl (MW cI d (su (su σ 3 (5 * k0 + 1) ((σ 3 (5 * k0 + 1)) - i0)) 3 (5 * k0 + 4) 0) ++ []) H := hP; rw [List.append_nil] at h9; exact h9
    have hD : va_D A (MW cI d (su (su σ 3 (5 * k0 + 1) ((σ 3 (5 * k0 + 1)) - i0)) 3 (5 * k0 + 4) 0)) := by have h9 : va_D A (MW cI d (su (su σ 3 (5 * k0 + 1) ((σ 3 (5 * k0 + 1)) - i0)) 3 (5 * k0 + 4) 0) ++ []) := hD; rw [List.append_nil] at h9; exact h9
    show W p l e ({ frames := 1, cells := 1, slots := 5, locals := 40 } : Room) s m args below meth c H locs 0 0 (MQ below (gQ D (tyMs cI cZ cQ) (fun κ' => MW cI d (mChg σ k0 w0 i0 v0)) A (fun _ => none) (fun _ => True)) args s 1 5 A) (F0 m 92 ls [])
    refine lv_goto (tgt := 146) hx hb dX2_change_92 (by decide) ?_
    have es : (mChg σ k0 w0 i0 v0) = (su (su σ 3 (5 * k0 + 1) ((σ 3 (5 * k0 + 1)) - i0)) 3 (5 * k0 + 4) 0) := by first | (unfold mChg; rw [if_pos (by omega)]; try rfl; done) | (unfold mChg; rw [if_neg (by omega), if_pos (by omega)]; try rfl; done) | (unfold mChg; rw [if_neg (by omega), if_neg (by omega), if_pos (by omega)]; try rfl; done) | (rw [iq, show i = 5 by omega]; unfold mChg; rw [if_neg (by omega), if_neg (by omega), if_neg (by omega)])
    exact g_vret (wo := (fun κ' => MW cI d (mChg σ k0 w0 i0 v0))) (kr := (fun _ => True)) (rv := (fun _ => none)) hx hb hr hlocks (fun _ _ => 0) (by rw [es]; exact hP) hK (by rw [es]; exact hD) hS trivial rfl (Nat.le_of_ble_eq_true rfl) (Nat.le_of_ble_eq_true rfl) dX2_change_146
  rcases Int.decEq w0 2 with c1_2 | c1_2
  rotate_left
  · skip
    refine gi_tableIn (tgt := 95) hx hb dX2_change_1 ⟨by omega, by omega⟩ 2 c1_2 (by decide) (by decide) rfl (by decide) ?_
    refine lv_aload_n hx hb dX2_change_95 rfl (lv_at hl 0 rfl) ?_
    refine lv_iload_n hx hb dX2_change_96 rfl (lv_at hl 1 rfl) ?_
    refine lv_iconst (v := iI (3)) hx hb dX2_change_97 rfl ?_
    refine lv_iload_n hx hb dX2_change_98 rfl (lv_at hl 3 rfl) ?_
    have hPc : va_P D vwCl (MW cI d σ ++ []) H := by rw [List.append_nil]; exact hP
    have hDc : va_D A (MW cI d σ ++ []) := by rw [List.append_nil]; exact hD
    refine g_call (va_runV (As := [.int (iI (k0)), .int (iI (3)), .int (iI (i0))]) (rest := []) S ((kX2_set l D cI cZ cQ d σ k0 3 i0 (by first | assumption | omega) (by first | assumption | omega) (by first | assumption | omega) (by first | assumption | omega)) H.size) (cwV 3 hts gX2_change_X2_set rfl rfl rfl (by decide +kernel) ⟨Nat.le_of_ble_eq_true rfl, Nat.le_of_ble_eq_true rfl⟩) (g_preV gEx_t hK [0, 1, 2] rfl hPc hDc (fun _ _ _ => trivial) (q0 := 0) (ci := 2) rfl rfl rfl) rfl rfl hl.1 rfl (lv_room (Nat.le_of_ble_eq_true rfl)) dX2_change_99 ⟨Nat.le_of_ble_eq_true rfl, Nat.le_of_ble_eq_true rfl⟩) hPc hDc hS hA (fun κ9 H locs hk hP hD hS => ?_)
    have hP : va_P D vwCl (MW cI d (su σ 3 (5 * k0 + 3) i0)) H := by have h9 : va_P D vwCl (MW cI d (su σ 3 (5 * k0 + 3) i0) ++ []) H := hP; rw [List.append_nil] at h9; exact h9
    have hD : va_D A (MW cI d (su σ 3 (5 * k0 + 3) i0)) := by have h9 : va_D A (MW cI d (su σ 3 (5 * k0 + 3) i0) ++ []) := hD; rw [List.append_nil] at h9; exact h9
    show W p l e ({ frames := 1, cells := 1, slots := 5, locals := 40 } : Room) s m args below meth c H locs 0 0 (MQ below (gQ D (tyMs cI cZ cQ) (fun κ' => MW cI d (mChg σ k0 w0 i0 v0)) A (fun _ => none) (fun _ => True)) args s 1 5 A) (F0 m 102 ls [])
    refine lv_aload_n hx hb dX2_change_102 rfl (lv_at hl 0 rfl) ?_
    refine lv_iload_n hx hb dX2_change_103 rfl (lv_at hl 1 rfl) ?_
    refine lv_iconst (v := iI (1)) hx hb dX2_change_104 rfl ?_
    refine lv_iconst (v := iI (1)) hx hb dX2_change_105 rfl ?_
    refine lv_aload_n hx hb dX2_change_106 rfl (lv_at hl 0 rfl) ?_
    refine lv_iload_n hx hb dX2_change_107 rfl (lv_at hl 1 rfl) ?_
    refine lv_iconst (v := iI (1)) hx hb dX2_change_108 rfl ?_
    have hPc : va_P D vwCl (MW cI d (su σ 3 (5 * k0 + 3) i0) ++ []) H := by rw [List.append_nil]; exact hP
    have hDc : va_D A (MW cI d (su σ 3 (5 * k0 + 3) i0) ++ []) := by rw [List.append_nil]; exact hD
    refine g_call (va_runV (As := [.int (iI (k0)), .int (iI (1))]) (rest := [.int (iI (1)), .int (iI (1)), .int (iI (k0)), .ref (d 0)]) S ((kX2_tr l D cI cZ cQ d (su σ 3 (5 * k0 + 3) i0) k0 1 (by first | assumption | omega) (by first | assumption | omega) (by first | assumption | omega) (by first | assumption | omega)) H.size) (cwV 2 hts gX2_change_X2_tr rfl rfl rfl (by decide +kernel) ⟨Nat.le_of_ble_eq_true rfl, Nat.le_of_ble_eq_true rfl⟩) (g_preV gEx_t hK [0, 1, 2] rfl hPc hDc (fun _ _ _ => trivial) (q0 := 0) (ci := 2) rfl rfl rfl) rfl rfl hl.1 rfl (lv_room (Nat.le_of_ble_eq_true rfl)) dX2_change_109 ⟨Nat.le_of_ble_eq_true rfl, Nat.le_of_ble_eq_true rfl⟩) hPc hDc hS hA (fun κ9 H locs hk hP hD hS => ?_)
    have hP : va_P D vwCl (MW cI d (su σ 3 (5 * k0 + 3) i0)) H := by have h9 : va_P D vwCl (MW cI d (su σ 3 (5 * k0 + 3) i0) ++ []) H := hP; rw [List.append_nil] at h9; exact h9
    have hD : va_D A (MW cI d (su σ 3 (5 * k0 + 3) i0)) := by have h9 : va_D A (MW cI d (su σ 3 (5 * k0 + 3) i0) ++ []) := hD; rw [List.append_nil] at h9; exact h9
    show W p l e ({ frames := 1, cells := 1, slots := 5, locals := 40 } : Room) s m args below meth c H locs 0 0 (MQ below (gQ D (tyMs cI cZ cQ) (fun κ' => MW cI d (mChg σ k0 w0 i0 v0)) A (fun _ => none) (fun _ => True)) args s 1 5 A) (F0 m 112 ls [.int (iI ((su σ 3 (5 * k0 + 3) i0) 3 (5 * k0 + 1))), .int (iI (1)), .int (iI (1)), .int (iI (k0)), .ref (d 0)])
    rw [show ((su σ 3 (5 * k0 + 3) i0) 3 (5 * k0 + 1) : Int) = (σ 3 (5 * k0 + 1)) from by exact fu_n _ _ (by omega)]
    refine lv_iconst (v := iI (2)) hx hb dX2_change_112 rfl ?_
    refine gi_div hx hb ⟨by omega, by omega⟩ ⟨by omega, by omega⟩ dX2_change_113 ?_
    refine gi_max hx hb (hml.trans hl.1.symm) hown (hts _ (List.mem_of_getElem? (i := 7) rfl)) (hts _ (List.mem_of_getElem? (i := 8) rfl)) (hts _ (List.mem_of_getElem? (i := 9) rfl)) (hts _ (List.mem_of_getElem? (i := 10) rfl)) (Nat.le_of_ble_eq_true rfl) (Nat.le_of_ble_eq_true rfl) (Nat.le_of_ble_eq_true rfl) (Nat.le_of_ble_eq_true rfl) ⟨by decide, by decide⟩ ⟨by omega, by omega⟩ dX2_change_114 ?_
    have hPc : va_P D vwCl (MW cI d (su σ 3 (5 * k0 + 3) i0) ++ []) H := by rw [List.append_nil]; exact hP
    have hDc : va_D A (MW cI d (su σ 3 (5 * k0 + 3) i0) ++ []) := by rw [List.append_nil]; exact hD
    refine g_call (va_runV (As := [.int (iI (k0)), .int (iI (1)), .int (iI (max 1 ((σ 3 (5 * k0 + 1)) / 2)))]) (rest := []) S ((kX2_set l D cI cZ cQ d (su σ 3 (5 * k0 + 3) i0) k0 1 (max 1 ((σ 3 (5 * k0 + 1)) / 2)) (by first | assumption | omega) (by first | assumption | omega) (by first | assumption | omega) (by first | assumption | omega)) H.size) (cwV 3 hts gX2_change_X2_set rfl rfl rfl (by decide +kernel) ⟨Nat.le_of_ble_eq_true rfl, Nat.le_of_ble_eq_true rfl⟩) (g_preV gEx_t hK [0, 1, 2] rfl hPc hDc (fun _ _ _ => trivial) (q0 := 0) (ci := 2) rfl rfl rfl) rfl rfl hl.1 rfl (lv_room (Nat.le_of_ble_eq_true rfl)) dX2_change_117 ⟨Nat.le_of_ble_eq_true rfl, Nat.le_of_ble_eq_true rfl⟩) hPc hDc hS hA (fun κ9 H locs hk hP hD hS => ?_)
    have hP : va_P D vwCl (MW cI d (su (su σ 3 (5 * k0 + 3) i0) 3 (5 * k0 + 1) (max 1 ((σ 3 (5 * k0 + 1)) / 2)))) H := by have h9 : va_P D vwCl (MW cI d (su (su σ 3 (5 * k0 + 3) i0) 3 (5 * k0 + 1) (max 1 ((σ 3 (5 * k0 + 1)) / 2))) ++ []) H := hP; rw [List.append_nil] at h9; exact h9
    have hD : va_D A (MW cI d (su (su σ 3 (5 * k0 + 3) i0) 3 (5 * k0 + 1) (max 1 ((σ 3 (5 * k0 + 1)) / 2)))) := by have h9 : va_D A (MW cI d (su (su σ 3 (5 * k0 + 3) i0) 3 (5 * k0 + 1) (max 1 ((σ 3 (5 * k0 + 1)) / 2))) ++ []) := hD; rw [List.append_nil] at h9; exact h9
    show W p l e ({ frames := 1, cells := 1, slots := 5, locals := 40 } : Room) s m args below meth c H locs 0 0 (MQ below (gQ D (tyMs cI cZ cQ) (fun κ' => MW cI d (mChg σ k0 w0 i0 v0)) A (fun _ => none) (fun _ => True)) args s 1 5 A) (F0 m 120 ls [])
    refine lv_goto (tgt := 146) hx hb dX2_change_120 (by decide) ?_
    have es : (mChg σ k0 w0 i0 v0) = (su (su σ 3 (5 * k0 + 3) i0) 3 (5 * k0 + 1) (max 1 ((σ 3 (5 * k0 + 1)) / 2))) := by first | (unfold mChg; rw [if_pos (by omega)]; try rfl; done) | (unfold mChg; rw [if_neg (by omega), if_pos (by omega)]; try rfl; done) | (unfold mChg; rw [if_neg (by omega), if_neg (by omega), if_pos (by omega)]; try rfl; done) | (rw [iq, show i = 5 by omega]; unfold mChg; rw [if_neg (by omega), if_neg (by omega), if_neg (by omega)])
    exact g_vret (wo := (fun κ' => MW cI d (mChg σ k0 w0 i0 v0))) (kr := (fun _ => True)) (rv := (fun _ => none)) hx hb hr hlocks (fun _ _ => 0) (by rw [es]; exact hP) hK (by rw [es]; exact hD) hS trivial rfl (Nat.le_of_ble_eq_true rfl) (Nat.le_of_ble_eq_true rfl) dX2_change_146
  refine gi_tableOut (tgt := 123) hx hb dX2_change_1 ⟨by omega, by omega⟩ (by omega) (by decide) ?_
  refine lv_iconst (v := iI (0)) hx hb dX2_change_123 rfl ?_
  refine lv_istore (lv' := [(6, .int (iI (0))), (0, .ref (d 0)), (1, .int (iI (k0))), (2, .int (iI (w0))), (3, .int (iI (i0))), (4, .int (iI (v0)))]) hx hb dX2_change_124 hl (by decide) rfl (fun ls hl => ?_)
  have loop126 : ∀ (n126 : Nat) (i : Int) (σ_126 : St), (0 ≤ i) → (i ≤ 5) → (5 - i < (n126 : Int)) → (σ_126 = felU σ k0 i) → ∀ (H : Heap) (locs : List Loc) (ls : Array Slot), va_P D vwCl (MW cI d σ_126) H → va_D A (MW cI d σ_126) → va_S A s.heap H locs → lv_has ls 7 [(6, .int (iI (i))), (0, .ref (d 0)), (1, .int (iI (k0))), (2, .int (iI (w0))), (3, .int (iI (i0))), (4, .int (iI (v0)))] → W p l e ({ frames := 1, cells := 1, slots := 5, locals := 40 } : Room) s m args below meth c H locs 0 0 (MQ below (gQ D (tyMs cI cZ cQ) (fun κ' => MW cI d (mChg σ k0 w0 i0 v0)) A (fun _ => none) (fun _ => True)) args s 1 5 A) (F0 m 126 ls []) := by
    intro n126
    induction n126 with
    | zero =>
      intro i σ_126 hlo126 hhi126 hm126
      omega
    | succ n126 ih126 =>
      intro i σ_126 hlo126 hhi126 hm126 iq H locs ls hP hD hS hl
      refine lv_iload hx hb dX2_change_126 (lv_at hl 0 rfl) ?_
      refine lv_iconst (v := iI (5)) hx hb dX2_change_128 rfl ?_
      refine gi_icmp_ge (tgt := 146) hx hb dX2_change_129 (by decide) ⟨by omega, by omega⟩ ⟨by decide, by decide⟩ (fun c129 => ?_) (fun c129 => ?_)
      · skip
        have es : (mChg σ k0 w0 i0 v0) = (σ_126) := by first | (unfold mChg; rw [if_pos (by omega)]; try rfl; done) | (unfold mChg; rw [if_neg (by omega), if_pos (by omega)]; try rfl; done) | (unfold mChg; rw [if_neg (by omega), if_neg (by omega), if_pos (by omega)]; try rfl; done) | (rw [iq, show i = 5 by omega]; unfold mChg; rw [if_neg (by omega), if_neg (by omega), if_neg (by omega)])
        exact g_vret (wo := (fun κ' => MW cI d (mChg σ k0 w0 i0 v0))) (kr := (fun _ => True)) (rv := (fun _ => none)) hx hb hr hlocks (fun _ _ => 0) (by rw [es]; exact hP) hK (by rw [es]; exact hD) hS trivial rfl (Nat.le_of_ble_eq_true rfl) (Nat.le_of_ble_eq_true rfl) dX2_change_146
      · skip
        refine lv_aload_n hx hb dX2_change_132 rfl (lv_at hl 1 rfl) ?_
        refine lv_iload_n hx hb dX2_change_133 rfl (lv_at hl 2 rfl) ?_
        refine lv_iload hx hb dX2_change_134 (lv_at hl 0 rfl) ?_
        refine lv_iconst (v := iI (0)) hx hb dX2_change_136 rfl ?_
        have hPc : va_P D vwCl (MW cI d σ_126 ++ []) H := by rw [List.append_nil]; exact hP
        have hDc : va_D A (MW cI d σ_126 ++ []) := by rw [List.append_nil]; exact hD
        refine g_call (va_runV (As := [.int (iI (k0)), .int (iI (i)), .int (iI (0))]) (rest := []) S ((kX2_set l D cI cZ cQ d σ_126 k0 i 0 (by first | assumption | omega) (by first | assumption | omega) (by first | assumption | omega) (by first | assumption | omega)) H.size) (cwV 3 hts gX2_change_X2_set rfl rfl rfl (by decide +kernel) ⟨Nat.le_of_ble_eq_true rfl, Nat.le_of_ble_eq_true rfl⟩) (g_preV gEx_t hK [0, 1, 2] rfl hPc hDc (fun _ _ _ => trivial) (q0 := 0) (ci := 2) rfl rfl rfl) rfl rfl hl.1 rfl (lv_room (Nat.le_of_ble_eq_true rfl)) dX2_change_137 ⟨Nat.le_of_ble_eq_true rfl, Nat.le_of_ble_eq_true rfl⟩) hPc hDc hS hA (fun κ9 H locs hk hP hD hS => ?_)
        have hP : va_P D vwCl (MW cI d (su σ_126 3 (5 * k0 + i) 0)) H := by have h9 : va_P D vwCl (MW cI d (su σ_126 3 (5 * k0 + i) 0) ++ []) H := hP; rw [List.append_nil] at h9; exact h9
        have hD : va_D A (MW cI d (su σ_126 3 (5 * k0 + i) 0)) := by have h9 : va_D A (MW cI d (su σ_126 3 (5 * k0 + i) 0) ++ []) := hD; rw [List.append_nil] at h9; exact h9
        show W p l e ({ frames := 1, cells := 1, slots := 5, locals := 40 } : Room) s m args below meth c H locs 0 0 (MQ below (gQ D (tyMs cI cZ cQ) (fun κ' => MW cI d (mChg σ k0 w0 i0 v0)) A (fun _ => none) (fun _ => True)) args s 1 5 A) (F0 m 140 ls [])
        refine lv_iinc (v := iI (i + 1)) (lv' := [(6, .int (iI (i + 1))), (0, .ref (d 0)), (1, .int (iI (k0))), (2, .int (iI (w0))), (3, .int (iI (i0))), (4, .int (iI (v0)))]) hx hb dX2_change_140 hl (k := 0) rfl (iI_add _ _) (by decide) rfl (fun ls hl => ?_)
        refine lv_goto (tgt := 126) hx hb dX2_change_143 (by decide) ?_
        exact ih126 (i + 1) (su σ_126 3 (5 * k0 + i) 0) (by omega) (by omega) (by omega) (by rw [iq]; exact fel_s _ _ hlo126) H locs ls hP hD hS (lv_sub hl [0, 1, 2, 3, 4, 5] rfl)
  exact loop126 (((5 - (0) + 1 : Int)).toNat) 0 σ (by omega) (by omega) (by omega) (by exact fel_0 _ _) H locs ls hP hD hS (lv_sub hl [0, 1, 2, 3, 4, 5] rfl)
set_option maxHeartbeats 4000000 in
set_option maxRecDepth 100000 in
theorem kX2_does (l : Launch) (D : va_G) (cI cZ cQ : ClassId) (d : Nat → Nat) (σ : St)  (r0 : Int) (p0 : Int) (w0 : Int) (i0 : Int) (v0 : Int) (hr : 0 ≤ r0 ∧ r0 ≤ 4) (hp : 0 ≤ p0 ∧ p0 ≤ 7) (hw : 0 ≤ w0 ∧ w0 ≤ 3) (ha : mArg w0 i0 v0) (hl_i0 : -2147483648 ≤ i0) (hh_i0 : i0 ≤ 2147483647) (hwf : mWF σ) : gMet l yX2_does wsX2_does ({ frames := 2, cells := 1, slots := 5, locals := 66 } : Room) D (tyMs cI cZ cQ) (MW cI d σ) [.ref (d 0), .int (iI r0), .int (iI p0), .int (iI w0), .int (iI i0), .int (iI v0)] (mEx (MW cI d σ)) (fun _ => some (.int (iI (mDoA σ r0 p0 w0 i0)))) (fun _ => True) (fun κ' => MW cI d (mDo σ r0 p0 w0 i0 v0)) := by
  refine g_startM (cc := cX2_does) (maxL := 8) (ret := (some .boolean)) (by decide) rfl (Nat.le_of_ble_eq_true rfl) ?_
  intro p e s m args below meth c A ls H locs S hr hlocks hname hP hK hD hA hS hE hl
  have S0 := S
  obtain ⟨hx, hb, hml, hown, hts⟩ := S0
  have hl : lv_has ls 8 [(0, .ref (d 0)), (1, .int (iI (r0))), (2, .int (iI (p0))), (3, .int (iI (w0))), (4, .int (iI (i0))), (5, .int (iI (v0)))] := hl
  have hinX2 : ∀ w ∈ wsX20, w ∈ wsX2_does := by decide +kernel
  obtain ⟨⟨t9, hZ9, hT9⟩, hAO9, hCl9⟩ := id hE
  have k5 := mWF_5 hwf (t := p0 / 4) (by omega) (by omega)
  have kc := cst_in w0
  have kn := mCan_in σ (8 * r0 + p0) w0 i0
  refine lv_iload_n hx hb dX2_does_0 rfl (lv_at hl 2 rfl) ?_
  refine lv_iconst (v := iI (4)) hx hb dX2_does_1 rfl ?_
  refine gi_div hx hb ⟨by omega, by omega⟩ ⟨by omega, by omega⟩ dX2_does_2 ?_
  refine lv_istore (lv' := [(6, .int (iI (p0 / 4))), (0, .ref (d 0)), (1, .int (iI (r0))), (2, .int (iI (p0))), (3, .int (iI (w0))), (4, .int (iI (i0))), (5, .int (iI (v0)))]) hx hb dX2_does_3 hl (by decide) rfl (fun ls hl => ?_)
  refine lv_bipush (v := iI (8)) hx hb dX2_does_5 rfl ?_
  refine lv_iload_n hx hb dX2_does_7 rfl (lv_at hl 2 rfl) ?_
  refine gi_mul hx hb dX2_does_8 ?_
  refine lv_iload_n hx hb dX2_does_9 rfl (lv_at hl 3 rfl) ?_
  refine gi_add hx hb dX2_does_10 ?_
  refine lv_istore (lv' := [(7, .int (iI ((8 * r0) + p0))), (6, .int (iI (p0 / 4))), (0, .ref (d 0)), (1, .int (iI (r0))), (2, .int (iI (p0))), (3, .int (iI (w0))), (4, .int (iI (i0))), (5, .int (iI (v0)))]) hx hb dX2_does_11 hl (by decide) rfl (fun ls hl => ?_)
  refine lv_aload_n hx hb dX2_does_13 rfl (lv_at hl 2 rfl) ?_
  refine va_get (D := D) (ci := 2) (v := .ref (d 6)) (C := RX2) (T := TX2) (N := 8) hx hb hts hinX2 hown hK hP 0 rfl rfl 6 (by decide) (hts (.fieldLink RX2 25 "TwinOrchardModel" "numbers" "[I") (List.mem_of_getElem? (i := 1) rfl)) (fun _ h9 => h9) rfl dX2_does_14 ?_
  refine lv_iload hx hb dX2_does_17 (lv_at hl 1 rfl) ?_
  refine gi_iald (a := d 6) (n := 3) (f := σ 5) hx hb hK hP 6 0 rfl rfl (by omega) (by omega) (by decide) dX2_does_19 ?_
  refine va_gets (v := .ref t9) hx hb hZ9 hS hown (hts (.fieldLink RX2 63 "TwinOrchardModel" "COSTS" "[I") (List.mem_of_getElem? (i := 2) rfl)) (fun _ h9 => h9) dX2_does_20 ?_
  refine lv_iload_n hx hb dX2_does_23 rfl (lv_at hl 5 rfl) ?_
  refine gi_cost hx hb hT9 hS (by omega) (by omega) dX2_does_24 ?_
  refine gi_icmp_lt (tgt := 40) hx hb dX2_does_25 (by decide) ⟨by omega, by omega⟩ ⟨by omega, by omega⟩ (fun c25 => ?_) (fun c25 => ?_)
  · skip
    refine lv_iconst (v := iI (0)) hx hb dX2_does_40 rfl ?_
    have es : (mDo σ r0 p0 w0 i0 v0) = (σ) := by unfold mDo; first | (rw [if_neg (by omega)]; done) | (rw [if_pos (by omega)]; try rfl; done)
    have er : ((mDoA σ r0 p0 w0 i0 : Int)) = (0) := by unfold mDoA; first | (rw [bI_t (by omega)]; done) | (rw [bI_f (by omega)]; done)
    exact g_iret (wo := (fun κ' => MW cI d (mDo σ r0 p0 w0 i0 v0))) (kr := (fun _ => True)) (rv := (fun _ => some (.int (iI (mDoA σ r0 p0 w0 i0))))) hx hb hr hlocks (fun _ _ => 0) (nar_z (Or.inl rfl)) (by rw [es]; exact hP) hK (by rw [es]; exact hD) hS trivial (by rw [er]) (Nat.le_of_ble_eq_true rfl) (Nat.le_of_ble_eq_true rfl) dX2_does_41
  · skip
    refine lv_aload_n hx hb dX2_does_28 rfl (lv_at hl 2 rfl) ?_
    refine lv_iload hx hb dX2_does_29 (lv_at hl 0 rfl) ?_
    refine lv_iload_n hx hb dX2_does_31 rfl (lv_at hl 5 rfl) ?_
    refine lv_iload hx hb dX2_does_32 (lv_at hl 6 rfl) ?_
    have hPc : va_P D vwCl (MW cI d σ ++ []) H := by rw [List.append_nil]; exact hP
    have hDc : va_D A (MW cI d σ ++ []) := by rw [List.append_nil]; exact hD
    refine g_call (va_runV (As := [.int (iI ((8 * r0) + p0)), .int (iI (w0)), .int (iI (i0))]) (rest := []) S ((kX2_can l D cI cZ cQ d σ ((8 * r0) + p0) w0 i0 (by first | assumption | omega) (by first | assumption | omega) (by first | assumption | omega) (by first | assumption | omega) (by first | assumption | omega) (by first | assumption | omega) (by first | assumption | omega)) H.size) (cwV 3 hts gX2_does_X2_can rfl rfl rfl (by decide +kernel) ⟨Nat.le_of_ble_eq_true rfl, Nat.le_of_ble_eq_true rfl⟩) (g_preV gEx_t hK [0, 1, 2] rfl hPc hDc (fun _ _ _ => trivial) (q0 := 0) (ci := 2) rfl rfl rfl) rfl rfl hl.1 rfl (lv_room (Nat.le_of_ble_eq_true rfl)) dX2_does_34 ⟨Nat.le_of_ble_eq_true rfl, Nat.le_of_ble_eq_true rfl⟩) hPc hDc hS hA (fun κ9 H locs hk hP hD hS => ?_)
    have hP : va_P D vwCl (MW cI d σ) H := by have h9 : va_P D vwCl (MW cI d σ ++ []) H := hP; rw [List.append_nil] at h9; exact h9
    have hD : va_D A (MW cI d σ) := by have h9 : va_D A (MW cI d σ ++ []) := hD; rw [List.append_nil] at h9; exact h9
    show W p l e ({ frames := 2, cells := 1, slots := 5, locals := 66 } : Room) s m args below meth c H locs 0 0 (MQ below (gQ D (tyMs cI cZ cQ) (fun κ' => MW cI d (mDo σ r0 p0 w0 i0 v0)) A (fun _ => some (.int (iI (mDoA σ r0 p0 w0 i0)))) (fun _ => True)) args s 1 5 A) (F0 m 37 ls [.int (iI (mCan σ ((8 * r0) + p0) w0 i0))])
    refine gi_if_ne (tgt := 42) hx hb dX2_does_37 (by decide) ⟨by omega, by omega⟩ (fun c37 => ?_) (fun c37 => ?_)
    · skip
      refine lv_aload_n hx hb dX2_does_42 rfl (lv_at hl 2 rfl) ?_
      refine va_get (D := D) (ci := 2) (v := .ref (d 6)) (C := RX2) (T := TX2) (N := 8) hx hb hts hinX2 hown hK hP 0 rfl rfl 6 (by decide) (hts (.fieldLink RX2 25 "TwinOrchardModel" "numbers" "[I") (List.mem_of_getElem? (i := 1) rfl)) (fun _ h9 => h9) rfl dX2_does_43 ?_
      refine lv_iload hx hb dX2_does_46 (lv_at hl 1 rfl) ?_
      refine lv_dup2_11 hx hb dX2_does_48 rfl rfl ?_
      refine gi_iald (a := d 6) (n := 3) (f := σ 5) hx hb hK hP 6 0 rfl rfl (by omega) (by omega) (by decide) dX2_does_49 ?_
      refine va_gets (v := .ref t9) hx hb hZ9 hS hown (hts (.fieldLink RX2 63 "TwinOrchardModel" "COSTS" "[I") (List.mem_of_getElem? (i := 2) rfl)) (fun _ h9 => h9) dX2_does_50 ?_
      refine lv_iload_n hx hb dX2_does_53 rfl (lv_at hl 5 rfl) ?_
      refine gi_cost hx hb hT9 hS (by omega) (by omega) dX2_does_54 ?_
      refine gi_sub hx hb dX2_does_55 ?_
      refine gi_iast (a := d 6) (n := 3) (f := σ 5) hx hb hK hP hD hS 6 0 rfl rfl (by omega) (by omega) (by decide) dX2_does_56 (fun H locs hP hD hS => ?_)
      have hP : va_P D vwCl (MW cI d (su σ 5 (p0 / 4) ((σ 5 (p0 / 4)) - (cst w0)))) H := hP
      have hD : va_D A (MW cI d (su σ 5 (p0 / 4) ((σ 5 (p0 / 4)) - (cst w0)))) := hD
      refine lv_aload_n hx hb dX2_does_57 rfl (lv_at hl 2 rfl) ?_
      refine lv_iload hx hb dX2_does_58 (lv_at hl 0 rfl) ?_
      refine lv_iload_n hx hb dX2_does_60 rfl (lv_at hl 5 rfl) ?_
      refine lv_iload hx hb dX2_does_61 (lv_at hl 6 rfl) ?_
      refine lv_iload hx hb dX2_does_63 (lv_at hl 7 rfl) ?_
      have hPc : va_P D vwCl (MW cI d (su σ 5 (p0 / 4) ((σ 5 (p0 / 4)) - (cst w0))) ++ []) H := by rw [List.append_nil]; exact hP
      have hDc : va_D A (MW cI d (su σ 5 (p0 / 4) ((σ 5 (p0 / 4)) - (cst w0))) ++ []) := by rw [List.append_nil]; exact hD
      refine g_call (va_runV (As := [.int (iI ((8 * r0) + p0)), .int (iI (w0)), .int (iI (i0)), .int (iI (v0))]) (rest := []) S ((kX2_change l D cI cZ cQ d (su σ 5 (p0 / 4) ((σ 5 (p0 / 4)) - (cst w0))) ((8 * r0) + p0) w0 i0 v0 (by first | assumption | omega) (by first | assumption | omega) (by first | assumption | omega) (mWF_t hwf _)) H.size) (cwV 4 hts gX2_does_X2_change rfl rfl rfl (by decide +kernel) ⟨Nat.le_of_ble_eq_true rfl, Nat.le_of_ble_eq_true rfl⟩) (g_preV gEx_t hK [0, 1, 2] rfl hPc hDc (fun _ _ _ => trivial) (q0 := 0) (ci := 2) rfl rfl rfl) rfl rfl hl.1 rfl (lv_room (Nat.le_of_ble_eq_true rfl)) dX2_does_65 ⟨Nat.le_of_ble_eq_true rfl, Nat.le_of_ble_eq_true rfl⟩) hPc hDc hS hA (fun κ9 H locs hk hP hD hS => ?_)
      have hP : va_P D vwCl (MW cI d (mChg (su σ 5 (p0 / 4) ((σ 5 (p0 / 4)) - (cst w0))) ((8 * r0) + p0) w0 i0 v0)) H := by have h9 : va_P D vwCl (MW cI d (mChg (su σ 5 (p0 / 4) ((σ 5 (p0 / 4)) - (cst w0))) ((8 * r0) + p0) w0 i0 v0) ++ []) H := hP; rw [List.append_nil] at h9; exact h9
      have hD : va_D A (MW cI d (mChg (su σ 5 (p0 / 4) ((σ 5 (p0 / 4)) - (cst w0))) ((8 * r0) + p0) w0 i0 v0)) := by have h9 : va_D A (MW cI d (mChg (su σ 5 (p0 / 4) ((σ 5 (p0 / 4)) - (cst w0))) ((8 * r0) + p0) w0 i0 v0) ++ []) := hD; rw [List.append_nil] at h9; exact h9
      show W p l e ({ frames := 2, cells := 1, slots := 5, locals := 66 } : Room) s m args below meth c H locs 1 5 (MQ below (gQ D (tyMs cI cZ cQ) (fun κ' => MW cI d (mDo σ r0 p0 w0 i0 v0)) A (fun _ => some (.int (iI (mDoA σ r0 p0 w0 i0)))) (fun _ => True)) args s 1 5 A) (F0 m 68 ls [])
      refine lv_iconst (v := iI (1)) hx hb dX2_does_68 rfl ?_
      have es : (mDo σ r0 p0 w0 i0 v0) = (mChg (su σ 5 (p0 / 4) ((σ 5 (p0 / 4)) - (cst w0))) ((8 * r0) + p0) w0 i0 v0) := by unfold mDo; first | (rw [if_neg (by omega)]; done) | (rw [if_pos (by omega)]; try rfl; done)
      have er : ((mDoA σ r0 p0 w0 i0 : Int)) = (1) := by unfold mDoA; first | (rw [bI_t (by omega)]; done) | (rw [bI_f (by omega)]; done)
      exact g_iret (wo := (fun κ' => MW cI d (mDo σ r0 p0 w0 i0 v0))) (kr := (fun _ => True)) (rv := (fun _ => some (.int (iI (mDoA σ r0 p0 w0 i0))))) hx hb hr hlocks (fun _ _ => 0) (nar_z (Or.inr rfl)) (by rw [es]; exact hP) hK (by rw [es]; exact hD) hS trivial (by rw [er]) (Nat.le_of_ble_eq_true rfl) (Nat.le_of_ble_eq_true rfl) dX2_does_69
    · skip
      refine lv_iconst (v := iI (0)) hx hb dX2_does_40 rfl ?_
      have es : (mDo σ r0 p0 w0 i0 v0) = (σ) := by unfold mDo; first | (rw [if_neg (by omega)]; done) | (rw [if_pos (by omega)]; try rfl; done)
      have er : ((mDoA σ r0 p0 w0 i0 : Int)) = (0) := by unfold mDoA; first | (rw [bI_t (by omega)]; done) | (rw [bI_f (by omega)]; done)
      exact g_iret (wo := (fun κ' => MW cI d (mDo σ r0 p0 w0 i0 v0))) (kr := (fun _ => True)) (rv := (fun _ => some (.int (iI (mDoA σ r0 p0 w0 i0))))) hx hb hr hlocks (fun _ _ => 0) (nar_z (Or.inl rfl)) (by rw [es]; exact hP) hK (by rw [es]; exact hD) hS trivial (by rw [er]) (Nat.le_of_ble_eq_true rfl) (Nat.le_of_ble_eq_true rfl) dX2_does_41
set_option maxHeartbeats 4000000 in
set_option maxRecDepth 100000 in
theorem kX2_both (l : Launch) (D : va_G) (cI cZ cQ : ClassId) (d : Nat → Nat) (σ : St)  (r0 : Int) (p0 : Int) (w0 : Int) (i0 : Int) (v0 : Int) (hr : 0 ≤ r0 ∧ r0 ≤ 4) (hp : 0 ≤ p0 ∧ p0 ≤ 7) (hw : 0 ≤ w0 ∧ w0 ≤ 3) (ha : mArg w0 i0 v0) (hl_i0 : -2147483648 ≤ i0) (hh_i0 : i0 ≤ 2147483647) (hwf : mWF σ) : gMet l yX2_both wsX2_both ({ frames := 3, cells := 2, slots := 10, locals := 93 } : Room) D (tyMs cI cZ cQ) (MW cI d σ) [.ref (d 0), .int (iI r0), .int (iI p0), .int (iI w0), .int (iI i0), .int (iI v0)] (mEx (MW cI d σ)) (fun _ => some (.int (iI (mBoA σ r0 p0 w0 i0 v0)))) (fun _ => True) (fun κ' => MW cI d (mBo σ r0 p0 w0 i0 v0)) := by
  refine g_startM (cc := cX2_both) (maxL := 8) (ret := (some .int)) (by decide) rfl (Nat.le_of_ble_eq_true rfl) ?_
  intro p e s m args below meth c A ls H locs S hr hlocks hname hP hK hD hA hS hE hl
  have S0 := S
  obtain ⟨hx, hb, hml, hown, hts⟩ := S0
  have hl : lv_has ls 8 [(0, .ref (d 0)), (1, .int (iI (r0))), (2, .int (iI (p0))), (3, .int (iI (w0))), (4, .int (iI (i0))), (5, .int (iI (v0)))] := hl
  have hinX2 : ∀ w ∈ wsX20, w ∈ wsX2_both := by decide +kernel
  have d1 : mDoA σ r0 p0 w0 i0 = 0 ∨ mDoA σ r0 p0 w0 i0 = 1 := bI01 _
  have d2 : mDoA (mDo σ r0 p0 w0 i0 v0) r0 (7 - p0) w0 i0 = 0 ∨ mDoA (mDo σ r0 p0 w0 i0 v0) r0 (7 - p0) w0 i0 = 1 := bI01 _
  refine lv_aload_n hx hb dX2_both_0 rfl (lv_at hl 0 rfl) ?_
  refine lv_iload_n hx hb dX2_both_1 rfl (lv_at hl 1 rfl) ?_
  refine lv_iload_n hx hb dX2_both_2 rfl (lv_at hl 2 rfl) ?_
  refine lv_iload_n hx hb dX2_both_3 rfl (lv_at hl 3 rfl) ?_
  refine lv_iload hx hb dX2_both_4 (lv_at hl 4 rfl) ?_
  refine lv_iload hx hb dX2_both_6 (lv_at hl 5 rfl) ?_
  have hPc : va_P D vwCl (MW cI d σ ++ []) H := by rw [List.append_nil]; exact hP
  have hDc : va_D A (MW cI d σ ++ []) := by rw [List.append_nil]; exact hD
  refine g_call (va_runV (As := [.int (iI (r0)), .int (iI (p0)), .int (iI (w0)), .int (iI (i0)), .int (iI (v0))]) (rest := []) S ((kX2_does l D cI cZ cQ d σ r0 p0 w0 i0 v0 (by first | assumption | omega) (by first | assumption | omega) (by first | assumption | omega) (by first | assumption | omega) (by first | assumption | omega) (by first | assumption | omega) (by first | assumption | omega)) H.size) (cwV 5 hts gX2_both_X2_does rfl rfl rfl (by decide +kernel) ⟨Nat.le_of_ble_eq_true rfl, Nat.le_of_ble_eq_true rfl⟩) (g_preV (mEx_g _) hK [0, 1, 2] rfl hPc hDc (fun U hU hW => mEx_w hE hDc hS hA hU hW) (q0 := 0) (ci := 2) rfl rfl rfl) rfl rfl hl.1 rfl (lv_room (Nat.le_of_ble_eq_true rfl)) dX2_both_8 ⟨Nat.le_of_ble_eq_true rfl, Nat.le_of_ble_eq_true rfl⟩) hPc hDc hS hA (fun κ9 H locs hk hP hD hS => ?_)
  have hP : va_P D vwCl (MW cI d (mDo σ r0 p0 w0 i0 v0)) H := by have h9 : va_P D vwCl (MW cI d (mDo σ r0 p0 w0 i0 v0) ++ []) H := hP; rw [List.append_nil] at h9; exact h9
  have hD : va_D A (MW cI d (mDo σ r0 p0 w0 i0 v0)) := by have h9 : va_D A (MW cI d (mDo σ r0 p0 w0 i0 v0) ++ []) := hD; rw [List.append_nil] at h9; exact h9
  show W p l e ({ frames := 3, cells := 2, slots := 10, locals := 93 } : Room) s m args below meth c H locs 1 5 (MQ below (gQ D (tyMs cI cZ cQ) (fun κ' => MW cI d (mBo σ r0 p0 w0 i0 v0)) A (fun _ => some (.int (iI (mBoA σ r0 p0 w0 i0 v0)))) (fun _ => True)) args s 2 10 A) (F0 m 11 ls [.int (iI (mDoA σ r0 p0 w0 i0))])
  refine lv_istore (lv' := [(6, .int (iI (mDoA σ r0 p0 w0 i0))), (0, .ref (d 0)), (1, .int (iI (r0))), (2, .int (iI (p0))), (3, .int (iI (w0))), (4, .int (iI (i0))), (5, .int (iI (v0)))]) hx hb dX2_both_11 hl (by decide) rfl (fun ls hl => ?_)
  refine lv_aload_n hx hb dX2_both_13 rfl (lv_at hl 1 rfl) ?_
  refine lv_iload_n hx hb dX2_both_14 rfl (lv_at hl 2 rfl) ?_
  refine lv_bipush (v := iI (7)) hx hb dX2_both_15 rfl ?_
  refine lv_iload_n hx hb dX2_both_17 rfl (lv_at hl 3 rfl) ?_
  refine gi_sub hx hb dX2_both_18 ?_
  refine lv_iload_n hx hb dX2_both_19 rfl (lv_at hl 4 rfl) ?_
  refine lv_iload hx hb dX2_both_20 (lv_at hl 5 rfl) ?_
  refine lv_iload hx hb dX2_both_22 (lv_at hl 6 rfl) ?_
  have hPc : va_P D vwCl (MW cI d (mDo σ r0 p0 w0 i0 v0) ++ []) H := by rw [List.append_nil]; exact hP
  have hDc : va_D A (MW cI d (mDo σ r0 p0 w0 i0 v0) ++ []) := by rw [List.append_nil]; exact hD
  refine g_call (va_runV (As := [.int (iI (r0)), .int (iI (7 - p0)), .int (iI (w0)), .int (iI (i0)), .int (iI (v0))]) (rest := []) S ((kX2_does l D cI cZ cQ d (mDo σ r0 p0 w0 i0 v0) r0 (7 - p0) w0 i0 v0 (by first | assumption | omega) (by first | assumption | omega) (by first | assumption | omega) (by first | assumption | omega) (by first | assumption | omega) (by first | assumption | omega) (mWF_do hwf hp hw ha)) H.size) (cwV 5 hts gX2_both_X2_does rfl rfl rfl (by decide +kernel) ⟨Nat.le_of_ble_eq_true rfl, Nat.le_of_ble_eq_true rfl⟩) (g_preV (mEx_g _) hK [0, 1, 2] rfl hPc hDc (fun U hU hW => mEx_w hE hDc hS hA hU hW) (q0 := 0) (ci := 2) rfl rfl rfl) rfl rfl hl.1 rfl (lv_room (Nat.le_of_ble_eq_true rfl)) dX2_both_24 ⟨Nat.le_of_ble_eq_true rfl, Nat.le_of_ble_eq_true rfl⟩) hPc hDc hS hA (fun κ9 H locs hk hP hD hS => ?_)
  have hP : va_P D vwCl (MW cI d (mDo (mDo σ r0 p0 w0 i0 v0) r0 (7 - p0) w0 i0 v0)) H := by have h9 : va_P D vwCl (MW cI d (mDo (mDo σ r0 p0 w0 i0 v0) r0 (7 - p0) w0 i0 v0) ++ []) H := hP; rw [List.append_nil] at h9; exact h9
  have hD : va_D A (MW cI d (mDo (mDo σ r0 p0 w0 i0 v0) r0 (7 - p0) w0 i0 v0)) := by have h9 : va_D A (MW cI d (mDo (mDo σ r0 p0 w0 i0 v0) r0 (7 - p0) w0 i0 v0) ++ []) := hD; rw [List.append_nil] at h9; exact h9
  show W p l e ({ frames := 3, cells := 2, slots := 10, locals := 93 } : Room) s m args below meth c H locs 2 10 (MQ below (gQ D (tyMs cI cZ cQ) (fun κ' => MW cI d (mBo σ r0 p0 w0 i0 v0)) A (fun _ => some (.int (iI (mBoA σ r0 p0 w0 i0 v0)))) (fun _ => True)) args s 2 10 A) (F0 m 27 ls [.int (iI (mDoA (mDo σ r0 p0 w0 i0 v0) r0 (7 - p0) w0 i0))])
  refine lv_istore (lv' := [(7, .int (iI (mDoA (mDo σ r0 p0 w0 i0 v0) r0 (7 - p0) w0 i0))), (6, .int (iI (mDoA σ r0 p0 w0 i0))), (0, .ref (d 0)), (1, .int (iI (r0))), (2, .int (iI (p0))), (3, .int (iI (w0))), (4, .int (iI (i0))), (5, .int (iI (v0)))]) hx hb dX2_both_27 hl (by decide) rfl (fun ls hl => ?_)
  refine lv_iload hx hb dX2_both_29 (lv_at hl 1 rfl) ?_
  refine gi_if_eq (tgt := 38) hx hb dX2_both_31 (by decide) ⟨by omega, by omega⟩ (fun c31 => ?_) (fun c31 => ?_)
  · skip
    refine lv_iconst (v := iI (0)) hx hb dX2_both_38 rfl ?_
    refine lv_iload hx hb dX2_both_39 (lv_at hl 0 rfl) ?_
    refine gi_if_eq (tgt := 48) hx hb dX2_both_41 (by decide) ⟨by omega, by omega⟩ (fun c41 => ?_) (fun c41 => ?_)
    · skip
      refine lv_iconst (v := iI (0)) hx hb dX2_both_48 rfl ?_
      refine gi_add hx hb dX2_both_49 ?_
      have es : (mBo σ r0 p0 w0 i0 v0) = (mDo (mDo σ r0 p0 w0 i0 v0) r0 (7 - p0) w0 i0 v0) := by rfl
      have er : ((mBoA σ r0 p0 w0 i0 v0 : Int)) = (0 + 0) := by unfold mBoA; first | (rw [if_pos (by omega), if_pos (by omega)]; done) | (rw [if_pos (by omega), if_neg (by omega)]; done) | (rw [if_neg (by omega), if_pos (by omega)]; done) | (rw [if_neg (by omega), if_neg (by omega)]; done)
      exact g_iret (wo := (fun κ' => MW cI d (mBo σ r0 p0 w0 i0 v0))) (kr := (fun _ => True)) (rv := (fun _ => some (.int (iI (mBoA σ r0 p0 w0 i0 v0))))) hx hb hr hlocks (fun _ _ => 0) rfl (by rw [es]; exact hP) hK (by rw [es]; exact hD) hS trivial (by rw [er]) (Nat.le_of_ble_eq_true rfl) (Nat.le_of_ble_eq_true rfl) dX2_both_50
    · skip
      refine lv_iconst (v := iI (2)) hx hb dX2_both_44 rfl ?_
      refine lv_goto (tgt := 49) hx hb dX2_both_45 (by decide) ?_
      refine gi_add hx hb dX2_both_49 ?_
      have es : (mBo σ r0 p0 w0 i0 v0) = (mDo (mDo σ r0 p0 w0 i0 v0) r0 (7 - p0) w0 i0 v0) := by rfl
      have er : ((mBoA σ r0 p0 w0 i0 v0 : Int)) = (0 + 2) := by unfold mBoA; first | (rw [if_pos (by omega), if_pos (by omega)]; done) | (rw [if_pos (by omega), if_neg (by omega)]; done) | (rw [if_neg (by omega), if_pos (by omega)]; done) | (rw [if_neg (by omega), if_neg (by omega)]; done)
      exact g_iret (wo := (fun κ' => MW cI d (mBo σ r0 p0 w0 i0 v0))) (kr := (fun _ => True)) (rv := (fun _ => some (.int (iI (mBoA σ r0 p0 w0 i0 v0))))) hx hb hr hlocks (fun _ _ => 0) rfl (by rw [es]; exact hP) hK (by rw [es]; exact hD) hS trivial (by rw [er]) (Nat.le_of_ble_eq_true rfl) (Nat.le_of_ble_eq_true rfl) dX2_both_50
  · skip
    refine lv_iconst (v := iI (1)) hx hb dX2_both_34 rfl ?_
    refine lv_goto (tgt := 39) hx hb dX2_both_35 (by decide) ?_
    refine lv_iload hx hb dX2_both_39 (lv_at hl 0 rfl) ?_
    refine gi_if_eq (tgt := 48) hx hb dX2_both_41 (by decide) ⟨by omega, by omega⟩ (fun c41 => ?_) (fun c41 => ?_)
    · skip
      refine lv_iconst (v := iI (0)) hx hb dX2_both_48 rfl ?_
      refine gi_add hx hb dX2_both_49 ?_
      have es : (mBo σ r0 p0 w0 i0 v0) = (mDo (mDo σ r0 p0 w0 i0 v0) r0 (7 - p0) w0 i0 v0) := by rfl
      have er : ((mBoA σ r0 p0 w0 i0 v0 : Int)) = (1 + 0) := by unfold mBoA; first | (rw [if_pos (by omega), if_pos (by omega)]; done) | (rw [if_pos (by omega), if_neg (by omega)]; done) | (rw [if_neg (by omega), if_pos (by omega)]; done) | (rw [if_neg (by omega), if_neg (by omega)]; done)
      exact g_iret (wo := (fun κ' => MW cI d (mBo σ r0 p0 w0 i0 v0))) (kr := (fun _ => True)) (rv := (fun _ => some (.int (iI (mBoA σ r0 p0 w0 i0 v0))))) hx hb hr hlocks (fun _ _ => 0) rfl (by rw [es]; exact hP) hK (by rw [es]; exact hD) hS trivial (by rw [er]) (Nat.le_of_ble_eq_true rfl) (Nat.le_of_ble_eq_true rfl) dX2_both_50
    · skip
      refine lv_iconst (v := iI (2)) hx hb dX2_both_44 rfl ?_
      refine lv_goto (tgt := 49) hx hb dX2_both_45 (by decide) ?_
      refine gi_add hx hb dX2_both_49 ?_
      have es : (mBo σ r0 p0 w0 i0 v0) = (mDo (mDo σ r0 p0 w0 i0 v0) r0 (7 - p0) w0 i0 v0) := by rfl
      have er : ((mBoA σ r0 p0 w0 i0 v0 : Int)) = (1 + 2) := by unfold mBoA; first | (rw [if_pos (by omega), if_pos (by omega)]; done) | (rw [if_pos (by omega), if_neg (by omega)]; done) | (rw [if_neg (by omega), if_pos (by omega)]; done) | (rw [if_neg (by omega), if_neg (by omega)]; done)
      exact g_iret (wo := (fun κ' => MW cI d (mBo σ r0 p0 w0 i0 v0))) (kr := (fun _ => True)) (rv := (fun _ => some (.int (iI (mBoA σ r0 p0 w0 i0 v0))))) hx hb hr hlocks (fun _ _ => 0) rfl (by rw [es]; exact hP) hK (by rw [es]; exact hD) hS trivial (by rw [er]) (Nat.le_of_ble_eq_true rfl) (Nat.le_of_ble_eq_true rfl) dX2_both_50
set_option maxHeartbeats 4000000 in
set_option maxRecDepth 100000 in
theorem kX2_plant (l : Launch) (D : va_G) (cI cZ cQ : ClassId) (d : Nat → Nat) (σ : St)  (r0 : Int) (p0 : Int) (n0 : Int) (n1 : Int) (hl_r0 : -2147483648 ≤ r0) (hh_r0 : r0 ≤ 2147483647) (hl_p0 : -2147483648 ≤ p0) (hh_p0 : p0 ≤ 2147483647) (hl_n0 : -2147483648 ≤ n0) (hh_n0 : n0 ≤ 2147483647) (hl_n1 : -2147483648 ≤ n1) (hh_n1 : n1 ≤ 2147483647) (hwf : mWF σ) : gMet l yX2_plant wsX2_plant ({ frames := 4, cells := 2, slots := 10, locals := 120 } : Room) D (tyMs cI cZ cQ) (MW cI d σ) [.ref (d 0), .int (iI r0), .int (iI p0), .int (iI n0), .int (iI n1)] (mEx (MW cI d σ)) (fun _ => some (.int (iI (mVal (tPlant r0 p0 n0 n1) (mBoA (mZ σ) r0 p0 0 n0 n1))))) (fun _ => True) (fun κ' => MW cI d (mRes (tPlant r0 p0 n0 n1) (mBo (mZ σ) r0 p0 0 n0 n1) σ)) := by
  refine g_startM (cc := cX2_plant) (maxL := 5) (ret := (some .int)) (by decide) rfl (Nat.le_of_ble_eq_true rfl) ?_
  intro p e s m args below meth c A ls H locs S hr hlocks hname hP hK hD hA hS hE hl
  have S0 := S
  obtain ⟨hx, hb, hml, hown, hts⟩ := S0
  have hl : lv_has ls 5 [(0, .ref (d 0)), (1, .int (iI (r0))), (2, .int (iI (p0))), (3, .int (iI (n0))), (4, .int (iI (n1)))] := hl
  have hinX2 : ∀ w ∈ wsX20, w ∈ wsX2_plant := by decide +kernel
  refine lv_aload_n hx hb dX2_plant_0 rfl (lv_at hl 0 rfl) ?_
  refine lv_iconst (v := iI (0)) hx hb dX2_plant_1 rfl ?_
  refine va_put (D := D) (ci := 2) (v := .int (iI (0))) (ty := .int) (C := RX2) (T := TX2) (N := 8) hx hb hts hinX2 tyX2 tyX2_ok nmX2 hown hK hP hD hS 0 rfl rfl 0 (by decide) (hts (.fieldLink RX2 28 "TwinOrchardModel" "thrown" "I") (List.mem_of_getElem? (i := 1) rfl)) (fun _ h9 => h9) rfl (by decide +kernel) rfl rfl (Nat.le_of_ble_eq_true rfl) dX2_plant_2 (fun H locs hP hD hS => ?_)
  have hP : va_P D vwCl (MW cI d (su σ 6 0 (0))) H := hP
  have hD : va_D A (MW cI d (su σ 6 0 (0))) := hD
  refine lv_iload_n hx hb dX2_plant_5 rfl (lv_at hl 1 rfl) ?_
  refine lv_iload_n hx hb dX2_plant_6 rfl (lv_at hl 2 rfl) ?_
  have hPc : va_P D vwCl ([] ++ (MW cI d (su σ 6 0 (0)))) H := hP
  have hDc : va_D A ([] ++ (MW cI d (su σ 6 0 (0)))) := hD
  refine g_call (va_runS (As := [.int (iI (r0)), .int (iI (p0))]) (rest := []) S ((kX2_isSpot l D  r0 p0 (by first | assumption | omega) (by first | assumption | omega) (by first | assumption | omega) (by first | assumption | omega)) H.size) (va_cwS 2 hts gX2_plant_X2_isSpot rfl rfl rfl (by decide +kernel) ⟨Nat.le_of_ble_eq_true rfl, Nat.le_of_ble_eq_true rfl⟩) (g_preS gEx_t hK [] rfl hPc hDc (fun _ _ _ => trivial)) rfl rfl hl.1 rfl (lv_room (Nat.le_of_ble_eq_true rfl)) dX2_plant_7 ⟨Nat.le_of_ble_eq_true rfl, Nat.le_of_ble_eq_true rfl⟩) hPc hDc hS hA (fun κ9 H locs hk hP hD hS => ?_)
  have hP : va_P D vwCl (MW cI d (su σ 6 0 (0))) H := hP
  have hD : va_D A (MW cI d (su σ 6 0 (0))) := hD
  show W p l e ({ frames := 4, cells := 2, slots := 10, locals := 120 } : Room) s m args below meth c H locs 0 0 (MQ below (gQ D (tyMs cI cZ cQ) (fun κ' => MW cI d (mRes (tPlant r0 p0 n0 n1) (mBo (mZ σ) r0 p0 0 n0 n1) σ)) A (fun _ => some (.int (iI (mVal (tPlant r0 p0 n0 n1) (mBoA (mZ σ) r0 p0 0 n0 n1))))) (fun _ => True)) args s 2 10 A) (F0 m 10 ls [.int (iI (bI ((0 ≤ r0 ∧ r0 ≤ 4) ∧ 0 ≤ p0 ∧ p0 ≤ 7)))])
  refine gb_if_ne (tgt := 19) hx hb dX2_plant_10 (by decide)  (fun c10 => ?_) (fun c10 => ?_)
  · skip
    refine lv_iload_n hx hb dX2_plant_19 rfl (lv_at hl 3 rfl) ?_
    have hPc : va_P D vwCl ([] ++ (MW cI d (su σ 6 0 (0)))) H := hP
    have hDc : va_D A ([] ++ (MW cI d (su σ 6 0 (0)))) := hD
    refine g_call (va_runS (As := [.int (iI (n0))]) (rest := []) S ((kX2_isSort l D  n0 (by first | assumption | omega) (by first | assumption | omega)) H.size) (va_cwS 1 hts gX2_plant_X2_isSort rfl rfl rfl (by decide +kernel) ⟨Nat.le_of_ble_eq_true rfl, Nat.le_of_ble_eq_true rfl⟩) (g_preS gEx_t hK [] rfl hPc hDc (fun _ _ _ => trivial)) rfl rfl hl.1 rfl (lv_room (Nat.le_of_ble_eq_true rfl)) dX2_plant_20 ⟨Nat.le_of_ble_eq_true rfl, Nat.le_of_ble_eq_true rfl⟩) hPc hDc hS hA (fun κ9 H locs hk hP hD hS => ?_)
    have hP : va_P D vwCl (MW cI d (su σ 6 0 (0))) H := hP
    have hD : va_D A (MW cI d (su σ 6 0 (0))) := hD
    show W p l e ({ frames := 4, cells := 2, slots := 10, locals := 120 } : Room) s m args below meth c H locs 0 0 (MQ below (gQ D (tyMs cI cZ cQ) (fun κ' => MW cI d (mRes (tPlant r0 p0 n0 n1) (mBo (mZ σ) r0 p0 0 n0 n1) σ)) A (fun _ => some (.int (iI (mVal (tPlant r0 p0 n0 n1) (mBoA (mZ σ) r0 p0 0 n0 n1))))) (fun _ => True)) args s 2 10 A) (F0 m 23 ls [.int (iI (bI (0 ≤ n0 ∧ n0 ≤ 5)))])
    refine gb_if_eq (tgt := 50) hx hb dX2_plant_23 (by decide)  (fun c23 => ?_) (fun c23 => ?_)
    · skip
      refine lv_aload_n hx hb dX2_plant_50 rfl (lv_at hl 0 rfl) ?_
      refine lv_iconst (v := iI (2)) hx hb dX2_plant_51 rfl ?_
      have hPc : va_P D vwCl (MW cI d (su σ 6 0 (0)) ++ []) H := by rw [List.append_nil]; exact hP
      have hDc : va_D A (MW cI d (su σ 6 0 (0)) ++ []) := by rw [List.append_nil]; exact hD
      refine g_call (va_runV (As := [.int (iI (2))]) (rest := []) S ((kX2_fail l D cI cZ cQ d (su σ 6 0 (0)) 2 ) H.size) (cwV 1 hts gX2_plant_X2_fail rfl rfl rfl (by decide +kernel) ⟨Nat.le_of_ble_eq_true rfl, Nat.le_of_ble_eq_true rfl⟩) (g_preV gEx_t hK [0, 1, 2] rfl hPc hDc (fun _ _ _ => trivial) (q0 := 0) (ci := 2) rfl rfl rfl) rfl rfl hl.1 rfl (lv_room (Nat.le_of_ble_eq_true rfl)) dX2_plant_52 ⟨Nat.le_of_ble_eq_true rfl, Nat.le_of_ble_eq_true rfl⟩) hPc hDc hS hA (fun κ9 H locs hk hP hD hS => ?_)
      have hP : va_P D vwCl (MW cI d (su (su σ 6 0 (0)) 6 0 2)) H := by have h9 : va_P D vwCl (MW cI d (su (su σ 6 0 (0)) 6 0 2) ++ []) H := hP; rw [List.append_nil] at h9; exact h9
      have hD : va_D A (MW cI d (su (su σ 6 0 (0)) 6 0 2)) := by have h9 : va_D A (MW cI d (su (su σ 6 0 (0)) 6 0 2) ++ []) := hD; rw [List.append_nil] at h9; exact h9
      show W p l e ({ frames := 4, cells := 2, slots := 10, locals := 120 } : Room) s m args below meth c H locs 0 0 (MQ below (gQ D (tyMs cI cZ cQ) (fun κ' => MW cI d (mRes (tPlant r0 p0 n0 n1) (mBo (mZ σ) r0 p0 0 n0 n1) σ)) A (fun _ => some (.int (iI (mVal (tPlant r0 p0 n0 n1) (mBoA (mZ σ) r0 p0 0 n0 n1))))) (fun _ => True)) args s 2 10 A) (F0 m 55 ls [.int (iI (0))])
      have es : (mRes (tPlant r0 p0 n0 n1) (mBo (mZ σ) r0 p0 0 n0 n1) σ) = (su (su σ 6 0 (0)) 6 0 2) := by first | (rw [show tPlant r0 p0 n0 n1 = 1 from by unfold tPlant; rw [if_pos (by omega)]]; rfl) | (rw [show tPlant r0 p0 n0 n1 = 2 from by unfold tPlant; rw [if_neg (by omega), if_pos (by omega)]]; rfl) | (rw [show tPlant r0 p0 n0 n1 = 0 from by unfold tPlant; rw [if_neg (by omega), if_neg (by omega)]]; rfl)
      have er : ((mVal (tPlant r0 p0 n0 n1) (mBoA (mZ σ) r0 p0 0 n0 n1) : Int)) = (0) := by first | (rw [show tPlant r0 p0 n0 n1 = 1 from by unfold tPlant; rw [if_pos (by omega)]]; rfl) | (rw [show tPlant r0 p0 n0 n1 = 2 from by unfold tPlant; rw [if_neg (by omega), if_pos (by omega)]]; rfl) | (rw [show tPlant r0 p0 n0 n1 = 0 from by unfold tPlant; rw [if_neg (by omega), if_neg (by omega)]]; rfl)
      exact g_iret (wo := (fun κ' => MW cI d (mRes (tPlant r0 p0 n0 n1) (mBo (mZ σ) r0 p0 0 n0 n1) σ))) (kr := (fun _ => True)) (rv := (fun _ => some (.int (iI (mVal (tPlant r0 p0 n0 n1) (mBoA (mZ σ) r0 p0 0 n0 n1)))))) hx hb hr hlocks (fun _ _ => 0) rfl (by rw [es]; exact hP) hK (by rw [es]; exact hD) hS trivial (by rw [er]) (Nat.le_of_ble_eq_true rfl) (Nat.le_of_ble_eq_true rfl) dX2_plant_55
    · skip
      refine lv_iload hx hb dX2_plant_26 (lv_at hl 4 rfl) ?_
      refine lv_iconst (v := iI (1)) hx hb dX2_plant_28 rfl ?_
      refine lv_bipush (v := iI (9)) hx hb dX2_plant_29 rfl ?_
      have hPc : va_P D vwCl ([] ++ (MW cI d (su σ 6 0 (0)))) H := hP
      have hDc : va_D A ([] ++ (MW cI d (su σ 6 0 (0)))) := hD
      refine g_call (va_runS (As := [.int (iI (n1)), .int (iI (1)), .int (iI (9))]) (rest := []) S ((kX2_isIn l D  n1 1 9 (by first | assumption | omega) (by first | assumption | omega) (by first | assumption | omega) (by first | assumption | omega) (by first | assumption | omega) (by first | assumption | omega)) H.size) (va_cwS 3 hts gX2_plant_X2_isIn rfl rfl rfl (by decide +kernel) ⟨Nat.le_of_ble_eq_true rfl, Nat.le_of_ble_eq_true rfl⟩) (g_preS gEx_t hK [] rfl hPc hDc (fun _ _ _ => trivial)) rfl rfl hl.1 rfl (lv_room (Nat.le_of_ble_eq_true rfl)) dX2_plant_31 ⟨Nat.le_of_ble_eq_true rfl, Nat.le_of_ble_eq_true rfl⟩) hPc hDc hS hA (fun κ9 H locs hk hP hD hS => ?_)
      have hP : va_P D vwCl (MW cI d (su σ 6 0 (0))) H := hP
      have hD : va_D A (MW cI d (su σ 6 0 (0))) := hD
      show W p l e ({ frames := 4, cells := 2, slots := 10, locals := 120 } : Room) s m args below meth c H locs 0 0 (MQ below (gQ D (tyMs cI cZ cQ) (fun κ' => MW cI d (mRes (tPlant r0 p0 n0 n1) (mBo (mZ σ) r0 p0 0 n0 n1) σ)) A (fun _ => some (.int (iI (mVal (tPlant r0 p0 n0 n1) (mBoA (mZ σ) r0 p0 0 n0 n1))))) (fun _ => True)) args s 2 10 A) (F0 m 34 ls [.int (iI (bI (1 ≤ n1 ∧ n1 ≤ 9)))])
      refine gb_if_eq (tgt := 50) hx hb dX2_plant_34 (by decide)  (fun c34 => ?_) (fun c34 => ?_)
      · skip
        refine lv_aload_n hx hb dX2_plant_50 rfl (lv_at hl 0 rfl) ?_
        refine lv_iconst (v := iI (2)) hx hb dX2_plant_51 rfl ?_
        have hPc : va_P D vwCl (MW cI d (su σ 6 0 (0)) ++ []) H := by rw [List.append_nil]; exact hP
        have hDc : va_D A (MW cI d (su σ 6 0 (0)) ++ []) := by rw [List.append_nil]; exact hD
        refine g_call (va_runV (As := [.int (iI (2))]) (rest := []) S ((kX2_fail l D cI cZ cQ d (su σ 6 0 (0)) 2 ) H.size) (cwV 1 hts gX2_plant_X2_fail rfl rfl rfl (by decide +kernel) ⟨Nat.le_of_ble_eq_true rfl, Nat.le_of_ble_eq_true rfl⟩) (g_preV gEx_t hK [0, 1, 2] rfl hPc hDc (fun _ _ _ => trivial) (q0 := 0) (ci := 2) rfl rfl rfl) rfl rfl hl.1 rfl (lv_room (Nat.le_of_ble_eq_true rfl)) dX2_plant_52 ⟨Nat.le_of_ble_eq_true rfl, Nat.le_of_ble_eq_true rfl⟩) hPc hDc hS hA (fun κ9 H locs hk hP hD hS => ?_)
        have hP : va_P D vwCl (MW cI d (su (su σ 6 0 (0)) 6 0 2)) H := by have h9 : va_P D vwCl (MW cI d (su (su σ 6 0 (0)) 6 0 2) ++ []) H := hP; rw [List.append_nil] at h9; exact h9
        have hD : va_D A (MW cI d (su (su σ 6 0 (0)) 6 0 2)) := by have h9 : va_D A (MW cI d (su (su σ 6 0 (0)) 6 0 2) ++ []) := hD; rw [List.append_nil] at h9; exact h9
        show W p l e ({ frames := 4, cells := 2, slots := 10, locals := 120 } : Room) s m args below meth c H locs 0 0 (MQ below (gQ D (tyMs cI cZ cQ) (fun κ' => MW cI d (mRes (tPlant r0 p0 n0 n1) (mBo (mZ σ) r0 p0 0 n0 n1) σ)) A (fun _ => some (.int (iI (mVal (tPlant r0 p0 n0 n1) (mBoA (mZ σ) r0 p0 0 n0 n1))))) (fun _ => True)) args s 2 10 A) (F0 m 55 ls [.int (iI (0))])
        have es : (mRes (tPlant r0 p0 n0 n1) (mBo (mZ σ) r0 p0 0 n0 n1) σ) = (su (su σ 6 0 (0)) 6 0 2) := by first | (rw [show tPlant r0 p0 n0 n1 = 1 from by unfold tPlant; rw [if_pos (by omega)]]; rfl) | (rw [show tPlant r0 p0 n0 n1 = 2 from by unfold tPlant; rw [if_neg (by omega), if_pos (by omega)]]; rfl) | (rw [show tPlant r0 p0 n0 n1 = 0 from by unfold tPlant; rw [if_neg (by omega), if_neg (by omega)]]; rfl)
        have er : ((mVal (tPlant r0 p0 n0 n1) (mBoA (mZ σ) r0 p0 0 n0 n1) : Int)) = (0) := by first | (rw [show tPlant r0 p0 n0 n1 = 1 from by unfold tPlant; rw [if_pos (by omega)]]; rfl) | (rw [show tPlant r0 p0 n0 n1 = 2 from by unfold tPlant; rw [if_neg (by omega), if_pos (by omega)]]; rfl) | (rw [show tPlant r0 p0 n0 n1 = 0 from by unfold tPlant; rw [if_neg (by omega), if_neg (by omega)]]; rfl)
        exact g_iret (wo := (fun κ' => MW cI d (mRes (tPlant r0 p0 n0 n1) (mBo (mZ σ) r0 p0 0 n0 n1) σ))) (kr := (fun _ => True)) (rv := (fun _ => some (.int (iI (mVal (tPlant r0 p0 n0 n1) (mBoA (mZ σ) r0 p0 0 n0 n1)))))) hx hb hr hlocks (fun _ _ => 0) rfl (by rw [es]; exact hP) hK (by rw [es]; exact hD) hS trivial (by rw [er]) (Nat.le_of_ble_eq_true rfl) (Nat.le_of_ble_eq_true rfl) dX2_plant_55
      · skip
        refine lv_aload_n hx hb dX2_plant_37 rfl (lv_at hl 0 rfl) ?_
        refine lv_iload_n hx hb dX2_plant_38 rfl (lv_at hl 1 rfl) ?_
        refine lv_iload_n hx hb dX2_plant_39 rfl (lv_at hl 2 rfl) ?_
        refine lv_iconst (v := iI (0)) hx hb dX2_plant_40 rfl ?_
        refine lv_iload_n hx hb dX2_plant_41 rfl (lv_at hl 3 rfl) ?_
        refine lv_iload hx hb dX2_plant_42 (lv_at hl 4 rfl) ?_
        have hPc : va_P D vwCl (MW cI d (su σ 6 0 (0)) ++ []) H := by rw [List.append_nil]; exact hP
        have hDc : va_D A (MW cI d (su σ 6 0 (0)) ++ []) := by rw [List.append_nil]; exact hD
        refine g_call (va_runV (As := [.int (iI (r0)), .int (iI (p0)), .int (iI (0)), .int (iI (n0)), .int (iI (n1))]) (rest := []) S ((kX2_both l D cI cZ cQ d (su σ 6 0 (0)) r0 p0 0 n0 n1 (by first | assumption | omega) (by first | assumption | omega) (by first | assumption | omega) (by unfold mArg; omega) (by first | assumption | omega) (by first | assumption | omega) (mWF_6 hwf _ _)) H.size) (cwV 5 hts gX2_plant_X2_both rfl rfl rfl (by decide +kernel) ⟨Nat.le_of_ble_eq_true rfl, Nat.le_of_ble_eq_true rfl⟩) (g_preV (mEx_g _) hK [0, 1, 2] rfl hPc hDc (fun U hU hW => mEx_w hE hDc hS hA hU hW) (q0 := 0) (ci := 2) rfl rfl rfl) rfl rfl hl.1 rfl (lv_room (Nat.le_of_ble_eq_true rfl)) dX2_plant_44 ⟨Nat.le_of_ble_eq_true rfl, Nat.le_of_ble_eq_true rfl⟩) hPc hDc hS hA (fun κ9 H locs hk hP hD hS => ?_)
        have hP : va_P D vwCl (MW cI d (mBo (su σ 6 0 (0)) r0 p0 0 n0 n1)) H := by have h9 : va_P D vwCl (MW cI d (mBo (su σ 6 0 (0)) r0 p0 0 n0 n1) ++ []) H := hP; rw [List.append_nil] at h9; exact h9
        have hD : va_D A (MW cI d (mBo (su σ 6 0 (0)) r0 p0 0 n0 n1)) := by have h9 : va_D A (MW cI d (mBo (su σ 6 0 (0)) r0 p0 0 n0 n1) ++ []) := hD; rw [List.append_nil] at h9; exact h9
        show W p l e ({ frames := 4, cells := 2, slots := 10, locals := 120 } : Room) s m args below meth c H locs 2 10 (MQ below (gQ D (tyMs cI cZ cQ) (fun κ' => MW cI d (mRes (tPlant r0 p0 n0 n1) (mBo (mZ σ) r0 p0 0 n0 n1) σ)) A (fun _ => some (.int (iI (mVal (tPlant r0 p0 n0 n1) (mBoA (mZ σ) r0 p0 0 n0 n1))))) (fun _ => True)) args s 2 10 A) (F0 m 47 ls [.int (iI (mBoA (su σ 6 0 (0)) r0 p0 0 n0 n1))])
        refine lv_goto (tgt := 55) hx hb dX2_plant_47 (by decide) ?_
        have es : (mRes (tPlant r0 p0 n0 n1) (mBo (mZ σ) r0 p0 0 n0 n1) σ) = (mBo (su σ 6 0 (0)) r0 p0 0 n0 n1) := by first | (rw [show tPlant r0 p0 n0 n1 = 1 from by unfold tPlant; rw [if_pos (by omega)]]; rfl) | (rw [show tPlant r0 p0 n0 n1 = 2 from by unfold tPlant; rw [if_neg (by omega), if_pos (by omega)]]; rfl) | (rw [show tPlant r0 p0 n0 n1 = 0 from by unfold tPlant; rw [if_neg (by omega), if_neg (by omega)]]; rfl)
        have er : ((mVal (tPlant r0 p0 n0 n1) (mBoA (mZ σ) r0 p0 0 n0 n1) : Int)) = (mBoA (su σ 6 0 (0)) r0 p0 0 n0 n1) := by first | (rw [show tPlant r0 p0 n0 n1 = 1 from by unfold tPlant; rw [if_pos (by omega)]]; rfl) | (rw [show tPlant r0 p0 n0 n1 = 2 from by unfold tPlant; rw [if_neg (by omega), if_pos (by omega)]]; rfl) | (rw [show tPlant r0 p0 n0 n1 = 0 from by unfold tPlant; rw [if_neg (by omega), if_neg (by omega)]]; rfl)
        exact g_iret (wo := (fun κ' => MW cI d (mRes (tPlant r0 p0 n0 n1) (mBo (mZ σ) r0 p0 0 n0 n1) σ))) (kr := (fun _ => True)) (rv := (fun _ => some (.int (iI (mVal (tPlant r0 p0 n0 n1) (mBoA (mZ σ) r0 p0 0 n0 n1)))))) hx hb hr hlocks (fun _ _ => 0) rfl (by rw [es]; exact hP) hK (by rw [es]; exact hD) hS trivial (by rw [er]) (Nat.le_of_ble_eq_true rfl) (Nat.le_of_ble_eq_true rfl) dX2_plant_55
  · skip
    refine lv_aload_n hx hb dX2_plant_13 rfl (lv_at hl 0 rfl) ?_
    refine lv_iconst (v := iI (1)) hx hb dX2_plant_14 rfl ?_
    have hPc : va_P D vwCl (MW cI d (su σ 6 0 (0)) ++ []) H := by rw [List.append_nil]; exact hP
    have hDc : va_D A (MW cI d (su σ 6 0 (0)) ++ []) := by rw [List.append_nil]; exact hD
    refine g_call (va_runV (As := [.int (iI (1))]) (rest := []) S ((kX2_fail l D cI cZ cQ d (su σ 6 0 (0)) 1 ) H.size) (cwV 1 hts gX2_plant_X2_fail rfl rfl rfl (by decide +kernel) ⟨Nat.le_of_ble_eq_true rfl, Nat.le_of_ble_eq_true rfl⟩) (g_preV gEx_t hK [0, 1, 2] rfl hPc hDc (fun _ _ _ => trivial) (q0 := 0) (ci := 2) rfl rfl rfl) rfl rfl hl.1 rfl (lv_room (Nat.le_of_ble_eq_true rfl)) dX2_plant_15 ⟨Nat.le_of_ble_eq_true rfl, Nat.le_of_ble_eq_true rfl⟩) hPc hDc hS hA (fun κ9 H locs hk hP hD hS => ?_)
    have hP : va_P D vwCl (MW cI d (su (su σ 6 0 (0)) 6 0 1)) H := by have h9 : va_P D vwCl (MW cI d (su (su σ 6 0 (0)) 6 0 1) ++ []) H := hP; rw [List.append_nil] at h9; exact h9
    have hD : va_D A (MW cI d (su (su σ 6 0 (0)) 6 0 1)) := by have h9 : va_D A (MW cI d (su (su σ 6 0 (0)) 6 0 1) ++ []) := hD; rw [List.append_nil] at h9; exact h9
    show W p l e ({ frames := 4, cells := 2, slots := 10, locals := 120 } : Room) s m args below meth c H locs 0 0 (MQ below (gQ D (tyMs cI cZ cQ) (fun κ' => MW cI d (mRes (tPlant r0 p0 n0 n1) (mBo (mZ σ) r0 p0 0 n0 n1) σ)) A (fun _ => some (.int (iI (mVal (tPlant r0 p0 n0 n1) (mBoA (mZ σ) r0 p0 0 n0 n1))))) (fun _ => True)) args s 2 10 A) (F0 m 18 ls [.int (iI (0))])
    have es : (mRes (tPlant r0 p0 n0 n1) (mBo (mZ σ) r0 p0 0 n0 n1) σ) = (su (su σ 6 0 (0)) 6 0 1) := by first | (rw [show tPlant r0 p0 n0 n1 = 1 from by unfold tPlant; rw [if_pos (by omega)]]; rfl) | (rw [show tPlant r0 p0 n0 n1 = 2 from by unfold tPlant; rw [if_neg (by omega), if_pos (by omega)]]; rfl) | (rw [show tPlant r0 p0 n0 n1 = 0 from by unfold tPlant; rw [if_neg (by omega), if_neg (by omega)]]; rfl)
    have er : ((mVal (tPlant r0 p0 n0 n1) (mBoA (mZ σ) r0 p0 0 n0 n1) : Int)) = (0) := by first | (rw [show tPlant r0 p0 n0 n1 = 1 from by unfold tPlant; rw [if_pos (by omega)]]; rfl) | (rw [show tPlant r0 p0 n0 n1 = 2 from by unfold tPlant; rw [if_neg (by omega), if_pos (by omega)]]; rfl) | (rw [show tPlant r0 p0 n0 n1 = 0 from by unfold tPlant; rw [if_neg (by omega), if_neg (by omega)]]; rfl)
    exact g_iret (wo := (fun κ' => MW cI d (mRes (tPlant r0 p0 n0 n1) (mBo (mZ σ) r0 p0 0 n0 n1) σ))) (kr := (fun _ => True)) (rv := (fun _ => some (.int (iI (mVal (tPlant r0 p0 n0 n1) (mBoA (mZ σ) r0 p0 0 n0 n1)))))) hx hb hr hlocks (fun _ _ => 0) rfl (by rw [es]; exact hP) hK (by rw [es]; exact hD) hS trivial (by rw [er]) (Nat.le_of_ble_eq_true rfl) (Nat.le_of_ble_eq_true rfl) dX2_plant_18
set_option maxHeartbeats 4000000 in
set_option maxRecDepth 100000 in
theorem kX2_prune (l : Launch) (D : va_G) (cI cZ cQ : ClassId) (d : Nat → Nat) (σ : St)  (r0 : Int) (p0 : Int) (c0 : Int) (hl_r0 : -2147483648 ≤ r0) (hh_r0 : r0 ≤ 2147483647) (hl_p0 : -2147483648 ≤ p0) (hh_p0 : p0 ≤ 2147483647) (hl_c0 : -2147483648 ≤ c0) (hh_c0 : c0 ≤ 2147483647) (hwf : mWF σ) : gMet l yX2_prune wsX2_prune ({ frames := 4, cells := 2, slots := 10, locals := 120 } : Room) D (tyMs cI cZ cQ) (MW cI d σ) [.ref (d 0), .int (iI r0), .int (iI p0), .int (iI c0)] (mEx (MW cI d σ)) (fun _ => some (.int (iI (mVal (tPrune r0 p0 c0) (mBoA (mZ σ) r0 p0 1 c0 0))))) (fun _ => True) (fun κ' => MW cI d (mRes (tPrune r0 p0 c0) (mBo (mZ σ) r0 p0 1 c0 0) σ)) := by
  refine g_startM (cc := cX2_prune) (maxL := 4) (ret := (some .int)) (by decide) rfl (Nat.le_of_ble_eq_true rfl) ?_
  intro p e s m args below meth c A ls H locs S hr hlocks hname hP hK hD hA hS hE hl
  have S0 := S
  obtain ⟨hx, hb, hml, hown, hts⟩ := S0
  have hl : lv_has ls 4 [(0, .ref (d 0)), (1, .int (iI (r0))), (2, .int (iI (p0))), (3, .int (iI (c0)))] := hl
  have hinX2 : ∀ w ∈ wsX20, w ∈ wsX2_prune := by decide +kernel
  refine lv_aload_n hx hb dX2_prune_0 rfl (lv_at hl 0 rfl) ?_
  refine lv_iconst (v := iI (0)) hx hb dX2_prune_1 rfl ?_
  refine va_put (D := D) (ci := 2) (v := .int (iI (0))) (ty := .int) (C := RX2) (T := TX2) (N := 8) hx hb hts hinX2 tyX2 tyX2_ok nmX2 hown hK hP hD hS 0 rfl rfl 0 (by decide) (hts (.fieldLink RX2 28 "TwinOrchardModel" "thrown" "I") (List.mem_of_getElem? (i := 1) rfl)) (fun _ h9 => h9) rfl (by decide +kernel) rfl rfl (Nat.le_of_ble_eq_true rfl) dX2_prune_2 (fun H locs hP hD hS => ?_)
  have hP : va_P D vwCl (MW cI d (su σ 6 0 (0))) H := hP
  have hD : va_D A (MW cI d (su σ 6 0 (0))) := hD
  refine lv_iload_n hx hb dX2_prune_5 rfl (lv_at hl 1 rfl) ?_
  refine lv_iload_n hx hb dX2_prune_6 rfl (lv_at hl 2 rfl) ?_
  have hPc : va_P D vwCl ([] ++ (MW cI d (su σ 6 0 (0)))) H := hP
  have hDc : va_D A ([] ++ (MW cI d (su σ 6 0 (0)))) := hD
  refine g_call (va_runS (As := [.int (iI (r0)), .int (iI (p0))]) (rest := []) S ((kX2_isSpot l D  r0 p0 (by first | assumption | omega) (by first | assumption | omega) (by first | assumption | omega) (by first | assumption | omega)) H.size) (va_cwS 2 hts gX2_prune_X2_isSpot rfl rfl rfl (by decide +kernel) ⟨Nat.le_of_ble_eq_true rfl, Nat.le_of_ble_eq_true rfl⟩) (g_preS gEx_t hK [] rfl hPc hDc (fun _ _ _ => trivial)) rfl rfl hl.1 rfl (lv_room (Nat.le_of_ble_eq_true rfl)) dX2_prune_7 ⟨Nat.le_of_ble_eq_true rfl, Nat.le_of_ble_eq_true rfl⟩) hPc hDc hS hA (fun κ9 H locs hk hP hD hS => ?_)
  have hP : va_P D vwCl (MW cI d (su σ 6 0 (0))) H := hP
  have hD : va_D A (MW cI d (su σ 6 0 (0))) := hD
  show W p l e ({ frames := 4, cells := 2, slots := 10, locals := 120 } : Room) s m args below meth c H locs 0 0 (MQ below (gQ D (tyMs cI cZ cQ) (fun κ' => MW cI d (mRes (tPrune r0 p0 c0) (mBo (mZ σ) r0 p0 1 c0 0) σ)) A (fun _ => some (.int (iI (mVal (tPrune r0 p0 c0) (mBoA (mZ σ) r0 p0 1 c0 0))))) (fun _ => True)) args s 2 10 A) (F0 m 10 ls [.int (iI (bI ((0 ≤ r0 ∧ r0 ≤ 4) ∧ 0 ≤ p0 ∧ p0 ≤ 7)))])
  refine gb_if_ne (tgt := 19) hx hb dX2_prune_10 (by decide)  (fun c10 => ?_) (fun c10 => ?_)
  · skip
    refine lv_iload_n hx hb dX2_prune_19 rfl (lv_at hl 3 rfl) ?_
    refine lv_iconst (v := iI (1)) hx hb dX2_prune_20 rfl ?_
    refine lv_bipush (v := iI (9)) hx hb dX2_prune_21 rfl ?_
    have hPc : va_P D vwCl ([] ++ (MW cI d (su σ 6 0 (0)))) H := hP
    have hDc : va_D A ([] ++ (MW cI d (su σ 6 0 (0)))) := hD
    refine g_call (va_runS (As := [.int (iI (c0)), .int (iI (1)), .int (iI (9))]) (rest := []) S ((kX2_isIn l D  c0 1 9 (by first | assumption | omega) (by first | assumption | omega) (by first | assumption | omega) (by first | assumption | omega) (by first | assumption | omega) (by first | assumption | omega)) H.size) (va_cwS 3 hts gX2_prune_X2_isIn rfl rfl rfl (by decide +kernel) ⟨Nat.le_of_ble_eq_true rfl, Nat.le_of_ble_eq_true rfl⟩) (g_preS gEx_t hK [] rfl hPc hDc (fun _ _ _ => trivial)) rfl rfl hl.1 rfl (lv_room (Nat.le_of_ble_eq_true rfl)) dX2_prune_23 ⟨Nat.le_of_ble_eq_true rfl, Nat.le_of_ble_eq_true rfl⟩) hPc hDc hS hA (fun κ9 H locs hk hP hD hS => ?_)
    have hP : va_P D vwCl (MW cI d (su σ 6 0 (0))) H := hP
    have hD : va_D A (MW cI d (su σ 6 0 (0))) := hD
    show W p l e ({ frames := 4, cells := 2, slots := 10, locals := 120 } : Room) s m args below meth c H locs 0 0 (MQ below (gQ D (tyMs cI cZ cQ) (fun κ' => MW cI d (mRes (tPrune r0 p0 c0) (mBo (mZ σ) r0 p0 1 c0 0) σ)) A (fun _ => some (.int (iI (mVal (tPrune r0 p0 c0) (mBoA (mZ σ) r0 p0 1 c0 0))))) (fun _ => True)) args s 2 10 A) (F0 m 26 ls [.int (iI (bI (1 ≤ c0 ∧ c0 ≤ 9)))])
    refine gb_if_eq (tgt := 41) hx hb dX2_prune_26 (by decide)  (fun c26 => ?_) (fun c26 => ?_)
    · skip
      refine lv_aload_n hx hb dX2_prune_41 rfl (lv_at hl 0 rfl) ?_
      refine lv_iconst (v := iI (2)) hx hb dX2_prune_42 rfl ?_
      have hPc : va_P D vwCl (MW cI d (su σ 6 0 (0)) ++ []) H := by rw [List.append_nil]; exact hP
      have hDc : va_D A (MW cI d (su σ 6 0 (0)) ++ []) := by rw [List.append_nil]; exact hD
      refine g_call (va_runV (As := [.int (iI (2))]) (rest := []) S ((kX2_fail l D cI cZ cQ d (su σ 6 0 (0)) 2 ) H.size) (cwV 1 hts gX2_prune_X2_fail rfl rfl rfl (by decide +kernel) ⟨Nat.le_of_ble_eq_true rfl, Nat.le_of_ble_eq_true rfl⟩) (g_preV gEx_t hK [0, 1, 2] rfl hPc hDc (fun _ _ _ => trivial) (q0 := 0) (ci := 2) rfl rfl rfl) rfl rfl hl.1 rfl (lv_room (Nat.le_of_ble_eq_true rfl)) dX2_prune_43 ⟨Nat.le_of_ble_eq_true rfl, Nat.le_of_ble_eq_true rfl⟩) hPc hDc hS hA (fun κ9 H locs hk hP hD hS => ?_)
      have hP : va_P D vwCl (MW cI d (su (su σ 6 0 (0)) 6 0 2)) H := by have h9 : va_P D vwCl (MW cI d (su (su σ 6 0 (0)) 6 0 2) ++ []) H := hP; rw [List.append_nil] at h9; exact h9
      have hD : va_D A (MW cI d (su (su σ 6 0 (0)) 6 0 2)) := by have h9 : va_D A (MW cI d (su (su σ 6 0 (0)) 6 0 2) ++ []) := hD; rw [List.append_nil] at h9; exact h9
      show W p l e ({ frames := 4, cells := 2, slots := 10, locals := 120 } : Room) s m args below meth c H locs 0 0 (MQ below (gQ D (tyMs cI cZ cQ) (fun κ' => MW cI d (mRes (tPrune r0 p0 c0) (mBo (mZ σ) r0 p0 1 c0 0) σ)) A (fun _ => some (.int (iI (mVal (tPrune r0 p0 c0) (mBoA (mZ σ) r0 p0 1 c0 0))))) (fun _ => True)) args s 2 10 A) (F0 m 46 ls [.int (iI (0))])
      have es : (mRes (tPrune r0 p0 c0) (mBo (mZ σ) r0 p0 1 c0 0) σ) = (su (su σ 6 0 (0)) 6 0 2) := by first | (rw [show tPrune r0 p0 c0 = 1 from by unfold tPrune; rw [if_pos (by omega)]]; rfl) | (rw [show tPrune r0 p0 c0 = 2 from by unfold tPrune; rw [if_neg (by omega), if_pos (by omega)]]; rfl) | (rw [show tPrune r0 p0 c0 = 0 from by unfold tPrune; rw [if_neg (by omega), if_neg (by omega)]]; rfl)
      have er : ((mVal (tPrune r0 p0 c0) (mBoA (mZ σ) r0 p0 1 c0 0) : Int)) = (0) := by first | (rw [show tPrune r0 p0 c0 = 1 from by unfold tPrune; rw [if_pos (by omega)]]; rfl) | (rw [show tPrune r0 p0 c0 = 2 from by unfold tPrune; rw [if_neg (by omega), if_pos (by omega)]]; rfl) | (rw [show tPrune r0 p0 c0 = 0 from by unfold tPrune; rw [if_neg (by omega), if_neg (by omega)]]; rfl)
      exact g_iret (wo := (fun κ' => MW cI d (mRes (tPrune r0 p0 c0) (mBo (mZ σ) r0 p0 1 c0 0) σ))) (kr := (fun _ => True)) (rv := (fun _ => some (.int (iI (mVal (tPrune r0 p0 c0) (mBoA (mZ σ) r0 p0 1 c0 0)))))) hx hb hr hlocks (fun _ _ => 0) rfl (by rw [es]; exact hP) hK (by rw [es]; exact hD) hS trivial (by rw [er]) (Nat.le_of_ble_eq_true rfl) (Nat.le_of_ble_eq_true rfl) dX2_prune_46
    · skip
      refine lv_aload_n hx hb dX2_prune_29 rfl (lv_at hl 0 rfl) ?_
      refine lv_iload_n hx hb dX2_prune_30 rfl (lv_at hl 1 rfl) ?_
      refine lv_iload_n hx hb dX2_prune_31 rfl (lv_at hl 2 rfl) ?_
      refine lv_iconst (v := iI (1)) hx hb dX2_prune_32 rfl ?_
      refine lv_iload_n hx hb dX2_prune_33 rfl (lv_at hl 3 rfl) ?_
      refine lv_iconst (v := iI (0)) hx hb dX2_prune_34 rfl ?_
      have hPc : va_P D vwCl (MW cI d (su σ 6 0 (0)) ++ []) H := by rw [List.append_nil]; exact hP
      have hDc : va_D A (MW cI d (su σ 6 0 (0)) ++ []) := by rw [List.append_nil]; exact hD
      refine g_call (va_runV (As := [.int (iI (r0)), .int (iI (p0)), .int (iI (1)), .int (iI (c0)), .int (iI (0))]) (rest := []) S ((kX2_both l D cI cZ cQ d (su σ 6 0 (0)) r0 p0 1 c0 0 (by first | assumption | omega) (by first | assumption | omega) (by first | assumption | omega) (by unfold mArg; omega) (by first | assumption | omega) (by first | assumption | omega) (mWF_6 hwf _ _)) H.size) (cwV 5 hts gX2_prune_X2_both rfl rfl rfl (by decide +kernel) ⟨Nat.le_of_ble_eq_true rfl, Nat.le_of_ble_eq_true rfl⟩) (g_preV (mEx_g _) hK [0, 1, 2] rfl hPc hDc (fun U hU hW => mEx_w hE hDc hS hA hU hW) (q0 := 0) (ci := 2) rfl rfl rfl) rfl rfl hl.1 rfl (lv_room (Nat.le_of_ble_eq_true rfl)) dX2_prune_35 ⟨Nat.le_of_ble_eq_true rfl, Nat.le_of_ble_eq_true rfl⟩) hPc hDc hS hA (fun κ9 H locs hk hP hD hS => ?_)
      have hP : va_P D vwCl (MW cI d (mBo (su σ 6 0 (0)) r0 p0 1 c0 0)) H := by have h9 : va_P D vwCl (MW cI d (mBo (su σ 6 0 (0)) r0 p0 1 c0 0) ++ []) H := hP; rw [List.append_nil] at h9; exact h9
      have hD : va_D A (MW cI d (mBo (su σ 6 0 (0)) r0 p0 1 c0 0)) := by have h9 : va_D A (MW cI d (mBo (su σ 6 0 (0)) r0 p0 1 c0 0) ++ []) := hD; rw [List.append_nil] at h9; exact h9
      show W p l e ({ frames := 4, cells := 2, slots := 10, locals := 120 } : Room) s m args below meth c H locs 2 10 (MQ below (gQ D (tyMs cI cZ cQ) (fun κ' => MW cI d (mRes (tPrune r0 p0 c0) (mBo (mZ σ) r0 p0 1 c0 0) σ)) A (fun _ => some (.int (iI (mVal (tPrune r0 p0 c0) (mBoA (mZ σ) r0 p0 1 c0 0))))) (fun _ => True)) args s 2 10 A) (F0 m 38 ls [.int (iI (mBoA (su σ 6 0 (0)) r0 p0 1 c0 0))])
      refine lv_goto (tgt := 46) hx hb dX2_prune_38 (by decide) ?_
      have es : (mRes (tPrune r0 p0 c0) (mBo (mZ σ) r0 p0 1 c0 0) σ) = (mBo (su σ 6 0 (0)) r0 p0 1 c0 0) := by first | (rw [show tPrune r0 p0 c0 = 1 from by unfold tPrune; rw [if_pos (by omega)]]; rfl) | (rw [show tPrune r0 p0 c0 = 2 from by unfold tPrune; rw [if_neg (by omega), if_pos (by omega)]]; rfl) | (rw [show tPrune r0 p0 c0 = 0 from by unfold tPrune; rw [if_neg (by omega), if_neg (by omega)]]; rfl)
      have er : ((mVal (tPrune r0 p0 c0) (mBoA (mZ σ) r0 p0 1 c0 0) : Int)) = (mBoA (su σ 6 0 (0)) r0 p0 1 c0 0) := by first | (rw [show tPrune r0 p0 c0 = 1 from by unfold tPrune; rw [if_pos (by omega)]]; rfl) | (rw [show tPrune r0 p0 c0 = 2 from by unfold tPrune; rw [if_neg (by omega), if_pos (by omega)]]; rfl) | (rw [show tPrune r0 p0 c0 = 0 from by unfold tPrune; rw [if_neg (by omega), if_neg (by omega)]]; rfl)
      exact g_iret (wo := (fun κ' => MW cI d (mRes (tPrune r0 p0 c0) (mBo (mZ σ) r0 p0 1 c0 0) σ))) (kr := (fun _ => True)) (rv := (fun _ => some (.int (iI (mVal (tPrune r0 p0 c0) (mBoA (mZ σ) r0 p0 1 c0 0)))))) hx hb hr hlocks (fun _ _ => 0) rfl (by rw [es]; exact hP) hK (by rw [es]; exact hD) hS trivial (by rw [er]) (Nat.le_of_ble_eq_true rfl) (Nat.le_of_ble_eq_true rfl) dX2_prune_46
  · skip
    refine lv_aload_n hx hb dX2_prune_13 rfl (lv_at hl 0 rfl) ?_
    refine lv_iconst (v := iI (1)) hx hb dX2_prune_14 rfl ?_
    have hPc : va_P D vwCl (MW cI d (su σ 6 0 (0)) ++ []) H := by rw [List.append_nil]; exact hP
    have hDc : va_D A (MW cI d (su σ 6 0 (0)) ++ []) := by rw [List.append_nil]; exact hD
    refine g_call (va_runV (As := [.int (iI (1))]) (rest := []) S ((kX2_fail l D cI cZ cQ d (su σ 6 0 (0)) 1 ) H.size) (cwV 1 hts gX2_prune_X2_fail rfl rfl rfl (by decide +kernel) ⟨Nat.le_of_ble_eq_true rfl, Nat.le_of_ble_eq_true rfl⟩) (g_preV gEx_t hK [0, 1, 2] rfl hPc hDc (fun _ _ _ => trivial) (q0 := 0) (ci := 2) rfl rfl rfl) rfl rfl hl.1 rfl (lv_room (Nat.le_of_ble_eq_true rfl)) dX2_prune_15 ⟨Nat.le_of_ble_eq_true rfl, Nat.le_of_ble_eq_true rfl⟩) hPc hDc hS hA (fun κ9 H locs hk hP hD hS => ?_)
    have hP : va_P D vwCl (MW cI d (su (su σ 6 0 (0)) 6 0 1)) H := by have h9 : va_P D vwCl (MW cI d (su (su σ 6 0 (0)) 6 0 1) ++ []) H := hP; rw [List.append_nil] at h9; exact h9
    have hD : va_D A (MW cI d (su (su σ 6 0 (0)) 6 0 1)) := by have h9 : va_D A (MW cI d (su (su σ 6 0 (0)) 6 0 1) ++ []) := hD; rw [List.append_nil] at h9; exact h9
    show W p l e ({ frames := 4, cells := 2, slots := 10, locals := 120 } : Room) s m args below meth c H locs 0 0 (MQ below (gQ D (tyMs cI cZ cQ) (fun κ' => MW cI d (mRes (tPrune r0 p0 c0) (mBo (mZ σ) r0 p0 1 c0 0) σ)) A (fun _ => some (.int (iI (mVal (tPrune r0 p0 c0) (mBoA (mZ σ) r0 p0 1 c0 0))))) (fun _ => True)) args s 2 10 A) (F0 m 18 ls [.int (iI (0))])
    have es : (mRes (tPrune r0 p0 c0) (mBo (mZ σ) r0 p0 1 c0 0) σ) = (su (su σ 6 0 (0)) 6 0 1) := by first | (rw [show tPrune r0 p0 c0 = 1 from by unfold tPrune; rw [if_pos (by omega)]]; rfl) | (rw [show tPrune r0 p0 c0 = 2 from by unfold tPrune; rw [if_neg (by omega), if_pos (by omega)]]; rfl) | (rw [show tPrune r0 p0 c0 = 0 from by unfold tPrune; rw [if_neg (by omega), if_neg (by omega)]]; rfl)
    have er : ((mVal (tPrune r0 p0 c0) (mBoA (mZ σ) r0 p0 1 c0 0) : Int)) = (0) := by first | (rw [show tPrune r0 p0 c0 = 1 from by unfold tPrune; rw [if_pos (by omega)]]; rfl) | (rw [show tPrune r0 p0 c0 = 2 from by unfold tPrune; rw [if_neg (by omega), if_pos (by omega)]]; rfl) | (rw [show tPrune r0 p0 c0 = 0 from by unfold tPrune; rw [if_neg (by omega), if_neg (by omega)]]; rfl)
    exact g_iret (wo := (fun κ' => MW cI d (mRes (tPrune r0 p0 c0) (mBo (mZ σ) r0 p0 1 c0 0) σ))) (kr := (fun _ => True)) (rv := (fun _ => some (.int (iI (mVal (tPrune r0 p0 c0) (mBoA (mZ σ) r0 p0 1 c0 0)))))) hx hb hr hlocks (fun _ _ => 0) rfl (by rw [es]; exact hP) hK (by rw [es]; exact hD) hS trivial (by rw [er]) (Nat.le_of_ble_eq_true rfl) (Nat.le_of_ble_eq_true rfl) dX2_prune_18
set_option maxHeartbeats 4000000 in
set_option maxRecDepth 100000 in
theorem kX2_graft (l : Launch) (D : va_G) (cI cZ cQ : ClassId) (d : Nat → Nat) (σ : St)  (r0 : Int) (p0 : Int) (n0 : Int) (hl_r0 : -2147483648 ≤ r0) (hh_r0 : r0 ≤ 2147483647) (hl_p0 : -2147483648 ≤ p0) (hh_p0 : p0 ≤ 2147483647) (hl_n0 : -2147483648 ≤ n0) (hh_n0 : n0 ≤ 2147483647) (hwf : mWF σ) : gMet l yX2_graft wsX2_graft ({ frames := 4, cells := 2, slots := 10, locals := 120 } : Room) D (tyMs cI cZ cQ) (MW cI d σ) [.ref (d 0), .int (iI r0), .int (iI p0), .int (iI n0)] (mEx (MW cI d σ)) (fun _ => some (.int (iI (mVal (tGraft r0 p0 n0) (mBoA (mZ σ) r0 p0 2 n0 0))))) (fun _ => True) (fun κ' => MW cI d (mRes (tGraft r0 p0 n0) (mBo (mZ σ) r0 p0 2 n0 0) σ)) := by
  refine g_startM (cc := cX2_graft) (maxL := 4) (ret := (some .int)) (by decide) rfl (Nat.le_of_ble_eq_true rfl) ?_
  intro p e s m args below meth c A ls H locs S hr hlocks hname hP hK hD hA hS hE hl
  have S0 := S
  obtain ⟨hx, hb, hml, hown, hts⟩ := S0
  have hl : lv_has ls 4 [(0, .ref (d 0)), (1, .int (iI (r0))), (2, .int (iI (p0))), (3, .int (iI (n0)))] := hl
  have hinX2 : ∀ w ∈ wsX20, w ∈ wsX2_graft := by decide +kernel
  refine lv_aload_n hx hb dX2_graft_0 rfl (lv_at hl 0 rfl) ?_
  refine lv_iconst (v := iI (0)) hx hb dX2_graft_1 rfl ?_
  refine va_put (D := D) (ci := 2) (v := .int (iI (0))) (ty := .int) (C := RX2) (T := TX2) (N := 8) hx hb hts hinX2 tyX2 tyX2_ok nmX2 hown hK hP hD hS 0 rfl rfl 0 (by decide) (hts (.fieldLink RX2 28 "TwinOrchardModel" "thrown" "I") (List.mem_of_getElem? (i := 1) rfl)) (fun _ h9 => h9) rfl (by decide +kernel) rfl rfl (Nat.le_of_ble_eq_true rfl) dX2_graft_2 (fun H locs hP hD hS => ?_)
  have hP : va_P D vwCl (MW cI d (su σ 6 0 (0))) H := hP
  have hD : va_D A (MW cI d (su σ 6 0 (0))) := hD
  refine lv_iload_n hx hb dX2_graft_5 rfl (lv_at hl 1 rfl) ?_
  refine lv_iload_n hx hb dX2_graft_6 rfl (lv_at hl 2 rfl) ?_
  have hPc : va_P D vwCl ([] ++ (MW cI d (su σ 6 0 (0)))) H := hP
  have hDc : va_D A ([] ++ (MW cI d (su σ 6 0 (0)))) := hD
  refine g_call (va_runS (As := [.int (iI (r0)), .int (iI (p0))]) (rest := []) S ((kX2_isSpot l D  r0 p0 (by first | assumption | omega) (by first | assumption | omega) (by first | assumption | omega) (by first | assumption | omega)) H.size) (va_cwS 2 hts gX2_graft_X2_isSpot rfl rfl rfl (by decide +kernel) ⟨Nat.le_of_ble_eq_true rfl, Nat.le_of_ble_eq_true rfl⟩) (g_preS gEx_t hK [] rfl hPc hDc (fun _ _ _ => trivial)) rfl rfl hl.1 rfl (lv_room (Nat.le_of_ble_eq_true rfl)) dX2_graft_7 ⟨Nat.le_of_ble_eq_true rfl, Nat.le_of_ble_eq_true rfl⟩) hPc hDc hS hA (fun κ9 H locs hk hP hD hS => ?_)
  have hP : va_P D vwCl (MW cI d (su σ 6 0 (0))) H := hP
  have hD : va_D A (MW cI d (su σ 6 0 (0))) := hD
  show W p l e ({ frames := 4, cells := 2, slots := 10, locals := 120 } : Room) s m args below meth c H locs 0 0 (MQ below (gQ D (tyMs cI cZ cQ) (fun κ' => MW cI d (mRes (tGraft r0 p0 n0) (mBo (mZ σ) r0 p0 2 n0 0) σ)) A (fun _ => some (.int (iI (mVal (tGraft r0 p0 n0) (mBoA (mZ σ) r0 p0 2 n0 0))))) (fun _ => True)) args s 2 10 A) (F0 m 10 ls [.int (iI (bI ((0 ≤ r0 ∧ r0 ≤ 4) ∧ 0 ≤ p0 ∧ p0 ≤ 7)))])
  refine gb_if_ne (tgt := 19) hx hb dX2_graft_10 (by decide)  (fun c10 => ?_) (fun c10 => ?_)
  · skip
    refine lv_iload_n hx hb dX2_graft_19 rfl (lv_at hl 3 rfl) ?_
    have hPc : va_P D vwCl ([] ++ (MW cI d (su σ 6 0 (0)))) H := hP
    have hDc : va_D A ([] ++ (MW cI d (su σ 6 0 (0)))) := hD
    refine g_call (va_runS (As := [.int (iI (n0))]) (rest := []) S ((kX2_isSort l D  n0 (by first | assumption | omega) (by first | assumption | omega)) H.size) (va_cwS 1 hts gX2_graft_X2_isSort rfl rfl rfl (by decide +kernel) ⟨Nat.le_of_ble_eq_true rfl, Nat.le_of_ble_eq_true rfl⟩) (g_preS gEx_t hK [] rfl hPc hDc (fun _ _ _ => trivial)) rfl rfl hl.1 rfl (lv_room (Nat.le_of_ble_eq_true rfl)) dX2_graft_20 ⟨Nat.le_of_ble_eq_true rfl, Nat.le_of_ble_eq_true rfl⟩) hPc hDc hS hA (fun κ9 H locs hk hP hD hS => ?_)
    have hP : va_P D vwCl (MW cI d (su σ 6 0 (0))) H := hP
    have hD : va_D A (MW cI d (su σ 6 0 (0))) := hD
    show W p l e ({ frames := 4, cells := 2, slots := 10, locals := 120 } : Room) s m args below meth c H locs 0 0 (MQ below (gQ D (tyMs cI cZ cQ) (fun κ' => MW cI d (mRes (tGraft r0 p0 n0) (mBo (mZ σ) r0 p0 2 n0 0) σ)) A (fun _ => some (.int (iI (mVal (tGraft r0 p0 n0) (mBoA (mZ σ) r0 p0 2 n0 0))))) (fun _ => True)) args s 2 10 A) (F0 m 23 ls [.int (iI (bI (0 ≤ n0 ∧ n0 ≤ 5)))])
    refine gb_if_eq (tgt := 38) hx hb dX2_graft_23 (by decide)  (fun c23 => ?_) (fun c23 => ?_)
    · skip
      refine lv_aload_n hx hb dX2_graft_38 rfl (lv_at hl 0 rfl) ?_
      refine lv_iconst (v := iI (2)) hx hb dX2_graft_39 rfl ?_
      have hPc : va_P D vwCl (MW cI d (su σ 6 0 (0)) ++ []) H := by rw [List.append_nil]; exact hP
      have hDc : va_D A (MW cI d (su σ 6 0 (0)) ++ []) := by rw [List.append_nil]; exact hD
      refine g_call (va_runV (As := [.int (iI (2))]) (rest := []) S ((kX2_fail l D cI cZ cQ d (su σ 6 0 (0)) 2 ) H.size) (cwV 1 hts gX2_graft_X2_fail rfl rfl rfl (by decide +kernel) ⟨Nat.le_of_ble_eq_true rfl, Nat.le_of_ble_eq_true rfl⟩) (g_preV gEx_t hK [0, 1, 2] rfl hPc hDc (fun _ _ _ => trivial) (q0 := 0) (ci := 2) rfl rfl rfl) rfl rfl hl.1 rfl (lv_room (Nat.le_of_ble_eq_true rfl)) dX2_graft_40 ⟨Nat.le_of_ble_eq_true rfl, Nat.le_of_ble_eq_true rfl⟩) hPc hDc hS hA (fun κ9 H locs hk hP hD hS => ?_)
      have hP : va_P D vwCl (MW cI d (su (su σ 6 0 (0)) 6 0 2)) H := by have h9 : va_P D vwCl (MW cI d (su (su σ 6 0 (0)) 6 0 2) ++ []) H := hP; rw [List.append_nil] at h9; exact h9
      have hD : va_D A (MW cI d (su (su σ 6 0 (0)) 6 0 2)) := by have h9 : va_D A (MW cI d (su (su σ 6 0 (0)) 6 0 2) ++ []) := hD; rw [List.append_nil] at h9; exact h9
      show W p l e ({ frames := 4, cells := 2, slots := 10, locals := 120 } : Room) s m args below meth c H locs 0 0 (MQ below (gQ D (tyMs cI cZ cQ) (fun κ' => MW cI d (mRes (tGraft r0 p0 n0) (mBo (mZ σ) r0 p0 2 n0 0) σ)) A (fun _ => some (.int (iI (mVal (tGraft r0 p0 n0) (mBoA (mZ σ) r0 p0 2 n0 0))))) (fun _ => True)) args s 2 10 A) (F0 m 43 ls [.int (iI (0))])
      have es : (mRes (tGraft r0 p0 n0) (mBo (mZ σ) r0 p0 2 n0 0) σ) = (su (su σ 6 0 (0)) 6 0 2) := by first | (rw [show tGraft r0 p0 n0 = 1 from by unfold tGraft; rw [if_pos (by omega)]]; rfl) | (rw [show tGraft r0 p0 n0 = 2 from by unfold tGraft; rw [if_neg (by omega), if_pos (by omega)]]; rfl) | (rw [show tGraft r0 p0 n0 = 0 from by unfold tGraft; rw [if_neg (by omega), if_neg (by omega)]]; rfl)
      have er : ((mVal (tGraft r0 p0 n0) (mBoA (mZ σ) r0 p0 2 n0 0) : Int)) = (0) := by first | (rw [show tGraft r0 p0 n0 = 1 from by unfold tGraft; rw [if_pos (by omega)]]; rfl) | (rw [show tGraft r0 p0 n0 = 2 from by unfold tGraft; rw [if_neg (by omega), if_pos (by omega)]]; rfl) | (rw [show tGraft r0 p0 n0 = 0 from by unfold tGraft; rw [if_neg (by omega), if_neg (by omega)]]; rfl)
      exact g_iret (wo := (fun κ' => MW cI d (mRes (tGraft r0 p0 n0) (mBo (mZ σ) r0 p0 2 n0 0) σ))) (kr := (fun _ => True)) (rv := (fun _ => some (.int (iI (mVal (tGraft r0 p0 n0) (mBoA (mZ σ) r0 p0 2 n0 0)))))) hx hb hr hlocks (fun _ _ => 0) rfl (by rw [es]; exact hP) hK (by rw [es]; exact hD) hS trivial (by rw [er]) (Nat.le_of_ble_eq_true rfl) (Nat.le_of_ble_eq_true rfl) dX2_graft_43
    · skip
      refine lv_aload_n hx hb dX2_graft_26 rfl (lv_at hl 0 rfl) ?_
      refine lv_iload_n hx hb dX2_graft_27 rfl (lv_at hl 1 rfl) ?_
      refine lv_iload_n hx hb dX2_graft_28 rfl (lv_at hl 2 rfl) ?_
      refine lv_iconst (v := iI (2)) hx hb dX2_graft_29 rfl ?_
      refine lv_iload_n hx hb dX2_graft_30 rfl (lv_at hl 3 rfl) ?_
      refine lv_iconst (v := iI (0)) hx hb dX2_graft_31 rfl ?_
      have hPc : va_P D vwCl (MW cI d (su σ 6 0 (0)) ++ []) H := by rw [List.append_nil]; exact hP
      have hDc : va_D A (MW cI d (su σ 6 0 (0)) ++ []) := by rw [List.append_nil]; exact hD
      refine g_call (va_runV (As := [.int (iI (r0)), .int (iI (p0)), .int (iI (2)), .int (iI (n0)), .int (iI (0))]) (rest := []) S ((kX2_both l D cI cZ cQ d (su σ 6 0 (0)) r0 p0 2 n0 0 (by first | assumption | omega) (by first | assumption | omega) (by first | assumption | omega) (by unfold mArg; omega) (by first | assumption | omega) (by first | assumption | omega) (mWF_6 hwf _ _)) H.size) (cwV 5 hts gX2_graft_X2_both rfl rfl rfl (by decide +kernel) ⟨Nat.le_of_ble_eq_true rfl, Nat.le_of_ble_eq_true rfl⟩) (g_preV (mEx_g _) hK [0, 1, 2] rfl hPc hDc (fun U hU hW => mEx_w hE hDc hS hA hU hW) (q0 := 0) (ci := 2) rfl rfl rfl) rfl rfl hl.1 rfl (lv_room (Nat.le_of_ble_eq_true rfl)) dX2_graft_32 ⟨Nat.le_of_ble_eq_true rfl, Nat.le_of_ble_eq_true rfl⟩) hPc hDc hS hA (fun κ9 H locs hk hP hD hS => ?_)
      have hP : va_P D vwCl (MW cI d (mBo (su σ 6 0 (0)) r0 p0 2 n0 0)) H := by have h9 : va_P D vwCl (MW cI d (mBo (su σ 6 0 (0)) r0 p0 2 n0 0) ++ []) H := hP; rw [List.append_nil] at h9; exact h9
      have hD : va_D A (MW cI d (mBo (su σ 6 0 (0)) r0 p0 2 n0 0)) := by have h9 : va_D A (MW cI d (mBo (su σ 6 0 (0)) r0 p0 2 n0 0) ++ []) := hD; rw [List.append_nil] at h9; exact h9
      show W p l e ({ frames := 4, cells := 2, slots := 10, locals := 120 } : Room) s m args below meth c H locs 2 10 (MQ below (gQ D (tyMs cI cZ cQ) (fun κ' => MW cI d (mRes (tGraft r0 p0 n0) (mBo (mZ σ) r0 p0 2 n0 0) σ)) A (fun _ => some (.int (iI (mVal (tGraft r0 p0 n0) (mBoA (mZ σ) r0 p0 2 n0 0))))) (fun _ => True)) args s 2 10 A) (F0 m 35 ls [.int (iI (mBoA (su σ 6 0 (0)) r0 p0 2 n0 0))])
      refine lv_goto (tgt := 43) hx hb dX2_graft_35 (by decide) ?_
      have es : (mRes (tGraft r0 p0 n0) (mBo (mZ σ) r0 p0 2 n0 0) σ) = (mBo (su σ 6 0 (0)) r0 p0 2 n0 0) := by first | (rw [show tGraft r0 p0 n0 = 1 from by unfold tGraft; rw [if_pos (by omega)]]; rfl) | (rw [show tGraft r0 p0 n0 = 2 from by unfold tGraft; rw [if_neg (by omega), if_pos (by omega)]]; rfl) | (rw [show tGraft r0 p0 n0 = 0 from by unfold tGraft; rw [if_neg (by omega), if_neg (by omega)]]; rfl)
      have er : ((mVal (tGraft r0 p0 n0) (mBoA (mZ σ) r0 p0 2 n0 0) : Int)) = (mBoA (su σ 6 0 (0)) r0 p0 2 n0 0) := by first | (rw [show tGraft r0 p0 n0 = 1 from by unfold tGraft; rw [if_pos (by omega)]]; rfl) | (rw [show tGraft r0 p0 n0 = 2 from by unfold tGraft; rw [if_neg (by omega), if_pos (by omega)]]; rfl) | (rw [show tGraft r0 p0 n0 = 0 from by unfold tGraft; rw [if_neg (by omega), if_neg (by omega)]]; rfl)
      exact g_iret (wo := (fun κ' => MW cI d (mRes (tGraft r0 p0 n0) (mBo (mZ σ) r0 p0 2 n0 0) σ))) (kr := (fun _ => True)) (rv := (fun _ => some (.int (iI (mVal (tGraft r0 p0 n0) (mBoA (mZ σ) r0 p0 2 n0 0)))))) hx hb hr hlocks (fun _ _ => 0) rfl (by rw [es]; exact hP) hK (by rw [es]; exact hD) hS trivial (by rw [er]) (Nat.le_of_ble_eq_true rfl) (Nat.le_of_ble_eq_true rfl) dX2_graft_43
  · skip
    refine lv_aload_n hx hb dX2_graft_13 rfl (lv_at hl 0 rfl) ?_
    refine lv_iconst (v := iI (1)) hx hb dX2_graft_14 rfl ?_
    have hPc : va_P D vwCl (MW cI d (su σ 6 0 (0)) ++ []) H := by rw [List.append_nil]; exact hP
    have hDc : va_D A (MW cI d (su σ 6 0 (0)) ++ []) := by rw [List.append_nil]; exact hD
    refine g_call (va_runV (As := [.int (iI (1))]) (rest := []) S ((kX2_fail l D cI cZ cQ d (su σ 6 0 (0)) 1 ) H.size) (cwV 1 hts gX2_graft_X2_fail rfl rfl rfl (by decide +kernel) ⟨Nat.le_of_ble_eq_true rfl, Nat.le_of_ble_eq_true rfl⟩) (g_preV gEx_t hK [0, 1, 2] rfl hPc hDc (fun _ _ _ => trivial) (q0 := 0) (ci := 2) rfl rfl rfl) rfl rfl hl.1 rfl (lv_room (Nat.le_of_ble_eq_true rfl)) dX2_graft_15 ⟨Nat.le_of_ble_eq_true rfl, Nat.le_of_ble_eq_true rfl⟩) hPc hDc hS hA (fun κ9 H locs hk hP hD hS => ?_)
    have hP : va_P D vwCl (MW cI d (su (su σ 6 0 (0)) 6 0 1)) H := by have h9 : va_P D vwCl (MW cI d (su (su σ 6 0 (0)) 6 0 1) ++ []) H := hP; rw [List.append_nil] at h9; exact h9
    have hD : va_D A (MW cI d (su (su σ 6 0 (0)) 6 0 1)) := by have h9 : va_D A (MW cI d (su (su σ 6 0 (0)) 6 0 1) ++ []) := hD; rw [List.append_nil] at h9; exact h9
    show W p l e ({ frames := 4, cells := 2, slots := 10, locals := 120 } : Room) s m args below meth c H locs 0 0 (MQ below (gQ D (tyMs cI cZ cQ) (fun κ' => MW cI d (mRes (tGraft r0 p0 n0) (mBo (mZ σ) r0 p0 2 n0 0) σ)) A (fun _ => some (.int (iI (mVal (tGraft r0 p0 n0) (mBoA (mZ σ) r0 p0 2 n0 0))))) (fun _ => True)) args s 2 10 A) (F0 m 18 ls [.int (iI (0))])
    have es : (mRes (tGraft r0 p0 n0) (mBo (mZ σ) r0 p0 2 n0 0) σ) = (su (su σ 6 0 (0)) 6 0 1) := by first | (rw [show tGraft r0 p0 n0 = 1 from by unfold tGraft; rw [if_pos (by omega)]]; rfl) | (rw [show tGraft r0 p0 n0 = 2 from by unfold tGraft; rw [if_neg (by omega), if_pos (by omega)]]; rfl) | (rw [show tGraft r0 p0 n0 = 0 from by unfold tGraft; rw [if_neg (by omega), if_neg (by omega)]]; rfl)
    have er : ((mVal (tGraft r0 p0 n0) (mBoA (mZ σ) r0 p0 2 n0 0) : Int)) = (0) := by first | (rw [show tGraft r0 p0 n0 = 1 from by unfold tGraft; rw [if_pos (by omega)]]; rfl) | (rw [show tGraft r0 p0 n0 = 2 from by unfold tGraft; rw [if_neg (by omega), if_pos (by omega)]]; rfl) | (rw [show tGraft r0 p0 n0 = 0 from by unfold tGraft; rw [if_neg (by omega), if_neg (by omega)]]; rfl)
    exact g_iret (wo := (fun κ' => MW cI d (mRes (tGraft r0 p0 n0) (mBo (mZ σ) r0 p0 2 n0 0) σ))) (kr := (fun _ => True)) (rv := (fun _ => some (.int (iI (mVal (tGraft r0 p0 n0) (mBoA (mZ σ) r0 p0 2 n0 0)))))) hx hb hr hlocks (fun _ _ => 0) rfl (by rw [es]; exact hP) hK (by rw [es]; exact hD) hS trivial (by rw [er]) (Nat.le_of_ble_eq_true rfl) (Nat.le_of_ble_eq_true rfl) dX2_graft_18
set_option maxHeartbeats 4000000 in
set_option maxRecDepth 100000 in
theorem kX2_fell (l : Launch) (D : va_G) (cI cZ cQ : ClassId) (d : Nat → Nat) (σ : St)  (r0 : Int) (p0 : Int) (hl_r0 : -2147483648 ≤ r0) (hh_r0 : r0 ≤ 2147483647) (hl_p0 : -2147483648 ≤ p0) (hh_p0 : p0 ≤ 2147483647) (hwf : mWF σ) : gMet l yX2_fell wsX2_fell ({ frames := 4, cells := 2, slots := 10, locals := 120 } : Room) D (tyMs cI cZ cQ) (MW cI d σ) [.ref (d 0), .int (iI r0), .int (iI p0)] (mEx (MW cI d σ)) (fun _ => some (.int (iI (mVal (tFell r0 p0) (mBoA (mZ σ) r0 p0 3 0 0))))) (fun _ => True) (fun κ' => MW cI d (mRes (tFell r0 p0) (mBo (mZ σ) r0 p0 3 0 0) σ)) := by
  refine g_startM (cc := cX2_fell) (maxL := 3) (ret := (some .int)) (by decide) rfl (Nat.le_of_ble_eq_true rfl) ?_
  intro p e s m args below meth c A ls H locs S hr hlocks hname hP hK hD hA hS hE hl
  have S0 := S
  obtain ⟨hx, hb, hml, hown, hts⟩ := S0
  have hl : lv_has ls 3 [(0, .ref (d 0)), (1, .int (iI (r0))), (2, .int (iI (p0)))] := hl
  have hinX2 : ∀ w ∈ wsX20, w ∈ wsX2_fell := by decide +kernel
  refine lv_aload_n hx hb dX2_fell_0 rfl (lv_at hl 0 rfl) ?_
  refine lv_iconst (v := iI (0)) hx hb dX2_fell_1 rfl ?_
  refine va_put (D := D) (ci := 2) (v := .int (iI (0))) (ty := .int) (C := RX2) (T := TX2) (N := 8) hx hb hts hinX2 tyX2 tyX2_ok nmX2 hown hK hP hD hS 0 rfl rfl 0 (by decide) (hts (.fieldLink RX2 28 "TwinOrchardModel" "thrown" "I") (List.mem_of_getElem? (i := 1) rfl)) (fun _ h9 => h9) rfl (by decide +kernel) rfl rfl (Nat.le_of_ble_eq_true rfl) dX2_fell_2 (fun H locs hP hD hS => ?_)
  have hP : va_P D vwCl (MW cI d (su σ 6 0 (0))) H := hP
  have hD : va_D A (MW cI d (su σ 6 0 (0))) := hD
  refine lv_iload_n hx hb dX2_fell_5 rfl (lv_at hl 1 rfl) ?_
  refine lv_iload_n hx hb dX2_fell_6 rfl (lv_at hl 2 rfl) ?_
  have hPc : va_P D vwCl ([] ++ (MW cI d (su σ 6 0 (0)))) H := hP
  have hDc : va_D A ([] ++ (MW cI d (su σ 6 0 (0)))) := hD
  refine g_call (va_runS (As := [.int (iI (r0)), .int (iI (p0))]) (rest := []) S ((kX2_isSpot l D  r0 p0 (by first | assumption | omega) (by first | assumption | omega) (by first | assumption | omega) (by first | assumption | omega)) H.size) (va_cwS 2 hts gX2_fell_X2_isSpot rfl rfl rfl (by decide +kernel) ⟨Nat.le_of_ble_eq_true rfl, Nat.le_of_ble_eq_true rfl⟩) (g_preS gEx_t hK [] rfl hPc hDc (fun _ _ _ => trivial)) rfl rfl hl.1 rfl (lv_room (Nat.le_of_ble_eq_true rfl)) dX2_fell_7 ⟨Nat.le_of_ble_eq_true rfl, Nat.le_of_ble_eq_true rfl⟩) hPc hDc hS hA (fun κ9 H locs hk hP hD hS => ?_)
  have hP : va_P D vwCl (MW cI d (su σ 6 0 (0))) H := hP
  have hD : va_D A (MW cI d (su σ 6 0 (0))) := hD
  show W p l e ({ frames := 4, cells := 2, slots := 10, locals := 120 } : Room) s m args below meth c H locs 0 0 (MQ below (gQ D (tyMs cI cZ cQ) (fun κ' => MW cI d (mRes (tFell r0 p0) (mBo (mZ σ) r0 p0 3 0 0) σ)) A (fun _ => some (.int (iI (mVal (tFell r0 p0) (mBoA (mZ σ) r0 p0 3 0 0))))) (fun _ => True)) args s 2 10 A) (F0 m 10 ls [.int (iI (bI ((0 ≤ r0 ∧ r0 ≤ 4) ∧ 0 ≤ p0 ∧ p0 ≤ 7)))])
  refine gb_if_eq (tgt := 25) hx hb dX2_fell_10 (by decide)  (fun c10 => ?_) (fun c10 => ?_)
  · skip
    refine lv_aload_n hx hb dX2_fell_25 rfl (lv_at hl 0 rfl) ?_
    refine lv_iconst (v := iI (1)) hx hb dX2_fell_26 rfl ?_
    have hPc : va_P D vwCl (MW cI d (su σ 6 0 (0)) ++ []) H := by rw [List.append_nil]; exact hP
    have hDc : va_D A (MW cI d (su σ 6 0 (0)) ++ []) := by rw [List.append_nil]; exact hD
    refine g_call (va_runV (As := [.int (iI (1))]) (rest := []) S ((kX2_fail l D cI cZ cQ d (su σ 6 0 (0)) 1 ) H.size) (cwV 1 hts gX2_fell_X2_fail rfl rfl rfl (by decide +kernel) ⟨Nat.le_of_ble_eq_true rfl, Nat.le_of_ble_eq_true rfl⟩) (g_preV gEx_t hK [0, 1, 2] rfl hPc hDc (fun _ _ _ => trivial) (q0 := 0) (ci := 2) rfl rfl rfl) rfl rfl hl.1 rfl (lv_room (Nat.le_of_ble_eq_true rfl)) dX2_fell_27 ⟨Nat.le_of_ble_eq_true rfl, Nat.le_of_ble_eq_true rfl⟩) hPc hDc hS hA (fun κ9 H locs hk hP hD hS => ?_)
    have hP : va_P D vwCl (MW cI d (su (su σ 6 0 (0)) 6 0 1)) H := by have h9 : va_P D vwCl (MW cI d (su (su σ 6 0 (0)) 6 0 1) ++ []) H := hP; rw [List.append_nil] at h9; exact h9
    have hD : va_D A (MW cI d (su (su σ 6 0 (0)) 6 0 1)) := by have h9 : va_D A (MW cI d (su (su σ 6 0 (0)) 6 0 1) ++ []) := hD; rw [List.append_nil] at h9; exact h9
    show W p l e ({ frames := 4, cells := 2, slots := 10, locals := 120 } : Room) s m args below meth c H locs 0 0 (MQ below (gQ D (tyMs cI cZ cQ) (fun κ' => MW cI d (mRes (tFell r0 p0) (mBo (mZ σ) r0 p0 3 0 0) σ)) A (fun _ => some (.int (iI (mVal (tFell r0 p0) (mBoA (mZ σ) r0 p0 3 0 0))))) (fun _ => True)) args s 2 10 A) (F0 m 30 ls [.int (iI (0))])
    have es : (mRes (tFell r0 p0) (mBo (mZ σ) r0 p0 3 0 0) σ) = (su (su σ 6 0 (0)) 6 0 1) := by first | (rw [show tFell r0 p0 = 1 from by unfold tFell; rw [if_pos (by omega)]]; rfl) | (rw [show tFell r0 p0 = 0 from by unfold tFell; rw [if_neg (by omega)]]; rfl)
    have er : ((mVal (tFell r0 p0) (mBoA (mZ σ) r0 p0 3 0 0) : Int)) = (0) := by first | (rw [show tFell r0 p0 = 1 from by unfold tFell; rw [if_pos (by omega)]]; rfl) | (rw [show tFell r0 p0 = 0 from by unfold tFell; rw [if_neg (by omega)]]; rfl)
    exact g_iret (wo := (fun κ' => MW cI d (mRes (tFell r0 p0) (mBo (mZ σ) r0 p0 3 0 0) σ))) (kr := (fun _ => True)) (rv := (fun _ => some (.int (iI (mVal (tFell r0 p0) (mBoA (mZ σ) r0 p0 3 0 0)))))) hx hb hr hlocks (fun _ _ => 0) rfl (by rw [es]; exact hP) hK (by rw [es]; exact hD) hS trivial (by rw [er]) (Nat.le_of_ble_eq_true rfl) (Nat.le_of_ble_eq_true rfl) dX2_fell_30
  · skip
    refine lv_aload_n hx hb dX2_fell_13 rfl (lv_at hl 0 rfl) ?_
    refine lv_iload_n hx hb dX2_fell_14 rfl (lv_at hl 1 rfl) ?_
    refine lv_iload_n hx hb dX2_fell_15 rfl (lv_at hl 2 rfl) ?_
    refine lv_iconst (v := iI (3)) hx hb dX2_fell_16 rfl ?_
    refine lv_iconst (v := iI (0)) hx hb dX2_fell_17 rfl ?_
    refine lv_iconst (v := iI (0)) hx hb dX2_fell_18 rfl ?_
    have hPc : va_P D vwCl (MW cI d (su σ 6 0 (0)) ++ []) H := by rw [List.append_nil]; exact hP
    have hDc : va_D A (MW cI d (su σ 6 0 (0)) ++ []) := by rw [List.append_nil]; exact hD
    refine g_call (va_runV (As := [.int (iI (r0)), .int (iI (p0)), .int (iI (3)), .int (iI (0)), .int (iI (0))]) (rest := []) S ((kX2_both l D cI cZ cQ d (su σ 6 0 (0)) r0 p0 3 0 0 (by first | assumption | omega) (by first | assumption | omega) (by first | assumption | omega) (by unfold mArg; omega) (by first | assumption | omega) (by first | assumption | omega) (mWF_6 hwf _ _)) H.size) (cwV 5 hts gX2_fell_X2_both rfl rfl rfl (by decide +kernel) ⟨Nat.le_of_ble_eq_true rfl, Nat.le_of_ble_eq_true rfl⟩) (g_preV (mEx_g _) hK [0, 1, 2] rfl hPc hDc (fun U hU hW => mEx_w hE hDc hS hA hU hW) (q0 := 0) (ci := 2) rfl rfl rfl) rfl rfl hl.1 rfl (lv_room (Nat.le_of_ble_eq_true rfl)) dX2_fell_19 ⟨Nat.le_of_ble_eq_true rfl, Nat.le_of_ble_eq_true rfl⟩) hPc hDc hS hA (fun κ9 H locs hk hP hD hS => ?_)
    have hP : va_P D vwCl (MW cI d (mBo (su σ 6 0 (0)) r0 p0 3 0 0)) H := by have h9 : va_P D vwCl (MW cI d (mBo (su σ 6 0 (0)) r0 p0 3 0 0) ++ []) H := hP; rw [List.append_nil] at h9; exact h9
    have hD : va_D A (MW cI d (mBo (su σ 6 0 (0)) r0 p0 3 0 0)) := by have h9 : va_D A (MW cI d (mBo (su σ 6 0 (0)) r0 p0 3 0 0) ++ []) := hD; rw [List.append_nil] at h9; exact h9
    show W p l e ({ frames := 4, cells := 2, slots := 10, locals := 120 } : Room) s m args below meth c H locs 2 10 (MQ below (gQ D (tyMs cI cZ cQ) (fun κ' => MW cI d (mRes (tFell r0 p0) (mBo (mZ σ) r0 p0 3 0 0) σ)) A (fun _ => some (.int (iI (mVal (tFell r0 p0) (mBoA (mZ σ) r0 p0 3 0 0))))) (fun _ => True)) args s 2 10 A) (F0 m 22 ls [.int (iI (mBoA (su σ 6 0 (0)) r0 p0 3 0 0))])
    refine lv_goto (tgt := 30) hx hb dX2_fell_22 (by decide) ?_
    have es : (mRes (tFell r0 p0) (mBo (mZ σ) r0 p0 3 0 0) σ) = (mBo (su σ 6 0 (0)) r0 p0 3 0 0) := by first | (rw [show tFell r0 p0 = 1 from by unfold tFell; rw [if_pos (by omega)]]; rfl) | (rw [show tFell r0 p0 = 0 from by unfold tFell; rw [if_neg (by omega)]]; rfl)
    have er : ((mVal (tFell r0 p0) (mBoA (mZ σ) r0 p0 3 0 0) : Int)) = (mBoA (su σ 6 0 (0)) r0 p0 3 0 0) := by first | (rw [show tFell r0 p0 = 1 from by unfold tFell; rw [if_pos (by omega)]]; rfl) | (rw [show tFell r0 p0 = 0 from by unfold tFell; rw [if_neg (by omega)]]; rfl)
    exact g_iret (wo := (fun κ' => MW cI d (mRes (tFell r0 p0) (mBo (mZ σ) r0 p0 3 0 0) σ))) (kr := (fun _ => True)) (rv := (fun _ => some (.int (iI (mVal (tFell r0 p0) (mBoA (mZ σ) r0 p0 3 0 0)))))) hx hb hr hlocks (fun _ _ => 0) rfl (by rw [es]; exact hP) hK (by rw [es]; exact hD) hS trivial (by rw [er]) (Nat.le_of_ble_eq_true rfl) (Nat.le_of_ble_eq_true rfl) dX2_fell_30
