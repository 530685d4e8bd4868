set_option maxHeartbeats 4000000 in
set_option maxRecDepth 100000 in
theorem kX2_balance (l : Launch) (D : va_G) (cI cZ cQ : ClassId) (d : Nat → Nat) (σ : St)   (hwf : mWF σ) : gMet l yX2_balance wsX2_balance ({ frames := 1, cells := 1, slots := 1081, locals := 24 } : Room) D (tyMs cI cZ cQ) (MW cI d σ) [.ref (d 0)] (fun _ => True) (fun _ => some (.int (iI (mBal σ)))) (fun _ => True) (fun κ' => MW cI d (mZ σ)) := by
  refine g_start (cc := cX2_balance) (maxL := 6) (ret := (some .int)) (by decide) rfl (Nat.le_of_ble_eq_true rfl) ?_
  intro p e s m args below meth c A ls H locs S hr hlocks hname hP hK hD hA hS hE hl
  have S0 := S
  obtain ⟨hx, hb, hml, hown, hts⟩ := S0
  have hl : lv_has ls 6 [(0, .ref (d 0))] := hl
  have hinX2 : ∀ w ∈ wsX20, w ∈ wsX2_balance := by decide +kernel
  refine lv_aload_n hx hb dX2_balance_0 rfl (lv_at hl 0 rfl) ?_
  refine lv_iconst (v := iI (0)) hx hb dX2_balance_1 rfl ?_
  refine va_put (D := D) (ci := 2) (v := .int (iI (0))) (ty := .int) (C := RX2) (T := TX2) (N := 8) hx hb hts hinX2 tyX2 tyX2_ok nmX2 hown hK hP hD hS 0 rfl rfl 0 (by decide) (hts (.fieldLink RX2 28 "TwinOrchardModel" "thrown" "I") (List.mem_of_getElem? (i := 1) rfl)) (fun _ h9 => h9) rfl (by decide +kernel) rfl rfl (Nat.le_of_ble_eq_true rfl) dX2_balance_2 (fun H locs hP hD hS => ?_)
  have hP : va_P D vwCl (MW cI d (su σ 6 0 (0))) H := hP
  have hD : va_D A (MW cI d (su σ 6 0 (0))) := hD
  refine lv_iconst (v := iI (0)) hx hb dX2_balance_5 rfl ?_
  refine lv_istore_n (lv' := [(1, .int (iI (0))), (0, .ref (d 0))]) hx hb dX2_balance_6 rfl hl (by decide) rfl (fun ls hl => ?_)
  refine lv_iconst (v := iI (0)) hx hb dX2_balance_7 rfl ?_
  refine lv_istore_n (lv' := [(2, .int (iI (0))), (1, .int (iI (0))), (0, .ref (d 0))]) hx hb dX2_balance_8 rfl hl (by decide) rfl (fun ls hl => ?_)
  have loop9 : ∀ (n9 : Nat) (i : Int) (a : Int), (0 ≤ i) → (i ≤ 6) → (6 - i < (n9 : Int)) → (a = isumI (fun j => σ 0 j * min 20 (σ 4 j)) i) → ∀ (H : Heap) (locs : List Loc) (ls : Array Slot), va_P D vwCl (MW cI d (su σ 6 0 (0))) H → va_D A (MW cI d (su σ 6 0 (0))) → va_S A s.heap H locs → lv_has ls 6 [(2, .int (iI (i))), (1, .int (iI (a))), (0, .ref (d 0))] → W p l e ({ frames := 1, cells := 1, slots := 1081, locals := 24 } : Room) s m args below meth c H locs 0 0 (MQ below (gQ D (tyMs cI cZ cQ) (fun κ' => MW cI d (mZ σ)) A (fun _ => some (.int (iI (mBal σ)))) (fun _ => True)) args s 1 1081 A) (F0 m 9 ls []) := by
    intro n9
    induction n9 with
    | zero =>
      intro i a  hlo9 hhi9 hm9
      omega
    | succ n9 ih9 =>
      intro i a  hlo9 hhi9 hm9 ia9 H locs ls hP hD hS hl
      have k4i := mWF_4 hwf i
      refine lv_iload_n hx hb dX2_balance_9 rfl (lv_at hl 0 rfl) ?_
      refine lv_bipush (v := iI (6)) hx hb dX2_balance_10 rfl ?_
      refine gi_icmp_ge (tgt := 42) hx hb dX2_balance_12 (by decide) ⟨by omega, by omega⟩ ⟨by decide, by decide⟩ (fun c12 => ?_) (fun c12 => ?_)
      · skip
        have iT : a = mBT σ := by rw [ia9, show i = 6 by omega]; rfl
        have kT := mBT_in hwf
        refine lv_iload_n hx hb dX2_balance_42 rfl (lv_at hl 1 rfl) ?_
        refine lv_iconst (v := iI (1)) hx hb dX2_balance_43 rfl ?_
        refine gi_add hx hb dX2_balance_44 ?_
        refine va_newa (atype := .boolean) (ty := .boolean) (N' := (a + 1).toNat) (a0 := ((a + 1).toNat, .inl (fun j : Nat => iI ((fun _ => 0 : Int → Int) (j : Int))))) hx hb (hts _ (List.mem_of_getElem? (i := 8) rfl)) rfl hK hP hD hS hA (fun _ => rfl) (iI_nn (z := a + 1) (by omega) (by omega)).1 (by have h9 := (iI_nn (z := a + 1) (by omega) (by omega)).2; omega) (by show (a + 1).toNat * 1 ≤ 536870912; omega) (by show 0 + 1 ≤ 1; omega) (by show 0 + (a + 1).toNat ≤ 1081; omega) dX2_balance_45 (fun q45 cA H hK hP hD hS => ?_)
        have e9 : cZ = cA := g_clsZ hK 1 3 rfl rfl
        subst e9
        have hK : va_K D vwCl (tyMs cI cZ cQ) s := hK.sub [0, 1, 2] rfl
        have hP : va_P D vwCl (MW cI d (sr (su σ 6 0 (0)) 9 (fun _ => 0)) ++ [(q45, aI cZ (a + 1).toNat ((sr (su σ 6 0 (0)) 9 (fun _ => 0)) 9))]) H := hP
        have hD : va_D A (MW cI d (sr (su σ 6 0 (0)) 9 (fun _ => 0)) ++ [(q45, aI cZ (a + 1).toNat ((sr (su σ 6 0 (0)) 9 (fun _ => 0)) 9))]) := hD
        rw [Nat.zero_add, Nat.zero_add]
        refine lv_astore_n (lv' := [(2, .ref (q45)), (1, .int (iI (a))), (0, .ref (d 0))]) hx hb dX2_balance_47 rfl hl (by decide) rfl (fun ls hl => ?_)
        refine lv_aload_n hx hb dX2_balance_48 rfl (lv_at hl 0 rfl) ?_
        refine lv_iconst (v := iI (0)) hx hb dX2_balance_49 rfl ?_
        refine lv_iconst (v := iI (1)) hx hb dX2_balance_50 rfl ?_
        refine gi_zast (a := q45) (n := (a + 1).toNat) (f := (sr (su σ 6 0 (0)) 9 (fun _ => 0)) 9) hx hb hK hP hD hS 7 1 rfl rfl (by omega) (by omega) (by omega) (Or.inr rfl) dX2_balance_51 (fun H locs hP hD hS => ?_)
        have hP : va_P D vwCl (MW cI d (su (sr (su σ 6 0 (0)) 9 (fun _ => 0)) 9 0 (1)) ++ [(q45, aI cZ (a + 1).toNat ((su (sr (su σ 6 0 (0)) 9 (fun _ => 0)) 9 0 (1)) 9))]) H := hP
        have hD : va_D A (MW cI d (su (sr (su σ 6 0 (0)) 9 (fun _ => 0)) 9 0 (1)) ++ [(q45, aI cZ (a + 1).toNat ((su (sr (su σ 6 0 (0)) 9 (fun _ => 0)) 9 0 (1)) 9))]) := hD
        refine lv_iconst (v := iI (0)) hx hb dX2_balance_52 rfl ?_
        refine lv_istore_n (lv' := [(3, .int (iI (0))), (2, .ref (q45)), (1, .int (iI (a))), (0, .ref (d 0))]) hx hb dX2_balance_53 rfl hl (by decide) rfl (fun ls hl => ?_)
        have loop54 : ∀ (n54 : Nat) (z : Int) (σ_54 : St), (0 ≤ z) → (z ≤ 6) → (6 - z < (n54 : Int)) → (σ_54 = sr (mZ σ) 9 (dpS σ a z.toNat)) → ∀ (H : Heap) (locs : List Loc) (ls : Array Slot), va_P D vwCl (MW cI d σ_54 ++ [(q45, aI cZ (a + 1).toNat (σ_54 9))]) H → va_D A (MW cI d σ_54 ++ [(q45, aI cZ (a + 1).toNat (σ_54 9))]) → va_S A s.heap H locs → lv_has ls 6 [(3, .int (iI (z))), (2, .ref (q45)), (1, .int (iI (a))), (0, .ref (d 0))] → W p l e ({ frames := 1, cells := 1, slots := 1081, locals := 24 } : Room) s m args below meth c H locs 1 (a + 1).toNat (MQ below (gQ D (tyMs cI cZ cQ) (fun κ' => MW cI d (mZ σ)) A (fun _ => some (.int (iI (mBal σ)))) (fun _ => True)) args s 1 1081 A) (F0 m 54 ls []) := by
          intro n54
          induction n54 with
          | zero =>
            intro z σ_54 hlo54 hhi54 hm54
            omega
          | succ n54 ih54 =>
            intro z σ_54 hlo54 hhi54 hm54 iq H locs ls hP hD hS hl
            have k4z := mWF_4 hwf z
            have k0z := mWF_0 hwf z
            refine lv_iload_n hx hb dX2_balance_54 rfl (lv_at hl 0 rfl) ?_
            refine lv_bipush (v := iI (6)) hx hb dX2_balance_55 rfl ?_
            refine gi_icmp_ge (tgt := 129) hx hb dX2_balance_57 (by decide) ⟨by omega, by omega⟩ ⟨by decide, by decide⟩ (fun c57 => ?_) (fun c57 => ?_)
            · skip
              refine lv_iload_n hx hb dX2_balance_129 rfl (lv_at hl 2 rfl) ?_
              refine lv_iconst (v := iI (2)) hx hb dX2_balance_130 rfl ?_
              refine gi_div hx hb ⟨by omega, by omega⟩ ⟨by omega, by omega⟩ dX2_balance_131 ?_
              refine lv_istore_n (lv' := [(3, .int (iI (a / 2))), (2, .ref (q45)), (1, .int (iI (a))), (0, .ref (d 0))]) hx hb dX2_balance_132 rfl hl (by decide) rfl (fun ls hl => ?_)
              have loop133 : ∀ (n133 : Nat) (h : Int), (0 ≤ h) → (h ≤ a / 2) → (h < (n133 : Int)) → (dnz (dpS σ a 6) (a / 2).toNat = dnz (dpS σ a 6) h.toNat) → ∀ (H : Heap) (locs : List Loc) (ls : Array Slot), va_P D vwCl (MW cI d σ_54 ++ [(q45, aI cZ (a + 1).toNat (σ_54 9))]) H → va_D A (MW cI d σ_54 ++ [(q45, aI cZ (a + 1).toNat (σ_54 9))]) → va_S A s.heap H locs → lv_has ls 6 [(3, .int (iI (h))), (2, .ref (q45)), (1, .int (iI (a))), (0, .ref (d 0))] → W p l e ({ frames := 1, cells := 1, slots := 1081, locals := 24 } : Room) s m args below meth c H locs 1 (a + 1).toNat (MQ below (gQ D (tyMs cI cZ cQ) (fun κ' => MW cI d (mZ σ)) A (fun _ => some (.int (iI (mBal σ)))) (fun _ => True)) args s 1 1081 A) (F0 m 133 ls []) := by
                intro n133
                induction n133 with
                | zero =>
                  intro h  hlo133 hhi133 hm133
                  omega
                | succ n133 ih133 =>
                  intro h  hlo133 hhi133 hm133 i133 H locs ls hP hD hS hl
                  have iqF : σ_54 = sr (mZ σ) 9 (dpS σ a 6) := by rw [iq, show z.toNat = 6 by omega]
                  have e9 : ∀ j, σ_54 9 j = dpS σ a 6 j := fun j => by rw [iqF]; rfl
                  have d0 := dpS_z hwf a 6
                  have e9h := e9 h
                  have d1 := dpS_01 σ a 6 h
                  have hnz : ¬ σ_54 9 h = 0 ∨ ¬ h = 0 := (Classical.em (h = 0)).elim (fun hz => Or.inl (by rw [hz, e9, d0]; decide)) Or.inr
                  refine lv_aload_n hx hb dX2_balance_133 rfl (lv_at hl 1 rfl) ?_
                  refine lv_iload_n hx hb dX2_balance_134 rfl (lv_at hl 0 rfl) ?_
                  refine gi_zald (a := q45) (n := (a + 1).toNat) (f := σ_54 9) hx hb hK hP 7 1 rfl rfl (by omega) (by omega) (by omega) dX2_balance_135 ?_
                  refine gi_if_ne (tgt := 145) hx hb dX2_balance_136 (by decide) ⟨by omega, by omega⟩ (fun c136 => ?_) (fun c136 => ?_)
                  · skip
                    rw [iqF] at hP hD
                    have hP : va_P D vwCl (MW cI d (su σ 6 0 0) ++ [(q45, aI cZ (a + 1).toNat (dpS σ a 6))]) H := hP
                    have hD : va_D A (MW cI d (su σ 6 0 0) ++ [(q45, aI cZ (a + 1).toNat (dpS σ a 6))]) := hD
                    refine lv_iload_n hx hb dX2_balance_145 rfl (lv_at hl 2 rfl) ?_
                    refine lv_iconst (v := iI (2)) hx hb dX2_balance_146 rfl ?_
                    refine lv_iload_n hx hb dX2_balance_147 rfl (lv_at hl 0 rfl) ?_
                    refine gi_mul hx hb dX2_balance_148 ?_
                    refine gi_sub hx hb dX2_balance_149 ?_
                    have es : (mZ σ) = (su σ 6 0 0) := by rfl
                    have er : ((mBal σ : Int)) = (a - (2 * h)) := by unfold mBal; rw [← iT, i133, dnz_at hlo133 (by omega)]
                    exact g_iret (wo := (fun κ' => MW cI d (mZ σ))) (kr := (fun _ => True)) (rv := (fun _ => some (.int (iI (mBal σ))))) hx hb hr hlocks (fun _ _ => 0) rfl (by rw [es]; exact g_left hP) hK (by rw [es]; exact g_Dleft hD) hS trivial (by rw [er]) (by show 1 ≤ 1; omega) (by show (a + 1).toNat ≤ 1081; omega) dX2_balance_150
                  · skip
                    refine lv_iinc (v := iI (h + (-1))) (lv' := [(3, .int (iI (h + (-1)))), (2, .ref (q45)), (1, .int (iI (a))), (0, .ref (d 0))]) hx hb dX2_balance_139 hl (k := 0) rfl (iI_add _ _) (by decide) rfl (fun ls hl => ?_)
                    refine lv_goto (tgt := 133) hx hb dX2_balance_142 (by decide) ?_
                    exact ih133 (h + (-1))  (by omega) (by omega) (by omega) (by rw [i133]; exact dnz_no (by omega) (by omega)) H locs ls hP hD hS (lv_sub hl [0, 1, 2, 3] rfl)
              exact loop133 (((a + 2 : Int)).toNat) (a / 2)  (by omega) (by omega) (by omega) (by rfl) H locs ls hP hD hS (lv_sub hl [0, 1, 2, 3] rfl)
            · skip
              refine lv_iconst (v := iI (0)) hx hb dX2_balance_60 rfl ?_
              refine lv_istore (lv' := [(4, .int (iI (0))), (3, .int (iI (z))), (2, .ref (q45)), (1, .int (iI (a))), (0, .ref (d 0))]) hx hb dX2_balance_61 hl (by decide) rfl (fun ls hl => ?_)
              have loop63 : ∀ (n63 : Nat) (n1 : Int) (σ_63 : St), (0 ≤ n1) → (n1 ≤ min 20 (σ 4 z)) → (min 20 (σ 4 z) - n1 < (n63 : Int)) → (σ_63 = sr (mZ σ) 9 (dpN (dpS σ a z.toNat) (σ 0 z) a n1.toNat)) → ∀ (H : Heap) (locs : List Loc) (ls : Array Slot), va_P D vwCl (MW cI d σ_63 ++ [(q45, aI cZ (a + 1).toNat (σ_63 9))]) H → va_D A (MW cI d σ_63 ++ [(q45, aI cZ (a + 1).toNat (σ_63 9))]) → va_S A s.heap H locs → lv_has ls 6 [(4, .int (iI (n1))), (3, .int (iI (z))), (2, .ref (q45)), (1, .int (iI (a))), (0, .ref (d 0))] → W p l e ({ frames := 1, cells := 1, slots := 1081, locals := 24 } : Room) s m args below meth c H locs 1 (a + 1).toNat (MQ below (gQ D (tyMs cI cZ cQ) (fun κ' => MW cI d (mZ σ)) A (fun _ => some (.int (iI (mBal σ)))) (fun _ => True)) args s 1 1081 A) (F0 m 63 ls []) := by
                intro n63
                induction n63 with
                | zero =>
                  intro n1 σ_63 hlo63 hhi63 hm63
                  omega
                | succ n63 ih63 =>
                  intro n1 σ_63 hlo63 hhi63 hm63 iq63 H locs ls hP hD hS hl
                  have e4z : σ_63 4 z = σ 4 z := by rw [iq63]; rfl
                  refine lv_iload hx hb dX2_balance_63 (lv_at hl 0 rfl) ?_
                  refine lv_bipush (v := iI (20)) hx hb dX2_balance_65 rfl ?_
                  refine lv_aload_n hx hb dX2_balance_67 rfl (lv_at hl 4 rfl) ?_
                  refine va_get (D := D) (ci := 2) (v := .ref (d 5)) (C := RX2) (T := TX2) (N := 8) hx hb hts hinX2 hown hK hP 0 rfl rfl 5 (by decide) (hts (.fieldLink RX2 22 "TwinOrchardModel" "barn" "[I") (List.mem_of_getElem? (i := 3) rfl)) (fun _ h9 => h9) rfl dX2_balance_68 ?_
                  refine lv_iload_n hx hb dX2_balance_71 rfl (lv_at hl 1 rfl) ?_
                  refine gi_iald (a := d 5) (n := 6) (f := σ_63 4) hx hb hK hP 5 0 rfl rfl (by omega) (by omega) (by decide) dX2_balance_72 ?_
                  refine gi_min hx hb (hml.trans hl.1.symm) hown (hts _ (List.mem_of_getElem? (i := 4) rfl)) (hts _ (List.mem_of_getElem? (i := 5) rfl)) (hts _ (List.mem_of_getElem? (i := 6) rfl)) (hts _ (List.mem_of_getElem? (i := 7) rfl)) (Nat.le_of_ble_eq_true rfl) (Nat.le_of_ble_eq_true rfl) (by show 1 ≤ 1; omega) (by show (a + 1).toNat ≤ 1081; omega) ⟨by decide, by decide⟩ ⟨by omega, by omega⟩ dX2_balance_73 ?_
                  refine gi_icmp_ge (tgt := 123) hx hb dX2_balance_76 (by decide) ⟨by omega, by omega⟩ ⟨by omega, by omega⟩ (fun c76 => ?_) (fun c76 => ?_)
                  · skip
                    refine lv_iinc (v := iI (z + 1)) (lv' := [(3, .int (iI (z + 1))), (4, .int (iI (n1))), (2, .ref (q45)), (1, .int (iI (a))), (0, .ref (d 0))]) hx hb dX2_balance_123 hl (k := 1) rfl (iI_add _ _) (by decide) rfl (fun ls hl => ?_)
                    refine lv_goto (tgt := 54) hx hb dX2_balance_126 (by decide) ?_
                    exact ih54 (z + 1) σ_63 (by omega) (by omega) (by omega) (by rw [iq63, dpS_s _ _ hlo54, show n1.toNat = (min 20 (σ 4 z)).toNat by omega]) H locs ls hP hD hS (lv_sub hl [0, 2, 3, 4] rfl)
                  · skip
                    refine lv_iload_n hx hb dX2_balance_79 rfl (lv_at hl 3 rfl) ?_
                    refine lv_istore (lv' := [(5, .int (iI (a))), (4, .int (iI (n1))), (3, .int (iI (z))), (2, .ref (q45)), (1, .int (iI (a))), (0, .ref (d 0))]) hx hb dX2_balance_80 hl (by decide) rfl (fun ls hl => ?_)
                    have loop82 : ∀ (n82 : Nat) (v : Int) (σ_82 : St), (min a (σ 0 z - 1) ≤ v) → (v ≤ a) → (v - min a (σ 0 z - 1) < (n82 : Int)) → (σ_82 = sr (mZ σ) 9 (dpw (dpN (dpS σ a z.toNat) (σ 0 z) a n1.toNat) (σ 0 z) a v)) → ∀ (H : Heap) (locs : List Loc) (ls : Array Slot), va_P D vwCl (MW cI d σ_82 ++ [(q45, aI cZ (a + 1).toNat (σ_82 9))]) H → va_D A (MW cI d σ_82 ++ [(q45, aI cZ (a + 1).toNat (σ_82 9))]) → va_S A s.heap H locs → lv_has ls 6 [(5, .int (iI (v))), (4, .int (iI (n1))), (3, .int (iI (z))), (2, .ref (q45)), (1, .int (iI (a))), (0, .ref (d 0))] → W p l e ({ frames := 1, cells := 1, slots := 1081, locals := 24 } : Room) s m args below meth c H locs 1 (a + 1).toNat (MQ below (gQ D (tyMs cI cZ cQ) (fun κ' => MW cI d (mZ σ)) A (fun _ => some (.int (iI (mBal σ)))) (fun _ => True)) args s 1 1081 A) (F0 m 82 ls []) := by
                      intro n82
                      induction n82 with
                      | zero =>
                        intro v σ_82 hlo82 hhi82 hm82
                        omega
                      | succ n82 ih82 =>
                        intro v σ_82 hlo82 hhi82 hm82 iq82 H locs ls hP hD hS hl
                        have e0z : σ_82 0 z = σ 0 z := by rw [iq82]; rfl
                        have b1 : σ_82 9 v = 0 ∨ σ_82 9 v = 1 := by rw [iq82]; exact dpw_01 (dpN_01 (dpS_01 _ _ _) _ _ _) _ _ _ _
                        have b2 : σ_82 9 (v - σ_82 0 z) = 0 ∨ σ_82 9 (v - σ_82 0 z) = 1 := by rw [iq82]; exact dpw_01 (dpN_01 (dpS_01 _ _ _) _ _ _) _ _ _ _
                        refine lv_iload hx hb dX2_balance_82 (lv_at hl 0 rfl) ?_
                        refine lv_aload_n hx hb dX2_balance_84 rfl (lv_at hl 5 rfl) ?_
                        refine va_get (D := D) (ci := 2) (v := .ref (d 1)) (C := RX2) (T := TX2) (N := 8) hx hb hts hinX2 hown hK hP 0 rfl rfl 1 (by decide) (hts (.fieldLink RX2 9 "TwinOrchardModel" "weights" "[I") (List.mem_of_getElem? (i := 2) rfl)) (fun _ h9 => h9) rfl dX2_balance_85 ?_
                        refine lv_iload_n hx hb dX2_balance_88 rfl (lv_at hl 2 rfl) ?_
                        refine gi_iald (a := d 1) (n := 6) (f := σ_82 0) hx hb hK hP 1 0 rfl rfl (by omega) (by omega) (by decide) dX2_balance_89 ?_
                        refine gi_icmp_lt (tgt := 117) hx hb dX2_balance_90 (by decide) ⟨by omega, by omega⟩ ⟨by omega, by omega⟩ (fun c90 => ?_) (fun c90 => ?_)
                        · skip
                          refine lv_iinc (v := iI (n1 + 1)) (lv' := [(4, .int (iI (n1 + 1))), (5, .int (iI (v))), (3, .int (iI (z))), (2, .ref (q45)), (1, .int (iI (a))), (0, .ref (d 0))]) hx hb dX2_balance_117 hl (k := 1) rfl (iI_add _ _) (by decide) rfl (fun ls hl => ?_)
                          refine lv_goto (tgt := 63) hx hb dX2_balance_120 (by decide) ?_
                          exact ih63 (n1 + 1) σ_82 (by omega) (by omega) (by omega) (by rw [iq82, dpw_e _ (by omega), dpN_s _ _ _ hlo63]) H locs ls hP hD hS (lv_sub hl [0, 2, 3, 4, 5] rfl)
                        · skip
                          refine lv_aload_n hx hb dX2_balance_93 rfl (lv_at hl 3 rfl) ?_
                          refine lv_iload hx hb dX2_balance_94 (lv_at hl 0 rfl) ?_
                          refine lv_dup2_11 hx hb dX2_balance_96 rfl rfl ?_
                          refine gi_zald (a := q45) (n := (a + 1).toNat) (f := σ_82 9) hx hb hK hP 7 1 rfl rfl (by omega) (by omega) (by omega) dX2_balance_97 ?_
                          refine lv_aload_n hx hb dX2_balance_98 rfl (lv_at hl 3 rfl) ?_
                          refine lv_iload hx hb dX2_balance_99 (lv_at hl 0 rfl) ?_
                          refine lv_aload_n hx hb dX2_balance_101 rfl (lv_at hl 5 rfl) ?_
                          refine va_get (D := D) (ci := 2) (v := .ref (d 1)) (C := RX2) (T := TX2) (N := 8) hx hb hts hinX2 hown hK hP 0 rfl rfl 1 (by decide) (hts (.fieldLink RX2 9 "TwinOrchardModel" "weights" "[I") (List.mem_of_getElem? (i := 2) rfl)) (fun _ h9 => h9) rfl dX2_balance_102 ?_
                          refine lv_iload_n hx hb dX2_balance_105 rfl (lv_at hl 2 rfl) ?_
                          refine gi_iald (a := d 1) (n := 6) (f := σ_82 0) hx hb hK hP 1 0 rfl rfl (by omega) (by omega) (by decide) dX2_balance_106 ?_
                          refine gi_sub hx hb dX2_balance_107 ?_
                          refine gi_zald (a := q45) (n := (a + 1).toNat) (f := σ_82 9) hx hb hK hP 7 1 rfl rfl (by omega) (by omega) (by omega) dX2_balance_108 ?_
                          refine gi_ior hx hb (by omega) (by omega) dX2_balance_109 ?_
                          refine gi_zast (a := q45) (n := (a + 1).toNat) (f := σ_82 9) hx hb hK hP hD hS 7 1 rfl rfl (by omega) (by omega) (by omega) (by omega) dX2_balance_110 (fun H locs hP hD hS => ?_)
                          have hP : va_P D vwCl (MW cI d (su σ_82 9 v (max (σ_82 9 v) (σ_82 9 (v - (σ_82 0 z))))) ++ [(q45, aI cZ (a + 1).toNat ((su σ_82 9 v (max (σ_82 9 v) (σ_82 9 (v - (σ_82 0 z))))) 9))]) H := hP
                          have hD : va_D A (MW cI d (su σ_82 9 v (max (σ_82 9 v) (σ_82 9 (v - (σ_82 0 z))))) ++ [(q45, aI cZ (a + 1).toNat ((su σ_82 9 v (max (σ_82 9 v) (σ_82 9 (v - (σ_82 0 z))))) 9))]) := hD
                          refine lv_iinc (v := iI (v + (-1))) (lv' := [(5, .int (iI (v + (-1)))), (4, .int (iI (n1))), (3, .int (iI (z))), (2, .ref (q45)), (1, .int (iI (a))), (0, .ref (d 0))]) hx hb dX2_balance_111 hl (k := 0) rfl (iI_add _ _) (by decide) rfl (fun ls hl => ?_)
                          refine lv_goto (tgt := 82) hx hb dX2_balance_114 (by decide) ?_
                          exact ih82 (v + (-1)) (su σ_82 9 v (max (σ_82 9 v) (σ_82 9 (v - (σ_82 0 z))))) (by omega) (by omega) (by omega) (by rw [e0z, iq82, su_srr]; exact congrArg (sr (mZ σ) 9) (dpw_s _ k0z.1 (by omega) hhi82)) H locs ls hP hD hS (lv_sub hl [0, 1, 2, 3, 4, 5] rfl)
                    exact loop82 (((a + 2 : Int)).toNat) a σ_63 (by omega) (by omega) (by omega) (by rw [dpw_0]; exact iq63) H locs ls hP hD hS (lv_sub hl [0, 1, 2, 3, 4, 5] rfl)
              exact loop63 (((min 20 (σ 4 z) - (0) + 1 : Int)).toNat) 0 σ_54 (by omega) (by omega) (by omega) (by exact iq) H locs ls hP hD hS (lv_sub hl [0, 1, 2, 3, 4] rfl)
        exact loop54 (((6 - (0) + 1 : Int)).toNat) 0 (su (sr (su σ 6 0 (0)) 9 (fun _ => 0)) 9 0 (1)) (by omega) (by omega) (by omega) (by exact su_srr _ _ _ _ _) H locs ls hP hD hS (lv_sub hl [0, 1, 2, 3] rfl)
      · skip
        refine lv_iload_n hx hb dX2_balance_15 rfl (lv_at hl 1 rfl) ?_
        refine lv_aload_n hx hb dX2_balance_16 rfl (lv_at hl 2 rfl) ?_
        refine va_get (D := D) (ci := 2) (v := .ref (d 1)) (C := RX2) (T := TX2) (N := 8) hx hb hts hinX2 hown hK hP 0 rfl rfl 1 (by decide) (hts (.fieldLink RX2 9 "TwinOrchardModel" "weights" "[I") (List.mem_of_getElem? (i := 2) rfl)) (fun _ h9 => h9) rfl dX2_balance_17 ?_
        refine lv_iload_n hx hb dX2_balance_20 rfl (lv_at hl 0 rfl) ?_
        refine gi_iald (a := d 1) (n := 6) (f := (su σ 6 0 (0)) 0) hx hb hK hP 1 0 rfl rfl (by omega) (by omega) (by decide) dX2_balance_21 ?_
        rw [show ((su σ 6 0 (0)) 0 i) = (σ 0 i) from by rfl]
        refine lv_bipush (v := iI (20)) hx hb dX2_balance_22 rfl ?_
        refine lv_aload_n hx hb dX2_balance_24 rfl (lv_at hl 2 rfl) ?_
        refine va_get (D := D) (ci := 2) (v := .ref (d 5)) (C := RX2) (T := TX2) (N := 8) hx hb hts hinX2 hown hK hP 0 rfl rfl 5 (by decide) (hts (.fieldLink RX2 22 "TwinOrchardModel" "barn" "[I") (List.mem_of_getElem? (i := 3) rfl)) (fun _ h9 => h9) rfl dX2_balance_25 ?_
        refine lv_iload_n hx hb dX2_balance_28 rfl (lv_at hl 0 rfl) ?_
        refine gi_iald (a := d 5) (n := 6) (f := (su σ 6 0 (0)) 4) hx hb hK hP 5 0 rfl rfl (by omega) (by omega) (by decide) dX2_balance_29 ?_
        rw [show ((su σ 6 0 (0)) 4 i) = (σ 4 i) from by rfl]
        refine gi_min hx hb (hml.trans hl.1.symm) hown (hts _ (List.mem_of_getElem? (i := 4) rfl)) (hts _ (List.mem_of_getElem? (i := 5) rfl)) (hts _ (List.mem_of_getElem? (i := 6) rfl)) (hts _ (List.mem_of_getElem? (i := 7) rfl)) (Nat.le_of_ble_eq_true rfl) (Nat.le_of_ble_eq_true rfl) (Nat.le_of_ble_eq_true rfl) (Nat.le_of_ble_eq_true rfl) ⟨by decide, by decide⟩ ⟨by omega, by omega⟩ dX2_balance_30 ?_
        refine gi_mul hx hb dX2_balance_33 ?_
        refine gi_add hx hb dX2_balance_34 ?_
        refine lv_istore_n (lv' := [(1, .int (iI (a + ((σ 0 i) * (min 20 (σ 4 i)))))), (2, .int (iI (i))), (0, .ref (d 0))]) hx hb dX2_balance_35 rfl hl (by decide) rfl (fun ls hl => ?_)
        refine lv_iinc (v := iI (i + 1)) (lv' := [(2, .int (iI (i + 1))), (1, .int (iI (a + ((σ 0 i) * (min 20 (σ 4 i)))))), (0, .ref (d 0))]) hx hb dX2_balance_36 hl (k := 1) rfl (iI_add _ _) (by decide) rfl (fun ls hl => ?_)
        refine lv_goto (tgt := 9) hx hb dX2_balance_39 (by decide) ?_
        exact ih9 (i + 1) (a + ((σ 0 i) * (min 20 (σ 4 i))))  (by omega) (by omega) (by omega) (by rw [isumI_s _ hlo9, ia9]) H locs ls hP hD hS (lv_sub hl [0, 1, 2] rfl)
  exact loop9 (((6 - (0) + 1 : Int)).toNat) 0 0  (by omega) (by omega) (by omega) (by rw [isumI_0]) H locs ls hP hD hS (lv_sub hl [0, 1, 2] rfl)
