set_option maxHeartbeats 4000000 in
set_option maxRecDepth 100000 in
theorem kX3_init (l : Launch) (D : va_G) (cI cZ cT cU cQ : ClassId) (a0 : Nat)   : gMet l yX3_init wsX3_init ({ frames := 1, cells := 0, slots := 0, locals := 24 } : Room) D (tyA cI cZ cT cU cQ) ([(a0, .inr (3, [.int (iI (0)), .int (iI (0)), .int (iI (0)), .int (iI (0))]))]) [.ref (a0)] (fun _ => True) (fun _ => none) (fun κ' => True) (fun κ' => [(a0, .inr (3, [.int (iI (1)), .int (iI (0)), .int (iI (0)), .int (iI (0))]))]) := by
  refine g_start (cc := cX3_init) (maxL := 1) (ret := none) (by decide) rfl (Nat.le_of_ble_eq_true rfl) ?_
  intro p e s m args below meth c A ls H locs S hr hlocks hname hP hK hD hA hS hE hl
  have S0 := S
  obtain ⟨hx, hb, hml, hown, hts⟩ := S0
  have hl : lv_has ls 1 [(0, .ref (a0))] := hl
  have hinX3 : ∀ w ∈ wsX30, w ∈ wsX3_init := by decide +kernel
  refine lv_aload_n hx hb dX3_init_0 rfl (lv_at hl 0 rfl) ?_
  refine W.objInit hx hb hown (hts _ (List.mem_of_getElem? (i := 1) rfl)) (hts _ (List.mem_of_getElem? (i := 2) rfl)) (hts _ (List.mem_of_getElem? (i := 3) rfl)) (g := F0 m 1 ls [.ref (a0)]) rfl (hml.trans hl.1.symm).symm rfl dX3_init_1 (Nat.le_of_ble_eq_true rfl) (Nat.le_of_ble_eq_true rfl) ?_
  show W p l e ({ frames := 1, cells := 0, slots := 0, locals := 24 } : Room) s m args below meth c H locs 0 0 (MQ below (gQ D (tyA cI cZ cT cU cQ) (fun κ' => [(a0, .inr (3, [.int (iI (1)), .int (iI (0)), .int (iI (0)), .int (iI (0))]))]) A (fun _ => none) (fun κ' => True)) args s 0 0 A) (F0 m 4 ls [])
  refine lv_aload_n hx hb dX3_init_4 rfl (lv_at hl 0 rfl) ?_
  refine lv_iconst (v := iI (1)) hx hb dX3_init_5 rfl ?_
  refine va_put (D := D) (ci := 3) (v := .int (iI (1))) (ty := .int) (C := RX3) (T := TX3) (N := 4) hx hb hts hinX3 tyX3 tyX3_ok nmX3 hown hK hP hD hS 0 rfl rfl 0 (by decide) (hts (.fieldLink RX3 7 "TwinOrchardLaw$Tree" "branches" "I") (List.mem_of_getElem? (i := 4) rfl)) (fun _ h9 => h9) rfl (by decide +kernel) rfl rfl (Nat.le_of_ble_eq_true rfl) dX3_init_6 (fun H locs hP hD hS => ?_)
  have hP : va_P D vwCl ([(a0, .inr (3, [.int (iI (1)), .int (iI (0)), .int (iI (0)), .int (iI (0))]))]) H := hP
  have hD : va_D A ([(a0, .inr (3, [.int (iI (1)), .int (iI (0)), .int (iI (0)), .int (iI (0))]))]) := hD
  exact g_vret (wo := (fun κ' => [(a0, .inr (3, [.int (iI (1)), .int (iI (0)), .int (iI (0)), .int (iI (0))]))])) (kr := (fun κ' => True)) (rv := (fun _ => none)) hx hb hr hlocks (fun _ _ => 0) hP hK hD hS trivial rfl (Nat.le_of_ble_eq_true rfl) (Nat.le_of_ble_eq_true rfl) dX3_init_9
set_option maxHeartbeats 4000000 in
set_option maxRecDepth 100000 in
theorem kX3_apples (l : Launch) (D : va_G) (cI cZ cT cU cQ : ClassId) (a0 : Nat) (b0 v0 s0 t0 : Int) (hb0 : 0 ≤ b0 ∧ b0 ≤ 9) (hv0 : 0 ≤ v0 ∧ v0 ≤ 9) (ht0 : 0 ≤ t0 ∧ t0 ≤ 1)   : gMet l yX3_apples wsX3_apples ({ frames := 0, cells := 0, slots := 0, locals := 0 } : Room) D (tyA cI cZ cT cU cQ) ([(a0, .inr (3, [.int (iI (b0)), .int (iI (v0)), .int (iI (s0)), .int (iI (t0))]))]) [.ref (a0)] (fun _ => True) (fun _ => some (.int (iI (apl v0 b0 t0)))) (fun κ' => True) (fun κ' => [(a0, .inr (3, [.int (iI (b0)), .int (iI (v0)), .int (iI (s0)), .int (iI (t0))]))]) := by
  refine g_start (cc := cX3_apples) (maxL := 1) (ret := (some .int)) (by decide) rfl (Nat.le_of_ble_eq_true rfl) ?_
  intro p e s m args below meth c A ls H locs S hr hlocks hname hP hK hD hA hS hE hl
  have S0 := S
  obtain ⟨hx, hb, hml, hown, hts⟩ := S0
  have hl : lv_has ls 1 [(0, .ref (a0))] := hl
  have hinX3 : ∀ w ∈ wsX30, w ∈ wsX3_apples := by decide +kernel
  have km := mul9 hb0 hv0
  refine lv_aload_n hx hb dX3_apples_0 rfl (lv_at hl 0 rfl) ?_
  refine va_get (D := D) (ci := 3) (v := .int (iI (t0))) (C := RX3) (T := TX3) (N := 4) hx hb hts hinX3 hown hK hP 0 rfl rfl 3 (by decide) (hts (.fieldLink RX3 20 "TwinOrchardLaw$Tree" "tired" "Z") (List.mem_of_getElem? (i := 1) rfl)) (fun _ h9 => h9) rfl dX3_apples_1 ?_
  refine gi_if_eq (tgt := 21) hx hb dX3_apples_4 (by decide) ⟨by omega, by omega⟩ (fun c4 => ?_) (fun c4 => ?_)
  · skip
    refine lv_aload_n hx hb dX3_apples_21 rfl (lv_at hl 0 rfl) ?_
    refine va_get (D := D) (ci := 3) (v := .int (iI (b0))) (C := RX3) (T := TX3) (N := 4) hx hb hts hinX3 hown hK hP 0 rfl rfl 0 (by decide) (hts (.fieldLink RX3 7 "TwinOrchardLaw$Tree" "branches" "I") (List.mem_of_getElem? (i := 2) rfl)) (fun _ h9 => h9) rfl dX3_apples_22 ?_
    refine lv_aload_n hx hb dX3_apples_25 rfl (lv_at hl 0 rfl) ?_
    refine va_get (D := D) (ci := 3) (v := .int (iI (v0))) (C := RX3) (T := TX3) (N := 4) hx hb hts hinX3 hown hK hP 0 rfl rfl 1 (by decide) (hts (.fieldLink RX3 14 "TwinOrchardLaw$Tree" "vigour" "I") (List.mem_of_getElem? (i := 3) rfl)) (fun _ h9 => h9) rfl dX3_apples_26 ?_
    refine gi_mul hx hb dX3_apples_29 ?_
    have er : ((apl v0 b0 t0 : Int)) = (b0 * v0) := by unfold apl; first | (rw [if_pos (by omega)]; done) | (rw [if_neg (by omega)]; done)
    exact g_iret (wo := (fun κ' => [(a0, .inr (3, [.int (iI (b0)), .int (iI (v0)), .int (iI (s0)), .int (iI (t0))]))])) (kr := (fun κ' => True)) (rv := (fun _ => some (.int (iI (apl v0 b0 t0))))) hx hb hr hlocks (fun _ _ => 0) rfl hP hK hD hS trivial (by rw [er]) (Nat.le_of_ble_eq_true rfl) (Nat.le_of_ble_eq_true rfl) dX3_apples_30
  · skip
    refine lv_aload_n hx hb dX3_apples_7 rfl (lv_at hl 0 rfl) ?_
    refine va_get (D := D) (ci := 3) (v := .int (iI (b0))) (C := RX3) (T := TX3) (N := 4) hx hb hts hinX3 hown hK hP 0 rfl rfl 0 (by decide) (hts (.fieldLink RX3 7 "TwinOrchardLaw$Tree" "branches" "I") (List.mem_of_getElem? (i := 2) rfl)) (fun _ h9 => h9) rfl dX3_apples_8 ?_
    refine lv_aload_n hx hb dX3_apples_11 rfl (lv_at hl 0 rfl) ?_
    refine va_get (D := D) (ci := 3) (v := .int (iI (v0))) (C := RX3) (T := TX3) (N := 4) hx hb hts hinX3 hown hK hP 0 rfl rfl 1 (by decide) (hts (.fieldLink RX3 14 "TwinOrchardLaw$Tree" "vigour" "I") (List.mem_of_getElem? (i := 3) rfl)) (fun _ h9 => h9) rfl dX3_apples_12 ?_
    refine gi_mul hx hb dX3_apples_15 ?_
    refine lv_iconst (v := iI (4)) hx hb dX3_apples_16 rfl ?_
    refine gi_div hx hb ⟨by omega, by omega⟩ ⟨by omega, by omega⟩ dX3_apples_17 ?_
    refine lv_goto (tgt := 30) hx hb dX3_apples_18 (by decide) ?_
    have er : ((apl v0 b0 t0 : Int)) = ((b0 * v0) / 4) := by unfold apl; first | (rw [if_pos (by omega)]; done) | (rw [if_neg (by omega)]; done)
    exact g_iret (wo := (fun κ' => [(a0, .inr (3, [.int (iI (b0)), .int (iI (v0)), .int (iI (s0)), .int (iI (t0))]))])) (kr := (fun κ' => True)) (rv := (fun _ => some (.int (iI (apl v0 b0 t0))))) hx hb hr hlocks (fun _ _ => 0) rfl hP hK hD hS trivial (by rw [er]) (Nat.le_of_ble_eq_true rfl) (Nat.le_of_ble_eq_true rfl) dX3_apples_30
set_option maxHeartbeats 4000000 in
set_option maxRecDepth 100000 in
theorem kX2_work_0 (l : Launch) (D : va_G) (cI cZ cT cU cQ : ClassId) (d : Nat → Nat) (σ : St) (ι : Int → Int) (r0 : Int) (p0 : Int) (i0 : Int) (v0 : Int) (hwf : xWF σ) (hr : 0 ≤ r0 ∧ r0 ≤ 4) (hp : 0 ≤ p0 ∧ p0 ≤ 7) (hi : 0 ≤ i0 ∧ i0 ≤ 5) (hv : 1 ≤ v0 ∧ v0 ≤ 9) : gMet l yX2_work wsX2_work ({ frames := 2, cells := 2, slots := 8, locals := 44 } : Room) D (tyA cI cZ cT cU cQ) (SW cI cT cU d σ ι) [.ref (d 0), .int (iI (0)), .int (iI (r0)), .int (iI (p0)), .int (iI (i0)), .int (iI (v0))] nst (fun _ => some (.int (iI (who (plA σ (r0 * 8 + p0)) (plA (xPlant σ (r0 * 8 + p0) i0 v0) (mir (r0 * 8 + p0))))))) (fun κ' => True) (fun κ' => SW cI cT cU d (xPlant (xPlant σ (r0 * 8 + p0) i0 v0) (mir (r0 * 8 + p0)) i0 v0) (κ' 2)) := by
  refine g_start (cc := cX2_work) (maxL := 13) (ret := (some .int)) (by decide) rfl (Nat.le_of_ble_eq_true rfl) ?_
  intro p e s m args below meth c A ls H locs S hr hlocks hname hP hK hD hA hS hE hl
  have S0 := S
  obtain ⟨hx, hb, hml, hown, hts⟩ := S0
  have hl : lv_has ls 13 [(0, .ref (d 0)), (1, .int (iI (0))), (2, .int (iI (r0))), (3, .int (iI (p0))), (4, .int (iI (i0))), (5, .int (iI (v0)))] := hl
  have hinX2 : ∀ w ∈ wsX20, w ∈ wsX2_work := by decide +kernel
  have hinX3 : ∀ w ∈ wsX30, w ∈ wsX2_work := by decide +kernel
  have kt := tw_in (r0 * 8 + p0)
  have kt2 := tw_in (r0 * 8 + (7 - p0))
  have k4 := xWF_4 hwf (r0 * 8 + p0)
  have k5 := xWF_5 hwf (r0 * 8 + p0)
  have k8 := xWF_8 hwf (tw (r0 * 8 + p0))
  have em : mir (r0 * 8 + p0) = r0 * 8 + (7 - p0) := by unfold mir; omega
  refine lv_iconst (v := iI (0)) hx hb dX2_work_0 rfl ?_
  refine lv_istore (lv' := [(6, .int (iI (0))), (0, .ref (d 0)), (1, .int (iI (0))), (2, .int (iI (r0))), (3, .int (iI (p0))), (4, .int (iI (i0))), (5, .int (iI (v0)))]) hx hb dX2_work_1 hl (by decide) rfl (fun ls hl => ?_)
  refine lv_iconst (v := iI (0)) hx hb dX2_work_3 rfl ?_
  refine lv_istore (lv' := [(7, .int (iI (0))), (6, .int (iI (0))), (0, .ref (d 0)), (1, .int (iI (0))), (2, .int (iI (r0))), (3, .int (iI (p0))), (4, .int (iI (i0))), (5, .int (iI (v0)))]) hx hb dX2_work_4 hl (by decide) rfl (fun ls hl => ?_)
  refine lv_iload hx hb dX2_work_6 (lv_at hl 0 rfl) ?_
  refine lv_iconst (v := iI (2)) hx hb dX2_work_8 rfl ?_
  refine gi_icmp_ge (tgt := 315) hx hb dX2_work_9 (by decide) ⟨by decide, by decide⟩ ⟨by decide, by decide⟩ (fun c9 => ?_) (fun c9 => ?_)
  · skip
    exact absurd c9 (by decide)
  · skip
    refine lv_iload hx hb dX2_work_12 (lv_at hl 0 rfl) ?_
    refine gi_if_ne (tgt := 21) hx hb dX2_work_14 (by decide) ⟨by decide, by decide⟩ (fun c14 => ?_) (fun c14 => ?_)
    · skip
      exact absurd rfl c14
    · skip
      refine lv_iload_n hx hb dX2_work_17 rfl (lv_at hl 5 rfl) ?_
      refine lv_goto (tgt := 25) hx hb dX2_work_18 (by decide) ?_
      refine lv_istore (lv' := [(8, .int (iI (p0))), (7, .int (iI (0))), (6, .int (iI (0))), (0, .ref (d 0)), (1, .int (iI (0))), (2, .int (iI (r0))), (3, .int (iI (p0))), (4, .int (iI (i0))), (5, .int (iI (v0)))]) hx hb dX2_work_25 hl (by decide) rfl (fun ls hl => ?_)
      refine lv_iload hx hb dX2_work_27 (lv_at hl 0 rfl) ?_
      refine lv_iconst (v := iI (4)) hx hb dX2_work_29 rfl ?_
      refine g_selGe (u := 0) (v := 1) (t1 := 37) (t2 := 38) hx hb ⟨by omega, by omega⟩ ⟨by decide, by decide⟩ dX2_work_30 (by decide) (fun st h => lv_iconst (v := iI (0)) hx hb dX2_work_33 rfl (lv_goto (tgt := 38) hx hb dX2_work_34 (by decide) h)) (fun st h => lv_iconst (v := iI (1)) hx hb dX2_work_37 rfl h) ?_
      rw [show (if p0 < 4 then (0 : Int) else 1) = tw (r0 * 8 + p0) from by unfold tw; split <;> split <;> omega]
      refine lv_istore (lv' := [(9, .int (iI (tw (r0 * 8 + p0)))), (8, .int (iI (p0))), (7, .int (iI (0))), (6, .int (iI (0))), (0, .ref (d 0)), (1, .int (iI (0))), (2, .int (iI (r0))), (3, .int (iI (p0))), (4, .int (iI (i0))), (5, .int (iI (v0)))]) hx hb dX2_work_38 hl (by decide) rfl (fun ls hl => ?_)
      refine lv_iload_n hx hb dX2_work_40 rfl (lv_at hl 5 rfl) ?_
      refine gi_if_ne (tgt := 48) hx hb dX2_work_41 (by decide) ⟨by decide, by decide⟩ (fun c41 => ?_) (fun c41 => ?_)
      · skip
        exact absurd rfl c41
      · skip
        refine lv_iconst (v := iI (5)) hx hb dX2_work_44 rfl ?_
        refine lv_goto (tgt := 68) hx hb dX2_work_45 (by decide) ?_
        refine lv_istore (lv' := [(10, .int (iI (5))), (9, .int (iI (tw (r0 * 8 + p0)))), (8, .int (iI (p0))), (7, .int (iI (0))), (6, .int (iI (0))), (0, .ref (d 0)), (1, .int (iI (0))), (2, .int (iI (r0))), (3, .int (iI (p0))), (4, .int (iI (i0))), (5, .int (iI (v0)))]) hx hb dX2_work_68 hl (by decide) rfl (fun ls hl => ?_)
        refine lv_aload_n hx hb dX2_work_70 rfl (lv_at hl 5 rfl) ?_
        refine va_get (D := D) (ci := 2) (v := .ref (d 1)) (C := RX2) (T := TX2) (N := 8) hx hb hts hinX2 hown hK hP 0 rfl rfl 0 (by decide) (hts (.fieldLink RX2 9 "TwinOrchardLaw$Sim" "trees" "[[LTwinOrchardLaw$Tree;") (List.mem_of_getElem? (i := 1) rfl)) (fun _ h9 => h9) rfl dX2_work_71 ?_
        refine lv_iload_n hx hb dX2_work_74 rfl (lv_at hl 7 rfl) ?_
        refine s_row (f := srt d) hx hb hK hP 1 3 rfl rfl (by omega) (by omega) (by decide) (v := d (r0.toNat + 7)) (if_pos (by omega)) dX2_work_75 ?_
        refine lv_iload hx hb dX2_work_76 (lv_at hl 2 rfl) ?_
        refine s_tree (σ := σ) (ι := ι) (r := r0) (i := p0) hx hb hK hP (r0.toNat + 7) 2 (sw_row (by omega) (by omega)) rfl (by omega) (by omega) dX2_work_78 (fun ct78 => ?_) (fun ct78 => ?_)
        · skip
          refine lv_astoreN (lv' := [(11, .null), (10, .int (iI (5))), (9, .int (iI (tw (r0 * 8 + p0)))), (8, .int (iI (p0))), (7, .int (iI (0))), (6, .int (iI (0))), (0, .ref (d 0)), (1, .int (iI (0))), (2, .int (iI (r0))), (3, .int (iI (p0))), (4, .int (iI (i0))), (5, .int (iI (v0)))]) hx hb dX2_work_79 hl (by decide) rfl (fun ls hl => ?_)
          refine lv_iload_n hx hb dX2_work_81 rfl (lv_at hl 7 rfl) ?_
          refine gi_if_ne (tgt := 98) hx hb dX2_work_82 (by decide) ⟨by decide, by decide⟩ (fun c82 => ?_) (fun c82 => ?_)
          · skip
            exact absurd rfl c82
          · skip
            refine lv_aloadN hx hb dX2_work_85 (lv_at hl 0 rfl) ?_
            refine lv_ifnonnullN hx hb dX2_work_87 ?_
            refine lv_iconst (v := iI (1)) hx hb dX2_work_90 rfl ?_
            refine lv_goto (tgt := 149) hx hb dX2_work_91 (by decide) ?_
            refine lv_istore (lv' := [(12, .int (iI (1))), (11, .null), (10, .int (iI (5))), (9, .int (iI (tw (r0 * 8 + p0)))), (8, .int (iI (p0))), (7, .int (iI (0))), (6, .int (iI (0))), (0, .ref (d 0)), (1, .int (iI (0))), (2, .int (iI (r0))), (3, .int (iI (p0))), (4, .int (iI (i0))), (5, .int (iI (v0)))]) hx hb dX2_work_149 hl (by decide) rfl (fun ls hl => ?_)
            refine lv_iload hx hb dX2_work_151 (lv_at hl 0 rfl) ?_
            refine gi_if_eq (tgt := 309) hx hb dX2_work_153 (by decide) ⟨by decide, by decide⟩ (fun c153 => ?_) (fun c153 => ?_)
            · skip
              exact absurd c153 (by decide)
            · skip
              refine lv_aload_n hx hb dX2_work_156 rfl (lv_at hl 7 rfl) ?_
              refine va_get (D := D) (ci := 2) (v := .ref (d 6)) (C := RX2) (T := TX2) (N := 8) hx hb hts hinX2 hown hK hP 0 rfl rfl 5 (by decide) (hts (.fieldLink RX2 27 "TwinOrchardLaw$Sim" "strength" "[I") (List.mem_of_getElem? (i := 4) rfl)) (fun _ h9 => h9) rfl dX2_work_157 ?_
              refine lv_iload hx hb dX2_work_160 (lv_at hl 3 rfl) ?_
              refine gi_iald (a := d 6) (n := 2) (f := σ 8) hx hb hK hP 6 0 rfl rfl (by omega) (by omega) (by decide) dX2_work_162 ?_
              refine lv_iload hx hb dX2_work_163 (lv_at hl 2 rfl) ?_
              refine gi_icmp_ge (tgt := 171) hx hb dX2_work_165 (by decide) ⟨by omega, by omega⟩ ⟨by decide, by decide⟩ (fun c165 => ?_) (fun c165 => ?_)
              · skip
                refine lv_aload_n hx hb dX2_work_171 rfl (lv_at hl 7 rfl) ?_
                refine va_get (D := D) (ci := 2) (v := .ref (d 6)) (C := RX2) (T := TX2) (N := 8) hx hb hts hinX2 hown hK hP 0 rfl rfl 5 (by decide) (hts (.fieldLink RX2 27 "TwinOrchardLaw$Sim" "strength" "[I") (List.mem_of_getElem? (i := 4) rfl)) (fun _ h9 => h9) rfl dX2_work_172 ?_
                refine lv_iload hx hb dX2_work_175 (lv_at hl 3 rfl) ?_
                refine lv_dup2_11 hx hb dX2_work_177 rfl rfl ?_
                refine gi_iald (a := d 6) (n := 2) (f := σ 8) hx hb hK hP 6 0 rfl rfl (by omega) (by omega) (by decide) dX2_work_178 ?_
                refine lv_iload hx hb dX2_work_179 (lv_at hl 2 rfl) ?_
                refine gi_sub hx hb dX2_work_181 ?_
                refine gi_iast (a := d 6) (n := 2) (f := σ 8) hx hb hK hP hD hS 6 0 rfl rfl (by omega) (by omega) (by decide) dX2_work_182 (fun H locs hP hD hS => ?_)
                have hP : va_P D vwCl (SW cI cT cU d (su σ 8 (tw (r0 * 8 + p0)) ((σ 8 (tw (r0 * 8 + p0))) - 5)) ι) H := hP
                have hD : va_D A (SW cI cT cU d (su σ 8 (tw (r0 * 8 + p0)) ((σ 8 (tw (r0 * 8 + p0))) - 5)) ι) := hD
                refine lv_iload hx hb dX2_work_183 (lv_at hl 6 rfl) ?_
                refine lv_iload hx hb dX2_work_185 (lv_at hl 5 rfl) ?_
                refine lv_iconst (v := iI (1)) hx hb dX2_work_187 rfl ?_
                refine gi_add hx hb dX2_work_188 ?_
                refine gi_add hx hb dX2_work_189 ?_
                refine lv_istore (lv' := [(6, .int (iI (0 + (0 + 1)))), (12, .int (iI (1))), (11, .null), (10, .int (iI (5))), (9, .int (iI (tw (r0 * 8 + p0)))), (8, .int (iI (p0))), (7, .int (iI (0))), (0, .ref (d 0)), (1, .int (iI (0))), (2, .int (iI (r0))), (3, .int (iI (p0))), (4, .int (iI (i0))), (5, .int (iI (v0)))]) hx hb dX2_work_190 hl (by decide) rfl (fun ls hl => ?_)
                refine lv_iload_n hx hb dX2_work_192 rfl (lv_at hl 8 rfl) ?_
                refine gi_if_ne (tgt := 233) hx hb dX2_work_193 (by decide) ⟨by decide, by decide⟩ (fun c193 => ?_) (fun c193 => ?_)
                · skip
                  exact absurd rfl c193
                · skip
                  refine va_new (ci := 3) (fs := [.int 0, .int 0, .int 0, .int 0]) (C := RX3) (T := TX3) (N := 4) hx hb hts hinX3 tyX3 tyX3_ok hown (hts _ (List.mem_of_getElem? (i := 5) rfl)) (hts _ (List.mem_of_getElem? (i := 6) rfl)) (hts _ (List.mem_of_getElem? (i := 7) rfl)) hK hP hD hS hA rfl dfX3 (Nat.le_of_ble_eq_true rfl) (Nat.le_of_ble_eq_true rfl) dX2_work_196 (fun q196_1 H hP hD hS => ?_)
                  obtain ⟨hP, hD⟩ := g_swap hP hD
                  have hP : va_P D vwCl ([(q196_1, .inr (3, [.int (iI (0)), .int (iI (0)), .int (iI (0)), .int (iI (0))]))] ++ (SW cI cT cU d (su σ 8 (tw (r0 * 8 + p0)) ((σ 8 (tw (r0 * 8 + p0))) - 5)) ι)) H := hP
                  have hD : va_D A ([(q196_1, .inr (3, [.int (iI (0)), .int (iI (0)), .int (iI (0)), .int (iI (0))]))] ++ (SW cI cT cU d (su σ 8 (tw (r0 * 8 + p0)) ((σ 8 (tw (r0 * 8 + p0))) - 5)) ι)) := hD
                  refine lv_dup hx hb dX2_work_199 rfl ?_
                  have hPc : va_P D vwCl ([(q196_1, .inr (3, [.int (iI (0)), .int (iI (0)), .int (iI (0)), .int (iI (0))]))] ++ (SW cI cT cU d (su σ 8 (tw (r0 * 8 + p0)) ((σ 8 (tw (r0 * 8 + p0))) - 5)) ι)) H := hP
                  have hDc : va_D A ([(q196_1, .inr (3, [.int (iI (0)), .int (iI (0)), .int (iI (0)), .int (iI (0))]))] ++ (SW cI cT cU d (su σ 8 (tw (r0 * 8 + p0)) ((σ 8 (tw (r0 * 8 + p0))) - 5)) ι)) := hD
                  refine g_call (va_runIN (As := []) (rest := [.ref (q196_1)]) S ((kX3_init l D cI cZ cT cU cQ q196_1) H.size) ⟨va_cnB 0 hts gX2_work_X3_init_n47 rfl rfl rfl hE.2.1 (hts (.initialized RX3) (List.mem_of_getElem? (i := 7) rfl)) (by decide +kernel) ⟨Nat.le_of_ble_eq_true rfl, Nat.le_of_ble_eq_true rfl⟩, rfl, (hts _ (List.mem_of_getElem? (i := 10) rfl))⟩ (g_preS (As := [.ref q196_1]) gEx_t hK [0, 1, 2, 3, 4] rfl hPc hDc (fun _ _ _ => trivial)) rfl rfl hl.1 rfl (lv_room (Nat.le_of_ble_eq_true rfl)) dX2_work_200 ⟨Nat.le_of_ble_eq_true rfl, Nat.le_of_ble_eq_true rfl⟩) hPc hDc hS hA (fun κ9 H locs hk hP hD hS => ?_)
                  obtain ⟨z2, ezz2⟩ : ∃ z, z = κ9 := ⟨_, rfl⟩
                  subst ezz2
                  have hP : va_P D vwCl ([(q196_1, .inr (3, [.int (iI (1)), .int (iI (0)), .int (iI (0)), .int (iI (0))]))] ++ (SW cI cT cU d (su σ 8 (tw (r0 * 8 + p0)) ((σ 8 (tw (r0 * 8 + p0))) - 5)) ι)) H := hP
                  have hD : va_D A ([(q196_1, .inr (3, [.int (iI (1)), .int (iI (0)), .int (iI (0)), .int (iI (0))]))] ++ (SW cI cT cU d (su σ 8 (tw (r0 * 8 + p0)) ((σ 8 (tw (r0 * 8 + p0))) - 5)) ι)) := hD
                  show W p l e ({ frames := 2, cells := 2, slots := 8, locals := 44 } : Room) s m args below meth c H locs 1 4 (MQ below (gQ D (tyA cI cZ cT cU cQ) (fun κ' => SW cI cT cU d (xPlant (xPlant σ (r0 * 8 + p0) i0 v0) (mir (r0 * 8 + p0)) i0 v0) (κ' 2)) A (fun _ => some (.int (iI (who (plA σ (r0 * 8 + p0)) (plA (xPlant σ (r0 * 8 + p0) i0 v0) (mir (r0 * 8 + p0))))))) (fun κ' => True)) args s 2 8 A) (F0 m 203 ls [.ref (q196_1)])
                  refine lv_astore (lv' := [(11, .ref (q196_1)), (6, .int (iI (0 + (0 + 1)))), (12, .int (iI (1))), (10, .int (iI (5))), (9, .int (iI (tw (r0 * 8 + p0)))), (8, .int (iI (p0))), (7, .int (iI (0))), (0, .ref (d 0)), (1, .int (iI (0))), (2, .int (iI (r0))), (3, .int (iI (p0))), (4, .int (iI (i0))), (5, .int (iI (v0)))]) hx hb dX2_work_203 hl (by decide) rfl (fun ls hl => ?_)
                  refine lv_aload hx hb dX2_work_205 (lv_at hl 0 rfl) ?_
                  refine lv_iload hx hb dX2_work_207 (lv_at hl 11 rfl) ?_
                  refine va_put (D := D) (ci := 3) (v := .int (iI (i0))) (ty := .int) (C := RX3) (T := TX3) (N := 4) hx hb hts hinX3 tyX3 tyX3_ok nmX3 hown hK hP hD hS 0 rfl rfl 2 (by decide) (hts (.fieldLink RX2 44 "TwinOrchardLaw$Tree" "sort" "I") (List.mem_of_getElem? (i := 3) rfl)) (fun _ h9 => h9) rfl (by decide +kernel) rfl rfl (Nat.le_of_ble_eq_true rfl) dX2_work_209 (fun H locs hP hD hS => ?_)
                  have hP : va_P D vwCl ([(q196_1, .inr (3, [.int (iI (1)), .int (iI (0)), .int (iI (i0)), .int (iI (0))]))] ++ (SW cI cT cU d (su σ 8 (tw (r0 * 8 + p0)) ((σ 8 (tw (r0 * 8 + p0))) - 5)) ι)) H := hP
                  have hD : va_D A ([(q196_1, .inr (3, [.int (iI (1)), .int (iI (0)), .int (iI (i0)), .int (iI (0))]))] ++ (SW cI cT cU d (su σ 8 (tw (r0 * 8 + p0)) ((σ 8 (tw (r0 * 8 + p0))) - 5)) ι)) := hD
                  refine lv_aload hx hb dX2_work_212 (lv_at hl 0 rfl) ?_
                  refine lv_iload hx hb dX2_work_214 (lv_at hl 12 rfl) ?_
                  refine va_put (D := D) (ci := 3) (v := .int (iI (v0))) (ty := .int) (C := RX3) (T := TX3) (N := 4) hx hb hts hinX3 tyX3 tyX3_ok nmX3 hown hK hP hD hS 0 rfl rfl 1 (by decide) (hts (.fieldLink RX2 48 "TwinOrchardLaw$Tree" "vigour" "I") (List.mem_of_getElem? (i := 8) rfl)) (fun _ h9 => h9) rfl (by decide +kernel) rfl rfl (Nat.le_of_ble_eq_true rfl) dX2_work_216 (fun H locs hP hD hS => ?_)
                  have hP : va_P D vwCl ([(q196_1, .inr (3, [.int (iI (1)), .int (iI (v0)), .int (iI (i0)), .int (iI (0))]))] ++ (SW cI cT cU d (su σ 8 (tw (r0 * 8 + p0)) ((σ 8 (tw (r0 * 8 + p0))) - 5)) ι)) H := hP
                  have hD : va_D A ([(q196_1, .inr (3, [.int (iI (1)), .int (iI (v0)), .int (iI (i0)), .int (iI (0))]))] ++ (SW cI cT cU d (su σ 8 (tw (r0 * 8 + p0)) ((σ 8 (tw (r0 * 8 + p0))) - 5)) ι)) := hD
                  refine lv_aload_n hx hb dX2_work_219 rfl (lv_at hl 7 rfl) ?_
                  refine va_get (D := D) (ci := 2) (v := .ref (d 1)) (C := RX2) (T := TX2) (N := 8) hx hb hts hinX2 hown hK (g_right hP) 0 rfl rfl 0 (by decide) (hts (.fieldLink RX2 9 "TwinOrchardLaw$Sim" "trees" "[[LTwinOrchardLaw$Tree;") (List.mem_of_getElem? (i := 1) rfl)) (fun _ h9 => h9) rfl dX2_work_220 ?_
                  refine lv_iload_n hx hb dX2_work_223 rfl (lv_at hl 9 rfl) ?_
                  refine s_row (f := srt d) hx hb hK (g_right hP) 1 3 rfl rfl (by omega) (by omega) (by decide) (v := d (r0.toNat + 7)) (if_pos (by omega)) dX2_work_224 ?_
                  refine lv_iload hx hb dX2_work_225 (lv_at hl 5 rfl) ?_
                  refine lv_aload hx hb dX2_work_227 (lv_at hl 0 rfl) ?_
                  refine s_storeR (f := trow (su σ 8 (tw (r0 * 8 + p0)) ((σ 8 (tw (r0 * 8 + p0))) - 5)) ι r0) hx hb hK hP hD hS (r0.toNat + 7 + 1) 2 0 3 (sw_row (cI := cI) (cT := cT) (cU := cU) (d := d) (σ := su σ 8 (tw (r0 * 8 + p0)) ((σ 8 (tw (r0 * 8 + p0))) - 5)) (ι := ι) (r := r0) (by omega) (by omega)) rfl rfl rfl (by omega) (by omega) dX2_work_229 (fun H locs hP hD hS => ?_)
                  obtain ⟨hP, hD⟩ := sw_plant (cI := cI) (cT := cT) (cU := cU) (d := d) (σ := su σ 8 (tw (r0 * 8 + p0)) ((σ 8 (tw (r0 * 8 + p0))) - 5)) (ι := ι) (r := r0) (p := p0) (so := i0) (v := v0) (q := q196_1) (by omega) (by omega) ct78 (by omega) hP hD
                  have hP : va_P D vwCl (SW cI cT cU d (plaS (su σ 8 (tw (r0 * 8 + p0)) ((σ 8 (tw (r0 * 8 + p0))) - 5)) (r0 * 8 + p0) (i0) (v0)) (fu ι (r0 * 8 + p0) ((q196_1 : Nat) : Int))) H := hP
                  have hD : va_D A (SW cI cT cU d (plaS (su σ 8 (tw (r0 * 8 + p0)) ((σ 8 (tw (r0 * 8 + p0))) - 5)) (r0 * 8 + p0) (i0) (v0)) (fu ι (r0 * 8 + p0) ((q196_1 : Nat) : Int))) := hD
                  refine lv_goto (tgt := 309) hx hb dX2_work_230 (by decide) ?_
                  have ha1 : plA σ (r0 * 8 + p0) = 1 := bI_t (by omega)
                  have e8 : (plaS (su σ 8 (tw (r0 * 8 + p0)) ((σ 8 (tw (r0 * 8 + p0))) - 5)) (r0 * 8 + p0) (i0) (v0)) = (xPlant σ (r0 * 8 + p0) i0 v0) := (xPlant_y (by omega)).symm
                  rw [e8] at hP hD
                  have hP : va_P D vwCl (SW cI cT cU d (xPlant σ (r0 * 8 + p0) i0 v0) (fu ι (r0 * 8 + p0) ((q196_1 : Nat) : Int))) H := hP
                  have hD : va_D A (SW cI cT cU d (xPlant σ (r0 * 8 + p0) i0 v0) (fu ι (r0 * 8 + p0) ((q196_1 : Nat) : Int))) := hD
                  have hwf2 : xWF (xPlant σ (r0 * 8 + p0) i0 v0) := xWF_plant hwf hi hv
                  have k4b := xWF_4 hwf2 (r0 * 8 + (7 - p0))
                  have k5b := xWF_5 hwf2 (r0 * 8 + (7 - p0))
                  have k8b := xWF_8 hwf2 (tw (r0 * 8 + (7 - p0)))
                  refine lv_iinc (v := iI (1)) (lv' := [(7, .int (iI (1))), (11, .ref (q196_1)), (6, .int (iI (0 + (0 + 1)))), (12, .int (iI (1))), (10, .int (iI (5))), (9, .int (iI (tw (r0 * 8 + p0)))), (8, .int (iI (p0))), (0, .ref (d 0)), (1, .int (iI (0))), (2, .int (iI (r0))), (3, .int (iI (p0))), (4, .int (iI (i0))), (5, .int (iI (v0)))]) hx hb dX2_work_309 hl (k := 6) rfl rfl (by decide) rfl (fun ls hl => ?_)
                  refine lv_goto (tgt := 6) hx hb dX2_work_312 (by decide) ?_
                  refine lv_iload hx hb dX2_work_6 (lv_at hl 0 rfl) ?_
                  refine lv_iconst (v := iI (2)) hx hb dX2_work_8 rfl ?_
                  refine gi_icmp_ge (tgt := 315) hx hb dX2_work_9 (by decide) ⟨by decide, by decide⟩ ⟨by decide, by decide⟩ (fun c9 => ?_) (fun c9 => ?_)
                  · skip
                    exact absurd c9 (by decide)
                  · skip
                    refine lv_iload hx hb dX2_work_12 (lv_at hl 0 rfl) ?_
                    refine gi_if_ne (tgt := 21) hx hb dX2_work_14 (by decide) ⟨by decide, by decide⟩ (fun c14 => ?_) (fun c14 => ?_)
                    · skip
                      refine lv_bipush (v := iI (7)) hx hb dX2_work_21 rfl ?_
                      refine lv_iload_n hx hb dX2_work_23 rfl (lv_at hl 10 rfl) ?_
                      refine gi_sub hx hb dX2_work_24 ?_
                      refine lv_istore (lv' := [(8, .int (iI (7 - p0))), (7, .int (iI (1))), (11, .ref (q196_1)), (6, .int (iI (0 + (0 + 1)))), (12, .int (iI (1))), (10, .int (iI (5))), (9, .int (iI (tw (r0 * 8 + p0)))), (0, .ref (d 0)), (1, .int (iI (0))), (2, .int (iI (r0))), (3, .int (iI (p0))), (4, .int (iI (i0))), (5, .int (iI (v0)))]) hx hb dX2_work_25 hl (by decide) rfl (fun ls hl => ?_)
                      refine lv_iload hx hb dX2_work_27 (lv_at hl 0 rfl) ?_
                      refine lv_iconst (v := iI (4)) hx hb dX2_work_29 rfl ?_
                      refine g_selGe (u := 0) (v := 1) (t1 := 37) (t2 := 38) hx hb ⟨by omega, by omega⟩ ⟨by decide, by decide⟩ dX2_work_30 (by decide) (fun st h => lv_iconst (v := iI (0)) hx hb dX2_work_33 rfl (lv_goto (tgt := 38) hx hb dX2_work_34 (by decide) h)) (fun st h => lv_iconst (v := iI (1)) hx hb dX2_work_37 rfl h) ?_
                      rw [show (if 7 - p0 < 4 then (0 : Int) else 1) = tw (r0 * 8 + (7 - p0)) from by unfold tw; split <;> split <;> omega]
                      refine lv_istore (lv' := [(9, .int (iI (tw (r0 * 8 + (7 - p0))))), (8, .int (iI (7 - p0))), (7, .int (iI (1))), (11, .ref (q196_1)), (6, .int (iI (0 + (0 + 1)))), (12, .int (iI (1))), (10, .int (iI (5))), (0, .ref (d 0)), (1, .int (iI (0))), (2, .int (iI (r0))), (3, .int (iI (p0))), (4, .int (iI (i0))), (5, .int (iI (v0)))]) hx hb dX2_work_38 hl (by decide) rfl (fun ls hl => ?_)
                      refine lv_iload_n hx hb dX2_work_40 rfl (lv_at hl 8 rfl) ?_
                      refine gi_if_ne (tgt := 48) hx hb dX2_work_41 (by decide) ⟨by decide, by decide⟩ (fun c41 => ?_) (fun c41 => ?_)
                      · skip
                        exact absurd rfl c41
                      · skip
                        refine lv_iconst (v := iI (5)) hx hb dX2_work_44 rfl ?_
                        refine lv_goto (tgt := 68) hx hb dX2_work_45 (by decide) ?_
                        refine lv_istore (lv' := [(10, .int (iI (5))), (9, .int (iI (tw (r0 * 8 + (7 - p0))))), (8, .int (iI (7 - p0))), (7, .int (iI (1))), (11, .ref (q196_1)), (6, .int (iI (0 + (0 + 1)))), (12, .int (iI (1))), (0, .ref (d 0)), (1, .int (iI (0))), (2, .int (iI (r0))), (3, .int (iI (p0))), (4, .int (iI (i0))), (5, .int (iI (v0)))]) hx hb dX2_work_68 hl (by decide) rfl (fun ls hl => ?_)
                        refine lv_aload_n hx hb dX2_work_70 rfl (lv_at hl 7 rfl) ?_
                        refine va_get (D := D) (ci := 2) (v := .ref (d 1)) (C := RX2) (T := TX2) (N := 8) hx hb hts hinX2 hown hK hP 0 rfl rfl 0 (by decide) (hts (.fieldLink RX2 9 "TwinOrchardLaw$Sim" "trees" "[[LTwinOrchardLaw$Tree;") (List.mem_of_getElem? (i := 1) rfl)) (fun _ h9 => h9) rfl dX2_work_71 ?_
                        refine lv_iload_n hx hb dX2_work_74 rfl (lv_at hl 9 rfl) ?_
                        refine s_row (f := srt d) hx hb hK hP 1 3 rfl rfl (by omega) (by omega) (by decide) (v := d (r0.toNat + 7)) (if_pos (by omega)) dX2_work_75 ?_
                        refine lv_iload hx hb dX2_work_76 (lv_at hl 2 rfl) ?_
                        refine s_tree (σ := xPlant σ (r0 * 8 + p0) i0 v0) (ι := fu ι (r0 * 8 + p0) ((q196_1 : Nat) : Int)) (r := r0) (i := 7 - p0) hx hb hK hP (r0.toNat + 7) 2 (sw_row (by omega) (by omega)) rfl (by omega) (by omega) dX2_work_78 (fun ct78 => ?_) (fun ct78 => ?_)
                        · skip
                          refine lv_astoreN (lv' := [(11, .null), (10, .int (iI (5))), (9, .int (iI (tw (r0 * 8 + (7 - p0))))), (8, .int (iI (7 - p0))), (7, .int (iI (1))), (6, .int (iI (0 + (0 + 1)))), (12, .int (iI (1))), (0, .ref (d 0)), (1, .int (iI (0))), (2, .int (iI (r0))), (3, .int (iI (p0))), (4, .int (iI (i0))), (5, .int (iI (v0)))]) hx hb dX2_work_79 hl (by decide) rfl (fun ls hl => ?_)
                          refine lv_iload_n hx hb dX2_work_81 rfl (lv_at hl 8 rfl) ?_
                          refine gi_if_ne (tgt := 98) hx hb dX2_work_82 (by decide) ⟨by decide, by decide⟩ (fun c82 => ?_) (fun c82 => ?_)
                          · skip
                            exact absurd rfl c82
                          · skip
                            refine lv_aloadN hx hb dX2_work_85 (lv_at hl 0 rfl) ?_
                            refine lv_ifnonnullN hx hb dX2_work_87 ?_
                            refine lv_iconst (v := iI (1)) hx hb dX2_work_90 rfl ?_
                            refine lv_goto (tgt := 149) hx hb dX2_work_91 (by decide) ?_
                            refine lv_istore (lv' := [(12, .int (iI (1))), (11, .null), (10, .int (iI (5))), (9, .int (iI (tw (r0 * 8 + (7 - p0))))), (8, .int (iI (7 - p0))), (7, .int (iI (1))), (6, .int (iI (0 + (0 + 1)))), (0, .ref (d 0)), (1, .int (iI (0))), (2, .int (iI (r0))), (3, .int (iI (p0))), (4, .int (iI (i0))), (5, .int (iI (v0)))]) hx hb dX2_work_149 hl (by decide) rfl (fun ls hl => ?_)
                            refine lv_iload hx hb dX2_work_151 (lv_at hl 0 rfl) ?_
                            refine gi_if_eq (tgt := 309) hx hb dX2_work_153 (by decide) ⟨by decide, by decide⟩ (fun c153 => ?_) (fun c153 => ?_)
                            · skip
                              exact absurd c153 (by decide)
                            · skip
                              refine lv_aload_n hx hb dX2_work_156 rfl (lv_at hl 7 rfl) ?_
                              refine va_get (D := D) (ci := 2) (v := .ref (d 6)) (C := RX2) (T := TX2) (N := 8) hx hb hts hinX2 hown hK hP 0 rfl rfl 5 (by decide) (hts (.fieldLink RX2 27 "TwinOrchardLaw$Sim" "strength" "[I") (List.mem_of_getElem? (i := 4) rfl)) (fun _ h9 => h9) rfl dX2_work_157 ?_
                              refine lv_iload hx hb dX2_work_160 (lv_at hl 3 rfl) ?_
                              refine gi_iald (a := d 6) (n := 2) (f := (xPlant σ (r0 * 8 + p0) i0 v0) 8) hx hb hK hP 6 0 rfl rfl (by omega) (by omega) (by decide) dX2_work_162 ?_
                              refine lv_iload hx hb dX2_work_163 (lv_at hl 2 rfl) ?_
                              refine gi_icmp_ge (tgt := 171) hx hb dX2_work_165 (by decide) ⟨by omega, by omega⟩ ⟨by decide, by decide⟩ (fun c165 => ?_) (fun c165 => ?_)
                              · skip
                                refine lv_aload_n hx hb dX2_work_171 rfl (lv_at hl 7 rfl) ?_
                                refine va_get (D := D) (ci := 2) (v := .ref (d 6)) (C := RX2) (T := TX2) (N := 8) hx hb hts hinX2 hown hK hP 0 rfl rfl 5 (by decide) (hts (.fieldLink RX2 27 "TwinOrchardLaw$Sim" "strength" "[I") (List.mem_of_getElem? (i := 4) rfl)) (fun _ h9 => h9) rfl dX2_work_172 ?_
                                refine lv_iload hx hb dX2_work_175 (lv_at hl 3 rfl) ?_
                                refine lv_dup2_11 hx hb dX2_work_177 rfl rfl ?_
                                refine gi_iald (a := d 6) (n := 2) (f := (xPlant σ (r0 * 8 + p0) i0 v0) 8) hx hb hK hP 6 0 rfl rfl (by omega) (by omega) (by decide) dX2_work_178 ?_
                                refine lv_iload hx hb dX2_work_179 (lv_at hl 2 rfl) ?_
                                refine gi_sub hx hb dX2_work_181 ?_
                                refine gi_iast (a := d 6) (n := 2) (f := (xPlant σ (r0 * 8 + p0) i0 v0) 8) hx hb hK hP hD hS 6 0 rfl rfl (by omega) (by omega) (by decide) dX2_work_182 (fun H locs hP hD hS => ?_)
                                have hP : va_P D vwCl (SW cI cT cU d (su (xPlant σ (r0 * 8 + p0) i0 v0) 8 (tw (r0 * 8 + (7 - p0))) (((xPlant σ (r0 * 8 + p0) i0 v0) 8 (tw (r0 * 8 + (7 - p0)))) - 5)) (fu ι (r0 * 8 + p0) ((q196_1 : Nat) : Int))) H := hP
                                have hD : va_D A (SW cI cT cU d (su (xPlant σ (r0 * 8 + p0) i0 v0) 8 (tw (r0 * 8 + (7 - p0))) (((xPlant σ (r0 * 8 + p0) i0 v0) 8 (tw (r0 * 8 + (7 - p0)))) - 5)) (fu ι (r0 * 8 + p0) ((q196_1 : Nat) : Int))) := hD
                                refine lv_iload hx hb dX2_work_183 (lv_at hl 6 rfl) ?_
                                refine lv_iload hx hb dX2_work_185 (lv_at hl 5 rfl) ?_
                                refine lv_iconst (v := iI (1)) hx hb dX2_work_187 rfl ?_
                                refine gi_add hx hb dX2_work_188 ?_
                                refine gi_add hx hb dX2_work_189 ?_
                                refine lv_istore (lv' := [(6, .int (iI ((0 + (0 + 1)) + (1 + 1)))), (12, .int (iI (1))), (11, .null), (10, .int (iI (5))), (9, .int (iI (tw (r0 * 8 + (7 - p0))))), (8, .int (iI (7 - p0))), (7, .int (iI (1))), (0, .ref (d 0)), (1, .int (iI (0))), (2, .int (iI (r0))), (3, .int (iI (p0))), (4, .int (iI (i0))), (5, .int (iI (v0)))]) hx hb dX2_work_190 hl (by decide) rfl (fun ls hl => ?_)
                                refine lv_iload_n hx hb dX2_work_192 rfl (lv_at hl 8 rfl) ?_
                                refine gi_if_ne (tgt := 233) hx hb dX2_work_193 (by decide) ⟨by decide, by decide⟩ (fun c193 => ?_) (fun c193 => ?_)
                                · skip
                                  exact absurd rfl c193
                                · skip
                                  refine va_new (ci := 3) (fs := [.int 0, .int 0, .int 0, .int 0]) (C := RX3) (T := TX3) (N := 4) hx hb hts hinX3 tyX3 tyX3_ok hown (hts _ (List.mem_of_getElem? (i := 5) rfl)) (hts _ (List.mem_of_getElem? (i := 6) rfl)) (hts _ (List.mem_of_getElem? (i := 7) rfl)) hK hP hD hS hA rfl dfX3 (Nat.le_of_ble_eq_true rfl) (Nat.le_of_ble_eq_true rfl) dX2_work_196 (fun q196_3 H hP hD hS => ?_)
                                  obtain ⟨hP, hD⟩ := g_swap hP hD
                                  have hP : va_P D vwCl ([(q196_3, .inr (3, [.int (iI (0)), .int (iI (0)), .int (iI (0)), .int (iI (0))]))] ++ (SW cI cT cU d (su (xPlant σ (r0 * 8 + p0) i0 v0) 8 (tw (r0 * 8 + (7 - p0))) (((xPlant σ (r0 * 8 + p0) i0 v0) 8 (tw (r0 * 8 + (7 - p0)))) - 5)) (fu ι (r0 * 8 + p0) ((q196_1 : Nat) : Int)))) H := hP
                                  have hD : va_D A ([(q196_3, .inr (3, [.int (iI (0)), .int (iI (0)), .int (iI (0)), .int (iI (0))]))] ++ (SW cI cT cU d (su (xPlant σ (r0 * 8 + p0) i0 v0) 8 (tw (r0 * 8 + (7 - p0))) (((xPlant σ (r0 * 8 + p0) i0 v0) 8 (tw (r0 * 8 + (7 - p0)))) - 5)) (fu ι (r0 * 8 + p0) ((q196_1 : Nat) : Int)))) := hD
                                  refine lv_dup hx hb dX2_work_199 rfl ?_
                                  have hPc : va_P D vwCl ([(q196_3, .inr (3, [.int (iI (0)), .int (iI (0)), .int (iI (0)), .int (iI (0))]))] ++ (SW cI cT cU d (su (xPlant σ (r0 * 8 + p0) i0 v0) 8 (tw (r0 * 8 + (7 - p0))) (((xPlant σ (r0 * 8 + p0) i0 v0) 8 (tw (r0 * 8 + (7 - p0)))) - 5)) (fu ι (r0 * 8 + p0) ((q196_1 : Nat) : Int)))) H := hP
                                  have hDc : va_D A ([(q196_3, .inr (3, [.int (iI (0)), .int (iI (0)), .int (iI (0)), .int (iI (0))]))] ++ (SW cI cT cU d (su (xPlant σ (r0 * 8 + p0) i0 v0) 8 (tw (r0 * 8 + (7 - p0))) (((xPlant σ (r0 * 8 + p0) i0 v0) 8 (tw (r0 * 8 + (7 - p0)))) - 5)) (fu ι (r0 * 8 + p0) ((q196_1 : Nat) : Int)))) := hD
                                  refine g_call (va_runIN (As := []) (rest := [.ref (q196_3)]) S ((kX3_init l D cI cZ cT cU cQ q196_3) H.size) ⟨va_cnB 0 hts gX2_work_X3_init_n47 rfl rfl rfl hE.2.1 (hts (.initialized RX3) (List.mem_of_getElem? (i := 7) rfl)) (by decide +kernel) ⟨Nat.le_of_ble_eq_true rfl, Nat.le_of_ble_eq_true rfl⟩, rfl, (hts _ (List.mem_of_getElem? (i := 10) rfl))⟩ (g_preS (As := [.ref q196_3]) gEx_t hK [0, 1, 2, 3, 4] rfl hPc hDc (fun _ _ _ => trivial)) rfl rfl hl.1 rfl (lv_room (Nat.le_of_ble_eq_true rfl)) dX2_work_200 ⟨Nat.le_of_ble_eq_true rfl, Nat.le_of_ble_eq_true rfl⟩) hPc hDc hS hA (fun κ9 H locs hk hP hD hS => ?_)
                                  obtain ⟨z4, ezz4⟩ : ∃ z, z = κ9 := ⟨_, rfl⟩
                                  subst ezz4
                                  have hP : va_P D vwCl ([(q196_3, .inr (3, [.int (iI (1)), .int (iI (0)), .int (iI (0)), .int (iI (0))]))] ++ (SW cI cT cU d (su (xPlant σ (r0 * 8 + p0) i0 v0) 8 (tw (r0 * 8 + (7 - p0))) (((xPlant σ (r0 * 8 + p0) i0 v0) 8 (tw (r0 * 8 + (7 - p0)))) - 5)) (fu ι (r0 * 8 + p0) ((q196_1 : Nat) : Int)))) H := hP
                                  have hD : va_D A ([(q196_3, .inr (3, [.int (iI (1)), .int (iI (0)), .int (iI (0)), .int (iI (0))]))] ++ (SW cI cT cU d (su (xPlant σ (r0 * 8 + p0) i0 v0) 8 (tw (r0 * 8 + (7 - p0))) (((xPlant σ (r0 * 8 + p0) i0 v0) 8 (tw (r0 * 8 + (7 - p0)))) - 5)) (fu ι (r0 * 8 + p0) ((q196_1 : Nat) : Int)))) := hD
                                  show W p l e ({ frames := 2, cells := 2, slots := 8, locals := 44 } : Room) s m args below meth c H locs 2 8 (MQ below (gQ D (tyA cI cZ cT cU cQ) (fun κ' => SW cI cT cU d (xPlant (xPlant σ (r0 * 8 + p0) i0 v0) (mir (r0 * 8 + p0)) i0 v0) (κ' 2)) A (fun _ => some (.int (iI (who (plA σ (r0 * 8 + p0)) (plA (xPlant σ (r0 * 8 + p0) i0 v0) (mir (r0 * 8 + p0))))))) (fun κ' => True)) args s 2 8 A) (F0 m 203 ls [.ref (q196_3)])
                                  refine lv_astore (lv' := [(11, .ref (q196_3)), (6, .int (iI ((0 + (0 + 1)) + (1 + 1)))), (12, .int (iI (1))), (10, .int (iI (5))), (9, .int (iI (tw (r0 * 8 + (7 - p0))))), (8, .int (iI (7 - p0))), (7, .int (iI (1))), (0, .ref (d 0)), (1, .int (iI (0))), (2, .int (iI (r0))), (3, .int (iI (p0))), (4, .int (iI (i0))), (5, .int (iI (v0)))]) hx hb dX2_work_203 hl (by decide) rfl (fun ls hl => ?_)
                                  refine lv_aload hx hb dX2_work_205 (lv_at hl 0 rfl) ?_
                                  refine lv_iload hx hb dX2_work_207 (lv_at hl 11 rfl) ?_
                                  refine va_put (D := D) (ci := 3) (v := .int (iI (i0))) (ty := .int) (C := RX3) (T := TX3) (N := 4) hx hb hts hinX3 tyX3 tyX3_ok nmX3 hown hK hP hD hS 0 rfl rfl 2 (by decide) (hts (.fieldLink RX2 44 "TwinOrchardLaw$Tree" "sort" "I") (List.mem_of_getElem? (i := 3) rfl)) (fun _ h9 => h9) rfl (by decide +kernel) rfl rfl (Nat.le_of_ble_eq_true rfl) dX2_work_209 (fun H locs hP hD hS => ?_)
                                  have hP : va_P D vwCl ([(q196_3, .inr (3, [.int (iI (1)), .int (iI (0)), .int (iI (i0)), .int (iI (0))]))] ++ (SW cI cT cU d (su (xPlant σ (r0 * 8 + p0) i0 v0) 8 (tw (r0 * 8 + (7 - p0))) (((xPlant σ (r0 * 8 + p0) i0 v0) 8 (tw (r0 * 8 + (7 - p0)))) - 5)) (fu ι (r0 * 8 + p0) ((q196_1 : Nat) : Int)))) H := hP
                                  have hD : va_D A ([(q196_3, .inr (3, [.int (iI (1)), .int (iI (0)), .int (iI (i0)), .int (iI (0))]))] ++ (SW cI cT cU d (su (xPlant σ (r0 * 8 + p0) i0 v0) 8 (tw (r0 * 8 + (7 - p0))) (((xPlant σ (r0 * 8 + p0) i0 v0) 8 (tw (r0 * 8 + (7 - p0)))) - 5)) (fu ι (r0 * 8 + p0) ((q196_1 : Nat) : Int)))) := hD
                                  refine lv_aload hx hb dX2_work_212 (lv_at hl 0 rfl) ?_
                                  refine lv_iload hx hb dX2_work_214 (lv_at hl 12 rfl) ?_
                                  refine va_put (D := D) (ci := 3) (v := .int (iI (v0))) (ty := .int) (C := RX3) (T := TX3) (N := 4) hx hb hts hinX3 tyX3 tyX3_ok nmX3 hown hK hP hD hS 0 rfl rfl 1 (by decide) (hts (.fieldLink RX2 48 "TwinOrchardLaw$Tree" "vigour" "I") (List.mem_of_getElem? (i := 8) rfl)) (fun _ h9 => h9) rfl (by decide +kernel) rfl rfl (Nat.le_of_ble_eq_true rfl) dX2_work_216 (fun H locs hP hD hS => ?_)
                                  have hP : va_P D vwCl ([(q196_3, .inr (3, [.int (iI (1)), .int (iI (v0)), .int (iI (i0)), .int (iI (0))]))] ++ (SW cI cT cU d (su (xPlant σ (r0 * 8 + p0) i0 v0) 8 (tw (r0 * 8 + (7 - p0))) (((xPlant σ (r0 * 8 + p0) i0 v0) 8 (tw (r0 * 8 + (7 - p0)))) - 5)) (fu ι (r0 * 8 + p0) ((q196_1 : Nat) : Int)))) H := hP
                                  have hD : va_D A ([(q196_3, .inr (3, [.int (iI (1)), .int (iI (v0)), .int (iI (i0)), .int (iI (0))]))] ++ (SW cI cT cU d (su (xPlant σ (r0 * 8 + p0) i0 v0) 8 (tw (r0 * 8 + (7 - p0))) (((xPlant σ (r0 * 8 + p0) i0 v0) 8 (tw (r0 * 8 + (7 - p0)))) - 5)) (fu ι (r0 * 8 + p0) ((q196_1 : Nat) : Int)))) := hD
                                  refine lv_aload_n hx hb dX2_work_219 rfl (lv_at hl 7 rfl) ?_
                                  refine va_get (D := D) (ci := 2) (v := .ref (d 1)) (C := RX2) (T := TX2) (N := 8) hx hb hts hinX2 hown hK (g_right hP) 0 rfl rfl 0 (by decide) (hts (.fieldLink RX2 9 "TwinOrchardLaw$Sim" "trees" "[[LTwinOrchardLaw$Tree;") (List.mem_of_getElem? (i := 1) rfl)) (fun _ h9 => h9) rfl dX2_work_220 ?_
                                  refine lv_iload_n hx hb dX2_work_223 rfl (lv_at hl 9 rfl) ?_
                                  refine s_row (f := srt d) hx hb hK (g_right hP) 1 3 rfl rfl (by omega) (by omega) (by decide) (v := d (r0.toNat + 7)) (if_pos (by omega)) dX2_work_224 ?_
                                  refine lv_iload hx hb dX2_work_225 (lv_at hl 5 rfl) ?_
                                  refine lv_aload hx hb dX2_work_227 (lv_at hl 0 rfl) ?_
                                  refine s_storeR (f := trow (su (xPlant σ (r0 * 8 + p0) i0 v0) 8 (tw (r0 * 8 + (7 - p0))) (((xPlant σ (r0 * 8 + p0) i0 v0) 8 (tw (r0 * 8 + (7 - p0)))) - 5)) (fu ι (r0 * 8 + p0) ((q196_1 : Nat) : Int)) r0) hx hb hK hP hD hS (r0.toNat + 7 + 1) 2 0 3 (sw_row (cI := cI) (cT := cT) (cU := cU) (d := d) (σ := su (xPlant σ (r0 * 8 + p0) i0 v0) 8 (tw (r0 * 8 + (7 - p0))) (((xPlant σ (r0 * 8 + p0) i0 v0) 8 (tw (r0 * 8 + (7 - p0)))) - 5)) (ι := fu ι (r0 * 8 + p0) ((q196_1 : Nat) : Int)) (r := r0) (by omega) (by omega)) rfl rfl rfl (by omega) (by omega) dX2_work_229 (fun H locs hP hD hS => ?_)
                                  obtain ⟨hP, hD⟩ := sw_plant (cI := cI) (cT := cT) (cU := cU) (d := d) (σ := su (xPlant σ (r0 * 8 + p0) i0 v0) 8 (tw (r0 * 8 + (7 - p0))) (((xPlant σ (r0 * 8 + p0) i0 v0) 8 (tw (r0 * 8 + (7 - p0)))) - 5)) (ι := fu ι (r0 * 8 + p0) ((q196_1 : Nat) : Int)) (r := r0) (p := 7 - p0) (so := i0) (v := v0) (q := q196_3) (by omega) (by omega) ct78 (by omega) hP hD
                                  have hP : va_P D vwCl (SW cI cT cU d (plaS (su (xPlant σ (r0 * 8 + p0) i0 v0) 8 (tw (r0 * 8 + (7 - p0))) (((xPlant σ (r0 * 8 + p0) i0 v0) 8 (tw (r0 * 8 + (7 - p0)))) - 5)) (r0 * 8 + (7 - p0)) (i0) (v0)) (fu (fu ι (r0 * 8 + p0) ((q196_1 : Nat) : Int)) (r0 * 8 + (7 - p0)) ((q196_3 : Nat) : Int))) H := hP
                                  have hD : va_D A (SW cI cT cU d (plaS (su (xPlant σ (r0 * 8 + p0) i0 v0) 8 (tw (r0 * 8 + (7 - p0))) (((xPlant σ (r0 * 8 + p0) i0 v0) 8 (tw (r0 * 8 + (7 - p0)))) - 5)) (r0 * 8 + (7 - p0)) (i0) (v0)) (fu (fu ι (r0 * 8 + p0) ((q196_1 : Nat) : Int)) (r0 * 8 + (7 - p0)) ((q196_3 : Nat) : Int))) := hD
                                  refine lv_goto (tgt := 309) hx hb dX2_work_230 (by decide) ?_
                                  have ha2 : plA (xPlant σ (r0 * 8 + p0) i0 v0) (r0 * 8 + (7 - p0)) = 1 := bI_t (by omega)
                                  have e8 : (plaS (su (xPlant σ (r0 * 8 + p0) i0 v0) 8 (tw (r0 * 8 + (7 - p0))) (((xPlant σ (r0 * 8 + p0) i0 v0) 8 (tw (r0 * 8 + (7 - p0)))) - 5)) (r0 * 8 + (7 - p0)) (i0) (v0)) = (xPlant (xPlant σ (r0 * 8 + p0) i0 v0) (r0 * 8 + (7 - p0)) i0 v0) := (xPlant_y (by omega)).symm
                                  rw [e8] at hP hD
                                  have hP : va_P D vwCl (SW cI cT cU d (xPlant (xPlant σ (r0 * 8 + p0) i0 v0) (r0 * 8 + (7 - p0)) i0 v0) (fu (fu ι (r0 * 8 + p0) ((q196_1 : Nat) : Int)) (r0 * 8 + (7 - p0)) ((q196_3 : Nat) : Int))) H := hP
                                  have hD : va_D A (SW cI cT cU d (xPlant (xPlant σ (r0 * 8 + p0) i0 v0) (r0 * 8 + (7 - p0)) i0 v0) (fu (fu ι (r0 * 8 + p0) ((q196_1 : Nat) : Int)) (r0 * 8 + (7 - p0)) ((q196_3 : Nat) : Int))) := hD
                                  refine lv_iinc (v := iI (2)) (lv' := [(7, .int (iI (2))), (11, .ref (q196_3)), (6, .int (iI ((0 + (0 + 1)) + (1 + 1)))), (12, .int (iI (1))), (10, .int (iI (5))), (9, .int (iI (tw (r0 * 8 + (7 - p0))))), (8, .int (iI (7 - p0))), (0, .ref (d 0)), (1, .int (iI (0))), (2, .int (iI (r0))), (3, .int (iI (p0))), (4, .int (iI (i0))), (5, .int (iI (v0)))]) hx hb dX2_work_309 hl (k := 6) rfl rfl (by decide) rfl (fun ls hl => ?_)
                                  refine lv_goto (tgt := 6) hx hb dX2_work_312 (by decide) ?_
                                  refine lv_iload hx hb dX2_work_6 (lv_at hl 0 rfl) ?_
                                  refine lv_iconst (v := iI (2)) hx hb dX2_work_8 rfl ?_
                                  refine gi_icmp_ge (tgt := 315) hx hb dX2_work_9 (by decide) ⟨by decide, by decide⟩ ⟨by decide, by decide⟩ (fun c9 => ?_) (fun c9 => ?_)
                                  · skip
                                    refine lv_iload hx hb dX2_work_315 (lv_at hl 2 rfl) ?_
                                    have ess : (xPlant (xPlant σ (r0 * 8 + p0) i0 v0) (mir (r0 * 8 + p0)) i0 v0) = (xPlant (xPlant σ (r0 * 8 + p0) i0 v0) (r0 * 8 + (7 - p0)) i0 v0) := by rw [em]
                                    have hP : va_P D vwCl (SW cI cT cU d (xPlant (xPlant σ (r0 * 8 + p0) i0 v0) (mir (r0 * 8 + p0)) i0 v0) (fu (fu ι (r0 * 8 + p0) ((q196_1 : Nat) : Int)) (r0 * 8 + (7 - p0)) ((q196_3 : Nat) : Int))) H := by rw [ess]; exact hP
                                    have hD : va_D A (SW cI cT cU d (xPlant (xPlant σ (r0 * 8 + p0) i0 v0) (mir (r0 * 8 + p0)) i0 v0) (fu (fu ι (r0 * 8 + p0) ((q196_1 : Nat) : Int)) (r0 * 8 + (7 - p0)) ((q196_3 : Nat) : Int))) := by rw [ess]; exact hD
                                    have er : ((who (plA σ (r0 * 8 + p0)) (plA (xPlant σ (r0 * 8 + p0) i0 v0) (mir (r0 * 8 + p0))) : Int)) = ((0 + (0 + 1)) + (1 + 1)) := by rw [em, ha1, ha2]; decide
                                    exact g_iret (wo := (fun κ' => SW cI cT cU d (xPlant (xPlant σ (r0 * 8 + p0) i0 v0) (mir (r0 * 8 + p0)) i0 v0) (κ' 2))) (kr := (fun κ' => True)) (rv := (fun _ => some (.int (iI (who (plA σ (r0 * 8 + p0)) (plA (xPlant σ (r0 * 8 + p0) i0 v0) (mir (r0 * 8 + p0)))))))) hx hb hr hlocks (fun _ => fu (fu ι (r0 * 8 + p0) ((q196_1 : Nat) : Int)) (r0 * 8 + (7 - p0)) ((q196_3 : Nat) : Int)) rfl hP hK hD hS trivial (by rw [er]) (Nat.le_of_ble_eq_true rfl) (Nat.le_of_ble_eq_true rfl) dX2_work_317
                                  · skip
                                    omega
                              · skip
                                refine lv_goto (tgt := 309) hx hb dX2_work_168 (by decide) ?_
                                have ha2 : plA (xPlant σ (r0 * 8 + p0) i0 v0) (r0 * 8 + (7 - p0)) = 0 := bI_f (by omega)
                                have e8 : (xPlant σ (r0 * 8 + p0) i0 v0) = (xPlant (xPlant σ (r0 * 8 + p0) i0 v0) (r0 * 8 + (7 - p0)) i0 v0) := (xPlant_n (by omega)).symm
                                rw [e8] at hP hD
                                have hP : va_P D vwCl (SW cI cT cU d (xPlant (xPlant σ (r0 * 8 + p0) i0 v0) (r0 * 8 + (7 - p0)) i0 v0) (fu ι (r0 * 8 + p0) ((q196_1 : Nat) : Int))) H := hP
                                have hD : va_D A (SW cI cT cU d (xPlant (xPlant σ (r0 * 8 + p0) i0 v0) (r0 * 8 + (7 - p0)) i0 v0) (fu ι (r0 * 8 + p0) ((q196_1 : Nat) : Int))) := hD
                                refine lv_iinc (v := iI (2)) (lv' := [(7, .int (iI (2))), (12, .int (iI (1))), (11, .null), (10, .int (iI (5))), (9, .int (iI (tw (r0 * 8 + (7 - p0))))), (8, .int (iI (7 - p0))), (6, .int (iI (0 + (0 + 1)))), (0, .ref (d 0)), (1, .int (iI (0))), (2, .int (iI (r0))), (3, .int (iI (p0))), (4, .int (iI (i0))), (5, .int (iI (v0)))]) hx hb dX2_work_309 hl (k := 5) rfl rfl (by decide) rfl (fun ls hl => ?_)
                                refine lv_goto (tgt := 6) hx hb dX2_work_312 (by decide) ?_
                                refine lv_iload hx hb dX2_work_6 (lv_at hl 0 rfl) ?_
                                refine lv_iconst (v := iI (2)) hx hb dX2_work_8 rfl ?_
                                refine gi_icmp_ge (tgt := 315) hx hb dX2_work_9 (by decide) ⟨by decide, by decide⟩ ⟨by decide, by decide⟩ (fun c9 => ?_) (fun c9 => ?_)
                                · skip
                                  refine lv_iload hx hb dX2_work_315 (lv_at hl 6 rfl) ?_
                                  have ess : (xPlant (xPlant σ (r0 * 8 + p0) i0 v0) (mir (r0 * 8 + p0)) i0 v0) = (xPlant (xPlant σ (r0 * 8 + p0) i0 v0) (r0 * 8 + (7 - p0)) i0 v0) := by rw [em]
                                  have hP : va_P D vwCl (SW cI cT cU d (xPlant (xPlant σ (r0 * 8 + p0) i0 v0) (mir (r0 * 8 + p0)) i0 v0) (fu ι (r0 * 8 + p0) ((q196_1 : Nat) : Int))) H := by rw [ess]; exact hP
                                  have hD : va_D A (SW cI cT cU d (xPlant (xPlant σ (r0 * 8 + p0) i0 v0) (mir (r0 * 8 + p0)) i0 v0) (fu ι (r0 * 8 + p0) ((q196_1 : Nat) : Int))) := by rw [ess]; exact hD
                                  have er : ((who (plA σ (r0 * 8 + p0)) (plA (xPlant σ (r0 * 8 + p0) i0 v0) (mir (r0 * 8 + p0))) : Int)) = (0 + (0 + 1)) := by rw [em, ha1, ha2]; decide
                                  exact g_iret (wo := (fun κ' => SW cI cT cU d (xPlant (xPlant σ (r0 * 8 + p0) i0 v0) (mir (r0 * 8 + p0)) i0 v0) (κ' 2))) (kr := (fun κ' => True)) (rv := (fun _ => some (.int (iI (who (plA σ (r0 * 8 + p0)) (plA (xPlant σ (r0 * 8 + p0) i0 v0) (mir (r0 * 8 + p0)))))))) hx hb hr hlocks (fun _ => fu ι (r0 * 8 + p0) ((q196_1 : Nat) : Int)) rfl hP hK hD hS trivial (by rw [er]) (Nat.le_of_ble_eq_true rfl) (Nat.le_of_ble_eq_true rfl) dX2_work_317
                                · skip
                                  omega
                        · skip
                          refine lv_astore (lv' := [(11, .ref ((fu ι (r0 * 8 + p0) ((q196_1 : Nat) : Int)) (r0 * 8 + (7 - p0))).toNat), (10, .int (iI (5))), (9, .int (iI (tw (r0 * 8 + (7 - p0))))), (8, .int (iI (7 - p0))), (7, .int (iI (1))), (6, .int (iI (0 + (0 + 1)))), (12, .int (iI (1))), (0, .ref (d 0)), (1, .int (iI (0))), (2, .int (iI (r0))), (3, .int (iI (p0))), (4, .int (iI (i0))), (5, .int (iI (v0)))]) hx hb dX2_work_79 hl (by decide) rfl (fun ls hl => ?_)
                          refine lv_iload_n hx hb dX2_work_81 rfl (lv_at hl 8 rfl) ?_
                          refine gi_if_ne (tgt := 98) hx hb dX2_work_82 (by decide) ⟨by decide, by decide⟩ (fun c82 => ?_) (fun c82 => ?_)
                          · skip
                            exact absurd rfl c82
                          · skip
                            refine lv_aload hx hb dX2_work_85 (lv_at hl 0 rfl) ?_
                            refine lv_ifnonnull (tgt := 94) hx hb dX2_work_87 (by decide) ?_
                            refine lv_iconst (v := iI (0)) hx hb dX2_work_94 rfl ?_
                            refine lv_goto (tgt := 149) hx hb dX2_work_95 (by decide) ?_
                            refine lv_istore (lv' := [(12, .int (iI (0))), (11, .ref ((fu ι (r0 * 8 + p0) ((q196_1 : Nat) : Int)) (r0 * 8 + (7 - p0))).toNat), (10, .int (iI (5))), (9, .int (iI (tw (r0 * 8 + (7 - p0))))), (8, .int (iI (7 - p0))), (7, .int (iI (1))), (6, .int (iI (0 + (0 + 1)))), (0, .ref (d 0)), (1, .int (iI (0))), (2, .int (iI (r0))), (3, .int (iI (p0))), (4, .int (iI (i0))), (5, .int (iI (v0)))]) hx hb dX2_work_149 hl (by decide) rfl (fun ls hl => ?_)
                            refine lv_iload hx hb dX2_work_151 (lv_at hl 0 rfl) ?_
                            refine gi_if_eq (tgt := 309) hx hb dX2_work_153 (by decide) ⟨by decide, by decide⟩ (fun c153 => ?_) (fun c153 => ?_)
                            · skip
                              have ha2 : plA (xPlant σ (r0 * 8 + p0) i0 v0) (r0 * 8 + (7 - p0)) = 0 := bI_f (by omega)
                              have e8 : (xPlant σ (r0 * 8 + p0) i0 v0) = (xPlant (xPlant σ (r0 * 8 + p0) i0 v0) (r0 * 8 + (7 - p0)) i0 v0) := (xPlant_n (by omega)).symm
                              rw [e8] at hP hD
                              have hP : va_P D vwCl (SW cI cT cU d (xPlant (xPlant σ (r0 * 8 + p0) i0 v0) (r0 * 8 + (7 - p0)) i0 v0) (fu ι (r0 * 8 + p0) ((q196_1 : Nat) : Int))) H := hP
                              have hD : va_D A (SW cI cT cU d (xPlant (xPlant σ (r0 * 8 + p0) i0 v0) (r0 * 8 + (7 - p0)) i0 v0) (fu ι (r0 * 8 + p0) ((q196_1 : Nat) : Int))) := hD
                              refine lv_iinc (v := iI (2)) (lv' := [(7, .int (iI (2))), (12, .int (iI (0))), (11, .ref ((fu ι (r0 * 8 + p0) ((q196_1 : Nat) : Int)) (r0 * 8 + (7 - p0))).toNat), (10, .int (iI (5))), (9, .int (iI (tw (r0 * 8 + (7 - p0))))), (8, .int (iI (7 - p0))), (6, .int (iI (0 + (0 + 1)))), (0, .ref (d 0)), (1, .int (iI (0))), (2, .int (iI (r0))), (3, .int (iI (p0))), (4, .int (iI (i0))), (5, .int (iI (v0)))]) hx hb dX2_work_309 hl (k := 5) rfl rfl (by decide) rfl (fun ls hl => ?_)
                              refine lv_goto (tgt := 6) hx hb dX2_work_312 (by decide) ?_
                              refine lv_iload hx hb dX2_work_6 (lv_at hl 0 rfl) ?_
                              refine lv_iconst (v := iI (2)) hx hb dX2_work_8 rfl ?_
                              refine gi_icmp_ge (tgt := 315) hx hb dX2_work_9 (by decide) ⟨by decide, by decide⟩ ⟨by decide, by decide⟩ (fun c9 => ?_) (fun c9 => ?_)
                              · skip
                                refine lv_iload hx hb dX2_work_315 (lv_at hl 6 rfl) ?_
                                have ess : (xPlant (xPlant σ (r0 * 8 + p0) i0 v0) (mir (r0 * 8 + p0)) i0 v0) = (xPlant (xPlant σ (r0 * 8 + p0) i0 v0) (r0 * 8 + (7 - p0)) i0 v0) := by rw [em]
                                have hP : va_P D vwCl (SW cI cT cU d (xPlant (xPlant σ (r0 * 8 + p0) i0 v0) (mir (r0 * 8 + p0)) i0 v0) (fu ι (r0 * 8 + p0) ((q196_1 : Nat) : Int))) H := by rw [ess]; exact hP
                                have hD : va_D A (SW cI cT cU d (xPlant (xPlant σ (r0 * 8 + p0) i0 v0) (mir (r0 * 8 + p0)) i0 v0) (fu ι (r0 * 8 + p0) ((q196_1 : Nat) : Int))) := by rw [ess]; exact hD
                                have er : ((who (plA σ (r0 * 8 + p0)) (plA (xPlant σ (r0 * 8 + p0) i0 v0) (mir (r0 * 8 + p0))) : Int)) = (0 + (0 + 1)) := by rw [em, ha1, ha2]; decide
                                exact g_iret (wo := (fun κ' => SW cI cT cU d (xPlant (xPlant σ (r0 * 8 + p0) i0 v0) (mir (r0 * 8 + p0)) i0 v0) (κ' 2))) (kr := (fun κ' => True)) (rv := (fun _ => some (.int (iI (who (plA σ (r0 * 8 + p0)) (plA (xPlant σ (r0 * 8 + p0) i0 v0) (mir (r0 * 8 + p0)))))))) hx hb hr hlocks (fun _ => fu ι (r0 * 8 + p0) ((q196_1 : Nat) : Int)) rfl hP hK hD hS trivial (by rw [er]) (Nat.le_of_ble_eq_true rfl) (Nat.le_of_ble_eq_true rfl) dX2_work_317
                              · skip
                                omega
                            · skip
                              exact absurd rfl c153
                    · skip
                      exact absurd c14 (by decide)
              · skip
                refine lv_goto (tgt := 309) hx hb dX2_work_168 (by decide) ?_
                have ha1 : plA σ (r0 * 8 + p0) = 0 := bI_f (by omega)
                have e8 : (σ) = (xPlant σ (r0 * 8 + p0) i0 v0) := (xPlant_n (by omega)).symm
                rw [e8] at hP hD
                have hP : va_P D vwCl (SW cI cT cU d (xPlant σ (r0 * 8 + p0) i0 v0) ι) H := hP
                have hD : va_D A (SW cI cT cU d (xPlant σ (r0 * 8 + p0) i0 v0) ι) := hD
                have hwf2 : xWF (xPlant σ (r0 * 8 + p0) i0 v0) := xWF_plant hwf hi hv
                have k4b := xWF_4 hwf2 (r0 * 8 + (7 - p0))
                have k5b := xWF_5 hwf2 (r0 * 8 + (7 - p0))
                have k8b := xWF_8 hwf2 (tw (r0 * 8 + (7 - p0)))
                refine lv_iinc (v := iI (1)) (lv' := [(7, .int (iI (1))), (12, .int (iI (1))), (11, .null), (10, .int (iI (5))), (9, .int (iI (tw (r0 * 8 + p0)))), (8, .int (iI (p0))), (6, .int (iI (0))), (0, .ref (d 0)), (1, .int (iI (0))), (2, .int (iI (r0))), (3, .int (iI (p0))), (4, .int (iI (i0))), (5, .int (iI (v0)))]) hx hb dX2_work_309 hl (k := 5) rfl rfl (by decide) rfl (fun ls hl => ?_)
                refine lv_goto (tgt := 6) hx hb dX2_work_312 (by decide) ?_
                refine lv_iload hx hb dX2_work_6 (lv_at hl 0 rfl) ?_
                refine lv_iconst (v := iI (2)) hx hb dX2_work_8 rfl ?_
                refine gi_icmp_ge (tgt := 315) hx hb dX2_work_9 (by decide) ⟨by decide, by decide⟩ ⟨by decide, by decide⟩ (fun c9 => ?_) (fun c9 => ?_)
                · skip
                  exact absurd c9 (by decide)
                · skip
                  refine lv_iload hx hb dX2_work_12 (lv_at hl 0 rfl) ?_
                  refine gi_if_ne (tgt := 21) hx hb dX2_work_14 (by decide) ⟨by decide, by decide⟩ (fun c14 => ?_) (fun c14 => ?_)
                  · skip
                    refine lv_bipush (v := iI (7)) hx hb dX2_work_21 rfl ?_
                    refine lv_iload_n hx hb dX2_work_23 rfl (lv_at hl 10 rfl) ?_
                    refine gi_sub hx hb dX2_work_24 ?_
                    refine lv_istore (lv' := [(8, .int (iI (7 - p0))), (7, .int (iI (1))), (12, .int (iI (1))), (11, .null), (10, .int (iI (5))), (9, .int (iI (tw (r0 * 8 + p0)))), (6, .int (iI (0))), (0, .ref (d 0)), (1, .int (iI (0))), (2, .int (iI (r0))), (3, .int (iI (p0))), (4, .int (iI (i0))), (5, .int (iI (v0)))]) hx hb dX2_work_25 hl (by decide) rfl (fun ls hl => ?_)
                    refine lv_iload hx hb dX2_work_27 (lv_at hl 0 rfl) ?_
                    refine lv_iconst (v := iI (4)) hx hb dX2_work_29 rfl ?_
                    refine g_selGe (u := 0) (v := 1) (t1 := 37) (t2 := 38) hx hb ⟨by omega, by omega⟩ ⟨by decide, by decide⟩ dX2_work_30 (by decide) (fun st h => lv_iconst (v := iI (0)) hx hb dX2_work_33 rfl (lv_goto (tgt := 38) hx hb dX2_work_34 (by decide) h)) (fun st h => lv_iconst (v := iI (1)) hx hb dX2_work_37 rfl h) ?_
                    rw [show (if 7 - p0 < 4 then (0 : Int) else 1) = tw (r0 * 8 + (7 - p0)) from by unfold tw; split <;> split <;> omega]
                    refine lv_istore (lv' := [(9, .int (iI (tw (r0 * 8 + (7 - p0))))), (8, .int (iI (7 - p0))), (7, .int (iI (1))), (12, .int (iI (1))), (11, .null), (10, .int (iI (5))), (6, .int (iI (0))), (0, .ref (d 0)), (1, .int (iI (0))), (2, .int (iI (r0))), (3, .int (iI (p0))), (4, .int (iI (i0))), (5, .int (iI (v0)))]) hx hb dX2_work_38 hl (by decide) rfl (fun ls hl => ?_)
                    refine lv_iload_n hx hb dX2_work_40 rfl (lv_at hl 8 rfl) ?_
                    refine gi_if_ne (tgt := 48) hx hb dX2_work_41 (by decide) ⟨by decide, by decide⟩ (fun c41 => ?_) (fun c41 => ?_)
                    · skip
                      exact absurd rfl c41
                    · skip
                      refine lv_iconst (v := iI (5)) hx hb dX2_work_44 rfl ?_
                      refine lv_goto (tgt := 68) hx hb dX2_work_45 (by decide) ?_
                      refine lv_istore (lv' := [(10, .int (iI (5))), (9, .int (iI (tw (r0 * 8 + (7 - p0))))), (8, .int (iI (7 - p0))), (7, .int (iI (1))), (12, .int (iI (1))), (11, .null), (6, .int (iI (0))), (0, .ref (d 0)), (1, .int (iI (0))), (2, .int (iI (r0))), (3, .int (iI (p0))), (4, .int (iI (i0))), (5, .int (iI (v0)))]) hx hb dX2_work_68 hl (by decide) rfl (fun ls hl => ?_)
                      refine lv_aload_n hx hb dX2_work_70 rfl (lv_at hl 7 rfl) ?_
                      refine va_get (D := D) (ci := 2) (v := .ref (d 1)) (C := RX2) (T := TX2) (N := 8) hx hb hts hinX2 hown hK hP 0 rfl rfl 0 (by decide) (hts (.fieldLink RX2 9 "TwinOrchardLaw$Sim" "trees" "[[LTwinOrchardLaw$Tree;") (List.mem_of_getElem? (i := 1) rfl)) (fun _ h9 => h9) rfl dX2_work_71 ?_
                      refine lv_iload_n hx hb dX2_work_74 rfl (lv_at hl 9 rfl) ?_
                      refine s_row (f := srt d) hx hb hK hP 1 3 rfl rfl (by omega) (by omega) (by decide) (v := d (r0.toNat + 7)) (if_pos (by omega)) dX2_work_75 ?_
                      refine lv_iload hx hb dX2_work_76 (lv_at hl 2 rfl) ?_
                      refine s_tree (σ := xPlant σ (r0 * 8 + p0) i0 v0) (ι := ι) (r := r0) (i := 7 - p0) hx hb hK hP (r0.toNat + 7) 2 (sw_row (by omega) (by omega)) rfl (by omega) (by omega) dX2_work_78 (fun ct78 => ?_) (fun ct78 => ?_)
                      · skip
                        refine lv_astoreN (lv' := [(11, .null), (10, .int (iI (5))), (9, .int (iI (tw (r0 * 8 + (7 - p0))))), (8, .int (iI (7 - p0))), (7, .int (iI (1))), (12, .int (iI (1))), (6, .int (iI (0))), (0, .ref (d 0)), (1, .int (iI (0))), (2, .int (iI (r0))), (3, .int (iI (p0))), (4, .int (iI (i0))), (5, .int (iI (v0)))]) hx hb dX2_work_79 hl (by decide) rfl (fun ls hl => ?_)
                        refine lv_iload_n hx hb dX2_work_81 rfl (lv_at hl 8 rfl) ?_
                        refine gi_if_ne (tgt := 98) hx hb dX2_work_82 (by decide) ⟨by decide, by decide⟩ (fun c82 => ?_) (fun c82 => ?_)
                        · skip
                          exact absurd rfl c82
                        · skip
                          refine lv_aloadN hx hb dX2_work_85 (lv_at hl 0 rfl) ?_
                          refine lv_ifnonnullN hx hb dX2_work_87 ?_
                          refine lv_iconst (v := iI (1)) hx hb dX2_work_90 rfl ?_
                          refine lv_goto (tgt := 149) hx hb dX2_work_91 (by decide) ?_
                          refine lv_istore (lv' := [(12, .int (iI (1))), (11, .null), (10, .int (iI (5))), (9, .int (iI (tw (r0 * 8 + (7 - p0))))), (8, .int (iI (7 - p0))), (7, .int (iI (1))), (6, .int (iI (0))), (0, .ref (d 0)), (1, .int (iI (0))), (2, .int (iI (r0))), (3, .int (iI (p0))), (4, .int (iI (i0))), (5, .int (iI (v0)))]) hx hb dX2_work_149 hl (by decide) rfl (fun ls hl => ?_)
                          refine lv_iload hx hb dX2_work_151 (lv_at hl 0 rfl) ?_
                          refine gi_if_eq (tgt := 309) hx hb dX2_work_153 (by decide) ⟨by decide, by decide⟩ (fun c153 => ?_) (fun c153 => ?_)
                          · skip
                            exact absurd c153 (by decide)
                          · skip
                            refine lv_aload_n hx hb dX2_work_156 rfl (lv_at hl 7 rfl) ?_
                            refine va_get (D := D) (ci := 2) (v := .ref (d 6)) (C := RX2) (T := TX2) (N := 8) hx hb hts hinX2 hown hK hP 0 rfl rfl 5 (by decide) (hts (.fieldLink RX2 27 "TwinOrchardLaw$Sim" "strength" "[I") (List.mem_of_getElem? (i := 4) rfl)) (fun _ h9 => h9) rfl dX2_work_157 ?_
                            refine lv_iload hx hb dX2_work_160 (lv_at hl 3 rfl) ?_
                            refine gi_iald (a := d 6) (n := 2) (f := (xPlant σ (r0 * 8 + p0) i0 v0) 8) hx hb hK hP 6 0 rfl rfl (by omega) (by omega) (by decide) dX2_work_162 ?_
                            refine lv_iload hx hb dX2_work_163 (lv_at hl 2 rfl) ?_
                            refine gi_icmp_ge (tgt := 171) hx hb dX2_work_165 (by decide) ⟨by omega, by omega⟩ ⟨by decide, by decide⟩ (fun c165 => ?_) (fun c165 => ?_)
                            · skip
                              refine lv_aload_n hx hb dX2_work_171 rfl (lv_at hl 7 rfl) ?_
                              refine va_get (D := D) (ci := 2) (v := .ref (d 6)) (C := RX2) (T := TX2) (N := 8) hx hb hts hinX2 hown hK hP 0 rfl rfl 5 (by decide) (hts (.fieldLink RX2 27 "TwinOrchardLaw$Sim" "strength" "[I") (List.mem_of_getElem? (i := 4) rfl)) (fun _ h9 => h9) rfl dX2_work_172 ?_
                              refine lv_iload hx hb dX2_work_175 (lv_at hl 3 rfl) ?_
                              refine lv_dup2_11 hx hb dX2_work_177 rfl rfl ?_
                              refine gi_iald (a := d 6) (n := 2) (f := (xPlant σ (r0 * 8 + p0) i0 v0) 8) hx hb hK hP 6 0 rfl rfl (by omega) (by omega) (by decide) dX2_work_178 ?_
                              refine lv_iload hx hb dX2_work_179 (lv_at hl 2 rfl) ?_
                              refine gi_sub hx hb dX2_work_181 ?_
                              refine gi_iast (a := d 6) (n := 2) (f := (xPlant σ (r0 * 8 + p0) i0 v0) 8) hx hb hK hP hD hS 6 0 rfl rfl (by omega) (by omega) (by decide) dX2_work_182 (fun H locs hP hD hS => ?_)
                              have hP : va_P D vwCl (SW cI cT cU d (su (xPlant σ (r0 * 8 + p0) i0 v0) 8 (tw (r0 * 8 + (7 - p0))) (((xPlant σ (r0 * 8 + p0) i0 v0) 8 (tw (r0 * 8 + (7 - p0)))) - 5)) ι) H := hP
                              have hD : va_D A (SW cI cT cU d (su (xPlant σ (r0 * 8 + p0) i0 v0) 8 (tw (r0 * 8 + (7 - p0))) (((xPlant σ (r0 * 8 + p0) i0 v0) 8 (tw (r0 * 8 + (7 - p0)))) - 5)) ι) := hD
                              refine lv_iload hx hb dX2_work_183 (lv_at hl 6 rfl) ?_
                              refine lv_iload hx hb dX2_work_185 (lv_at hl 5 rfl) ?_
                              refine lv_iconst (v := iI (1)) hx hb dX2_work_187 rfl ?_
                              refine gi_add hx hb dX2_work_188 ?_
                              refine gi_add hx hb dX2_work_189 ?_
                              refine lv_istore (lv' := [(6, .int (iI (0 + (1 + 1)))), (12, .int (iI (1))), (11, .null), (10, .int (iI (5))), (9, .int (iI (tw (r0 * 8 + (7 - p0))))), (8, .int (iI (7 - p0))), (7, .int (iI (1))), (0, .ref (d 0)), (1, .int (iI (0))), (2, .int (iI (r0))), (3, .int (iI (p0))), (4, .int (iI (i0))), (5, .int (iI (v0)))]) hx hb dX2_work_190 hl (by decide) rfl (fun ls hl => ?_)
                              refine lv_iload_n hx hb dX2_work_192 rfl (lv_at hl 8 rfl) ?_
                              refine gi_if_ne (tgt := 233) hx hb dX2_work_193 (by decide) ⟨by decide, by decide⟩ (fun c193 => ?_) (fun c193 => ?_)
                              · skip
                                exact absurd rfl c193
                              · skip
                                refine va_new (ci := 3) (fs := [.int 0, .int 0, .int 0, .int 0]) (C := RX3) (T := TX3) (N := 4) hx hb hts hinX3 tyX3 tyX3_ok hown (hts _ (List.mem_of_getElem? (i := 5) rfl)) (hts _ (List.mem_of_getElem? (i := 6) rfl)) (hts _ (List.mem_of_getElem? (i := 7) rfl)) hK hP hD hS hA rfl dfX3 (Nat.le_of_ble_eq_true rfl) (Nat.le_of_ble_eq_true rfl) dX2_work_196 (fun q196_5 H hP hD hS => ?_)
                                obtain ⟨hP, hD⟩ := g_swap hP hD
                                have hP : va_P D vwCl ([(q196_5, .inr (3, [.int (iI (0)), .int (iI (0)), .int (iI (0)), .int (iI (0))]))] ++ (SW cI cT cU d (su (xPlant σ (r0 * 8 + p0) i0 v0) 8 (tw (r0 * 8 + (7 - p0))) (((xPlant σ (r0 * 8 + p0) i0 v0) 8 (tw (r0 * 8 + (7 - p0)))) - 5)) ι)) H := hP
                                have hD : va_D A ([(q196_5, .inr (3, [.int (iI (0)), .int (iI (0)), .int (iI (0)), .int (iI (0))]))] ++ (SW cI cT cU d (su (xPlant σ (r0 * 8 + p0) i0 v0) 8 (tw (r0 * 8 + (7 - p0))) (((xPlant σ (r0 * 8 + p0) i0 v0) 8 (tw (r0 * 8 + (7 - p0)))) - 5)) ι)) := hD
                                refine lv_dup hx hb dX2_work_199 rfl ?_
                                have hPc : va_P D vwCl ([(q196_5, .inr (3, [.int (iI (0)), .int (iI (0)), .int (iI (0)), .int (iI (0))]))] ++ (SW cI cT cU d (su (xPlant σ (r0 * 8 + p0) i0 v0) 8 (tw (r0 * 8 + (7 - p0))) (((xPlant σ (r0 * 8 + p0) i0 v0) 8 (tw (r0 * 8 + (7 - p0)))) - 5)) ι)) H := hP
                                have hDc : va_D A ([(q196_5, .inr (3, [.int (iI (0)), .int (iI (0)), .int (iI (0)), .int (iI (0))]))] ++ (SW cI cT cU d (su (xPlant σ (r0 * 8 + p0) i0 v0) 8 (tw (r0 * 8 + (7 - p0))) (((xPlant σ (r0 * 8 + p0) i0 v0) 8 (tw (r0 * 8 + (7 - p0)))) - 5)) ι)) := hD
                                refine g_call (va_runIN (As := []) (rest := [.ref (q196_5)]) S ((kX3_init l D cI cZ cT cU cQ q196_5) H.size) ⟨va_cnB 0 hts gX2_work_X3_init_n47 rfl rfl rfl hE.2.1 (hts (.initialized RX3) (List.mem_of_getElem? (i := 7) rfl)) (by decide +kernel) ⟨Nat.le_of_ble_eq_true rfl, Nat.le_of_ble_eq_true rfl⟩, rfl, (hts _ (List.mem_of_getElem? (i := 10) rfl))⟩ (g_preS (As := [.ref q196_5]) gEx_t hK [0, 1, 2, 3, 4] rfl hPc hDc (fun _ _ _ => trivial)) rfl rfl hl.1 rfl (lv_room (Nat.le_of_ble_eq_true rfl)) dX2_work_200 ⟨Nat.le_of_ble_eq_true rfl, Nat.le_of_ble_eq_true rfl⟩) hPc hDc hS hA (fun κ9 H locs hk hP hD hS => ?_)
                                obtain ⟨z6, ezz6⟩ : ∃ z, z = κ9 := ⟨_, rfl⟩
                                subst ezz6
                                have hP : va_P D vwCl ([(q196_5, .inr (3, [.int (iI (1)), .int (iI (0)), .int (iI (0)), .int (iI (0))]))] ++ (SW cI cT cU d (su (xPlant σ (r0 * 8 + p0) i0 v0) 8 (tw (r0 * 8 + (7 - p0))) (((xPlant σ (r0 * 8 + p0) i0 v0) 8 (tw (r0 * 8 + (7 - p0)))) - 5)) ι)) H := hP
                                have hD : va_D A ([(q196_5, .inr (3, [.int (iI (1)), .int (iI (0)), .int (iI (0)), .int (iI (0))]))] ++ (SW cI cT cU d (su (xPlant σ (r0 * 8 + p0) i0 v0) 8 (tw (r0 * 8 + (7 - p0))) (((xPlant σ (r0 * 8 + p0) i0 v0) 8 (tw (r0 * 8 + (7 - p0)))) - 5)) ι)) := hD
                                show W p l e ({ frames := 2, cells := 2, slots := 8, locals := 44 } : Room) s m args below meth c H locs 1 4 (MQ below (gQ D (tyA cI cZ cT cU cQ) (fun κ' => SW cI cT cU d (xPlant (xPlant σ (r0 * 8 + p0) i0 v0) (mir (r0 * 8 + p0)) i0 v0) (κ' 2)) A (fun _ => some (.int (iI (who (plA σ (r0 * 8 + p0)) (plA (xPlant σ (r0 * 8 + p0) i0 v0) (mir (r0 * 8 + p0))))))) (fun κ' => True)) args s 2 8 A) (F0 m 203 ls [.ref (q196_5)])
                                refine lv_astore (lv' := [(11, .ref (q196_5)), (6, .int (iI (0 + (1 + 1)))), (12, .int (iI (1))), (10, .int (iI (5))), (9, .int (iI (tw (r0 * 8 + (7 - p0))))), (8, .int (iI (7 - p0))), (7, .int (iI (1))), (0, .ref (d 0)), (1, .int (iI (0))), (2, .int (iI (r0))), (3, .int (iI (p0))), (4, .int (iI (i0))), (5, .int (iI (v0)))]) hx hb dX2_work_203 hl (by decide) rfl (fun ls hl => ?_)
                                refine lv_aload hx hb dX2_work_205 (lv_at hl 0 rfl) ?_
                                refine lv_iload hx hb dX2_work_207 (lv_at hl 11 rfl) ?_
                                refine va_put (D := D) (ci := 3) (v := .int (iI (i0))) (ty := .int) (C := RX3) (T := TX3) (N := 4) hx hb hts hinX3 tyX3 tyX3_ok nmX3 hown hK hP hD hS 0 rfl rfl 2 (by decide) (hts (.fieldLink RX2 44 "TwinOrchardLaw$Tree" "sort" "I") (List.mem_of_getElem? (i := 3) rfl)) (fun _ h9 => h9) rfl (by decide +kernel) rfl rfl (Nat.le_of_ble_eq_true rfl) dX2_work_209 (fun H locs hP hD hS => ?_)
                                have hP : va_P D vwCl ([(q196_5, .inr (3, [.int (iI (1)), .int (iI (0)), .int (iI (i0)), .int (iI (0))]))] ++ (SW cI cT cU d (su (xPlant σ (r0 * 8 + p0) i0 v0) 8 (tw (r0 * 8 + (7 - p0))) (((xPlant σ (r0 * 8 + p0) i0 v0) 8 (tw (r0 * 8 + (7 - p0)))) - 5)) ι)) H := hP
                                have hD : va_D A ([(q196_5, .inr (3, [.int (iI (1)), .int (iI (0)), .int (iI (i0)), .int (iI (0))]))] ++ (SW cI cT cU d (su (xPlant σ (r0 * 8 + p0) i0 v0) 8 (tw (r0 * 8 + (7 - p0))) (((xPlant σ (r0 * 8 + p0) i0 v0) 8 (tw (r0 * 8 + (7 - p0)))) - 5)) ι)) := hD
                                refine lv_aload hx hb dX2_work_212 (lv_at hl 0 rfl) ?_
                                refine lv_iload hx hb dX2_work_214 (lv_at hl 12 rfl) ?_
                                refine va_put (D := D) (ci := 3) (v := .int (iI (v0))) (ty := .int) (C := RX3) (T := TX3) (N := 4) hx hb hts hinX3 tyX3 tyX3_ok nmX3 hown hK hP hD hS 0 rfl rfl 1 (by decide) (hts (.fieldLink RX2 48 "TwinOrchardLaw$Tree" "vigour" "I") (List.mem_of_getElem? (i := 8) rfl)) (fun _ h9 => h9) rfl (by decide +kernel) rfl rfl (Nat.le_of_ble_eq_true rfl) dX2_work_216 (fun H locs hP hD hS => ?_)
                                have hP : va_P D vwCl ([(q196_5, .inr (3, [.int (iI (1)), .int (iI (v0)), .int (iI (i0)), .int (iI (0))]))] ++ (SW cI cT cU d (su (xPlant σ (r0 * 8 + p0) i0 v0) 8 (tw (r0 * 8 + (7 - p0))) (((xPlant σ (r0 * 8 + p0) i0 v0) 8 (tw (r0 * 8 + (7 - p0)))) - 5)) ι)) H := hP
                                have hD : va_D A ([(q196_5, .inr (3, [.int (iI (1)), .int (iI (v0)), .int (iI (i0)), .int (iI (0))]))] ++ (SW cI cT cU d (su (xPlant σ (r0 * 8 + p0) i0 v0) 8 (tw (r0 * 8 + (7 - p0))) (((xPlant σ (r0 * 8 + p0) i0 v0) 8 (tw (r0 * 8 + (7 - p0)))) - 5)) ι)) := hD
                                refine lv_aload_n hx hb dX2_work_219 rfl (lv_at hl 7 rfl) ?_
                                refine va_get (D := D) (ci := 2) (v := .ref (d 1)) (C := RX2) (T := TX2) (N := 8) hx hb hts hinX2 hown hK (g_right hP) 0 rfl rfl 0 (by decide) (hts (.fieldLink RX2 9 "TwinOrchardLaw$Sim" "trees" "[[LTwinOrchardLaw$Tree;") (List.mem_of_getElem? (i := 1) rfl)) (fun _ h9 => h9) rfl dX2_work_220 ?_
                                refine lv_iload_n hx hb dX2_work_223 rfl (lv_at hl 9 rfl) ?_
                                refine s_row (f := srt d) hx hb hK (g_right hP) 1 3 rfl rfl (by omega) (by omega) (by decide) (v := d (r0.toNat + 7)) (if_pos (by omega)) dX2_work_224 ?_
                                refine lv_iload hx hb dX2_work_225 (lv_at hl 5 rfl) ?_
                                refine lv_aload hx hb dX2_work_227 (lv_at hl 0 rfl) ?_
                                refine s_storeR (f := trow (su (xPlant σ (r0 * 8 + p0) i0 v0) 8 (tw (r0 * 8 + (7 - p0))) (((xPlant σ (r0 * 8 + p0) i0 v0) 8 (tw (r0 * 8 + (7 - p0)))) - 5)) ι r0) hx hb hK hP hD hS (r0.toNat + 7 + 1) 2 0 3 (sw_row (cI := cI) (cT := cT) (cU := cU) (d := d) (σ := su (xPlant σ (r0 * 8 + p0) i0 v0) 8 (tw (r0 * 8 + (7 - p0))) (((xPlant σ (r0 * 8 + p0) i0 v0) 8 (tw (r0 * 8 + (7 - p0)))) - 5)) (ι := ι) (r := r0) (by omega) (by omega)) rfl rfl rfl (by omega) (by omega) dX2_work_229 (fun H locs hP hD hS => ?_)
                                obtain ⟨hP, hD⟩ := sw_plant (cI := cI) (cT := cT) (cU := cU) (d := d) (σ := su (xPlant σ (r0 * 8 + p0) i0 v0) 8 (tw (r0 * 8 + (7 - p0))) (((xPlant σ (r0 * 8 + p0) i0 v0) 8 (tw (r0 * 8 + (7 - p0)))) - 5)) (ι := ι) (r := r0) (p := 7 - p0) (so := i0) (v := v0) (q := q196_5) (by omega) (by omega) ct78 (by omega) hP hD
                                have hP : va_P D vwCl (SW cI cT cU d (plaS (su (xPlant σ (r0 * 8 + p0) i0 v0) 8 (tw (r0 * 8 + (7 - p0))) (((xPlant σ (r0 * 8 + p0) i0 v0) 8 (tw (r0 * 8 + (7 - p0)))) - 5)) (r0 * 8 + (7 - p0)) (i0) (v0)) (fu ι (r0 * 8 + (7 - p0)) ((q196_5 : Nat) : Int))) H := hP
                                have hD : va_D A (SW cI cT cU d (plaS (su (xPlant σ (r0 * 8 + p0) i0 v0) 8 (tw (r0 * 8 + (7 - p0))) (((xPlant σ (r0 * 8 + p0) i0 v0) 8 (tw (r0 * 8 + (7 - p0)))) - 5)) (r0 * 8 + (7 - p0)) (i0) (v0)) (fu ι (r0 * 8 + (7 - p0)) ((q196_5 : Nat) : Int))) := hD
                                refine lv_goto (tgt := 309) hx hb dX2_work_230 (by decide) ?_
                                have ha2 : plA (xPlant σ (r0 * 8 + p0) i0 v0) (r0 * 8 + (7 - p0)) = 1 := bI_t (by omega)
                                have e8 : (plaS (su (xPlant σ (r0 * 8 + p0) i0 v0) 8 (tw (r0 * 8 + (7 - p0))) (((xPlant σ (r0 * 8 + p0) i0 v0) 8 (tw (r0 * 8 + (7 - p0)))) - 5)) (r0 * 8 + (7 - p0)) (i0) (v0)) = (xPlant (xPlant σ (r0 * 8 + p0) i0 v0) (r0 * 8 + (7 - p0)) i0 v0) := (xPlant_y (by omega)).symm
                                rw [e8] at hP hD
                                have hP : va_P D vwCl (SW cI cT cU d (xPlant (xPlant σ (r0 * 8 + p0) i0 v0) (r0 * 8 + (7 - p0)) i0 v0) (fu ι (r0 * 8 + (7 - p0)) ((q196_5 : Nat) : Int))) H := hP
                                have hD : va_D A (SW cI cT cU d (xPlant (xPlant σ (r0 * 8 + p0) i0 v0) (r0 * 8 + (7 - p0)) i0 v0) (fu ι (r0 * 8 + (7 - p0)) ((q196_5 : Nat) : Int))) := hD
                                refine lv_iinc (v := iI (2)) (lv' := [(7, .int (iI (2))), (11, .ref (q196_5)), (6, .int (iI (0 + (1 + 1)))), (12, .int (iI (1))), (10, .int (iI (5))), (9, .int (iI (tw (r0 * 8 + (7 - p0))))), (8, .int (iI (7 - p0))), (0, .ref (d 0)), (1, .int (iI (0))), (2, .int (iI (r0))), (3, .int (iI (p0))), (4, .int (iI (i0))), (5, .int (iI (v0)))]) hx hb dX2_work_309 hl (k := 6) rfl rfl (by decide) rfl (fun ls hl => ?_)
                                refine lv_goto (tgt := 6) hx hb dX2_work_312 (by decide) ?_
                                refine lv_iload hx hb dX2_work_6 (lv_at hl 0 rfl) ?_
                                refine lv_iconst (v := iI (2)) hx hb dX2_work_8 rfl ?_
                                refine gi_icmp_ge (tgt := 315) hx hb dX2_work_9 (by decide) ⟨by decide, by decide⟩ ⟨by decide, by decide⟩ (fun c9 => ?_) (fun c9 => ?_)
                                · skip
                                  refine lv_iload hx hb dX2_work_315 (lv_at hl 2 rfl) ?_
                                  have ess : (xPlant (xPlant σ (r0 * 8 + p0) i0 v0) (mir (r0 * 8 + p0)) i0 v0) = (xPlant (xPlant σ (r0 * 8 + p0) i0 v0) (r0 * 8 + (7 - p0)) i0 v0) := by rw [em]
                                  have hP : va_P D vwCl (SW cI cT cU d (xPlant (xPlant σ (r0 * 8 + p0) i0 v0) (mir (r0 * 8 + p0)) i0 v0) (fu ι (r0 * 8 + (7 - p0)) ((q196_5 : Nat) : Int))) H := by rw [ess]; exact hP
                                  have hD : va_D A (SW cI cT cU d (xPlant (xPlant σ (r0 * 8 + p0) i0 v0) (mir (r0 * 8 + p0)) i0 v0) (fu ι (r0 * 8 + (7 - p0)) ((q196_5 : Nat) : Int))) := by rw [ess]; exact hD
                                  have er : ((who (plA σ (r0 * 8 + p0)) (plA (xPlant σ (r0 * 8 + p0) i0 v0) (mir (r0 * 8 + p0))) : Int)) = (0 + (1 + 1)) := by rw [em, ha1, ha2]; decide
                                  exact g_iret (wo := (fun κ' => SW cI cT cU d (xPlant (xPlant σ (r0 * 8 + p0) i0 v0) (mir (r0 * 8 + p0)) i0 v0) (κ' 2))) (kr := (fun κ' => True)) (rv := (fun _ => some (.int (iI (who (plA σ (r0 * 8 + p0)) (plA (xPlant σ (r0 * 8 + p0) i0 v0) (mir (r0 * 8 + p0)))))))) hx hb hr hlocks (fun _ => fu ι (r0 * 8 + (7 - p0)) ((q196_5 : Nat) : Int)) rfl hP hK hD hS trivial (by rw [er]) (Nat.le_of_ble_eq_true rfl) (Nat.le_of_ble_eq_true rfl) dX2_work_317
                                · skip
                                  omega
                            · skip
                              refine lv_goto (tgt := 309) hx hb dX2_work_168 (by decide) ?_
                              have ha2 : plA (xPlant σ (r0 * 8 + p0) i0 v0) (r0 * 8 + (7 - p0)) = 0 := bI_f (by omega)
                              have e8 : (xPlant σ (r0 * 8 + p0) i0 v0) = (xPlant (xPlant σ (r0 * 8 + p0) i0 v0) (r0 * 8 + (7 - p0)) i0 v0) := (xPlant_n (by omega)).symm
                              rw [e8] at hP hD
                              have hP : va_P D vwCl (SW cI cT cU d (xPlant (xPlant σ (r0 * 8 + p0) i0 v0) (r0 * 8 + (7 - p0)) i0 v0) ι) H := hP
                              have hD : va_D A (SW cI cT cU d (xPlant (xPlant σ (r0 * 8 + p0) i0 v0) (r0 * 8 + (7 - p0)) i0 v0) ι) := hD
                              refine lv_iinc (v := iI (2)) (lv' := [(7, .int (iI (2))), (12, .int (iI (1))), (11, .null), (10, .int (iI (5))), (9, .int (iI (tw (r0 * 8 + (7 - p0))))), (8, .int (iI (7 - p0))), (6, .int (iI (0))), (0, .ref (d 0)), (1, .int (iI (0))), (2, .int (iI (r0))), (3, .int (iI (p0))), (4, .int (iI (i0))), (5, .int (iI (v0)))]) hx hb dX2_work_309 hl (k := 5) rfl rfl (by decide) rfl (fun ls hl => ?_)
                              refine lv_goto (tgt := 6) hx hb dX2_work_312 (by decide) ?_
                              refine lv_iload hx hb dX2_work_6 (lv_at hl 0 rfl) ?_
                              refine lv_iconst (v := iI (2)) hx hb dX2_work_8 rfl ?_
                              refine gi_icmp_ge (tgt := 315) hx hb dX2_work_9 (by decide) ⟨by decide, by decide⟩ ⟨by decide, by decide⟩ (fun c9 => ?_) (fun c9 => ?_)
                              · skip
                                refine lv_iload hx hb dX2_work_315 (lv_at hl 6 rfl) ?_
                                have ess : (xPlant (xPlant σ (r0 * 8 + p0) i0 v0) (mir (r0 * 8 + p0)) i0 v0) = (xPlant (xPlant σ (r0 * 8 + p0) i0 v0) (r0 * 8 + (7 - p0)) i0 v0) := by rw [em]
                                have hP : va_P D vwCl (SW cI cT cU d (xPlant (xPlant σ (r0 * 8 + p0) i0 v0) (mir (r0 * 8 + p0)) i0 v0) ι) H := by rw [ess]; exact hP
                                have hD : va_D A (SW cI cT cU d (xPlant (xPlant σ (r0 * 8 + p0) i0 v0) (mir (r0 * 8 + p0)) i0 v0) ι) := by rw [ess]; exact hD
                                have er : ((who (plA σ (r0 * 8 + p0)) (plA (xPlant σ (r0 * 8 + p0) i0 v0) (mir (r0 * 8 + p0))) : Int)) = (0) := by rw [em, ha1, ha2]; decide
                                exact g_iret (wo := (fun κ' => SW cI cT cU d (xPlant (xPlant σ (r0 * 8 + p0) i0 v0) (mir (r0 * 8 + p0)) i0 v0) (κ' 2))) (kr := (fun κ' => True)) (rv := (fun _ => some (.int (iI (who (plA σ (r0 * 8 + p0)) (plA (xPlant σ (r0 * 8 + p0) i0 v0) (mir (r0 * 8 + p0)))))))) hx hb hr hlocks (fun _ => ι) rfl hP hK hD hS trivial (by rw [er]) (Nat.le_of_ble_eq_true rfl) (Nat.le_of_ble_eq_true rfl) dX2_work_317
                              · skip
                                omega
                      · skip
                        refine lv_astore (lv' := [(11, .ref (ι (r0 * 8 + (7 - p0))).toNat), (10, .int (iI (5))), (9, .int (iI (tw (r0 * 8 + (7 - p0))))), (8, .int (iI (7 - p0))), (7, .int (iI (1))), (12, .int (iI (1))), (6, .int (iI (0))), (0, .ref (d 0)), (1, .int (iI (0))), (2, .int (iI (r0))), (3, .int (iI (p0))), (4, .int (iI (i0))), (5, .int (iI (v0)))]) hx hb dX2_work_79 hl (by decide) rfl (fun ls hl => ?_)
                        refine lv_iload_n hx hb dX2_work_81 rfl (lv_at hl 8 rfl) ?_
                        refine gi_if_ne (tgt := 98) hx hb dX2_work_82 (by decide) ⟨by decide, by decide⟩ (fun c82 => ?_) (fun c82 => ?_)
                        · skip
                          exact absurd rfl c82
                        · skip
                          refine lv_aload hx hb dX2_work_85 (lv_at hl 0 rfl) ?_
                          refine lv_ifnonnull (tgt := 94) hx hb dX2_work_87 (by decide) ?_
                          refine lv_iconst (v := iI (0)) hx hb dX2_work_94 rfl ?_
                          refine lv_goto (tgt := 149) hx hb dX2_work_95 (by decide) ?_
                          refine lv_istore (lv' := [(12, .int (iI (0))), (11, .ref (ι (r0 * 8 + (7 - p0))).toNat), (10, .int (iI (5))), (9, .int (iI (tw (r0 * 8 + (7 - p0))))), (8, .int (iI (7 - p0))), (7, .int (iI (1))), (6, .int (iI (0))), (0, .ref (d 0)), (1, .int (iI (0))), (2, .int (iI (r0))), (3, .int (iI (p0))), (4, .int (iI (i0))), (5, .int (iI (v0)))]) hx hb dX2_work_149 hl (by decide) rfl (fun ls hl => ?_)
                          refine lv_iload hx hb dX2_work_151 (lv_at hl 0 rfl) ?_
                          refine gi_if_eq (tgt := 309) hx hb dX2_work_153 (by decide) ⟨by decide, by decide⟩ (fun c153 => ?_) (fun c153 => ?_)
                          · skip
                            have ha2 : plA (xPlant σ (r0 * 8 + p0) i0 v0) (r0 * 8 + (7 - p0)) = 0 := bI_f (by omega)
                            have e8 : (xPlant σ (r0 * 8 + p0) i0 v0) = (xPlant (xPlant σ (r0 * 8 + p0) i0 v0) (r0 * 8 + (7 - p0)) i0 v0) := (xPlant_n (by omega)).symm
                            rw [e8] at hP hD
                            have hP : va_P D vwCl (SW cI cT cU d (xPlant (xPlant σ (r0 * 8 + p0) i0 v0) (r0 * 8 + (7 - p0)) i0 v0) ι) H := hP
                            have hD : va_D A (SW cI cT cU d (xPlant (xPlant σ (r0 * 8 + p0) i0 v0) (r0 * 8 + (7 - p0)) i0 v0) ι) := hD
                            refine lv_iinc (v := iI (2)) (lv' := [(7, .int (iI (2))), (12, .int (iI (0))), (11, .ref (ι (r0 * 8 + (7 - p0))).toNat), (10, .int (iI (5))), (9, .int (iI (tw (r0 * 8 + (7 - p0))))), (8, .int (iI (7 - p0))), (6, .int (iI (0))), (0, .ref (d 0)), (1, .int (iI (0))), (2, .int (iI (r0))), (3, .int (iI (p0))), (4, .int (iI (i0))), (5, .int (iI (v0)))]) hx hb dX2_work_309 hl (k := 5) rfl rfl (by decide) rfl (fun ls hl => ?_)
                            refine lv_goto (tgt := 6) hx hb dX2_work_312 (by decide) ?_
                            refine lv_iload hx hb dX2_work_6 (lv_at hl 0 rfl) ?_
                            refine lv_iconst (v := iI (2)) hx hb dX2_work_8 rfl ?_
                            refine gi_icmp_ge (tgt := 315) hx hb dX2_work_9 (by decide) ⟨by decide, by decide⟩ ⟨by decide, by decide⟩ (fun c9 => ?_) (fun c9 => ?_)
                            · skip
                              refine lv_iload hx hb dX2_work_315 (lv_at hl 6 rfl) ?_
                              have ess : (xPlant (xPlant σ (r0 * 8 + p0) i0 v0) (mir (r0 * 8 + p0)) i0 v0) = (xPlant (xPlant σ (r0 * 8 + p0) i0 v0) (r0 * 8 + (7 - p0)) i0 v0) := by rw [em]
                              have hP : va_P D vwCl (SW cI cT cU d (xPlant (xPlant σ (r0 * 8 + p0) i0 v0) (mir (r0 * 8 + p0)) i0 v0) ι) H := by rw [ess]; exact hP
                              have hD : va_D A (SW cI cT cU d (xPlant (xPlant σ (r0 * 8 + p0) i0 v0) (mir (r0 * 8 + p0)) i0 v0) ι) := by rw [ess]; exact hD
                              have er : ((who (plA σ (r0 * 8 + p0)) (plA (xPlant σ (r0 * 8 + p0) i0 v0) (mir (r0 * 8 + p0))) : Int)) = (0) := by rw [em, ha1, ha2]; decide
                              exact g_iret (wo := (fun κ' => SW cI cT cU d (xPlant (xPlant σ (r0 * 8 + p0) i0 v0) (mir (r0 * 8 + p0)) i0 v0) (κ' 2))) (kr := (fun κ' => True)) (rv := (fun _ => some (.int (iI (who (plA σ (r0 * 8 + p0)) (plA (xPlant σ (r0 * 8 + p0) i0 v0) (mir (r0 * 8 + p0)))))))) hx hb hr hlocks (fun _ => ι) rfl hP hK hD hS trivial (by rw [er]) (Nat.le_of_ble_eq_true rfl) (Nat.le_of_ble_eq_true rfl) dX2_work_317
                            · skip
                              omega
                          · skip
                            exact absurd rfl c153
                  · skip
                    exact absurd c14 (by decide)
        · skip
          refine lv_astore (lv' := [(11, .ref (ι (r0 * 8 + p0)).toNat), (10, .int (iI (5))), (9, .int (iI (tw (r0 * 8 + p0)))), (8, .int (iI (p0))), (7, .int (iI (0))), (6, .int (iI (0))), (0, .ref (d 0)), (1, .int (iI (0))), (2, .int (iI (r0))), (3, .int (iI (p0))), (4, .int (iI (i0))), (5, .int (iI (v0)))]) hx hb dX2_work_79 hl (by decide) rfl (fun ls hl => ?_)
          refine lv_iload_n hx hb dX2_work_81 rfl (lv_at hl 7 rfl) ?_
          refine gi_if_ne (tgt := 98) hx hb dX2_work_82 (by decide) ⟨by decide, by decide⟩ (fun c82 => ?_) (fun c82 => ?_)
          · skip
            exact absurd rfl c82
          · skip
            refine lv_aload hx hb dX2_work_85 (lv_at hl 0 rfl) ?_
            refine lv_ifnonnull (tgt := 94) hx hb dX2_work_87 (by decide) ?_
            refine lv_iconst (v := iI (0)) hx hb dX2_work_94 rfl ?_
            refine lv_goto (tgt := 149) hx hb dX2_work_95 (by decide) ?_
            refine lv_istore (lv' := [(12, .int (iI (0))), (11, .ref (ι (r0 * 8 + p0)).toNat), (10, .int (iI (5))), (9, .int (iI (tw (r0 * 8 + p0)))), (8, .int (iI (p0))), (7, .int (iI (0))), (6, .int (iI (0))), (0, .ref (d 0)), (1, .int (iI (0))), (2, .int (iI (r0))), (3, .int (iI (p0))), (4, .int (iI (i0))), (5, .int (iI (v0)))]) hx hb dX2_work_149 hl (by decide) rfl (fun ls hl => ?_)
            refine lv_iload hx hb dX2_work_151 (lv_at hl 0 rfl) ?_
            refine gi_if_eq (tgt := 309) hx hb dX2_work_153 (by decide) ⟨by decide, by decide⟩ (fun c153 => ?_) (fun c153 => ?_)
            · skip
              have ha1 : plA σ (r0 * 8 + p0) = 0 := bI_f (by omega)
              have e8 : (σ) = (xPlant σ (r0 * 8 + p0) i0 v0) := (xPlant_n (by omega)).symm
              rw [e8] at hP hD
              have hP : va_P D vwCl (SW cI cT cU d (xPlant σ (r0 * 8 + p0) i0 v0) ι) H := hP
              have hD : va_D A (SW cI cT cU d (xPlant σ (r0 * 8 + p0) i0 v0) ι) := hD
              have hwf2 : xWF (xPlant σ (r0 * 8 + p0) i0 v0) := xWF_plant hwf hi hv
              have k4b := xWF_4 hwf2 (r0 * 8 + (7 - p0))
              have k5b := xWF_5 hwf2 (r0 * 8 + (7 - p0))
              have k8b := xWF_8 hwf2 (tw (r0 * 8 + (7 - p0)))
              refine lv_iinc (v := iI (1)) (lv' := [(7, .int (iI (1))), (12, .int (iI (0))), (11, .ref (ι (r0 * 8 + p0)).toNat), (10, .int (iI (5))), (9, .int (iI (tw (r0 * 8 + p0)))), (8, .int (iI (p0))), (6, .int (iI (0))), (0, .ref (d 0)), (1, .int (iI (0))), (2, .int (iI (r0))), (3, .int (iI (p0))), (4, .int (iI (i0))), (5, .int (iI (v0)))]) hx hb dX2_work_309 hl (k := 5) rfl rfl (by decide) rfl (fun ls hl => ?_)
              refine lv_goto (tgt := 6) hx hb dX2_work_312 (by decide) ?_
              refine lv_iload hx hb dX2_work_6 (lv_at hl 0 rfl) ?_
              refine lv_iconst (v := iI (2)) hx hb dX2_work_8 rfl ?_
              refine gi_icmp_ge (tgt := 315) hx hb dX2_work_9 (by decide) ⟨by decide, by decide⟩ ⟨by decide, by decide⟩ (fun c9 => ?_) (fun c9 => ?_)
              · skip
                exact absurd c9 (by decide)
              · skip
                refine lv_iload hx hb dX2_work_12 (lv_at hl 0 rfl) ?_
                refine gi_if_ne (tgt := 21) hx hb dX2_work_14 (by decide) ⟨by decide, by decide⟩ (fun c14 => ?_) (fun c14 => ?_)
                · skip
                  refine lv_bipush (v := iI (7)) hx hb dX2_work_21 rfl ?_
                  refine lv_iload_n hx hb dX2_work_23 rfl (lv_at hl 10 rfl) ?_
                  refine gi_sub hx hb dX2_work_24 ?_
                  refine lv_istore (lv' := [(8, .int (iI (7 - p0))), (7, .int (iI (1))), (12, .int (iI (0))), (11, .ref (ι (r0 * 8 + p0)).toNat), (10, .int (iI (5))), (9, .int (iI (tw (r0 * 8 + p0)))), (6, .int (iI (0))), (0, .ref (d 0)), (1, .int (iI (0))), (2, .int (iI (r0))), (3, .int (iI (p0))), (4, .int (iI (i0))), (5, .int (iI (v0)))]) hx hb dX2_work_25 hl (by decide) rfl (fun ls hl => ?_)
                  refine lv_iload hx hb dX2_work_27 (lv_at hl 0 rfl) ?_
                  refine lv_iconst (v := iI (4)) hx hb dX2_work_29 rfl ?_
                  refine g_selGe (u := 0) (v := 1) (t1 := 37) (t2 := 38) hx hb ⟨by omega, by omega⟩ ⟨by decide, by decide⟩ dX2_work_30 (by decide) (fun st h => lv_iconst (v := iI (0)) hx hb dX2_work_33 rfl (lv_goto (tgt := 38) hx hb dX2_work_34 (by decide) h)) (fun st h => lv_iconst (v := iI (1)) hx hb dX2_work_37 rfl h) ?_
                  rw [show (if 7 - p0 < 4 then (0 : Int) else 1) = tw (r0 * 8 + (7 - p0)) from by unfold tw; split <;> split <;> omega]
                  refine lv_istore (lv' := [(9, .int (iI (tw (r0 * 8 + (7 - p0))))), (8, .int (iI (7 - p0))), (7, .int (iI (1))), (12, .int (iI (0))), (11, .ref (ι (r0 * 8 + p0)).toNat), (10, .int (iI (5))), (6, .int (iI (0))), (0, .ref (d 0)), (1, .int (iI (0))), (2, .int (iI (r0))), (3, .int (iI (p0))), (4, .int (iI (i0))), (5, .int (iI (v0)))]) hx hb dX2_work_38 hl (by decide) rfl (fun ls hl => ?_)
                  refine lv_iload_n hx hb dX2_work_40 rfl (lv_at hl 8 rfl) ?_
                  refine gi_if_ne (tgt := 48) hx hb dX2_work_41 (by decide) ⟨by decide, by decide⟩ (fun c41 => ?_) (fun c41 => ?_)
                  · skip
                    exact absurd rfl c41
                  · skip
                    refine lv_iconst (v := iI (5)) hx hb dX2_work_44 rfl ?_
                    refine lv_goto (tgt := 68) hx hb dX2_work_45 (by decide) ?_
                    refine lv_istore (lv' := [(10, .int (iI (5))), (9, .int (iI (tw (r0 * 8 + (7 - p0))))), (8, .int (iI (7 - p0))), (7, .int (iI (1))), (12, .int (iI (0))), (11, .ref (ι (r0 * 8 + p0)).toNat), (6, .int (iI (0))), (0, .ref (d 0)), (1, .int (iI (0))), (2, .int (iI (r0))), (3, .int (iI (p0))), (4, .int (iI (i0))), (5, .int (iI (v0)))]) hx hb dX2_work_68 hl (by decide) rfl (fun ls hl => ?_)
                    refine lv_aload_n hx hb dX2_work_70 rfl (lv_at hl 7 rfl) ?_
                    refine va_get (D := D) (ci := 2) (v := .ref (d 1)) (C := RX2) (T := TX2) (N := 8) hx hb hts hinX2 hown hK hP 0 rfl rfl 0 (by decide) (hts (.fieldLink RX2 9 "TwinOrchardLaw$Sim" "trees" "[[LTwinOrchardLaw$Tree;") (List.mem_of_getElem? (i := 1) rfl)) (fun _ h9 => h9) rfl dX2_work_71 ?_
                    refine lv_iload_n hx hb dX2_work_74 rfl (lv_at hl 9 rfl) ?_
                    refine s_row (f := srt d) hx hb hK hP 1 3 rfl rfl (by omega) (by omega) (by decide) (v := d (r0.toNat + 7)) (if_pos (by omega)) dX2_work_75 ?_
                    refine lv_iload hx hb dX2_work_76 (lv_at hl 2 rfl) ?_
                    refine s_tree (σ := xPlant σ (r0 * 8 + p0) i0 v0) (ι := ι) (r := r0) (i := 7 - p0) hx hb hK hP (r0.toNat + 7) 2 (sw_row (by omega) (by omega)) rfl (by omega) (by omega) dX2_work_78 (fun ct78 => ?_) (fun ct78 => ?_)
                    · skip
                      refine lv_astoreN (lv' := [(11, .null), (10, .int (iI (5))), (9, .int (iI (tw (r0 * 8 + (7 - p0))))), (8, .int (iI (7 - p0))), (7, .int (iI (1))), (12, .int (iI (0))), (6, .int (iI (0))), (0, .ref (d 0)), (1, .int (iI (0))), (2, .int (iI (r0))), (3, .int (iI (p0))), (4, .int (iI (i0))), (5, .int (iI (v0)))]) hx hb dX2_work_79 hl (by decide) rfl (fun ls hl => ?_)
                      refine lv_iload_n hx hb dX2_work_81 rfl (lv_at hl 8 rfl) ?_
                      refine gi_if_ne (tgt := 98) hx hb dX2_work_82 (by decide) ⟨by decide, by decide⟩ (fun c82 => ?_) (fun c82 => ?_)
                      · skip
                        exact absurd rfl c82
                      · skip
                        refine lv_aloadN hx hb dX2_work_85 (lv_at hl 0 rfl) ?_
                        refine lv_ifnonnullN hx hb dX2_work_87 ?_
                        refine lv_iconst (v := iI (1)) hx hb dX2_work_90 rfl ?_
                        refine lv_goto (tgt := 149) hx hb dX2_work_91 (by decide) ?_
                        refine lv_istore (lv' := [(12, .int (iI (1))), (11, .null), (10, .int (iI (5))), (9, .int (iI (tw (r0 * 8 + (7 - p0))))), (8, .int (iI (7 - p0))), (7, .int (iI (1))), (6, .int (iI (0))), (0, .ref (d 0)), (1, .int (iI (0))), (2, .int (iI (r0))), (3, .int (iI (p0))), (4, .int (iI (i0))), (5, .int (iI (v0)))]) hx hb dX2_work_149 hl (by decide) rfl (fun ls hl => ?_)
                        refine lv_iload hx hb dX2_work_151 (lv_at hl 0 rfl) ?_
                        refine gi_if_eq (tgt := 309) hx hb dX2_work_153 (by decide) ⟨by decide, by decide⟩ (fun c153 => ?_) (fun c153 => ?_)
                        · skip
                          exact absurd c153 (by decide)
                        · skip
                          refine lv_aload_n hx hb dX2_work_156 rfl (lv_at hl 7 rfl) ?_
                          refine va_get (D := D) (ci := 2) (v := .ref (d 6)) (C := RX2) (T := TX2) (N := 8) hx hb hts hinX2 hown hK hP 0 rfl rfl 5 (by decide) (hts (.fieldLink RX2 27 "TwinOrchardLaw$Sim" "strength" "[I") (List.mem_of_getElem? (i := 4) rfl)) (fun _ h9 => h9) rfl dX2_work_157 ?_
                          refine lv_iload hx hb dX2_work_160 (lv_at hl 3 rfl) ?_
                          refine gi_iald (a := d 6) (n := 2) (f := (xPlant σ (r0 * 8 + p0) i0 v0) 8) hx hb hK hP 6 0 rfl rfl (by omega) (by omega) (by decide) dX2_work_162 ?_
                          refine lv_iload hx hb dX2_work_163 (lv_at hl 2 rfl) ?_
                          refine gi_icmp_ge (tgt := 171) hx hb dX2_work_165 (by decide) ⟨by omega, by omega⟩ ⟨by decide, by decide⟩ (fun c165 => ?_) (fun c165 => ?_)
                          · skip
                            refine lv_aload_n hx hb dX2_work_171 rfl (lv_at hl 7 rfl) ?_
                            refine va_get (D := D) (ci := 2) (v := .ref (d 6)) (C := RX2) (T := TX2) (N := 8) hx hb hts hinX2 hown hK hP 0 rfl rfl 5 (by decide) (hts (.fieldLink RX2 27 "TwinOrchardLaw$Sim" "strength" "[I") (List.mem_of_getElem? (i := 4) rfl)) (fun _ h9 => h9) rfl dX2_work_172 ?_
                            refine lv_iload hx hb dX2_work_175 (lv_at hl 3 rfl) ?_
                            refine lv_dup2_11 hx hb dX2_work_177 rfl rfl ?_
                            refine gi_iald (a := d 6) (n := 2) (f := (xPlant σ (r0 * 8 + p0) i0 v0) 8) hx hb hK hP 6 0 rfl rfl (by omega) (by omega) (by decide) dX2_work_178 ?_
                            refine lv_iload hx hb dX2_work_179 (lv_at hl 2 rfl) ?_
                            refine gi_sub hx hb dX2_work_181 ?_
                            refine gi_iast (a := d 6) (n := 2) (f := (xPlant σ (r0 * 8 + p0) i0 v0) 8) hx hb hK hP hD hS 6 0 rfl rfl (by omega) (by omega) (by decide) dX2_work_182 (fun H locs hP hD hS => ?_)
                            have hP : va_P D vwCl (SW cI cT cU d (su (xPlant σ (r0 * 8 + p0) i0 v0) 8 (tw (r0 * 8 + (7 - p0))) (((xPlant σ (r0 * 8 + p0) i0 v0) 8 (tw (r0 * 8 + (7 - p0)))) - 5)) ι) H := hP
                            have hD : va_D A (SW cI cT cU d (su (xPlant σ (r0 * 8 + p0) i0 v0) 8 (tw (r0 * 8 + (7 - p0))) (((xPlant σ (r0 * 8 + p0) i0 v0) 8 (tw (r0 * 8 + (7 - p0)))) - 5)) ι) := hD
                            refine lv_iload hx hb dX2_work_183 (lv_at hl 6 rfl) ?_
                            refine lv_iload hx hb dX2_work_185 (lv_at hl 5 rfl) ?_
                            refine lv_iconst (v := iI (1)) hx hb dX2_work_187 rfl ?_
                            refine gi_add hx hb dX2_work_188 ?_
                            refine gi_add hx hb dX2_work_189 ?_
                            refine lv_istore (lv' := [(6, .int (iI (0 + (1 + 1)))), (12, .int (iI (1))), (11, .null), (10, .int (iI (5))), (9, .int (iI (tw (r0 * 8 + (7 - p0))))), (8, .int (iI (7 - p0))), (7, .int (iI (1))), (0, .ref (d 0)), (1, .int (iI (0))), (2, .int (iI (r0))), (3, .int (iI (p0))), (4, .int (iI (i0))), (5, .int (iI (v0)))]) hx hb dX2_work_190 hl (by decide) rfl (fun ls hl => ?_)
                            refine lv_iload_n hx hb dX2_work_192 rfl (lv_at hl 8 rfl) ?_
                            refine gi_if_ne (tgt := 233) hx hb dX2_work_193 (by decide) ⟨by decide, by decide⟩ (fun c193 => ?_) (fun c193 => ?_)
                            · skip
                              exact absurd rfl c193
                            · skip
                              refine va_new (ci := 3) (fs := [.int 0, .int 0, .int 0, .int 0]) (C := RX3) (T := TX3) (N := 4) hx hb hts hinX3 tyX3 tyX3_ok hown (hts _ (List.mem_of_getElem? (i := 5) rfl)) (hts _ (List.mem_of_getElem? (i := 6) rfl)) (hts _ (List.mem_of_getElem? (i := 7) rfl)) hK hP hD hS hA rfl dfX3 (Nat.le_of_ble_eq_true rfl) (Nat.le_of_ble_eq_true rfl) dX2_work_196 (fun q196_7 H hP hD hS => ?_)
                              obtain ⟨hP, hD⟩ := g_swap hP hD
                              have hP : va_P D vwCl ([(q196_7, .inr (3, [.int (iI (0)), .int (iI (0)), .int (iI (0)), .int (iI (0))]))] ++ (SW cI cT cU d (su (xPlant σ (r0 * 8 + p0) i0 v0) 8 (tw (r0 * 8 + (7 - p0))) (((xPlant σ (r0 * 8 + p0) i0 v0) 8 (tw (r0 * 8 + (7 - p0)))) - 5)) ι)) H := hP
                              have hD : va_D A ([(q196_7, .inr (3, [.int (iI (0)), .int (iI (0)), .int (iI (0)), .int (iI (0))]))] ++ (SW cI cT cU d (su (xPlant σ (r0 * 8 + p0) i0 v0) 8 (tw (r0 * 8 + (7 - p0))) (((xPlant σ (r0 * 8 + p0) i0 v0) 8 (tw (r0 * 8 + (7 - p0)))) - 5)) ι)) := hD
                              refine lv_dup hx hb dX2_work_199 rfl ?_
                              have hPc : va_P D vwCl ([(q196_7, .inr (3, [.int (iI (0)), .int (iI (0)), .int (iI (0)), .int (iI (0))]))] ++ (SW cI cT cU d (su (xPlant σ (r0 * 8 + p0) i0 v0) 8 (tw (r0 * 8 + (7 - p0))) (((xPlant σ (r0 * 8 + p0) i0 v0) 8 (tw (r0 * 8 + (7 - p0)))) - 5)) ι)) H := hP
                              have hDc : va_D A ([(q196_7, .inr (3, [.int (iI (0)), .int (iI (0)), .int (iI (0)), .int (iI (0))]))] ++ (SW cI cT cU d (su (xPlant σ (r0 * 8 + p0) i0 v0) 8 (tw (r0 * 8 + (7 - p0))) (((xPlant σ (r0 * 8 + p0) i0 v0) 8 (tw (r0 * 8 + (7 - p0)))) - 5)) ι)) := hD
                              refine g_call (va_runIN (As := []) (rest := [.ref (q196_7)]) S ((kX3_init l D cI cZ cT cU cQ q196_7) H.size) ⟨va_cnB 0 hts gX2_work_X3_init_n47 rfl rfl rfl hE.2.1 (hts (.initialized RX3) (List.mem_of_getElem? (i := 7) rfl)) (by decide +kernel) ⟨Nat.le_of_ble_eq_true rfl, Nat.le_of_ble_eq_true rfl⟩, rfl, (hts _ (List.mem_of_getElem? (i := 10) rfl))⟩ (g_preS (As := [.ref q196_7]) gEx_t hK [0, 1, 2, 3, 4] rfl hPc hDc (fun _ _ _ => trivial)) rfl rfl hl.1 rfl (lv_room (Nat.le_of_ble_eq_true rfl)) dX2_work_200 ⟨Nat.le_of_ble_eq_true rfl, Nat.le_of_ble_eq_true rfl⟩) hPc hDc hS hA (fun κ9 H locs hk hP hD hS => ?_)
                              obtain ⟨z8, ezz8⟩ : ∃ z, z = κ9 := ⟨_, rfl⟩
                              subst ezz8
                              have hP : va_P D vwCl ([(q196_7, .inr (3, [.int (iI (1)), .int (iI (0)), .int (iI (0)), .int (iI (0))]))] ++ (SW cI cT cU d (su (xPlant σ (r0 * 8 + p0) i0 v0) 8 (tw (r0 * 8 + (7 - p0))) (((xPlant σ (r0 * 8 + p0) i0 v0) 8 (tw (r0 * 8 + (7 - p0)))) - 5)) ι)) H := hP
                              have hD : va_D A ([(q196_7, .inr (3, [.int (iI (1)), .int (iI (0)), .int (iI (0)), .int (iI (0))]))] ++ (SW cI cT cU d (su (xPlant σ (r0 * 8 + p0) i0 v0) 8 (tw (r0 * 8 + (7 - p0))) (((xPlant σ (r0 * 8 + p0) i0 v0) 8 (tw (r0 * 8 + (7 - p0)))) - 5)) ι)) := hD
                              show W p l e ({ frames := 2, cells := 2, slots := 8, locals := 44 } : Room) s m args below meth c H locs 1 4 (MQ below (gQ D (tyA cI cZ cT cU cQ) (fun κ' => SW cI cT cU d (xPlant (xPlant σ (r0 * 8 + p0) i0 v0) (mir (r0 * 8 + p0)) i0 v0) (κ' 2)) A (fun _ => some (.int (iI (who (plA σ (r0 * 8 + p0)) (plA (xPlant σ (r0 * 8 + p0) i0 v0) (mir (r0 * 8 + p0))))))) (fun κ' => True)) args s 2 8 A) (F0 m 203 ls [.ref (q196_7)])
                              refine lv_astore (lv' := [(11, .ref (q196_7)), (6, .int (iI (0 + (1 + 1)))), (12, .int (iI (1))), (10, .int (iI (5))), (9, .int (iI (tw (r0 * 8 + (7 - p0))))), (8, .int (iI (7 - p0))), (7, .int (iI (1))), (0, .ref (d 0)), (1, .int (iI (0))), (2, .int (iI (r0))), (3, .int (iI (p0))), (4, .int (iI (i0))), (5, .int (iI (v0)))]) hx hb dX2_work_203 hl (by decide) rfl (fun ls hl => ?_)
                              refine lv_aload hx hb dX2_work_205 (lv_at hl 0 rfl) ?_
                              refine lv_iload hx hb dX2_work_207 (lv_at hl 11 rfl) ?_
                              refine va_put (D := D) (ci := 3) (v := .int (iI (i0))) (ty := .int) (C := RX3) (T := TX3) (N := 4) hx hb hts hinX3 tyX3 tyX3_ok nmX3 hown hK hP hD hS 0 rfl rfl 2 (by decide) (hts (.fieldLink RX2 44 "TwinOrchardLaw$Tree" "sort" "I") (List.mem_of_getElem? (i := 3) rfl)) (fun _ h9 => h9) rfl (by decide +kernel) rfl rfl (Nat.le_of_ble_eq_true rfl) dX2_work_209 (fun H locs hP hD hS => ?_)
                              have hP : va_P D vwCl ([(q196_7, .inr (3, [.int (iI (1)), .int (iI (0)), .int (iI (i0)), .int (iI (0))]))] ++ (SW cI cT cU d (su (xPlant σ (r0 * 8 + p0) i0 v0) 8 (tw (r0 * 8 + (7 - p0))) (((xPlant σ (r0 * 8 + p0) i0 v0) 8 (tw (r0 * 8 + (7 - p0)))) - 5)) ι)) H := hP
                              have hD : va_D A ([(q196_7, .inr (3, [.int (iI (1)), .int (iI (0)), .int (iI (i0)), .int (iI (0))]))] ++ (SW cI cT cU d (su (xPlant σ (r0 * 8 + p0) i0 v0) 8 (tw (r0 * 8 + (7 - p0))) (((xPlant σ (r0 * 8 + p0) i0 v0) 8 (tw (r0 * 8 + (7 - p0)))) - 5)) ι)) := hD
                              refine lv_aload hx hb dX2_work_212 (lv_at hl 0 rfl) ?_
                              refine lv_iload hx hb dX2_work_214 (lv_at hl 12 rfl) ?_
                              refine va_put (D := D) (ci := 3) (v := .int (iI (v0))) (ty := .int) (C := RX3) (T := TX3) (N := 4) hx hb hts hinX3 tyX3 tyX3_ok nmX3 hown hK hP hD hS 0 rfl rfl 1 (by decide) (hts (.fieldLink RX2 48 "TwinOrchardLaw$Tree" "vigour" "I") (List.mem_of_getElem? (i := 8) rfl)) (fun _ h9 => h9) rfl (by decide +kernel) rfl rfl (Nat.le_of_ble_eq_true rfl) dX2_work_216 (fun H locs hP hD hS => ?_)
                              have hP : va_P D vwCl ([(q196_7, .inr (3, [.int (iI (1)), .int (iI (v0)), .int (iI (i0)), .int (iI (0))]))] ++ (SW cI cT cU d (su (xPlant σ (r0 * 8 + p0) i0 v0) 8 (tw (r0 * 8 + (7 - p0))) (((xPlant σ (r0 * 8 + p0) i0 v0) 8 (tw (r0 * 8 + (7 - p0)))) - 5)) ι)) H := hP
                              have hD : va_D A ([(q196_7, .inr (3, [.int (iI (1)), .int (iI (v0)), .int (iI (i0)), .int (iI (0))]))] ++ (SW cI cT cU d (su (xPlant σ (r0 * 8 + p0) i0 v0) 8 (tw (r0 * 8 + (7 - p0))) (((xPlant σ (r0 * 8 + p0) i0 v0) 8 (tw (r0 * 8 + (7 - p0)))) - 5)) ι)) := hD
                              refine lv_aload_n hx hb dX2_work_219 rfl (lv_at hl 7 rfl) ?_
                              refine va_get (D := D) (ci := 2) (v := .ref (d 1)) (C := RX2) (T := TX2) (N := 8) hx hb hts hinX2 hown hK (g_right hP) 0 rfl rfl 0 (by decide) (hts (.fieldLink RX2 9 "TwinOrchardLaw$Sim" "trees" "[[LTwinOrchardLaw$Tree;") (List.mem_of_getElem? (i := 1) rfl)) (fun _ h9 => h9) rfl dX2_work_220 ?_
                              refine lv_iload_n hx hb dX2_work_223 rfl (lv_at hl 9 rfl) ?_
                              refine s_row (f := srt d) hx hb hK (g_right hP) 1 3 rfl rfl (by omega) (by omega) (by decide) (v := d (r0.toNat + 7)) (if_pos (by omega)) dX2_work_224 ?_
                              refine lv_iload hx hb dX2_work_225 (lv_at hl 5 rfl) ?_
                              refine lv_aload hx hb dX2_work_227 (lv_at hl 0 rfl) ?_
                              refine s_storeR (f := trow (su (xPlant σ (r0 * 8 + p0) i0 v0) 8 (tw (r0 * 8 + (7 - p0))) (((xPlant σ (r0 * 8 + p0) i0 v0) 8 (tw (r0 * 8 + (7 - p0)))) - 5)) ι r0) hx hb hK hP hD hS (r0.toNat + 7 + 1) 2 0 3 (sw_row (cI := cI) (cT := cT) (cU := cU) (d := d) (σ := su (xPlant σ (r0 * 8 + p0) i0 v0) 8 (tw (r0 * 8 + (7 - p0))) (((xPlant σ (r0 * 8 + p0) i0 v0) 8 (tw (r0 * 8 + (7 - p0)))) - 5)) (ι := ι) (r := r0) (by omega) (by omega)) rfl rfl rfl (by omega) (by omega) dX2_work_229 (fun H locs hP hD hS => ?_)
                              obtain ⟨hP, hD⟩ := sw_plant (cI := cI) (cT := cT) (cU := cU) (d := d) (σ := su (xPlant σ (r0 * 8 + p0) i0 v0) 8 (tw (r0 * 8 + (7 - p0))) (((xPlant σ (r0 * 8 + p0) i0 v0) 8 (tw (r0 * 8 + (7 - p0)))) - 5)) (ι := ι) (r := r0) (p := 7 - p0) (so := i0) (v := v0) (q := q196_7) (by omega) (by omega) ct78 (by omega) hP hD
                              have hP : va_P D vwCl (SW cI cT cU d (plaS (su (xPlant σ (r0 * 8 + p0) i0 v0) 8 (tw (r0 * 8 + (7 - p0))) (((xPlant σ (r0 * 8 + p0) i0 v0) 8 (tw (r0 * 8 + (7 - p0)))) - 5)) (r0 * 8 + (7 - p0)) (i0) (v0)) (fu ι (r0 * 8 + (7 - p0)) ((q196_7 : Nat) : Int))) H := hP
                              have hD : va_D A (SW cI cT cU d (plaS (su (xPlant σ (r0 * 8 + p0) i0 v0) 8 (tw (r0 * 8 + (7 - p0))) (((xPlant σ (r0 * 8 + p0) i0 v0) 8 (tw (r0 * 8 + (7 - p0)))) - 5)) (r0 * 8 + (7 - p0)) (i0) (v0)) (fu ι (r0 * 8 + (7 - p0)) ((q196_7 : Nat) : Int))) := hD
                              refine lv_goto (tgt := 309) hx hb dX2_work_230 (by decide) ?_
                              have ha2 : plA (xPlant σ (r0 * 8 + p0) i0 v0) (r0 * 8 + (7 - p0)) = 1 := bI_t (by omega)
                              have e8 : (plaS (su (xPlant σ (r0 * 8 + p0) i0 v0) 8 (tw (r0 * 8 + (7 - p0))) (((xPlant σ (r0 * 8 + p0) i0 v0) 8 (tw (r0 * 8 + (7 - p0)))) - 5)) (r0 * 8 + (7 - p0)) (i0) (v0)) = (xPlant (xPlant σ (r0 * 8 + p0) i0 v0) (r0 * 8 + (7 - p0)) i0 v0) := (xPlant_y (by omega)).symm
                              rw [e8] at hP hD
                              have hP : va_P D vwCl (SW cI cT cU d (xPlant (xPlant σ (r0 * 8 + p0) i0 v0) (r0 * 8 + (7 - p0)) i0 v0) (fu ι (r0 * 8 + (7 - p0)) ((q196_7 : Nat) : Int))) H := hP
                              have hD : va_D A (SW cI cT cU d (xPlant (xPlant σ (r0 * 8 + p0) i0 v0) (r0 * 8 + (7 - p0)) i0 v0) (fu ι (r0 * 8 + (7 - p0)) ((q196_7 : Nat) : Int))) := hD
                              refine lv_iinc (v := iI (2)) (lv' := [(7, .int (iI (2))), (11, .ref (q196_7)), (6, .int (iI (0 + (1 + 1)))), (12, .int (iI (1))), (10, .int (iI (5))), (9, .int (iI (tw (r0 * 8 + (7 - p0))))), (8, .int (iI (7 - p0))), (0, .ref (d 0)), (1, .int (iI (0))), (2, .int (iI (r0))), (3, .int (iI (p0))), (4, .int (iI (i0))), (5, .int (iI (v0)))]) hx hb dX2_work_309 hl (k := 6) rfl rfl (by decide) rfl (fun ls hl => ?_)
                              refine lv_goto (tgt := 6) hx hb dX2_work_312 (by decide) ?_
                              refine lv_iload hx hb dX2_work_6 (lv_at hl 0 rfl) ?_
                              refine lv_iconst (v := iI (2)) hx hb dX2_work_8 rfl ?_
                              refine gi_icmp_ge (tgt := 315) hx hb dX2_work_9 (by decide) ⟨by decide, by decide⟩ ⟨by decide, by decide⟩ (fun c9 => ?_) (fun c9 => ?_)
                              · skip
                                refine lv_iload hx hb dX2_work_315 (lv_at hl 2 rfl) ?_
                                have ess : (xPlant (xPlant σ (r0 * 8 + p0) i0 v0) (mir (r0 * 8 + p0)) i0 v0) = (xPlant (xPlant σ (r0 * 8 + p0) i0 v0) (r0 * 8 + (7 - p0)) i0 v0) := by rw [em]
                                have hP : va_P D vwCl (SW cI cT cU d (xPlant (xPlant σ (r0 * 8 + p0) i0 v0) (mir (r0 * 8 + p0)) i0 v0) (fu ι (r0 * 8 + (7 - p0)) ((q196_7 : Nat) : Int))) H := by rw [ess]; exact hP
                                have hD : va_D A (SW cI cT cU d (xPlant (xPlant σ (r0 * 8 + p0) i0 v0) (mir (r0 * 8 + p0)) i0 v0) (fu ι (r0 * 8 + (7 - p0)) ((q196_7 : Nat) : Int))) := by rw [ess]; exact hD
                                have er : ((who (plA σ (r0 * 8 + p0)) (plA (xPlant σ (r0 * 8 + p0) i0 v0) (mir (r0 * 8 + p0))) : Int)) = (0 + (1 + 1)) := by rw [em, ha1, ha2]; decide
                                exact g_iret (wo := (fun κ' => SW cI cT cU d (xPlant (xPlant σ (r0 * 8 + p0) i0 v0) (mir (r0 * 8 + p0)) i0 v0) (κ' 2))) (kr := (fun κ' => True)) (rv := (fun _ => some (.int (iI (who (plA σ (r0 * 8 + p0)) (plA (xPlant σ (r0 * 8 + p0) i0 v0) (mir (r0 * 8 + p0)))))))) hx hb hr hlocks (fun _ => fu ι (r0 * 8 + (7 - p0)) ((q196_7 : Nat) : Int)) rfl hP hK hD hS trivial (by rw [er]) (Nat.le_of_ble_eq_true rfl) (Nat.le_of_ble_eq_true rfl) dX2_work_317
                              · skip
                                omega
                          · skip
                            refine lv_goto (tgt := 309) hx hb dX2_work_168 (by decide) ?_
                            have ha2 : plA (xPlant σ (r0 * 8 + p0) i0 v0) (r0 * 8 + (7 - p0)) = 0 := bI_f (by omega)
                            have e8 : (xPlant σ (r0 * 8 + p0) i0 v0) = (xPlant (xPlant σ (r0 * 8 + p0) i0 v0) (r0 * 8 + (7 - p0)) i0 v0) := (xPlant_n (by omega)).symm
                            rw [e8] at hP hD
                            have hP : va_P D vwCl (SW cI cT cU d (xPlant (xPlant σ (r0 * 8 + p0) i0 v0) (r0 * 8 + (7 - p0)) i0 v0) ι) H := hP
                            have hD : va_D A (SW cI cT cU d (xPlant (xPlant σ (r0 * 8 + p0) i0 v0) (r0 * 8 + (7 - p0)) i0 v0) ι) := hD
                            refine lv_iinc (v := iI (2)) (lv' := [(7, .int (iI (2))), (12, .int (iI (1))), (11, .null), (10, .int (iI (5))), (9, .int (iI (tw (r0 * 8 + (7 - p0))))), (8, .int (iI (7 - p0))), (6, .int (iI (0))), (0, .ref (d 0)), (1, .int (iI (0))), (2, .int (iI (r0))), (3, .int (iI (p0))), (4, .int (iI (i0))), (5, .int (iI (v0)))]) hx hb dX2_work_309 hl (k := 5) rfl rfl (by decide) rfl (fun ls hl => ?_)
                            refine lv_goto (tgt := 6) hx hb dX2_work_312 (by decide) ?_
                            refine lv_iload hx hb dX2_work_6 (lv_at hl 0 rfl) ?_
                            refine lv_iconst (v := iI (2)) hx hb dX2_work_8 rfl ?_
                            refine gi_icmp_ge (tgt := 315) hx hb dX2_work_9 (by decide) ⟨by decide, by decide⟩ ⟨by decide, by decide⟩ (fun c9 => ?_) (fun c9 => ?_)
                            · skip
                              refine lv_iload hx hb dX2_work_315 (lv_at hl 6 rfl) ?_
                              have ess : (xPlant (xPlant σ (r0 * 8 + p0) i0 v0) (mir (r0 * 8 + p0)) i0 v0) = (xPlant (xPlant σ (r0 * 8 + p0) i0 v0) (r0 * 8 + (7 - p0)) i0 v0) := by rw [em]
                              have hP : va_P D vwCl (SW cI cT cU d (xPlant (xPlant σ (r0 * 8 + p0) i0 v0) (mir (r0 * 8 + p0)) i0 v0) ι) H := by rw [ess]; exact hP
                              have hD : va_D A (SW cI cT cU d (xPlant (xPlant σ (r0 * 8 + p0) i0 v0) (mir (r0 * 8 + p0)) i0 v0) ι) := by rw [ess]; exact hD
                              have er : ((who (plA σ (r0 * 8 + p0)) (plA (xPlant σ (r0 * 8 + p0) i0 v0) (mir (r0 * 8 + p0))) : Int)) = (0) := by rw [em, ha1, ha2]; decide
                              exact g_iret (wo := (fun κ' => SW cI cT cU d (xPlant (xPlant σ (r0 * 8 + p0) i0 v0) (mir (r0 * 8 + p0)) i0 v0) (κ' 2))) (kr := (fun κ' => True)) (rv := (fun _ => some (.int (iI (who (plA σ (r0 * 8 + p0)) (plA (xPlant σ (r0 * 8 + p0) i0 v0) (mir (r0 * 8 + p0)))))))) hx hb hr hlocks (fun _ => ι) rfl hP hK hD hS trivial (by rw [er]) (Nat.le_of_ble_eq_true rfl) (Nat.le_of_ble_eq_true rfl) dX2_work_317
                            · skip
                              omega
                    · skip
                      refine lv_astore (lv' := [(11, .ref (ι (r0 * 8 + (7 - p0))).toNat), (10, .int (iI (5))), (9, .int (iI (tw (r0 * 8 + (7 - p0))))), (8, .int (iI (7 - p0))), (7, .int (iI (1))), (12, .int (iI (0))), (6, .int (iI (0))), (0, .ref (d 0)), (1, .int (iI (0))), (2, .int (iI (r0))), (3, .int (iI (p0))), (4, .int (iI (i0))), (5, .int (iI (v0)))]) hx hb dX2_work_79 hl (by decide) rfl (fun ls hl => ?_)
                      refine lv_iload_n hx hb dX2_work_81 rfl (lv_at hl 8 rfl) ?_
                      refine gi_if_ne (tgt := 98) hx hb dX2_work_82 (by decide) ⟨by decide, by decide⟩ (fun c82 => ?_) (fun c82 => ?_)
                      · skip
                        exact absurd rfl c82
                      · skip
                        refine lv_aload hx hb dX2_work_85 (lv_at hl 0 rfl) ?_
                        refine lv_ifnonnull (tgt := 94) hx hb dX2_work_87 (by decide) ?_
                        refine lv_iconst (v := iI (0)) hx hb dX2_work_94 rfl ?_
                        refine lv_goto (tgt := 149) hx hb dX2_work_95 (by decide) ?_
                        refine lv_istore (lv' := [(12, .int (iI (0))), (11, .ref (ι (r0 * 8 + (7 - p0))).toNat), (10, .int (iI (5))), (9, .int (iI (tw (r0 * 8 + (7 - p0))))), (8, .int (iI (7 - p0))), (7, .int (iI (1))), (6, .int (iI (0))), (0, .ref (d 0)), (1, .int (iI (0))), (2, .int (iI (r0))), (3, .int (iI (p0))), (4, .int (iI (i0))), (5, .int (iI (v0)))]) hx hb dX2_work_149 hl (by decide) rfl (fun ls hl => ?_)
                        refine lv_iload hx hb dX2_work_151 (lv_at hl 0 rfl) ?_
                        refine gi_if_eq (tgt := 309) hx hb dX2_work_153 (by decide) ⟨by decide, by decide⟩ (fun c153 => ?_) (fun c153 => ?_)
                        · skip
                          have ha2 : plA (xPlant σ (r0 * 8 + p0) i0 v0) (r0 * 8 + (7 - p0)) = 0 := bI_f (by omega)
                          have e8 : (xPlant σ (r0 * 8 + p0) i0 v0) = (xPlant (xPlant σ (r0 * 8 + p0) i0 v0) (r0 * 8 + (7 - p0)) i0 v0) := (xPlant_n (by omega)).symm
                          rw [e8] at hP hD
                          have hP : va_P D vwCl (SW cI cT cU d (xPlant (xPlant σ (r0 * 8 + p0) i0 v0) (r0 * 8 + (7 - p0)) i0 v0) ι) H := hP
                          have hD : va_D A (SW cI cT cU d (xPlant (xPlant σ (r0 * 8 + p0) i0 v0) (r0 * 8 + (7 - p0)) i0 v0) ι) := hD
                          refine lv_iinc (v := iI (2)) (lv' := [(7, .int (iI (2))), (12, .int (iI (0))), (11, .ref (ι (r0 * 8 + (7 - p0))).toNat), (10, .int (iI (5))), (9, .int (iI (tw (r0 * 8 + (7 - p0))))), (8, .int (iI (7 - p0))), (6, .int (iI (0))), (0, .ref (d 0)), (1, .int (iI (0))), (2, .int (iI (r0))), (3, .int (iI (p0))), (4, .int (iI (i0))), (5, .int (iI (v0)))]) hx hb dX2_work_309 hl (k := 5) rfl rfl (by decide) rfl (fun ls hl => ?_)
                          refine lv_goto (tgt := 6) hx hb dX2_work_312 (by decide) ?_
                          refine lv_iload hx hb dX2_work_6 (lv_at hl 0 rfl) ?_
                          refine lv_iconst (v := iI (2)) hx hb dX2_work_8 rfl ?_
                          refine gi_icmp_ge (tgt := 315) hx hb dX2_work_9 (by decide) ⟨by decide, by decide⟩ ⟨by decide, by decide⟩ (fun c9 => ?_) (fun c9 => ?_)
                          · skip
                            refine lv_iload hx hb dX2_work_315 (lv_at hl 6 rfl) ?_
                            have ess : (xPlant (xPlant σ (r0 * 8 + p0) i0 v0) (mir (r0 * 8 + p0)) i0 v0) = (xPlant (xPlant σ (r0 * 8 + p0) i0 v0) (r0 * 8 + (7 - p0)) i0 v0) := by rw [em]
                            have hP : va_P D vwCl (SW cI cT cU d (xPlant (xPlant σ (r0 * 8 + p0) i0 v0) (mir (r0 * 8 + p0)) i0 v0) ι) H := by rw [ess]; exact hP
                            have hD : va_D A (SW cI cT cU d (xPlant (xPlant σ (r0 * 8 + p0) i0 v0) (mir (r0 * 8 + p0)) i0 v0) ι) := by rw [ess]; exact hD
                            have er : ((who (plA σ (r0 * 8 + p0)) (plA (xPlant σ (r0 * 8 + p0) i0 v0) (mir (r0 * 8 + p0))) : Int)) = (0) := by rw [em, ha1, ha2]; decide
                            exact g_iret (wo := (fun κ' => SW cI cT cU d (xPlant (xPlant σ (r0 * 8 + p0) i0 v0) (mir (r0 * 8 + p0)) i0 v0) (κ' 2))) (kr := (fun κ' => True)) (rv := (fun _ => some (.int (iI (who (plA σ (r0 * 8 + p0)) (plA (xPlant σ (r0 * 8 + p0) i0 v0) (mir (r0 * 8 + p0)))))))) hx hb hr hlocks (fun _ => ι) rfl hP hK hD hS trivial (by rw [er]) (Nat.le_of_ble_eq_true rfl) (Nat.le_of_ble_eq_true rfl) dX2_work_317
                          · skip
                            omega
                        · skip
                          exact absurd rfl c153
                · skip
                  exact absurd c14 (by decide)
            · skip
              exact absurd rfl c153
