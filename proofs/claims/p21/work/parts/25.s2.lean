set_option maxHeartbeats 4000000 in
set_option maxRecDepth 100000 in
theorem kX2_work_1 (l : Launch) (D : va_G) (cI cZ cT cU cQ : ClassId) (d : Nat → Nat) (σ : St) (ι : Int → Int) (r0 : Int) (p0 : Int) (i0 : Int) (hwf : xWF σ) (hr : 0 ≤ r0 ∧ r0 ≤ 4) (hp : 0 ≤ p0 ∧ p0 ≤ 7) (hi : 1 ≤ i0 ∧ i0 ≤ 9) : gMet l yX2_work wsX2_work ({ frames := 2, cells := 0, slots := 0, locals := 44 } : Room) D (tyA cI cZ cT cU cQ) (SW cI cT cU d σ ι) [.ref (d 0), .int (iI (1)), .int (iI (r0)), .int (iI (p0)), .int (iI (i0)), .int (iI (0))] nst (fun _ => some (.int (iI (who (prA σ (r0 * 8 + p0) i0) (prA (xPrune σ (r0 * 8 + p0) i0) (mir (r0 * 8 + p0)) i0))))) (fun κ' => True) (fun κ' => SW cI cT cU d (xPrune (xPrune σ (r0 * 8 + p0) i0) (mir (r0 * 8 + p0)) i0) (κ' 2)) := by
  refine g_start (cc := cX2_work) (maxL := 13) (ret := (some .int)) (by decide) rfl (Nat.le_of_ble_eq_true rfl) ?_
  intro p e s m args below meth c A ls H locs S hr hlocks hname hP hK hD hA hS hE hl
  have S0 := S
  obtain ⟨hx, hb, hml, hown, hts⟩ := S0
  have hl : lv_has ls 13 [(0, .ref (d 0)), (1, .int (iI (1))), (2, .int (iI (r0))), (3, .int (iI (p0))), (4, .int (iI (i0))), (5, .int (iI (0)))] := hl
  have hinX2 : ∀ w ∈ wsX20, w ∈ wsX2_work := by decide +kernel
  have hinX3 : ∀ w ∈ wsX30, w ∈ wsX2_work := by decide +kernel
  have kt := tw_in (r0 * 8 + p0)
  have kt2 := tw_in (r0 * 8 + (7 - p0))
  have k4 := xWF_4 hwf (r0 * 8 + p0)
  have k5 := xWF_5 hwf (r0 * 8 + p0)
  have k8 := xWF_8 hwf (tw (r0 * 8 + p0))
  have em : mir (r0 * 8 + p0) = r0 * 8 + (7 - p0) := by unfold mir; omega
  refine lv_iconst (v := iI (0)) hx hb dX2_work_0 rfl ?_
  refine lv_istore (lv' := [(6, .int (iI (0))), (0, .ref (d 0)), (1, .int (iI (1))), (2, .int (iI (r0))), (3, .int (iI (p0))), (4, .int (iI (i0))), (5, .int (iI (0)))]) hx hb dX2_work_1 hl (by decide) rfl (fun ls hl => ?_)
  refine lv_iconst (v := iI (0)) hx hb dX2_work_3 rfl ?_
  refine lv_istore (lv' := [(7, .int (iI (0))), (6, .int (iI (0))), (0, .ref (d 0)), (1, .int (iI (1))), (2, .int (iI (r0))), (3, .int (iI (p0))), (4, .int (iI (i0))), (5, .int (iI (0)))]) hx hb dX2_work_4 hl (by decide) rfl (fun ls hl => ?_)
  refine lv_iload hx hb dX2_work_6 (lv_at hl 0 rfl) ?_
  refine lv_iconst (v := iI (2)) hx hb dX2_work_8 rfl ?_
  refine gi_icmp_ge (tgt := 315) hx hb dX2_work_9 (by decide) ⟨by decide, by decide⟩ ⟨by decide, by decide⟩ (fun c9 => ?_) (fun c9 => ?_)
  · skip
    exact absurd c9 (by decide)
  · skip
    refine lv_iload hx hb dX2_work_12 (lv_at hl 0 rfl) ?_
    refine gi_if_ne (tgt := 21) hx hb dX2_work_14 (by decide) ⟨by decide, by decide⟩ (fun c14 => ?_) (fun c14 => ?_)
    · skip
      exact absurd rfl c14
    · skip
      refine lv_iload_n hx hb dX2_work_17 rfl (lv_at hl 5 rfl) ?_
      refine lv_goto (tgt := 25) hx hb dX2_work_18 (by decide) ?_
      refine lv_istore (lv' := [(8, .int (iI (p0))), (7, .int (iI (0))), (6, .int (iI (0))), (0, .ref (d 0)), (1, .int (iI (1))), (2, .int (iI (r0))), (3, .int (iI (p0))), (4, .int (iI (i0))), (5, .int (iI (0)))]) hx hb dX2_work_25 hl (by decide) rfl (fun ls hl => ?_)
      refine lv_iload hx hb dX2_work_27 (lv_at hl 0 rfl) ?_
      refine lv_iconst (v := iI (4)) hx hb dX2_work_29 rfl ?_
      refine g_selGe (u := 0) (v := 1) (t1 := 37) (t2 := 38) hx hb ⟨by omega, by omega⟩ ⟨by decide, by decide⟩ dX2_work_30 (by decide) (fun st h => lv_iconst (v := iI (0)) hx hb dX2_work_33 rfl (lv_goto (tgt := 38) hx hb dX2_work_34 (by decide) h)) (fun st h => lv_iconst (v := iI (1)) hx hb dX2_work_37 rfl h) ?_
      rw [show (if p0 < 4 then (0 : Int) else 1) = tw (r0 * 8 + p0) from by unfold tw; split <;> split <;> omega]
      refine lv_istore (lv' := [(9, .int (iI (tw (r0 * 8 + p0)))), (8, .int (iI (p0))), (7, .int (iI (0))), (6, .int (iI (0))), (0, .ref (d 0)), (1, .int (iI (1))), (2, .int (iI (r0))), (3, .int (iI (p0))), (4, .int (iI (i0))), (5, .int (iI (0)))]) hx hb dX2_work_38 hl (by decide) rfl (fun ls hl => ?_)
      refine lv_iload_n hx hb dX2_work_40 rfl (lv_at hl 5 rfl) ?_
      refine gi_if_ne (tgt := 48) hx hb dX2_work_41 (by decide) ⟨by decide, by decide⟩ (fun c41 => ?_) (fun c41 => ?_)
      · skip
        refine lv_iload_n hx hb dX2_work_48 rfl (lv_at hl 5 rfl) ?_
        refine lv_iconst (v := iI (1)) hx hb dX2_work_49 rfl ?_
        refine gi_icmp_ne (tgt := 57) hx hb dX2_work_50 (by decide) ⟨by decide, by decide⟩ ⟨by decide, by decide⟩ (fun c50 => ?_) (fun c50 => ?_)
        · skip
          exact absurd rfl c50
        · skip
          refine lv_iconst (v := iI (2)) hx hb dX2_work_53 rfl ?_
          refine lv_goto (tgt := 68) hx hb dX2_work_54 (by decide) ?_
          refine lv_istore (lv' := [(10, .int (iI (2))), (9, .int (iI (tw (r0 * 8 + p0)))), (8, .int (iI (p0))), (7, .int (iI (0))), (6, .int (iI (0))), (0, .ref (d 0)), (1, .int (iI (1))), (2, .int (iI (r0))), (3, .int (iI (p0))), (4, .int (iI (i0))), (5, .int (iI (0)))]) hx hb dX2_work_68 hl (by decide) rfl (fun ls hl => ?_)
          refine lv_aload_n hx hb dX2_work_70 rfl (lv_at hl 5 rfl) ?_
          refine va_get (D := D) (ci := 2) (v := .ref (d 1)) (C := RX2) (T := TX2) (N := 8) hx hb hts hinX2 hown hK hP 0 rfl rfl 0 (by decide) (hts (.fieldLink RX2 9 "TwinOrchardLaw$Sim" "trees" "[[LTwinOrchardLaw$Tree;") (List.mem_of_getElem? (i := 1) rfl)) (fun _ h9 => h9) rfl dX2_work_71 ?_
          refine lv_iload_n hx hb dX2_work_74 rfl (lv_at hl 7 rfl) ?_
          refine s_row (f := srt d) hx hb hK hP 1 3 rfl rfl (by omega) (by omega) (by decide) (v := d (r0.toNat + 7)) (if_pos (by omega)) dX2_work_75 ?_
          refine lv_iload hx hb dX2_work_76 (lv_at hl 2 rfl) ?_
          refine s_tree (σ := σ) (ι := ι) (r := r0) (i := p0) hx hb hK hP (r0.toNat + 7) 2 (sw_row (by omega) (by omega)) rfl (by omega) (by omega) dX2_work_78 (fun ct78 => ?_) (fun ct78 => ?_)
          · skip
            refine lv_astoreN (lv' := [(11, .null), (10, .int (iI (2))), (9, .int (iI (tw (r0 * 8 + p0)))), (8, .int (iI (p0))), (7, .int (iI (0))), (6, .int (iI (0))), (0, .ref (d 0)), (1, .int (iI (1))), (2, .int (iI (r0))), (3, .int (iI (p0))), (4, .int (iI (i0))), (5, .int (iI (0)))]) hx hb dX2_work_79 hl (by decide) rfl (fun ls hl => ?_)
            refine lv_iload_n hx hb dX2_work_81 rfl (lv_at hl 7 rfl) ?_
            refine gi_if_ne (tgt := 98) hx hb dX2_work_82 (by decide) ⟨by decide, by decide⟩ (fun c82 => ?_) (fun c82 => ?_)
            · skip
              refine lv_aloadN hx hb dX2_work_98 (lv_at hl 0 rfl) ?_
              refine lv_ifnullN (tgt := 148) hx hb dX2_work_100 (by decide) ?_
              refine lv_iconst (v := iI (0)) hx hb dX2_work_148 rfl ?_
              refine lv_istore (lv' := [(12, .int (iI (0))), (11, .null), (10, .int (iI (2))), (9, .int (iI (tw (r0 * 8 + p0)))), (8, .int (iI (p0))), (7, .int (iI (0))), (6, .int (iI (0))), (0, .ref (d 0)), (1, .int (iI (1))), (2, .int (iI (r0))), (3, .int (iI (p0))), (4, .int (iI (i0))), (5, .int (iI (0)))]) hx hb dX2_work_149 hl (by decide) rfl (fun ls hl => ?_)
              refine lv_iload hx hb dX2_work_151 (lv_at hl 0 rfl) ?_
              refine gi_if_eq (tgt := 309) hx hb dX2_work_153 (by decide) ⟨by decide, by decide⟩ (fun c153 => ?_) (fun c153 => ?_)
              · skip
                have ha1 : prA σ (r0 * 8 + p0) i0 = 0 := bI_f (by omega)
                have e8 : (σ) = (xPrune σ (r0 * 8 + p0) i0) := (xPrune_n (by omega)).symm
                rw [e8] at hP hD
                have hP : va_P D vwCl (SW cI cT cU d (xPrune σ (r0 * 8 + p0) i0) ι) H := hP
                have hD : va_D A (SW cI cT cU d (xPrune σ (r0 * 8 + p0) i0) ι) := hD
                have hwf2 : xWF (xPrune σ (r0 * 8 + p0) i0) := xWF_prune hwf hi.1
                have k4b := xWF_4 hwf2 (r0 * 8 + (7 - p0))
                have k5b := xWF_5 hwf2 (r0 * 8 + (7 - p0))
                have k8b := xWF_8 hwf2 (tw (r0 * 8 + (7 - p0)))
                refine lv_iinc (v := iI (1)) (lv' := [(7, .int (iI (1))), (12, .int (iI (0))), (11, .null), (10, .int (iI (2))), (9, .int (iI (tw (r0 * 8 + p0)))), (8, .int (iI (p0))), (6, .int (iI (0))), (0, .ref (d 0)), (1, .int (iI (1))), (2, .int (iI (r0))), (3, .int (iI (p0))), (4, .int (iI (i0))), (5, .int (iI (0)))]) hx hb dX2_work_309 hl (k := 5) rfl rfl (by decide) rfl (fun ls hl => ?_)
                refine lv_goto (tgt := 6) hx hb dX2_work_312 (by decide) ?_
                refine lv_iload hx hb dX2_work_6 (lv_at hl 0 rfl) ?_
                refine lv_iconst (v := iI (2)) hx hb dX2_work_8 rfl ?_
                refine gi_icmp_ge (tgt := 315) hx hb dX2_work_9 (by decide) ⟨by decide, by decide⟩ ⟨by decide, by decide⟩ (fun c9 => ?_) (fun c9 => ?_)
                · skip
                  exact absurd c9 (by decide)
                · skip
                  refine lv_iload hx hb dX2_work_12 (lv_at hl 0 rfl) ?_
                  refine gi_if_ne (tgt := 21) hx hb dX2_work_14 (by decide) ⟨by decide, by decide⟩ (fun c14 => ?_) (fun c14 => ?_)
                  · skip
                    refine lv_bipush (v := iI (7)) hx hb dX2_work_21 rfl ?_
                    refine lv_iload_n hx hb dX2_work_23 rfl (lv_at hl 10 rfl) ?_
                    refine gi_sub hx hb dX2_work_24 ?_
                    refine lv_istore (lv' := [(8, .int (iI (7 - p0))), (7, .int (iI (1))), (12, .int (iI (0))), (11, .null), (10, .int (iI (2))), (9, .int (iI (tw (r0 * 8 + p0)))), (6, .int (iI (0))), (0, .ref (d 0)), (1, .int (iI (1))), (2, .int (iI (r0))), (3, .int (iI (p0))), (4, .int (iI (i0))), (5, .int (iI (0)))]) hx hb dX2_work_25 hl (by decide) rfl (fun ls hl => ?_)
                    refine lv_iload hx hb dX2_work_27 (lv_at hl 0 rfl) ?_
                    refine lv_iconst (v := iI (4)) hx hb dX2_work_29 rfl ?_
                    refine g_selGe (u := 0) (v := 1) (t1 := 37) (t2 := 38) hx hb ⟨by omega, by omega⟩ ⟨by decide, by decide⟩ dX2_work_30 (by decide) (fun st h => lv_iconst (v := iI (0)) hx hb dX2_work_33 rfl (lv_goto (tgt := 38) hx hb dX2_work_34 (by decide) h)) (fun st h => lv_iconst (v := iI (1)) hx hb dX2_work_37 rfl h) ?_
                    rw [show (if 7 - p0 < 4 then (0 : Int) else 1) = tw (r0 * 8 + (7 - p0)) from by unfold tw; split <;> split <;> omega]
                    refine lv_istore (lv' := [(9, .int (iI (tw (r0 * 8 + (7 - p0))))), (8, .int (iI (7 - p0))), (7, .int (iI (1))), (12, .int (iI (0))), (11, .null), (10, .int (iI (2))), (6, .int (iI (0))), (0, .ref (d 0)), (1, .int (iI (1))), (2, .int (iI (r0))), (3, .int (iI (p0))), (4, .int (iI (i0))), (5, .int (iI (0)))]) hx hb dX2_work_38 hl (by decide) rfl (fun ls hl => ?_)
                    refine lv_iload_n hx hb dX2_work_40 rfl (lv_at hl 8 rfl) ?_
                    refine gi_if_ne (tgt := 48) hx hb dX2_work_41 (by decide) ⟨by decide, by decide⟩ (fun c41 => ?_) (fun c41 => ?_)
                    · skip
                      refine lv_iload_n hx hb dX2_work_48 rfl (lv_at hl 8 rfl) ?_
                      refine lv_iconst (v := iI (1)) hx hb dX2_work_49 rfl ?_
                      refine gi_icmp_ne (tgt := 57) hx hb dX2_work_50 (by decide) ⟨by decide, by decide⟩ ⟨by decide, by decide⟩ (fun c50 => ?_) (fun c50 => ?_)
                      · skip
                        exact absurd rfl c50
                      · skip
                        refine lv_iconst (v := iI (2)) hx hb dX2_work_53 rfl ?_
                        refine lv_goto (tgt := 68) hx hb dX2_work_54 (by decide) ?_
                        refine lv_istore (lv' := [(10, .int (iI (2))), (9, .int (iI (tw (r0 * 8 + (7 - p0))))), (8, .int (iI (7 - p0))), (7, .int (iI (1))), (12, .int (iI (0))), (11, .null), (6, .int (iI (0))), (0, .ref (d 0)), (1, .int (iI (1))), (2, .int (iI (r0))), (3, .int (iI (p0))), (4, .int (iI (i0))), (5, .int (iI (0)))]) hx hb dX2_work_68 hl (by decide) rfl (fun ls hl => ?_)
                        refine lv_aload_n hx hb dX2_work_70 rfl (lv_at hl 7 rfl) ?_
                        refine va_get (D := D) (ci := 2) (v := .ref (d 1)) (C := RX2) (T := TX2) (N := 8) hx hb hts hinX2 hown hK hP 0 rfl rfl 0 (by decide) (hts (.fieldLink RX2 9 "TwinOrchardLaw$Sim" "trees" "[[LTwinOrchardLaw$Tree;") (List.mem_of_getElem? (i := 1) rfl)) (fun _ h9 => h9) rfl dX2_work_71 ?_
                        refine lv_iload_n hx hb dX2_work_74 rfl (lv_at hl 9 rfl) ?_
                        refine s_row (f := srt d) hx hb hK hP 1 3 rfl rfl (by omega) (by omega) (by decide) (v := d (r0.toNat + 7)) (if_pos (by omega)) dX2_work_75 ?_
                        refine lv_iload hx hb dX2_work_76 (lv_at hl 2 rfl) ?_
                        refine s_tree (σ := xPrune σ (r0 * 8 + p0) i0) (ι := ι) (r := r0) (i := 7 - p0) hx hb hK hP (r0.toNat + 7) 2 (sw_row (by omega) (by omega)) rfl (by omega) (by omega) dX2_work_78 (fun ct78 => ?_) (fun ct78 => ?_)
                        · skip
                          refine lv_astoreN (lv' := [(11, .null), (10, .int (iI (2))), (9, .int (iI (tw (r0 * 8 + (7 - p0))))), (8, .int (iI (7 - p0))), (7, .int (iI (1))), (12, .int (iI (0))), (6, .int (iI (0))), (0, .ref (d 0)), (1, .int (iI (1))), (2, .int (iI (r0))), (3, .int (iI (p0))), (4, .int (iI (i0))), (5, .int (iI (0)))]) hx hb dX2_work_79 hl (by decide) rfl (fun ls hl => ?_)
                          refine lv_iload_n hx hb dX2_work_81 rfl (lv_at hl 8 rfl) ?_
                          refine gi_if_ne (tgt := 98) hx hb dX2_work_82 (by decide) ⟨by decide, by decide⟩ (fun c82 => ?_) (fun c82 => ?_)
                          · skip
                            refine lv_aloadN hx hb dX2_work_98 (lv_at hl 0 rfl) ?_
                            refine lv_ifnullN (tgt := 148) hx hb dX2_work_100 (by decide) ?_
                            refine lv_iconst (v := iI (0)) hx hb dX2_work_148 rfl ?_
                            refine lv_istore (lv' := [(12, .int (iI (0))), (11, .null), (10, .int (iI (2))), (9, .int (iI (tw (r0 * 8 + (7 - p0))))), (8, .int (iI (7 - p0))), (7, .int (iI (1))), (6, .int (iI (0))), (0, .ref (d 0)), (1, .int (iI (1))), (2, .int (iI (r0))), (3, .int (iI (p0))), (4, .int (iI (i0))), (5, .int (iI (0)))]) hx hb dX2_work_149 hl (by decide) rfl (fun ls hl => ?_)
                            refine lv_iload hx hb dX2_work_151 (lv_at hl 0 rfl) ?_
                            refine gi_if_eq (tgt := 309) hx hb dX2_work_153 (by decide) ⟨by decide, by decide⟩ (fun c153 => ?_) (fun c153 => ?_)
                            · skip
                              have ha2 : prA (xPrune σ (r0 * 8 + p0) i0) (r0 * 8 + (7 - p0)) i0 = 0 := bI_f (by omega)
                              have e8 : (xPrune σ (r0 * 8 + p0) i0) = (xPrune (xPrune σ (r0 * 8 + p0) i0) (r0 * 8 + (7 - p0)) i0) := (xPrune_n (by omega)).symm
                              rw [e8] at hP hD
                              have hP : va_P D vwCl (SW cI cT cU d (xPrune (xPrune σ (r0 * 8 + p0) i0) (r0 * 8 + (7 - p0)) i0) ι) H := hP
                              have hD : va_D A (SW cI cT cU d (xPrune (xPrune σ (r0 * 8 + p0) i0) (r0 * 8 + (7 - p0)) i0) ι) := hD
                              refine lv_iinc (v := iI (2)) (lv' := [(7, .int (iI (2))), (12, .int (iI (0))), (11, .null), (10, .int (iI (2))), (9, .int (iI (tw (r0 * 8 + (7 - p0))))), (8, .int (iI (7 - p0))), (6, .int (iI (0))), (0, .ref (d 0)), (1, .int (iI (1))), (2, .int (iI (r0))), (3, .int (iI (p0))), (4, .int (iI (i0))), (5, .int (iI (0)))]) hx hb dX2_work_309 hl (k := 5) rfl rfl (by decide) rfl (fun ls hl => ?_)
                              refine lv_goto (tgt := 6) hx hb dX2_work_312 (by decide) ?_
                              refine lv_iload hx hb dX2_work_6 (lv_at hl 0 rfl) ?_
                              refine lv_iconst (v := iI (2)) hx hb dX2_work_8 rfl ?_
                              refine gi_icmp_ge (tgt := 315) hx hb dX2_work_9 (by decide) ⟨by decide, by decide⟩ ⟨by decide, by decide⟩ (fun c9 => ?_) (fun c9 => ?_)
                              · skip
                                refine lv_iload hx hb dX2_work_315 (lv_at hl 6 rfl) ?_
                                have ess : (xPrune (xPrune σ (r0 * 8 + p0) i0) (mir (r0 * 8 + p0)) i0) = (xPrune (xPrune σ (r0 * 8 + p0) i0) (r0 * 8 + (7 - p0)) i0) := by rw [em]
                                have hP : va_P D vwCl (SW cI cT cU d (xPrune (xPrune σ (r0 * 8 + p0) i0) (mir (r0 * 8 + p0)) i0) ι) H := by rw [ess]; exact hP
                                have hD : va_D A (SW cI cT cU d (xPrune (xPrune σ (r0 * 8 + p0) i0) (mir (r0 * 8 + p0)) i0) ι) := by rw [ess]; exact hD
                                have er : ((who (prA σ (r0 * 8 + p0) i0) (prA (xPrune σ (r0 * 8 + p0) i0) (mir (r0 * 8 + p0)) i0) : Int)) = (0) := by rw [em, ha1, ha2]; decide
                                exact g_iret (wo := (fun κ' => SW cI cT cU d (xPrune (xPrune σ (r0 * 8 + p0) i0) (mir (r0 * 8 + p0)) i0) (κ' 2))) (kr := (fun κ' => True)) (rv := (fun _ => some (.int (iI (who (prA σ (r0 * 8 + p0) i0) (prA (xPrune σ (r0 * 8 + p0) i0) (mir (r0 * 8 + p0)) i0)))))) hx hb hr hlocks (fun _ => ι) rfl hP hK hD hS trivial (by rw [er]) (Nat.le_of_ble_eq_true rfl) (Nat.le_of_ble_eq_true rfl) dX2_work_317
                              · skip
                                omega
                            · skip
                              exact absurd rfl c153
                          · skip
                            exact absurd c82 (by decide)
                        · skip
                          refine lv_astore (lv' := [(11, .ref (ι (r0 * 8 + (7 - p0))).toNat), (10, .int (iI (2))), (9, .int (iI (tw (r0 * 8 + (7 - p0))))), (8, .int (iI (7 - p0))), (7, .int (iI (1))), (12, .int (iI (0))), (6, .int (iI (0))), (0, .ref (d 0)), (1, .int (iI (1))), (2, .int (iI (r0))), (3, .int (iI (p0))), (4, .int (iI (i0))), (5, .int (iI (0)))]) hx hb dX2_work_79 hl (by decide) rfl (fun ls hl => ?_)
                          refine lv_iload_n hx hb dX2_work_81 rfl (lv_at hl 8 rfl) ?_
                          refine gi_if_ne (tgt := 98) hx hb dX2_work_82 (by decide) ⟨by decide, by decide⟩ (fun c82 => ?_) (fun c82 => ?_)
                          · skip
                            refine lv_aload hx hb dX2_work_98 (lv_at hl 0 rfl) ?_
                            refine lv_ifnull hx hb dX2_work_100 ?_
                            refine lv_iload_n hx hb dX2_work_103 rfl (lv_at hl 8 rfl) ?_
                            refine lv_iconst (v := iI (1)) hx hb dX2_work_104 rfl ?_
                            refine gi_icmp_ne (tgt := 121) hx hb dX2_work_105 (by decide) ⟨by decide, by decide⟩ ⟨by decide, by decide⟩ (fun c105 => ?_) (fun c105 => ?_)
                            · skip
                              exact absurd rfl c105
                            · skip
                              refine lv_aload hx hb dX2_work_108 (lv_at hl 0 rfl) ?_
                              refine va_get (D := D) (ci := 3) (v := .int (iI ((xPrune σ (r0 * 8 + p0) i0) 5 (r0 * 8 + (7 - p0))))) (C := RX3) (T := TX3) (N := 4) hx hb hts hinX3 hown hK hP (spos (xPrune σ (r0 * 8 + p0) i0) ι (r0 * 8 + (7 - p0))) (sw_at ct78 (by omega) (by omega)) rfl 0 (by decide) (hts (.fieldLink RX2 41 "TwinOrchardLaw$Tree" "branches" "I") (List.mem_of_getElem? (i := 2) rfl)) (fun _ h9 => h9) rfl dX2_work_110 ?_
                              refine lv_iload hx hb dX2_work_113 (lv_at hl 11 rfl) ?_
                              refine gi_icmp_lt (tgt := 148) hx hb dX2_work_115 (by decide) ⟨by omega, by omega⟩ ⟨by omega, by omega⟩ (fun c115 => ?_) (fun c115 => ?_)
                              · skip
                                refine lv_iconst (v := iI (0)) hx hb dX2_work_148 rfl ?_
                                refine lv_istore (lv' := [(12, .int (iI (0))), (11, .ref (ι (r0 * 8 + (7 - p0))).toNat), (10, .int (iI (2))), (9, .int (iI (tw (r0 * 8 + (7 - p0))))), (8, .int (iI (7 - p0))), (7, .int (iI (1))), (6, .int (iI (0))), (0, .ref (d 0)), (1, .int (iI (1))), (2, .int (iI (r0))), (3, .int (iI (p0))), (4, .int (iI (i0))), (5, .int (iI (0)))]) hx hb dX2_work_149 hl (by decide) rfl (fun ls hl => ?_)
                                refine lv_iload hx hb dX2_work_151 (lv_at hl 0 rfl) ?_
                                refine gi_if_eq (tgt := 309) hx hb dX2_work_153 (by decide) ⟨by decide, by decide⟩ (fun c153 => ?_) (fun c153 => ?_)
                                · skip
                                  have ha2 : prA (xPrune σ (r0 * 8 + p0) i0) (r0 * 8 + (7 - p0)) i0 = 0 := bI_f (by omega)
                                  have e8 : (xPrune σ (r0 * 8 + p0) i0) = (xPrune (xPrune σ (r0 * 8 + p0) i0) (r0 * 8 + (7 - p0)) i0) := (xPrune_n (by omega)).symm
                                  rw [e8] at hP hD
                                  have hP : va_P D vwCl (SW cI cT cU d (xPrune (xPrune σ (r0 * 8 + p0) i0) (r0 * 8 + (7 - p0)) i0) ι) H := hP
                                  have hD : va_D A (SW cI cT cU d (xPrune (xPrune σ (r0 * 8 + p0) i0) (r0 * 8 + (7 - p0)) i0) ι) := hD
                                  refine lv_iinc (v := iI (2)) (lv' := [(7, .int (iI (2))), (12, .int (iI (0))), (11, .ref (ι (r0 * 8 + (7 - p0))).toNat), (10, .int (iI (2))), (9, .int (iI (tw (r0 * 8 + (7 - p0))))), (8, .int (iI (7 - p0))), (6, .int (iI (0))), (0, .ref (d 0)), (1, .int (iI (1))), (2, .int (iI (r0))), (3, .int (iI (p0))), (4, .int (iI (i0))), (5, .int (iI (0)))]) hx hb dX2_work_309 hl (k := 5) rfl rfl (by decide) rfl (fun ls hl => ?_)
                                  refine lv_goto (tgt := 6) hx hb dX2_work_312 (by decide) ?_
                                  refine lv_iload hx hb dX2_work_6 (lv_at hl 0 rfl) ?_
                                  refine lv_iconst (v := iI (2)) hx hb dX2_work_8 rfl ?_
                                  refine gi_icmp_ge (tgt := 315) hx hb dX2_work_9 (by decide) ⟨by decide, by decide⟩ ⟨by decide, by decide⟩ (fun c9 => ?_) (fun c9 => ?_)
                                  · skip
                                    refine lv_iload hx hb dX2_work_315 (lv_at hl 6 rfl) ?_
                                    have ess : (xPrune (xPrune σ (r0 * 8 + p0) i0) (mir (r0 * 8 + p0)) i0) = (xPrune (xPrune σ (r0 * 8 + p0) i0) (r0 * 8 + (7 - p0)) i0) := by rw [em]
                                    have hP : va_P D vwCl (SW cI cT cU d (xPrune (xPrune σ (r0 * 8 + p0) i0) (mir (r0 * 8 + p0)) i0) ι) H := by rw [ess]; exact hP
                                    have hD : va_D A (SW cI cT cU d (xPrune (xPrune σ (r0 * 8 + p0) i0) (mir (r0 * 8 + p0)) i0) ι) := by rw [ess]; exact hD
                                    have er : ((who (prA σ (r0 * 8 + p0) i0) (prA (xPrune σ (r0 * 8 + p0) i0) (mir (r0 * 8 + p0)) i0) : Int)) = (0) := by rw [em, ha1, ha2]; decide
                                    exact g_iret (wo := (fun κ' => SW cI cT cU d (xPrune (xPrune σ (r0 * 8 + p0) i0) (mir (r0 * 8 + p0)) i0) (κ' 2))) (kr := (fun κ' => True)) (rv := (fun _ => some (.int (iI (who (prA σ (r0 * 8 + p0) i0) (prA (xPrune σ (r0 * 8 + p0) i0) (mir (r0 * 8 + p0)) i0)))))) hx hb hr hlocks (fun _ => ι) rfl hP hK hD hS trivial (by rw [er]) (Nat.le_of_ble_eq_true rfl) (Nat.le_of_ble_eq_true rfl) dX2_work_317
                                  · skip
                                    omega
                                · skip
                                  exact absurd rfl c153
                              · skip
                                refine lv_goto (tgt := 144) hx hb dX2_work_118 (by decide) ?_
                                refine lv_iconst (v := iI (1)) hx hb dX2_work_144 rfl ?_
                                refine lv_goto (tgt := 149) hx hb dX2_work_145 (by decide) ?_
                                refine lv_istore (lv' := [(12, .int (iI (1))), (11, .ref (ι (r0 * 8 + (7 - p0))).toNat), (10, .int (iI (2))), (9, .int (iI (tw (r0 * 8 + (7 - p0))))), (8, .int (iI (7 - p0))), (7, .int (iI (1))), (6, .int (iI (0))), (0, .ref (d 0)), (1, .int (iI (1))), (2, .int (iI (r0))), (3, .int (iI (p0))), (4, .int (iI (i0))), (5, .int (iI (0)))]) hx hb dX2_work_149 hl (by decide) rfl (fun ls hl => ?_)
                                refine lv_iload hx hb dX2_work_151 (lv_at hl 0 rfl) ?_
                                refine gi_if_eq (tgt := 309) hx hb dX2_work_153 (by decide) ⟨by decide, by decide⟩ (fun c153 => ?_) (fun c153 => ?_)
                                · skip
                                  exact absurd c153 (by decide)
                                · skip
                                  refine lv_aload_n hx hb dX2_work_156 rfl (lv_at hl 7 rfl) ?_
                                  refine va_get (D := D) (ci := 2) (v := .ref (d 6)) (C := RX2) (T := TX2) (N := 8) hx hb hts hinX2 hown hK hP 0 rfl rfl 5 (by decide) (hts (.fieldLink RX2 27 "TwinOrchardLaw$Sim" "strength" "[I") (List.mem_of_getElem? (i := 4) rfl)) (fun _ h9 => h9) rfl dX2_work_157 ?_
                                  refine lv_iload hx hb dX2_work_160 (lv_at hl 3 rfl) ?_
                                  refine gi_iald (a := d 6) (n := 2) (f := (xPrune σ (r0 * 8 + p0) i0) 8) hx hb hK hP 6 0 rfl rfl (by omega) (by omega) (by decide) dX2_work_162 ?_
                                  refine lv_iload hx hb dX2_work_163 (lv_at hl 2 rfl) ?_
                                  refine gi_icmp_ge (tgt := 171) hx hb dX2_work_165 (by decide) ⟨by omega, by omega⟩ ⟨by decide, by decide⟩ (fun c165 => ?_) (fun c165 => ?_)
                                  · skip
                                    refine lv_aload_n hx hb dX2_work_171 rfl (lv_at hl 7 rfl) ?_
                                    refine va_get (D := D) (ci := 2) (v := .ref (d 6)) (C := RX2) (T := TX2) (N := 8) hx hb hts hinX2 hown hK hP 0 rfl rfl 5 (by decide) (hts (.fieldLink RX2 27 "TwinOrchardLaw$Sim" "strength" "[I") (List.mem_of_getElem? (i := 4) rfl)) (fun _ h9 => h9) rfl dX2_work_172 ?_
                                    refine lv_iload hx hb dX2_work_175 (lv_at hl 3 rfl) ?_
                                    refine lv_dup2_11 hx hb dX2_work_177 rfl rfl ?_
                                    refine gi_iald (a := d 6) (n := 2) (f := (xPrune σ (r0 * 8 + p0) i0) 8) hx hb hK hP 6 0 rfl rfl (by omega) (by omega) (by decide) dX2_work_178 ?_
                                    refine lv_iload hx hb dX2_work_179 (lv_at hl 2 rfl) ?_
                                    refine gi_sub hx hb dX2_work_181 ?_
                                    refine gi_iast (a := d 6) (n := 2) (f := (xPrune σ (r0 * 8 + p0) i0) 8) hx hb hK hP hD hS 6 0 rfl rfl (by omega) (by omega) (by decide) dX2_work_182 (fun H locs hP hD hS => ?_)
                                    have hP : va_P D vwCl (SW cI cT cU d (su (xPrune σ (r0 * 8 + p0) i0) 8 (tw (r0 * 8 + (7 - p0))) (((xPrune σ (r0 * 8 + p0) i0) 8 (tw (r0 * 8 + (7 - p0)))) - 2)) ι) H := hP
                                    have hD : va_D A (SW cI cT cU d (su (xPrune σ (r0 * 8 + p0) i0) 8 (tw (r0 * 8 + (7 - p0))) (((xPrune σ (r0 * 8 + p0) i0) 8 (tw (r0 * 8 + (7 - p0)))) - 2)) ι) := hD
                                    refine lv_iload hx hb dX2_work_183 (lv_at hl 6 rfl) ?_
                                    refine lv_iload hx hb dX2_work_185 (lv_at hl 5 rfl) ?_
                                    refine lv_iconst (v := iI (1)) hx hb dX2_work_187 rfl ?_
                                    refine gi_add hx hb dX2_work_188 ?_
                                    refine gi_add hx hb dX2_work_189 ?_
                                    refine lv_istore (lv' := [(6, .int (iI (0 + (1 + 1)))), (12, .int (iI (1))), (11, .ref (ι (r0 * 8 + (7 - p0))).toNat), (10, .int (iI (2))), (9, .int (iI (tw (r0 * 8 + (7 - p0))))), (8, .int (iI (7 - p0))), (7, .int (iI (1))), (0, .ref (d 0)), (1, .int (iI (1))), (2, .int (iI (r0))), (3, .int (iI (p0))), (4, .int (iI (i0))), (5, .int (iI (0)))]) hx hb dX2_work_190 hl (by decide) rfl (fun ls hl => ?_)
                                    refine lv_iload_n hx hb dX2_work_192 rfl (lv_at hl 8 rfl) ?_
                                    refine gi_if_ne (tgt := 233) hx hb dX2_work_193 (by decide) ⟨by decide, by decide⟩ (fun c193 => ?_) (fun c193 => ?_)
                                    · skip
                                      refine lv_iload_n hx hb dX2_work_233 rfl (lv_at hl 8 rfl) ?_
                                      refine lv_iconst (v := iI (1)) hx hb dX2_work_234 rfl ?_
                                      refine gi_icmp_ne (tgt := 259) hx hb dX2_work_235 (by decide) ⟨by decide, by decide⟩ ⟨by decide, by decide⟩ (fun c235 => ?_) (fun c235 => ?_)
                                      · skip
                                        exact absurd rfl c235
                                      · skip
                                        refine lv_aload hx hb dX2_work_238 (lv_at hl 2 rfl) ?_
                                        refine lv_dup hx hb dX2_work_240 rfl ?_
                                        refine va_get (D := D) (ci := 3) (v := .int (iI ((su (xPrune σ (r0 * 8 + p0) i0) 8 (tw (r0 * 8 + (7 - p0))) (((xPrune σ (r0 * 8 + p0) i0) 8 (tw (r0 * 8 + (7 - p0)))) - 2)) 5 (r0 * 8 + (7 - p0))))) (C := RX3) (T := TX3) (N := 4) hx hb hts hinX3 hown hK hP (spos (su (xPrune σ (r0 * 8 + p0) i0) 8 (tw (r0 * 8 + (7 - p0))) (((xPrune σ (r0 * 8 + p0) i0) 8 (tw (r0 * 8 + (7 - p0)))) - 2)) ι (r0 * 8 + (7 - p0))) (sw_at ct78 (by omega) (by omega)) rfl 0 (by decide) (hts (.fieldLink RX2 41 "TwinOrchardLaw$Tree" "branches" "I") (List.mem_of_getElem? (i := 2) rfl)) (fun _ h9 => h9) rfl dX2_work_241 ?_
                                        rw [show ((su (xPrune σ (r0 * 8 + p0) i0) 8 (tw (r0 * 8 + (7 - p0))) (((xPrune σ (r0 * 8 + p0) i0) 8 (tw (r0 * 8 + (7 - p0)))) - 2)) 5 (r0 * 8 + (7 - p0))) = ((xPrune σ (r0 * 8 + p0) i0) 5 (r0 * 8 + (7 - p0))) from by rfl]
                                        refine lv_iload hx hb dX2_work_244 (lv_at hl 11 rfl) ?_
                                        refine gi_sub hx hb dX2_work_246 ?_
                                        refine va_put (D := D) (ci := 3) (v := .int (iI (((xPrune σ (r0 * 8 + p0) i0) 5 (r0 * 8 + (7 - p0))) - i0))) (ty := .int) (C := RX3) (T := TX3) (N := 4) hx hb hts hinX3 tyX3 tyX3_ok nmX3 hown hK hP hD hS (spos (su (xPrune σ (r0 * 8 + p0) i0) 8 (tw (r0 * 8 + (7 - p0))) (((xPrune σ (r0 * 8 + p0) i0) 8 (tw (r0 * 8 + (7 - p0)))) - 2)) ι (r0 * 8 + (7 - p0))) (sw_at ct78 (by omega) (by omega)) rfl 0 (by decide) (hts (.fieldLink RX2 41 "TwinOrchardLaw$Tree" "branches" "I") (List.mem_of_getElem? (i := 2) rfl)) (fun _ h9 => h9) rfl (by decide +kernel) rfl rfl (Nat.le_of_ble_eq_true rfl) dX2_work_247 (fun H locs hP hD hS => ?_)
                                        have hP : va_P D vwCl (SW cI cT cU d (su (su (xPrune σ (r0 * 8 + p0) i0) 8 (tw (r0 * 8 + (7 - p0))) (((xPrune σ (r0 * 8 + p0) i0) 8 (tw (r0 * 8 + (7 - p0)))) - 2)) 5 (r0 * 8 + (7 - p0)) (((xPrune σ (r0 * 8 + p0) i0) 5 (r0 * 8 + (7 - p0))) - i0)) ι) H := va_Pe (sw_put5 (cI := cI) (cT := cT) (cU := cU) (d := d) (σ := su (xPrune σ (r0 * 8 + p0) i0) 8 (tw (r0 * 8 + (7 - p0))) (((xPrune σ (r0 * 8 + p0) i0) 8 (tw (r0 * 8 + (7 - p0)))) - 2)) (ι := ι) (k := r0 * 8 + (7 - p0)) (v := ((xPrune σ (r0 * 8 + p0) i0) 5 (r0 * 8 + (7 - p0))) - i0) ct78 (by omega) (by omega)) hP
                                        have hD : va_D A (SW cI cT cU d (su (su (xPrune σ (r0 * 8 + p0) i0) 8 (tw (r0 * 8 + (7 - p0))) (((xPrune σ (r0 * 8 + p0) i0) 8 (tw (r0 * 8 + (7 - p0)))) - 2)) 5 (r0 * 8 + (7 - p0)) (((xPrune σ (r0 * 8 + p0) i0) 5 (r0 * 8 + (7 - p0))) - i0)) ι) := va_De (sw_put5 (cI := cI) (cT := cT) (cU := cU) (d := d) (σ := su (xPrune σ (r0 * 8 + p0) i0) 8 (tw (r0 * 8 + (7 - p0))) (((xPrune σ (r0 * 8 + p0) i0) 8 (tw (r0 * 8 + (7 - p0)))) - 2)) (ι := ι) (k := r0 * 8 + (7 - p0)) (v := ((xPrune σ (r0 * 8 + p0) i0) 5 (r0 * 8 + (7 - p0))) - i0) ct78 (by omega) (by omega)) hD
                                        refine lv_aload hx hb dX2_work_250 (lv_at hl 2 rfl) ?_
                                        refine lv_iconst (v := iI (0)) hx hb dX2_work_252 rfl ?_
                                        refine va_put (D := D) (ci := 3) (v := .int (iI (0))) (ty := .boolean) (C := RX3) (T := TX3) (N := 4) hx hb hts hinX3 tyX3 tyX3_ok nmX3 hown hK hP hD hS (spos (su (su (xPrune σ (r0 * 8 + p0) i0) 8 (tw (r0 * 8 + (7 - p0))) (((xPrune σ (r0 * 8 + p0) i0) 8 (tw (r0 * 8 + (7 - p0)))) - 2)) 5 (r0 * 8 + (7 - p0)) (((xPrune σ (r0 * 8 + p0) i0) 5 (r0 * 8 + (7 - p0))) - i0)) ι (r0 * 8 + (7 - p0))) (sw_at ct78 (by omega) (by omega)) rfl 3 (by decide) (hts (.fieldLink RX2 51 "TwinOrchardLaw$Tree" "tired" "Z") (List.mem_of_getElem? (i := 9) rfl)) (fun _ h9 => h9) rfl (by decide +kernel) (nar_z (Or.inl rfl)) (fit_z (Or.inl rfl)) (Nat.le_of_ble_eq_true rfl) dX2_work_253 (fun H locs hP hD hS => ?_)
                                        have hP : va_P D vwCl (SW cI cT cU d (su (su (su (xPrune σ (r0 * 8 + p0) i0) 8 (tw (r0 * 8 + (7 - p0))) (((xPrune σ (r0 * 8 + p0) i0) 8 (tw (r0 * 8 + (7 - p0)))) - 2)) 5 (r0 * 8 + (7 - p0)) (((xPrune σ (r0 * 8 + p0) i0) 5 (r0 * 8 + (7 - p0))) - i0)) 7 (r0 * 8 + (7 - p0)) (0)) ι) H := va_Pe (sw_put7 (cI := cI) (cT := cT) (cU := cU) (d := d) (σ := su (su (xPrune σ (r0 * 8 + p0) i0) 8 (tw (r0 * 8 + (7 - p0))) (((xPrune σ (r0 * 8 + p0) i0) 8 (tw (r0 * 8 + (7 - p0)))) - 2)) 5 (r0 * 8 + (7 - p0)) (((xPrune σ (r0 * 8 + p0) i0) 5 (r0 * 8 + (7 - p0))) - i0)) (ι := ι) (k := r0 * 8 + (7 - p0)) (v := 0) ct78 (by omega) (by omega)) hP
                                        have hD : va_D A (SW cI cT cU d (su (su (su (xPrune σ (r0 * 8 + p0) i0) 8 (tw (r0 * 8 + (7 - p0))) (((xPrune σ (r0 * 8 + p0) i0) 8 (tw (r0 * 8 + (7 - p0)))) - 2)) 5 (r0 * 8 + (7 - p0)) (((xPrune σ (r0 * 8 + p0) i0) 5 (r0 * 8 + (7 - p0))) - i0)) 7 (r0 * 8 + (7 - p0)) (0)) ι) := va_De (sw_put7 (cI := cI) (cT := cT) (cU := cU) (d := d) (σ := su (su (xPrune σ (r0 * 8 + p0) i0) 8 (tw (r0 * 8 + (7 - p0))) (((xPrune σ (r0 * 8 + p0) i0) 8 (tw (r0 * 8 + (7 - p0)))) - 2)) 5 (r0 * 8 + (7 - p0)) (((xPrune σ (r0 * 8 + p0) i0) 5 (r0 * 8 + (7 - p0))) - i0)) (ι := ι) (k := r0 * 8 + (7 - p0)) (v := 0) ct78 (by omega) (by omega)) hD
                                        refine lv_goto (tgt := 309) hx hb dX2_work_256 (by decide) ?_
                                        have ha2 : prA (xPrune σ (r0 * 8 + p0) i0) (r0 * 8 + (7 - p0)) i0 = 1 := bI_t (by omega)
                                        have e8 : (su (su (su (xPrune σ (r0 * 8 + p0) i0) 8 (tw (r0 * 8 + (7 - p0))) (((xPrune σ (r0 * 8 + p0) i0) 8 (tw (r0 * 8 + (7 - p0)))) - 2)) 5 (r0 * 8 + (7 - p0)) (((xPrune σ (r0 * 8 + p0) i0) 5 (r0 * 8 + (7 - p0))) - i0)) 7 (r0 * 8 + (7 - p0)) (0)) = (xPrune (xPrune σ (r0 * 8 + p0) i0) (r0 * 8 + (7 - p0)) i0) := (xPrune_y (by omega)).symm
                                        rw [e8] at hP hD
                                        have hP : va_P D vwCl (SW cI cT cU d (xPrune (xPrune σ (r0 * 8 + p0) i0) (r0 * 8 + (7 - p0)) i0) ι) H := hP
                                        have hD : va_D A (SW cI cT cU d (xPrune (xPrune σ (r0 * 8 + p0) i0) (r0 * 8 + (7 - p0)) i0) ι) := hD
                                        refine lv_iinc (v := iI (2)) (lv' := [(7, .int (iI (2))), (6, .int (iI (0 + (1 + 1)))), (12, .int (iI (1))), (11, .ref (ι (r0 * 8 + (7 - p0))).toNat), (10, .int (iI (2))), (9, .int (iI (tw (r0 * 8 + (7 - p0))))), (8, .int (iI (7 - p0))), (0, .ref (d 0)), (1, .int (iI (1))), (2, .int (iI (r0))), (3, .int (iI (p0))), (4, .int (iI (i0))), (5, .int (iI (0)))]) hx hb dX2_work_309 hl (k := 6) rfl rfl (by decide) rfl (fun ls hl => ?_)
                                        refine lv_goto (tgt := 6) hx hb dX2_work_312 (by decide) ?_
                                        refine lv_iload hx hb dX2_work_6 (lv_at hl 0 rfl) ?_
                                        refine lv_iconst (v := iI (2)) hx hb dX2_work_8 rfl ?_
                                        refine gi_icmp_ge (tgt := 315) hx hb dX2_work_9 (by decide) ⟨by decide, by decide⟩ ⟨by decide, by decide⟩ (fun c9 => ?_) (fun c9 => ?_)
                                        · skip
                                          refine lv_iload hx hb dX2_work_315 (lv_at hl 1 rfl) ?_
                                          have ess : (xPrune (xPrune σ (r0 * 8 + p0) i0) (mir (r0 * 8 + p0)) i0) = (xPrune (xPrune σ (r0 * 8 + p0) i0) (r0 * 8 + (7 - p0)) i0) := by rw [em]
                                          have hP : va_P D vwCl (SW cI cT cU d (xPrune (xPrune σ (r0 * 8 + p0) i0) (mir (r0 * 8 + p0)) i0) ι) H := by rw [ess]; exact hP
                                          have hD : va_D A (SW cI cT cU d (xPrune (xPrune σ (r0 * 8 + p0) i0) (mir (r0 * 8 + p0)) i0) ι) := by rw [ess]; exact hD
                                          have er : ((who (prA σ (r0 * 8 + p0) i0) (prA (xPrune σ (r0 * 8 + p0) i0) (mir (r0 * 8 + p0)) i0) : Int)) = (0 + (1 + 1)) := by rw [em, ha1, ha2]; decide
                                          exact g_iret (wo := (fun κ' => SW cI cT cU d (xPrune (xPrune σ (r0 * 8 + p0) i0) (mir (r0 * 8 + p0)) i0) (κ' 2))) (kr := (fun κ' => True)) (rv := (fun _ => some (.int (iI (who (prA σ (r0 * 8 + p0) i0) (prA (xPrune σ (r0 * 8 + p0) i0) (mir (r0 * 8 + p0)) i0)))))) hx hb hr hlocks (fun _ => ι) rfl hP hK hD hS trivial (by rw [er]) (Nat.le_of_ble_eq_true rfl) (Nat.le_of_ble_eq_true rfl) dX2_work_317
                                        · skip
                                          omega
                                    · skip
                                      exact absurd c193 (by decide)
                                  · skip
                                    refine lv_goto (tgt := 309) hx hb dX2_work_168 (by decide) ?_
                                    have ha2 : prA (xPrune σ (r0 * 8 + p0) i0) (r0 * 8 + (7 - p0)) i0 = 0 := bI_f (by omega)
                                    have e8 : (xPrune σ (r0 * 8 + p0) i0) = (xPrune (xPrune σ (r0 * 8 + p0) i0) (r0 * 8 + (7 - p0)) i0) := (xPrune_n (by omega)).symm
                                    rw [e8] at hP hD
                                    have hP : va_P D vwCl (SW cI cT cU d (xPrune (xPrune σ (r0 * 8 + p0) i0) (r0 * 8 + (7 - p0)) i0) ι) H := hP
                                    have hD : va_D A (SW cI cT cU d (xPrune (xPrune σ (r0 * 8 + p0) i0) (r0 * 8 + (7 - p0)) i0) ι) := hD
                                    refine lv_iinc (v := iI (2)) (lv' := [(7, .int (iI (2))), (12, .int (iI (1))), (11, .ref (ι (r0 * 8 + (7 - p0))).toNat), (10, .int (iI (2))), (9, .int (iI (tw (r0 * 8 + (7 - p0))))), (8, .int (iI (7 - p0))), (6, .int (iI (0))), (0, .ref (d 0)), (1, .int (iI (1))), (2, .int (iI (r0))), (3, .int (iI (p0))), (4, .int (iI (i0))), (5, .int (iI (0)))]) hx hb dX2_work_309 hl (k := 5) rfl rfl (by decide) rfl (fun ls hl => ?_)
                                    refine lv_goto (tgt := 6) hx hb dX2_work_312 (by decide) ?_
                                    refine lv_iload hx hb dX2_work_6 (lv_at hl 0 rfl) ?_
                                    refine lv_iconst (v := iI (2)) hx hb dX2_work_8 rfl ?_
                                    refine gi_icmp_ge (tgt := 315) hx hb dX2_work_9 (by decide) ⟨by decide, by decide⟩ ⟨by decide, by decide⟩ (fun c9 => ?_) (fun c9 => ?_)
                                    · skip
                                      refine lv_iload hx hb dX2_work_315 (lv_at hl 6 rfl) ?_
                                      have ess : (xPrune (xPrune σ (r0 * 8 + p0) i0) (mir (r0 * 8 + p0)) i0) = (xPrune (xPrune σ (r0 * 8 + p0) i0) (r0 * 8 + (7 - p0)) i0) := by rw [em]
                                      have hP : va_P D vwCl (SW cI cT cU d (xPrune (xPrune σ (r0 * 8 + p0) i0) (mir (r0 * 8 + p0)) i0) ι) H := by rw [ess]; exact hP
                                      have hD : va_D A (SW cI cT cU d (xPrune (xPrune σ (r0 * 8 + p0) i0) (mir (r0 * 8 + p0)) i0) ι) := by rw [ess]; exact hD
                                      have er : ((who (prA σ (r0 * 8 + p0) i0) (prA (xPrune σ (r0 * 8 + p0) i0) (mir (r0 * 8 + p0)) i0) : Int)) = (0) := by rw [em, ha1, ha2]; decide
                                      exact g_iret (wo := (fun κ' => SW cI cT cU d (xPrune (xPrune σ (r0 * 8 + p0) i0) (mir (r0 * 8 + p0)) i0) (κ' 2))) (kr := (fun κ' => True)) (rv := (fun _ => some (.int (iI (who (prA σ (r0 * 8 + p0) i0) (prA (xPrune σ (r0 * 8 + p0) i0) (mir (r0 * 8 + p0)) i0)))))) hx hb hr hlocks (fun _ => ι) rfl hP hK hD hS trivial (by rw [er]) (Nat.le_of_ble_eq_true rfl) (Nat.le_of_ble_eq_true rfl) dX2_work_317
                                    · skip
                                      omega
                          · skip
                            exact absurd c82 (by decide)
                    · skip
                      exact absurd c41 (by decide)
                  · skip
                    exact absurd c14 (by decide)
              · skip
                exact absurd rfl c153
            · skip
              exact absurd c82 (by decide)
          · skip
            refine lv_astore (lv' := [(11, .ref (ι (r0 * 8 + p0)).toNat), (10, .int (iI (2))), (9, .int (iI (tw (r0 * 8 + p0)))), (8, .int (iI (p0))), (7, .int (iI (0))), (6, .int (iI (0))), (0, .ref (d 0)), (1, .int (iI (1))), (2, .int (iI (r0))), (3, .int (iI (p0))), (4, .int (iI (i0))), (5, .int (iI (0)))]) hx hb dX2_work_79 hl (by decide) rfl (fun ls hl => ?_)
            refine lv_iload_n hx hb dX2_work_81 rfl (lv_at hl 7 rfl) ?_
            refine gi_if_ne (tgt := 98) hx hb dX2_work_82 (by decide) ⟨by decide, by decide⟩ (fun c82 => ?_) (fun c82 => ?_)
            · skip
              refine lv_aload hx hb dX2_work_98 (lv_at hl 0 rfl) ?_
              refine lv_ifnull hx hb dX2_work_100 ?_
              refine lv_iload_n hx hb dX2_work_103 rfl (lv_at hl 7 rfl) ?_
              refine lv_iconst (v := iI (1)) hx hb dX2_work_104 rfl ?_
              refine gi_icmp_ne (tgt := 121) hx hb dX2_work_105 (by decide) ⟨by decide, by decide⟩ ⟨by decide, by decide⟩ (fun c105 => ?_) (fun c105 => ?_)
              · skip
                exact absurd rfl c105
              · skip
                refine lv_aload hx hb dX2_work_108 (lv_at hl 0 rfl) ?_
                refine va_get (D := D) (ci := 3) (v := .int (iI (σ 5 (r0 * 8 + p0)))) (C := RX3) (T := TX3) (N := 4) hx hb hts hinX3 hown hK hP (spos σ ι (r0 * 8 + p0)) (sw_at ct78 (by omega) (by omega)) rfl 0 (by decide) (hts (.fieldLink RX2 41 "TwinOrchardLaw$Tree" "branches" "I") (List.mem_of_getElem? (i := 2) rfl)) (fun _ h9 => h9) rfl dX2_work_110 ?_
                refine lv_iload hx hb dX2_work_113 (lv_at hl 10 rfl) ?_
                refine gi_icmp_lt (tgt := 148) hx hb dX2_work_115 (by decide) ⟨by omega, by omega⟩ ⟨by omega, by omega⟩ (fun c115 => ?_) (fun c115 => ?_)
                · skip
                  refine lv_iconst (v := iI (0)) hx hb dX2_work_148 rfl ?_
                  refine lv_istore (lv' := [(12, .int (iI (0))), (11, .ref (ι (r0 * 8 + p0)).toNat), (10, .int (iI (2))), (9, .int (iI (tw (r0 * 8 + p0)))), (8, .int (iI (p0))), (7, .int (iI (0))), (6, .int (iI (0))), (0, .ref (d 0)), (1, .int (iI (1))), (2, .int (iI (r0))), (3, .int (iI (p0))), (4, .int (iI (i0))), (5, .int (iI (0)))]) hx hb dX2_work_149 hl (by decide) rfl (fun ls hl => ?_)
                  refine lv_iload hx hb dX2_work_151 (lv_at hl 0 rfl) ?_
                  refine gi_if_eq (tgt := 309) hx hb dX2_work_153 (by decide) ⟨by decide, by decide⟩ (fun c153 => ?_) (fun c153 => ?_)
                  · skip
                    have ha1 : prA σ (r0 * 8 + p0) i0 = 0 := bI_f (by omega)
                    have e8 : (σ) = (xPrune σ (r0 * 8 + p0) i0) := (xPrune_n (by omega)).symm
                    rw [e8] at hP hD
                    have hP : va_P D vwCl (SW cI cT cU d (xPrune σ (r0 * 8 + p0) i0) ι) H := hP
                    have hD : va_D A (SW cI cT cU d (xPrune σ (r0 * 8 + p0) i0) ι) := hD
                    have hwf2 : xWF (xPrune σ (r0 * 8 + p0) i0) := xWF_prune hwf hi.1
                    have k4b := xWF_4 hwf2 (r0 * 8 + (7 - p0))
                    have k5b := xWF_5 hwf2 (r0 * 8 + (7 - p0))
                    have k8b := xWF_8 hwf2 (tw (r0 * 8 + (7 - p0)))
                    refine lv_iinc (v := iI (1)) (lv' := [(7, .int (iI (1))), (12, .int (iI (0))), (11, .ref (ι (r0 * 8 + p0)).toNat), (10, .int (iI (2))), (9, .int (iI (tw (r0 * 8 + p0)))), (8, .int (iI (p0))), (6, .int (iI (0))), (0, .ref (d 0)), (1, .int (iI (1))), (2, .int (iI (r0))), (3, .int (iI (p0))), (4, .int (iI (i0))), (5, .int (iI (0)))]) hx hb dX2_work_309 hl (k := 5) rfl rfl (by decide) rfl (fun ls hl => ?_)
                    refine lv_goto (tgt := 6) hx hb dX2_work_312 (by decide) ?_
                    refine lv_iload hx hb dX2_work_6 (lv_at hl 0 rfl) ?_
                    refine lv_iconst (v := iI (2)) hx hb dX2_work_8 rfl ?_
                    refine gi_icmp_ge (tgt := 315) hx hb dX2_work_9 (by decide) ⟨by decide, by decide⟩ ⟨by decide, by decide⟩ (fun c9 => ?_) (fun c9 => ?_)
                    · skip
                      exact absurd c9 (by decide)
                    · skip
                      refine lv_iload hx hb dX2_work_12 (lv_at hl 0 rfl) ?_
                      refine gi_if_ne (tgt := 21) hx hb dX2_work_14 (by decide) ⟨by decide, by decide⟩ (fun c14 => ?_) (fun c14 => ?_)
                      · skip
                        refine lv_bipush (v := iI (7)) hx hb dX2_work_21 rfl ?_
                        refine lv_iload_n hx hb dX2_work_23 rfl (lv_at hl 10 rfl) ?_
                        refine gi_sub hx hb dX2_work_24 ?_
                        refine lv_istore (lv' := [(8, .int (iI (7 - p0))), (7, .int (iI (1))), (12, .int (iI (0))), (11, .ref (ι (r0 * 8 + p0)).toNat), (10, .int (iI (2))), (9, .int (iI (tw (r0 * 8 + p0)))), (6, .int (iI (0))), (0, .ref (d 0)), (1, .int (iI (1))), (2, .int (iI (r0))), (3, .int (iI (p0))), (4, .int (iI (i0))), (5, .int (iI (0)))]) hx hb dX2_work_25 hl (by decide) rfl (fun ls hl => ?_)
                        refine lv_iload hx hb dX2_work_27 (lv_at hl 0 rfl) ?_
                        refine lv_iconst (v := iI (4)) hx hb dX2_work_29 rfl ?_
                        refine g_selGe (u := 0) (v := 1) (t1 := 37) (t2 := 38) hx hb ⟨by omega, by omega⟩ ⟨by decide, by decide⟩ dX2_work_30 (by decide) (fun st h => lv_iconst (v := iI (0)) hx hb dX2_work_33 rfl (lv_goto (tgt := 38) hx hb dX2_work_34 (by decide) h)) (fun st h => lv_iconst (v := iI (1)) hx hb dX2_work_37 rfl h) ?_
                        rw [show (if 7 - p0 < 4 then (0 : Int) else 1) = tw (r0 * 8 + (7 - p0)) from by unfold tw; split <;> split <;> omega]
                        refine lv_istore (lv' := [(9, .int (iI (tw (r0 * 8 + (7 - p0))))), (8, .int (iI (7 - p0))), (7, .int (iI (1))), (12, .int (iI (0))), (11, .ref (ι (r0 * 8 + p0)).toNat), (10, .int (iI (2))), (6, .int (iI (0))), (0, .ref (d 0)), (1, .int (iI (1))), (2, .int (iI (r0))), (3, .int (iI (p0))), (4, .int (iI (i0))), (5, .int (iI (0)))]) hx hb dX2_work_38 hl (by decide) rfl (fun ls hl => ?_)
                        refine lv_iload_n hx hb dX2_work_40 rfl (lv_at hl 8 rfl) ?_
                        refine gi_if_ne (tgt := 48) hx hb dX2_work_41 (by decide) ⟨by decide, by decide⟩ (fun c41 => ?_) (fun c41 => ?_)
                        · skip
                          refine lv_iload_n hx hb dX2_work_48 rfl (lv_at hl 8 rfl) ?_
                          refine lv_iconst (v := iI (1)) hx hb dX2_work_49 rfl ?_
                          refine gi_icmp_ne (tgt := 57) hx hb dX2_work_50 (by decide) ⟨by decide, by decide⟩ ⟨by decide, by decide⟩ (fun c50 => ?_) (fun c50 => ?_)
                          · skip
                            exact absurd rfl c50
                          · skip
                            refine lv_iconst (v := iI (2)) hx hb dX2_work_53 rfl ?_
                            refine lv_goto (tgt := 68) hx hb dX2_work_54 (by decide) ?_
                            refine lv_istore (lv' := [(10, .int (iI (2))), (9, .int (iI (tw (r0 * 8 + (7 - p0))))), (8, .int (iI (7 - p0))), (7, .int (iI (1))), (12, .int (iI (0))), (11, .ref (ι (r0 * 8 + p0)).toNat), (6, .int (iI (0))), (0, .ref (d 0)), (1, .int (iI (1))), (2, .int (iI (r0))), (3, .int (iI (p0))), (4, .int (iI (i0))), (5, .int (iI (0)))]) hx hb dX2_work_68 hl (by decide) rfl (fun ls hl => ?_)
                            refine lv_aload_n hx hb dX2_work_70 rfl (lv_at hl 7 rfl) ?_
                            refine va_get (D := D) (ci := 2) (v := .ref (d 1)) (C := RX2) (T := TX2) (N := 8) hx hb hts hinX2 hown hK hP 0 rfl rfl 0 (by decide) (hts (.fieldLink RX2 9 "TwinOrchardLaw$Sim" "trees" "[[LTwinOrchardLaw$Tree;") (List.mem_of_getElem? (i := 1) rfl)) (fun _ h9 => h9) rfl dX2_work_71 ?_
                            refine lv_iload_n hx hb dX2_work_74 rfl (lv_at hl 9 rfl) ?_
                            refine s_row (f := srt d) hx hb hK hP 1 3 rfl rfl (by omega) (by omega) (by decide) (v := d (r0.toNat + 7)) (if_pos (by omega)) dX2_work_75 ?_
                            refine lv_iload hx hb dX2_work_76 (lv_at hl 2 rfl) ?_
                            refine s_tree (σ := xPrune σ (r0 * 8 + p0) i0) (ι := ι) (r := r0) (i := 7 - p0) hx hb hK hP (r0.toNat + 7) 2 (sw_row (by omega) (by omega)) rfl (by omega) (by omega) dX2_work_78 (fun ct78 => ?_) (fun ct78 => ?_)
                            · skip
                              refine lv_astoreN (lv' := [(11, .null), (10, .int (iI (2))), (9, .int (iI (tw (r0 * 8 + (7 - p0))))), (8, .int (iI (7 - p0))), (7, .int (iI (1))), (12, .int (iI (0))), (6, .int (iI (0))), (0, .ref (d 0)), (1, .int (iI (1))), (2, .int (iI (r0))), (3, .int (iI (p0))), (4, .int (iI (i0))), (5, .int (iI (0)))]) hx hb dX2_work_79 hl (by decide) rfl (fun ls hl => ?_)
                              refine lv_iload_n hx hb dX2_work_81 rfl (lv_at hl 8 rfl) ?_
                              refine gi_if_ne (tgt := 98) hx hb dX2_work_82 (by decide) ⟨by decide, by decide⟩ (fun c82 => ?_) (fun c82 => ?_)
                              · skip
                                refine lv_aloadN hx hb dX2_work_98 (lv_at hl 0 rfl) ?_
                                refine lv_ifnullN (tgt := 148) hx hb dX2_work_100 (by decide) ?_
                                refine lv_iconst (v := iI (0)) hx hb dX2_work_148 rfl ?_
                                refine lv_istore (lv' := [(12, .int (iI (0))), (11, .null), (10, .int (iI (2))), (9, .int (iI (tw (r0 * 8 + (7 - p0))))), (8, .int (iI (7 - p0))), (7, .int (iI (1))), (6, .int (iI (0))), (0, .ref (d 0)), (1, .int (iI (1))), (2, .int (iI (r0))), (3, .int (iI (p0))), (4, .int (iI (i0))), (5, .int (iI (0)))]) hx hb dX2_work_149 hl (by decide) rfl (fun ls hl => ?_)
                                refine lv_iload hx hb dX2_work_151 (lv_at hl 0 rfl) ?_
                                refine gi_if_eq (tgt := 309) hx hb dX2_work_153 (by decide) ⟨by decide, by decide⟩ (fun c153 => ?_) (fun c153 => ?_)
                                · skip
                                  have ha2 : prA (xPrune σ (r0 * 8 + p0) i0) (r0 * 8 + (7 - p0)) i0 = 0 := bI_f (by omega)
                                  have e8 : (xPrune σ (r0 * 8 + p0) i0) = (xPrune (xPrune σ (r0 * 8 + p0) i0) (r0 * 8 + (7 - p0)) i0) := (xPrune_n (by omega)).symm
                                  rw [e8] at hP hD
                                  have hP : va_P D vwCl (SW cI cT cU d (xPrune (xPrune σ (r0 * 8 + p0) i0) (r0 * 8 + (7 - p0)) i0) ι) H := hP
                                  have hD : va_D A (SW cI cT cU d (xPrune (xPrune σ (r0 * 8 + p0) i0) (r0 * 8 + (7 - p0)) i0) ι) := hD
                                  refine lv_iinc (v := iI (2)) (lv' := [(7, .int (iI (2))), (12, .int (iI (0))), (11, .null), (10, .int (iI (2))), (9, .int (iI (tw (r0 * 8 + (7 - p0))))), (8, .int (iI (7 - p0))), (6, .int (iI (0))), (0, .ref (d 0)), (1, .int (iI (1))), (2, .int (iI (r0))), (3, .int (iI (p0))), (4, .int (iI (i0))), (5, .int (iI (0)))]) hx hb dX2_work_309 hl (k := 5) rfl rfl (by decide) rfl (fun ls hl => ?_)
                                  refine lv_goto (tgt := 6) hx hb dX2_work_312 (by decide) ?_
                                  refine lv_iload hx hb dX2_work_6 (lv_at hl 0 rfl) ?_
                                  refine lv_iconst (v := iI (2)) hx hb dX2_work_8 rfl ?_
                                  refine gi_icmp_ge (tgt := 315) hx hb dX2_work_9 (by decide) ⟨by decide, by decide⟩ ⟨by decide, by decide⟩ (fun c9 => ?_) (fun c9 => ?_)
                                  · skip
                                    refine lv_iload hx hb dX2_work_315 (lv_at hl 6 rfl) ?_
                                    have ess : (xPrune (xPrune σ (r0 * 8 + p0) i0) (mir (r0 * 8 + p0)) i0) = (xPrune (xPrune σ (r0 * 8 + p0) i0) (r0 * 8 + (7 - p0)) i0) := by rw [em]
                                    have hP : va_P D vwCl (SW cI cT cU d (xPrune (xPrune σ (r0 * 8 + p0) i0) (mir (r0 * 8 + p0)) i0) ι) H := by rw [ess]; exact hP
                                    have hD : va_D A (SW cI cT cU d (xPrune (xPrune σ (r0 * 8 + p0) i0) (mir (r0 * 8 + p0)) i0) ι) := by rw [ess]; exact hD
                                    have er : ((who (prA σ (r0 * 8 + p0) i0) (prA (xPrune σ (r0 * 8 + p0) i0) (mir (r0 * 8 + p0)) i0) : Int)) = (0) := by rw [em, ha1, ha2]; decide
                                    exact g_iret (wo := (fun κ' => SW cI cT cU d (xPrune (xPrune σ (r0 * 8 + p0) i0) (mir (r0 * 8 + p0)) i0) (κ' 2))) (kr := (fun κ' => True)) (rv := (fun _ => some (.int (iI (who (prA σ (r0 * 8 + p0) i0) (prA (xPrune σ (r0 * 8 + p0) i0) (mir (r0 * 8 + p0)) i0)))))) hx hb hr hlocks (fun _ => ι) rfl hP hK hD hS trivial (by rw [er]) (Nat.le_of_ble_eq_true rfl) (Nat.le_of_ble_eq_true rfl) dX2_work_317
                                  · skip
                                    omega
                                · skip
                                  exact absurd rfl c153
                              · skip
                                exact absurd c82 (by decide)
                            · skip
                              refine lv_astore (lv' := [(11, .ref (ι (r0 * 8 + (7 - p0))).toNat), (10, .int (iI (2))), (9, .int (iI (tw (r0 * 8 + (7 - p0))))), (8, .int (iI (7 - p0))), (7, .int (iI (1))), (12, .int (iI (0))), (6, .int (iI (0))), (0, .ref (d 0)), (1, .int (iI (1))), (2, .int (iI (r0))), (3, .int (iI (p0))), (4, .int (iI (i0))), (5, .int (iI (0)))]) hx hb dX2_work_79 hl (by decide) rfl (fun ls hl => ?_)
                              refine lv_iload_n hx hb dX2_work_81 rfl (lv_at hl 8 rfl) ?_
                              refine gi_if_ne (tgt := 98) hx hb dX2_work_82 (by decide) ⟨by decide, by decide⟩ (fun c82 => ?_) (fun c82 => ?_)
                              · skip
                                refine lv_aload hx hb dX2_work_98 (lv_at hl 0 rfl) ?_
                                refine lv_ifnull hx hb dX2_work_100 ?_
                                refine lv_iload_n hx hb dX2_work_103 rfl (lv_at hl 8 rfl) ?_
                                refine lv_iconst (v := iI (1)) hx hb dX2_work_104 rfl ?_
                                refine gi_icmp_ne (tgt := 121) hx hb dX2_work_105 (by decide) ⟨by decide, by decide⟩ ⟨by decide, by decide⟩ (fun c105 => ?_) (fun c105 => ?_)
                                · skip
                                  exact absurd rfl c105
                                · skip
                                  refine lv_aload hx hb dX2_work_108 (lv_at hl 0 rfl) ?_
                                  refine va_get (D := D) (ci := 3) (v := .int (iI ((xPrune σ (r0 * 8 + p0) i0) 5 (r0 * 8 + (7 - p0))))) (C := RX3) (T := TX3) (N := 4) hx hb hts hinX3 hown hK hP (spos (xPrune σ (r0 * 8 + p0) i0) ι (r0 * 8 + (7 - p0))) (sw_at ct78 (by omega) (by omega)) rfl 0 (by decide) (hts (.fieldLink RX2 41 "TwinOrchardLaw$Tree" "branches" "I") (List.mem_of_getElem? (i := 2) rfl)) (fun _ h9 => h9) rfl dX2_work_110 ?_
                                  refine lv_iload hx hb dX2_work_113 (lv_at hl 11 rfl) ?_
                                  refine gi_icmp_lt (tgt := 148) hx hb dX2_work_115 (by decide) ⟨by omega, by omega⟩ ⟨by omega, by omega⟩ (fun c115 => ?_) (fun c115 => ?_)
                                  · skip
                                    refine lv_iconst (v := iI (0)) hx hb dX2_work_148 rfl ?_
                                    refine lv_istore (lv' := [(12, .int (iI (0))), (11, .ref (ι (r0 * 8 + (7 - p0))).toNat), (10, .int (iI (2))), (9, .int (iI (tw (r0 * 8 + (7 - p0))))), (8, .int (iI (7 - p0))), (7, .int (iI (1))), (6, .int (iI (0))), (0, .ref (d 0)), (1, .int (iI (1))), (2, .int (iI (r0))), (3, .int (iI (p0))), (4, .int (iI (i0))), (5, .int (iI (0)))]) hx hb dX2_work_149 hl (by decide) rfl (fun ls hl => ?_)
                                    refine lv_iload hx hb dX2_work_151 (lv_at hl 0 rfl) ?_
                                    refine gi_if_eq (tgt := 309) hx hb dX2_work_153 (by decide) ⟨by decide, by decide⟩ (fun c153 => ?_) (fun c153 => ?_)
                                    · skip
                                      have ha2 : prA (xPrune σ (r0 * 8 + p0) i0) (r0 * 8 + (7 - p0)) i0 = 0 := bI_f (by omega)
                                      have e8 : (xPrune σ (r0 * 8 + p0) i0) = (xPrune (xPrune σ (r0 * 8 + p0) i0) (r0 * 8 + (7 - p0)) i0) := (xPrune_n (by omega)).symm
                                      rw [e8] at hP hD
                                      have hP : va_P D vwCl (SW cI cT cU d (xPrune (xPrune σ (r0 * 8 + p0) i0) (r0 * 8 + (7 - p0)) i0) ι) H := hP
                                      have hD : va_D A (SW cI cT cU d (xPrune (xPrune σ (r0 * 8 + p0) i0) (r0 * 8 + (7 - p0)) i0) ι) := hD
                                      refine lv_iinc (v := iI (2)) (lv' := [(7, .int (iI (2))), (12, .int (iI (0))), (11, .ref (ι (r0 * 8 + (7 - p0))).toNat), (10, .int (iI (2))), (9, .int (iI (tw (r0 * 8 + (7 - p0))))), (8, .int (iI (7 - p0))), (6, .int (iI (0))), (0, .ref (d 0)), (1, .int (iI (1))), (2, .int (iI (r0))), (3, .int (iI (p0))), (4, .int (iI (i0))), (5, .int (iI (0)))]) hx hb dX2_work_309 hl (k := 5) rfl rfl (by decide) rfl (fun ls hl => ?_)
                                      refine lv_goto (tgt := 6) hx hb dX2_work_312 (by decide) ?_
                                      refine lv_iload hx hb dX2_work_6 (lv_at hl 0 rfl) ?_
                                      refine lv_iconst (v := iI (2)) hx hb dX2_work_8 rfl ?_
                                      refine gi_icmp_ge (tgt := 315) hx hb dX2_work_9 (by decide) ⟨by decide, by decide⟩ ⟨by decide, by decide⟩ (fun c9 => ?_) (fun c9 => ?_)
                                      · skip
                                        refine lv_iload hx hb dX2_work_315 (lv_at hl 6 rfl) ?_
                                        have ess : (xPrune (xPrune σ (r0 * 8 + p0) i0) (mir (r0 * 8 + p0)) i0) = (xPrune (xPrune σ (r0 * 8 + p0) i0) (r0 * 8 + (7 - p0)) i0) := by rw [em]
                                        have hP : va_P D vwCl (SW cI cT cU d (xPrune (xPrune σ (r0 * 8 + p0) i0) (mir (r0 * 8 + p0)) i0) ι) H := by rw [ess]; exact hP
                                        have hD : va_D A (SW cI cT cU d (xPrune (xPrune σ (r0 * 8 + p0) i0) (mir (r0 * 8 + p0)) i0) ι) := by rw [ess]; exact hD
                                        have er : ((who (prA σ (r0 * 8 + p0) i0) (prA (xPrune σ (r0 * 8 + p0) i0) (mir (r0 * 8 + p0)) i0) : Int)) = (0) := by rw [em, ha1, ha2]; decide
                                        exact g_iret (wo := (fun κ' => SW cI cT cU d (xPrune (xPrune σ (r0 * 8 + p0) i0) (mir (r0 * 8 + p0)) i0) (κ' 2))) (kr := (fun κ' => True)) (rv := (fun _ => some (.int (iI (who (prA σ (r0 * 8 + p0) i0) (prA (xPrune σ (r0 * 8 + p0) i0) (mir (r0 * 8 + p0)) i0)))))) hx hb hr hlocks (fun _ => ι) rfl hP hK hD hS trivial (by rw [er]) (Nat.le_of_ble_eq_true rfl) (Nat.le_of_ble_eq_true rfl) dX2_work_317
                                      · skip
                                        omega
                                    · skip
                                      exact absurd rfl c153
                                  · skip
                                    refine lv_goto (tgt := 144) hx hb dX2_work_118 (by decide) ?_
                                    refine lv_iconst (v := iI (1)) hx hb dX2_work_144 rfl ?_
                                    refine lv_goto (tgt := 149) hx hb dX2_work_145 (by decide) ?_
                                    refine lv_istore (lv' := [(12, .int (iI (1))), (11, .ref (ι (r0 * 8 + (7 - p0))).toNat), (10, .int (iI (2))), (9, .int (iI (tw (r0 * 8 + (7 - p0))))), (8, .int (iI (7 - p0))), (7, .int (iI (1))), (6, .int (iI (0))), (0, .ref (d 0)), (1, .int (iI (1))), (2, .int (iI (r0))), (3, .int (iI (p0))), (4, .int (iI (i0))), (5, .int (iI (0)))]) hx hb dX2_work_149 hl (by decide) rfl (fun ls hl => ?_)
                                    refine lv_iload hx hb dX2_work_151 (lv_at hl 0 rfl) ?_
                                    refine gi_if_eq (tgt := 309) hx hb dX2_work_153 (by decide) ⟨by decide, by decide⟩ (fun c153 => ?_) (fun c153 => ?_)
                                    · skip
                                      exact absurd c153 (by decide)
                                    · skip
                                      refine lv_aload_n hx hb dX2_work_156 rfl (lv_at hl 7 rfl) ?_
                                      refine va_get (D := D) (ci := 2) (v := .ref (d 6)) (C := RX2) (T := TX2) (N := 8) hx hb hts hinX2 hown hK hP 0 rfl rfl 5 (by decide) (hts (.fieldLink RX2 27 "TwinOrchardLaw$Sim" "strength" "[I") (List.mem_of_getElem? (i := 4) rfl)) (fun _ h9 => h9) rfl dX2_work_157 ?_
                                      refine lv_iload hx hb dX2_work_160 (lv_at hl 3 rfl) ?_
                                      refine gi_iald (a := d 6) (n := 2) (f := (xPrune σ (r0 * 8 + p0) i0) 8) hx hb hK hP 6 0 rfl rfl (by omega) (by omega) (by decide) dX2_work_162 ?_
                                      refine lv_iload hx hb dX2_work_163 (lv_at hl 2 rfl) ?_
                                      refine gi_icmp_ge (tgt := 171) hx hb dX2_work_165 (by decide) ⟨by omega, by omega⟩ ⟨by decide, by decide⟩ (fun c165 => ?_) (fun c165 => ?_)
                                      · skip
                                        refine lv_aload_n hx hb dX2_work_171 rfl (lv_at hl 7 rfl) ?_
                                        refine va_get (D := D) (ci := 2) (v := .ref (d 6)) (C := RX2) (T := TX2) (N := 8) hx hb hts hinX2 hown hK hP 0 rfl rfl 5 (by decide) (hts (.fieldLink RX2 27 "TwinOrchardLaw$Sim" "strength" "[I") (List.mem_of_getElem? (i := 4) rfl)) (fun _ h9 => h9) rfl dX2_work_172 ?_
                                        refine lv_iload hx hb dX2_work_175 (lv_at hl 3 rfl) ?_
                                        refine lv_dup2_11 hx hb dX2_work_177 rfl rfl ?_
                                        refine gi_iald (a := d 6) (n := 2) (f := (xPrune σ (r0 * 8 + p0) i0) 8) hx hb hK hP 6 0 rfl rfl (by omega) (by omega) (by decide) dX2_work_178 ?_
                                        refine lv_iload hx hb dX2_work_179 (lv_at hl 2 rfl) ?_
                                        refine gi_sub hx hb dX2_work_181 ?_
                                        refine gi_iast (a := d 6) (n := 2) (f := (xPrune σ (r0 * 8 + p0) i0) 8) hx hb hK hP hD hS 6 0 rfl rfl (by omega) (by omega) (by decide) dX2_work_182 (fun H locs hP hD hS => ?_)
                                        have hP : va_P D vwCl (SW cI cT cU d (su (xPrune σ (r0 * 8 + p0) i0) 8 (tw (r0 * 8 + (7 - p0))) (((xPrune σ (r0 * 8 + p0) i0) 8 (tw (r0 * 8 + (7 - p0)))) - 2)) ι) H := hP
                                        have hD : va_D A (SW cI cT cU d (su (xPrune σ (r0 * 8 + p0) i0) 8 (tw (r0 * 8 + (7 - p0))) (((xPrune σ (r0 * 8 + p0) i0) 8 (tw (r0 * 8 + (7 - p0)))) - 2)) ι) := hD
                                        refine lv_iload hx hb dX2_work_183 (lv_at hl 6 rfl) ?_
                                        refine lv_iload hx hb dX2_work_185 (lv_at hl 5 rfl) ?_
                                        refine lv_iconst (v := iI (1)) hx hb dX2_work_187 rfl ?_
                                        refine gi_add hx hb dX2_work_188 ?_
                                        refine gi_add hx hb dX2_work_189 ?_
                                        refine lv_istore (lv' := [(6, .int (iI (0 + (1 + 1)))), (12, .int (iI (1))), (11, .ref (ι (r0 * 8 + (7 - p0))).toNat), (10, .int (iI (2))), (9, .int (iI (tw (r0 * 8 + (7 - p0))))), (8, .int (iI (7 - p0))), (7, .int (iI (1))), (0, .ref (d 0)), (1, .int (iI (1))), (2, .int (iI (r0))), (3, .int (iI (p0))), (4, .int (iI (i0))), (5, .int (iI (0)))]) hx hb dX2_work_190 hl (by decide) rfl (fun ls hl => ?_)
                                        refine lv_iload_n hx hb dX2_work_192 rfl (lv_at hl 8 rfl) ?_
                                        refine gi_if_ne (tgt := 233) hx hb dX2_work_193 (by decide) ⟨by decide, by decide⟩ (fun c193 => ?_) (fun c193 => ?_)
                                        · skip
                                          refine lv_iload_n hx hb dX2_work_233 rfl (lv_at hl 8 rfl) ?_
                                          refine lv_iconst (v := iI (1)) hx hb dX2_work_234 rfl ?_
                                          refine gi_icmp_ne (tgt := 259) hx hb dX2_work_235 (by decide) ⟨by decide, by decide⟩ ⟨by decide, by decide⟩ (fun c235 => ?_) (fun c235 => ?_)
                                          · skip
                                            exact absurd rfl c235
                                          · skip
                                            refine lv_aload hx hb dX2_work_238 (lv_at hl 2 rfl) ?_
                                            refine lv_dup hx hb dX2_work_240 rfl ?_
                                            refine va_get (D := D) (ci := 3) (v := .int (iI ((su (xPrune σ (r0 * 8 + p0) i0) 8 (tw (r0 * 8 + (7 - p0))) (((xPrune σ (r0 * 8 + p0) i0) 8 (tw (r0 * 8 + (7 - p0)))) - 2)) 5 (r0 * 8 + (7 - p0))))) (C := RX3) (T := TX3) (N := 4) hx hb hts hinX3 hown hK hP (spos (su (xPrune σ (r0 * 8 + p0) i0) 8 (tw (r0 * 8 + (7 - p0))) (((xPrune σ (r0 * 8 + p0) i0) 8 (tw (r0 * 8 + (7 - p0)))) - 2)) ι (r0 * 8 + (7 - p0))) (sw_at ct78 (by omega) (by omega)) rfl 0 (by decide) (hts (.fieldLink RX2 41 "TwinOrchardLaw$Tree" "branches" "I") (List.mem_of_getElem? (i := 2) rfl)) (fun _ h9 => h9) rfl dX2_work_241 ?_
                                            rw [show ((su (xPrune σ (r0 * 8 + p0) i0) 8 (tw (r0 * 8 + (7 - p0))) (((xPrune σ (r0 * 8 + p0) i0) 8 (tw (r0 * 8 + (7 - p0)))) - 2)) 5 (r0 * 8 + (7 - p0))) = ((xPrune σ (r0 * 8 + p0) i0) 5 (r0 * 8 + (7 - p0))) from by rfl]
                                            refine lv_iload hx hb dX2_work_244 (lv_at hl 11 rfl) ?_
                                            refine gi_sub hx hb dX2_work_246 ?_
                                            refine va_put (D := D) (ci := 3) (v := .int (iI (((xPrune σ (r0 * 8 + p0) i0) 5 (r0 * 8 + (7 - p0))) - i0))) (ty := .int) (C := RX3) (T := TX3) (N := 4) hx hb hts hinX3 tyX3 tyX3_ok nmX3 hown hK hP hD hS (spos (su (xPrune σ (r0 * 8 + p0) i0) 8 (tw (r0 * 8 + (7 - p0))) (((xPrune σ (r0 * 8 + p0) i0) 8 (tw (r0 * 8 + (7 - p0)))) - 2)) ι (r0 * 8 + (7 - p0))) (sw_at ct78 (by omega) (by omega)) rfl 0 (by decide) (hts (.fieldLink RX2 41 "TwinOrchardLaw$Tree" "branches" "I") (List.mem_of_getElem? (i := 2) rfl)) (fun _ h9 => h9) rfl (by decide +kernel) rfl rfl (Nat.le_of_ble_eq_true rfl) dX2_work_247 (fun H locs hP hD hS => ?_)
                                            have hP : va_P D vwCl (SW cI cT cU d (su (su (xPrune σ (r0 * 8 + p0) i0) 8 (tw (r0 * 8 + (7 - p0))) (((xPrune σ (r0 * 8 + p0) i0) 8 (tw (r0 * 8 + (7 - p0)))) - 2)) 5 (r0 * 8 + (7 - p0)) (((xPrune σ (r0 * 8 + p0) i0) 5 (r0 * 8 + (7 - p0))) - i0)) ι) H := va_Pe (sw_put5 (cI := cI) (cT := cT) (cU := cU) (d := d) (σ := su (xPrune σ (r0 * 8 + p0) i0) 8 (tw (r0 * 8 + (7 - p0))) (((xPrune σ (r0 * 8 + p0) i0) 8 (tw (r0 * 8 + (7 - p0)))) - 2)) (ι := ι) (k := r0 * 8 + (7 - p0)) (v := ((xPrune σ (r0 * 8 + p0) i0) 5 (r0 * 8 + (7 - p0))) - i0) ct78 (by omega) (by omega)) hP
                                            have hD : va_D A (SW cI cT cU d (su (su (xPrune σ (r0 * 8 + p0) i0) 8 (tw (r0 * 8 + (7 - p0))) (((xPrune σ (r0 * 8 + p0) i0) 8 (tw (r0 * 8 + (7 - p0)))) - 2)) 5 (r0 * 8 + (7 - p0)) (((xPrune σ (r0 * 8 + p0) i0) 5 (r0 * 8 + (7 - p0))) - i0)) ι) := va_De (sw_put5 (cI := cI) (cT := cT) (cU := cU) (d := d) (σ := su (xPrune σ (r0 * 8 + p0) i0) 8 (tw (r0 * 8 + (7 - p0))) (((xPrune σ (r0 * 8 + p0) i0) 8 (tw (r0 * 8 + (7 - p0)))) - 2)) (ι := ι) (k := r0 * 8 + (7 - p0)) (v := ((xPrune σ (r0 * 8 + p0) i0) 5 (r0 * 8 + (7 - p0))) - i0) ct78 (by omega) (by omega)) hD
                                            refine lv_aload hx hb dX2_work_250 (lv_at hl 2 rfl) ?_
                                            refine lv_iconst (v := iI (0)) hx hb dX2_work_252 rfl ?_
                                            refine va_put (D := D) (ci := 3) (v := .int (iI (0))) (ty := .boolean) (C := RX3) (T := TX3) (N := 4) hx hb hts hinX3 tyX3 tyX3_ok nmX3 hown hK hP hD hS (spos (su (su (xPrune σ (r0 * 8 + p0) i0) 8 (tw (r0 * 8 + (7 - p0))) (((xPrune σ (r0 * 8 + p0) i0) 8 (tw (r0 * 8 + (7 - p0)))) - 2)) 5 (r0 * 8 + (7 - p0)) (((xPrune σ (r0 * 8 + p0) i0) 5 (r0 * 8 + (7 - p0))) - i0)) ι (r0 * 8 + (7 - p0))) (sw_at ct78 (by omega) (by omega)) rfl 3 (by decide) (hts (.fieldLink RX2 51 "TwinOrchardLaw$Tree" "tired" "Z") (List.mem_of_getElem? (i := 9) rfl)) (fun _ h9 => h9) rfl (by decide +kernel) (nar_z (Or.inl rfl)) (fit_z (Or.inl rfl)) (Nat.le_of_ble_eq_true rfl) dX2_work_253 (fun H locs hP hD hS => ?_)
                                            have hP : va_P D vwCl (SW cI cT cU d (su (su (su (xPrune σ (r0 * 8 + p0) i0) 8 (tw (r0 * 8 + (7 - p0))) (((xPrune σ (r0 * 8 + p0) i0) 8 (tw (r0 * 8 + (7 - p0)))) - 2)) 5 (r0 * 8 + (7 - p0)) (((xPrune σ (r0 * 8 + p0) i0) 5 (r0 * 8 + (7 - p0))) - i0)) 7 (r0 * 8 + (7 - p0)) (0)) ι) H := va_Pe (sw_put7 (cI := cI) (cT := cT) (cU := cU) (d := d) (σ := su (su (xPrune σ (r0 * 8 + p0) i0) 8 (tw (r0 * 8 + (7 - p0))) (((xPrune σ (r0 * 8 + p0) i0) 8 (tw (r0 * 8 + (7 - p0)))) - 2)) 5 (r0 * 8 + (7 - p0)) (((xPrune σ (r0 * 8 + p0) i0) 5 (r0 * 8 + (7 - p0))) - i0)) (ι := ι) (k := r0 * 8 + (7 - p0)) (v := 0) ct78 (by omega) (by omega)) hP
                                            have hD : va_D A (SW cI cT cU d (su (su (su (xPrune σ (r0 * 8 + p0) i0) 8 (tw (r0 * 8 + (7 - p0))) (((xPrune σ (r0 * 8 + p0) i0) 8 (tw (r0 * 8 + (7 - p0)))) - 2)) 5 (r0 * 8 + (7 - p0)) (((xPrune σ (r0 * 8 + p0) i0) 5 (r0 * 8 + (7 - p0))) - i0)) 7 (r0 * 8 + (7 - p0)) (0)) ι) := va_De (sw_put7 (cI := cI) (cT := cT) (cU := cU) (d := d) (σ := su (su (xPrune σ (r0 * 8 + p0) i0) 8 (tw (r0 * 8 + (7 - p0))) (((xPrune σ (r0 * 8 + p0) i0) 8 (tw (r0 * 8 + (7 - p0)))) - 2)) 5 (r0 * 8 + (7 - p0)) (((xPrune σ (r0 * 8 + p0) i0) 5 (r0 * 8 + (7 - p0))) - i0)) (ι := ι) (k := r0 * 8 + (7 - p0)) (v := 0) ct78 (by omega) (by omega)) hD
                                            refine lv_goto (tgt := 309) hx hb dX2_work_256 (by decide) ?_
                                            have ha2 : prA (xPrune σ (r0 * 8 + p0) i0) (r0 * 8 + (7 - p0)) i0 = 1 := bI_t (by omega)
                                            have e8 : (su (su (su (xPrune σ (r0 * 8 + p0) i0) 8 (tw (r0 * 8 + (7 - p0))) (((xPrune σ (r0 * 8 + p0) i0) 8 (tw (r0 * 8 + (7 - p0)))) - 2)) 5 (r0 * 8 + (7 - p0)) (((xPrune σ (r0 * 8 + p0) i0) 5 (r0 * 8 + (7 - p0))) - i0)) 7 (r0 * 8 + (7 - p0)) (0)) = (xPrune (xPrune σ (r0 * 8 + p0) i0) (r0 * 8 + (7 - p0)) i0) := (xPrune_y (by omega)).symm
                                            rw [e8] at hP hD
                                            have hP : va_P D vwCl (SW cI cT cU d (xPrune (xPrune σ (r0 * 8 + p0) i0) (r0 * 8 + (7 - p0)) i0) ι) H := hP
                                            have hD : va_D A (SW cI cT cU d (xPrune (xPrune σ (r0 * 8 + p0) i0) (r0 * 8 + (7 - p0)) i0) ι) := hD
                                            refine lv_iinc (v := iI (2)) (lv' := [(7, .int (iI (2))), (6, .int (iI (0 + (1 + 1)))), (12, .int (iI (1))), (11, .ref (ι (r0 * 8 + (7 - p0))).toNat), (10, .int (iI (2))), (9, .int (iI (tw (r0 * 8 + (7 - p0))))), (8, .int (iI (7 - p0))), (0, .ref (d 0)), (1, .int (iI (1))), (2, .int (iI (r0))), (3, .int (iI (p0))), (4, .int (iI (i0))), (5, .int (iI (0)))]) hx hb dX2_work_309 hl (k := 6) rfl rfl (by decide) rfl (fun ls hl => ?_)
                                            refine lv_goto (tgt := 6) hx hb dX2_work_312 (by decide) ?_
                                            refine lv_iload hx hb dX2_work_6 (lv_at hl 0 rfl) ?_
                                            refine lv_iconst (v := iI (2)) hx hb dX2_work_8 rfl ?_
                                            refine gi_icmp_ge (tgt := 315) hx hb dX2_work_9 (by decide) ⟨by decide, by decide⟩ ⟨by decide, by decide⟩ (fun c9 => ?_) (fun c9 => ?_)
                                            · skip
                                              refine lv_iload hx hb dX2_work_315 (lv_at hl 1 rfl) ?_
                                              have ess : (xPrune (xPrune σ (r0 * 8 + p0) i0) (mir (r0 * 8 + p0)) i0) = (xPrune (xPrune σ (r0 * 8 + p0) i0) (r0 * 8 + (7 - p0)) i0) := by rw [em]
                                              have hP : va_P D vwCl (SW cI cT cU d (xPrune (xPrune σ (r0 * 8 + p0) i0) (mir (r0 * 8 + p0)) i0) ι) H := by rw [ess]; exact hP
                                              have hD : va_D A (SW cI cT cU d (xPrune (xPrune σ (r0 * 8 + p0) i0) (mir (r0 * 8 + p0)) i0) ι) := by rw [ess]; exact hD
                                              have er : ((who (prA σ (r0 * 8 + p0) i0) (prA (xPrune σ (r0 * 8 + p0) i0) (mir (r0 * 8 + p0)) i0) : Int)) = (0 + (1 + 1)) := by rw [em, ha1, ha2]; decide
                                              exact g_iret (wo := (fun κ' => SW cI cT cU d (xPrune (xPrune σ (r0 * 8 + p0) i0) (mir (r0 * 8 + p0)) i0) (κ' 2))) (kr := (fun κ' => True)) (rv := (fun _ => some (.int (iI (who (prA σ (r0 * 8 + p0) i0) (prA (xPrune σ (r0 * 8 + p0) i0) (mir (r0 * 8 + p0)) i0)))))) hx hb hr hlocks (fun _ => ι) rfl hP hK hD hS trivial (by rw [er]) (Nat.le_of_ble_eq_true rfl) (Nat.le_of_ble_eq_true rfl) dX2_work_317
                                            · skip
                                              omega
                                        · skip
                                          exact absurd c193 (by decide)
                                      · skip
                                        refine lv_goto (tgt := 309) hx hb dX2_work_168 (by decide) ?_
                                        have ha2 : prA (xPrune σ (r0 * 8 + p0) i0) (r0 * 8 + (7 - p0)) i0 = 0 := bI_f (by omega)
                                        have e8 : (xPrune σ (r0 * 8 + p0) i0) = (xPrune (xPrune σ (r0 * 8 + p0) i0) (r0 * 8 + (7 - p0)) i0) := (xPrune_n (by omega)).symm
                                        rw [e8] at hP hD
                                        have hP : va_P D vwCl (SW cI cT cU d (xPrune (xPrune σ (r0 * 8 + p0) i0) (r0 * 8 + (7 - p0)) i0) ι) H := hP
                                        have hD : va_D A (SW cI cT cU d (xPrune (xPrune σ (r0 * 8 + p0) i0) (r0 * 8 + (7 - p0)) i0) ι) := hD
                                        refine lv_iinc (v := iI (2)) (lv' := [(7, .int (iI (2))), (12, .int (iI (1))), (11, .ref (ι (r0 * 8 + (7 - p0))).toNat), (10, .int (iI (2))), (9, .int (iI (tw (r0 * 8 + (7 - p0))))), (8, .int (iI (7 - p0))), (6, .int (iI (0))), (0, .ref (d 0)), (1, .int (iI (1))), (2, .int (iI (r0))), (3, .int (iI (p0))), (4, .int (iI (i0))), (5, .int (iI (0)))]) hx hb dX2_work_309 hl (k := 5) rfl rfl (by decide) rfl (fun ls hl => ?_)
                                        refine lv_goto (tgt := 6) hx hb dX2_work_312 (by decide) ?_
                                        refine lv_iload hx hb dX2_work_6 (lv_at hl 0 rfl) ?_
                                        refine lv_iconst (v := iI (2)) hx hb dX2_work_8 rfl ?_
                                        refine gi_icmp_ge (tgt := 315) hx hb dX2_work_9 (by decide) ⟨by decide, by decide⟩ ⟨by decide, by decide⟩ (fun c9 => ?_) (fun c9 => ?_)
                                        · skip
                                          refine lv_iload hx hb dX2_work_315 (lv_at hl 6 rfl) ?_
                                          have ess : (xPrune (xPrune σ (r0 * 8 + p0) i0) (mir (r0 * 8 + p0)) i0) = (xPrune (xPrune σ (r0 * 8 + p0) i0) (r0 * 8 + (7 - p0)) i0) := by rw [em]
                                          have hP : va_P D vwCl (SW cI cT cU d (xPrune (xPrune σ (r0 * 8 + p0) i0) (mir (r0 * 8 + p0)) i0) ι) H := by rw [ess]; exact hP
                                          have hD : va_D A (SW cI cT cU d (xPrune (xPrune σ (r0 * 8 + p0) i0) (mir (r0 * 8 + p0)) i0) ι) := by rw [ess]; exact hD
                                          have er : ((who (prA σ (r0 * 8 + p0) i0) (prA (xPrune σ (r0 * 8 + p0) i0) (mir (r0 * 8 + p0)) i0) : Int)) = (0) := by rw [em, ha1, ha2]; decide
                                          exact g_iret (wo := (fun κ' => SW cI cT cU d (xPrune (xPrune σ (r0 * 8 + p0) i0) (mir (r0 * 8 + p0)) i0) (κ' 2))) (kr := (fun κ' => True)) (rv := (fun _ => some (.int (iI (who (prA σ (r0 * 8 + p0) i0) (prA (xPrune σ (r0 * 8 + p0) i0) (mir (r0 * 8 + p0)) i0)))))) hx hb hr hlocks (fun _ => ι) rfl hP hK hD hS trivial (by rw [er]) (Nat.le_of_ble_eq_true rfl) (Nat.le_of_ble_eq_true rfl) dX2_work_317
                                        · skip
                                          omega
                              · skip
                                exact absurd c82 (by decide)
                        · skip
                          exact absurd c41 (by decide)
                      · skip
                        exact absurd c14 (by decide)
                  · skip
                    exact absurd rfl c153
                · skip
                  refine lv_goto (tgt := 144) hx hb dX2_work_118 (by decide) ?_
                  refine lv_iconst (v := iI (1)) hx hb dX2_work_144 rfl ?_
                  refine lv_goto (tgt := 149) hx hb dX2_work_145 (by decide) ?_
                  refine lv_istore (lv' := [(12, .int (iI (1))), (11, .ref (ι (r0 * 8 + p0)).toNat), (10, .int (iI (2))), (9, .int (iI (tw (r0 * 8 + p0)))), (8, .int (iI (p0))), (7, .int (iI (0))), (6, .int (iI (0))), (0, .ref (d 0)), (1, .int (iI (1))), (2, .int (iI (r0))), (3, .int (iI (p0))), (4, .int (iI (i0))), (5, .int (iI (0)))]) hx hb dX2_work_149 hl (by decide) rfl (fun ls hl => ?_)
                  refine lv_iload hx hb dX2_work_151 (lv_at hl 0 rfl) ?_
                  refine gi_if_eq (tgt := 309) hx hb dX2_work_153 (by decide) ⟨by decide, by decide⟩ (fun c153 => ?_) (fun c153 => ?_)
                  · skip
                    exact absurd c153 (by decide)
                  · skip
                    refine lv_aload_n hx hb dX2_work_156 rfl (lv_at hl 7 rfl) ?_
                    refine va_get (D := D) (ci := 2) (v := .ref (d 6)) (C := RX2) (T := TX2) (N := 8) hx hb hts hinX2 hown hK hP 0 rfl rfl 5 (by decide) (hts (.fieldLink RX2 27 "TwinOrchardLaw$Sim" "strength" "[I") (List.mem_of_getElem? (i := 4) rfl)) (fun _ h9 => h9) rfl dX2_work_157 ?_
                    refine lv_iload hx hb dX2_work_160 (lv_at hl 3 rfl) ?_
                    refine gi_iald (a := d 6) (n := 2) (f := σ 8) hx hb hK hP 6 0 rfl rfl (by omega) (by omega) (by decide) dX2_work_162 ?_
                    refine lv_iload hx hb dX2_work_163 (lv_at hl 2 rfl) ?_
                    refine gi_icmp_ge (tgt := 171) hx hb dX2_work_165 (by decide) ⟨by omega, by omega⟩ ⟨by decide, by decide⟩ (fun c165 => ?_) (fun c165 => ?_)
                    · skip
                      refine lv_aload_n hx hb dX2_work_171 rfl (lv_at hl 7 rfl) ?_
                      refine va_get (D := D) (ci := 2) (v := .ref (d 6)) (C := RX2) (T := TX2) (N := 8) hx hb hts hinX2 hown hK hP 0 rfl rfl 5 (by decide) (hts (.fieldLink RX2 27 "TwinOrchardLaw$Sim" "strength" "[I") (List.mem_of_getElem? (i := 4) rfl)) (fun _ h9 => h9) rfl dX2_work_172 ?_
                      refine lv_iload hx hb dX2_work_175 (lv_at hl 3 rfl) ?_
                      refine lv_dup2_11 hx hb dX2_work_177 rfl rfl ?_
                      refine gi_iald (a := d 6) (n := 2) (f := σ 8) hx hb hK hP 6 0 rfl rfl (by omega) (by omega) (by decide) dX2_work_178 ?_
                      refine lv_iload hx hb dX2_work_179 (lv_at hl 2 rfl) ?_
                      refine gi_sub hx hb dX2_work_181 ?_
                      refine gi_iast (a := d 6) (n := 2) (f := σ 8) hx hb hK hP hD hS 6 0 rfl rfl (by omega) (by omega) (by decide) dX2_work_182 (fun H locs hP hD hS => ?_)
                      have hP : va_P D vwCl (SW cI cT cU d (su σ 8 (tw (r0 * 8 + p0)) ((σ 8 (tw (r0 * 8 + p0))) - 2)) ι) H := hP
                      have hD : va_D A (SW cI cT cU d (su σ 8 (tw (r0 * 8 + p0)) ((σ 8 (tw (r0 * 8 + p0))) - 2)) ι) := hD
                      refine lv_iload hx hb dX2_work_183 (lv_at hl 6 rfl) ?_
                      refine lv_iload hx hb dX2_work_185 (lv_at hl 5 rfl) ?_
                      refine lv_iconst (v := iI (1)) hx hb dX2_work_187 rfl ?_
                      refine gi_add hx hb dX2_work_188 ?_
                      refine gi_add hx hb dX2_work_189 ?_
                      refine lv_istore (lv' := [(6, .int (iI (0 + (0 + 1)))), (12, .int (iI (1))), (11, .ref (ι (r0 * 8 + p0)).toNat), (10, .int (iI (2))), (9, .int (iI (tw (r0 * 8 + p0)))), (8, .int (iI (p0))), (7, .int (iI (0))), (0, .ref (d 0)), (1, .int (iI (1))), (2, .int (iI (r0))), (3, .int (iI (p0))), (4, .int (iI (i0))), (5, .int (iI (0)))]) hx hb dX2_work_190 hl (by decide) rfl (fun ls hl => ?_)
                      refine lv_iload_n hx hb dX2_work_192 rfl (lv_at hl 8 rfl) ?_
                      refine gi_if_ne (tgt := 233) hx hb dX2_work_193 (by decide) ⟨by decide, by decide⟩ (fun c193 => ?_) (fun c193 => ?_)
                      · skip
                        refine lv_iload_n hx hb dX2_work_233 rfl (lv_at hl 8 rfl) ?_
                        refine lv_iconst (v := iI (1)) hx hb dX2_work_234 rfl ?_
                        refine gi_icmp_ne (tgt := 259) hx hb dX2_work_235 (by decide) ⟨by decide, by decide⟩ ⟨by decide, by decide⟩ (fun c235 => ?_) (fun c235 => ?_)
                        · skip
                          exact absurd rfl c235
                        · skip
                          refine lv_aload hx hb dX2_work_238 (lv_at hl 2 rfl) ?_
                          refine lv_dup hx hb dX2_work_240 rfl ?_
                          refine va_get (D := D) (ci := 3) (v := .int (iI ((su σ 8 (tw (r0 * 8 + p0)) ((σ 8 (tw (r0 * 8 + p0))) - 2)) 5 (r0 * 8 + p0)))) (C := RX3) (T := TX3) (N := 4) hx hb hts hinX3 hown hK hP (spos (su σ 8 (tw (r0 * 8 + p0)) ((σ 8 (tw (r0 * 8 + p0))) - 2)) ι (r0 * 8 + p0)) (sw_at ct78 (by omega) (by omega)) rfl 0 (by decide) (hts (.fieldLink RX2 41 "TwinOrchardLaw$Tree" "branches" "I") (List.mem_of_getElem? (i := 2) rfl)) (fun _ h9 => h9) rfl dX2_work_241 ?_
                          rw [show ((su σ 8 (tw (r0 * 8 + p0)) ((σ 8 (tw (r0 * 8 + p0))) - 2)) 5 (r0 * 8 + p0)) = (σ 5 (r0 * 8 + p0)) from by rfl]
                          refine lv_iload hx hb dX2_work_244 (lv_at hl 11 rfl) ?_
                          refine gi_sub hx hb dX2_work_246 ?_
                          refine va_put (D := D) (ci := 3) (v := .int (iI ((σ 5 (r0 * 8 + p0)) - i0))) (ty := .int) (C := RX3) (T := TX3) (N := 4) hx hb hts hinX3 tyX3 tyX3_ok nmX3 hown hK hP hD hS (spos (su σ 8 (tw (r0 * 8 + p0)) ((σ 8 (tw (r0 * 8 + p0))) - 2)) ι (r0 * 8 + p0)) (sw_at ct78 (by omega) (by omega)) rfl 0 (by decide) (hts (.fieldLink RX2 41 "TwinOrchardLaw$Tree" "branches" "I") (List.mem_of_getElem? (i := 2) rfl)) (fun _ h9 => h9) rfl (by decide +kernel) rfl rfl (Nat.le_of_ble_eq_true rfl) dX2_work_247 (fun H locs hP hD hS => ?_)
                          have hP : va_P D vwCl (SW cI cT cU d (su (su σ 8 (tw (r0 * 8 + p0)) ((σ 8 (tw (r0 * 8 + p0))) - 2)) 5 (r0 * 8 + p0) ((σ 5 (r0 * 8 + p0)) - i0)) ι) H := va_Pe (sw_put5 (cI := cI) (cT := cT) (cU := cU) (d := d) (σ := su σ 8 (tw (r0 * 8 + p0)) ((σ 8 (tw (r0 * 8 + p0))) - 2)) (ι := ι) (k := r0 * 8 + p0) (v := (σ 5 (r0 * 8 + p0)) - i0) ct78 (by omega) (by omega)) hP
                          have hD : va_D A (SW cI cT cU d (su (su σ 8 (tw (r0 * 8 + p0)) ((σ 8 (tw (r0 * 8 + p0))) - 2)) 5 (r0 * 8 + p0) ((σ 5 (r0 * 8 + p0)) - i0)) ι) := va_De (sw_put5 (cI := cI) (cT := cT) (cU := cU) (d := d) (σ := su σ 8 (tw (r0 * 8 + p0)) ((σ 8 (tw (r0 * 8 + p0))) - 2)) (ι := ι) (k := r0 * 8 + p0) (v := (σ 5 (r0 * 8 + p0)) - i0) ct78 (by omega) (by omega)) hD
                          refine lv_aload hx hb dX2_work_250 (lv_at hl 2 rfl) ?_
                          refine lv_iconst (v := iI (0)) hx hb dX2_work_252 rfl ?_
                          refine va_put (D := D) (ci := 3) (v := .int (iI (0))) (ty := .boolean) (C := RX3) (T := TX3) (N := 4) hx hb hts hinX3 tyX3 tyX3_ok nmX3 hown hK hP hD hS (spos (su (su σ 8 (tw (r0 * 8 + p0)) ((σ 8 (tw (r0 * 8 + p0))) - 2)) 5 (r0 * 8 + p0) ((σ 5 (r0 * 8 + p0)) - i0)) ι (r0 * 8 + p0)) (sw_at ct78 (by omega) (by omega)) rfl 3 (by decide) (hts (.fieldLink RX2 51 "TwinOrchardLaw$Tree" "tired" "Z") (List.mem_of_getElem? (i := 9) rfl)) (fun _ h9 => h9) rfl (by decide +kernel) (nar_z (Or.inl rfl)) (fit_z (Or.inl rfl)) (Nat.le_of_ble_eq_true rfl) dX2_work_253 (fun H locs hP hD hS => ?_)
                          have hP : va_P D vwCl (SW cI cT cU d (su (su (su σ 8 (tw (r0 * 8 + p0)) ((σ 8 (tw (r0 * 8 + p0))) - 2)) 5 (r0 * 8 + p0) ((σ 5 (r0 * 8 + p0)) - i0)) 7 (r0 * 8 + p0) (0)) ι) H := va_Pe (sw_put7 (cI := cI) (cT := cT) (cU := cU) (d := d) (σ := su (su σ 8 (tw (r0 * 8 + p0)) ((σ 8 (tw (r0 * 8 + p0))) - 2)) 5 (r0 * 8 + p0) ((σ 5 (r0 * 8 + p0)) - i0)) (ι := ι) (k := r0 * 8 + p0) (v := 0) ct78 (by omega) (by omega)) hP
                          have hD : va_D A (SW cI cT cU d (su (su (su σ 8 (tw (r0 * 8 + p0)) ((σ 8 (tw (r0 * 8 + p0))) - 2)) 5 (r0 * 8 + p0) ((σ 5 (r0 * 8 + p0)) - i0)) 7 (r0 * 8 + p0) (0)) ι) := va_De (sw_put7 (cI := cI) (cT := cT) (cU := cU) (d := d) (σ := su (su σ 8 (tw (r0 * 8 + p0)) ((σ 8 (tw (r0 * 8 + p0))) - 2)) 5 (r0 * 8 + p0) ((σ 5 (r0 * 8 + p0)) - i0)) (ι := ι) (k := r0 * 8 + p0) (v := 0) ct78 (by omega) (by omega)) hD
                          refine lv_goto (tgt := 309) hx hb dX2_work_256 (by decide) ?_
                          have ha1 : prA σ (r0 * 8 + p0) i0 = 1 := bI_t (by omega)
                          have e8 : (su (su (su σ 8 (tw (r0 * 8 + p0)) ((σ 8 (tw (r0 * 8 + p0))) - 2)) 5 (r0 * 8 + p0) ((σ 5 (r0 * 8 + p0)) - i0)) 7 (r0 * 8 + p0) (0)) = (xPrune σ (r0 * 8 + p0) i0) := (xPrune_y (by omega)).symm
                          rw [e8] at hP hD
                          have hP : va_P D vwCl (SW cI cT cU d (xPrune σ (r0 * 8 + p0) i0) ι) H := hP
                          have hD : va_D A (SW cI cT cU d (xPrune σ (r0 * 8 + p0) i0) ι) := hD
                          have hwf2 : xWF (xPrune σ (r0 * 8 + p0) i0) := xWF_prune hwf hi.1
                          have k4b := xWF_4 hwf2 (r0 * 8 + (7 - p0))
                          have k5b := xWF_5 hwf2 (r0 * 8 + (7 - p0))
                          have k8b := xWF_8 hwf2 (tw (r0 * 8 + (7 - p0)))
                          refine lv_iinc (v := iI (1)) (lv' := [(7, .int (iI (1))), (6, .int (iI (0 + (0 + 1)))), (12, .int (iI (1))), (11, .ref (ι (r0 * 8 + p0)).toNat), (10, .int (iI (2))), (9, .int (iI (tw (r0 * 8 + p0)))), (8, .int (iI (p0))), (0, .ref (d 0)), (1, .int (iI (1))), (2, .int (iI (r0))), (3, .int (iI (p0))), (4, .int (iI (i0))), (5, .int (iI (0)))]) hx hb dX2_work_309 hl (k := 6) rfl rfl (by decide) rfl (fun ls hl => ?_)
                          refine lv_goto (tgt := 6) hx hb dX2_work_312 (by decide) ?_
                          refine lv_iload hx hb dX2_work_6 (lv_at hl 0 rfl) ?_
                          refine lv_iconst (v := iI (2)) hx hb dX2_work_8 rfl ?_
                          refine gi_icmp_ge (tgt := 315) hx hb dX2_work_9 (by decide) ⟨by decide, by decide⟩ ⟨by decide, by decide⟩ (fun c9 => ?_) (fun c9 => ?_)
                          · skip
                            exact absurd c9 (by decide)
                          · skip
                            refine lv_iload hx hb dX2_work_12 (lv_at hl 0 rfl) ?_
                            refine gi_if_ne (tgt := 21) hx hb dX2_work_14 (by decide) ⟨by decide, by decide⟩ (fun c14 => ?_) (fun c14 => ?_)
                            · skip
                              refine lv_bipush (v := iI (7)) hx hb dX2_work_21 rfl ?_
                              refine lv_iload_n hx hb dX2_work_23 rfl (lv_at hl 10 rfl) ?_
                              refine gi_sub hx hb dX2_work_24 ?_
                              refine lv_istore (lv' := [(8, .int (iI (7 - p0))), (7, .int (iI (1))), (6, .int (iI (0 + (0 + 1)))), (12, .int (iI (1))), (11, .ref (ι (r0 * 8 + p0)).toNat), (10, .int (iI (2))), (9, .int (iI (tw (r0 * 8 + p0)))), (0, .ref (d 0)), (1, .int (iI (1))), (2, .int (iI (r0))), (3, .int (iI (p0))), (4, .int (iI (i0))), (5, .int (iI (0)))]) hx hb dX2_work_25 hl (by decide) rfl (fun ls hl => ?_)
                              refine lv_iload hx hb dX2_work_27 (lv_at hl 0 rfl) ?_
                              refine lv_iconst (v := iI (4)) hx hb dX2_work_29 rfl ?_
                              refine g_selGe (u := 0) (v := 1) (t1 := 37) (t2 := 38) hx hb ⟨by omega, by omega⟩ ⟨by decide, by decide⟩ dX2_work_30 (by decide) (fun st h => lv_iconst (v := iI (0)) hx hb dX2_work_33 rfl (lv_goto (tgt := 38) hx hb dX2_work_34 (by decide) h)) (fun st h => lv_iconst (v := iI (1)) hx hb dX2_work_37 rfl h) ?_
                              rw [show (if 7 - p0 < 4 then (0 : Int) else 1) = tw (r0 * 8 + (7 - p0)) from by unfold tw; split <;> split <;> omega]
                              refine lv_istore (lv' := [(9, .int (iI (tw (r0 * 8 + (7 - p0))))), (8, .int (iI (7 - p0))), (7, .int (iI (1))), (6, .int (iI (0 + (0 + 1)))), (12, .int (iI (1))), (11, .ref (ι (r0 * 8 + p0)).toNat), (10, .int (iI (2))), (0, .ref (d 0)), (1, .int (iI (1))), (2, .int (iI (r0))), (3, .int (iI (p0))), (4, .int (iI (i0))), (5, .int (iI (0)))]) hx hb dX2_work_38 hl (by decide) rfl (fun ls hl => ?_)
                              refine lv_iload_n hx hb dX2_work_40 rfl (lv_at hl 8 rfl) ?_
                              refine gi_if_ne (tgt := 48) hx hb dX2_work_41 (by decide) ⟨by decide, by decide⟩ (fun c41 => ?_) (fun c41 => ?_)
                              · skip
                                refine lv_iload_n hx hb dX2_work_48 rfl (lv_at hl 8 rfl) ?_
                                refine lv_iconst (v := iI (1)) hx hb dX2_work_49 rfl ?_
                                refine gi_icmp_ne (tgt := 57) hx hb dX2_work_50 (by decide) ⟨by decide, by decide⟩ ⟨by decide, by decide⟩ (fun c50 => ?_) (fun c50 => ?_)
                                · skip
                                  exact absurd rfl c50
                                · skip
                                  refine lv_iconst (v := iI (2)) hx hb dX2_work_53 rfl ?_
                                  refine lv_goto (tgt := 68) hx hb dX2_work_54 (by decide) ?_
                                  refine lv_istore (lv' := [(10, .int (iI (2))), (9, .int (iI (tw (r0 * 8 + (7 - p0))))), (8, .int (iI (7 - p0))), (7, .int (iI (1))), (6, .int (iI (0 + (0 + 1)))), (12, .int (iI (1))), (11, .ref (ι (r0 * 8 + p0)).toNat), (0, .ref (d 0)), (1, .int (iI (1))), (2, .int (iI (r0))), (3, .int (iI (p0))), (4, .int (iI (i0))), (5, .int (iI (0)))]) hx hb dX2_work_68 hl (by decide) rfl (fun ls hl => ?_)
                                  refine lv_aload_n hx hb dX2_work_70 rfl (lv_at hl 7 rfl) ?_
                                  refine va_get (D := D) (ci := 2) (v := .ref (d 1)) (C := RX2) (T := TX2) (N := 8) hx hb hts hinX2 hown hK hP 0 rfl rfl 0 (by decide) (hts (.fieldLink RX2 9 "TwinOrchardLaw$Sim" "trees" "[[LTwinOrchardLaw$Tree;") (List.mem_of_getElem? (i := 1) rfl)) (fun _ h9 => h9) rfl dX2_work_71 ?_
                                  refine lv_iload_n hx hb dX2_work_74 rfl (lv_at hl 9 rfl) ?_
                                  refine s_row (f := srt d) hx hb hK hP 1 3 rfl rfl (by omega) (by omega) (by decide) (v := d (r0.toNat + 7)) (if_pos (by omega)) dX2_work_75 ?_
                                  refine lv_iload hx hb dX2_work_76 (lv_at hl 2 rfl) ?_
                                  refine s_tree (σ := xPrune σ (r0 * 8 + p0) i0) (ι := ι) (r := r0) (i := 7 - p0) hx hb hK hP (r0.toNat + 7) 2 (sw_row (by omega) (by omega)) rfl (by omega) (by omega) dX2_work_78 (fun ct78 => ?_) (fun ct78 => ?_)
                                  · skip
                                    refine lv_astoreN (lv' := [(11, .null), (10, .int (iI (2))), (9, .int (iI (tw (r0 * 8 + (7 - p0))))), (8, .int (iI (7 - p0))), (7, .int (iI (1))), (6, .int (iI (0 + (0 + 1)))), (12, .int (iI (1))), (0, .ref (d 0)), (1, .int (iI (1))), (2, .int (iI (r0))), (3, .int (iI (p0))), (4, .int (iI (i0))), (5, .int (iI (0)))]) hx hb dX2_work_79 hl (by decide) rfl (fun ls hl => ?_)
                                    refine lv_iload_n hx hb dX2_work_81 rfl (lv_at hl 8 rfl) ?_
                                    refine gi_if_ne (tgt := 98) hx hb dX2_work_82 (by decide) ⟨by decide, by decide⟩ (fun c82 => ?_) (fun c82 => ?_)
                                    · skip
                                      refine lv_aloadN hx hb dX2_work_98 (lv_at hl 0 rfl) ?_
                                      refine lv_ifnullN (tgt := 148) hx hb dX2_work_100 (by decide) ?_
                                      refine lv_iconst (v := iI (0)) hx hb dX2_work_148 rfl ?_
                                      refine lv_istore (lv' := [(12, .int (iI (0))), (11, .null), (10, .int (iI (2))), (9, .int (iI (tw (r0 * 8 + (7 - p0))))), (8, .int (iI (7 - p0))), (7, .int (iI (1))), (6, .int (iI (0 + (0 + 1)))), (0, .ref (d 0)), (1, .int (iI (1))), (2, .int (iI (r0))), (3, .int (iI (p0))), (4, .int (iI (i0))), (5, .int (iI (0)))]) hx hb dX2_work_149 hl (by decide) rfl (fun ls hl => ?_)
                                      refine lv_iload hx hb dX2_work_151 (lv_at hl 0 rfl) ?_
                                      refine gi_if_eq (tgt := 309) hx hb dX2_work_153 (by decide) ⟨by decide, by decide⟩ (fun c153 => ?_) (fun c153 => ?_)
                                      · skip
                                        have ha2 : prA (xPrune σ (r0 * 8 + p0) i0) (r0 * 8 + (7 - p0)) i0 = 0 := bI_f (by omega)
                                        have e8 : (xPrune σ (r0 * 8 + p0) i0) = (xPrune (xPrune σ (r0 * 8 + p0) i0) (r0 * 8 + (7 - p0)) i0) := (xPrune_n (by omega)).symm
                                        rw [e8] at hP hD
                                        have hP : va_P D vwCl (SW cI cT cU d (xPrune (xPrune σ (r0 * 8 + p0) i0) (r0 * 8 + (7 - p0)) i0) ι) H := hP
                                        have hD : va_D A (SW cI cT cU d (xPrune (xPrune σ (r0 * 8 + p0) i0) (r0 * 8 + (7 - p0)) i0) ι) := hD
                                        refine lv_iinc (v := iI (2)) (lv' := [(7, .int (iI (2))), (12, .int (iI (0))), (11, .null), (10, .int (iI (2))), (9, .int (iI (tw (r0 * 8 + (7 - p0))))), (8, .int (iI (7 - p0))), (6, .int (iI (0 + (0 + 1)))), (0, .ref (d 0)), (1, .int (iI (1))), (2, .int (iI (r0))), (3, .int (iI (p0))), (4, .int (iI (i0))), (5, .int (iI (0)))]) hx hb dX2_work_309 hl (k := 5) rfl rfl (by decide) rfl (fun ls hl => ?_)
                                        refine lv_goto (tgt := 6) hx hb dX2_work_312 (by decide) ?_
                                        refine lv_iload hx hb dX2_work_6 (lv_at hl 0 rfl) ?_
                                        refine lv_iconst (v := iI (2)) hx hb dX2_work_8 rfl ?_
                                        refine gi_icmp_ge (tgt := 315) hx hb dX2_work_9 (by decide) ⟨by decide, by decide⟩ ⟨by decide, by decide⟩ (fun c9 => ?_) (fun c9 => ?_)
                                        · skip
                                          refine lv_iload hx hb dX2_work_315 (lv_at hl 6 rfl) ?_
                                          have ess : (xPrune (xPrune σ (r0 * 8 + p0) i0) (mir (r0 * 8 + p0)) i0) = (xPrune (xPrune σ (r0 * 8 + p0) i0) (r0 * 8 + (7 - p0)) i0) := by rw [em]
                                          have hP : va_P D vwCl (SW cI cT cU d (xPrune (xPrune σ (r0 * 8 + p0) i0) (mir (r0 * 8 + p0)) i0) ι) H := by rw [ess]; exact hP
                                          have hD : va_D A (SW cI cT cU d (xPrune (xPrune σ (r0 * 8 + p0) i0) (mir (r0 * 8 + p0)) i0) ι) := by rw [ess]; exact hD
                                          have er : ((who (prA σ (r0 * 8 + p0) i0) (prA (xPrune σ (r0 * 8 + p0) i0) (mir (r0 * 8 + p0)) i0) : Int)) = (0 + (0 + 1)) := by rw [em, ha1, ha2]; decide
                                          exact g_iret (wo := (fun κ' => SW cI cT cU d (xPrune (xPrune σ (r0 * 8 + p0) i0) (mir (r0 * 8 + p0)) i0) (κ' 2))) (kr := (fun κ' => True)) (rv := (fun _ => some (.int (iI (who (prA σ (r0 * 8 + p0) i0) (prA (xPrune σ (r0 * 8 + p0) i0) (mir (r0 * 8 + p0)) i0)))))) hx hb hr hlocks (fun _ => ι) rfl hP hK hD hS trivial (by rw [er]) (Nat.le_of_ble_eq_true rfl) (Nat.le_of_ble_eq_true rfl) dX2_work_317
                                        · skip
                                          omega
                                      · skip
                                        exact absurd rfl c153
                                    · skip
                                      exact absurd c82 (by decide)
                                  · skip
                                    refine lv_astore (lv' := [(11, .ref (ι (r0 * 8 + (7 - p0))).toNat), (10, .int (iI (2))), (9, .int (iI (tw (r0 * 8 + (7 - p0))))), (8, .int (iI (7 - p0))), (7, .int (iI (1))), (6, .int (iI (0 + (0 + 1)))), (12, .int (iI (1))), (0, .ref (d 0)), (1, .int (iI (1))), (2, .int (iI (r0))), (3, .int (iI (p0))), (4, .int (iI (i0))), (5, .int (iI (0)))]) hx hb dX2_work_79 hl (by decide) rfl (fun ls hl => ?_)
                                    refine lv_iload_n hx hb dX2_work_81 rfl (lv_at hl 8 rfl) ?_
                                    refine gi_if_ne (tgt := 98) hx hb dX2_work_82 (by decide) ⟨by decide, by decide⟩ (fun c82 => ?_) (fun c82 => ?_)
                                    · skip
                                      refine lv_aload hx hb dX2_work_98 (lv_at hl 0 rfl) ?_
                                      refine lv_ifnull hx hb dX2_work_100 ?_
                                      refine lv_iload_n hx hb dX2_work_103 rfl (lv_at hl 8 rfl) ?_
                                      refine lv_iconst (v := iI (1)) hx hb dX2_work_104 rfl ?_
                                      refine gi_icmp_ne (tgt := 121) hx hb dX2_work_105 (by decide) ⟨by decide, by decide⟩ ⟨by decide, by decide⟩ (fun c105 => ?_) (fun c105 => ?_)
                                      · skip
                                        exact absurd rfl c105
                                      · skip
                                        refine lv_aload hx hb dX2_work_108 (lv_at hl 0 rfl) ?_
                                        refine va_get (D := D) (ci := 3) (v := .int (iI ((xPrune σ (r0 * 8 + p0) i0) 5 (r0 * 8 + (7 - p0))))) (C := RX3) (T := TX3) (N := 4) hx hb hts hinX3 hown hK hP (spos (xPrune σ (r0 * 8 + p0) i0) ι (r0 * 8 + (7 - p0))) (sw_at ct78 (by omega) (by omega)) rfl 0 (by decide) (hts (.fieldLink RX2 41 "TwinOrchardLaw$Tree" "branches" "I") (List.mem_of_getElem? (i := 2) rfl)) (fun _ h9 => h9) rfl dX2_work_110 ?_
                                        refine lv_iload hx hb dX2_work_113 (lv_at hl 11 rfl) ?_
                                        refine gi_icmp_lt (tgt := 148) hx hb dX2_work_115 (by decide) ⟨by omega, by omega⟩ ⟨by omega, by omega⟩ (fun c115 => ?_) (fun c115 => ?_)
                                        · skip
                                          refine lv_iconst (v := iI (0)) hx hb dX2_work_148 rfl ?_
                                          refine lv_istore (lv' := [(12, .int (iI (0))), (11, .ref (ι (r0 * 8 + (7 - p0))).toNat), (10, .int (iI (2))), (9, .int (iI (tw (r0 * 8 + (7 - p0))))), (8, .int (iI (7 - p0))), (7, .int (iI (1))), (6, .int (iI (0 + (0 + 1)))), (0, .ref (d 0)), (1, .int (iI (1))), (2, .int (iI (r0))), (3, .int (iI (p0))), (4, .int (iI (i0))), (5, .int (iI (0)))]) hx hb dX2_work_149 hl (by decide) rfl (fun ls hl => ?_)
                                          refine lv_iload hx hb dX2_work_151 (lv_at hl 0 rfl) ?_
                                          refine gi_if_eq (tgt := 309) hx hb dX2_work_153 (by decide) ⟨by decide, by decide⟩ (fun c153 => ?_) (fun c153 => ?_)
                                          · skip
                                            have ha2 : prA (xPrune σ (r0 * 8 + p0) i0) (r0 * 8 + (7 - p0)) i0 = 0 := bI_f (by omega)
                                            have e8 : (xPrune σ (r0 * 8 + p0) i0) = (xPrune (xPrune σ (r0 * 8 + p0) i0) (r0 * 8 + (7 - p0)) i0) := (xPrune_n (by omega)).symm
                                            rw [e8] at hP hD
                                            have hP : va_P D vwCl (SW cI cT cU d (xPrune (xPrune σ (r0 * 8 + p0) i0) (r0 * 8 + (7 - p0)) i0) ι) H := hP
                                            have hD : va_D A (SW cI cT cU d (xPrune (xPrune σ (r0 * 8 + p0) i0) (r0 * 8 + (7 - p0)) i0) ι) := hD
                                            refine lv_iinc (v := iI (2)) (lv' := [(7, .int (iI (2))), (12, .int (iI (0))), (11, .ref (ι (r0 * 8 + (7 - p0))).toNat), (10, .int (iI (2))), (9, .int (iI (tw (r0 * 8 + (7 - p0))))), (8, .int (iI (7 - p0))), (6, .int (iI (0 + (0 + 1)))), (0, .ref (d 0)), (1, .int (iI (1))), (2, .int (iI (r0))), (3, .int (iI (p0))), (4, .int (iI (i0))), (5, .int (iI (0)))]) hx hb dX2_work_309 hl (k := 5) rfl rfl (by decide) rfl (fun ls hl => ?_)
                                            refine lv_goto (tgt := 6) hx hb dX2_work_312 (by decide) ?_
                                            refine lv_iload hx hb dX2_work_6 (lv_at hl 0 rfl) ?_
                                            refine lv_iconst (v := iI (2)) hx hb dX2_work_8 rfl ?_
                                            refine gi_icmp_ge (tgt := 315) hx hb dX2_work_9 (by decide) ⟨by decide, by decide⟩ ⟨by decide, by decide⟩ (fun c9 => ?_) (fun c9 => ?_)
                                            · skip
                                              refine lv_iload hx hb dX2_work_315 (lv_at hl 6 rfl) ?_
                                              have ess : (xPrune (xPrune σ (r0 * 8 + p0) i0) (mir (r0 * 8 + p0)) i0) = (xPrune (xPrune σ (r0 * 8 + p0) i0) (r0 * 8 + (7 - p0)) i0) := by rw [em]
                                              have hP : va_P D vwCl (SW cI cT cU d (xPrune (xPrune σ (r0 * 8 + p0) i0) (mir (r0 * 8 + p0)) i0) ι) H := by rw [ess]; exact hP
                                              have hD : va_D A (SW cI cT cU d (xPrune (xPrune σ (r0 * 8 + p0) i0) (mir (r0 * 8 + p0)) i0) ι) := by rw [ess]; exact hD
                                              have er : ((who (prA σ (r0 * 8 + p0) i0) (prA (xPrune σ (r0 * 8 + p0) i0) (mir (r0 * 8 + p0)) i0) : Int)) = (0 + (0 + 1)) := by rw [em, ha1, ha2]; decide
                                              exact g_iret (wo := (fun κ' => SW cI cT cU d (xPrune (xPrune σ (r0 * 8 + p0) i0) (mir (r0 * 8 + p0)) i0) (κ' 2))) (kr := (fun κ' => True)) (rv := (fun _ => some (.int (iI (who (prA σ (r0 * 8 + p0) i0) (prA (xPrune σ (r0 * 8 + p0) i0) (mir (r0 * 8 + p0)) i0)))))) hx hb hr hlocks (fun _ => ι) rfl hP hK hD hS trivial (by rw [er]) (Nat.le_of_ble_eq_true rfl) (Nat.le_of_ble_eq_true rfl) dX2_work_317
                                            · skip
                                              omega
                                          · skip
                                            exact absurd rfl c153
                                        · skip
                                          refine lv_goto (tgt := 144) hx hb dX2_work_118 (by decide) ?_
                                          refine lv_iconst (v := iI (1)) hx hb dX2_work_144 rfl ?_
                                          refine lv_goto (tgt := 149) hx hb dX2_work_145 (by decide) ?_
                                          refine lv_istore (lv' := [(12, .int (iI (1))), (11, .ref (ι (r0 * 8 + (7 - p0))).toNat), (10, .int (iI (2))), (9, .int (iI (tw (r0 * 8 + (7 - p0))))), (8, .int (iI (7 - p0))), (7, .int (iI (1))), (6, .int (iI (0 + (0 + 1)))), (0, .ref (d 0)), (1, .int (iI (1))), (2, .int (iI (r0))), (3, .int (iI (p0))), (4, .int (iI (i0))), (5, .int (iI (0)))]) hx hb dX2_work_149 hl (by decide) rfl (fun ls hl => ?_)
                                          refine lv_iload hx hb dX2_work_151 (lv_at hl 0 rfl) ?_
                                          refine gi_if_eq (tgt := 309) hx hb dX2_work_153 (by decide) ⟨by decide, by decide⟩ (fun c153 => ?_) (fun c153 => ?_)
                                          · skip
                                            exact absurd c153 (by decide)
                                          · skip
                                            refine lv_aload_n hx hb dX2_work_156 rfl (lv_at hl 7 rfl) ?_
                                            refine va_get (D := D) (ci := 2) (v := .ref (d 6)) (C := RX2) (T := TX2) (N := 8) hx hb hts hinX2 hown hK hP 0 rfl rfl 5 (by decide) (hts (.fieldLink RX2 27 "TwinOrchardLaw$Sim" "strength" "[I") (List.mem_of_getElem? (i := 4) rfl)) (fun _ h9 => h9) rfl dX2_work_157 ?_
                                            refine lv_iload hx hb dX2_work_160 (lv_at hl 3 rfl) ?_
                                            refine gi_iald (a := d 6) (n := 2) (f := (xPrune σ (r0 * 8 + p0) i0) 8) hx hb hK hP 6 0 rfl rfl (by omega) (by omega) (by decide) dX2_work_162 ?_
                                            refine lv_iload hx hb dX2_work_163 (lv_at hl 2 rfl) ?_
                                            refine gi_icmp_ge (tgt := 171) hx hb dX2_work_165 (by decide) ⟨by omega, by omega⟩ ⟨by decide, by decide⟩ (fun c165 => ?_) (fun c165 => ?_)
                                            · skip
                                              refine lv_aload_n hx hb dX2_work_171 rfl (lv_at hl 7 rfl) ?_
                                              refine va_get (D := D) (ci := 2) (v := .ref (d 6)) (C := RX2) (T := TX2) (N := 8) hx hb hts hinX2 hown hK hP 0 rfl rfl 5 (by decide) (hts (.fieldLink RX2 27 "TwinOrchardLaw$Sim" "strength" "[I") (List.mem_of_getElem? (i := 4) rfl)) (fun _ h9 => h9) rfl dX2_work_172 ?_
                                              refine lv_iload hx hb dX2_work_175 (lv_at hl 3 rfl) ?_
                                              refine lv_dup2_11 hx hb dX2_work_177 rfl rfl ?_
                                              refine gi_iald (a := d 6) (n := 2) (f := (xPrune σ (r0 * 8 + p0) i0) 8) hx hb hK hP 6 0 rfl rfl (by omega) (by omega) (by decide) dX2_work_178 ?_
                                              refine lv_iload hx hb dX2_work_179 (lv_at hl 2 rfl) ?_
                                              refine gi_sub hx hb dX2_work_181 ?_
                                              refine gi_iast (a := d 6) (n := 2) (f := (xPrune σ (r0 * 8 + p0) i0) 8) hx hb hK hP hD hS 6 0 rfl rfl (by omega) (by omega) (by decide) dX2_work_182 (fun H locs hP hD hS => ?_)
                                              have hP : va_P D vwCl (SW cI cT cU d (su (xPrune σ (r0 * 8 + p0) i0) 8 (tw (r0 * 8 + (7 - p0))) (((xPrune σ (r0 * 8 + p0) i0) 8 (tw (r0 * 8 + (7 - p0)))) - 2)) ι) H := hP
                                              have hD : va_D A (SW cI cT cU d (su (xPrune σ (r0 * 8 + p0) i0) 8 (tw (r0 * 8 + (7 - p0))) (((xPrune σ (r0 * 8 + p0) i0) 8 (tw (r0 * 8 + (7 - p0)))) - 2)) ι) := hD
                                              refine lv_iload hx hb dX2_work_183 (lv_at hl 6 rfl) ?_
                                              refine lv_iload hx hb dX2_work_185 (lv_at hl 5 rfl) ?_
                                              refine lv_iconst (v := iI (1)) hx hb dX2_work_187 rfl ?_
                                              refine gi_add hx hb dX2_work_188 ?_
                                              refine gi_add hx hb dX2_work_189 ?_
                                              refine lv_istore (lv' := [(6, .int (iI ((0 + (0 + 1)) + (1 + 1)))), (12, .int (iI (1))), (11, .ref (ι (r0 * 8 + (7 - p0))).toNat), (10, .int (iI (2))), (9, .int (iI (tw (r0 * 8 + (7 - p0))))), (8, .int (iI (7 - p0))), (7, .int (iI (1))), (0, .ref (d 0)), (1, .int (iI (1))), (2, .int (iI (r0))), (3, .int (iI (p0))), (4, .int (iI (i0))), (5, .int (iI (0)))]) hx hb dX2_work_190 hl (by decide) rfl (fun ls hl => ?_)
                                              refine lv_iload_n hx hb dX2_work_192 rfl (lv_at hl 8 rfl) ?_
                                              refine gi_if_ne (tgt := 233) hx hb dX2_work_193 (by decide) ⟨by decide, by decide⟩ (fun c193 => ?_) (fun c193 => ?_)
                                              · skip
                                                refine lv_iload_n hx hb dX2_work_233 rfl (lv_at hl 8 rfl) ?_
                                                refine lv_iconst (v := iI (1)) hx hb dX2_work_234 rfl ?_
                                                refine gi_icmp_ne (tgt := 259) hx hb dX2_work_235 (by decide) ⟨by decide, by decide⟩ ⟨by decide, by decide⟩ (fun c235 => ?_) (fun c235 => ?_)
                                                · skip
                                                  exact absurd rfl c235
                                                · skip
                                                  refine lv_aload hx hb dX2_work_238 (lv_at hl 2 rfl) ?_
                                                  refine lv_dup hx hb dX2_work_240 rfl ?_
                                                  refine va_get (D := D) (ci := 3) (v := .int (iI ((su (xPrune σ (r0 * 8 + p0) i0) 8 (tw (r0 * 8 + (7 - p0))) (((xPrune σ (r0 * 8 + p0) i0) 8 (tw (r0 * 8 + (7 - p0)))) - 2)) 5 (r0 * 8 + (7 - p0))))) (C := RX3) (T := TX3) (N := 4) hx hb hts hinX3 hown hK hP (spos (su (xPrune σ (r0 * 8 + p0) i0) 8 (tw (r0 * 8 + (7 - p0))) (((xPrune σ (r0 * 8 + p0) i0) 8 (tw (r0 * 8 + (7 - p0)))) - 2)) ι (r0 * 8 + (7 - p0))) (sw_at ct78 (by omega) (by omega)) rfl 0 (by decide) (hts (.fieldLink RX2 41 "TwinOrchardLaw$Tree" "branches" "I") (List.mem_of_getElem? (i := 2) rfl)) (fun _ h9 => h9) rfl dX2_work_241 ?_
                                                  rw [show ((su (xPrune σ (r0 * 8 + p0) i0) 8 (tw (r0 * 8 + (7 - p0))) (((xPrune σ (r0 * 8 + p0) i0) 8 (tw (r0 * 8 + (7 - p0)))) - 2)) 5 (r0 * 8 + (7 - p0))) = ((xPrune σ (r0 * 8 + p0) i0) 5 (r0 * 8 + (7 - p0))) from by rfl]
                                                  refine lv_iload hx hb dX2_work_244 (lv_at hl 11 rfl) ?_
                                                  refine gi_sub hx hb dX2_work_246 ?_
                                                  refine va_put (D := D) (ci := 3) (v := .int (iI (((xPrune σ (r0 * 8 + p0) i0) 5 (r0 * 8 + (7 - p0))) - i0))) (ty := .int) (C := RX3) (T := TX3) (N := 4) hx hb hts hinX3 tyX3 tyX3_ok nmX3 hown hK hP hD hS (spos (su (xPrune σ (r0 * 8 + p0) i0) 8 (tw (r0 * 8 + (7 - p0))) (((xPrune σ (r0 * 8 + p0) i0) 8 (tw (r0 * 8 + (7 - p0)))) - 2)) ι (r0 * 8 + (7 - p0))) (sw_at ct78 (by omega) (by omega)) rfl 0 (by decide) (hts (.fieldLink RX2 41 "TwinOrchardLaw$Tree" "branches" "I") (List.mem_of_getElem? (i := 2) rfl)) (fun _ h9 => h9) rfl (by decide +kernel) rfl rfl (Nat.le_of_ble_eq_true rfl) dX2_work_247 (fun H locs hP hD hS => ?_)
                                                  have hP : va_P D vwCl (SW cI cT cU d (su (su (xPrune σ (r0 * 8 + p0) i0) 8 (tw (r0 * 8 + (7 - p0))) (((xPrune σ (r0 * 8 + p0) i0) 8 (tw (r0 * 8 + (7 - p0)))) - 2)) 5 (r0 * 8 + (7 - p0)) (((xPrune σ (r0 * 8 + p0) i0) 5 (r0 * 8 + (7 - p0))) - i0)) ι) H := va_Pe (sw_put5 (cI := cI) (cT := cT) (cU := cU) (d := d) (σ := su (xPrune σ (r0 * 8 + p0) i0) 8 (tw (r0 * 8 + (7 - p0))) (((xPrune σ (r0 * 8 + p0) i0) 8 (tw (r0 * 8 + (7 - p0)))) - 2)) (ι := ι) (k := r0 * 8 + (7 - p0)) (v := ((xPrune σ (r0 * 8 + p0) i0) 5 (r0 * 8 + (7 - p0))) - i0) ct78 (by omega) (by omega)) hP
                                                  have hD : va_D A (SW cI cT cU d (su (su (xPrune σ (r0 * 8 + p0) i0) 8 (tw (r0 * 8 + (7 - p0))) (((xPrune σ (r0 * 8 + p0) i0) 8 (tw (r0 * 8 + (7 - p0)))) - 2)) 5 (r0 * 8 + (7 - p0)) (((xPrune σ (r0 * 8 + p0) i0) 5 (r0 * 8 + (7 - p0))) - i0)) ι) := va_De (sw_put5 (cI := cI) (cT := cT) (cU := cU) (d := d) (σ := su (xPrune σ (r0 * 8 + p0) i0) 8 (tw (r0 * 8 + (7 - p0))) (((xPrune σ (r0 * 8 + p0) i0) 8 (tw (r0 * 8 + (7 - p0)))) - 2)) (ι := ι) (k := r0 * 8 + (7 - p0)) (v := ((xPrune σ (r0 * 8 + p0) i0) 5 (r0 * 8 + (7 - p0))) - i0) ct78 (by omega) (by omega)) hD
                                                  refine lv_aload hx hb dX2_work_250 (lv_at hl 2 rfl) ?_
                                                  refine lv_iconst (v := iI (0)) hx hb dX2_work_252 rfl ?_
                                                  refine va_put (D := D) (ci := 3) (v := .int (iI (0))) (ty := .boolean) (C := RX3) (T := TX3) (N := 4) hx hb hts hinX3 tyX3 tyX3_ok nmX3 hown hK hP hD hS (spos (su (su (xPrune σ (r0 * 8 + p0) i0) 8 (tw (r0 * 8 + (7 - p0))) (((xPrune σ (r0 * 8 + p0) i0) 8 (tw (r0 * 8 + (7 - p0)))) - 2)) 5 (r0 * 8 + (7 - p0)) (((xPrune σ (r0 * 8 + p0) i0) 5 (r0 * 8 + (7 - p0))) - i0)) ι (r0 * 8 + (7 - p0))) (sw_at ct78 (by omega) (by omega)) rfl 3 (by decide) (hts (.fieldLink RX2 51 "TwinOrchardLaw$Tree" "tired" "Z") (List.mem_of_getElem? (i := 9) rfl)) (fun _ h9 => h9) rfl (by decide +kernel) (nar_z (Or.inl rfl)) (fit_z (Or.inl rfl)) (Nat.le_of_ble_eq_true rfl) dX2_work_253 (fun H locs hP hD hS => ?_)
                                                  have hP : va_P D vwCl (SW cI cT cU d (su (su (su (xPrune σ (r0 * 8 + p0) i0) 8 (tw (r0 * 8 + (7 - p0))) (((xPrune σ (r0 * 8 + p0) i0) 8 (tw (r0 * 8 + (7 - p0)))) - 2)) 5 (r0 * 8 + (7 - p0)) (((xPrune σ (r0 * 8 + p0) i0) 5 (r0 * 8 + (7 - p0))) - i0)) 7 (r0 * 8 + (7 - p0)) (0)) ι) H := va_Pe (sw_put7 (cI := cI) (cT := cT) (cU := cU) (d := d) (σ := su (su (xPrune σ (r0 * 8 + p0) i0) 8 (tw (r0 * 8 + (7 - p0))) (((xPrune σ (r0 * 8 + p0) i0) 8 (tw (r0 * 8 + (7 - p0)))) - 2)) 5 (r0 * 8 + (7 - p0)) (((xPrune σ (r0 * 8 + p0) i0) 5 (r0 * 8 + (7 - p0))) - i0)) (ι := ι) (k := r0 * 8 + (7 - p0)) (v := 0) ct78 (by omega) (by omega)) hP
                                                  have hD : va_D A (SW cI cT cU d (su (su (su (xPrune σ (r0 * 8 + p0) i0) 8 (tw (r0 * 8 + (7 - p0))) (((xPrune σ (r0 * 8 + p0) i0) 8 (tw (r0 * 8 + (7 - p0)))) - 2)) 5 (r0 * 8 + (7 - p0)) (((xPrune σ (r0 * 8 + p0) i0) 5 (r0 * 8 + (7 - p0))) - i0)) 7 (r0 * 8 + (7 - p0)) (0)) ι) := va_De (sw_put7 (cI := cI) (cT := cT) (cU := cU) (d := d) (σ := su (su (xPrune σ (r0 * 8 + p0) i0) 8 (tw (r0 * 8 + (7 - p0))) (((xPrune σ (r0 * 8 + p0) i0) 8 (tw (r0 * 8 + (7 - p0)))) - 2)) 5 (r0 * 8 + (7 - p0)) (((xPrune σ (r0 * 8 + p0) i0) 5 (r0 * 8 + (7 - p0))) - i0)) (ι := ι) (k := r0 * 8 + (7 - p0)) (v := 0) ct78 (by omega) (by omega)) hD
                                                  refine lv_goto (tgt := 309) hx hb dX2_work_256 (by decide) ?_
                                                  have ha2 : prA (xPrune σ (r0 * 8 + p0) i0) (r0 * 8 + (7 - p0)) i0 = 1 := bI_t (by omega)
                                                  have e8 : (su (su (su (xPrune σ (r0 * 8 + p0) i0) 8 (tw (r0 * 8 + (7 - p0))) (((xPrune σ (r0 * 8 + p0) i0) 8 (tw (r0 * 8 + (7 - p0)))) - 2)) 5 (r0 * 8 + (7 - p0)) (((xPrune σ (r0 * 8 + p0) i0) 5 (r0 * 8 + (7 - p0))) - i0)) 7 (r0 * 8 + (7 - p0)) (0)) = (xPrune (xPrune σ (r0 * 8 + p0) i0) (r0 * 8 + (7 - p0)) i0) := (xPrune_y (by omega)).symm
                                                  rw [e8] at hP hD
                                                  have hP : va_P D vwCl (SW cI cT cU d (xPrune (xPrune σ (r0 * 8 + p0) i0) (r0 * 8 + (7 - p0)) i0) ι) H := hP
                                                  have hD : va_D A (SW cI cT cU d (xPrune (xPrune σ (r0 * 8 + p0) i0) (r0 * 8 + (7 - p0)) i0) ι) := hD
                                                  refine lv_iinc (v := iI (2)) (lv' := [(7, .int (iI (2))), (6, .int (iI ((0 + (0 + 1)) + (1 + 1)))), (12, .int (iI (1))), (11, .ref (ι (r0 * 8 + (7 - p0))).toNat), (10, .int (iI (2))), (9, .int (iI (tw (r0 * 8 + (7 - p0))))), (8, .int (iI (7 - p0))), (0, .ref (d 0)), (1, .int (iI (1))), (2, .int (iI (r0))), (3, .int (iI (p0))), (4, .int (iI (i0))), (5, .int (iI (0)))]) hx hb dX2_work_309 hl (k := 6) rfl rfl (by decide) rfl (fun ls hl => ?_)
                                                  refine lv_goto (tgt := 6) hx hb dX2_work_312 (by decide) ?_
                                                  refine lv_iload hx hb dX2_work_6 (lv_at hl 0 rfl) ?_
                                                  refine lv_iconst (v := iI (2)) hx hb dX2_work_8 rfl ?_
                                                  refine gi_icmp_ge (tgt := 315) hx hb dX2_work_9 (by decide) ⟨by decide, by decide⟩ ⟨by decide, by decide⟩ (fun c9 => ?_) (fun c9 => ?_)
                                                  · skip
                                                    refine lv_iload hx hb dX2_work_315 (lv_at hl 1 rfl) ?_
                                                    have ess : (xPrune (xPrune σ (r0 * 8 + p0) i0) (mir (r0 * 8 + p0)) i0) = (xPrune (xPrune σ (r0 * 8 + p0) i0) (r0 * 8 + (7 - p0)) i0) := by rw [em]
                                                    have hP : va_P D vwCl (SW cI cT cU d (xPrune (xPrune σ (r0 * 8 + p0) i0) (mir (r0 * 8 + p0)) i0) ι) H := by rw [ess]; exact hP
                                                    have hD : va_D A (SW cI cT cU d (xPrune (xPrune σ (r0 * 8 + p0) i0) (mir (r0 * 8 + p0)) i0) ι) := by rw [ess]; exact hD
                                                    have er : ((who (prA σ (r0 * 8 + p0) i0) (prA (xPrune σ (r0 * 8 + p0) i0) (mir (r0 * 8 + p0)) i0) : Int)) = ((0 + (0 + 1)) + (1 + 1)) := by rw [em, ha1, ha2]; decide
                                                    exact g_iret (wo := (fun κ' => SW cI cT cU d (xPrune (xPrune σ (r0 * 8 + p0) i0) (mir (r0 * 8 + p0)) i0) (κ' 2))) (kr := (fun κ' => True)) (rv := (fun _ => some (.int (iI (who (prA σ (r0 * 8 + p0) i0) (prA (xPrune σ (r0 * 8 + p0) i0) (mir (r0 * 8 + p0)) i0)))))) hx hb hr hlocks (fun _ => ι) rfl hP hK hD hS trivial (by rw [er]) (Nat.le_of_ble_eq_true rfl) (Nat.le_of_ble_eq_true rfl) dX2_work_317
                                                  · skip
                                                    omega
                                              · skip
                                                exact absurd c193 (by decide)
                                            · skip
                                              refine lv_goto (tgt := 309) hx hb dX2_work_168 (by decide) ?_
                                              have ha2 : prA (xPrune σ (r0 * 8 + p0) i0) (r0 * 8 + (7 - p0)) i0 = 0 := bI_f (by omega)
                                              have e8 : (xPrune σ (r0 * 8 + p0) i0) = (xPrune (xPrune σ (r0 * 8 + p0) i0) (r0 * 8 + (7 - p0)) i0) := (xPrune_n (by omega)).symm
                                              rw [e8] at hP hD
                                              have hP : va_P D vwCl (SW cI cT cU d (xPrune (xPrune σ (r0 * 8 + p0) i0) (r0 * 8 + (7 - p0)) i0) ι) H := hP
                                              have hD : va_D A (SW cI cT cU d (xPrune (xPrune σ (r0 * 8 + p0) i0) (r0 * 8 + (7 - p0)) i0) ι) := hD
                                              refine lv_iinc (v := iI (2)) (lv' := [(7, .int (iI (2))), (12, .int (iI (1))), (11, .ref (ι (r0 * 8 + (7 - p0))).toNat), (10, .int (iI (2))), (9, .int (iI (tw (r0 * 8 + (7 - p0))))), (8, .int (iI (7 - p0))), (6, .int (iI (0 + (0 + 1)))), (0, .ref (d 0)), (1, .int (iI (1))), (2, .int (iI (r0))), (3, .int (iI (p0))), (4, .int (iI (i0))), (5, .int (iI (0)))]) hx hb dX2_work_309 hl (k := 5) rfl rfl (by decide) rfl (fun ls hl => ?_)
                                              refine lv_goto (tgt := 6) hx hb dX2_work_312 (by decide) ?_
                                              refine lv_iload hx hb dX2_work_6 (lv_at hl 0 rfl) ?_
                                              refine lv_iconst (v := iI (2)) hx hb dX2_work_8 rfl ?_
                                              refine gi_icmp_ge (tgt := 315) hx hb dX2_work_9 (by decide) ⟨by decide, by decide⟩ ⟨by decide, by decide⟩ (fun c9 => ?_) (fun c9 => ?_)
                                              · skip
                                                refine lv_iload hx hb dX2_work_315 (lv_at hl 6 rfl) ?_
                                                have ess : (xPrune (xPrune σ (r0 * 8 + p0) i0) (mir (r0 * 8 + p0)) i0) = (xPrune (xPrune σ (r0 * 8 + p0) i0) (r0 * 8 + (7 - p0)) i0) := by rw [em]
                                                have hP : va_P D vwCl (SW cI cT cU d (xPrune (xPrune σ (r0 * 8 + p0) i0) (mir (r0 * 8 + p0)) i0) ι) H := by rw [ess]; exact hP
                                                have hD : va_D A (SW cI cT cU d (xPrune (xPrune σ (r0 * 8 + p0) i0) (mir (r0 * 8 + p0)) i0) ι) := by rw [ess]; exact hD
                                                have er : ((who (prA σ (r0 * 8 + p0) i0) (prA (xPrune σ (r0 * 8 + p0) i0) (mir (r0 * 8 + p0)) i0) : Int)) = (0 + (0 + 1)) := by rw [em, ha1, ha2]; decide
                                                exact g_iret (wo := (fun κ' => SW cI cT cU d (xPrune (xPrune σ (r0 * 8 + p0) i0) (mir (r0 * 8 + p0)) i0) (κ' 2))) (kr := (fun κ' => True)) (rv := (fun _ => some (.int (iI (who (prA σ (r0 * 8 + p0) i0) (prA (xPrune σ (r0 * 8 + p0) i0) (mir (r0 * 8 + p0)) i0)))))) hx hb hr hlocks (fun _ => ι) rfl hP hK hD hS trivial (by rw [er]) (Nat.le_of_ble_eq_true rfl) (Nat.le_of_ble_eq_true rfl) dX2_work_317
                                              · skip
                                                omega
                                    · skip
                                      exact absurd c82 (by decide)
                              · skip
                                exact absurd c41 (by decide)
                            · skip
                              exact absurd c14 (by decide)
                      · skip
                        exact absurd c193 (by decide)
                    · skip
                      refine lv_goto (tgt := 309) hx hb dX2_work_168 (by decide) ?_
                      have ha1 : prA σ (r0 * 8 + p0) i0 = 0 := bI_f (by omega)
                      have e8 : (σ) = (xPrune σ (r0 * 8 + p0) i0) := (xPrune_n (by omega)).symm
                      rw [e8] at hP hD
                      have hP : va_P D vwCl (SW cI cT cU d (xPrune σ (r0 * 8 + p0) i0) ι) H := hP
                      have hD : va_D A (SW cI cT cU d (xPrune σ (r0 * 8 + p0) i0) ι) := hD
                      have hwf2 : xWF (xPrune σ (r0 * 8 + p0) i0) := xWF_prune hwf hi.1
                      have k4b := xWF_4 hwf2 (r0 * 8 + (7 - p0))
                      have k5b := xWF_5 hwf2 (r0 * 8 + (7 - p0))
                      have k8b := xWF_8 hwf2 (tw (r0 * 8 + (7 - p0)))
                      refine lv_iinc (v := iI (1)) (lv' := [(7, .int (iI (1))), (12, .int (iI (1))), (11, .ref (ι (r0 * 8 + p0)).toNat), (10, .int (iI (2))), (9, .int (iI (tw (r0 * 8 + p0)))), (8, .int (iI (p0))), (6, .int (iI (0))), (0, .ref (d 0)), (1, .int (iI (1))), (2, .int (iI (r0))), (3, .int (iI (p0))), (4, .int (iI (i0))), (5, .int (iI (0)))]) hx hb dX2_work_309 hl (k := 5) rfl rfl (by decide) rfl (fun ls hl => ?_)
                      refine lv_goto (tgt := 6) hx hb dX2_work_312 (by decide) ?_
                      refine lv_iload hx hb dX2_work_6 (lv_at hl 0 rfl) ?_
                      refine lv_iconst (v := iI (2)) hx hb dX2_work_8 rfl ?_
                      refine gi_icmp_ge (tgt := 315) hx hb dX2_work_9 (by decide) ⟨by decide, by decide⟩ ⟨by decide, by decide⟩ (fun c9 => ?_) (fun c9 => ?_)
                      · skip
                        exact absurd c9 (by decide)
                      · skip
                        refine lv_iload hx hb dX2_work_12 (lv_at hl 0 rfl) ?_
                        refine gi_if_ne (tgt := 21) hx hb dX2_work_14 (by decide) ⟨by decide, by decide⟩ (fun c14 => ?_) (fun c14 => ?_)
                        · skip
                          refine lv_bipush (v := iI (7)) hx hb dX2_work_21 rfl ?_
                          refine lv_iload_n hx hb dX2_work_23 rfl (lv_at hl 10 rfl) ?_
                          refine gi_sub hx hb dX2_work_24 ?_
                          refine lv_istore (lv' := [(8, .int (iI (7 - p0))), (7, .int (iI (1))), (12, .int (iI (1))), (11, .ref (ι (r0 * 8 + p0)).toNat), (10, .int (iI (2))), (9, .int (iI (tw (r0 * 8 + p0)))), (6, .int (iI (0))), (0, .ref (d 0)), (1, .int (iI (1))), (2, .int (iI (r0))), (3, .int (iI (p0))), (4, .int (iI (i0))), (5, .int (iI (0)))]) hx hb dX2_work_25 hl (by decide) rfl (fun ls hl => ?_)
                          refine lv_iload hx hb dX2_work_27 (lv_at hl 0 rfl) ?_
                          refine lv_iconst (v := iI (4)) hx hb dX2_work_29 rfl ?_
                          refine g_selGe (u := 0) (v := 1) (t1 := 37) (t2 := 38) hx hb ⟨by omega, by omega⟩ ⟨by decide, by decide⟩ dX2_work_30 (by decide) (fun st h => lv_iconst (v := iI (0)) hx hb dX2_work_33 rfl (lv_goto (tgt := 38) hx hb dX2_work_34 (by decide) h)) (fun st h => lv_iconst (v := iI (1)) hx hb dX2_work_37 rfl h) ?_
                          rw [show (if 7 - p0 < 4 then (0 : Int) else 1) = tw (r0 * 8 + (7 - p0)) from by unfold tw; split <;> split <;> omega]
                          refine lv_istore (lv' := [(9, .int (iI (tw (r0 * 8 + (7 - p0))))), (8, .int (iI (7 - p0))), (7, .int (iI (1))), (12, .int (iI (1))), (11, .ref (ι (r0 * 8 + p0)).toNat), (10, .int (iI (2))), (6, .int (iI (0))), (0, .ref (d 0)), (1, .int (iI (1))), (2, .int (iI (r0))), (3, .int (iI (p0))), (4, .int (iI (i0))), (5, .int (iI (0)))]) hx hb dX2_work_38 hl (by decide) rfl (fun ls hl => ?_)
                          refine lv_iload_n hx hb dX2_work_40 rfl (lv_at hl 8 rfl) ?_
                          refine gi_if_ne (tgt := 48) hx hb dX2_work_41 (by decide) ⟨by decide, by decide⟩ (fun c41 => ?_) (fun c41 => ?_)
                          · skip
                            refine lv_iload_n hx hb dX2_work_48 rfl (lv_at hl 8 rfl) ?_
                            refine lv_iconst (v := iI (1)) hx hb dX2_work_49 rfl ?_
                            refine gi_icmp_ne (tgt := 57) hx hb dX2_work_50 (by decide) ⟨by decide, by decide⟩ ⟨by decide, by decide⟩ (fun c50 => ?_) (fun c50 => ?_)
                            · skip
                              exact absurd rfl c50
                            · skip
                              refine lv_iconst (v := iI (2)) hx hb dX2_work_53 rfl ?_
                              refine lv_goto (tgt := 68) hx hb dX2_work_54 (by decide) ?_
                              refine lv_istore (lv' := [(10, .int (iI (2))), (9, .int (iI (tw (r0 * 8 + (7 - p0))))), (8, .int (iI (7 - p0))), (7, .int (iI (1))), (12, .int (iI (1))), (11, .ref (ι (r0 * 8 + p0)).toNat), (6, .int (iI (0))), (0, .ref (d 0)), (1, .int (iI (1))), (2, .int (iI (r0))), (3, .int (iI (p0))), (4, .int (iI (i0))), (5, .int (iI (0)))]) hx hb dX2_work_68 hl (by decide) rfl (fun ls hl => ?_)
                              refine lv_aload_n hx hb dX2_work_70 rfl (lv_at hl 7 rfl) ?_
                              refine va_get (D := D) (ci := 2) (v := .ref (d 1)) (C := RX2) (T := TX2) (N := 8) hx hb hts hinX2 hown hK hP 0 rfl rfl 0 (by decide) (hts (.fieldLink RX2 9 "TwinOrchardLaw$Sim" "trees" "[[LTwinOrchardLaw$Tree;") (List.mem_of_getElem? (i := 1) rfl)) (fun _ h9 => h9) rfl dX2_work_71 ?_
                              refine lv_iload_n hx hb dX2_work_74 rfl (lv_at hl 9 rfl) ?_
                              refine s_row (f := srt d) hx hb hK hP 1 3 rfl rfl (by omega) (by omega) (by decide) (v := d (r0.toNat + 7)) (if_pos (by omega)) dX2_work_75 ?_
                              refine lv_iload hx hb dX2_work_76 (lv_at hl 2 rfl) ?_
                              refine s_tree (σ := xPrune σ (r0 * 8 + p0) i0) (ι := ι) (r := r0) (i := 7 - p0) hx hb hK hP (r0.toNat + 7) 2 (sw_row (by omega) (by omega)) rfl (by omega) (by omega) dX2_work_78 (fun ct78 => ?_) (fun ct78 => ?_)
                              · skip
                                refine lv_astoreN (lv' := [(11, .null), (10, .int (iI (2))), (9, .int (iI (tw (r0 * 8 + (7 - p0))))), (8, .int (iI (7 - p0))), (7, .int (iI (1))), (12, .int (iI (1))), (6, .int (iI (0))), (0, .ref (d 0)), (1, .int (iI (1))), (2, .int (iI (r0))), (3, .int (iI (p0))), (4, .int (iI (i0))), (5, .int (iI (0)))]) hx hb dX2_work_79 hl (by decide) rfl (fun ls hl => ?_)
                                refine lv_iload_n hx hb dX2_work_81 rfl (lv_at hl 8 rfl) ?_
                                refine gi_if_ne (tgt := 98) hx hb dX2_work_82 (by decide) ⟨by decide, by decide⟩ (fun c82 => ?_) (fun c82 => ?_)
                                · skip
                                  refine lv_aloadN hx hb dX2_work_98 (lv_at hl 0 rfl) ?_
                                  refine lv_ifnullN (tgt := 148) hx hb dX2_work_100 (by decide) ?_
                                  refine lv_iconst (v := iI (0)) hx hb dX2_work_148 rfl ?_
                                  refine lv_istore (lv' := [(12, .int (iI (0))), (11, .null), (10, .int (iI (2))), (9, .int (iI (tw (r0 * 8 + (7 - p0))))), (8, .int (iI (7 - p0))), (7, .int (iI (1))), (6, .int (iI (0))), (0, .ref (d 0)), (1, .int (iI (1))), (2, .int (iI (r0))), (3, .int (iI (p0))), (4, .int (iI (i0))), (5, .int (iI (0)))]) hx hb dX2_work_149 hl (by decide) rfl (fun ls hl => ?_)
                                  refine lv_iload hx hb dX2_work_151 (lv_at hl 0 rfl) ?_
                                  refine gi_if_eq (tgt := 309) hx hb dX2_work_153 (by decide) ⟨by decide, by decide⟩ (fun c153 => ?_) (fun c153 => ?_)
                                  · skip
                                    have ha2 : prA (xPrune σ (r0 * 8 + p0) i0) (r0 * 8 + (7 - p0)) i0 = 0 := bI_f (by omega)
                                    have e8 : (xPrune σ (r0 * 8 + p0) i0) = (xPrune (xPrune σ (r0 * 8 + p0) i0) (r0 * 8 + (7 - p0)) i0) := (xPrune_n (by omega)).symm
                                    rw [e8] at hP hD
                                    have hP : va_P D vwCl (SW cI cT cU d (xPrune (xPrune σ (r0 * 8 + p0) i0) (r0 * 8 + (7 - p0)) i0) ι) H := hP
                                    have hD : va_D A (SW cI cT cU d (xPrune (xPrune σ (r0 * 8 + p0) i0) (r0 * 8 + (7 - p0)) i0) ι) := hD
                                    refine lv_iinc (v := iI (2)) (lv' := [(7, .int (iI (2))), (12, .int (iI (0))), (11, .null), (10, .int (iI (2))), (9, .int (iI (tw (r0 * 8 + (7 - p0))))), (8, .int (iI (7 - p0))), (6, .int (iI (0))), (0, .ref (d 0)), (1, .int (iI (1))), (2, .int (iI (r0))), (3, .int (iI (p0))), (4, .int (iI (i0))), (5, .int (iI (0)))]) hx hb dX2_work_309 hl (k := 5) rfl rfl (by decide) rfl (fun ls hl => ?_)
                                    refine lv_goto (tgt := 6) hx hb dX2_work_312 (by decide) ?_
                                    refine lv_iload hx hb dX2_work_6 (lv_at hl 0 rfl) ?_
                                    refine lv_iconst (v := iI (2)) hx hb dX2_work_8 rfl ?_
                                    refine gi_icmp_ge (tgt := 315) hx hb dX2_work_9 (by decide) ⟨by decide, by decide⟩ ⟨by decide, by decide⟩ (fun c9 => ?_) (fun c9 => ?_)
                                    · skip
                                      refine lv_iload hx hb dX2_work_315 (lv_at hl 6 rfl) ?_
                                      have ess : (xPrune (xPrune σ (r0 * 8 + p0) i0) (mir (r0 * 8 + p0)) i0) = (xPrune (xPrune σ (r0 * 8 + p0) i0) (r0 * 8 + (7 - p0)) i0) := by rw [em]
                                      have hP : va_P D vwCl (SW cI cT cU d (xPrune (xPrune σ (r0 * 8 + p0) i0) (mir (r0 * 8 + p0)) i0) ι) H := by rw [ess]; exact hP
                                      have hD : va_D A (SW cI cT cU d (xPrune (xPrune σ (r0 * 8 + p0) i0) (mir (r0 * 8 + p0)) i0) ι) := by rw [ess]; exact hD
                                      have er : ((who (prA σ (r0 * 8 + p0) i0) (prA (xPrune σ (r0 * 8 + p0) i0) (mir (r0 * 8 + p0)) i0) : Int)) = (0) := by rw [em, ha1, ha2]; decide
                                      exact g_iret (wo := (fun κ' => SW cI cT cU d (xPrune (xPrune σ (r0 * 8 + p0) i0) (mir (r0 * 8 + p0)) i0) (κ' 2))) (kr := (fun κ' => True)) (rv := (fun _ => some (.int (iI (who (prA σ (r0 * 8 + p0) i0) (prA (xPrune σ (r0 * 8 + p0) i0) (mir (r0 * 8 + p0)) i0)))))) hx hb hr hlocks (fun _ => ι) rfl hP hK hD hS trivial (by rw [er]) (Nat.le_of_ble_eq_true rfl) (Nat.le_of_ble_eq_true rfl) dX2_work_317
                                    · skip
                                      omega
                                  · skip
                                    exact absurd rfl c153
                                · skip
                                  exact absurd c82 (by decide)
                              · skip
                                refine lv_astore (lv' := [(11, .ref (ι (r0 * 8 + (7 - p0))).toNat), (10, .int (iI (2))), (9, .int (iI (tw (r0 * 8 + (7 - p0))))), (8, .int (iI (7 - p0))), (7, .int (iI (1))), (12, .int (iI (1))), (6, .int (iI (0))), (0, .ref (d 0)), (1, .int (iI (1))), (2, .int (iI (r0))), (3, .int (iI (p0))), (4, .int (iI (i0))), (5, .int (iI (0)))]) hx hb dX2_work_79 hl (by decide) rfl (fun ls hl => ?_)
                                refine lv_iload_n hx hb dX2_work_81 rfl (lv_at hl 8 rfl) ?_
                                refine gi_if_ne (tgt := 98) hx hb dX2_work_82 (by decide) ⟨by decide, by decide⟩ (fun c82 => ?_) (fun c82 => ?_)
                                · skip
                                  refine lv_aload hx hb dX2_work_98 (lv_at hl 0 rfl) ?_
                                  refine lv_ifnull hx hb dX2_work_100 ?_
                                  refine lv_iload_n hx hb dX2_work_103 rfl (lv_at hl 8 rfl) ?_
                                  refine lv_iconst (v := iI (1)) hx hb dX2_work_104 rfl ?_
                                  refine gi_icmp_ne (tgt := 121) hx hb dX2_work_105 (by decide) ⟨by decide, by decide⟩ ⟨by decide, by decide⟩ (fun c105 => ?_) (fun c105 => ?_)
                                  · skip
                                    exact absurd rfl c105
                                  · skip
                                    refine lv_aload hx hb dX2_work_108 (lv_at hl 0 rfl) ?_
                                    refine va_get (D := D) (ci := 3) (v := .int (iI ((xPrune σ (r0 * 8 + p0) i0) 5 (r0 * 8 + (7 - p0))))) (C := RX3) (T := TX3) (N := 4) hx hb hts hinX3 hown hK hP (spos (xPrune σ (r0 * 8 + p0) i0) ι (r0 * 8 + (7 - p0))) (sw_at ct78 (by omega) (by omega)) rfl 0 (by decide) (hts (.fieldLink RX2 41 "TwinOrchardLaw$Tree" "branches" "I") (List.mem_of_getElem? (i := 2) rfl)) (fun _ h9 => h9) rfl dX2_work_110 ?_
                                    refine lv_iload hx hb dX2_work_113 (lv_at hl 11 rfl) ?_
                                    refine gi_icmp_lt (tgt := 148) hx hb dX2_work_115 (by decide) ⟨by omega, by omega⟩ ⟨by omega, by omega⟩ (fun c115 => ?_) (fun c115 => ?_)
                                    · skip
                                      refine lv_iconst (v := iI (0)) hx hb dX2_work_148 rfl ?_
                                      refine lv_istore (lv' := [(12, .int (iI (0))), (11, .ref (ι (r0 * 8 + (7 - p0))).toNat), (10, .int (iI (2))), (9, .int (iI (tw (r0 * 8 + (7 - p0))))), (8, .int (iI (7 - p0))), (7, .int (iI (1))), (6, .int (iI (0))), (0, .ref (d 0)), (1, .int (iI (1))), (2, .int (iI (r0))), (3, .int (iI (p0))), (4, .int (iI (i0))), (5, .int (iI (0)))]) hx hb dX2_work_149 hl (by decide) rfl (fun ls hl => ?_)
                                      refine lv_iload hx hb dX2_work_151 (lv_at hl 0 rfl) ?_
                                      refine gi_if_eq (tgt := 309) hx hb dX2_work_153 (by decide) ⟨by decide, by decide⟩ (fun c153 => ?_) (fun c153 => ?_)
                                      · skip
                                        have ha2 : prA (xPrune σ (r0 * 8 + p0) i0) (r0 * 8 + (7 - p0)) i0 = 0 := bI_f (by omega)
                                        have e8 : (xPrune σ (r0 * 8 + p0) i0) = (xPrune (xPrune σ (r0 * 8 + p0) i0) (r0 * 8 + (7 - p0)) i0) := (xPrune_n (by omega)).symm
                                        rw [e8] at hP hD
                                        have hP : va_P D vwCl (SW cI cT cU d (xPrune (xPrune σ (r0 * 8 + p0) i0) (r0 * 8 + (7 - p0)) i0) ι) H := hP
                                        have hD : va_D A (SW cI cT cU d (xPrune (xPrune σ (r0 * 8 + p0) i0) (r0 * 8 + (7 - p0)) i0) ι) := hD
                                        refine lv_iinc (v := iI (2)) (lv' := [(7, .int (iI (2))), (12, .int (iI (0))), (11, .ref (ι (r0 * 8 + (7 - p0))).toNat), (10, .int (iI (2))), (9, .int (iI (tw (r0 * 8 + (7 - p0))))), (8, .int (iI (7 - p0))), (6, .int (iI (0))), (0, .ref (d 0)), (1, .int (iI (1))), (2, .int (iI (r0))), (3, .int (iI (p0))), (4, .int (iI (i0))), (5, .int (iI (0)))]) hx hb dX2_work_309 hl (k := 5) rfl rfl (by decide) rfl (fun ls hl => ?_)
                                        refine lv_goto (tgt := 6) hx hb dX2_work_312 (by decide) ?_
                                        refine lv_iload hx hb dX2_work_6 (lv_at hl 0 rfl) ?_
                                        refine lv_iconst (v := iI (2)) hx hb dX2_work_8 rfl ?_
                                        refine gi_icmp_ge (tgt := 315) hx hb dX2_work_9 (by decide) ⟨by decide, by decide⟩ ⟨by decide, by decide⟩ (fun c9 => ?_) (fun c9 => ?_)
                                        · skip
                                          refine lv_iload hx hb dX2_work_315 (lv_at hl 6 rfl) ?_
                                          have ess : (xPrune (xPrune σ (r0 * 8 + p0) i0) (mir (r0 * 8 + p0)) i0) = (xPrune (xPrune σ (r0 * 8 + p0) i0) (r0 * 8 + (7 - p0)) i0) := by rw [em]
                                          have hP : va_P D vwCl (SW cI cT cU d (xPrune (xPrune σ (r0 * 8 + p0) i0) (mir (r0 * 8 + p0)) i0) ι) H := by rw [ess]; exact hP
                                          have hD : va_D A (SW cI cT cU d (xPrune (xPrune σ (r0 * 8 + p0) i0) (mir (r0 * 8 + p0)) i0) ι) := by rw [ess]; exact hD
                                          have er : ((who (prA σ (r0 * 8 + p0) i0) (prA (xPrune σ (r0 * 8 + p0) i0) (mir (r0 * 8 + p0)) i0) : Int)) = (0) := by rw [em, ha1, ha2]; decide
                                          exact g_iret (wo := (fun κ' => SW cI cT cU d (xPrune (xPrune σ (r0 * 8 + p0) i0) (mir (r0 * 8 + p0)) i0) (κ' 2))) (kr := (fun κ' => True)) (rv := (fun _ => some (.int (iI (who (prA σ (r0 * 8 + p0) i0) (prA (xPrune σ (r0 * 8 + p0) i0) (mir (r0 * 8 + p0)) i0)))))) hx hb hr hlocks (fun _ => ι) rfl hP hK hD hS trivial (by rw [er]) (Nat.le_of_ble_eq_true rfl) (Nat.le_of_ble_eq_true rfl) dX2_work_317
                                        · skip
                                          omega
                                      · skip
                                        exact absurd rfl c153
                                    · skip
                                      refine lv_goto (tgt := 144) hx hb dX2_work_118 (by decide) ?_
                                      refine lv_iconst (v := iI (1)) hx hb dX2_work_144 rfl ?_
                                      refine lv_goto (tgt := 149) hx hb dX2_work_145 (by decide) ?_
                                      refine lv_istore (lv' := [(12, .int (iI (1))), (11, .ref (ι (r0 * 8 + (7 - p0))).toNat), (10, .int (iI (2))), (9, .int (iI (tw (r0 * 8 + (7 - p0))))), (8, .int (iI (7 - p0))), (7, .int (iI (1))), (6, .int (iI (0))), (0, .ref (d 0)), (1, .int (iI (1))), (2, .int (iI (r0))), (3, .int (iI (p0))), (4, .int (iI (i0))), (5, .int (iI (0)))]) hx hb dX2_work_149 hl (by decide) rfl (fun ls hl => ?_)
                                      refine lv_iload hx hb dX2_work_151 (lv_at hl 0 rfl) ?_
                                      refine gi_if_eq (tgt := 309) hx hb dX2_work_153 (by decide) ⟨by decide, by decide⟩ (fun c153 => ?_) (fun c153 => ?_)
                                      · skip
                                        exact absurd c153 (by decide)
                                      · skip
                                        refine lv_aload_n hx hb dX2_work_156 rfl (lv_at hl 7 rfl) ?_
                                        refine va_get (D := D) (ci := 2) (v := .ref (d 6)) (C := RX2) (T := TX2) (N := 8) hx hb hts hinX2 hown hK hP 0 rfl rfl 5 (by decide) (hts (.fieldLink RX2 27 "TwinOrchardLaw$Sim" "strength" "[I") (List.mem_of_getElem? (i := 4) rfl)) (fun _ h9 => h9) rfl dX2_work_157 ?_
                                        refine lv_iload hx hb dX2_work_160 (lv_at hl 3 rfl) ?_
                                        refine gi_iald (a := d 6) (n := 2) (f := (xPrune σ (r0 * 8 + p0) i0) 8) hx hb hK hP 6 0 rfl rfl (by omega) (by omega) (by decide) dX2_work_162 ?_
                                        refine lv_iload hx hb dX2_work_163 (lv_at hl 2 rfl) ?_
                                        refine gi_icmp_ge (tgt := 171) hx hb dX2_work_165 (by decide) ⟨by omega, by omega⟩ ⟨by decide, by decide⟩ (fun c165 => ?_) (fun c165 => ?_)
                                        · skip
                                          refine lv_aload_n hx hb dX2_work_171 rfl (lv_at hl 7 rfl) ?_
                                          refine va_get (D := D) (ci := 2) (v := .ref (d 6)) (C := RX2) (T := TX2) (N := 8) hx hb hts hinX2 hown hK hP 0 rfl rfl 5 (by decide) (hts (.fieldLink RX2 27 "TwinOrchardLaw$Sim" "strength" "[I") (List.mem_of_getElem? (i := 4) rfl)) (fun _ h9 => h9) rfl dX2_work_172 ?_
                                          refine lv_iload hx hb dX2_work_175 (lv_at hl 3 rfl) ?_
                                          refine lv_dup2_11 hx hb dX2_work_177 rfl rfl ?_
                                          refine gi_iald (a := d 6) (n := 2) (f := (xPrune σ (r0 * 8 + p0) i0) 8) hx hb hK hP 6 0 rfl rfl (by omega) (by omega) (by decide) dX2_work_178 ?_
                                          refine lv_iload hx hb dX2_work_179 (lv_at hl 2 rfl) ?_
                                          refine gi_sub hx hb dX2_work_181 ?_
                                          refine gi_iast (a := d 6) (n := 2) (f := (xPrune σ (r0 * 8 + p0) i0) 8) hx hb hK hP hD hS 6 0 rfl rfl (by omega) (by omega) (by decide) dX2_work_182 (fun H locs hP hD hS => ?_)
                                          have hP : va_P D vwCl (SW cI cT cU d (su (xPrune σ (r0 * 8 + p0) i0) 8 (tw (r0 * 8 + (7 - p0))) (((xPrune σ (r0 * 8 + p0) i0) 8 (tw (r0 * 8 + (7 - p0)))) - 2)) ι) H := hP
                                          have hD : va_D A (SW cI cT cU d (su (xPrune σ (r0 * 8 + p0) i0) 8 (tw (r0 * 8 + (7 - p0))) (((xPrune σ (r0 * 8 + p0) i0) 8 (tw (r0 * 8 + (7 - p0)))) - 2)) ι) := hD
                                          refine lv_iload hx hb dX2_work_183 (lv_at hl 6 rfl) ?_
                                          refine lv_iload hx hb dX2_work_185 (lv_at hl 5 rfl) ?_
                                          refine lv_iconst (v := iI (1)) hx hb dX2_work_187 rfl ?_
                                          refine gi_add hx hb dX2_work_188 ?_
                                          refine gi_add hx hb dX2_work_189 ?_
                                          refine lv_istore (lv' := [(6, .int (iI (0 + (1 + 1)))), (12, .int (iI (1))), (11, .ref (ι (r0 * 8 + (7 - p0))).toNat), (10, .int (iI (2))), (9, .int (iI (tw (r0 * 8 + (7 - p0))))), (8, .int (iI (7 - p0))), (7, .int (iI (1))), (0, .ref (d 0)), (1, .int (iI (1))), (2, .int (iI (r0))), (3, .int (iI (p0))), (4, .int (iI (i0))), (5, .int (iI (0)))]) hx hb dX2_work_190 hl (by decide) rfl (fun ls hl => ?_)
                                          refine lv_iload_n hx hb dX2_work_192 rfl (lv_at hl 8 rfl) ?_
                                          refine gi_if_ne (tgt := 233) hx hb dX2_work_193 (by decide) ⟨by decide, by decide⟩ (fun c193 => ?_) (fun c193 => ?_)
                                          · skip
                                            refine lv_iload_n hx hb dX2_work_233 rfl (lv_at hl 8 rfl) ?_
                                            refine lv_iconst (v := iI (1)) hx hb dX2_work_234 rfl ?_
                                            refine gi_icmp_ne (tgt := 259) hx hb dX2_work_235 (by decide) ⟨by decide, by decide⟩ ⟨by decide, by decide⟩ (fun c235 => ?_) (fun c235 => ?_)
                                            · skip
                                              exact absurd rfl c235
                                            · skip
                                              refine lv_aload hx hb dX2_work_238 (lv_at hl 2 rfl) ?_
                                              refine lv_dup hx hb dX2_work_240 rfl ?_
                                              refine va_get (D := D) (ci := 3) (v := .int (iI ((su (xPrune σ (r0 * 8 + p0) i0) 8 (tw (r0 * 8 + (7 - p0))) (((xPrune σ (r0 * 8 + p0) i0) 8 (tw (r0 * 8 + (7 - p0)))) - 2)) 5 (r0 * 8 + (7 - p0))))) (C := RX3) (T := TX3) (N := 4) hx hb hts hinX3 hown hK hP (spos (su (xPrune σ (r0 * 8 + p0) i0) 8 (tw (r0 * 8 + (7 - p0))) (((xPrune σ (r0 * 8 + p0) i0) 8 (tw (r0 * 8 + (7 - p0)))) - 2)) ι (r0 * 8 + (7 - p0))) (sw_at ct78 (by omega) (by omega)) rfl 0 (by decide) (hts (.fieldLink RX2 41 "TwinOrchardLaw$Tree" "branches" "I") (List.mem_of_getElem? (i := 2) rfl)) (fun _ h9 => h9) rfl dX2_work_241 ?_
                                              rw [show ((su (xPrune σ (r0 * 8 + p0) i0) 8 (tw (r0 * 8 + (7 - p0))) (((xPrune σ (r0 * 8 + p0) i0) 8 (tw (r0 * 8 + (7 - p0)))) - 2)) 5 (r0 * 8 + (7 - p0))) = ((xPrune σ (r0 * 8 + p0) i0) 5 (r0 * 8 + (7 - p0))) from by rfl]
                                              refine lv_iload hx hb dX2_work_244 (lv_at hl 11 rfl) ?_
                                              refine gi_sub hx hb dX2_work_246 ?_
                                              refine va_put (D := D) (ci := 3) (v := .int (iI (((xPrune σ (r0 * 8 + p0) i0) 5 (r0 * 8 + (7 - p0))) - i0))) (ty := .int) (C := RX3) (T := TX3) (N := 4) hx hb hts hinX3 tyX3 tyX3_ok nmX3 hown hK hP hD hS (spos (su (xPrune σ (r0 * 8 + p0) i0) 8 (tw (r0 * 8 + (7 - p0))) (((xPrune σ (r0 * 8 + p0) i0) 8 (tw (r0 * 8 + (7 - p0)))) - 2)) ι (r0 * 8 + (7 - p0))) (sw_at ct78 (by omega) (by omega)) rfl 0 (by decide) (hts (.fieldLink RX2 41 "TwinOrchardLaw$Tree" "branches" "I") (List.mem_of_getElem? (i := 2) rfl)) (fun _ h9 => h9) rfl (by decide +kernel) rfl rfl (Nat.le_of_ble_eq_true rfl) dX2_work_247 (fun H locs hP hD hS => ?_)
                                              have hP : va_P D vwCl (SW cI cT cU d (su (su (xPrune σ (r0 * 8 + p0) i0) 8 (tw (r0 * 8 + (7 - p0))) (((xPrune σ (r0 * 8 + p0) i0) 8 (tw (r0 * 8 + (7 - p0)))) - 2)) 5 (r0 * 8 + (7 - p0)) (((xPrune σ (r0 * 8 + p0) i0) 5 (r0 * 8 + (7 - p0))) - i0)) ι) H := va_Pe (sw_put5 (cI := cI) (cT := cT) (cU := cU) (d := d) (σ := su (xPrune σ (r0 * 8 + p0) i0) 8 (tw (r0 * 8 + (7 - p0))) (((xPrune σ (r0 * 8 + p0) i0) 8 (tw (r0 * 8 + (7 - p0)))) - 2)) (ι := ι) (k := r0 * 8 + (7 - p0)) (v := ((xPrune σ (r0 * 8 + p0) i0) 5 (r0 * 8 + (7 - p0))) - i0) ct78 (by omega) (by omega)) hP
                                              have hD : va_D A (SW cI cT cU d (su (su (xPrune σ (r0 * 8 + p0) i0) 8 (tw (r0 * 8 + (7 - p0))) (((xPrune σ (r0 * 8 + p0) i0) 8 (tw (r0 * 8 + (7 - p0)))) - 2)) 5 (r0 * 8 + (7 - p0)) (((xPrune σ (r0 * 8 + p0) i0) 5 (r0 * 8 + (7 - p0))) - i0)) ι) := va_De (sw_put5 (cI := cI) (cT := cT) (cU := cU) (d := d) (σ := su (xPrune σ (r0 * 8 + p0) i0) 8 (tw (r0 * 8 + (7 - p0))) (((xPrune σ (r0 * 8 + p0) i0) 8 (tw (r0 * 8 + (7 - p0)))) - 2)) (ι := ι) (k := r0 * 8 + (7 - p0)) (v := ((xPrune σ (r0 * 8 + p0) i0) 5 (r0 * 8 + (7 - p0))) - i0) ct78 (by omega) (by omega)) hD
                                              refine lv_aload hx hb dX2_work_250 (lv_at hl 2 rfl) ?_
                                              refine lv_iconst (v := iI (0)) hx hb dX2_work_252 rfl ?_
                                              refine va_put (D := D) (ci := 3) (v := .int (iI (0))) (ty := .boolean) (C := RX3) (T := TX3) (N := 4) hx hb hts hinX3 tyX3 tyX3_ok nmX3 hown hK hP hD hS (spos (su (su (xPrune σ (r0 * 8 + p0) i0) 8 (tw (r0 * 8 + (7 - p0))) (((xPrune σ (r0 * 8 + p0) i0) 8 (tw (r0 * 8 + (7 - p0)))) - 2)) 5 (r0 * 8 + (7 - p0)) (((xPrune σ (r0 * 8 + p0) i0) 5 (r0 * 8 + (7 - p0))) - i0)) ι (r0 * 8 + (7 - p0))) (sw_at ct78 (by omega) (by omega)) rfl 3 (by decide) (hts (.fieldLink RX2 51 "TwinOrchardLaw$Tree" "tired" "Z") (List.mem_of_getElem? (i := 9) rfl)) (fun _ h9 => h9) rfl (by decide +kernel) (nar_z (Or.inl rfl)) (fit_z (Or.inl rfl)) (Nat.le_of_ble_eq_true rfl) dX2_work_253 (fun H locs hP hD hS => ?_)
                                              have hP : va_P D vwCl (SW cI cT cU d (su (su (su (xPrune σ (r0 * 8 + p0) i0) 8 (tw (r0 * 8 + (7 - p0))) (((xPrune σ (r0 * 8 + p0) i0) 8 (tw (r0 * 8 + (7 - p0)))) - 2)) 5 (r0 * 8 + (7 - p0)) (((xPrune σ (r0 * 8 + p0) i0) 5 (r0 * 8 + (7 - p0))) - i0)) 7 (r0 * 8 + (7 - p0)) (0)) ι) H := va_Pe (sw_put7 (cI := cI) (cT := cT) (cU := cU) (d := d) (σ := su (su (xPrune σ (r0 * 8 + p0) i0) 8 (tw (r0 * 8 + (7 - p0))) (((xPrune σ (r0 * 8 + p0) i0) 8 (tw (r0 * 8 + (7 - p0)))) - 2)) 5 (r0 * 8 + (7 - p0)) (((xPrune σ (r0 * 8 + p0) i0) 5 (r0 * 8 + (7 - p0))) - i0)) (ι := ι) (k := r0 * 8 + (7 - p0)) (v := 0) ct78 (by omega) (by omega)) hP
                                              have hD : va_D A (SW cI cT cU d (su (su (su (xPrune σ (r0 * 8 + p0) i0) 8 (tw (r0 * 8 + (7 - p0))) (((xPrune σ (r0 * 8 + p0) i0) 8 (tw (r0 * 8 + (7 - p0)))) - 2)) 5 (r0 * 8 + (7 - p0)) (((xPrune σ (r0 * 8 + p0) i0) 5 (r0 * 8 + (7 - p0))) - i0)) 7 (r0 * 8 + (7 - p0)) (0)) ι) := va_De (sw_put7 (cI := cI) (cT := cT) (cU := cU) (d := d) (σ := su (su (xPrune σ (r0 * 8 + p0) i0) 8 (tw (r0 * 8 + (7 - p0))) (((xPrune σ (r0 * 8 + p0) i0) 8 (tw (r0 * 8 + (7 - p0)))) - 2)) 5 (r0 * 8 + (7 - p0)) (((xPrune σ (r0 * 8 + p0) i0) 5 (r0 * 8 + (7 - p0))) - i0)) (ι := ι) (k := r0 * 8 + (7 - p0)) (v := 0) ct78 (by omega) (by omega)) hD
                                              refine lv_goto (tgt := 309) hx hb dX2_work_256 (by decide) ?_
                                              have ha2 : prA (xPrune σ (r0 * 8 + p0) i0) (r0 * 8 + (7 - p0)) i0 = 1 := bI_t (by omega)
                                              have e8 : (su (su (su (xPrune σ (r0 * 8 + p0) i0) 8 (tw (r0 * 8 + (7 - p0))) (((xPrune σ (r0 * 8 + p0) i0) 8 (tw (r0 * 8 + (7 - p0)))) - 2)) 5 (r0 * 8 + (7 - p0)) (((xPrune σ (r0 * 8 + p0) i0) 5 (r0 * 8 + (7 - p0))) - i0)) 7 (r0 * 8 + (7 - p0)) (0)) = (xPrune (xPrune σ (r0 * 8 + p0) i0) (r0 * 8 + (7 - p0)) i0) := (xPrune_y (by omega)).symm
                                              rw [e8] at hP hD
                                              have hP : va_P D vwCl (SW cI cT cU d (xPrune (xPrune σ (r0 * 8 + p0) i0) (r0 * 8 + (7 - p0)) i0) ι) H := hP
                                              have hD : va_D A (SW cI cT cU d (xPrune (xPrune σ (r0 * 8 + p0) i0) (r0 * 8 + (7 - p0)) i0) ι) := hD
                                              refine lv_iinc (v := iI (2)) (lv' := [(7, .int (iI (2))), (6, .int (iI (0 + (1 + 1)))), (12, .int (iI (1))), (11, .ref (ι (r0 * 8 + (7 - p0))).toNat), (10, .int (iI (2))), (9, .int (iI (tw (r0 * 8 + (7 - p0))))), (8, .int (iI (7 - p0))), (0, .ref (d 0)), (1, .int (iI (1))), (2, .int (iI (r0))), (3, .int (iI (p0))), (4, .int (iI (i0))), (5, .int (iI (0)))]) hx hb dX2_work_309 hl (k := 6) rfl rfl (by decide) rfl (fun ls hl => ?_)
                                              refine lv_goto (tgt := 6) hx hb dX2_work_312 (by decide) ?_
                                              refine lv_iload hx hb dX2_work_6 (lv_at hl 0 rfl) ?_
                                              refine lv_iconst (v := iI (2)) hx hb dX2_work_8 rfl ?_
                                              refine gi_icmp_ge (tgt := 315) hx hb dX2_work_9 (by decide) ⟨by decide, by decide⟩ ⟨by decide, by decide⟩ (fun c9 => ?_) (fun c9 => ?_)
                                              · skip
                                                refine lv_iload hx hb dX2_work_315 (lv_at hl 1 rfl) ?_
                                                have ess : (xPrune (xPrune σ (r0 * 8 + p0) i0) (mir (r0 * 8 + p0)) i0) = (xPrune (xPrune σ (r0 * 8 + p0) i0) (r0 * 8 + (7 - p0)) i0) := by rw [em]
                                                have hP : va_P D vwCl (SW cI cT cU d (xPrune (xPrune σ (r0 * 8 + p0) i0) (mir (r0 * 8 + p0)) i0) ι) H := by rw [ess]; exact hP
                                                have hD : va_D A (SW cI cT cU d (xPrune (xPrune σ (r0 * 8 + p0) i0) (mir (r0 * 8 + p0)) i0) ι) := by rw [ess]; exact hD
                                                have er : ((who (prA σ (r0 * 8 + p0) i0) (prA (xPrune σ (r0 * 8 + p0) i0) (mir (r0 * 8 + p0)) i0) : Int)) = (0 + (1 + 1)) := by rw [em, ha1, ha2]; decide
                                                exact g_iret (wo := (fun κ' => SW cI cT cU d (xPrune (xPrune σ (r0 * 8 + p0) i0) (mir (r0 * 8 + p0)) i0) (κ' 2))) (kr := (fun κ' => True)) (rv := (fun _ => some (.int (iI (who (prA σ (r0 * 8 + p0) i0) (prA (xPrune σ (r0 * 8 + p0) i0) (mir (r0 * 8 + p0)) i0)))))) hx hb hr hlocks (fun _ => ι) rfl hP hK hD hS trivial (by rw [er]) (Nat.le_of_ble_eq_true rfl) (Nat.le_of_ble_eq_true rfl) dX2_work_317
                                              · skip
                                                omega
                                          · skip
                                            exact absurd c193 (by decide)
                                        · skip
                                          refine lv_goto (tgt := 309) hx hb dX2_work_168 (by decide) ?_
                                          have ha2 : prA (xPrune σ (r0 * 8 + p0) i0) (r0 * 8 + (7 - p0)) i0 = 0 := bI_f (by omega)
                                          have e8 : (xPrune σ (r0 * 8 + p0) i0) = (xPrune (xPrune σ (r0 * 8 + p0) i0) (r0 * 8 + (7 - p0)) i0) := (xPrune_n (by omega)).symm
                                          rw [e8] at hP hD
                                          have hP : va_P D vwCl (SW cI cT cU d (xPrune (xPrune σ (r0 * 8 + p0) i0) (r0 * 8 + (7 - p0)) i0) ι) H := hP
                                          have hD : va_D A (SW cI cT cU d (xPrune (xPrune σ (r0 * 8 + p0) i0) (r0 * 8 + (7 - p0)) i0) ι) := hD
                                          refine lv_iinc (v := iI (2)) (lv' := [(7, .int (iI (2))), (12, .int (iI (1))), (11, .ref (ι (r0 * 8 + (7 - p0))).toNat), (10, .int (iI (2))), (9, .int (iI (tw (r0 * 8 + (7 - p0))))), (8, .int (iI (7 - p0))), (6, .int (iI (0))), (0, .ref (d 0)), (1, .int (iI (1))), (2, .int (iI (r0))), (3, .int (iI (p0))), (4, .int (iI (i0))), (5, .int (iI (0)))]) hx hb dX2_work_309 hl (k := 5) rfl rfl (by decide) rfl (fun ls hl => ?_)
                                          refine lv_goto (tgt := 6) hx hb dX2_work_312 (by decide) ?_
                                          refine lv_iload hx hb dX2_work_6 (lv_at hl 0 rfl) ?_
                                          refine lv_iconst (v := iI (2)) hx hb dX2_work_8 rfl ?_
                                          refine gi_icmp_ge (tgt := 315) hx hb dX2_work_9 (by decide) ⟨by decide, by decide⟩ ⟨by decide, by decide⟩ (fun c9 => ?_) (fun c9 => ?_)
                                          · skip
                                            refine lv_iload hx hb dX2_work_315 (lv_at hl 6 rfl) ?_
                                            have ess : (xPrune (xPrune σ (r0 * 8 + p0) i0) (mir (r0 * 8 + p0)) i0) = (xPrune (xPrune σ (r0 * 8 + p0) i0) (r0 * 8 + (7 - p0)) i0) := by rw [em]
                                            have hP : va_P D vwCl (SW cI cT cU d (xPrune (xPrune σ (r0 * 8 + p0) i0) (mir (r0 * 8 + p0)) i0) ι) H := by rw [ess]; exact hP
                                            have hD : va_D A (SW cI cT cU d (xPrune (xPrune σ (r0 * 8 + p0) i0) (mir (r0 * 8 + p0)) i0) ι) := by rw [ess]; exact hD
                                            have er : ((who (prA σ (r0 * 8 + p0) i0) (prA (xPrune σ (r0 * 8 + p0) i0) (mir (r0 * 8 + p0)) i0) : Int)) = (0) := by rw [em, ha1, ha2]; decide
                                            exact g_iret (wo := (fun κ' => SW cI cT cU d (xPrune (xPrune σ (r0 * 8 + p0) i0) (mir (r0 * 8 + p0)) i0) (κ' 2))) (kr := (fun κ' => True)) (rv := (fun _ => some (.int (iI (who (prA σ (r0 * 8 + p0) i0) (prA (xPrune σ (r0 * 8 + p0) i0) (mir (r0 * 8 + p0)) i0)))))) hx hb hr hlocks (fun _ => ι) rfl hP hK hD hS trivial (by rw [er]) (Nat.le_of_ble_eq_true rfl) (Nat.le_of_ble_eq_true rfl) dX2_work_317
                                          · skip
                                            omega
                                · skip
                                  exact absurd c82 (by decide)
                          · skip
                            exact absurd c41 (by decide)
                        · skip
                          exact absurd c14 (by decide)
            · skip
              exact absurd c82 (by decide)
      · skip
        exact absurd c41 (by decide)
set_option maxHeartbeats 4000000 in
set_option maxRecDepth 100000 in
theorem kX2_work_2 (l : Launch) (D : va_G) (cI cZ cT cU cQ : ClassId) (d : Nat → Nat) (σ : St) (ι : Int → Int) (r0 : Int) (p0 : Int) (i0 : Int) (hwf : xWF σ) (hr : 0 ≤ r0 ∧ r0 ≤ 4) (hp : 0 ≤ p0 ∧ p0 ≤ 7) (hi : 0 ≤ i0 ∧ i0 ≤ 5) : gMet l yX2_work wsX2_work ({ frames := 2, cells := 0, slots := 0, locals := 44 } : Room) D (tyA cI cZ cT cU cQ) (SW cI cT cU d σ ι) [.ref (d 0), .int (iI (2)), .int (iI (r0)), .int (iI (p0)), .int (iI (i0)), .int (iI (0))] nst (fun _ => some (.int (iI (who (grA σ (r0 * 8 + p0) i0) (grA (xGraft σ (r0 * 8 + p0) i0) (mir (r0 * 8 + p0)) i0))))) (fun κ' => True) (fun κ' => SW cI cT cU d (xGraft (xGraft σ (r0 * 8 + p0) i0) (mir (r0 * 8 + p0)) i0) (κ' 2)) := by
  refine g_start (cc := cX2_work) (maxL := 13) (ret := (some .int)) (by decide) rfl (Nat.le_of_ble_eq_true rfl) ?_
  intro p e s m args below meth c A ls H locs S hr hlocks hname hP hK hD hA hS hE hl
  have S0 := S
  obtain ⟨hx, hb, hml, hown, hts⟩ := S0
  have hl : lv_has ls 13 [(0, .ref (d 0)), (1, .int (iI (2))), (2, .int (iI (r0))), (3, .int (iI (p0))), (4, .int (iI (i0))), (5, .int (iI (0)))] := hl
  have hinX2 : ∀ w ∈ wsX20, w ∈ wsX2_work := by decide +kernel
  have hinX3 : ∀ w ∈ wsX30, w ∈ wsX2_work := by decide +kernel
  have kt := tw_in (r0 * 8 + p0)
  have kt2 := tw_in (r0 * 8 + (7 - p0))
  have k4 := xWF_4 hwf (r0 * 8 + p0)
  have k5 := xWF_5 hwf (r0 * 8 + p0)
  have k8 := xWF_8 hwf (tw (r0 * 8 + p0))
  have em : mir (r0 * 8 + p0) = r0 * 8 + (7 - p0) := by unfold mir; omega
  refine lv_iconst (v := iI (0)) hx hb dX2_work_0 rfl ?_
  refine lv_istore (lv' := [(6, .int (iI (0))), (0, .ref (d 0)), (1, .int (iI (2))), (2, .int (iI (r0))), (3, .int (iI (p0))), (4, .int (iI (i0))), (5, .int (iI (0)))]) hx hb dX2_work_1 hl (by decide) rfl (fun ls hl => ?_)
  refine lv_iconst (v := iI (0)) hx hb dX2_work_3 rfl ?_
  refine lv_istore (lv' := [(7, .int (iI (0))), (6, .int (iI (0))), (0, .ref (d 0)), (1, .int (iI (2))), (2, .int (iI (r0))), (3, .int (iI (p0))), (4, .int (iI (i0))), (5, .int (iI (0)))]) hx hb dX2_work_4 hl (by decide) rfl (fun ls hl => ?_)
  refine lv_iload hx hb dX2_work_6 (lv_at hl 0 rfl) ?_
  refine lv_iconst (v := iI (2)) hx hb dX2_work_8 rfl ?_
  refine gi_icmp_ge (tgt := 315) hx hb dX2_work_9 (by decide) ⟨by decide, by decide⟩ ⟨by decide, by decide⟩ (fun c9 => ?_) (fun c9 => ?_)
  · skip
    exact absurd c9 (by decide)
  · skip
    refine lv_iload hx hb dX2_work_12 (lv_at hl 0 rfl) ?_
    refine gi_if_ne (tgt := 21) hx hb dX2_work_14 (by decide) ⟨by decide, by decide⟩ (fun c14 => ?_) (fun c14 => ?_)
    · skip
      exact absurd rfl c14
    · skip
      refine lv_iload_n hx hb dX2_work_17 rfl (lv_at hl 5 rfl) ?_
      refine lv_goto (tgt := 25) hx hb dX2_work_18 (by decide) ?_
      refine lv_istore (lv' := [(8, .int (iI (p0))), (7, .int (iI (0))), (6, .int (iI (0))), (0, .ref (d 0)), (1, .int (iI (2))), (2, .int (iI (r0))), (3, .int (iI (p0))), (4, .int (iI (i0))), (5, .int (iI (0)))]) hx hb dX2_work_25 hl (by decide) rfl (fun ls hl => ?_)
      refine lv_iload hx hb dX2_work_27 (lv_at hl 0 rfl) ?_
      refine lv_iconst (v := iI (4)) hx hb dX2_work_29 rfl ?_
      refine g_selGe (u := 0) (v := 1) (t1 := 37) (t2 := 38) hx hb ⟨by omega, by omega⟩ ⟨by decide, by decide⟩ dX2_work_30 (by decide) (fun st h => lv_iconst (v := iI (0)) hx hb dX2_work_33 rfl (lv_goto (tgt := 38) hx hb dX2_work_34 (by decide) h)) (fun st h => lv_iconst (v := iI (1)) hx hb dX2_work_37 rfl h) ?_
      rw [show (if p0 < 4 then (0 : Int) else 1) = tw (r0 * 8 + p0) from by unfold tw; split <;> split <;> omega]
      refine lv_istore (lv' := [(9, .int (iI (tw (r0 * 8 + p0)))), (8, .int (iI (p0))), (7, .int (iI (0))), (6, .int (iI (0))), (0, .ref (d 0)), (1, .int (iI (2))), (2, .int (iI (r0))), (3, .int (iI (p0))), (4, .int (iI (i0))), (5, .int (iI (0)))]) hx hb dX2_work_38 hl (by decide) rfl (fun ls hl => ?_)
      refine lv_iload_n hx hb dX2_work_40 rfl (lv_at hl 5 rfl) ?_
      refine gi_if_ne (tgt := 48) hx hb dX2_work_41 (by decide) ⟨by decide, by decide⟩ (fun c41 => ?_) (fun c41 => ?_)
      · skip
        refine lv_iload_n hx hb dX2_work_48 rfl (lv_at hl 5 rfl) ?_
        refine lv_iconst (v := iI (1)) hx hb dX2_work_49 rfl ?_
        refine gi_icmp_ne (tgt := 57) hx hb dX2_work_50 (by decide) ⟨by decide, by decide⟩ ⟨by decide, by decide⟩ (fun c50 => ?_) (fun c50 => ?_)
        · skip
          refine lv_iload_n hx hb dX2_work_57 rfl (lv_at hl 5 rfl) ?_
          refine lv_iconst (v := iI (2)) hx hb dX2_work_58 rfl ?_
          refine gi_icmp_ne (tgt := 66) hx hb dX2_work_59 (by decide) ⟨by decide, by decide⟩ ⟨by decide, by decide⟩ (fun c59 => ?_) (fun c59 => ?_)
          · skip
            exact absurd rfl c59
          · skip
            refine lv_iconst (v := iI (4)) hx hb dX2_work_62 rfl ?_
            refine lv_goto (tgt := 68) hx hb dX2_work_63 (by decide) ?_
            refine lv_istore (lv' := [(10, .int (iI (4))), (9, .int (iI (tw (r0 * 8 + p0)))), (8, .int (iI (p0))), (7, .int (iI (0))), (6, .int (iI (0))), (0, .ref (d 0)), (1, .int (iI (2))), (2, .int (iI (r0))), (3, .int (iI (p0))), (4, .int (iI (i0))), (5, .int (iI (0)))]) hx hb dX2_work_68 hl (by decide) rfl (fun ls hl => ?_)
            refine lv_aload_n hx hb dX2_work_70 rfl (lv_at hl 5 rfl) ?_
            refine va_get (D := D) (ci := 2) (v := .ref (d 1)) (C := RX2) (T := TX2) (N := 8) hx hb hts hinX2 hown hK hP 0 rfl rfl 0 (by decide) (hts (.fieldLink RX2 9 "TwinOrchardLaw$Sim" "trees" "[[LTwinOrchardLaw$Tree;") (List.mem_of_getElem? (i := 1) rfl)) (fun _ h9 => h9) rfl dX2_work_71 ?_
            refine lv_iload_n hx hb dX2_work_74 rfl (lv_at hl 7 rfl) ?_
            refine s_row (f := srt d) hx hb hK hP 1 3 rfl rfl (by omega) (by omega) (by decide) (v := d (r0.toNat + 7)) (if_pos (by omega)) dX2_work_75 ?_
            refine lv_iload hx hb dX2_work_76 (lv_at hl 2 rfl) ?_
            refine s_tree (σ := σ) (ι := ι) (r := r0) (i := p0) hx hb hK hP (r0.toNat + 7) 2 (sw_row (by omega) (by omega)) rfl (by omega) (by omega) dX2_work_78 (fun ct78 => ?_) (fun ct78 => ?_)
            · skip
              refine lv_astoreN (lv' := [(11, .null), (10, .int (iI (4))), (9, .int (iI (tw (r0 * 8 + p0)))), (8, .int (iI (p0))), (7, .int (iI (0))), (6, .int (iI (0))), (0, .ref (d 0)), (1, .int (iI (2))), (2, .int (iI (r0))), (3, .int (iI (p0))), (4, .int (iI (i0))), (5, .int (iI (0)))]) hx hb dX2_work_79 hl (by decide) rfl (fun ls hl => ?_)
              refine lv_iload_n hx hb dX2_work_81 rfl (lv_at hl 7 rfl) ?_
              refine gi_if_ne (tgt := 98) hx hb dX2_work_82 (by decide) ⟨by decide, by decide⟩ (fun c82 => ?_) (fun c82 => ?_)
              · skip
                refine lv_aloadN hx hb dX2_work_98 (lv_at hl 0 rfl) ?_
                refine lv_ifnullN (tgt := 148) hx hb dX2_work_100 (by decide) ?_
                refine lv_iconst (v := iI (0)) hx hb dX2_work_148 rfl ?_
                refine lv_istore (lv' := [(12, .int (iI (0))), (11, .null), (10, .int (iI (4))), (9, .int (iI (tw (r0 * 8 + p0)))), (8, .int (iI (p0))), (7, .int (iI (0))), (6, .int (iI (0))), (0, .ref (d 0)), (1, .int (iI (2))), (2, .int (iI (r0))), (3, .int (iI (p0))), (4, .int (iI (i0))), (5, .int (iI (0)))]) hx hb dX2_work_149 hl (by decide) rfl (fun ls hl => ?_)
                refine lv_iload hx hb dX2_work_151 (lv_at hl 0 rfl) ?_
                refine gi_if_eq (tgt := 309) hx hb dX2_work_153 (by decide) ⟨by decide, by decide⟩ (fun c153 => ?_) (fun c153 => ?_)
                · skip
                  have ha1 : grA σ (r0 * 8 + p0) i0 = 0 := bI_f (by omega)
                  have e8 : (σ) = (xGraft σ (r0 * 8 + p0) i0) := (xGraft_n (by omega)).symm
                  rw [e8] at hP hD
                  have hP : va_P D vwCl (SW cI cT cU d (xGraft σ (r0 * 8 + p0) i0) ι) H := hP
                  have hD : va_D A (SW cI cT cU d (xGraft σ (r0 * 8 + p0) i0) ι) := hD
                  have hwf2 : xWF (xGraft σ (r0 * 8 + p0) i0) := xWF_graft hwf hi
                  have k4b := xWF_4 hwf2 (r0 * 8 + (7 - p0))
                  have k5b := xWF_5 hwf2 (r0 * 8 + (7 - p0))
                  have k8b := xWF_8 hwf2 (tw (r0 * 8 + (7 - p0)))
                  refine lv_iinc (v := iI (1)) (lv' := [(7, .int (iI (1))), (12, .int (iI (0))), (11, .null), (10, .int (iI (4))), (9, .int (iI (tw (r0 * 8 + p0)))), (8, .int (iI (p0))), (6, .int (iI (0))), (0, .ref (d 0)), (1, .int (iI (2))), (2, .int (iI (r0))), (3, .int (iI (p0))), (4, .int (iI (i0))), (5, .int (iI (0)))]) hx hb dX2_work_309 hl (k := 5) rfl rfl (by decide) rfl (fun ls hl => ?_)
                  refine lv_goto (tgt := 6) hx hb dX2_work_312 (by decide) ?_
                  refine lv_iload hx hb dX2_work_6 (lv_at hl 0 rfl) ?_
                  refine lv_iconst (v := iI (2)) hx hb dX2_work_8 rfl ?_
                  refine gi_icmp_ge (tgt := 315) hx hb dX2_work_9 (by decide) ⟨by decide, by decide⟩ ⟨by decide, by decide⟩ (fun c9 => ?_) (fun c9 => ?_)
                  · skip
                    exact absurd c9 (by decide)
                  · skip
                    refine lv_iload hx hb dX2_work_12 (lv_at hl 0 rfl) ?_
                    refine gi_if_ne (tgt := 21) hx hb dX2_work_14 (by decide) ⟨by decide, by decide⟩ (fun c14 => ?_) (fun c14 => ?_)
                    · skip
                      refine lv_bipush (v := iI (7)) hx hb dX2_work_21 rfl ?_
                      refine lv_iload_n hx hb dX2_work_23 rfl (lv_at hl 10 rfl) ?_
                      refine gi_sub hx hb dX2_work_24 ?_
                      refine lv_istore (lv' := [(8, .int (iI (7 - p0))), (7, .int (iI (1))), (12, .int (iI (0))), (11, .null), (10, .int (iI (4))), (9, .int (iI (tw (r0 * 8 + p0)))), (6, .int (iI (0))), (0, .ref (d 0)), (1, .int (iI (2))), (2, .int (iI (r0))), (3, .int (iI (p0))), (4, .int (iI (i0))), (5, .int (iI (0)))]) hx hb dX2_work_25 hl (by decide) rfl (fun ls hl => ?_)
                      refine lv_iload hx hb dX2_work_27 (lv_at hl 0 rfl) ?_
                      refine lv_iconst (v := iI (4)) hx hb dX2_work_29 rfl ?_
                      refine g_selGe (u := 0) (v := 1) (t1 := 37) (t2 := 38) hx hb ⟨by omega, by omega⟩ ⟨by decide, by decide⟩ dX2_work_30 (by decide) (fun st h => lv_iconst (v := iI (0)) hx hb dX2_work_33 rfl (lv_goto (tgt := 38) hx hb dX2_work_34 (by decide) h)) (fun st h => lv_iconst (v := iI (1)) hx hb dX2_work_37 rfl h) ?_
                      rw [show (if 7 - p0 < 4 then (0 : Int) else 1) = tw (r0 * 8 + (7 - p0)) from by unfold tw; split <;> split <;> omega]
                      refine lv_istore (lv' := [(9, .int (iI (tw (r0 * 8 + (7 - p0))))), (8, .int (iI (7 - p0))), (7, .int (iI (1))), (12, .int (iI (0))), (11, .null), (10, .int (iI (4))), (6, .int (iI (0))), (0, .ref (d 0)), (1, .int (iI (2))), (2, .int (iI (r0))), (3, .int (iI (p0))), (4, .int (iI (i0))), (5, .int (iI (0)))]) hx hb dX2_work_38 hl (by decide) rfl (fun ls hl => ?_)
                      refine lv_iload_n hx hb dX2_work_40 rfl (lv_at hl 8 rfl) ?_
                      refine gi_if_ne (tgt := 48) hx hb dX2_work_41 (by decide) ⟨by decide, by decide⟩ (fun c41 => ?_) (fun c41 => ?_)
                      · skip
                        refine lv_iload_n hx hb dX2_work_48 rfl (lv_at hl 8 rfl) ?_
                        refine lv_iconst (v := iI (1)) hx hb dX2_work_49 rfl ?_
                        refine gi_icmp_ne (tgt := 57) hx hb dX2_work_50 (by decide) ⟨by decide, by decide⟩ ⟨by decide, by decide⟩ (fun c50 => ?_) (fun c50 => ?_)
                        · skip
                          refine lv_iload_n hx hb dX2_work_57 rfl (lv_at hl 8 rfl) ?_
                          refine lv_iconst (v := iI (2)) hx hb dX2_work_58 rfl ?_
                          refine gi_icmp_ne (tgt := 66) hx hb dX2_work_59 (by decide) ⟨by decide, by decide⟩ ⟨by decide, by decide⟩ (fun c59 => ?_) (fun c59 => ?_)
                          · skip
                            exact absurd rfl c59
                          · skip
                            refine lv_iconst (v := iI (4)) hx hb dX2_work_62 rfl ?_
                            refine lv_goto (tgt := 68) hx hb dX2_work_63 (by decide) ?_
                            refine lv_istore (lv' := [(10, .int (iI (4))), (9, .int (iI (tw (r0 * 8 + (7 - p0))))), (8, .int (iI (7 - p0))), (7, .int (iI (1))), (12, .int (iI (0))), (11, .null), (6, .int (iI (0))), (0, .ref (d 0)), (1, .int (iI (2))), (2, .int (iI (r0))), (3, .int (iI (p0))), (4, .int (iI (i0))), (5, .int (iI (0)))]) hx hb dX2_work_68 hl (by decide) rfl (fun ls hl => ?_)
                            refine lv_aload_n hx hb dX2_work_70 rfl (lv_at hl 7 rfl) ?_
                            refine va_get (D := D) (ci := 2) (v := .ref (d 1)) (C := RX2) (T := TX2) (N := 8) hx hb hts hinX2 hown hK hP 0 rfl rfl 0 (by decide) (hts (.fieldLink RX2 9 "TwinOrchardLaw$Sim" "trees" "[[LTwinOrchardLaw$Tree;") (List.mem_of_getElem? (i := 1) rfl)) (fun _ h9 => h9) rfl dX2_work_71 ?_
                            refine lv_iload_n hx hb dX2_work_74 rfl (lv_at hl 9 rfl) ?_
                            refine s_row (f := srt d) hx hb hK hP 1 3 rfl rfl (by omega) (by omega) (by decide) (v := d (r0.toNat + 7)) (if_pos (by omega)) dX2_work_75 ?_
                            refine lv_iload hx hb dX2_work_76 (lv_at hl 2 rfl) ?_
                            refine s_tree (σ := xGraft σ (r0 * 8 + p0) i0) (ι := ι) (r := r0) (i := 7 - p0) hx hb hK hP (r0.toNat + 7) 2 (sw_row (by omega) (by omega)) rfl (by omega) (by omega) dX2_work_78 (fun ct78 => ?_) (fun ct78 => ?_)
                            · skip
                              refine lv_astoreN (lv' := [(11, .null), (10, .int (iI (4))), (9, .int (iI (tw (r0 * 8 + (7 - p0))))), (8, .int (iI (7 - p0))), (7, .int (iI (1))), (12, .int (iI (0))), (6, .int (iI (0))), (0, .ref (d 0)), (1, .int (iI (2))), (2, .int (iI (r0))), (3, .int (iI (p0))), (4, .int (iI (i0))), (5, .int (iI (0)))]) hx hb dX2_work_79 hl (by decide) rfl (fun ls hl => ?_)
                              refine lv_iload_n hx hb dX2_work_81 rfl (lv_at hl 8 rfl) ?_
                              refine gi_if_ne (tgt := 98) hx hb dX2_work_82 (by decide) ⟨by decide, by decide⟩ (fun c82 => ?_) (fun c82 => ?_)
                              · skip
                                refine lv_aloadN hx hb dX2_work_98 (lv_at hl 0 rfl) ?_
                                refine lv_ifnullN (tgt := 148) hx hb dX2_work_100 (by decide) ?_
                                refine lv_iconst (v := iI (0)) hx hb dX2_work_148 rfl ?_
                                refine lv_istore (lv' := [(12, .int (iI (0))), (11, .null), (10, .int (iI (4))), (9, .int (iI (tw (r0 * 8 + (7 - p0))))), (8, .int (iI (7 - p0))), (7, .int (iI (1))), (6, .int (iI (0))), (0, .ref (d 0)), (1, .int (iI (2))), (2, .int (iI (r0))), (3, .int (iI (p0))), (4, .int (iI (i0))), (5, .int (iI (0)))]) hx hb dX2_work_149 hl (by decide) rfl (fun ls hl => ?_)
                                refine lv_iload hx hb dX2_work_151 (lv_at hl 0 rfl) ?_
                                refine gi_if_eq (tgt := 309) hx hb dX2_work_153 (by decide) ⟨by decide, by decide⟩ (fun c153 => ?_) (fun c153 => ?_)
                                · skip
                                  have ha2 : grA (xGraft σ (r0 * 8 + p0) i0) (r0 * 8 + (7 - p0)) i0 = 0 := bI_f (by omega)
                                  have e8 : (xGraft σ (r0 * 8 + p0) i0) = (xGraft (xGraft σ (r0 * 8 + p0) i0) (r0 * 8 + (7 - p0)) i0) := (xGraft_n (by omega)).symm
                                  rw [e8] at hP hD
                                  have hP : va_P D vwCl (SW cI cT cU d (xGraft (xGraft σ (r0 * 8 + p0) i0) (r0 * 8 + (7 - p0)) i0) ι) H := hP
                                  have hD : va_D A (SW cI cT cU d (xGraft (xGraft σ (r0 * 8 + p0) i0) (r0 * 8 + (7 - p0)) i0) ι) := hD
                                  refine lv_iinc (v := iI (2)) (lv' := [(7, .int (iI (2))), (12, .int (iI (0))), (11, .null), (10, .int (iI (4))), (9, .int (iI (tw (r0 * 8 + (7 - p0))))), (8, .int (iI (7 - p0))), (6, .int (iI (0))), (0, .ref (d 0)), (1, .int (iI (2))), (2, .int (iI (r0))), (3, .int (iI (p0))), (4, .int (iI (i0))), (5, .int (iI (0)))]) hx hb dX2_work_309 hl (k := 5) rfl rfl (by decide) rfl (fun ls hl => ?_)
                                  refine lv_goto (tgt := 6) hx hb dX2_work_312 (by decide) ?_
                                  refine lv_iload hx hb dX2_work_6 (lv_at hl 0 rfl) ?_
                                  refine lv_iconst (v := iI (2)) hx hb dX2_work_8 rfl ?_
                                  refine gi_icmp_ge (tgt := 315) hx hb dX2_work_9 (by decide) ⟨by decide, by decide⟩ ⟨by decide, by decide⟩ (fun c9 => ?_) (fun c9 => ?_)
                                  · skip
                                    refine lv_iload hx hb dX2_work_315 (lv_at hl 6 rfl) ?_
                                    have ess : (xGraft (xGraft σ (r0 * 8 + p0) i0) (mir (r0 * 8 + p0)) i0) = (xGraft (xGraft σ (r0 * 8 + p0) i0) (r0 * 8 + (7 - p0)) i0) := by rw [em]
                                    have hP : va_P D vwCl (SW cI cT cU d (xGraft (xGraft σ (r0 * 8 + p0) i0) (mir (r0 * 8 + p0)) i0) ι) H := by rw [ess]; exact hP
                                    have hD : va_D A (SW cI cT cU d (xGraft (xGraft σ (r0 * 8 + p0) i0) (mir (r0 * 8 + p0)) i0) ι) := by rw [ess]; exact hD
                                    have er : ((who (grA σ (r0 * 8 + p0) i0) (grA (xGraft σ (r0 * 8 + p0) i0) (mir (r0 * 8 + p0)) i0) : Int)) = (0) := by rw [em, ha1, ha2]; decide
                                    exact g_iret (wo := (fun κ' => SW cI cT cU d (xGraft (xGraft σ (r0 * 8 + p0) i0) (mir (r0 * 8 + p0)) i0) (κ' 2))) (kr := (fun κ' => True)) (rv := (fun _ => some (.int (iI (who (grA σ (r0 * 8 + p0) i0) (grA (xGraft σ (r0 * 8 + p0) i0) (mir (r0 * 8 + p0)) i0)))))) hx hb hr hlocks (fun _ => ι) rfl hP hK hD hS trivial (by rw [er]) (Nat.le_of_ble_eq_true rfl) (Nat.le_of_ble_eq_true rfl) dX2_work_317
                                  · skip
                                    omega
                                · skip
                                  exact absurd rfl c153
                              · skip
                                exact absurd c82 (by decide)
                            · skip
                              refine lv_astore (lv' := [(11, .ref (ι (r0 * 8 + (7 - p0))).toNat), (10, .int (iI (4))), (9, .int (iI (tw (r0 * 8 + (7 - p0))))), (8, .int (iI (7 - p0))), (7, .int (iI (1))), (12, .int (iI (0))), (6, .int (iI (0))), (0, .ref (d 0)), (1, .int (iI (2))), (2, .int (iI (r0))), (3, .int (iI (p0))), (4, .int (iI (i0))), (5, .int (iI (0)))]) hx hb dX2_work_79 hl (by decide) rfl (fun ls hl => ?_)
                              refine lv_iload_n hx hb dX2_work_81 rfl (lv_at hl 8 rfl) ?_
                              refine gi_if_ne (tgt := 98) hx hb dX2_work_82 (by decide) ⟨by decide, by decide⟩ (fun c82 => ?_) (fun c82 => ?_)
                              · skip
                                refine lv_aload hx hb dX2_work_98 (lv_at hl 0 rfl) ?_
                                refine lv_ifnull hx hb dX2_work_100 ?_
                                refine lv_iload_n hx hb dX2_work_103 rfl (lv_at hl 8 rfl) ?_
                                refine lv_iconst (v := iI (1)) hx hb dX2_work_104 rfl ?_
                                refine gi_icmp_ne (tgt := 121) hx hb dX2_work_105 (by decide) ⟨by decide, by decide⟩ ⟨by decide, by decide⟩ (fun c105 => ?_) (fun c105 => ?_)
                                · skip
                                  refine lv_iload_n hx hb dX2_work_121 rfl (lv_at hl 8 rfl) ?_
                                  refine lv_iconst (v := iI (2)) hx hb dX2_work_122 rfl ?_
                                  refine gi_icmp_ne (tgt := 144) hx hb dX2_work_123 (by decide) ⟨by decide, by decide⟩ ⟨by decide, by decide⟩ (fun c123 => ?_) (fun c123 => ?_)
                                  · skip
                                    exact absurd rfl c123
                                  · skip
                                    refine lv_aload hx hb dX2_work_126 (lv_at hl 0 rfl) ?_
                                    refine va_get (D := D) (ci := 3) (v := .int (iI ((xGraft σ (r0 * 8 + p0) i0) 4 (r0 * 8 + (7 - p0))))) (C := RX3) (T := TX3) (N := 4) hx hb hts hinX3 hown hK hP (spos (xGraft σ (r0 * 8 + p0) i0) ι (r0 * 8 + (7 - p0))) (sw_at ct78 (by omega) (by omega)) rfl 2 (by decide) (hts (.fieldLink RX2 44 "TwinOrchardLaw$Tree" "sort" "I") (List.mem_of_getElem? (i := 3) rfl)) (fun _ h9 => h9) rfl dX2_work_128 ?_
                                    refine lv_iload hx hb dX2_work_131 (lv_at hl 11 rfl) ?_
                                    refine gi_icmp_eq (tgt := 148) hx hb dX2_work_133 (by decide) ⟨by omega, by omega⟩ ⟨by omega, by omega⟩ (fun c133 => ?_) (fun c133 => ?_)
                                    · skip
                                      refine lv_iconst (v := iI (0)) hx hb dX2_work_148 rfl ?_
                                      refine lv_istore (lv' := [(12, .int (iI (0))), (11, .ref (ι (r0 * 8 + (7 - p0))).toNat), (10, .int (iI (4))), (9, .int (iI (tw (r0 * 8 + (7 - p0))))), (8, .int (iI (7 - p0))), (7, .int (iI (1))), (6, .int (iI (0))), (0, .ref (d 0)), (1, .int (iI (2))), (2, .int (iI (r0))), (3, .int (iI (p0))), (4, .int (iI (i0))), (5, .int (iI (0)))]) hx hb dX2_work_149 hl (by decide) rfl (fun ls hl => ?_)
                                      refine lv_iload hx hb dX2_work_151 (lv_at hl 0 rfl) ?_
                                      refine gi_if_eq (tgt := 309) hx hb dX2_work_153 (by decide) ⟨by decide, by decide⟩ (fun c153 => ?_) (fun c153 => ?_)
                                      · skip
                                        have ha2 : grA (xGraft σ (r0 * 8 + p0) i0) (r0 * 8 + (7 - p0)) i0 = 0 := bI_f (by omega)
                                        have e8 : (xGraft σ (r0 * 8 + p0) i0) = (xGraft (xGraft σ (r0 * 8 + p0) i0) (r0 * 8 + (7 - p0)) i0) := (xGraft_n (by omega)).symm
                                        rw [e8] at hP hD
                                        have hP : va_P D vwCl (SW cI cT cU d (xGraft (xGraft σ (r0 * 8 + p0) i0) (r0 * 8 + (7 - p0)) i0) ι) H := hP
                                        have hD : va_D A (SW cI cT cU d (xGraft (xGraft σ (r0 * 8 + p0) i0) (r0 * 8 + (7 - p0)) i0) ι) := hD
                                        refine lv_iinc (v := iI (2)) (lv' := [(7, .int (iI (2))), (12, .int (iI (0))), (11, .ref (ι (r0 * 8 + (7 - p0))).toNat), (10, .int (iI (4))), (9, .int (iI (tw (r0 * 8 + (7 - p0))))), (8, .int (iI (7 - p0))), (6, .int (iI (0))), (0, .ref (d 0)), (1, .int (iI (2))), (2, .int (iI (r0))), (3, .int (iI (p0))), (4, .int (iI (i0))), (5, .int (iI (0)))]) hx hb dX2_work_309 hl (k := 5) rfl rfl (by decide) rfl (fun ls hl => ?_)
                                        refine lv_goto (tgt := 6) hx hb dX2_work_312 (by decide) ?_
                                        refine lv_iload hx hb dX2_work_6 (lv_at hl 0 rfl) ?_
                                        refine lv_iconst (v := iI (2)) hx hb dX2_work_8 rfl ?_
                                        refine gi_icmp_ge (tgt := 315) hx hb dX2_work_9 (by decide) ⟨by decide, by decide⟩ ⟨by decide, by decide⟩ (fun c9 => ?_) (fun c9 => ?_)
                                        · skip
                                          refine lv_iload hx hb dX2_work_315 (lv_at hl 6 rfl) ?_
                                          have ess : (xGraft (xGraft σ (r0 * 8 + p0) i0) (mir (r0 * 8 + p0)) i0) = (xGraft (xGraft σ (r0 * 8 + p0) i0) (r0 * 8 + (7 - p0)) i0) := by rw [em]
                                          have hP : va_P D vwCl (SW cI cT cU d (xGraft (xGraft σ (r0 * 8 + p0) i0) (mir (r0 * 8 + p0)) i0) ι) H := by rw [ess]; exact hP
                                          have hD : va_D A (SW cI cT cU d (xGraft (xGraft σ (r0 * 8 + p0) i0) (mir (r0 * 8 + p0)) i0) ι) := by rw [ess]; exact hD
                                          have er : ((who (grA σ (r0 * 8 + p0) i0) (grA (xGraft σ (r0 * 8 + p0) i0) (mir (r0 * 8 + p0)) i0) : Int)) = (0) := by rw [em, ha1, ha2]; decide
                                          exact g_iret (wo := (fun κ' => SW cI cT cU d (xGraft (xGraft σ (r0 * 8 + p0) i0) (mir (r0 * 8 + p0)) i0) (κ' 2))) (kr := (fun κ' => True)) (rv := (fun _ => some (.int (iI (who (grA σ (r0 * 8 + p0) i0) (grA (xGraft σ (r0 * 8 + p0) i0) (mir (r0 * 8 + p0)) i0)))))) hx hb hr hlocks (fun _ => ι) rfl hP hK hD hS trivial (by rw [er]) (Nat.le_of_ble_eq_true rfl) (Nat.le_of_ble_eq_true rfl) dX2_work_317
                                        · skip
                                          omega
                                      · skip
                                        exact absurd rfl c153
                                    · skip
                                      refine lv_aload hx hb dX2_work_136 (lv_at hl 0 rfl) ?_
                                      refine va_get (D := D) (ci := 3) (v := .int (iI ((xGraft σ (r0 * 8 + p0) i0) 5 (r0 * 8 + (7 - p0))))) (C := RX3) (T := TX3) (N := 4) hx hb hts hinX3 hown hK hP (spos (xGraft σ (r0 * 8 + p0) i0) ι (r0 * 8 + (7 - p0))) (sw_at ct78 (by omega) (by omega)) rfl 0 (by decide) (hts (.fieldLink RX2 41 "TwinOrchardLaw$Tree" "branches" "I") (List.mem_of_getElem? (i := 2) rfl)) (fun _ h9 => h9) rfl dX2_work_138 ?_
                                      refine gi_if_le (tgt := 148) hx hb dX2_work_141 (by decide) ⟨by omega, by omega⟩ (fun c141 => ?_) (fun c141 => ?_)
                                      · skip
                                        refine lv_iconst (v := iI (0)) hx hb dX2_work_148 rfl ?_
                                        refine lv_istore (lv' := [(12, .int (iI (0))), (11, .ref (ι (r0 * 8 + (7 - p0))).toNat), (10, .int (iI (4))), (9, .int (iI (tw (r0 * 8 + (7 - p0))))), (8, .int (iI (7 - p0))), (7, .int (iI (1))), (6, .int (iI (0))), (0, .ref (d 0)), (1, .int (iI (2))), (2, .int (iI (r0))), (3, .int (iI (p0))), (4, .int (iI (i0))), (5, .int (iI (0)))]) hx hb dX2_work_149 hl (by decide) rfl (fun ls hl => ?_)
                                        refine lv_iload hx hb dX2_work_151 (lv_at hl 0 rfl) ?_
                                        refine gi_if_eq (tgt := 309) hx hb dX2_work_153 (by decide) ⟨by decide, by decide⟩ (fun c153 => ?_) (fun c153 => ?_)
                                        · skip
                                          have ha2 : grA (xGraft σ (r0 * 8 + p0) i0) (r0 * 8 + (7 - p0)) i0 = 0 := bI_f (by omega)
                                          have e8 : (xGraft σ (r0 * 8 + p0) i0) = (xGraft (xGraft σ (r0 * 8 + p0) i0) (r0 * 8 + (7 - p0)) i0) := (xGraft_n (by omega)).symm
                                          rw [e8] at hP hD
                                          have hP : va_P D vwCl (SW cI cT cU d (xGraft (xGraft σ (r0 * 8 + p0) i0) (r0 * 8 + (7 - p0)) i0) ι) H := hP
                                          have hD : va_D A (SW cI cT cU d (xGraft (xGraft σ (r0 * 8 + p0) i0) (r0 * 8 + (7 - p0)) i0) ι) := hD
                                          refine lv_iinc (v := iI (2)) (lv' := [(7, .int (iI (2))), (12, .int (iI (0))), (11, .ref (ι (r0 * 8 + (7 - p0))).toNat), (10, .int (iI (4))), (9, .int (iI (tw (r0 * 8 + (7 - p0))))), (8, .int (iI (7 - p0))), (6, .int (iI (0))), (0, .ref (d 0)), (1, .int (iI (2))), (2, .int (iI (r0))), (3, .int (iI (p0))), (4, .int (iI (i0))), (5, .int (iI (0)))]) hx hb dX2_work_309 hl (k := 5) rfl rfl (by decide) rfl (fun ls hl => ?_)
                                          refine lv_goto (tgt := 6) hx hb dX2_work_312 (by decide) ?_
                                          refine lv_iload hx hb dX2_work_6 (lv_at hl 0 rfl) ?_
                                          refine lv_iconst (v := iI (2)) hx hb dX2_work_8 rfl ?_
                                          refine gi_icmp_ge (tgt := 315) hx hb dX2_work_9 (by decide) ⟨by decide, by decide⟩ ⟨by decide, by decide⟩ (fun c9 => ?_) (fun c9 => ?_)
                                          · skip
                                            refine lv_iload hx hb dX2_work_315 (lv_at hl 6 rfl) ?_
                                            have ess : (xGraft (xGraft σ (r0 * 8 + p0) i0) (mir (r0 * 8 + p0)) i0) = (xGraft (xGraft σ (r0 * 8 + p0) i0) (r0 * 8 + (7 - p0)) i0) := by rw [em]
                                            have hP : va_P D vwCl (SW cI cT cU d (xGraft (xGraft σ (r0 * 8 + p0) i0) (mir (r0 * 8 + p0)) i0) ι) H := by rw [ess]; exact hP
                                            have hD : va_D A (SW cI cT cU d (xGraft (xGraft σ (r0 * 8 + p0) i0) (mir (r0 * 8 + p0)) i0) ι) := by rw [ess]; exact hD
                                            have er : ((who (grA σ (r0 * 8 + p0) i0) (grA (xGraft σ (r0 * 8 + p0) i0) (mir (r0 * 8 + p0)) i0) : Int)) = (0) := by rw [em, ha1, ha2]; decide
                                            exact g_iret (wo := (fun κ' => SW cI cT cU d (xGraft (xGraft σ (r0 * 8 + p0) i0) (mir (r0 * 8 + p0)) i0) (κ' 2))) (kr := (fun κ' => True)) (rv := (fun _ => some (.int (iI (who (grA σ (r0 * 8 + p0) i0) (grA (xGraft σ (r0 * 8 + p0) i0) (mir (r0 * 8 + p0)) i0)))))) hx hb hr hlocks (fun _ => ι) rfl hP hK hD hS trivial (by rw [er]) (Nat.le_of_ble_eq_true rfl) (Nat.le_of_ble_eq_true rfl) dX2_work_317
                                          · skip
                                            omega
                                        · skip
                                          exact absurd rfl c153
                                      · skip
                                        refine lv_iconst (v := iI (1)) hx hb dX2_work_144 rfl ?_
                                        refine lv_goto (tgt := 149) hx hb dX2_work_145 (by decide) ?_
                                        refine lv_istore (lv' := [(12, .int (iI (1))), (11, .ref (ι (r0 * 8 + (7 - p0))).toNat), (10, .int (iI (4))), (9, .int (iI (tw (r0 * 8 + (7 - p0))))), (8, .int (iI (7 - p0))), (7, .int (iI (1))), (6, .int (iI (0))), (0, .ref (d 0)), (1, .int (iI (2))), (2, .int (iI (r0))), (3, .int (iI (p0))), (4, .int (iI (i0))), (5, .int (iI (0)))]) hx hb dX2_work_149 hl (by decide) rfl (fun ls hl => ?_)
                                        refine lv_iload hx hb dX2_work_151 (lv_at hl 0 rfl) ?_
                                        refine gi_if_eq (tgt := 309) hx hb dX2_work_153 (by decide) ⟨by decide, by decide⟩ (fun c153 => ?_) (fun c153 => ?_)
                                        · skip
                                          exact absurd c153 (by decide)
                                        · skip
                                          refine lv_aload_n hx hb dX2_work_156 rfl (lv_at hl 7 rfl) ?_
                                          refine va_get (D := D) (ci := 2) (v := .ref (d 6)) (C := RX2) (T := TX2) (N := 8) hx hb hts hinX2 hown hK hP 0 rfl rfl 5 (by decide) (hts (.fieldLink RX2 27 "TwinOrchardLaw$Sim" "strength" "[I") (List.mem_of_getElem? (i := 4) rfl)) (fun _ h9 => h9) rfl dX2_work_157 ?_
                                          refine lv_iload hx hb dX2_work_160 (lv_at hl 3 rfl) ?_
                                          refine gi_iald (a := d 6) (n := 2) (f := (xGraft σ (r0 * 8 + p0) i0) 8) hx hb hK hP 6 0 rfl rfl (by omega) (by omega) (by decide) dX2_work_162 ?_
                                          refine lv_iload hx hb dX2_work_163 (lv_at hl 2 rfl) ?_
                                          refine gi_icmp_ge (tgt := 171) hx hb dX2_work_165 (by decide) ⟨by omega, by omega⟩ ⟨by decide, by decide⟩ (fun c165 => ?_) (fun c165 => ?_)
                                          · skip
                                            refine lv_aload_n hx hb dX2_work_171 rfl (lv_at hl 7 rfl) ?_
                                            refine va_get (D := D) (ci := 2) (v := .ref (d 6)) (C := RX2) (T := TX2) (N := 8) hx hb hts hinX2 hown hK hP 0 rfl rfl 5 (by decide) (hts (.fieldLink RX2 27 "TwinOrchardLaw$Sim" "strength" "[I") (List.mem_of_getElem? (i := 4) rfl)) (fun _ h9 => h9) rfl dX2_work_172 ?_
                                            refine lv_iload hx hb dX2_work_175 (lv_at hl 3 rfl) ?_
                                            refine lv_dup2_11 hx hb dX2_work_177 rfl rfl ?_
                                            refine gi_iald (a := d 6) (n := 2) (f := (xGraft σ (r0 * 8 + p0) i0) 8) hx hb hK hP 6 0 rfl rfl (by omega) (by omega) (by decide) dX2_work_178 ?_
                                            refine lv_iload hx hb dX2_work_179 (lv_at hl 2 rfl) ?_
                                            refine gi_sub hx hb dX2_work_181 ?_
                                            refine gi_iast (a := d 6) (n := 2) (f := (xGraft σ (r0 * 8 + p0) i0) 8) hx hb hK hP hD hS 6 0 rfl rfl (by omega) (by omega) (by decide) dX2_work_182 (fun H locs hP hD hS => ?_)
                                            have hP : va_P D vwCl (SW cI cT cU d (su (xGraft σ (r0 * 8 + p0) i0) 8 (tw (r0 * 8 + (7 - p0))) (((xGraft σ (r0 * 8 + p0) i0) 8 (tw (r0 * 8 + (7 - p0)))) - 4)) ι) H := hP
                                            have hD : va_D A (SW cI cT cU d (su (xGraft σ (r0 * 8 + p0) i0) 8 (tw (r0 * 8 + (7 - p0))) (((xGraft σ (r0 * 8 + p0) i0) 8 (tw (r0 * 8 + (7 - p0)))) - 4)) ι) := hD
                                            refine lv_iload hx hb dX2_work_183 (lv_at hl 6 rfl) ?_
                                            refine lv_iload hx hb dX2_work_185 (lv_at hl 5 rfl) ?_
                                            refine lv_iconst (v := iI (1)) hx hb dX2_work_187 rfl ?_
                                            refine gi_add hx hb dX2_work_188 ?_
                                            refine gi_add hx hb dX2_work_189 ?_
                                            refine lv_istore (lv' := [(6, .int (iI (0 + (1 + 1)))), (12, .int (iI (1))), (11, .ref (ι (r0 * 8 + (7 - p0))).toNat), (10, .int (iI (4))), (9, .int (iI (tw (r0 * 8 + (7 - p0))))), (8, .int (iI (7 - p0))), (7, .int (iI (1))), (0, .ref (d 0)), (1, .int (iI (2))), (2, .int (iI (r0))), (3, .int (iI (p0))), (4, .int (iI (i0))), (5, .int (iI (0)))]) hx hb dX2_work_190 hl (by decide) rfl (fun ls hl => ?_)
                                            refine lv_iload_n hx hb dX2_work_192 rfl (lv_at hl 8 rfl) ?_
                                            refine gi_if_ne (tgt := 233) hx hb dX2_work_193 (by decide) ⟨by decide, by decide⟩ (fun c193 => ?_) (fun c193 => ?_)
                                            · skip
                                              refine lv_iload_n hx hb dX2_work_233 rfl (lv_at hl 8 rfl) ?_
                                              refine lv_iconst (v := iI (1)) hx hb dX2_work_234 rfl ?_
                                              refine gi_icmp_ne (tgt := 259) hx hb dX2_work_235 (by decide) ⟨by decide, by decide⟩ ⟨by decide, by decide⟩ (fun c235 => ?_) (fun c235 => ?_)
                                              · skip
                                                refine lv_iload_n hx hb dX2_work_259 rfl (lv_at hl 8 rfl) ?_
                                                refine lv_iconst (v := iI (2)) hx hb dX2_work_260 rfl ?_
                                                refine gi_icmp_ne (tgt := 299) hx hb dX2_work_261 (by decide) ⟨by decide, by decide⟩ ⟨by decide, by decide⟩ (fun c261 => ?_) (fun c261 => ?_)
                                                · skip
                                                  exact absurd rfl c261
                                                · skip
                                                  refine lv_aload hx hb dX2_work_264 (lv_at hl 2 rfl) ?_
                                                  refine lv_iload hx hb dX2_work_266 (lv_at hl 11 rfl) ?_
                                                  refine va_put (D := D) (ci := 3) (v := .int (iI (i0))) (ty := .int) (C := RX3) (T := TX3) (N := 4) hx hb hts hinX3 tyX3 tyX3_ok nmX3 hown hK hP hD hS (spos (su (xGraft σ (r0 * 8 + p0) i0) 8 (tw (r0 * 8 + (7 - p0))) (((xGraft σ (r0 * 8 + p0) i0) 8 (tw (r0 * 8 + (7 - p0)))) - 4)) ι (r0 * 8 + (7 - p0))) (sw_at ct78 (by omega) (by omega)) rfl 2 (by decide) (hts (.fieldLink RX2 44 "TwinOrchardLaw$Tree" "sort" "I") (List.mem_of_getElem? (i := 3) rfl)) (fun _ h9 => h9) rfl (by decide +kernel) rfl rfl (Nat.le_of_ble_eq_true rfl) dX2_work_268 (fun H locs hP hD hS => ?_)
                                                  have hP : va_P D vwCl (SW cI cT cU d (su (su (xGraft σ (r0 * 8 + p0) i0) 8 (tw (r0 * 8 + (7 - p0))) (((xGraft σ (r0 * 8 + p0) i0) 8 (tw (r0 * 8 + (7 - p0)))) - 4)) 4 (r0 * 8 + (7 - p0)) (i0)) ι) H := va_Pe (sw_put4 (cI := cI) (cT := cT) (cU := cU) (d := d) (σ := su (xGraft σ (r0 * 8 + p0) i0) 8 (tw (r0 * 8 + (7 - p0))) (((xGraft σ (r0 * 8 + p0) i0) 8 (tw (r0 * 8 + (7 - p0)))) - 4)) (ι := ι) (k := r0 * 8 + (7 - p0)) (v := i0) (by omega) ct78 (by omega) (by omega)) hP
                                                  have hD : va_D A (SW cI cT cU d (su (su (xGraft σ (r0 * 8 + p0) i0) 8 (tw (r0 * 8 + (7 - p0))) (((xGraft σ (r0 * 8 + p0) i0) 8 (tw (r0 * 8 + (7 - p0)))) - 4)) 4 (r0 * 8 + (7 - p0)) (i0)) ι) := va_De (sw_put4 (cI := cI) (cT := cT) (cU := cU) (d := d) (σ := su (xGraft σ (r0 * 8 + p0) i0) 8 (tw (r0 * 8 + (7 - p0))) (((xGraft σ (r0 * 8 + p0) i0) 8 (tw (r0 * 8 + (7 - p0)))) - 4)) (ι := ι) (k := r0 * 8 + (7 - p0)) (v := i0) (by omega) ct78 (by omega) (by omega)) hD
                                                  have ct268 : ¬ (su (su (xGraft σ (r0 * 8 + p0) i0) 8 (tw (r0 * 8 + (7 - p0))) (((xGraft σ (r0 * 8 + p0) i0) 8 (tw (r0 * 8 + (7 - p0)))) - 4)) 4 (r0 * 8 + (7 - p0)) (i0)) 4 (r0 * 8 + (7 - p0)) = -1 := by show ¬ fu _ _ _ _ = -1; rw [fu_s]; omega
                                                  refine lv_aload hx hb dX2_work_271 (lv_at hl 2 rfl) ?_
                                                  refine lv_aload hx hb dX2_work_273 (lv_at hl 2 rfl) ?_
                                                  refine va_get (D := D) (ci := 3) (v := .int (iI ((su (su (xGraft σ (r0 * 8 + p0) i0) 8 (tw (r0 * 8 + (7 - p0))) (((xGraft σ (r0 * 8 + p0) i0) 8 (tw (r0 * 8 + (7 - p0)))) - 4)) 4 (r0 * 8 + (7 - p0)) (i0)) 5 (r0 * 8 + (7 - p0))))) (C := RX3) (T := TX3) (N := 4) hx hb hts hinX3 hown hK hP (spos (su (su (xGraft σ (r0 * 8 + p0) i0) 8 (tw (r0 * 8 + (7 - p0))) (((xGraft σ (r0 * 8 + p0) i0) 8 (tw (r0 * 8 + (7 - p0)))) - 4)) 4 (r0 * 8 + (7 - p0)) (i0)) ι (r0 * 8 + (7 - p0))) (sw_at ct268 (by omega) (by omega)) rfl 0 (by decide) (hts (.fieldLink RX2 41 "TwinOrchardLaw$Tree" "branches" "I") (List.mem_of_getElem? (i := 2) rfl)) (fun _ h9 => h9) rfl dX2_work_275 ?_
                                                  rw [show ((su (su (xGraft σ (r0 * 8 + p0) i0) 8 (tw (r0 * 8 + (7 - p0))) (((xGraft σ (r0 * 8 + p0) i0) 8 (tw (r0 * 8 + (7 - p0)))) - 4)) 4 (r0 * 8 + (7 - p0)) (i0)) 5 (r0 * 8 + (7 - p0))) = ((xGraft σ (r0 * 8 + p0) i0) 5 (r0 * 8 + (7 - p0))) from by rfl]
                                                  refine lv_iconst (v := iI (1)) hx hb dX2_work_278 rfl ?_
                                                  refine gi_icmp_le (tgt := 292) hx hb dX2_work_279 (by decide) ⟨by omega, by omega⟩ ⟨by decide, by decide⟩ (fun c279 => ?_) (fun c279 => ?_)
                                                  · skip
                                                    refine lv_iconst (v := iI (1)) hx hb dX2_work_292 rfl ?_
                                                    refine va_put (D := D) (ci := 3) (v := .int (iI (1))) (ty := .int) (C := RX3) (T := TX3) (N := 4) hx hb hts hinX3 tyX3 tyX3_ok nmX3 hown hK hP hD hS (spos (su (su (xGraft σ (r0 * 8 + p0) i0) 8 (tw (r0 * 8 + (7 - p0))) (((xGraft σ (r0 * 8 + p0) i0) 8 (tw (r0 * 8 + (7 - p0)))) - 4)) 4 (r0 * 8 + (7 - p0)) (i0)) ι (r0 * 8 + (7 - p0))) (sw_at ct268 (by omega) (by omega)) rfl 0 (by decide) (hts (.fieldLink RX2 41 "TwinOrchardLaw$Tree" "branches" "I") (List.mem_of_getElem? (i := 2) rfl)) (fun _ h9 => h9) rfl (by decide +kernel) rfl rfl (Nat.le_of_ble_eq_true rfl) dX2_work_293 (fun H locs hP hD hS => ?_)
                                                    have hP : va_P D vwCl (SW cI cT cU d (su (su (su (xGraft σ (r0 * 8 + p0) i0) 8 (tw (r0 * 8 + (7 - p0))) (((xGraft σ (r0 * 8 + p0) i0) 8 (tw (r0 * 8 + (7 - p0)))) - 4)) 4 (r0 * 8 + (7 - p0)) (i0)) 5 (r0 * 8 + (7 - p0)) (1)) ι) H := va_Pe (sw_put5 (cI := cI) (cT := cT) (cU := cU) (d := d) (σ := su (su (xGraft σ (r0 * 8 + p0) i0) 8 (tw (r0 * 8 + (7 - p0))) (((xGraft σ (r0 * 8 + p0) i0) 8 (tw (r0 * 8 + (7 - p0)))) - 4)) 4 (r0 * 8 + (7 - p0)) (i0)) (ι := ι) (k := r0 * 8 + (7 - p0)) (v := 1) ct268 (by omega) (by omega)) hP
                                                    have hD : va_D A (SW cI cT cU d (su (su (su (xGraft σ (r0 * 8 + p0) i0) 8 (tw (r0 * 8 + (7 - p0))) (((xGraft σ (r0 * 8 + p0) i0) 8 (tw (r0 * 8 + (7 - p0)))) - 4)) 4 (r0 * 8 + (7 - p0)) (i0)) 5 (r0 * 8 + (7 - p0)) (1)) ι) := va_De (sw_put5 (cI := cI) (cT := cT) (cU := cU) (d := d) (σ := su (su (xGraft σ (r0 * 8 + p0) i0) 8 (tw (r0 * 8 + (7 - p0))) (((xGraft σ (r0 * 8 + p0) i0) 8 (tw (r0 * 8 + (7 - p0)))) - 4)) 4 (r0 * 8 + (7 - p0)) (i0)) (ι := ι) (k := r0 * 8 + (7 - p0)) (v := 1) ct268 (by omega) (by omega)) hD
                                                    refine lv_goto (tgt := 309) hx hb dX2_work_296 (by decide) ?_
                                                    have ha2 : grA (xGraft σ (r0 * 8 + p0) i0) (r0 * 8 + (7 - p0)) i0 = 1 := bI_t (by omega)
                                                    have e8 : (su (su (su (xGraft σ (r0 * 8 + p0) i0) 8 (tw (r0 * 8 + (7 - p0))) (((xGraft σ (r0 * 8 + p0) i0) 8 (tw (r0 * 8 + (7 - p0)))) - 4)) 4 (r0 * 8 + (7 - p0)) (i0)) 5 (r0 * 8 + (7 - p0)) (1)) = (xGraft (xGraft σ (r0 * 8 + p0) i0) (r0 * 8 + (7 - p0)) i0) := (xGraft_y (by omega) (by omega)).symm
                                                    rw [e8] at hP hD
                                                    have hP : va_P D vwCl (SW cI cT cU d (xGraft (xGraft σ (r0 * 8 + p0) i0) (r0 * 8 + (7 - p0)) i0) ι) H := hP
                                                    have hD : va_D A (SW cI cT cU d (xGraft (xGraft σ (r0 * 8 + p0) i0) (r0 * 8 + (7 - p0)) i0) ι) := hD
                                                    refine lv_iinc (v := iI (2)) (lv' := [(7, .int (iI (2))), (6, .int (iI (0 + (1 + 1)))), (12, .int (iI (1))), (11, .ref (ι (r0 * 8 + (7 - p0))).toNat), (10, .int (iI (4))), (9, .int (iI (tw (r0 * 8 + (7 - p0))))), (8, .int (iI (7 - p0))), (0, .ref (d 0)), (1, .int (iI (2))), (2, .int (iI (r0))), (3, .int (iI (p0))), (4, .int (iI (i0))), (5, .int (iI (0)))]) hx hb dX2_work_309 hl (k := 6) rfl rfl (by decide) rfl (fun ls hl => ?_)
                                                    refine lv_goto (tgt := 6) hx hb dX2_work_312 (by decide) ?_
                                                    refine lv_iload hx hb dX2_work_6 (lv_at hl 0 rfl) ?_
                                                    refine lv_iconst (v := iI (2)) hx hb dX2_work_8 rfl ?_
                                                    refine gi_icmp_ge (tgt := 315) hx hb dX2_work_9 (by decide) ⟨by decide, by decide⟩ ⟨by decide, by decide⟩ (fun c9 => ?_) (fun c9 => ?_)
                                                    · skip
                                                      refine lv_iload hx hb dX2_work_315 (lv_at hl 1 rfl) ?_
                                                      have ess : (xGraft (xGraft σ (r0 * 8 + p0) i0) (mir (r0 * 8 + p0)) i0) = (xGraft (xGraft σ (r0 * 8 + p0) i0) (r0 * 8 + (7 - p0)) i0) := by rw [em]
                                                      have hP : va_P D vwCl (SW cI cT cU d (xGraft (xGraft σ (r0 * 8 + p0) i0) (mir (r0 * 8 + p0)) i0) ι) H := by rw [ess]; exact hP
                                                      have hD : va_D A (SW cI cT cU d (xGraft (xGraft σ (r0 * 8 + p0) i0) (mir (r0 * 8 + p0)) i0) ι) := by rw [ess]; exact hD
                                                      have er : ((who (grA σ (r0 * 8 + p0) i0) (grA (xGraft σ (r0 * 8 + p0) i0) (mir (r0 * 8 + p0)) i0) : Int)) = (0 + (1 + 1)) := by rw [em, ha1, ha2]; decide
                                                      exact g_iret (wo := (fun κ' => SW cI cT cU d (xGraft (xGraft σ (r0 * 8 + p0) i0) (mir (r0 * 8 + p0)) i0) (κ' 2))) (kr := (fun κ' => True)) (rv := (fun _ => some (.int (iI (who (grA σ (r0 * 8 + p0) i0) (grA (xGraft σ (r0 * 8 + p0) i0) (mir (r0 * 8 + p0)) i0)))))) hx hb hr hlocks (fun _ => ι) rfl hP hK hD hS trivial (by rw [er]) (Nat.le_of_ble_eq_true rfl) (Nat.le_of_ble_eq_true rfl) dX2_work_317
                                                    · skip
                                                      omega
                                                  · skip
                                                    refine lv_aload hx hb dX2_work_282 (lv_at hl 2 rfl) ?_
                                                    refine va_get (D := D) (ci := 3) (v := .int (iI ((su (su (xGraft σ (r0 * 8 + p0) i0) 8 (tw (r0 * 8 + (7 - p0))) (((xGraft σ (r0 * 8 + p0) i0) 8 (tw (r0 * 8 + (7 - p0)))) - 4)) 4 (r0 * 8 + (7 - p0)) (i0)) 5 (r0 * 8 + (7 - p0))))) (C := RX3) (T := TX3) (N := 4) hx hb hts hinX3 hown hK hP (spos (su (su (xGraft σ (r0 * 8 + p0) i0) 8 (tw (r0 * 8 + (7 - p0))) (((xGraft σ (r0 * 8 + p0) i0) 8 (tw (r0 * 8 + (7 - p0)))) - 4)) 4 (r0 * 8 + (7 - p0)) (i0)) ι (r0 * 8 + (7 - p0))) (sw_at ct268 (by omega) (by omega)) rfl 0 (by decide) (hts (.fieldLink RX2 41 "TwinOrchardLaw$Tree" "branches" "I") (List.mem_of_getElem? (i := 2) rfl)) (fun _ h9 => h9) rfl dX2_work_284 ?_
                                                    rw [show ((su (su (xGraft σ (r0 * 8 + p0) i0) 8 (tw (r0 * 8 + (7 - p0))) (((xGraft σ (r0 * 8 + p0) i0) 8 (tw (r0 * 8 + (7 - p0)))) - 4)) 4 (r0 * 8 + (7 - p0)) (i0)) 5 (r0 * 8 + (7 - p0))) = ((xGraft σ (r0 * 8 + p0) i0) 5 (r0 * 8 + (7 - p0))) from by rfl]
                                                    refine lv_iconst (v := iI (2)) hx hb dX2_work_287 rfl ?_
                                                    refine gi_div hx hb ⟨by omega, by omega⟩ ⟨by omega, by omega⟩ dX2_work_288 ?_
                                                    refine lv_goto (tgt := 293) hx hb dX2_work_289 (by decide) ?_
                                                    refine va_put (D := D) (ci := 3) (v := .int (iI (((xGraft σ (r0 * 8 + p0) i0) 5 (r0 * 8 + (7 - p0))) / 2))) (ty := .int) (C := RX3) (T := TX3) (N := 4) hx hb hts hinX3 tyX3 tyX3_ok nmX3 hown hK hP hD hS (spos (su (su (xGraft σ (r0 * 8 + p0) i0) 8 (tw (r0 * 8 + (7 - p0))) (((xGraft σ (r0 * 8 + p0) i0) 8 (tw (r0 * 8 + (7 - p0)))) - 4)) 4 (r0 * 8 + (7 - p0)) (i0)) ι (r0 * 8 + (7 - p0))) (sw_at ct268 (by omega) (by omega)) rfl 0 (by decide) (hts (.fieldLink RX2 41 "TwinOrchardLaw$Tree" "branches" "I") (List.mem_of_getElem? (i := 2) rfl)) (fun _ h9 => h9) rfl (by decide +kernel) rfl rfl (Nat.le_of_ble_eq_true rfl) dX2_work_293 (fun H locs hP hD hS => ?_)
                                                    have hP : va_P D vwCl (SW cI cT cU d (su (su (su (xGraft σ (r0 * 8 + p0) i0) 8 (tw (r0 * 8 + (7 - p0))) (((xGraft σ (r0 * 8 + p0) i0) 8 (tw (r0 * 8 + (7 - p0)))) - 4)) 4 (r0 * 8 + (7 - p0)) (i0)) 5 (r0 * 8 + (7 - p0)) (((xGraft σ (r0 * 8 + p0) i0) 5 (r0 * 8 + (7 - p0))) / 2)) ι) H := va_Pe (sw_put5 (cI := cI) (cT := cT) (cU := cU) (d := d) (σ := su (su (xGraft σ (r0 * 8 + p0) i0) 8 (tw (r0 * 8 + (7 - p0))) (((xGraft σ (r0 * 8 + p0) i0) 8 (tw (r0 * 8 + (7 - p0)))) - 4)) 4 (r0 * 8 + (7 - p0)) (i0)) (ι := ι) (k := r0 * 8 + (7 - p0)) (v := ((xGraft σ (r0 * 8 + p0) i0) 5 (r0 * 8 + (7 - p0))) / 2) ct268 (by omega) (by omega)) hP
                                                    have hD : va_D A (SW cI cT cU d (su (su (su (xGraft σ (r0 * 8 + p0) i0) 8 (tw (r0 * 8 + (7 - p0))) (((xGraft σ (r0 * 8 + p0) i0) 8 (tw (r0 * 8 + (7 - p0)))) - 4)) 4 (r0 * 8 + (7 - p0)) (i0)) 5 (r0 * 8 + (7 - p0)) (((xGraft σ (r0 * 8 + p0) i0) 5 (r0 * 8 + (7 - p0))) / 2)) ι) := va_De (sw_put5 (cI := cI) (cT := cT) (cU := cU) (d := d) (σ := su (su (xGraft σ (r0 * 8 + p0) i0) 8 (tw (r0 * 8 + (7 - p0))) (((xGraft σ (r0 * 8 + p0) i0) 8 (tw (r0 * 8 + (7 - p0)))) - 4)) 4 (r0 * 8 + (7 - p0)) (i0)) (ι := ι) (k := r0 * 8 + (7 - p0)) (v := ((xGraft σ (r0 * 8 + p0) i0) 5 (r0 * 8 + (7 - p0))) / 2) ct268 (by omega) (by omega)) hD
                                                    refine lv_goto (tgt := 309) hx hb dX2_work_296 (by decide) ?_
                                                    have ha2 : grA (xGraft σ (r0 * 8 + p0) i0) (r0 * 8 + (7 - p0)) i0 = 1 := bI_t (by omega)
                                                    have e8 : (su (su (su (xGraft σ (r0 * 8 + p0) i0) 8 (tw (r0 * 8 + (7 - p0))) (((xGraft σ (r0 * 8 + p0) i0) 8 (tw (r0 * 8 + (7 - p0)))) - 4)) 4 (r0 * 8 + (7 - p0)) (i0)) 5 (r0 * 8 + (7 - p0)) (((xGraft σ (r0 * 8 + p0) i0) 5 (r0 * 8 + (7 - p0))) / 2)) = (xGraft (xGraft σ (r0 * 8 + p0) i0) (r0 * 8 + (7 - p0)) i0) := (xGraft_y (by omega) (by omega)).symm
                                                    rw [e8] at hP hD
                                                    have hP : va_P D vwCl (SW cI cT cU d (xGraft (xGraft σ (r0 * 8 + p0) i0) (r0 * 8 + (7 - p0)) i0) ι) H := hP
                                                    have hD : va_D A (SW cI cT cU d (xGraft (xGraft σ (r0 * 8 + p0) i0) (r0 * 8 + (7 - p0)) i0) ι) := hD
                                                    refine lv_iinc (v := iI (2)) (lv' := [(7, .int (iI (2))), (6, .int (iI (0 + (1 + 1)))), (12, .int (iI (1))), (11, .ref (ι (r0 * 8 + (7 - p0))).toNat), (10, .int (iI (4))), (9, .int (iI (tw (r0 * 8 + (7 - p0))))), (8, .int (iI (7 - p0))), (0, .ref (d 0)), (1, .int (iI (2))), (2, .int (iI (r0))), (3, .int (iI (p0))), (4, .int (iI (i0))), (5, .int (iI (0)))]) hx hb dX2_work_309 hl (k := 6) rfl rfl (by decide) rfl (fun ls hl => ?_)
                                                    refine lv_goto (tgt := 6) hx hb dX2_work_312 (by decide) ?_
                                                    refine lv_iload hx hb dX2_work_6 (lv_at hl 0 rfl) ?_
                                                    refine lv_iconst (v := iI (2)) hx hb dX2_work_8 rfl ?_
                                                    refine gi_icmp_ge (tgt := 315) hx hb dX2_work_9 (by decide) ⟨by decide, by decide⟩ ⟨by decide, by decide⟩ (fun c9 => ?_) (fun c9 => ?_)
                                                    · skip
                                                      refine lv_iload hx hb dX2_work_315 (lv_at hl 1 rfl) ?_
                                                      have ess : (xGraft (xGraft σ (r0 * 8 + p0) i0) (mir (r0 * 8 + p0)) i0) = (xGraft (xGraft σ (r0 * 8 + p0) i0) (r0 * 8 + (7 - p0)) i0) := by rw [em]
                                                      have hP : va_P D vwCl (SW cI cT cU d (xGraft (xGraft σ (r0 * 8 + p0) i0) (mir (r0 * 8 + p0)) i0) ι) H := by rw [ess]; exact hP
                                                      have hD : va_D A (SW cI cT cU d (xGraft (xGraft σ (r0 * 8 + p0) i0) (mir (r0 * 8 + p0)) i0) ι) := by rw [ess]; exact hD
                                                      have er : ((who (grA σ (r0 * 8 + p0) i0) (grA (xGraft σ (r0 * 8 + p0) i0) (mir (r0 * 8 + p0)) i0) : Int)) = (0 + (1 + 1)) := by rw [em, ha1, ha2]; decide
                                                      exact g_iret (wo := (fun κ' => SW cI cT cU d (xGraft (xGraft σ (r0 * 8 + p0) i0) (mir (r0 * 8 + p0)) i0) (κ' 2))) (kr := (fun κ' => True)) (rv := (fun _ => some (.int (iI (who (grA σ (r0 * 8 + p0) i0) (grA (xGraft σ (r0 * 8 + p0) i0) (mir (r0 * 8 + p0)) i0)))))) hx hb hr hlocks (fun _ => ι) rfl hP hK hD hS trivial (by rw [er]) (Nat.le_of_ble_eq_true rfl) (Nat.le_of_ble_eq_true rfl) dX2_work_317
                                                    · skip
                                                      omega
                                              · skip
                                                exact absurd c235 (by decide)
                                            · skip
                                              exact absurd c193 (by decide)
                                          · skip
                                            refine lv_goto (tgt := 309) hx hb dX2_work_168 (by decide) ?_
                                            have ha2 : grA (xGraft σ (r0 * 8 + p0) i0) (r0 * 8 + (7 - p0)) i0 = 0 := bI_f (by omega)
                                            have e8 : (xGraft σ (r0 * 8 + p0) i0) = (xGraft (xGraft σ (r0 * 8 + p0) i0) (r0 * 8 + (7 - p0)) i0) := (xGraft_n (by omega)).symm
                                            rw [e8] at hP hD
                                            have hP : va_P D vwCl (SW cI cT cU d (xGraft (xGraft σ (r0 * 8 + p0) i0) (r0 * 8 + (7 - p0)) i0) ι) H := hP
                                            have hD : va_D A (SW cI cT cU d (xGraft (xGraft σ (r0 * 8 + p0) i0) (r0 * 8 + (7 - p0)) i0) ι) := hD
                                            refine lv_iinc (v := iI (2)) (lv' := [(7, .int (iI (2))), (12, .int (iI (1))), (11, .ref (ι (r0 * 8 + (7 - p0))).toNat), (10, .int (iI (4))), (9, .int (iI (tw (r0 * 8 + (7 - p0))))), (8, .int (iI (7 - p0))), (6, .int (iI (0))), (0, .ref (d 0)), (1, .int (iI (2))), (2, .int (iI (r0))), (3, .int (iI (p0))), (4, .int (iI (i0))), (5, .int (iI (0)))]) hx hb dX2_work_309 hl (k := 5) rfl rfl (by decide) rfl (fun ls hl => ?_)
                                            refine lv_goto (tgt := 6) hx hb dX2_work_312 (by decide) ?_
                                            refine lv_iload hx hb dX2_work_6 (lv_at hl 0 rfl) ?_
                                            refine lv_iconst (v := iI (2)) hx hb dX2_work_8 rfl ?_
                                            refine gi_icmp_ge (tgt := 315) hx hb dX2_work_9 (by decide) ⟨by decide, by decide⟩ ⟨by decide, by decide⟩ (fun c9 => ?_) (fun c9 => ?_)
                                            · skip
                                              refine lv_iload hx hb dX2_work_315 (lv_at hl 6 rfl) ?_
                                              have ess : (xGraft (xGraft σ (r0 * 8 + p0) i0) (mir (r0 * 8 + p0)) i0) = (xGraft (xGraft σ (r0 * 8 + p0) i0) (r0 * 8 + (7 - p0)) i0) := by rw [em]
                                              have hP : va_P D vwCl (SW cI cT cU d (xGraft (xGraft σ (r0 * 8 + p0) i0) (mir (r0 * 8 + p0)) i0) ι) H := by rw [ess]; exact hP
                                              have hD : va_D A (SW cI cT cU d (xGraft (xGraft σ (r0 * 8 + p0) i0) (mir (r0 * 8 + p0)) i0) ι) := by rw [ess]; exact hD
                                              have er : ((who (grA σ (r0 * 8 + p0) i0) (grA (xGraft σ (r0 * 8 + p0) i0) (mir (r0 * 8 + p0)) i0) : Int)) = (0) := by rw [em, ha1, ha2]; decide
                                              exact g_iret (wo := (fun κ' => SW cI cT cU d (xGraft (xGraft σ (r0 * 8 + p0) i0) (mir (r0 * 8 + p0)) i0) (κ' 2))) (kr := (fun κ' => True)) (rv := (fun _ => some (.int (iI (who (grA σ (r0 * 8 + p0) i0) (grA (xGraft σ (r0 * 8 + p0) i0) (mir (r0 * 8 + p0)) i0)))))) hx hb hr hlocks (fun _ => ι) rfl hP hK hD hS trivial (by rw [er]) (Nat.le_of_ble_eq_true rfl) (Nat.le_of_ble_eq_true rfl) dX2_work_317
                                            · skip
                                              omega
                                · skip
                                  exact absurd c105 (by decide)
                              · skip
                                exact absurd c82 (by decide)
                        · skip
                          exact absurd c50 (by decide)
                      · skip
                        exact absurd c41 (by decide)
                    · skip
                      exact absurd c14 (by decide)
                · skip
                  exact absurd rfl c153
              · skip
                exact absurd c82 (by decide)
            · skip
              refine lv_astore (lv' := [(11, .ref (ι (r0 * 8 + p0)).toNat), (10, .int (iI (4))), (9, .int (iI (tw (r0 * 8 + p0)))), (8, .int (iI (p0))), (7, .int (iI (0))), (6, .int (iI (0))), (0, .ref (d 0)), (1, .int (iI (2))), (2, .int (iI (r0))), (3, .int (iI (p0))), (4, .int (iI (i0))), (5, .int (iI (0)))]) hx hb dX2_work_79 hl (by decide) rfl (fun ls hl => ?_)
              refine lv_iload_n hx hb dX2_work_81 rfl (lv_at hl 7 rfl) ?_
              refine gi_if_ne (tgt := 98) hx hb dX2_work_82 (by decide) ⟨by decide, by decide⟩ (fun c82 => ?_) (fun c82 => ?_)
              · skip
                refine lv_aload hx hb dX2_work_98 (lv_at hl 0 rfl) ?_
                refine lv_ifnull hx hb dX2_work_100 ?_
                refine lv_iload_n hx hb dX2_work_103 rfl (lv_at hl 7 rfl) ?_
                refine lv_iconst (v := iI (1)) hx hb dX2_work_104 rfl ?_
                refine gi_icmp_ne (tgt := 121) hx hb dX2_work_105 (by decide) ⟨by decide, by decide⟩ ⟨by decide, by decide⟩ (fun c105 => ?_) (fun c105 => ?_)
                · skip
                  refine lv_iload_n hx hb dX2_work_121 rfl (lv_at hl 7 rfl) ?_
                  refine lv_iconst (v := iI (2)) hx hb dX2_work_122 rfl ?_
                  refine gi_icmp_ne (tgt := 144) hx hb dX2_work_123 (by decide) ⟨by decide, by decide⟩ ⟨by decide, by decide⟩ (fun c123 => ?_) (fun c123 => ?_)
                  · skip
                    exact absurd rfl c123
                  · skip
                    refine lv_aload hx hb dX2_work_126 (lv_at hl 0 rfl) ?_
                    refine va_get (D := D) (ci := 3) (v := .int (iI (σ 4 (r0 * 8 + p0)))) (C := RX3) (T := TX3) (N := 4) hx hb hts hinX3 hown hK hP (spos σ ι (r0 * 8 + p0)) (sw_at ct78 (by omega) (by omega)) rfl 2 (by decide) (hts (.fieldLink RX2 44 "TwinOrchardLaw$Tree" "sort" "I") (List.mem_of_getElem? (i := 3) rfl)) (fun _ h9 => h9) rfl dX2_work_128 ?_
                    refine lv_iload hx hb dX2_work_131 (lv_at hl 10 rfl) ?_
                    refine gi_icmp_eq (tgt := 148) hx hb dX2_work_133 (by decide) ⟨by omega, by omega⟩ ⟨by omega, by omega⟩ (fun c133 => ?_) (fun c133 => ?_)
                    · skip
                      refine lv_iconst (v := iI (0)) hx hb dX2_work_148 rfl ?_
                      refine lv_istore (lv' := [(12, .int (iI (0))), (11, .ref (ι (r0 * 8 + p0)).toNat), (10, .int (iI (4))), (9, .int (iI (tw (r0 * 8 + p0)))), (8, .int (iI (p0))), (7, .int (iI (0))), (6, .int (iI (0))), (0, .ref (d 0)), (1, .int (iI (2))), (2, .int (iI (r0))), (3, .int (iI (p0))), (4, .int (iI (i0))), (5, .int (iI (0)))]) hx hb dX2_work_149 hl (by decide) rfl (fun ls hl => ?_)
                      refine lv_iload hx hb dX2_work_151 (lv_at hl 0 rfl) ?_
                      refine gi_if_eq (tgt := 309) hx hb dX2_work_153 (by decide) ⟨by decide, by decide⟩ (fun c153 => ?_) (fun c153 => ?_)
                      · skip
                        have ha1 : grA σ (r0 * 8 + p0) i0 = 0 := bI_f (by omega)
                        have e8 : (σ) = (xGraft σ (r0 * 8 + p0) i0) := (xGraft_n (by omega)).symm
                        rw [e8] at hP hD
                        have hP : va_P D vwCl (SW cI cT cU d (xGraft σ (r0 * 8 + p0) i0) ι) H := hP
                        have hD : va_D A (SW cI cT cU d (xGraft σ (r0 * 8 + p0) i0) ι) := hD
                        have hwf2 : xWF (xGraft σ (r0 * 8 + p0) i0) := xWF_graft hwf hi
                        have k4b := xWF_4 hwf2 (r0 * 8 + (7 - p0))
                        have k5b := xWF_5 hwf2 (r0 * 8 + (7 - p0))
                        have k8b := xWF_8 hwf2 (tw (r0 * 8 + (7 - p0)))
                        refine lv_iinc (v := iI (1)) (lv' := [(7, .int (iI (1))), (12, .int (iI (0))), (11, .ref (ι (r0 * 8 + p0)).toNat), (10, .int (iI (4))), (9, .int (iI (tw (r0 * 8 + p0)))), (8, .int (iI (p0))), (6, .int (iI (0))), (0, .ref (d 0)), (1, .int (iI (2))), (2, .int (iI (r0))), (3, .int (iI (p0))), (4, .int (iI (i0))), (5, .int (iI (0)))]) hx hb dX2_work_309 hl (k := 5) rfl rfl (by decide) rfl (fun ls hl => ?_)
                        refine lv_goto (tgt := 6) hx hb dX2_work_312 (by decide) ?_
                        refine lv_iload hx hb dX2_work_6 (lv_at hl 0 rfl) ?_
                        refine lv_iconst (v := iI (2)) hx hb dX2_work_8 rfl ?_
                        refine gi_icmp_ge (tgt := 315) hx hb dX2_work_9 (by decide) ⟨by decide, by decide⟩ ⟨by decide, by decide⟩ (fun c9 => ?_) (fun c9 => ?_)
                        · skip
                          exact absurd c9 (by decide)
                        · skip
                          refine lv_iload hx hb dX2_work_12 (lv_at hl 0 rfl) ?_
                          refine gi_if_ne (tgt := 21) hx hb dX2_work_14 (by decide) ⟨by decide, by decide⟩ (fun c14 => ?_) (fun c14 => ?_)
                          · skip
                            refine lv_bipush (v := iI (7)) hx hb dX2_work_21 rfl ?_
                            refine lv_iload_n hx hb dX2_work_23 rfl (lv_at hl 10 rfl) ?_
                            refine gi_sub hx hb dX2_work_24 ?_
                            refine lv_istore (lv' := [(8, .int (iI (7 - p0))), (7, .int (iI (1))), (12, .int (iI (0))), (11, .ref (ι (r0 * 8 + p0)).toNat), (10, .int (iI (4))), (9, .int (iI (tw (r0 * 8 + p0)))), (6, .int (iI (0))), (0, .ref (d 0)), (1, .int (iI (2))), (2, .int (iI (r0))), (3, .int (iI (p0))), (4, .int (iI (i0))), (5, .int (iI (0)))]) hx hb dX2_work_25 hl (by decide) rfl (fun ls hl => ?_)
                            refine lv_iload hx hb dX2_work_27 (lv_at hl 0 rfl) ?_
                            refine lv_iconst (v := iI (4)) hx hb dX2_work_29 rfl ?_
                            refine g_selGe (u := 0) (v := 1) (t1 := 37) (t2 := 38) hx hb ⟨by omega, by omega⟩ ⟨by decide, by decide⟩ dX2_work_30 (by decide) (fun st h => lv_iconst (v := iI (0)) hx hb dX2_work_33 rfl (lv_goto (tgt := 38) hx hb dX2_work_34 (by decide) h)) (fun st h => lv_iconst (v := iI (1)) hx hb dX2_work_37 rfl h) ?_
                            rw [show (if 7 - p0 < 4 then (0 : Int) else 1) = tw (r0 * 8 + (7 - p0)) from by unfold tw; split <;> split <;> omega]
                            refine lv_istore (lv' := [(9, .int (iI (tw (r0 * 8 + (7 - p0))))), (8, .int (iI (7 - p0))), (7, .int (iI (1))), (12, .int (iI (0))), (11, .ref (ι (r0 * 8 + p0)).toNat), (10, .int (iI (4))), (6, .int (iI (0))), (0, .ref (d 0)), (1, .int (iI (2))), (2, .int (iI (r0))), (3, .int (iI (p0))), (4, .int (iI (i0))), (5, .int (iI (0)))]) hx hb dX2_work_38 hl (by decide) rfl (fun ls hl => ?_)
                            refine lv_iload_n hx hb dX2_work_40 rfl (lv_at hl 8 rfl) ?_
                            refine gi_if_ne (tgt := 48) hx hb dX2_work_41 (by decide) ⟨by decide, by decide⟩ (fun c41 => ?_) (fun c41 => ?_)
                            · skip
                              refine lv_iload_n hx hb dX2_work_48 rfl (lv_at hl 8 rfl) ?_
                              refine lv_iconst (v := iI (1)) hx hb dX2_work_49 rfl ?_
                              refine gi_icmp_ne (tgt := 57) hx hb dX2_work_50 (by decide) ⟨by decide, by decide⟩ ⟨by decide, by decide⟩ (fun c50 => ?_) (fun c50 => ?_)
                              · skip
                                refine lv_iload_n hx hb dX2_work_57 rfl (lv_at hl 8 rfl) ?_
                                refine lv_iconst (v := iI (2)) hx hb dX2_work_58 rfl ?_
                                refine gi_icmp_ne (tgt := 66) hx hb dX2_work_59 (by decide) ⟨by decide, by decide⟩ ⟨by decide, by decide⟩ (fun c59 => ?_) (fun c59 => ?_)
                                · skip
                                  exact absurd rfl c59
                                · skip
                                  refine lv_iconst (v := iI (4)) hx hb dX2_work_62 rfl ?_
                                  refine lv_goto (tgt := 68) hx hb dX2_work_63 (by decide) ?_
                                  refine lv_istore (lv' := [(10, .int (iI (4))), (9, .int (iI (tw (r0 * 8 + (7 - p0))))), (8, .int (iI (7 - p0))), (7, .int (iI (1))), (12, .int (iI (0))), (11, .ref (ι (r0 * 8 + p0)).toNat), (6, .int (iI (0))), (0, .ref (d 0)), (1, .int (iI (2))), (2, .int (iI (r0))), (3, .int (iI (p0))), (4, .int (iI (i0))), (5, .int (iI (0)))]) hx hb dX2_work_68 hl (by decide) rfl (fun ls hl => ?_)
                                  refine lv_aload_n hx hb dX2_work_70 rfl (lv_at hl 7 rfl) ?_
                                  refine va_get (D := D) (ci := 2) (v := .ref (d 1)) (C := RX2) (T := TX2) (N := 8) hx hb hts hinX2 hown hK hP 0 rfl rfl 0 (by decide) (hts (.fieldLink RX2 9 "TwinOrchardLaw$Sim" "trees" "[[LTwinOrchardLaw$Tree;") (List.mem_of_getElem? (i := 1) rfl)) (fun _ h9 => h9) rfl dX2_work_71 ?_
                                  refine lv_iload_n hx hb dX2_work_74 rfl (lv_at hl 9 rfl) ?_
                                  refine s_row (f := srt d) hx hb hK hP 1 3 rfl rfl (by omega) (by omega) (by decide) (v := d (r0.toNat + 7)) (if_pos (by omega)) dX2_work_75 ?_
                                  refine lv_iload hx hb dX2_work_76 (lv_at hl 2 rfl) ?_
                                  refine s_tree (σ := xGraft σ (r0 * 8 + p0) i0) (ι := ι) (r := r0) (i := 7 - p0) hx hb hK hP (r0.toNat + 7) 2 (sw_row (by omega) (by omega)) rfl (by omega) (by omega) dX2_work_78 (fun ct78 => ?_) (fun ct78 => ?_)
                                  · skip
                                    refine lv_astoreN (lv' := [(11, .null), (10, .int (iI (4))), (9, .int (iI (tw (r0 * 8 + (7 - p0))))), (8, .int (iI (7 - p0))), (7, .int (iI (1))), (12, .int (iI (0))), (6, .int (iI (0))), (0, .ref (d 0)), (1, .int (iI (2))), (2, .int (iI (r0))), (3, .int (iI (p0))), (4, .int (iI (i0))), (5, .int (iI (0)))]) hx hb dX2_work_79 hl (by decide) rfl (fun ls hl => ?_)
                                    refine lv_iload_n hx hb dX2_work_81 rfl (lv_at hl 8 rfl) ?_
                                    refine gi_if_ne (tgt := 98) hx hb dX2_work_82 (by decide) ⟨by decide, by decide⟩ (fun c82 => ?_) (fun c82 => ?_)
                                    · skip
                                      refine lv_aloadN hx hb dX2_work_98 (lv_at hl 0 rfl) ?_
                                      refine lv_ifnullN (tgt := 148) hx hb dX2_work_100 (by decide) ?_
                                      refine lv_iconst (v := iI (0)) hx hb dX2_work_148 rfl ?_
                                      refine lv_istore (lv' := [(12, .int (iI (0))), (11, .null), (10, .int (iI (4))), (9, .int (iI (tw (r0 * 8 + (7 - p0))))), (8, .int (iI (7 - p0))), (7, .int (iI (1))), (6, .int (iI (0))), (0, .ref (d 0)), (1, .int (iI (2))), (2, .int (iI (r0))), (3, .int (iI (p0))), (4, .int (iI (i0))), (5, .int (iI (0)))]) hx hb dX2_work_149 hl (by decide) rfl (fun ls hl => ?_)
                                      refine lv_iload hx hb dX2_work_151 (lv_at hl 0 rfl) ?_
                                      refine gi_if_eq (tgt := 309) hx hb dX2_work_153 (by decide) ⟨by decide, by decide⟩ (fun c153 => ?_) (fun c153 => ?_)
                                      · skip
                                        have ha2 : grA (xGraft σ (r0 * 8 + p0) i0) (r0 * 8 + (7 - p0)) i0 = 0 := bI_f (by omega)
                                        have e8 : (xGraft σ (r0 * 8 + p0) i0) = (xGraft (xGraft σ (r0 * 8 + p0) i0) (r0 * 8 + (7 - p0)) i0) := (xGraft_n (by omega)).symm
                                        rw [e8] at hP hD
                                        have hP : va_P D vwCl (SW cI cT cU d (xGraft (xGraft σ (r0 * 8 + p0) i0) (r0 * 8 + (7 - p0)) i0) ι) H := hP
                                        have hD : va_D A (SW cI cT cU d (xGraft (xGraft σ (r0 * 8 + p0) i0) (r0 * 8 + (7 - p0)) i0) ι) := hD
                                        refine lv_iinc (v := iI (2)) (lv' := [(7, .int (iI (2))), (12, .int (iI (0))), (11, .null), (10, .int (iI (4))), (9, .int (iI (tw (r0 * 8 + (7 - p0))))), (8, .int (iI (7 - p0))), (6, .int (iI (0))), (0, .ref (d 0)), (1, .int (iI (2))), (2, .int (iI (r0))), (3, .int (iI (p0))), (4, .int (iI (i0))), (5, .int (iI (0)))]) hx hb dX2_work_309 hl (k := 5) rfl rfl (by decide) rfl (fun ls hl => ?_)
                                        refine lv_goto (tgt := 6) hx hb dX2_work_312 (by decide) ?_
                                        refine lv_iload hx hb dX2_work_6 (lv_at hl 0 rfl) ?_
                                        refine lv_iconst (v := iI (2)) hx hb dX2_work_8 rfl ?_
                                        refine gi_icmp_ge (tgt := 315) hx hb dX2_work_9 (by decide) ⟨by decide, by decide⟩ ⟨by decide, by decide⟩ (fun c9 => ?_) (fun c9 => ?_)
                                        · skip
                                          refine lv_iload hx hb dX2_work_315 (lv_at hl 6 rfl) ?_
                                          have ess : (xGraft (xGraft σ (r0 * 8 + p0) i0) (mir (r0 * 8 + p0)) i0) = (xGraft (xGraft σ (r0 * 8 + p0) i0) (r0 * 8 + (7 - p0)) i0) := by rw [em]
                                          have hP : va_P D vwCl (SW cI cT cU d (xGraft (xGraft σ (r0 * 8 + p0) i0) (mir (r0 * 8 + p0)) i0) ι) H := by rw [ess]; exact hP
                                          have hD : va_D A (SW cI cT cU d (xGraft (xGraft σ (r0 * 8 + p0) i0) (mir (r0 * 8 + p0)) i0) ι) := by rw [ess]; exact hD
                                          have er : ((who (grA σ (r0 * 8 + p0) i0) (grA (xGraft σ (r0 * 8 + p0) i0) (mir (r0 * 8 + p0)) i0) : Int)) = (0) := by rw [em, ha1, ha2]; decide
                                          exact g_iret (wo := (fun κ' => SW cI cT cU d (xGraft (xGraft σ (r0 * 8 + p0) i0) (mir (r0 * 8 + p0)) i0) (κ' 2))) (kr := (fun κ' => True)) (rv := (fun _ => some (.int (iI (who (grA σ (r0 * 8 + p0) i0) (grA (xGraft σ (r0 * 8 + p0) i0) (mir (r0 * 8 + p0)) i0)))))) hx hb hr hlocks (fun _ => ι) rfl hP hK hD hS trivial (by rw [er]) (Nat.le_of_ble_eq_true rfl) (Nat.le_of_ble_eq_true rfl) dX2_work_317
                                        · skip
                                          omega
                                      · skip
                                        exact absurd rfl c153
                                    · skip
                                      exact absurd c82 (by decide)
                                  · skip
                                    refine lv_astore (lv' := [(11, .ref (ι (r0 * 8 + (7 - p0))).toNat), (10, .int (iI (4))), (9, .int (iI (tw (r0 * 8 + (7 - p0))))), (8, .int (iI (7 - p0))), (7, .int (iI (1))), (12, .int (iI (0))), (6, .int (iI (0))), (0, .ref (d 0)), (1, .int (iI (2))), (2, .int (iI (r0))), (3, .int (iI (p0))), (4, .int (iI (i0))), (5, .int (iI (0)))]) hx hb dX2_work_79 hl (by decide) rfl (fun ls hl => ?_)
                                    refine lv_iload_n hx hb dX2_work_81 rfl (lv_at hl 8 rfl) ?_
                                    refine gi_if_ne (tgt := 98) hx hb dX2_work_82 (by decide) ⟨by decide, by decide⟩ (fun c82 => ?_) (fun c82 => ?_)
                                    · skip
                                      refine lv_aload hx hb dX2_work_98 (lv_at hl 0 rfl) ?_
                                      refine lv_ifnull hx hb dX2_work_100 ?_
                                      refine lv_iload_n hx hb dX2_work_103 rfl (lv_at hl 8 rfl) ?_
                                      refine lv_iconst (v := iI (1)) hx hb dX2_work_104 rfl ?_
                                      refine gi_icmp_ne (tgt := 121) hx hb dX2_work_105 (by decide) ⟨by decide, by decide⟩ ⟨by decide, by decide⟩ (fun c105 => ?_) (fun c105 => ?_)
                                      · skip
                                        refine lv_iload_n hx hb dX2_work_121 rfl (lv_at hl 8 rfl) ?_
                                        refine lv_iconst (v := iI (2)) hx hb dX2_work_122 rfl ?_
                                        refine gi_icmp_ne (tgt := 144) hx hb dX2_work_123 (by decide) ⟨by decide, by decide⟩ ⟨by decide, by decide⟩ (fun c123 => ?_) (fun c123 => ?_)
                                        · skip
                                          exact absurd rfl c123
                                        · skip
                                          refine lv_aload hx hb dX2_work_126 (lv_at hl 0 rfl) ?_
                                          refine va_get (D := D) (ci := 3) (v := .int (iI ((xGraft σ (r0 * 8 + p0) i0) 4 (r0 * 8 + (7 - p0))))) (C := RX3) (T := TX3) (N := 4) hx hb hts hinX3 hown hK hP (spos (xGraft σ (r0 * 8 + p0) i0) ι (r0 * 8 + (7 - p0))) (sw_at ct78 (by omega) (by omega)) rfl 2 (by decide) (hts (.fieldLink RX2 44 "TwinOrchardLaw$Tree" "sort" "I") (List.mem_of_getElem? (i := 3) rfl)) (fun _ h9 => h9) rfl dX2_work_128 ?_
                                          refine lv_iload hx hb dX2_work_131 (lv_at hl 11 rfl) ?_
                                          refine gi_icmp_eq (tgt := 148) hx hb dX2_work_133 (by decide) ⟨by omega, by omega⟩ ⟨by omega, by omega⟩ (fun c133 => ?_) (fun c133 => ?_)
                                          · skip
                                            refine lv_iconst (v := iI (0)) hx hb dX2_work_148 rfl ?_
                                            refine lv_istore (lv' := [(12, .int (iI (0))), (11, .ref (ι (r0 * 8 + (7 - p0))).toNat), (10, .int (iI (4))), (9, .int (iI (tw (r0 * 8 + (7 - p0))))), (8, .int (iI (7 - p0))), (7, .int (iI (1))), (6, .int (iI (0))), (0, .ref (d 0)), (1, .int (iI (2))), (2, .int (iI (r0))), (3, .int (iI (p0))), (4, .int (iI (i0))), (5, .int (iI (0)))]) hx hb dX2_work_149 hl (by decide) rfl (fun ls hl => ?_)
                                            refine lv_iload hx hb dX2_work_151 (lv_at hl 0 rfl) ?_
                                            refine gi_if_eq (tgt := 309) hx hb dX2_work_153 (by decide) ⟨by decide, by decide⟩ (fun c153 => ?_) (fun c153 => ?_)
                                            · skip
                                              have ha2 : grA (xGraft σ (r0 * 8 + p0) i0) (r0 * 8 + (7 - p0)) i0 = 0 := bI_f (by omega)
                                              have e8 : (xGraft σ (r0 * 8 + p0) i0) = (xGraft (xGraft σ (r0 * 8 + p0) i0) (r0 * 8 + (7 - p0)) i0) := (xGraft_n (by omega)).symm
                                              rw [e8] at hP hD
                                              have hP : va_P D vwCl (SW cI cT cU d (xGraft (xGraft σ (r0 * 8 + p0) i0) (r0 * 8 + (7 - p0)) i0) ι) H := hP
                                              have hD : va_D A (SW cI cT cU d (xGraft (xGraft σ (r0 * 8 + p0) i0) (r0 * 8 + (7 - p0)) i0) ι) := hD
                                              refine lv_iinc (v := iI (2)) (lv' := [(7, .int (iI (2))), (12, .int (iI (0))), (11, .ref (ι (r0 * 8 + (7 - p0))).toNat), (10, .int (iI (4))), (9, .int (iI (tw (r0 * 8 + (7 - p0))))), (8, .int (iI (7 - p0))), (6, .int (iI (0))), (0, .ref (d 0)), (1, .int (iI (2))), (2, .int (iI (r0))), (3, .int (iI (p0))), (4, .int (iI (i0))), (5, .int (iI (0)))]) hx hb dX2_work_309 hl (k := 5) rfl rfl (by decide) rfl (fun ls hl => ?_)
                                              refine lv_goto (tgt := 6) hx hb dX2_work_312 (by decide) ?_
                                              refine lv_iload hx hb dX2_work_6 (lv_at hl 0 rfl) ?_
                                              refine lv_iconst (v := iI (2)) hx hb dX2_work_8 rfl ?_
                                              refine gi_icmp_ge (tgt := 315) hx hb dX2_work_9 (by decide) ⟨by decide, by decide⟩ ⟨by decide, by decide⟩ (fun c9 => ?_) (fun c9 => ?_)
                                              · skip
                                                refine lv_iload hx hb dX2_work_315 (lv_at hl 6 rfl) ?_
                                                have ess : (xGraft (xGraft σ (r0 * 8 + p0) i0) (mir (r0 * 8 + p0)) i0) = (xGraft (xGraft σ (r0 * 8 + p0) i0) (r0 * 8 + (7 - p0)) i0) := by rw [em]
                                                have hP : va_P D vwCl (SW cI cT cU d (xGraft (xGraft σ (r0 * 8 + p0) i0) (mir (r0 * 8 + p0)) i0) ι) H := by rw [ess]; exact hP
                                                have hD : va_D A (SW cI cT cU d (xGraft (xGraft σ (r0 * 8 + p0) i0) (mir (r0 * 8 + p0)) i0) ι) := by rw [ess]; exact hD
                                                have er : ((who (grA σ (r0 * 8 + p0) i0) (grA (xGraft σ (r0 * 8 + p0) i0) (mir (r0 * 8 + p0)) i0) : Int)) = (0) := by rw [em, ha1, ha2]; decide
                                                exact g_iret (wo := (fun κ' => SW cI cT cU d (xGraft (xGraft σ (r0 * 8 + p0) i0) (mir (r0 * 8 + p0)) i0) (κ' 2))) (kr := (fun κ' => True)) (rv := (fun _ => some (.int (iI (who (grA σ (r0 * 8 + p0) i0) (grA (xGraft σ (r0 * 8 + p0) i0) (mir (r0 * 8 + p0)) i0)))))) hx hb hr hlocks (fun _ => ι) rfl hP hK hD hS trivial (by rw [er]) (Nat.le_of_ble_eq_true rfl) (Nat.le_of_ble_eq_true rfl) dX2_work_317
                                              · skip
                                                omega
                                            · skip
                                              exact absurd rfl c153
                                          · skip
                                            refine lv_aload hx hb dX2_work_136 (lv_at hl 0 rfl) ?_
                                            refine va_get (D := D) (ci := 3) (v := .int (iI ((xGraft σ (r0 * 8 + p0) i0) 5 (r0 * 8 + (7 - p0))))) (C := RX3) (T := TX3) (N := 4) hx hb hts hinX3 hown hK hP (spos (xGraft σ (r0 * 8 + p0) i0) ι (r0 * 8 + (7 - p0))) (sw_at ct78 (by omega) (by omega)) rfl 0 (by decide) (hts (.fieldLink RX2 41 "TwinOrchardLaw$Tree" "branches" "I") (List.mem_of_getElem? (i := 2) rfl)) (fun _ h9 => h9) rfl dX2_work_138 ?_
                                            refine gi_if_le (tgt := 148) hx hb dX2_work_141 (by decide) ⟨by omega, by omega⟩ (fun c141 => ?_) (fun c141 => ?_)
                                            · skip
                                              refine lv_iconst (v := iI (0)) hx hb dX2_work_148 rfl ?_
                                              refine lv_istore (lv' := [(12, .int (iI (0))), (11, .ref (ι (r0 * 8 + (7 - p0))).toNat), (10, .int (iI (4))), (9, .int (iI (tw (r0 * 8 + (7 - p0))))), (8, .int (iI (7 - p0))), (7, .int (iI (1))), (6, .int (iI (0))), (0, .ref (d 0)), (1, .int (iI (2))), (2, .int (iI (r0))), (3, .int (iI (p0))), (4, .int (iI (i0))), (5, .int (iI (0)))]) hx hb dX2_work_149 hl (by decide) rfl (fun ls hl => ?_)
                                              refine lv_iload hx hb dX2_work_151 (lv_at hl 0 rfl) ?_
                                              refine gi_if_eq (tgt := 309) hx hb dX2_work_153 (by decide) ⟨by decide, by decide⟩ (fun c153 => ?_) (fun c153 => ?_)
                                              · skip
                                                have ha2 : grA (xGraft σ (r0 * 8 + p0) i0) (r0 * 8 + (7 - p0)) i0 = 0 := bI_f (by omega)
                                                have e8 : (xGraft σ (r0 * 8 + p0) i0) = (xGraft (xGraft σ (r0 * 8 + p0) i0) (r0 * 8 + (7 - p0)) i0) := (xGraft_n (by omega)).symm
                                                rw [e8] at hP hD
                                                have hP : va_P D vwCl (SW cI cT cU d (xGraft (xGraft σ (r0 * 8 + p0) i0) (r0 * 8 + (7 - p0)) i0) ι) H := hP
                                                have hD : va_D A (SW cI cT cU d (xGraft (xGraft σ (r0 * 8 + p0) i0) (r0 * 8 + (7 - p0)) i0) ι) := hD
                                                refine lv_iinc (v := iI (2)) (lv' := [(7, .int (iI (2))), (12, .int (iI (0))), (11, .ref (ι (r0 * 8 + (7 - p0))).toNat), (10, .int (iI (4))), (9, .int (iI (tw (r0 * 8 + (7 - p0))))), (8, .int (iI (7 - p0))), (6, .int (iI (0))), (0, .ref (d 0)), (1, .int (iI (2))), (2, .int (iI (r0))), (3, .int (iI (p0))), (4, .int (iI (i0))), (5, .int (iI (0)))]) hx hb dX2_work_309 hl (k := 5) rfl rfl (by decide) rfl (fun ls hl => ?_)
                                                refine lv_goto (tgt := 6) hx hb dX2_work_312 (by decide) ?_
                                                refine lv_iload hx hb dX2_work_6 (lv_at hl 0 rfl) ?_
                                                refine lv_iconst (v := iI (2)) hx hb dX2_work_8 rfl ?_
                                                refine gi_icmp_ge (tgt := 315) hx hb dX2_work_9 (by decide) ⟨by decide, by decide⟩ ⟨by decide, by decide⟩ (fun c9 => ?_) (fun c9 => ?_)
                                                · skip
                                                  refine lv_iload hx hb dX2_work_315 (lv_at hl 6 rfl) ?_
                                                  have ess : (xGraft (xGraft σ (r0 * 8 + p0) i0) (mir (r0 * 8 + p0)) i0) = (xGraft (xGraft σ (r0 * 8 + p0) i0) (r0 * 8 + (7 - p0)) i0) := by rw [em]
                                                  have hP : va_P D vwCl (SW cI cT cU d (xGraft (xGraft σ (r0 * 8 + p0) i0) (mir (r0 * 8 + p0)) i0) ι) H := by rw [ess]; exact hP
                                                  have hD : va_D A (SW cI cT cU d (xGraft (xGraft σ (r0 * 8 + p0) i0) (mir (r0 * 8 + p0)) i0) ι) := by rw [ess]; exact hD
                                                  have er : ((who (grA σ (r0 * 8 + p0) i0) (grA (xGraft σ (r0 * 8 + p0) i0) (mir (r0 * 8 + p0)) i0) : Int)) = (0) := by rw [em, ha1, ha2]; decide
                                                  exact g_iret (wo := (fun κ' => SW cI cT cU d (xGraft (xGraft σ (r0 * 8 + p0) i0) (mir (r0 * 8 + p0)) i0) (κ' 2))) (kr := (fun κ' => True)) (rv := (fun _ => some (.int (iI (who (grA σ (r0 * 8 + p0) i0) (grA (xGraft σ (r0 * 8 + p0) i0) (mir (r0 * 8 + p0)) i0)))))) hx hb hr hlocks (fun _ => ι) rfl hP hK hD hS trivial (by rw [er]) (Nat.le_of_ble_eq_true rfl) (Nat.le_of_ble_eq_true rfl) dX2_work_317
                                                · skip
                                                  omega
                                              · skip
                                                exact absurd rfl c153
                                            · skip
                                              refine lv_iconst (v := iI (1)) hx hb dX2_work_144 rfl ?_
                                              refine lv_goto (tgt := 149) hx hb dX2_work_145 (by decide) ?_
                                              refine lv_istore (lv' := [(12, .int (iI (1))), (11, .ref (ι (r0 * 8 + (7 - p0))).toNat), (10, .int (iI (4))), (9, .int (iI (tw (r0 * 8 + (7 - p0))))), (8, .int (iI (7 - p0))), (7, .int (iI (1))), (6, .int (iI (0))), (0, .ref (d 0)), (1, .int (iI (2))), (2, .int (iI (r0))), (3, .int (iI (p0))), (4, .int (iI (i0))), (5, .int (iI (0)))]) hx hb dX2_work_149 hl (by decide) rfl (fun ls hl => ?_)
                                              refine lv_iload hx hb dX2_work_151 (lv_at hl 0 rfl) ?_
                                              refine gi_if_eq (tgt := 309) hx hb dX2_work_153 (by decide) ⟨by decide, by decide⟩ (fun c153 => ?_) (fun c153 => ?_)
                                              · skip
                                                exact absurd c153 (by decide)
                                              · skip
                                                refine lv_aload_n hx hb dX2_work_156 rfl (lv_at hl 7 rfl) ?_
                                                refine va_get (D := D) (ci := 2) (v := .ref (d 6)) (C := RX2) (T := TX2) (N := 8) hx hb hts hinX2 hown hK hP 0 rfl rfl 5 (by decide) (hts (.fieldLink RX2 27 "TwinOrchardLaw$Sim" "strength" "[I") (List.mem_of_getElem? (i := 4) rfl)) (fun _ h9 => h9) rfl dX2_work_157 ?_
                                                refine lv_iload hx hb dX2_work_160 (lv_at hl 3 rfl) ?_
                                                refine gi_iald (a := d 6) (n := 2) (f := (xGraft σ (r0 * 8 + p0) i0) 8) hx hb hK hP 6 0 rfl rfl (by omega) (by omega) (by decide) dX2_work_162 ?_
                                                refine lv_iload hx hb dX2_work_163 (lv_at hl 2 rfl) ?_
                                                refine gi_icmp_ge (tgt := 171) hx hb dX2_work_165 (by decide) ⟨by omega, by omega⟩ ⟨by decide, by decide⟩ (fun c165 => ?_) (fun c165 => ?_)
                                                · skip
                                                  refine lv_aload_n hx hb dX2_work_171 rfl (lv_at hl 7 rfl) ?_
                                                  refine va_get (D := D) (ci := 2) (v := .ref (d 6)) (C := RX2) (T := TX2) (N := 8) hx hb hts hinX2 hown hK hP 0 rfl rfl 5 (by decide) (hts (.fieldLink RX2 27 "TwinOrchardLaw$Sim" "strength" "[I") (List.mem_of_getElem? (i := 4) rfl)) (fun _ h9 => h9) rfl dX2_work_172 ?_
                                                  refine lv_iload hx hb dX2_work_175 (lv_at hl 3 rfl) ?_
                                                  refine lv_dup2_11 hx hb dX2_work_177 rfl rfl ?_
                                                  refine gi_iald (a := d 6) (n := 2) (f := (xGraft σ (r0 * 8 + p0) i0) 8) hx hb hK hP 6 0 rfl rfl (by omega) (by omega) (by decide) dX2_work_178 ?_
                                                  refine lv_iload hx hb dX2_work_179 (lv_at hl 2 rfl) ?_
                                                  refine gi_sub hx hb dX2_work_181 ?_
                                                  refine gi_iast (a := d 6) (n := 2) (f := (xGraft σ (r0 * 8 + p0) i0) 8) hx hb hK hP hD hS 6 0 rfl rfl (by omega) (by omega) (by decide) dX2_work_182 (fun H locs hP hD hS => ?_)
                                                  have hP : va_P D vwCl (SW cI cT cU d (su (xGraft σ (r0 * 8 + p0) i0) 8 (tw (r0 * 8 + (7 - p0))) (((xGraft σ (r0 * 8 + p0) i0) 8 (tw (r0 * 8 + (7 - p0)))) - 4)) ι) H := hP
                                                  have hD : va_D A (SW cI cT cU d (su (xGraft σ (r0 * 8 + p0) i0) 8 (tw (r0 * 8 + (7 - p0))) (((xGraft σ (r0 * 8 + p0) i0) 8 (tw (r0 * 8 + (7 - p0)))) - 4)) ι) := hD
                                                  refine lv_iload hx hb dX2_work_183 (lv_at hl 6 rfl) ?_
                                                  refine lv_iload hx hb dX2_work_185 (lv_at hl 5 rfl) ?_
                                                  refine lv_iconst (v := iI (1)) hx hb dX2_work_187 rfl ?_
                                                  refine gi_add hx hb dX2_work_188 ?_
                                                  refine gi_add hx hb dX2_work_189 ?_
                                                  refine lv_istore (lv' := [(6, .int (iI (0 + (1 + 1)))), (12, .int (iI (1))), (11, .ref (ι (r0 * 8 + (7 - p0))).toNat), (10, .int (iI (4))), (9, .int (iI (tw (r0 * 8 + (7 - p0))))), (8, .int (iI (7 - p0))), (7, .int (iI (1))), (0, .ref (d 0)), (1, .int (iI (2))), (2, .int (iI (r0))), (3, .int (iI (p0))), (4, .int (iI (i0))), (5, .int (iI (0)))]) hx hb dX2_work_190 hl (by decide) rfl (fun ls hl => ?_)
                                                  refine lv_iload_n hx hb dX2_work_192 rfl (lv_at hl 8 rfl) ?_
                                                  refine gi_if_ne (tgt := 233) hx hb dX2_work_193 (by decide) ⟨by decide, by decide⟩ (fun c193 => ?_) (fun c193 => ?_)
                                                  · skip
                                                    refine lv_iload_n hx hb dX2_work_233 rfl (lv_at hl 8 rfl) ?_
                                                    refine lv_iconst (v := iI (1)) hx hb dX2_work_234 rfl ?_
                                                    refine gi_icmp_ne (tgt := 259) hx hb dX2_work_235 (by decide) ⟨by decide, by decide⟩ ⟨by decide, by decide⟩ (fun c235 => ?_) (fun c235 => ?_)
                                                    · skip
                                                      refine lv_iload_n hx hb dX2_work_259 rfl (lv_at hl 8 rfl) ?_
                                                      refine lv_iconst (v := iI (2)) hx hb dX2_work_260 rfl ?_
                                                      refine gi_icmp_ne (tgt := 299) hx hb dX2_work_261 (by decide) ⟨by decide, by decide⟩ ⟨by decide, by decide⟩ (fun c261 => ?_) (fun c261 => ?_)
                                                      · skip
                                                        exact absurd rfl c261
                                                      · skip
                                                        refine lv_aload hx hb dX2_work_264 (lv_at hl 2 rfl) ?_
                                                        refine lv_iload hx hb dX2_work_266 (lv_at hl 11 rfl) ?_
                                                        refine va_put (D := D) (ci := 3) (v := .int (iI (i0))) (ty := .int) (C := RX3) (T := TX3) (N := 4) hx hb hts hinX3 tyX3 tyX3_ok nmX3 hown hK hP hD hS (spos (su (xGraft σ (r0 * 8 + p0) i0) 8 (tw (r0 * 8 + (7 - p0))) (((xGraft σ (r0 * 8 + p0) i0) 8 (tw (r0 * 8 + (7 - p0)))) - 4)) ι (r0 * 8 + (7 - p0))) (sw_at ct78 (by omega) (by omega)) rfl 2 (by decide) (hts (.fieldLink RX2 44 "TwinOrchardLaw$Tree" "sort" "I") (List.mem_of_getElem? (i := 3) rfl)) (fun _ h9 => h9) rfl (by decide +kernel) rfl rfl (Nat.le_of_ble_eq_true rfl) dX2_work_268 (fun H locs hP hD hS => ?_)
                                                        have hP : va_P D vwCl (SW cI cT cU d (su (su (xGraft σ (r0 * 8 + p0) i0) 8 (tw (r0 * 8 + (7 - p0))) (((xGraft σ (r0 * 8 + p0) i0) 8 (tw (r0 * 8 + (7 - p0)))) - 4)) 4 (r0 * 8 + (7 - p0)) (i0)) ι) H := va_Pe (sw_put4 (cI := cI) (cT := cT) (cU := cU) (d := d) (σ := su (xGraft σ (r0 * 8 + p0) i0) 8 (tw (r0 * 8 + (7 - p0))) (((xGraft σ (r0 * 8 + p0) i0) 8 (tw (r0 * 8 + (7 - p0)))) - 4)) (ι := ι) (k := r0 * 8 + (7 - p0)) (v := i0) (by omega) ct78 (by omega) (by omega)) hP
                                                        have hD : va_D A (SW cI cT cU d (su (su (xGraft σ (r0 * 8 + p0) i0) 8 (tw (r0 * 8 + (7 - p0))) (((xGraft σ (r0 * 8 + p0) i0) 8 (tw (r0 * 8 + (7 - p0)))) - 4)) 4 (r0 * 8 + (7 - p0)) (i0)) ι) := va_De (sw_put4 (cI := cI) (cT := cT) (cU := cU) (d := d) (σ := su (xGraft σ (r0 * 8 + p0) i0) 8 (tw (r0 * 8 + (7 - p0))) (((xGraft σ (r0 * 8 + p0) i0) 8 (tw (r0 * 8 + (7 - p0)))) - 4)) (ι := ι) (k := r0 * 8 + (7 - p0)) (v := i0) (by omega) ct78 (by omega) (by omega)) hD
                                                        have ct268 : ¬ (su (su (xGraft σ (r0 * 8 + p0) i0) 8 (tw (r0 * 8 + (7 - p0))) (((xGraft σ (r0 * 8 + p0) i0) 8 (tw (r0 * 8 + (7 - p0)))) - 4)) 4 (r0 * 8 + (7 - p0)) (i0)) 4 (r0 * 8 + (7 - p0)) = -1 := by show ¬ fu _ _ _ _ = -1; rw [fu_s]; omega
                                                        refine lv_aload hx hb dX2_work_271 (lv_at hl 2 rfl) ?_
                                                        refine lv_aload hx hb dX2_work_273 (lv_at hl 2 rfl) ?_
                                                        refine va_get (D := D) (ci := 3) (v := .int (iI ((su (su (xGraft σ (r0 * 8 + p0) i0) 8 (tw (r0 * 8 + (7 - p0))) (((xGraft σ (r0 * 8 + p0) i0) 8 (tw (r0 * 8 + (7 - p0)))) - 4)) 4 (r0 * 8 + (7 - p0)) (i0)) 5 (r0 * 8 + (7 - p0))))) (C := RX3) (T := TX3) (N := 4) hx hb hts hinX3 hown hK hP (spos (su (su (xGraft σ (r0 * 8 + p0) i0) 8 (tw (r0 * 8 + (7 - p0))) (((xGraft σ (r0 * 8 + p0) i0) 8 (tw (r0 * 8 + (7 - p0)))) - 4)) 4 (r0 * 8 + (7 - p0)) (i0)) ι (r0 * 8 + (7 - p0))) (sw_at ct268 (by omega) (by omega)) rfl 0 (by decide) (hts (.fieldLink RX2 41 "TwinOrchardLaw$Tree" "branches" "I") (List.mem_of_getElem? (i := 2) rfl)) (fun _ h9 => h9) rfl dX2_work_275 ?_
                                                        rw [show ((su (su (xGraft σ (r0 * 8 + p0) i0) 8 (tw (r0 * 8 + (7 - p0))) (((xGraft σ (r0 * 8 + p0) i0) 8 (tw (r0 * 8 + (7 - p0)))) - 4)) 4 (r0 * 8 + (7 - p0)) (i0)) 5 (r0 * 8 + (7 - p0))) = ((xGraft σ (r0 * 8 + p0) i0) 5 (r0 * 8 + (7 - p0))) from by rfl]
                                                        refine lv_iconst (v := iI (1)) hx hb dX2_work_278 rfl ?_
                                                        refine gi_icmp_le (tgt := 292) hx hb dX2_work_279 (by decide) ⟨by omega, by omega⟩ ⟨by decide, by decide⟩ (fun c279 => ?_) (fun c279 => ?_)
                                                        · skip
                                                          refine lv_iconst (v := iI (1)) hx hb dX2_work_292 rfl ?_
                                                          refine va_put (D := D) (ci := 3) (v := .int (iI (1))) (ty := .int) (C := RX3) (T := TX3) (N := 4) hx hb hts hinX3 tyX3 tyX3_ok nmX3 hown hK hP hD hS (spos (su (su (xGraft σ (r0 * 8 + p0) i0) 8 (tw (r0 * 8 + (7 - p0))) (((xGraft σ (r0 * 8 + p0) i0) 8 (tw (r0 * 8 + (7 - p0)))) - 4)) 4 (r0 * 8 + (7 - p0)) (i0)) ι (r0 * 8 + (7 - p0))) (sw_at ct268 (by omega) (by omega)) rfl 0 (by decide) (hts (.fieldLink RX2 41 "TwinOrchardLaw$Tree" "branches" "I") (List.mem_of_getElem? (i := 2) rfl)) (fun _ h9 => h9) rfl (by decide +kernel) rfl rfl (Nat.le_of_ble_eq_true rfl) dX2_work_293 (fun H locs hP hD hS => ?_)
                                                          have hP : va_P D vwCl (SW cI cT cU d (su (su (su (xGraft σ (r0 * 8 + p0) i0) 8 (tw (r0 * 8 + (7 - p0))) (((xGraft σ (r0 * 8 + p0) i0) 8 (tw (r0 * 8 + (7 - p0)))) - 4)) 4 (r0 * 8 + (7 - p0)) (i0)) 5 (r0 * 8 + (7 - p0)) (1)) ι) H := va_Pe (sw_put5 (cI := cI) (cT := cT) (cU := cU) (d := d) (σ := su (su (xGraft σ (r0 * 8 + p0) i0) 8 (tw (r0 * 8 + (7 - p0))) (((xGraft σ (r0 * 8 + p0) i0) 8 (tw (r0 * 8 + (7 - p0)))) - 4)) 4 (r0 * 8 + (7 - p0)) (i0)) (ι := ι) (k := r0 * 8 + (7 - p0)) (v := 1) ct268 (by omega) (by omega)) hP
                                                          have hD : va_D A (SW cI cT cU d (su (su (su (xGraft σ (r0 * 8 + p0) i0) 8 (tw (r0 * 8 + (7 - p0))) (((xGraft σ (r0 * 8 + p0) i0) 8 (tw (r0 * 8 + (7 - p0)))) - 4)) 4 (r0 * 8 + (7 - p0)) (i0)) 5 (r0 * 8 + (7 - p0)) (1)) ι) := va_De (sw_put5 (cI := cI) (cT := cT) (cU := cU) (d := d) (σ := su (su (xGraft σ (r0 * 8 + p0) i0) 8 (tw (r0 * 8 + (7 - p0))) (((xGraft σ (r0 * 8 + p0) i0) 8 (tw (r0 * 8 + (7 - p0)))) - 4)) 4 (r0 * 8 + (7 - p0)) (i0)) (ι := ι) (k := r0 * 8 + (7 - p0)) (v := 1) ct268 (by omega) (by omega)) hD
                                                          refine lv_goto (tgt := 309) hx hb dX2_work_296 (by decide) ?_
                                                          have ha2 : grA (xGraft σ (r0 * 8 + p0) i0) (r0 * 8 + (7 - p0)) i0 = 1 := bI_t (by omega)
                                                          have e8 : (su (su (su (xGraft σ (r0 * 8 + p0) i0) 8 (tw (r0 * 8 + (7 - p0))) (((xGraft σ (r0 * 8 + p0) i0) 8 (tw (r0 * 8 + (7 - p0)))) - 4)) 4 (r0 * 8 + (7 - p0)) (i0)) 5 (r0 * 8 + (7 - p0)) (1)) = (xGraft (xGraft σ (r0 * 8 + p0) i0) (r0 * 8 + (7 - p0)) i0) := (xGraft_y (by omega) (by omega)).symm
                                                          rw [e8] at hP hD
                                                          have hP : va_P D vwCl (SW cI cT cU d (xGraft (xGraft σ (r0 * 8 + p0) i0) (r0 * 8 + (7 - p0)) i0) ι) H := hP
                                                          have hD : va_D A (SW cI cT cU d (xGraft (xGraft σ (r0 * 8 + p0) i0) (r0 * 8 + (7 - p0)) i0) ι) := hD
                                                          refine lv_iinc (v := iI (2)) (lv' := [(7, .int (iI (2))), (6, .int (iI (0 + (1 + 1)))), (12, .int (iI (1))), (11, .ref (ι (r0 * 8 + (7 - p0))).toNat), (10, .int (iI (4))), (9, .int (iI (tw (r0 * 8 + (7 - p0))))), (8, .int (iI (7 - p0))), (0, .ref (d 0)), (1, .int (iI (2))), (2, .int (iI (r0))), (3, .int (iI (p0))), (4, .int (iI (i0))), (5, .int (iI (0)))]) hx hb dX2_work_309 hl (k := 6) rfl rfl (by decide) rfl (fun ls hl => ?_)
                                                          refine lv_goto (tgt := 6) hx hb dX2_work_312 (by decide) ?_
                                                          refine lv_iload hx hb dX2_work_6 (lv_at hl 0 rfl) ?_
                                                          refine lv_iconst (v := iI (2)) hx hb dX2_work_8 rfl ?_
                                                          refine gi_icmp_ge (tgt := 315) hx hb dX2_work_9 (by decide) ⟨by decide, by decide⟩ ⟨by decide, by decide⟩ (fun c9 => ?_) (fun c9 => ?_)
                                                          · skip
                                                            refine lv_iload hx hb dX2_work_315 (lv_at hl 1 rfl) ?_
                                                            have ess : (xGraft (xGraft σ (r0 * 8 + p0) i0) (mir (r0 * 8 + p0)) i0) = (xGraft (xGraft σ (r0 * 8 + p0) i0) (r0 * 8 + (7 - p0)) i0) := by rw [em]
                                                            have hP : va_P D vwCl (SW cI cT cU d (xGraft (xGraft σ (r0 * 8 + p0) i0) (mir (r0 * 8 + p0)) i0) ι) H := by rw [ess]; exact hP
                                                            have hD : va_D A (SW cI cT cU d (xGraft (xGraft σ (r0 * 8 + p0) i0) (mir (r0 * 8 + p0)) i0) ι) := by rw [ess]; exact hD
                                                            have er : ((who (grA σ (r0 * 8 + p0) i0) (grA (xGraft σ (r0 * 8 + p0) i0) (mir (r0 * 8 + p0)) i0) : Int)) = (0 + (1 + 1)) := by rw [em, ha1, ha2]; decide
                                                            exact g_iret (wo := (fun κ' => SW cI cT cU d (xGraft (xGraft σ (r0 * 8 + p0) i0) (mir (r0 * 8 + p0)) i0) (κ' 2))) (kr := (fun κ' => True)) (rv := (fun _ => some (.int (iI (who (grA σ (r0 * 8 + p0) i0) (grA (xGraft σ (r0 * 8 + p0) i0) (mir (r0 * 8 + p0)) i0)))))) hx hb hr hlocks (fun _ => ι) rfl hP hK hD hS trivial (by rw [er]) (Nat.le_of_ble_eq_true rfl) (Nat.le_of_ble_eq_true rfl) dX2_work_317
                                                          · skip
                                                            omega
                                                        · skip
                                                          refine lv_aload hx hb dX2_work_282 (lv_at hl 2 rfl) ?_
                                                          refine va_get (D := D) (ci := 3) (v := .int (iI ((su (su (xGraft σ (r0 * 8 + p0) i0) 8 (tw (r0 * 8 + (7 - p0))) (((xGraft σ (r0 * 8 + p0) i0) 8 (tw (r0 * 8 + (7 - p0)))) - 4)) 4 (r0 * 8 + (7 - p0)) (i0)) 5 (r0 * 8 + (7 - p0))))) (C := RX3) (T := TX3) (N := 4) hx hb hts hinX3 hown hK hP (spos (su (su (xGraft σ (r0 * 8 + p0) i0) 8 (tw (r0 * 8 + (7 - p0))) (((xGraft σ (r0 * 8 + p0) i0) 8 (tw (r0 * 8 + (7 - p0)))) - 4)) 4 (r0 * 8 + (7 - p0)) (i0)) ι (r0 * 8 + (7 - p0))) (sw_at ct268 (by omega) (by omega)) rfl 0 (by decide) (hts (.fieldLink RX2 41 "TwinOrchardLaw$Tree" "branches" "I") (List.mem_of_getElem? (i := 2) rfl)) (fun _ h9 => h9) rfl dX2_work_284 ?_
                                                          rw [show ((su (su (xGraft σ (r0 * 8 + p0) i0) 8 (tw (r0 * 8 + (7 - p0))) (((xGraft σ (r0 * 8 + p0) i0) 8 (tw (r0 * 8 + (7 - p0)))) - 4)) 4 (r0 * 8 + (7 - p0)) (i0)) 5 (r0 * 8 + (7 - p0))) = ((xGraft σ (r0 * 8 + p0) i0) 5 (r0 * 8 + (7 - p0))) from by rfl]
                                                          refine lv_iconst (v := iI (2)) hx hb dX2_work_287 rfl ?_
                                                          refine gi_div hx hb ⟨by omega, by omega⟩ ⟨by omega, by omega⟩ dX2_work_288 ?_
                                                          refine lv_goto (tgt := 293) hx hb dX2_work_289 (by decide) ?_
                                                          refine va_put (D := D) (ci := 3) (v := .int (iI (((xGraft σ (r0 * 8 + p0) i0) 5 (r0 * 8 + (7 - p0))) / 2))) (ty := .int) (C := RX3) (T := TX3) (N := 4) hx hb hts hinX3 tyX3 tyX3_ok nmX3 hown hK hP hD hS (spos (su (su (xGraft σ (r0 * 8 + p0) i0) 8 (tw (r0 * 8 + (7 - p0))) (((xGraft σ (r0 * 8 + p0) i0) 8 (tw (r0 * 8 + (7 - p0)))) - 4)) 4 (r0 * 8 + (7 - p0)) (i0)) ι (r0 * 8 + (7 - p0))) (sw_at ct268 (by omega) (by omega)) rfl 0 (by decide) (hts (.fieldLink RX2 41 "TwinOrchardLaw$Tree" "branches" "I") (List.mem_of_getElem? (i := 2) rfl)) (fun _ h9 => h9) rfl (by decide +kernel) rfl rfl (Nat.le_of_ble_eq_true rfl) dX2_work_293 (fun H locs hP hD hS => ?_)
                                                          have hP : va_P D vwCl (SW cI cT cU d (su (su (su (xGraft σ (r0 * 8 + p0) i0) 8 (tw (r0 * 8 + (7 - p0))) (((xGraft σ (r0 * 8 + p0) i0) 8 (tw (r0 * 8 + (7 - p0)))) - 4)) 4 (r0 * 8 + (7 - p0)) (i0)) 5 (r0 * 8 + (7 - p0)) (((xGraft σ (r0 * 8 + p0) i0) 5 (r0 * 8 + (7 - p0))) / 2)) ι) H := va_Pe (sw_put5 (cI := cI) (cT := cT) (cU := cU) (d := d) (σ := su (su (xGraft σ (r0 * 8 + p0) i0) 8 (tw (r0 * 8 + (7 - p0))) (((xGraft σ (r0 * 8 + p0) i0) 8 (tw (r0 * 8 + (7 - p0)))) - 4)) 4 (r0 * 8 + (7 - p0)) (i0)) (ι := ι) (k := r0 * 8 + (7 - p0)) (v := ((xGraft σ (r0 * 8 + p0) i0) 5 (r0 * 8 + (7 - p0))) / 2) ct268 (by omega) (by omega)) hP
                                                          have hD : va_D A (SW cI cT cU d (su (su (su (xGraft σ (r0 * 8 + p0) i0) 8 (tw (r0 * 8 + (7 - p0))) (((xGraft σ (r0 * 8 + p0) i0) 8 (tw (r0 * 8 + (7 - p0)))) - 4)) 4 (r0 * 8 + (7 - p0)) (i0)) 5 (r0 * 8 + (7 - p0)) (((xGraft σ (r0 * 8 + p0) i0) 5 (r0 * 8 + (7 - p0))) / 2)) ι) := va_De (sw_put5 (cI := cI) (cT := cT) (cU := cU) (d := d) (σ := su (su (xGraft σ (r0 * 8 + p0) i0) 8 (tw (r0 * 8 + (7 - p0))) (((xGraft σ (r0 * 8 + p0) i0) 8 (tw (r0 * 8 + (7 - p0)))) - 4)) 4 (r0 * 8 + (7 - p0)) (i0)) (ι := ι) (k := r0 * 8 + (7 - p0)) (v := ((xGraft σ (r0 * 8 + p0) i0) 5 (r0 * 8 + (7 - p0))) / 2) ct268 (by omega) (by omega)) hD
                                                          refine lv_goto (tgt := 309) hx hb dX2_work_296 (by decide) ?_
                                                          have ha2 : grA (xGraft σ (r0 * 8 + p0) i0) (r0 * 8 + (7 - p0)) i0 = 1 := bI_t (by omega)
                                                          have e8 : (su (su (su (xGraft σ (r0 * 8 + p0) i0) 8 (tw (r0 * 8 + (7 - p0))) (((xGraft σ (r0 * 8 + p0) i0) 8 (tw (r0 * 8 + (7 - p0)))) - 4)) 4 (r0 * 8 + (7 - p0)) (i0)) 5 (r0 * 8 + (7 - p0)) (((xGraft σ (r0 * 8 + p0) i0) 5 (r0 * 8 + (7 - p0))) / 2)) = (xGraft (xGraft σ (r0 * 8 + p0) i0) (r0 * 8 + (7 - p0)) i0) := (xGraft_y (by omega) (by omega)).symm
                                                          rw [e8] at hP hD
                                                          have hP : va_P D vwCl (SW cI cT cU d (xGraft (xGraft σ (r0 * 8 + p0) i0) (r0 * 8 + (7 - p0)) i0) ι) H := hP
                                                          have hD : va_D A (SW cI cT cU d (xGraft (xGraft σ (r0 * 8 + p0) i0) (r0 * 8 + (7 - p0)) i0) ι) := hD
                                                          refine lv_iinc (v := iI (2)) (lv' := [(7, .int (iI (2))), (6, .int (iI (0 + (1 + 1)))), (12, .int (iI (1))), (11, .ref (ι (r0 * 8 + (7 - p0))).toNat), (10, .int (iI (4))), (9, .int (iI (tw (r0 * 8 + (7 - p0))))), (8, .int (iI (7 - p0))), (0, .ref (d 0)), (1, .int (iI (2))), (2, .int (iI (r0))), (3, .int (iI (p0))), (4, .int (iI (i0))), (5, .int (iI (0)))]) hx hb dX2_work_309 hl (k := 6) rfl rfl (by decide) rfl (fun ls hl => ?_)
                                                          refine lv_goto (tgt := 6) hx hb dX2_work_312 (by decide) ?_
                                                          refine lv_iload hx hb dX2_work_6 (lv_at hl 0 rfl) ?_
                                                          refine lv_iconst (v := iI (2)) hx hb dX2_work_8 rfl ?_
                                                          refine gi_icmp_ge (tgt := 315) hx hb dX2_work_9 (by decide) ⟨by decide, by decide⟩ ⟨by decide, by decide⟩ (fun c9 => ?_) (fun c9 => ?_)
                                                          · skip
                                                            refine lv_iload hx hb dX2_work_315 (lv_at hl 1 rfl) ?_
                                                            have ess : (xGraft (xGraft σ (r0 * 8 + p0) i0) (mir (r0 * 8 + p0)) i0) = (xGraft (xGraft σ (r0 * 8 + p0) i0) (r0 * 8 + (7 - p0)) i0) := by rw [em]
                                                            have hP : va_P D vwCl (SW cI cT cU d (xGraft (xGraft σ (r0 * 8 + p0) i0) (mir (r0 * 8 + p0)) i0) ι) H := by rw [ess]; exact hP
                                                            have hD : va_D A (SW cI cT cU d (xGraft (xGraft σ (r0 * 8 + p0) i0) (mir (r0 * 8 + p0)) i0) ι) := by rw [ess]; exact hD
                                                            have er : ((who (grA σ (r0 * 8 + p0) i0) (grA (xGraft σ (r0 * 8 + p0) i0) (mir (r0 * 8 + p0)) i0) : Int)) = (0 + (1 + 1)) := by rw [em, ha1, ha2]; decide
                                                            exact g_iret (wo := (fun κ' => SW cI cT cU d (xGraft (xGraft σ (r0 * 8 + p0) i0) (mir (r0 * 8 + p0)) i0) (κ' 2))) (kr := (fun κ' => True)) (rv := (fun _ => some (.int (iI (who (grA σ (r0 * 8 + p0) i0) (grA (xGraft σ (r0 * 8 + p0) i0) (mir (r0 * 8 + p0)) i0)))))) hx hb hr hlocks (fun _ => ι) rfl hP hK hD hS trivial (by rw [er]) (Nat.le_of_ble_eq_true rfl) (Nat.le_of_ble_eq_true rfl) dX2_work_317
                                                          · skip
                                                            omega
                                                    · skip
                                                      exact absurd c235 (by decide)
                                                  · skip
                                                    exact absurd c193 (by decide)
                                                · skip
                                                  refine lv_goto (tgt := 309) hx hb dX2_work_168 (by decide) ?_
                                                  have ha2 : grA (xGraft σ (r0 * 8 + p0) i0) (r0 * 8 + (7 - p0)) i0 = 0 := bI_f (by omega)
                                                  have e8 : (xGraft σ (r0 * 8 + p0) i0) = (xGraft (xGraft σ (r0 * 8 + p0) i0) (r0 * 8 + (7 - p0)) i0) := (xGraft_n (by omega)).symm
                                                  rw [e8] at hP hD
                                                  have hP : va_P D vwCl (SW cI cT cU d (xGraft (xGraft σ (r0 * 8 + p0) i0) (r0 * 8 + (7 - p0)) i0) ι) H := hP
                                                  have hD : va_D A (SW cI cT cU d (xGraft (xGraft σ (r0 * 8 + p0) i0) (r0 * 8 + (7 - p0)) i0) ι) := hD
                                                  refine lv_iinc (v := iI (2)) (lv' := [(7, .int (iI (2))), (12, .int (iI (1))), (11, .ref (ι (r0 * 8 + (7 - p0))).toNat), (10, .int (iI (4))), (9, .int (iI (tw (r0 * 8 + (7 - p0))))), (8, .int (iI (7 - p0))), (6, .int (iI (0))), (0, .ref (d 0)), (1, .int (iI (2))), (2, .int (iI (r0))), (3, .int (iI (p0))), (4, .int (iI (i0))), (5, .int (iI (0)))]) hx hb dX2_work_309 hl (k := 5) rfl rfl (by decide) rfl (fun ls hl => ?_)
                                                  refine lv_goto (tgt := 6) hx hb dX2_work_312 (by decide) ?_
                                                  refine lv_iload hx hb dX2_work_6 (lv_at hl 0 rfl) ?_
                                                  refine lv_iconst (v := iI (2)) hx hb dX2_work_8 rfl ?_
                                                  refine gi_icmp_ge (tgt := 315) hx hb dX2_work_9 (by decide) ⟨by decide, by decide⟩ ⟨by decide, by decide⟩ (fun c9 => ?_) (fun c9 => ?_)
                                                  · skip
                                                    refine lv_iload hx hb dX2_work_315 (lv_at hl 6 rfl) ?_
                                                    have ess : (xGraft (xGraft σ (r0 * 8 + p0) i0) (mir (r0 * 8 + p0)) i0) = (xGraft (xGraft σ (r0 * 8 + p0) i0) (r0 * 8 + (7 - p0)) i0) := by rw [em]
                                                    have hP : va_P D vwCl (SW cI cT cU d (xGraft (xGraft σ (r0 * 8 + p0) i0) (mir (r0 * 8 + p0)) i0) ι) H := by rw [ess]; exact hP
                                                    have hD : va_D A (SW cI cT cU d (xGraft (xGraft σ (r0 * 8 + p0) i0) (mir (r0 * 8 + p0)) i0) ι) := by rw [ess]; exact hD
                                                    have er : ((who (grA σ (r0 * 8 + p0) i0) (grA (xGraft σ (r0 * 8 + p0) i0) (mir (r0 * 8 + p0)) i0) : Int)) = (0) := by rw [em, ha1, ha2]; decide
                                                    exact g_iret (wo := (fun κ' => SW cI cT cU d (xGraft (xGraft σ (r0 * 8 + p0) i0) (mir (r0 * 8 + p0)) i0) (κ' 2))) (kr := (fun κ' => True)) (rv := (fun _ => some (.int (iI (who (grA σ (r0 * 8 + p0) i0) (grA (xGraft σ (r0 * 8 + p0) i0) (mir (r0 * 8 + p0)) i0)))))) hx hb hr hlocks (fun _ => ι) rfl hP hK hD hS trivial (by rw [er]) (Nat.le_of_ble_eq_true rfl) (Nat.le_of_ble_eq_true rfl) dX2_work_317
                                                  · skip
                                                    omega
                                      · skip
                                        exact absurd c105 (by decide)
                                    · skip
                                      exact absurd c82 (by decide)
                              · skip
                                exact absurd c50 (by decide)
                            · skip
                              exact absurd c41 (by decide)
                          · skip
                            exact absurd c14 (by decide)
                      · skip
                        exact absurd rfl c153
                    · skip
                      refine lv_aload hx hb dX2_work_136 (lv_at hl 0 rfl) ?_
                      refine va_get (D := D) (ci := 3) (v := .int (iI (σ 5 (r0 * 8 + p0)))) (C := RX3) (T := TX3) (N := 4) hx hb hts hinX3 hown hK hP (spos σ ι (r0 * 8 + p0)) (sw_at ct78 (by omega) (by omega)) rfl 0 (by decide) (hts (.fieldLink RX2 41 "TwinOrchardLaw$Tree" "branches" "I") (List.mem_of_getElem? (i := 2) rfl)) (fun _ h9 => h9) rfl dX2_work_138 ?_
                      refine gi_if_le (tgt := 148) hx hb dX2_work_141 (by decide) ⟨by omega, by omega⟩ (fun c141 => ?_) (fun c141 => ?_)
                      · skip
                        refine lv_iconst (v := iI (0)) hx hb dX2_work_148 rfl ?_
                        refine lv_istore (lv' := [(12, .int (iI (0))), (11, .ref (ι (r0 * 8 + p0)).toNat), (10, .int (iI (4))), (9, .int (iI (tw (r0 * 8 + p0)))), (8, .int (iI (p0))), (7, .int (iI (0))), (6, .int (iI (0))), (0, .ref (d 0)), (1, .int (iI (2))), (2, .int (iI (r0))), (3, .int (iI (p0))), (4, .int (iI (i0))), (5, .int (iI (0)))]) hx hb dX2_work_149 hl (by decide) rfl (fun ls hl => ?_)
                        refine lv_iload hx hb dX2_work_151 (lv_at hl 0 rfl) ?_
                        refine gi_if_eq (tgt := 309) hx hb dX2_work_153 (by decide) ⟨by decide, by decide⟩ (fun c153 => ?_) (fun c153 => ?_)
                        · skip
                          have ha1 : grA σ (r0 * 8 + p0) i0 = 0 := bI_f (by omega)
                          have e8 : (σ) = (xGraft σ (r0 * 8 + p0) i0) := (xGraft_n (by omega)).symm
                          rw [e8] at hP hD
                          have hP : va_P D vwCl (SW cI cT cU d (xGraft σ (r0 * 8 + p0) i0) ι) H := hP
                          have hD : va_D A (SW cI cT cU d (xGraft σ (r0 * 8 + p0) i0) ι) := hD
                          have hwf2 : xWF (xGraft σ (r0 * 8 + p0) i0) := xWF_graft hwf hi
                          have k4b := xWF_4 hwf2 (r0 * 8 + (7 - p0))
                          have k5b := xWF_5 hwf2 (r0 * 8 + (7 - p0))
                          have k8b := xWF_8 hwf2 (tw (r0 * 8 + (7 - p0)))
                          refine lv_iinc (v := iI (1)) (lv' := [(7, .int (iI (1))), (12, .int (iI (0))), (11, .ref (ι (r0 * 8 + p0)).toNat), (10, .int (iI (4))), (9, .int (iI (tw (r0 * 8 + p0)))), (8, .int (iI (p0))), (6, .int (iI (0))), (0, .ref (d 0)), (1, .int (iI (2))), (2, .int (iI (r0))), (3, .int (iI (p0))), (4, .int (iI (i0))), (5, .int (iI (0)))]) hx hb dX2_work_309 hl (k := 5) rfl rfl (by decide) rfl (fun ls hl => ?_)
                          refine lv_goto (tgt := 6) hx hb dX2_work_312 (by decide) ?_
                          refine lv_iload hx hb dX2_work_6 (lv_at hl 0 rfl) ?_
                          refine lv_iconst (v := iI (2)) hx hb dX2_work_8 rfl ?_
                          refine gi_icmp_ge (tgt := 315) hx hb dX2_work_9 (by decide) ⟨by decide, by decide⟩ ⟨by decide, by decide⟩ (fun c9 => ?_) (fun c9 => ?_)
                          · skip
                            exact absurd c9 (by decide)
                          · skip
                            refine lv_iload hx hb dX2_work_12 (lv_at hl 0 rfl) ?_
                            refine gi_if_ne (tgt := 21) hx hb dX2_work_14 (by decide) ⟨by decide, by decide⟩ (fun c14 => ?_) (fun c14 => ?_)
                            · skip
                              refine lv_bipush (v := iI (7)) hx hb dX2_work_21 rfl ?_
                              refine lv_iload_n hx hb dX2_work_23 rfl (lv_at hl 10 rfl) ?_
                              refine gi_sub hx hb dX2_work_24 ?_
                              refine lv_istore (lv' := [(8, .int (iI (7 - p0))), (7, .int (iI (1))), (12, .int (iI (0))), (11, .ref (ι (r0 * 8 + p0)).toNat), (10, .int (iI (4))), (9, .int (iI (tw (r0 * 8 + p0)))), (6, .int (iI (0))), (0, .ref (d 0)), (1, .int (iI (2))), (2, .int (iI (r0))), (3, .int (iI (p0))), (4, .int (iI (i0))), (5, .int (iI (0)))]) hx hb dX2_work_25 hl (by decide) rfl (fun ls hl => ?_)
                              refine lv_iload hx hb dX2_work_27 (lv_at hl 0 rfl) ?_
                              refine lv_iconst (v := iI (4)) hx hb dX2_work_29 rfl ?_
                              refine g_selGe (u := 0) (v := 1) (t1 := 37) (t2 := 38) hx hb ⟨by omega, by omega⟩ ⟨by decide, by decide⟩ dX2_work_30 (by decide) (fun st h => lv_iconst (v := iI (0)) hx hb dX2_work_33 rfl (lv_goto (tgt := 38) hx hb dX2_work_34 (by decide) h)) (fun st h => lv_iconst (v := iI (1)) hx hb dX2_work_37 rfl h) ?_
                              rw [show (if 7 - p0 < 4 then (0 : Int) else 1) = tw (r0 * 8 + (7 - p0)) from by unfold tw; split <;> split <;> omega]
                              refine lv_istore (lv' := [(9, .int (iI (tw (r0 * 8 + (7 - p0))))), (8, .int (iI (7 - p0))), (7, .int (iI (1))), (12, .int (iI (0))), (11, .ref (ι (r0 * 8 + p0)).toNat), (10, .int (iI (4))), (6, .int (iI (0))), (0, .ref (d 0)), (1, .int (iI (2))), (2, .int (iI (r0))), (3, .int (iI (p0))), (4, .int (iI (i0))), (5, .int (iI (0)))]) hx hb dX2_work_38 hl (by decide) rfl (fun ls hl => ?_)
                              refine lv_iload_n hx hb dX2_work_40 rfl (lv_at hl 8 rfl) ?_
                              refine gi_if_ne (tgt := 48) hx hb dX2_work_41 (by decide) ⟨by decide, by decide⟩ (fun c41 => ?_) (fun c41 => ?_)
                              · skip
                                refine lv_iload_n hx hb dX2_work_48 rfl (lv_at hl 8 rfl) ?_
                                refine lv_iconst (v := iI (1)) hx hb dX2_work_49 rfl ?_
                                refine gi_icmp_ne (tgt := 57) hx hb dX2_work_50 (by decide) ⟨by decide, by decide⟩ ⟨by decide, by decide⟩ (fun c50 => ?_) (fun c50 => ?_)
                                · skip
                                  refine lv_iload_n hx hb dX2_work_57 rfl (lv_at hl 8 rfl) ?_
                                  refine lv_iconst (v := iI (2)) hx hb dX2_work_58 rfl ?_
                                  refine gi_icmp_ne (tgt := 66) hx hb dX2_work_59 (by decide) ⟨by decide, by decide⟩ ⟨by decide, by decide⟩ (fun c59 => ?_) (fun c59 => ?_)
                                  · skip
                                    exact absurd rfl c59
                                  · skip
                                    refine lv_iconst (v := iI (4)) hx hb dX2_work_62 rfl ?_
                                    refine lv_goto (tgt := 68) hx hb dX2_work_63 (by decide) ?_
                                    refine lv_istore (lv' := [(10, .int (iI (4))), (9, .int (iI (tw (r0 * 8 + (7 - p0))))), (8, .int (iI (7 - p0))), (7, .int (iI (1))), (12, .int (iI (0))), (11, .ref (ι (r0 * 8 + p0)).toNat), (6, .int (iI (0))), (0, .ref (d 0)), (1, .int (iI (2))), (2, .int (iI (r0))), (3, .int (iI (p0))), (4, .int (iI (i0))), (5, .int (iI (0)))]) hx hb dX2_work_68 hl (by decide) rfl (fun ls hl => ?_)
                                    refine lv_aload_n hx hb dX2_work_70 rfl (lv_at hl 7 rfl) ?_
                                    refine va_get (D := D) (ci := 2) (v := .ref (d 1)) (C := RX2) (T := TX2) (N := 8) hx hb hts hinX2 hown hK hP 0 rfl rfl 0 (by decide) (hts (.fieldLink RX2 9 "TwinOrchardLaw$Sim" "trees" "[[LTwinOrchardLaw$Tree;") (List.mem_of_getElem? (i := 1) rfl)) (fun _ h9 => h9) rfl dX2_work_71 ?_
                                    refine lv_iload_n hx hb dX2_work_74 rfl (lv_at hl 9 rfl) ?_
                                    refine s_row (f := srt d) hx hb hK hP 1 3 rfl rfl (by omega) (by omega) (by decide) (v := d (r0.toNat + 7)) (if_pos (by omega)) dX2_work_75 ?_
                                    refine lv_iload hx hb dX2_work_76 (lv_at hl 2 rfl) ?_
                                    refine s_tree (σ := xGraft σ (r0 * 8 + p0) i0) (ι := ι) (r := r0) (i := 7 - p0) hx hb hK hP (r0.toNat + 7) 2 (sw_row (by omega) (by omega)) rfl (by omega) (by omega) dX2_work_78 (fun ct78 => ?_) (fun ct78 => ?_)
                                    · skip
                                      refine lv_astoreN (lv' := [(11, .null), (10, .int (iI (4))), (9, .int (iI (tw (r0 * 8 + (7 - p0))))), (8, .int (iI (7 - p0))), (7, .int (iI (1))), (12, .int (iI (0))), (6, .int (iI (0))), (0, .ref (d 0)), (1, .int (iI (2))), (2, .int (iI (r0))), (3, .int (iI (p0))), (4, .int (iI (i0))), (5, .int (iI (0)))]) hx hb dX2_work_79 hl (by decide) rfl (fun ls hl => ?_)
                                      refine lv_iload_n hx hb dX2_work_81 rfl (lv_at hl 8 rfl) ?_
                                      refine gi_if_ne (tgt := 98) hx hb dX2_work_82 (by decide) ⟨by decide, by decide⟩ (fun c82 => ?_) (fun c82 => ?_)
                                      · skip
                                        refine lv_aloadN hx hb dX2_work_98 (lv_at hl 0 rfl) ?_
                                        refine lv_ifnullN (tgt := 148) hx hb dX2_work_100 (by decide) ?_
                                        refine lv_iconst (v := iI (0)) hx hb dX2_work_148 rfl ?_
                                        refine lv_istore (lv' := [(12, .int (iI (0))), (11, .null), (10, .int (iI (4))), (9, .int (iI (tw (r0 * 8 + (7 - p0))))), (8, .int (iI (7 - p0))), (7, .int (iI (1))), (6, .int (iI (0))), (0, .ref (d 0)), (1, .int (iI (2))), (2, .int (iI (r0))), (3, .int (iI (p0))), (4, .int (iI (i0))), (5, .int (iI (0)))]) hx hb dX2_work_149 hl (by decide) rfl (fun ls hl => ?_)
                                        refine lv_iload hx hb dX2_work_151 (lv_at hl 0 rfl) ?_
                                        refine gi_if_eq (tgt := 309) hx hb dX2_work_153 (by decide) ⟨by decide, by decide⟩ (fun c153 => ?_) (fun c153 => ?_)
                                        · skip
                                          have ha2 : grA (xGraft σ (r0 * 8 + p0) i0) (r0 * 8 + (7 - p0)) i0 = 0 := bI_f (by omega)
                                          have e8 : (xGraft σ (r0 * 8 + p0) i0) = (xGraft (xGraft σ (r0 * 8 + p0) i0) (r0 * 8 + (7 - p0)) i0) := (xGraft_n (by omega)).symm
                                          rw [e8] at hP hD
                                          have hP : va_P D vwCl (SW cI cT cU d (xGraft (xGraft σ (r0 * 8 + p0) i0) (r0 * 8 + (7 - p0)) i0) ι) H := hP
                                          have hD : va_D A (SW cI cT cU d (xGraft (xGraft σ (r0 * 8 + p0) i0) (r0 * 8 + (7 - p0)) i0) ι) := hD
                                          refine lv_iinc (v := iI (2)) (lv' := [(7, .int (iI (2))), (12, .int (iI (0))), (11, .null), (10, .int (iI (4))), (9, .int (iI (tw (r0 * 8 + (7 - p0))))), (8, .int (iI (7 - p0))), (6, .int (iI (0))), (0, .ref (d 0)), (1, .int (iI (2))), (2, .int (iI (r0))), (3, .int (iI (p0))), (4, .int (iI (i0))), (5, .int (iI (0)))]) hx hb dX2_work_309 hl (k := 5) rfl rfl (by decide) rfl (fun ls hl => ?_)
                                          refine lv_goto (tgt := 6) hx hb dX2_work_312 (by decide) ?_
                                          refine lv_iload hx hb dX2_work_6 (lv_at hl 0 rfl) ?_
                                          refine lv_iconst (v := iI (2)) hx hb dX2_work_8 rfl ?_
                                          refine gi_icmp_ge (tgt := 315) hx hb dX2_work_9 (by decide) ⟨by decide, by decide⟩ ⟨by decide, by decide⟩ (fun c9 => ?_) (fun c9 => ?_)
                                          · skip
                                            refine lv_iload hx hb dX2_work_315 (lv_at hl 6 rfl) ?_
                                            have ess : (xGraft (xGraft σ (r0 * 8 + p0) i0) (mir (r0 * 8 + p0)) i0) = (xGraft (xGraft σ (r0 * 8 + p0) i0) (r0 * 8 + (7 - p0)) i0) := by rw [em]
                                            have hP : va_P D vwCl (SW cI cT cU d (xGraft (xGraft σ (r0 * 8 + p0) i0) (mir (r0 * 8 + p0)) i0) ι) H := by rw [ess]; exact hP
                                            have hD : va_D A (SW cI cT cU d (xGraft (xGraft σ (r0 * 8 + p0) i0) (mir (r0 * 8 + p0)) i0) ι) := by rw [ess]; exact hD
                                            have er : ((who (grA σ (r0 * 8 + p0) i0) (grA (xGraft σ (r0 * 8 + p0) i0) (mir (r0 * 8 + p0)) i0) : Int)) = (0) := by rw [em, ha1, ha2]; decide
                                            exact g_iret (wo := (fun κ' => SW cI cT cU d (xGraft (xGraft σ (r0 * 8 + p0) i0) (mir (r0 * 8 + p0)) i0) (κ' 2))) (kr := (fun κ' => True)) (rv := (fun _ => some (.int (iI (who (grA σ (r0 * 8 + p0) i0) (grA (xGraft σ (r0 * 8 + p0) i0) (mir (r0 * 8 + p0)) i0)))))) hx hb hr hlocks (fun _ => ι) rfl hP hK hD hS trivial (by rw [er]) (Nat.le_of_ble_eq_true rfl) (Nat.le_of_ble_eq_true rfl) dX2_work_317
                                          · skip
                                            omega
                                        · skip
                                          exact absurd rfl c153
                                      · skip
                                        exact absurd c82 (by decide)
                                    · skip
                                      refine lv_astore (lv' := [(11, .ref (ι (r0 * 8 + (7 - p0))).toNat), (10, .int (iI (4))), (9, .int (iI (tw (r0 * 8 + (7 - p0))))), (8, .int (iI (7 - p0))), (7, .int (iI (1))), (12, .int (iI (0))), (6, .int (iI (0))), (0, .ref (d 0)), (1, .int (iI (2))), (2, .int (iI (r0))), (3, .int (iI (p0))), (4, .int (iI (i0))), (5, .int (iI (0)))]) hx hb dX2_work_79 hl (by decide) rfl (fun ls hl => ?_)
                                      refine lv_iload_n hx hb dX2_work_81 rfl (lv_at hl 8 rfl) ?_
                                      refine gi_if_ne (tgt := 98) hx hb dX2_work_82 (by decide) ⟨by decide, by decide⟩ (fun c82 => ?_) (fun c82 => ?_)
                                      · skip
                                        refine lv_aload hx hb dX2_work_98 (lv_at hl 0 rfl) ?_
                                        refine lv_ifnull hx hb dX2_work_100 ?_
                                        refine lv_iload_n hx hb dX2_work_103 rfl (lv_at hl 8 rfl) ?_
                                        refine lv_iconst (v := iI (1)) hx hb dX2_work_104 rfl ?_
                                        refine gi_icmp_ne (tgt := 121) hx hb dX2_work_105 (by decide) ⟨by decide, by decide⟩ ⟨by decide, by decide⟩ (fun c105 => ?_) (fun c105 => ?_)
                                        · skip
                                          refine lv_iload_n hx hb dX2_work_121 rfl (lv_at hl 8 rfl) ?_
                                          refine lv_iconst (v := iI (2)) hx hb dX2_work_122 rfl ?_
                                          refine gi_icmp_ne (tgt := 144) hx hb dX2_work_123 (by decide) ⟨by decide, by decide⟩ ⟨by decide, by decide⟩ (fun c123 => ?_) (fun c123 => ?_)
                                          · skip
                                            exact absurd rfl c123
                                          · skip
                                            refine lv_aload hx hb dX2_work_126 (lv_at hl 0 rfl) ?_
                                            refine va_get (D := D) (ci := 3) (v := .int (iI ((xGraft σ (r0 * 8 + p0) i0) 4 (r0 * 8 + (7 - p0))))) (C := RX3) (T := TX3) (N := 4) hx hb hts hinX3 hown hK hP (spos (xGraft σ (r0 * 8 + p0) i0) ι (r0 * 8 + (7 - p0))) (sw_at ct78 (by omega) (by omega)) rfl 2 (by decide) (hts (.fieldLink RX2 44 "TwinOrchardLaw$Tree" "sort" "I") (List.mem_of_getElem? (i := 3) rfl)) (fun _ h9 => h9) rfl dX2_work_128 ?_
                                            refine lv_iload hx hb dX2_work_131 (lv_at hl 11 rfl) ?_
                                            refine gi_icmp_eq (tgt := 148) hx hb dX2_work_133 (by decide) ⟨by omega, by omega⟩ ⟨by omega, by omega⟩ (fun c133 => ?_) (fun c133 => ?_)
                                            · skip
                                              refine lv_iconst (v := iI (0)) hx hb dX2_work_148 rfl ?_
                                              refine lv_istore (lv' := [(12, .int (iI (0))), (11, .ref (ι (r0 * 8 + (7 - p0))).toNat), (10, .int (iI (4))), (9, .int (iI (tw (r0 * 8 + (7 - p0))))), (8, .int (iI (7 - p0))), (7, .int (iI (1))), (6, .int (iI (0))), (0, .ref (d 0)), (1, .int (iI (2))), (2, .int (iI (r0))), (3, .int (iI (p0))), (4, .int (iI (i0))), (5, .int (iI (0)))]) hx hb dX2_work_149 hl (by decide) rfl (fun ls hl => ?_)
                                              refine lv_iload hx hb dX2_work_151 (lv_at hl 0 rfl) ?_
                                              refine gi_if_eq (tgt := 309) hx hb dX2_work_153 (by decide) ⟨by decide, by decide⟩ (fun c153 => ?_) (fun c153 => ?_)
                                              · skip
                                                have ha2 : grA (xGraft σ (r0 * 8 + p0) i0) (r0 * 8 + (7 - p0)) i0 = 0 := bI_f (by omega)
                                                have e8 : (xGraft σ (r0 * 8 + p0) i0) = (xGraft (xGraft σ (r0 * 8 + p0) i0) (r0 * 8 + (7 - p0)) i0) := (xGraft_n (by omega)).symm
                                                rw [e8] at hP hD
                                                have hP : va_P D vwCl (SW cI cT cU d (xGraft (xGraft σ (r0 * 8 + p0) i0) (r0 * 8 + (7 - p0)) i0) ι) H := hP
                                                have hD : va_D A (SW cI cT cU d (xGraft (xGraft σ (r0 * 8 + p0) i0) (r0 * 8 + (7 - p0)) i0) ι) := hD
                                                refine lv_iinc (v := iI (2)) (lv' := [(7, .int (iI (2))), (12, .int (iI (0))), (11, .ref (ι (r0 * 8 + (7 - p0))).toNat), (10, .int (iI (4))), (9, .int (iI (tw (r0 * 8 + (7 - p0))))), (8, .int (iI (7 - p0))), (6, .int (iI (0))), (0, .ref (d 0)), (1, .int (iI (2))), (2, .int (iI (r0))), (3, .int (iI (p0))), (4, .int (iI (i0))), (5, .int (iI (0)))]) hx hb dX2_work_309 hl (k := 5) rfl rfl (by decide) rfl (fun ls hl => ?_)
                                                refine lv_goto (tgt := 6) hx hb dX2_work_312 (by decide) ?_
                                                refine lv_iload hx hb dX2_work_6 (lv_at hl 0 rfl) ?_
                                                refine lv_iconst (v := iI (2)) hx hb dX2_work_8 rfl ?_
                                                refine gi_icmp_ge (tgt := 315) hx hb dX2_work_9 (by decide) ⟨by decide, by decide⟩ ⟨by decide, by decide⟩ (fun c9 => ?_) (fun c9 => ?_)
                                                · skip
                                                  refine lv_iload hx hb dX2_work_315 (lv_at hl 6 rfl) ?_
                                                  have ess : (xGraft (xGraft σ (r0 * 8 + p0) i0) (mir (r0 * 8 + p0)) i0) = (xGraft (xGraft σ (r0 * 8 + p0) i0) (r0 * 8 + (7 - p0)) i0) := by rw [em]
                                                  have hP : va_P D vwCl (SW cI cT cU d (xGraft (xGraft σ (r0 * 8 + p0) i0) (mir (r0 * 8 + p0)) i0) ι) H := by rw [ess]; exact hP
                                                  have hD : va_D A (SW cI cT cU d (xGraft (xGraft σ (r0 * 8 + p0) i0) (mir (r0 * 8 + p0)) i0) ι) := by rw [ess]; exact hD
                                                  have er : ((who (grA σ (r0 * 8 + p0) i0) (grA (xGraft σ (r0 * 8 + p0) i0) (mir (r0 * 8 + p0)) i0) : Int)) = (0) := by rw [em, ha1, ha2]; decide
                                                  exact g_iret (wo := (fun κ' => SW cI cT cU d (xGraft (xGraft σ (r0 * 8 + p0) i0) (mir (r0 * 8 + p0)) i0) (κ' 2))) (kr := (fun κ' => True)) (rv := (fun _ => some (.int (iI (who (grA σ (r0 * 8 + p0) i0) (grA (xGraft σ (r0 * 8 + p0) i0) (mir (r0 * 8 + p0)) i0)))))) hx hb hr hlocks (fun _ => ι) rfl hP hK hD hS trivial (by rw [er]) (Nat.le_of_ble_eq_true rfl) (Nat.le_of_ble_eq_true rfl) dX2_work_317
                                                · skip
                                                  omega
                                              · skip
                                                exact absurd rfl c153
                                            · skip
                                              refine lv_aload hx hb dX2_work_136 (lv_at hl 0 rfl) ?_
                                              refine va_get (D := D) (ci := 3) (v := .int (iI ((xGraft σ (r0 * 8 + p0) i0) 5 (r0 * 8 + (7 - p0))))) (C := RX3) (T := TX3) (N := 4) hx hb hts hinX3 hown hK hP (spos (xGraft σ (r0 * 8 + p0) i0) ι (r0 * 8 + (7 - p0))) (sw_at ct78 (by omega) (by omega)) rfl 0 (by decide) (hts (.fieldLink RX2 41 "TwinOrchardLaw$Tree" "branches" "I") (List.mem_of_getElem? (i := 2) rfl)) (fun _ h9 => h9) rfl dX2_work_138 ?_
                                              refine gi_if_le (tgt := 148) hx hb dX2_work_141 (by decide) ⟨by omega, by omega⟩ (fun c141 => ?_) (fun c141 => ?_)
                                              · skip
                                                refine lv_iconst (v := iI (0)) hx hb dX2_work_148 rfl ?_
                                                refine lv_istore (lv' := [(12, .int (iI (0))), (11, .ref (ι (r0 * 8 + (7 - p0))).toNat), (10, .int (iI (4))), (9, .int (iI (tw (r0 * 8 + (7 - p0))))), (8, .int (iI (7 - p0))), (7, .int (iI (1))), (6, .int (iI (0))), (0, .ref (d 0)), (1, .int (iI (2))), (2, .int (iI (r0))), (3, .int (iI (p0))), (4, .int (iI (i0))), (5, .int (iI (0)))]) hx hb dX2_work_149 hl (by decide) rfl (fun ls hl => ?_)
                                                refine lv_iload hx hb dX2_work_151 (lv_at hl 0 rfl) ?_
                                                refine gi_if_eq (tgt := 309) hx hb dX2_work_153 (by decide) ⟨by decide, by decide⟩ (fun c153 => ?_) (fun c153 => ?_)
                                                · skip
                                                  have ha2 : grA (xGraft σ (r0 * 8 + p0) i0) (r0 * 8 + (7 - p0)) i0 = 0 := bI_f (by omega)
                                                  have e8 : (xGraft σ (r0 * 8 + p0) i0) = (xGraft (xGraft σ (r0 * 8 + p0) i0) (r0 * 8 + (7 - p0)) i0) := (xGraft_n (by omega)).symm
                                                  rw [e8] at hP hD
                                                  have hP : va_P D vwCl (SW cI cT cU d (xGraft (xGraft σ (r0 * 8 + p0) i0) (r0 * 8 + (7 - p0)) i0) ι) H := hP
                                                  have hD : va_D A (SW cI cT cU d (xGraft (xGraft σ (r0 * 8 + p0) i0) (r0 * 8 + (7 - p0)) i0) ι) := hD
                                                  refine lv_iinc (v := iI (2)) (lv' := [(7, .int (iI (2))), (12, .int (iI (0))), (11, .ref (ι (r0 * 8 + (7 - p0))).toNat), (10, .int (iI (4))), (9, .int (iI (tw (r0 * 8 + (7 - p0))))), (8, .int (iI (7 - p0))), (6, .int (iI (0))), (0, .ref (d 0)), (1, .int (iI (2))), (2, .int (iI (r0))), (3, .int (iI (p0))), (4, .int (iI (i0))), (5, .int (iI (0)))]) hx hb dX2_work_309 hl (k := 5) rfl rfl (by decide) rfl (fun ls hl => ?_)
                                                  refine lv_goto (tgt := 6) hx hb dX2_work_312 (by decide) ?_
                                                  refine lv_iload hx hb dX2_work_6 (lv_at hl 0 rfl) ?_
                                                  refine lv_iconst (v := iI (2)) hx hb dX2_work_8 rfl ?_
                                                  refine gi_icmp_ge (tgt := 315) hx hb dX2_work_9 (by decide) ⟨by decide, by decide⟩ ⟨by decide, by decide⟩ (fun c9 => ?_) (fun c9 => ?_)
                                                  · skip
                                                    refine lv_iload hx hb dX2_work_315 (lv_at hl 6 rfl) ?_
                                                    have ess : (xGraft (xGraft σ (r0 * 8 + p0) i0) (mir (r0 * 8 + p0)) i0) = (xGraft (xGraft σ (r0 * 8 + p0) i0) (r0 * 8 + (7 - p0)) i0) := by rw [em]
                                                    have hP : va_P D vwCl (SW cI cT cU d (xGraft (xGraft σ (r0 * 8 + p0) i0) (mir (r0 * 8 + p0)) i0) ι) H := by rw [ess]; exact hP
                                                    have hD : va_D A (SW cI cT cU d (xGraft (xGraft σ (r0 * 8 + p0) i0) (mir (r0 * 8 + p0)) i0) ι) := by rw [ess]; exact hD
                                                    have er : ((who (grA σ (r0 * 8 + p0) i0) (grA (xGraft σ (r0 * 8 + p0) i0) (mir (r0 * 8 + p0)) i0) : Int)) = (0) := by rw [em, ha1, ha2]; decide
                                                    exact g_iret (wo := (fun κ' => SW cI cT cU d (xGraft (xGraft σ (r0 * 8 + p0) i0) (mir (r0 * 8 + p0)) i0) (κ' 2))) (kr := (fun κ' => True)) (rv := (fun _ => some (.int (iI (who (grA σ (r0 * 8 + p0) i0) (grA (xGraft σ (r0 * 8 + p0) i0) (mir (r0 * 8 + p0)) i0)))))) hx hb hr hlocks (fun _ => ι) rfl hP hK hD hS trivial (by rw [er]) (Nat.le_of_ble_eq_true rfl) (Nat.le_of_ble_eq_true rfl) dX2_work_317
                                                  · skip
                                                    omega
                                                · skip
                                                  exact absurd rfl c153
                                              · skip
                                                refine lv_iconst (v := iI (1)) hx hb dX2_work_144 rfl ?_
                                                refine lv_goto (tgt := 149) hx hb dX2_work_145 (by decide) ?_
                                                refine lv_istore (lv' := [(12, .int (iI (1))), (11, .ref (ι (r0 * 8 + (7 - p0))).toNat), (10, .int (iI (4))), (9, .int (iI (tw (r0 * 8 + (7 - p0))))), (8, .int (iI (7 - p0))), (7, .int (iI (1))), (6, .int (iI (0))), (0, .ref (d 0)), (1, .int (iI (2))), (2, .int (iI (r0))), (3, .int (iI (p0))), (4, .int (iI (i0))), (5, .int (iI (0)))]) hx hb dX2_work_149 hl (by decide) rfl (fun ls hl => ?_)
                                                refine lv_iload hx hb dX2_work_151 (lv_at hl 0 rfl) ?_
                                                refine gi_if_eq (tgt := 309) hx hb dX2_work_153 (by decide) ⟨by decide, by decide⟩ (fun c153 => ?_) (fun c153 => ?_)
                                                · skip
                                                  exact absurd c153 (by decide)
                                                · skip
                                                  refine lv_aload_n hx hb dX2_work_156 rfl (lv_at hl 7 rfl) ?_
                                                  refine va_get (D := D) (ci := 2) (v := .ref (d 6)) (C := RX2) (T := TX2) (N := 8) hx hb hts hinX2 hown hK hP 0 rfl rfl 5 (by decide) (hts (.fieldLink RX2 27 "TwinOrchardLaw$Sim" "strength" "[I") (List.mem_of_getElem? (i := 4) rfl)) (fun _ h9 => h9) rfl dX2_work_157 ?_
                                                  refine lv_iload hx hb dX2_work_160 (lv_at hl 3 rfl) ?_
                                                  refine gi_iald (a := d 6) (n := 2) (f := (xGraft σ (r0 * 8 + p0) i0) 8) hx hb hK hP 6 0 rfl rfl (by omega) (by omega) (by decide) dX2_work_162 ?_
                                                  refine lv_iload hx hb dX2_work_163 (lv_at hl 2 rfl) ?_
                                                  refine gi_icmp_ge (tgt := 171) hx hb dX2_work_165 (by decide) ⟨by omega, by omega⟩ ⟨by decide, by decide⟩ (fun c165 => ?_) (fun c165 => ?_)
                                                  · skip
                                                    refine lv_aload_n hx hb dX2_work_171 rfl (lv_at hl 7 rfl) ?_
                                                    refine va_get (D := D) (ci := 2) (v := .ref (d 6)) (C := RX2) (T := TX2) (N := 8) hx hb hts hinX2 hown hK hP 0 rfl rfl 5 (by decide) (hts (.fieldLink RX2 27 "TwinOrchardLaw$Sim" "strength" "[I") (List.mem_of_getElem? (i := 4) rfl)) (fun _ h9 => h9) rfl dX2_work_172 ?_
                                                    refine lv_iload hx hb dX2_work_175 (lv_at hl 3 rfl) ?_
                                                    refine lv_dup2_11 hx hb dX2_work_177 rfl rfl ?_
                                                    refine gi_iald (a := d 6) (n := 2) (f := (xGraft σ (r0 * 8 + p0) i0) 8) hx hb hK hP 6 0 rfl rfl (by omega) (by omega) (by decide) dX2_work_178 ?_
                                                    refine lv_iload hx hb dX2_work_179 (lv_at hl 2 rfl) ?_
                                                    refine gi_sub hx hb dX2_work_181 ?_
                                                    refine gi_iast (a := d 6) (n := 2) (f := (xGraft σ (r0 * 8 + p0) i0) 8) hx hb hK hP hD hS 6 0 rfl rfl (by omega) (by omega) (by decide) dX2_work_182 (fun H locs hP hD hS => ?_)
                                                    have hP : va_P D vwCl (SW cI cT cU d (su (xGraft σ (r0 * 8 + p0) i0) 8 (tw (r0 * 8 + (7 - p0))) (((xGraft σ (r0 * 8 + p0) i0) 8 (tw (r0 * 8 + (7 - p0)))) - 4)) ι) H := hP
                                                    have hD : va_D A (SW cI cT cU d (su (xGraft σ (r0 * 8 + p0) i0) 8 (tw (r0 * 8 + (7 - p0))) (((xGraft σ (r0 * 8 + p0) i0) 8 (tw (r0 * 8 + (7 - p0)))) - 4)) ι) := hD
                                                    refine lv_iload hx hb dX2_work_183 (lv_at hl 6 rfl) ?_
                                                    refine lv_iload hx hb dX2_work_185 (lv_at hl 5 rfl) ?_
                                                    refine lv_iconst (v := iI (1)) hx hb dX2_work_187 rfl ?_
                                                    refine gi_add hx hb dX2_work_188 ?_
                                                    refine gi_add hx hb dX2_work_189 ?_
                                                    refine lv_istore (lv' := [(6, .int (iI (0 + (1 + 1)))), (12, .int (iI (1))), (11, .ref (ι (r0 * 8 + (7 - p0))).toNat), (10, .int (iI (4))), (9, .int (iI (tw (r0 * 8 + (7 - p0))))), (8, .int (iI (7 - p0))), (7, .int (iI (1))), (0, .ref (d 0)), (1, .int (iI (2))), (2, .int (iI (r0))), (3, .int (iI (p0))), (4, .int (iI (i0))), (5, .int (iI (0)))]) hx hb dX2_work_190 hl (by decide) rfl (fun ls hl => ?_)
                                                    refine lv_iload_n hx hb dX2_work_192 rfl (lv_at hl 8 rfl) ?_
                                                    refine gi_if_ne (tgt := 233) hx hb dX2_work_193 (by decide) ⟨by decide, by decide⟩ (fun c193 => ?_) (fun c193 => ?_)
                                                    · skip
                                                      refine lv_iload_n hx hb dX2_work_233 rfl (lv_at hl 8 rfl) ?_
                                                      refine lv_iconst (v := iI (1)) hx hb dX2_work_234 rfl ?_
                                                      refine gi_icmp_ne (tgt := 259) hx hb dX2_work_235 (by decide) ⟨by decide, by decide⟩ ⟨by decide, by decide⟩ (fun c235 => ?_) (fun c235 => ?_)
                                                      · skip
                                                        refine lv_iload_n hx hb dX2_work_259 rfl (lv_at hl 8 rfl) ?_
                                                        refine lv_iconst (v := iI (2)) hx hb dX2_work_260 rfl ?_
                                                        refine gi_icmp_ne (tgt := 299) hx hb dX2_work_261 (by decide) ⟨by decide, by decide⟩ ⟨by decide, by decide⟩ (fun c261 => ?_) (fun c261 => ?_)
                                                        · skip
                                                          exact absurd rfl c261
                                                        · skip
                                                          refine lv_aload hx hb dX2_work_264 (lv_at hl 2 rfl) ?_
                                                          refine lv_iload hx hb dX2_work_266 (lv_at hl 11 rfl) ?_
                                                          refine va_put (D := D) (ci := 3) (v := .int (iI (i0))) (ty := .int) (C := RX3) (T := TX3) (N := 4) hx hb hts hinX3 tyX3 tyX3_ok nmX3 hown hK hP hD hS (spos (su (xGraft σ (r0 * 8 + p0) i0) 8 (tw (r0 * 8 + (7 - p0))) (((xGraft σ (r0 * 8 + p0) i0) 8 (tw (r0 * 8 + (7 - p0)))) - 4)) ι (r0 * 8 + (7 - p0))) (sw_at ct78 (by omega) (by omega)) rfl 2 (by decide) (hts (.fieldLink RX2 44 "TwinOrchardLaw$Tree" "sort" "I") (List.mem_of_getElem? (i := 3) rfl)) (fun _ h9 => h9) rfl (by decide +kernel) rfl rfl (Nat.le_of_ble_eq_true rfl) dX2_work_268 (fun H locs hP hD hS => ?_)
                                                          have hP : va_P D vwCl (SW cI cT cU d (su (su (xGraft σ (r0 * 8 + p0) i0) 8 (tw (r0 * 8 + (7 - p0))) (((xGraft σ (r0 * 8 + p0) i0) 8 (tw (r0 * 8 + (7 - p0)))) - 4)) 4 (r0 * 8 + (7 - p0)) (i0)) ι) H := va_Pe (sw_put4 (cI := cI) (cT := cT) (cU := cU) (d := d) (σ := su (xGraft σ (r0 * 8 + p0) i0) 8 (tw (r0 * 8 + (7 - p0))) (((xGraft σ (r0 * 8 + p0) i0) 8 (tw (r0 * 8 + (7 - p0)))) - 4)) (ι := ι) (k := r0 * 8 + (7 - p0)) (v := i0) (by omega) ct78 (by omega) (by omega)) hP
                                                          have hD : va_D A (SW cI cT cU d (su (su (xGraft σ (r0 * 8 + p0) i0) 8 (tw (r0 * 8 + (7 - p0))) (((xGraft σ (r0 * 8 + p0) i0) 8 (tw (r0 * 8 + (7 - p0)))) - 4)) 4 (r0 * 8 + (7 - p0)) (i0)) ι) := va_De (sw_put4 (cI := cI) (cT := cT) (cU := cU) (d := d) (σ := su (xGraft σ (r0 * 8 + p0) i0) 8 (tw (r0 * 8 + (7 - p0))) (((xGraft σ (r0 * 8 + p0) i0) 8 (tw (r0 * 8 + (7 - p0)))) - 4)) (ι := ι) (k := r0 * 8 + (7 - p0)) (v := i0) (by omega) ct78 (by omega) (by omega)) hD
                                                          have ct268 : ¬ (su (su (xGraft σ (r0 * 8 + p0) i0) 8 (tw (r0 * 8 + (7 - p0))) (((xGraft σ (r0 * 8 + p0) i0) 8 (tw (r0 * 8 + (7 - p0)))) - 4)) 4 (r0 * 8 + (7 - p0)) (i0)) 4 (r0 * 8 + (7 - p0)) = -1 := by show ¬ fu _ _ _ _ = -1; rw [fu_s]; omega
                                                          refine lv_aload hx hb dX2_work_271 (lv_at hl 2 rfl) ?_
                                                          refine lv_aload hx hb dX2_work_273 (lv_at hl 2 rfl) ?_
                                                          refine va_get (D := D) (ci := 3) (v := .int (iI ((su (su (xGraft σ (r0 * 8 + p0) i0) 8 (tw (r0 * 8 + (7 - p0))) (((xGraft σ (r0 * 8 + p0) i0) 8 (tw (r0 * 8 + (7 - p0)))) - 4)) 4 (r0 * 8 + (7 - p0)) (i0)) 5 (r0 * 8 + (7 - p0))))) (C := RX3) (T := TX3) (N := 4) hx hb hts hinX3 hown hK hP (spos (su (su (xGraft σ (r0 * 8 + p0) i0) 8 (tw (r0 * 8 + (7 - p0))) (((xGraft σ (r0 * 8 + p0) i0) 8 (tw (r0 * 8 + (7 - p0)))) - 4)) 4 (r0 * 8 + (7 - p0)) (i0)) ι (r0 * 8 + (7 - p0))) (sw_at ct268 (by omega) (by omega)) rfl 0 (by decide) (hts (.fieldLink RX2 41 "TwinOrchardLaw$Tree" "branches" "I") (List.mem_of_getElem? (i := 2) rfl)) (fun _ h9 => h9) rfl dX2_work_275 ?_
                                                          rw [show ((su (su (xGraft σ (r0 * 8 + p0) i0) 8 (tw (r0 * 8 + (7 - p0))) (((xGraft σ (r0 * 8 + p0) i0) 8 (tw (r0 * 8 + (7 - p0)))) - 4)) 4 (r0 * 8 + (7 - p0)) (i0)) 5 (r0 * 8 + (7 - p0))) = ((xGraft σ (r0 * 8 + p0) i0) 5 (r0 * 8 + (7 - p0))) from by rfl]
                                                          refine lv_iconst (v := iI (1)) hx hb dX2_work_278 rfl ?_
                                                          refine gi_icmp_le (tgt := 292) hx hb dX2_work_279 (by decide) ⟨by omega, by omega⟩ ⟨by decide, by decide⟩ (fun c279 => ?_) (fun c279 => ?_)
                                                          · skip
                                                            refine lv_iconst (v := iI (1)) hx hb dX2_work_292 rfl ?_
                                                            refine va_put (D := D) (ci := 3) (v := .int (iI (1))) (ty := .int) (C := RX3) (T := TX3) (N := 4) hx hb hts hinX3 tyX3 tyX3_ok nmX3 hown hK hP hD hS (spos (su (su (xGraft σ (r0 * 8 + p0) i0) 8 (tw (r0 * 8 + (7 - p0))) (((xGraft σ (r0 * 8 + p0) i0) 8 (tw (r0 * 8 + (7 - p0)))) - 4)) 4 (r0 * 8 + (7 - p0)) (i0)) ι (r0 * 8 + (7 - p0))) (sw_at ct268 (by omega) (by omega)) rfl 0 (by decide) (hts (.fieldLink RX2 41 "TwinOrchardLaw$Tree" "branches" "I") (List.mem_of_getElem? (i := 2) rfl)) (fun _ h9 => h9) rfl (by decide +kernel) rfl rfl (Nat.le_of_ble_eq_true rfl) dX2_work_293 (fun H locs hP hD hS => ?_)
                                                            have hP : va_P D vwCl (SW cI cT cU d (su (su (su (xGraft σ (r0 * 8 + p0) i0) 8 (tw (r0 * 8 + (7 - p0))) (((xGraft σ (r0 * 8 + p0) i0) 8 (tw (r0 * 8 + (7 - p0)))) - 4)) 4 (r0 * 8 + (7 - p0)) (i0)) 5 (r0 * 8 + (7 - p0)) (1)) ι) H := va_Pe (sw_put5 (cI := cI) (cT := cT) (cU := cU) (d := d) (σ := su (su (xGraft σ (r0 * 8 + p0) i0) 8 (tw (r0 * 8 + (7 - p0))) (((xGraft σ (r0 * 8 + p0) i0) 8 (tw (r0 * 8 + (7 - p0)))) - 4)) 4 (r0 * 8 + (7 - p0)) (i0)) (ι := ι) (k := r0 * 8 + (7 - p0)) (v := 1) ct268 (by omega) (by omega)) hP
                                                            have hD : va_D A (SW cI cT cU d (su (su (su (xGraft σ (r0 * 8 + p0) i0) 8 (tw (r0 * 8 + (7 - p0))) (((xGraft σ (r0 * 8 + p0) i0) 8 (tw (r0 * 8 + (7 - p0)))) - 4)) 4 (r0 * 8 + (7 - p0)) (i0)) 5 (r0 * 8 + (7 - p0)) (1)) ι) := va_De (sw_put5 (cI := cI) (cT := cT) (cU := cU) (d := d) (σ := su (su (xGraft σ (r0 * 8 + p0) i0) 8 (tw (r0 * 8 + (7 - p0))) (((xGraft σ (r0 * 8 + p0) i0) 8 (tw (r0 * 8 + (7 - p0)))) - 4)) 4 (r0 * 8 + (7 - p0)) (i0)) (ι := ι) (k := r0 * 8 + (7 - p0)) (v := 1) ct268 (by omega) (by omega)) hD
                                                            refine lv_goto (tgt := 309) hx hb dX2_work_296 (by decide) ?_
                                                            have ha2 : grA (xGraft σ (r0 * 8 + p0) i0) (r0 * 8 + (7 - p0)) i0 = 1 := bI_t (by omega)
                                                            have e8 : (su (su (su (xGraft σ (r0 * 8 + p0) i0) 8 (tw (r0 * 8 + (7 - p0))) (((xGraft σ (r0 * 8 + p0) i0) 8 (tw (r0 * 8 + (7 - p0)))) - 4)) 4 (r0 * 8 + (7 - p0)) (i0)) 5 (r0 * 8 + (7 - p0)) (1)) = (xGraft (xGraft σ (r0 * 8 + p0) i0) (r0 * 8 + (7 - p0)) i0) := (xGraft_y (by omega) (by omega)).symm
                                                            rw [e8] at hP hD
                                                            have hP : va_P D vwCl (SW cI cT cU d (xGraft (xGraft σ (r0 * 8 + p0) i0) (r0 * 8 + (7 - p0)) i0) ι) H := hP
                                                            have hD : va_D A (SW cI cT cU d (xGraft (xGraft σ (r0 * 8 + p0) i0) (r0 * 8 + (7 - p0)) i0) ι) := hD
                                                            refine lv_iinc (v := iI (2)) (lv' := [(7, .int (iI (2))), (6, .int (iI (0 + (1 + 1)))), (12, .int (iI (1))), (11, .ref (ι (r0 * 8 + (7 - p0))).toNat), (10, .int (iI (4))), (9, .int (iI (tw (r0 * 8 + (7 - p0))))), (8, .int (iI (7 - p0))), (0, .ref (d 0)), (1, .int (iI (2))), (2, .int (iI (r0))), (3, .int (iI (p0))), (4, .int (iI (i0))), (5, .int (iI (0)))]) hx hb dX2_work_309 hl (k := 6) rfl rfl (by decide) rfl (fun ls hl => ?_)
                                                            refine lv_goto (tgt := 6) hx hb dX2_work_312 (by decide) ?_
                                                            refine lv_iload hx hb dX2_work_6 (lv_at hl 0 rfl) ?_
                                                            refine lv_iconst (v := iI (2)) hx hb dX2_work_8 rfl ?_
                                                            refine gi_icmp_ge (tgt := 315) hx hb dX2_work_9 (by decide) ⟨by decide, by decide⟩ ⟨by decide, by decide⟩ (fun c9 => ?_) (fun c9 => ?_)
                                                            · skip
                                                              refine lv_iload hx hb dX2_work_315 (lv_at hl 1 rfl) ?_
                                                              have ess : (xGraft (xGraft σ (r0 * 8 + p0) i0) (mir (r0 * 8 + p0)) i0) = (xGraft (xGraft σ (r0 * 8 + p0) i0) (r0 * 8 + (7 - p0)) i0) := by rw [em]
                                                              have hP : va_P D vwCl (SW cI cT cU d (xGraft (xGraft σ (r0 * 8 + p0) i0) (mir (r0 * 8 + p0)) i0) ι) H := by rw [ess]; exact hP
                                                              have hD : va_D A (SW cI cT cU d (xGraft (xGraft σ (r0 * 8 + p0) i0) (mir (r0 * 8 + p0)) i0) ι) := by rw [ess]; exact hD
                                                              have er : ((who (grA σ (r0 * 8 + p0) i0) (grA (xGraft σ (r0 * 8 + p0) i0) (mir (r0 * 8 + p0)) i0) : Int)) = (0 + (1 + 1)) := by rw [em, ha1, ha2]; decide
                                                              exact g_iret (wo := (fun κ' => SW cI cT cU d (xGraft (xGraft σ (r0 * 8 + p0) i0) (mir (r0 * 8 + p0)) i0) (κ' 2))) (kr := (fun κ' => True)) (rv := (fun _ => some (.int (iI (who (grA σ (r0 * 8 + p0) i0) (grA (xGraft σ (r0 * 8 + p0) i0) (mir (r0 * 8 + p0)) i0)))))) hx hb hr hlocks (fun _ => ι) rfl hP hK hD hS trivial (by rw [er]) (Nat.le_of_ble_eq_true rfl) (Nat.le_of_ble_eq_true rfl) dX2_work_317
                                                            · skip
                                                              omega
                                                          · skip
                                                            refine lv_aload hx hb dX2_work_282 (lv_at hl 2 rfl) ?_
                                                            refine va_get (D := D) (ci := 3) (v := .int (iI ((su (su (xGraft σ (r0 * 8 + p0) i0) 8 (tw (r0 * 8 + (7 - p0))) (((xGraft σ (r0 * 8 + p0) i0) 8 (tw (r0 * 8 + (7 - p0)))) - 4)) 4 (r0 * 8 + (7 - p0)) (i0)) 5 (r0 * 8 + (7 - p0))))) (C := RX3) (T := TX3) (N := 4) hx hb hts hinX3 hown hK hP (spos (su (su (xGraft σ (r0 * 8 + p0) i0) 8 (tw (r0 * 8 + (7 - p0))) (((xGraft σ (r0 * 8 + p0) i0) 8 (tw (r0 * 8 + (7 - p0)))) - 4)) 4 (r0 * 8 + (7 - p0)) (i0)) ι (r0 * 8 + (7 - p0))) (sw_at ct268 (by omega) (by omega)) rfl 0 (by decide) (hts (.fieldLink RX2 41 "TwinOrchardLaw$Tree" "branches" "I") (List.mem_of_getElem? (i := 2) rfl)) (fun _ h9 => h9) rfl dX2_work_284 ?_
                                                            rw [show ((su (su (xGraft σ (r0 * 8 + p0) i0) 8 (tw (r0 * 8 + (7 - p0))) (((xGraft σ (r0 * 8 + p0) i0) 8 (tw (r0 * 8 + (7 - p0)))) - 4)) 4 (r0 * 8 + (7 - p0)) (i0)) 5 (r0 * 8 + (7 - p0))) = ((xGraft σ (r0 * 8 + p0) i0) 5 (r0 * 8 + (7 - p0))) from by rfl]
                                                            refine lv_iconst (v := iI (2)) hx hb dX2_work_287 rfl ?_
                                                            refine gi_div hx hb ⟨by omega, by omega⟩ ⟨by omega, by omega⟩ dX2_work_288 ?_
                                                            refine lv_goto (tgt := 293) hx hb dX2_work_289 (by decide) ?_
                                                            refine va_put (D := D) (ci := 3) (v := .int (iI (((xGraft σ (r0 * 8 + p0) i0) 5 (r0 * 8 + (7 - p0))) / 2))) (ty := .int) (C := RX3) (T := TX3) (N := 4) hx hb hts hinX3 tyX3 tyX3_ok nmX3 hown hK hP hD hS (spos (su (su (xGraft σ (r0 * 8 + p0) i0) 8 (tw (r0 * 8 + (7 - p0))) (((xGraft σ (r0 * 8 + p0) i0) 8 (tw (r0 * 8 + (7 - p0)))) - 4)) 4 (r0 * 8 + (7 - p0)) (i0)) ι (r0 * 8 + (7 - p0))) (sw_at ct268 (by omega) (by omega)) rfl 0 (by decide) (hts (.fieldLink RX2 41 "TwinOrchardLaw$Tree" "branches" "I") (List.mem_of_getElem? (i := 2) rfl)) (fun _ h9 => h9) rfl (by decide +kernel) rfl rfl (Nat.le_of_ble_eq_true rfl) dX2_work_293 (fun H locs hP hD hS => ?_)
                                                            have hP : va_P D vwCl (SW cI cT cU d (su (su (su (xGraft σ (r0 * 8 + p0) i0) 8 (tw (r0 * 8 + (7 - p0))) (((xGraft σ (r0 * 8 + p0) i0) 8 (tw (r0 * 8 + (7 - p0)))) - 4)) 4 (r0 * 8 + (7 - p0)) (i0)) 5 (r0 * 8 + (7 - p0)) (((xGraft σ (r0 * 8 + p0) i0) 5 (r0 * 8 + (7 - p0))) / 2)) ι) H := va_Pe (sw_put5 (cI := cI) (cT := cT) (cU := cU) (d := d) (σ := su (su (xGraft σ (r0 * 8 + p0) i0) 8 (tw (r0 * 8 + (7 - p0))) (((xGraft σ (r0 * 8 + p0) i0) 8 (tw (r0 * 8 + (7 - p0)))) - 4)) 4 (r0 * 8 + (7 - p0)) (i0)) (ι := ι) (k := r0 * 8 + (7 - p0)) (v := ((xGraft σ (r0 * 8 + p0) i0) 5 (r0 * 8 + (7 - p0))) / 2) ct268 (by omega) (by omega)) hP
                                                            have hD : va_D A (SW cI cT cU d (su (su (su (xGraft σ (r0 * 8 + p0) i0) 8 (tw (r0 * 8 + (7 - p0))) (((xGraft σ (r0 * 8 + p0) i0) 8 (tw (r0 * 8 + (7 - p0)))) - 4)) 4 (r0 * 8 + (7 - p0)) (i0)) 5 (r0 * 8 + (7 - p0)) (((xGraft σ (r0 * 8 + p0) i0) 5 (r0 * 8 + (7 - p0))) / 2)) ι) := va_De (sw_put5 (cI := cI) (cT := cT) (cU := cU) (d := d) (σ := su (su (xGraft σ (r0 * 8 + p0) i0) 8 (tw (r0 * 8 + (7 - p0))) (((xGraft σ (r0 * 8 + p0) i0) 8 (tw (r0 * 8 + (7 - p0)))) - 4)) 4 (r0 * 8 + (7 - p0)) (i0)) (ι := ι) (k := r0 * 8 + (7 - p0)) (v := ((xGraft σ (r0 * 8 + p0) i0) 5 (r0 * 8 + (7 - p0))) / 2) ct268 (by omega) (by omega)) hD
                                                            refine lv_goto (tgt := 309) hx hb dX2_work_296 (by decide) ?_
                                                            have ha2 : grA (xGraft σ (r0 * 8 + p0) i0) (r0 * 8 + (7 - p0)) i0 = 1 := bI_t (by omega)
                                                            have e8 : (su (su (su (xGraft σ (r0 * 8 + p0) i0) 8 (tw (r0 * 8 + (7 - p0))) (((xGraft σ (r0 * 8 + p0) i0) 8 (tw (r0 * 8 + (7 - p0)))) - 4)) 4 (r0 * 8 + (7 - p0)) (i0)) 5 (r0 * 8 + (7 - p0)) (((xGraft σ (r0 * 8 + p0) i0) 5 (r0 * 8 + (7 - p0))) / 2)) = (xGraft (xGraft σ (r0 * 8 + p0) i0) (r0 * 8 + (7 - p0)) i0) := (xGraft_y (by omega) (by omega)).symm
                                                            rw [e8] at hP hD
                                                            have hP : va_P D vwCl (SW cI cT cU d (xGraft (xGraft σ (r0 * 8 + p0) i0) (r0 * 8 + (7 - p0)) i0) ι) H := hP
                                                            have hD : va_D A (SW cI cT cU d (xGraft (xGraft σ (r0 * 8 + p0) i0) (r0 * 8 + (7 - p0)) i0) ι) := hD
                                                            refine lv_iinc (v := iI (2)) (lv' := [(7, .int (iI (2))), (6, .int (iI (0 + (1 + 1)))), (12, .int (iI (1))), (11, .ref (ι (r0 * 8 + (7 - p0))).toNat), (10, .int (iI (4))), (9, .int (iI (tw (r0 * 8 + (7 - p0))))), (8, .int (iI (7 - p0))), (0, .ref (d 0)), (1, .int (iI (2))), (2, .int (iI (r0))), (3, .int (iI (p0))), (4, .int (iI (i0))), (5, .int (iI (0)))]) hx hb dX2_work_309 hl (k := 6) rfl rfl (by decide) rfl (fun ls hl => ?_)
                                                            refine lv_goto (tgt := 6) hx hb dX2_work_312 (by decide) ?_
                                                            refine lv_iload hx hb dX2_work_6 (lv_at hl 0 rfl) ?_
                                                            refine lv_iconst (v := iI (2)) hx hb dX2_work_8 rfl ?_
                                                            refine gi_icmp_ge (tgt := 315) hx hb dX2_work_9 (by decide) ⟨by decide, by decide⟩ ⟨by decide, by decide⟩ (fun c9 => ?_) (fun c9 => ?_)
                                                            · skip
                                                              refine lv_iload hx hb dX2_work_315 (lv_at hl 1 rfl) ?_
                                                              have ess : (xGraft (xGraft σ (r0 * 8 + p0) i0) (mir (r0 * 8 + p0)) i0) = (xGraft (xGraft σ (r0 * 8 + p0) i0) (r0 * 8 + (7 - p0)) i0) := by rw [em]
                                                              have hP : va_P D vwCl (SW cI cT cU d (xGraft (xGraft σ (r0 * 8 + p0) i0) (mir (r0 * 8 + p0)) i0) ι) H := by rw [ess]; exact hP
                                                              have hD : va_D A (SW cI cT cU d (xGraft (xGraft σ (r0 * 8 + p0) i0) (mir (r0 * 8 + p0)) i0) ι) := by rw [ess]; exact hD
                                                              have er : ((who (grA σ (r0 * 8 + p0) i0) (grA (xGraft σ (r0 * 8 + p0) i0) (mir (r0 * 8 + p0)) i0) : Int)) = (0 + (1 + 1)) := by rw [em, ha1, ha2]; decide
                                                              exact g_iret (wo := (fun κ' => SW cI cT cU d (xGraft (xGraft σ (r0 * 8 + p0) i0) (mir (r0 * 8 + p0)) i0) (κ' 2))) (kr := (fun κ' => True)) (rv := (fun _ => some (.int (iI (who (grA σ (r0 * 8 + p0) i0) (grA (xGraft σ (r0 * 8 + p0) i0) (mir (r0 * 8 + p0)) i0)))))) hx hb hr hlocks (fun _ => ι) rfl hP hK hD hS trivial (by rw [er]) (Nat.le_of_ble_eq_true rfl) (Nat.le_of_ble_eq_true rfl) dX2_work_317
                                                            · skip
                                                              omega
                                                      · skip
                                                        exact absurd c235 (by decide)
                                                    · skip
                                                      exact absurd c193 (by decide)
                                                  · skip
                                                    refine lv_goto (tgt := 309) hx hb dX2_work_168 (by decide) ?_
                                                    have ha2 : grA (xGraft σ (r0 * 8 + p0) i0) (r0 * 8 + (7 - p0)) i0 = 0 := bI_f (by omega)
                                                    have e8 : (xGraft σ (r0 * 8 + p0) i0) = (xGraft (xGraft σ (r0 * 8 + p0) i0) (r0 * 8 + (7 - p0)) i0) := (xGraft_n (by omega)).symm
                                                    rw [e8] at hP hD
                                                    have hP : va_P D vwCl (SW cI cT cU d (xGraft (xGraft σ (r0 * 8 + p0) i0) (r0 * 8 + (7 - p0)) i0) ι) H := hP
                                                    have hD : va_D A (SW cI cT cU d (xGraft (xGraft σ (r0 * 8 + p0) i0) (r0 * 8 + (7 - p0)) i0) ι) := hD
                                                    refine lv_iinc (v := iI (2)) (lv' := [(7, .int (iI (2))), (12, .int (iI (1))), (11, .ref (ι (r0 * 8 + (7 - p0))).toNat), (10, .int (iI (4))), (9, .int (iI (tw (r0 * 8 + (7 - p0))))), (8, .int (iI (7 - p0))), (6, .int (iI (0))), (0, .ref (d 0)), (1, .int (iI (2))), (2, .int (iI (r0))), (3, .int (iI (p0))), (4, .int (iI (i0))), (5, .int (iI (0)))]) hx hb dX2_work_309 hl (k := 5) rfl rfl (by decide) rfl (fun ls hl => ?_)
                                                    refine lv_goto (tgt := 6) hx hb dX2_work_312 (by decide) ?_
                                                    refine lv_iload hx hb dX2_work_6 (lv_at hl 0 rfl) ?_
                                                    refine lv_iconst (v := iI (2)) hx hb dX2_work_8 rfl ?_
                                                    refine gi_icmp_ge (tgt := 315) hx hb dX2_work_9 (by decide) ⟨by decide, by decide⟩ ⟨by decide, by decide⟩ (fun c9 => ?_) (fun c9 => ?_)
                                                    · skip
                                                      refine lv_iload hx hb dX2_work_315 (lv_at hl 6 rfl) ?_
                                                      have ess : (xGraft (xGraft σ (r0 * 8 + p0) i0) (mir (r0 * 8 + p0)) i0) = (xGraft (xGraft σ (r0 * 8 + p0) i0) (r0 * 8 + (7 - p0)) i0) := by rw [em]
                                                      have hP : va_P D vwCl (SW cI cT cU d (xGraft (xGraft σ (r0 * 8 + p0) i0) (mir (r0 * 8 + p0)) i0) ι) H := by rw [ess]; exact hP
                                                      have hD : va_D A (SW cI cT cU d (xGraft (xGraft σ (r0 * 8 + p0) i0) (mir (r0 * 8 + p0)) i0) ι) := by rw [ess]; exact hD
                                                      have er : ((who (grA σ (r0 * 8 + p0) i0) (grA (xGraft σ (r0 * 8 + p0) i0) (mir (r0 * 8 + p0)) i0) : Int)) = (0) := by rw [em, ha1, ha2]; decide
                                                      exact g_iret (wo := (fun κ' => SW cI cT cU d (xGraft (xGraft σ (r0 * 8 + p0) i0) (mir (r0 * 8 + p0)) i0) (κ' 2))) (kr := (fun κ' => True)) (rv := (fun _ => some (.int (iI (who (grA σ (r0 * 8 + p0) i0) (grA (xGraft σ (r0 * 8 + p0) i0) (mir (r0 * 8 + p0)) i0)))))) hx hb hr hlocks (fun _ => ι) rfl hP hK hD hS trivial (by rw [er]) (Nat.le_of_ble_eq_true rfl) (Nat.le_of_ble_eq_true rfl) dX2_work_317
                                                    · skip
                                                      omega
                                        · skip
                                          exact absurd c105 (by decide)
                                      · skip
                                        exact absurd c82 (by decide)
                                · skip
                                  exact absurd c50 (by decide)
                              · skip
                                exact absurd c41 (by decide)
                            · skip
                              exact absurd c14 (by decide)
                        · skip
                          exact absurd rfl c153
                      · skip
                        refine lv_iconst (v := iI (1)) hx hb dX2_work_144 rfl ?_
                        refine lv_goto (tgt := 149) hx hb dX2_work_145 (by decide) ?_
                        refine lv_istore (lv' := [(12, .int (iI (1))), (11, .ref (ι (r0 * 8 + p0)).toNat), (10, .int (iI (4))), (9, .int (iI (tw (r0 * 8 + p0)))), (8, .int (iI (p0))), (7, .int (iI (0))), (6, .int (iI (0))), (0, .ref (d 0)), (1, .int (iI (2))), (2, .int (iI (r0))), (3, .int (iI (p0))), (4, .int (iI (i0))), (5, .int (iI (0)))]) hx hb dX2_work_149 hl (by decide) rfl (fun ls hl => ?_)
                        refine lv_iload hx hb dX2_work_151 (lv_at hl 0 rfl) ?_
                        refine gi_if_eq (tgt := 309) hx hb dX2_work_153 (by decide) ⟨by decide, by decide⟩ (fun c153 => ?_) (fun c153 => ?_)
                        · skip
                          exact absurd c153 (by decide)
                        · skip
                          refine lv_aload_n hx hb dX2_work_156 rfl (lv_at hl 7 rfl) ?_
                          refine va_get (D := D) (ci := 2) (v := .ref (d 6)) (C := RX2) (T := TX2) (N := 8) hx hb hts hinX2 hown hK hP 0 rfl rfl 5 (by decide) (hts (.fieldLink RX2 27 "TwinOrchardLaw$Sim" "strength" "[I") (List.mem_of_getElem? (i := 4) rfl)) (fun _ h9 => h9) rfl dX2_work_157 ?_
                          refine lv_iload hx hb dX2_work_160 (lv_at hl 3 rfl) ?_
                          refine gi_iald (a := d 6) (n := 2) (f := σ 8) hx hb hK hP 6 0 rfl rfl (by omega) (by omega) (by decide) dX2_work_162 ?_
                          refine lv_iload hx hb dX2_work_163 (lv_at hl 2 rfl) ?_
                          refine gi_icmp_ge (tgt := 171) hx hb dX2_work_165 (by decide) ⟨by omega, by omega⟩ ⟨by decide, by decide⟩ (fun c165 => ?_) (fun c165 => ?_)
                          · skip
                            refine lv_aload_n hx hb dX2_work_171 rfl (lv_at hl 7 rfl) ?_
                            refine va_get (D := D) (ci := 2) (v := .ref (d 6)) (C := RX2) (T := TX2) (N := 8) hx hb hts hinX2 hown hK hP 0 rfl rfl 5 (by decide) (hts (.fieldLink RX2 27 "TwinOrchardLaw$Sim" "strength" "[I") (List.mem_of_getElem? (i := 4) rfl)) (fun _ h9 => h9) rfl dX2_work_172 ?_
                            refine lv_iload hx hb dX2_work_175 (lv_at hl 3 rfl) ?_
                            refine lv_dup2_11 hx hb dX2_work_177 rfl rfl ?_
                            refine gi_iald (a := d 6) (n := 2) (f := σ 8) hx hb hK hP 6 0 rfl rfl (by omega) (by omega) (by decide) dX2_work_178 ?_
                            refine lv_iload hx hb dX2_work_179 (lv_at hl 2 rfl) ?_
                            refine gi_sub hx hb dX2_work_181 ?_
                            refine gi_iast (a := d 6) (n := 2) (f := σ 8) hx hb hK hP hD hS 6 0 rfl rfl (by omega) (by omega) (by decide) dX2_work_182 (fun H locs hP hD hS => ?_)
                            have hP : va_P D vwCl (SW cI cT cU d (su σ 8 (tw (r0 * 8 + p0)) ((σ 8 (tw (r0 * 8 + p0))) - 4)) ι) H := hP
                            have hD : va_D A (SW cI cT cU d (su σ 8 (tw (r0 * 8 + p0)) ((σ 8 (tw (r0 * 8 + p0))) - 4)) ι) := hD
                            refine lv_iload hx hb dX2_work_183 (lv_at hl 6 rfl) ?_
                            refine lv_iload hx hb dX2_work_185 (lv_at hl 5 rfl) ?_
                            refine lv_iconst (v := iI (1)) hx hb dX2_work_187 rfl ?_
                            refine gi_add hx hb dX2_work_188 ?_
                            refine gi_add hx hb dX2_work_189 ?_
                            refine lv_istore (lv' := [(6, .int (iI (0 + (0 + 1)))), (12, .int (iI (1))), (11, .ref (ι (r0 * 8 + p0)).toNat), (10, .int (iI (4))), (9, .int (iI (tw (r0 * 8 + p0)))), (8, .int (iI (p0))), (7, .int (iI (0))), (0, .ref (d 0)), (1, .int (iI (2))), (2, .int (iI (r0))), (3, .int (iI (p0))), (4, .int (iI (i0))), (5, .int (iI (0)))]) hx hb dX2_work_190 hl (by decide) rfl (fun ls hl => ?_)
                            refine lv_iload_n hx hb dX2_work_192 rfl (lv_at hl 8 rfl) ?_
                            refine gi_if_ne (tgt := 233) hx hb dX2_work_193 (by decide) ⟨by decide, by decide⟩ (fun c193 => ?_) (fun c193 => ?_)
                            · skip
                              refine lv_iload_n hx hb dX2_work_233 rfl (lv_at hl 8 rfl) ?_
                              refine lv_iconst (v := iI (1)) hx hb dX2_work_234 rfl ?_
                              refine gi_icmp_ne (tgt := 259) hx hb dX2_work_235 (by decide) ⟨by decide, by decide⟩ ⟨by decide, by decide⟩ (fun c235 => ?_) (fun c235 => ?_)
                              · skip
                                refine lv_iload_n hx hb dX2_work_259 rfl (lv_at hl 8 rfl) ?_
                                refine lv_iconst (v := iI (2)) hx hb dX2_work_260 rfl ?_
                                refine gi_icmp_ne (tgt := 299) hx hb dX2_work_261 (by decide) ⟨by decide, by decide⟩ ⟨by decide, by decide⟩ (fun c261 => ?_) (fun c261 => ?_)
                                · skip
                                  exact absurd rfl c261
                                · skip
                                  refine lv_aload hx hb dX2_work_264 (lv_at hl 2 rfl) ?_
                                  refine lv_iload hx hb dX2_work_266 (lv_at hl 11 rfl) ?_
                                  refine va_put (D := D) (ci := 3) (v := .int (iI (i0))) (ty := .int) (C := RX3) (T := TX3) (N := 4) hx hb hts hinX3 tyX3 tyX3_ok nmX3 hown hK hP hD hS (spos (su σ 8 (tw (r0 * 8 + p0)) ((σ 8 (tw (r0 * 8 + p0))) - 4)) ι (r0 * 8 + p0)) (sw_at ct78 (by omega) (by omega)) rfl 2 (by decide) (hts (.fieldLink RX2 44 "TwinOrchardLaw$Tree" "sort" "I") (List.mem_of_getElem? (i := 3) rfl)) (fun _ h9 => h9) rfl (by decide +kernel) rfl rfl (Nat.le_of_ble_eq_true rfl) dX2_work_268 (fun H locs hP hD hS => ?_)
                                  have hP : va_P D vwCl (SW cI cT cU d (su (su σ 8 (tw (r0 * 8 + p0)) ((σ 8 (tw (r0 * 8 + p0))) - 4)) 4 (r0 * 8 + p0) (i0)) ι) H := va_Pe (sw_put4 (cI := cI) (cT := cT) (cU := cU) (d := d) (σ := su σ 8 (tw (r0 * 8 + p0)) ((σ 8 (tw (r0 * 8 + p0))) - 4)) (ι := ι) (k := r0 * 8 + p0) (v := i0) (by omega) ct78 (by omega) (by omega)) hP
                                  have hD : va_D A (SW cI cT cU d (su (su σ 8 (tw (r0 * 8 + p0)) ((σ 8 (tw (r0 * 8 + p0))) - 4)) 4 (r0 * 8 + p0) (i0)) ι) := va_De (sw_put4 (cI := cI) (cT := cT) (cU := cU) (d := d) (σ := su σ 8 (tw (r0 * 8 + p0)) ((σ 8 (tw (r0 * 8 + p0))) - 4)) (ι := ι) (k := r0 * 8 + p0) (v := i0) (by omega) ct78 (by omega) (by omega)) hD
                                  have ct268 : ¬ (su (su σ 8 (tw (r0 * 8 + p0)) ((σ 8 (tw (r0 * 8 + p0))) - 4)) 4 (r0 * 8 + p0) (i0)) 4 (r0 * 8 + p0) = -1 := by show ¬ fu _ _ _ _ = -1; rw [fu_s]; omega
                                  refine lv_aload hx hb dX2_work_271 (lv_at hl 2 rfl) ?_
                                  refine lv_aload hx hb dX2_work_273 (lv_at hl 2 rfl) ?_
                                  refine va_get (D := D) (ci := 3) (v := .int (iI ((su (su σ 8 (tw (r0 * 8 + p0)) ((σ 8 (tw (r0 * 8 + p0))) - 4)) 4 (r0 * 8 + p0) (i0)) 5 (r0 * 8 + p0)))) (C := RX3) (T := TX3) (N := 4) hx hb hts hinX3 hown hK hP (spos (su (su σ 8 (tw (r0 * 8 + p0)) ((σ 8 (tw (r0 * 8 + p0))) - 4)) 4 (r0 * 8 + p0) (i0)) ι (r0 * 8 + p0)) (sw_at ct268 (by omega) (by omega)) rfl 0 (by decide) (hts (.fieldLink RX2 41 "TwinOrchardLaw$Tree" "branches" "I") (List.mem_of_getElem? (i := 2) rfl)) (fun _ h9 => h9) rfl dX2_work_275 ?_
                                  rw [show ((su (su σ 8 (tw (r0 * 8 + p0)) ((σ 8 (tw (r0 * 8 + p0))) - 4)) 4 (r0 * 8 + p0) (i0)) 5 (r0 * 8 + p0)) = (σ 5 (r0 * 8 + p0)) from by rfl]
                                  refine lv_iconst (v := iI (1)) hx hb dX2_work_278 rfl ?_
                                  refine gi_icmp_le (tgt := 292) hx hb dX2_work_279 (by decide) ⟨by omega, by omega⟩ ⟨by decide, by decide⟩ (fun c279 => ?_) (fun c279 => ?_)
                                  · skip
                                    refine lv_iconst (v := iI (1)) hx hb dX2_work_292 rfl ?_
                                    refine va_put (D := D) (ci := 3) (v := .int (iI (1))) (ty := .int) (C := RX3) (T := TX3) (N := 4) hx hb hts hinX3 tyX3 tyX3_ok nmX3 hown hK hP hD hS (spos (su (su σ 8 (tw (r0 * 8 + p0)) ((σ 8 (tw (r0 * 8 + p0))) - 4)) 4 (r0 * 8 + p0) (i0)) ι (r0 * 8 + p0)) (sw_at ct268 (by omega) (by omega)) rfl 0 (by decide) (hts (.fieldLink RX2 41 "TwinOrchardLaw$Tree" "branches" "I") (List.mem_of_getElem? (i := 2) rfl)) (fun _ h9 => h9) rfl (by decide +kernel) rfl rfl (Nat.le_of_ble_eq_true rfl) dX2_work_293 (fun H locs hP hD hS => ?_)
                                    have hP : va_P D vwCl (SW cI cT cU d (su (su (su σ 8 (tw (r0 * 8 + p0)) ((σ 8 (tw (r0 * 8 + p0))) - 4)) 4 (r0 * 8 + p0) (i0)) 5 (r0 * 8 + p0) (1)) ι) H := va_Pe (sw_put5 (cI := cI) (cT := cT) (cU := cU) (d := d) (σ := su (su σ 8 (tw (r0 * 8 + p0)) ((σ 8 (tw (r0 * 8 + p0))) - 4)) 4 (r0 * 8 + p0) (i0)) (ι := ι) (k := r0 * 8 + p0) (v := 1) ct268 (by omega) (by omega)) hP
                                    have hD : va_D A (SW cI cT cU d (su (su (su σ 8 (tw (r0 * 8 + p0)) ((σ 8 (tw (r0 * 8 + p0))) - 4)) 4 (r0 * 8 + p0) (i0)) 5 (r0 * 8 + p0) (1)) ι) := va_De (sw_put5 (cI := cI) (cT := cT) (cU := cU) (d := d) (σ := su (su σ 8 (tw (r0 * 8 + p0)) ((σ 8 (tw (r0 * 8 + p0))) - 4)) 4 (r0 * 8 + p0) (i0)) (ι := ι) (k := r0 * 8 + p0) (v := 1) ct268 (by omega) (by omega)) hD
                                    refine lv_goto (tgt := 309) hx hb dX2_work_296 (by decide) ?_
                                    have ha1 : grA σ (r0 * 8 + p0) i0 = 1 := bI_t (by omega)
                                    have e8 : (su (su (su σ 8 (tw (r0 * 8 + p0)) ((σ 8 (tw (r0 * 8 + p0))) - 4)) 4 (r0 * 8 + p0) (i0)) 5 (r0 * 8 + p0) (1)) = (xGraft σ (r0 * 8 + p0) i0) := (xGraft_y (by omega) (by omega)).symm
                                    rw [e8] at hP hD
                                    have hP : va_P D vwCl (SW cI cT cU d (xGraft σ (r0 * 8 + p0) i0) ι) H := hP
                                    have hD : va_D A (SW cI cT cU d (xGraft σ (r0 * 8 + p0) i0) ι) := hD
                                    have hwf2 : xWF (xGraft σ (r0 * 8 + p0) i0) := xWF_graft hwf hi
                                    have k4b := xWF_4 hwf2 (r0 * 8 + (7 - p0))
                                    have k5b := xWF_5 hwf2 (r0 * 8 + (7 - p0))
                                    have k8b := xWF_8 hwf2 (tw (r0 * 8 + (7 - p0)))
                                    refine lv_iinc (v := iI (1)) (lv' := [(7, .int (iI (1))), (6, .int (iI (0 + (0 + 1)))), (12, .int (iI (1))), (11, .ref (ι (r0 * 8 + p0)).toNat), (10, .int (iI (4))), (9, .int (iI (tw (r0 * 8 + p0)))), (8, .int (iI (p0))), (0, .ref (d 0)), (1, .int (iI (2))), (2, .int (iI (r0))), (3, .int (iI (p0))), (4, .int (iI (i0))), (5, .int (iI (0)))]) hx hb dX2_work_309 hl (k := 6) rfl rfl (by decide) rfl (fun ls hl => ?_)
                                    refine lv_goto (tgt := 6) hx hb dX2_work_312 (by decide) ?_
                                    refine lv_iload hx hb dX2_work_6 (lv_at hl 0 rfl) ?_
                                    refine lv_iconst (v := iI (2)) hx hb dX2_work_8 rfl ?_
                                    refine gi_icmp_ge (tgt := 315) hx hb dX2_work_9 (by decide) ⟨by decide, by decide⟩ ⟨by decide, by decide⟩ (fun c9 => ?_) (fun c9 => ?_)
                                    · skip
                                      exact absurd c9 (by decide)
                                    · skip
                                      refine lv_iload hx hb dX2_work_12 (lv_at hl 0 rfl) ?_
                                      refine gi_if_ne (tgt := 21) hx hb dX2_work_14 (by decide) ⟨by decide, by decide⟩ (fun c14 => ?_) (fun c14 => ?_)
                                      · skip
                                        refine lv_bipush (v := iI (7)) hx hb dX2_work_21 rfl ?_
                                        refine lv_iload_n hx hb dX2_work_23 rfl (lv_at hl 10 rfl) ?_
                                        refine gi_sub hx hb dX2_work_24 ?_
                                        refine lv_istore (lv' := [(8, .int (iI (7 - p0))), (7, .int (iI (1))), (6, .int (iI (0 + (0 + 1)))), (12, .int (iI (1))), (11, .ref (ι (r0 * 8 + p0)).toNat), (10, .int (iI (4))), (9, .int (iI (tw (r0 * 8 + p0)))), (0, .ref (d 0)), (1, .int (iI (2))), (2, .int (iI (r0))), (3, .int (iI (p0))), (4, .int (iI (i0))), (5, .int (iI (0)))]) hx hb dX2_work_25 hl (by decide) rfl (fun ls hl => ?_)
                                        refine lv_iload hx hb dX2_work_27 (lv_at hl 0 rfl) ?_
                                        refine lv_iconst (v := iI (4)) hx hb dX2_work_29 rfl ?_
                                        refine g_selGe (u := 0) (v := 1) (t1 := 37) (t2 := 38) hx hb ⟨by omega, by omega⟩ ⟨by decide, by decide⟩ dX2_work_30 (by decide) (fun st h => lv_iconst (v := iI (0)) hx hb dX2_work_33 rfl (lv_goto (tgt := 38) hx hb dX2_work_34 (by decide) h)) (fun st h => lv_iconst (v := iI (1)) hx hb dX2_work_37 rfl h) ?_
                                        rw [show (if 7 - p0 < 4 then (0 : Int) else 1) = tw (r0 * 8 + (7 - p0)) from by unfold tw; split <;> split <;> omega]
                                        refine lv_istore (lv' := [(9, .int (iI (tw (r0 * 8 + (7 - p0))))), (8, .int (iI (7 - p0))), (7, .int (iI (1))), (6, .int (iI (0 + (0 + 1)))), (12, .int (iI (1))), (11, .ref (ι (r0 * 8 + p0)).toNat), (10, .int (iI (4))), (0, .ref (d 0)), (1, .int (iI (2))), (2, .int (iI (r0))), (3, .int (iI (p0))), (4, .int (iI (i0))), (5, .int (iI (0)))]) hx hb dX2_work_38 hl (by decide) rfl (fun ls hl => ?_)
                                        refine lv_iload_n hx hb dX2_work_40 rfl (lv_at hl 8 rfl) ?_
                                        refine gi_if_ne (tgt := 48) hx hb dX2_work_41 (by decide) ⟨by decide, by decide⟩ (fun c41 => ?_) (fun c41 => ?_)
                                        · skip
                                          refine lv_iload_n hx hb dX2_work_48 rfl (lv_at hl 8 rfl) ?_
                                          refine lv_iconst (v := iI (1)) hx hb dX2_work_49 rfl ?_
                                          refine gi_icmp_ne (tgt := 57) hx hb dX2_work_50 (by decide) ⟨by decide, by decide⟩ ⟨by decide, by decide⟩ (fun c50 => ?_) (fun c50 => ?_)
                                          · skip
                                            refine lv_iload_n hx hb dX2_work_57 rfl (lv_at hl 8 rfl) ?_
                                            refine lv_iconst (v := iI (2)) hx hb dX2_work_58 rfl ?_
                                            refine gi_icmp_ne (tgt := 66) hx hb dX2_work_59 (by decide) ⟨by decide, by decide⟩ ⟨by decide, by decide⟩ (fun c59 => ?_) (fun c59 => ?_)
                                            · skip
                                              exact absurd rfl c59
                                            · skip
                                              refine lv_iconst (v := iI (4)) hx hb dX2_work_62 rfl ?_
                                              refine lv_goto (tgt := 68) hx hb dX2_work_63 (by decide) ?_
                                              refine lv_istore (lv' := [(10, .int (iI (4))), (9, .int (iI (tw (r0 * 8 + (7 - p0))))), (8, .int (iI (7 - p0))), (7, .int (iI (1))), (6, .int (iI (0 + (0 + 1)))), (12, .int (iI (1))), (11, .ref (ι (r0 * 8 + p0)).toNat), (0, .ref (d 0)), (1, .int (iI (2))), (2, .int (iI (r0))), (3, .int (iI (p0))), (4, .int (iI (i0))), (5, .int (iI (0)))]) hx hb dX2_work_68 hl (by decide) rfl (fun ls hl => ?_)
                                              refine lv_aload_n hx hb dX2_work_70 rfl (lv_at hl 7 rfl) ?_
                                              refine va_get (D := D) (ci := 2) (v := .ref (d 1)) (C := RX2) (T := TX2) (N := 8) hx hb hts hinX2 hown hK hP 0 rfl rfl 0 (by decide) (hts (.fieldLink RX2 9 "TwinOrchardLaw$Sim" "trees" "[[LTwinOrchardLaw$Tree;") (List.mem_of_getElem? (i := 1) rfl)) (fun _ h9 => h9) rfl dX2_work_71 ?_
                                              refine lv_iload_n hx hb dX2_work_74 rfl (lv_at hl 9 rfl) ?_
                                              refine s_row (f := srt d) hx hb hK hP 1 3 rfl rfl (by omega) (by omega) (by decide) (v := d (r0.toNat + 7)) (if_pos (by omega)) dX2_work_75 ?_
                                              refine lv_iload hx hb dX2_work_76 (lv_at hl 2 rfl) ?_
                                              refine s_tree (σ := xGraft σ (r0 * 8 + p0) i0) (ι := ι) (r := r0) (i := 7 - p0) hx hb hK hP (r0.toNat + 7) 2 (sw_row (by omega) (by omega)) rfl (by omega) (by omega) dX2_work_78 (fun ct78 => ?_) (fun ct78 => ?_)
                                              · skip
                                                refine lv_astoreN (lv' := [(11, .null), (10, .int (iI (4))), (9, .int (iI (tw (r0 * 8 + (7 - p0))))), (8, .int (iI (7 - p0))), (7, .int (iI (1))), (6, .int (iI (0 + (0 + 1)))), (12, .int (iI (1))), (0, .ref (d 0)), (1, .int (iI (2))), (2, .int (iI (r0))), (3, .int (iI (p0))), (4, .int (iI (i0))), (5, .int (iI (0)))]) hx hb dX2_work_79 hl (by decide) rfl (fun ls hl => ?_)
                                                refine lv_iload_n hx hb dX2_work_81 rfl (lv_at hl 8 rfl) ?_
                                                refine gi_if_ne (tgt := 98) hx hb dX2_work_82 (by decide) ⟨by decide, by decide⟩ (fun c82 => ?_) (fun c82 => ?_)
                                                · skip
                                                  refine lv_aloadN hx hb dX2_work_98 (lv_at hl 0 rfl) ?_
                                                  refine lv_ifnullN (tgt := 148) hx hb dX2_work_100 (by decide) ?_
                                                  refine lv_iconst (v := iI (0)) hx hb dX2_work_148 rfl ?_
                                                  refine lv_istore (lv' := [(12, .int (iI (0))), (11, .null), (10, .int (iI (4))), (9, .int (iI (tw (r0 * 8 + (7 - p0))))), (8, .int (iI (7 - p0))), (7, .int (iI (1))), (6, .int (iI (0 + (0 + 1)))), (0, .ref (d 0)), (1, .int (iI (2))), (2, .int (iI (r0))), (3, .int (iI (p0))), (4, .int (iI (i0))), (5, .int (iI (0)))]) hx hb dX2_work_149 hl (by decide) rfl (fun ls hl => ?_)
                                                  refine lv_iload hx hb dX2_work_151 (lv_at hl 0 rfl) ?_
                                                  refine gi_if_eq (tgt := 309) hx hb dX2_work_153 (by decide) ⟨by decide, by decide⟩ (fun c153 => ?_) (fun c153 => ?_)
                                                  · skip
                                                    have ha2 : grA (xGraft σ (r0 * 8 + p0) i0) (r0 * 8 + (7 - p0)) i0 = 0 := bI_f (by omega)
                                                    have e8 : (xGraft σ (r0 * 8 + p0) i0) = (xGraft (xGraft σ (r0 * 8 + p0) i0) (r0 * 8 + (7 - p0)) i0) := (xGraft_n (by omega)).symm
                                                    rw [e8] at hP hD
                                                    have hP : va_P D vwCl (SW cI cT cU d (xGraft (xGraft σ (r0 * 8 + p0) i0) (r0 * 8 + (7 - p0)) i0) ι) H := hP
                                                    have hD : va_D A (SW cI cT cU d (xGraft (xGraft σ (r0 * 8 + p0) i0) (r0 * 8 + (7 - p0)) i0) ι) := hD
                                                    refine lv_iinc (v := iI (2)) (lv' := [(7, .int (iI (2))), (12, .int (iI (0))), (11, .null), (10, .int (iI (4))), (9, .int (iI (tw (r0 * 8 + (7 - p0))))), (8, .int (iI (7 - p0))), (6, .int (iI (0 + (0 + 1)))), (0, .ref (d 0)), (1, .int (iI (2))), (2, .int (iI (r0))), (3, .int (iI (p0))), (4, .int (iI (i0))), (5, .int (iI (0)))]) hx hb dX2_work_309 hl (k := 5) rfl rfl (by decide) rfl (fun ls hl => ?_)
                                                    refine lv_goto (tgt := 6) hx hb dX2_work_312 (by decide) ?_
                                                    refine lv_iload hx hb dX2_work_6 (lv_at hl 0 rfl) ?_
                                                    refine lv_iconst (v := iI (2)) hx hb dX2_work_8 rfl ?_
                                                    refine gi_icmp_ge (tgt := 315) hx hb dX2_work_9 (by decide) ⟨by decide, by decide⟩ ⟨by decide, by decide⟩ (fun c9 => ?_) (fun c9 => ?_)
                                                    · skip
                                                      refine lv_iload hx hb dX2_work_315 (lv_at hl 6 rfl) ?_
                                                      have ess : (xGraft (xGraft σ (r0 * 8 + p0) i0) (mir (r0 * 8 + p0)) i0) = (xGraft (xGraft σ (r0 * 8 + p0) i0) (r0 * 8 + (7 - p0)) i0) := by rw [em]
                                                      have hP : va_P D vwCl (SW cI cT cU d (xGraft (xGraft σ (r0 * 8 + p0) i0) (mir (r0 * 8 + p0)) i0) ι) H := by rw [ess]; exact hP
                                                      have hD : va_D A (SW cI cT cU d (xGraft (xGraft σ (r0 * 8 + p0) i0) (mir (r0 * 8 + p0)) i0) ι) := by rw [ess]; exact hD
                                                      have er : ((who (grA σ (r0 * 8 + p0) i0) (grA (xGraft σ (r0 * 8 + p0) i0) (mir (r0 * 8 + p0)) i0) : Int)) = (0 + (0 + 1)) := by rw [em, ha1, ha2]; decide
                                                      exact g_iret (wo := (fun κ' => SW cI cT cU d (xGraft (xGraft σ (r0 * 8 + p0) i0) (mir (r0 * 8 + p0)) i0) (κ' 2))) (kr := (fun κ' => True)) (rv := (fun _ => some (.int (iI (who (grA σ (r0 * 8 + p0) i0) (grA (xGraft σ (r0 * 8 + p0) i0) (mir (r0 * 8 + p0)) i0)))))) hx hb hr hlocks (fun _ => ι) rfl hP hK hD hS trivial (by rw [er]) (Nat.le_of_ble_eq_true rfl) (Nat.le_of_ble_eq_true rfl) dX2_work_317
                                                    · skip
                                                      omega
                                                  · skip
                                                    exact absurd rfl c153
                                                · skip
                                                  exact absurd c82 (by decide)
                                              · skip
                                                refine lv_astore (lv' := [(11, .ref (ι (r0 * 8 + (7 - p0))).toNat), (10, .int (iI (4))), (9, .int (iI (tw (r0 * 8 + (7 - p0))))), (8, .int (iI (7 - p0))), (7, .int (iI (1))), (6, .int (iI (0 + (0 + 1)))), (12, .int (iI (1))), (0, .ref (d 0)), (1, .int (iI (2))), (2, .int (iI (r0))), (3, .int (iI (p0))), (4, .int (iI (i0))), (5, .int (iI (0)))]) hx hb dX2_work_79 hl (by decide) rfl (fun ls hl => ?_)
                                                refine lv_iload_n hx hb dX2_work_81 rfl (lv_at hl 8 rfl) ?_
                                                refine gi_if_ne (tgt := 98) hx hb dX2_work_82 (by decide) ⟨by decide, by decide⟩ (fun c82 => ?_) (fun c82 => ?_)
                                                · skip
                                                  refine lv_aload hx hb dX2_work_98 (lv_at hl 0 rfl) ?_
                                                  refine lv_ifnull hx hb dX2_work_100 ?_
                                                  refine lv_iload_n hx hb dX2_work_103 rfl (lv_at hl 8 rfl) ?_
                                                  refine lv_iconst (v := iI (1)) hx hb dX2_work_104 rfl ?_
                                                  refine gi_icmp_ne (tgt := 121) hx hb dX2_work_105 (by decide) ⟨by decide, by decide⟩ ⟨by decide, by decide⟩ (fun c105 => ?_) (fun c105 => ?_)
                                                  · skip
                                                    refine lv_iload_n hx hb dX2_work_121 rfl (lv_at hl 8 rfl) ?_
                                                    refine lv_iconst (v := iI (2)) hx hb dX2_work_122 rfl ?_
                                                    refine gi_icmp_ne (tgt := 144) hx hb dX2_work_123 (by decide) ⟨by decide, by decide⟩ ⟨by decide, by decide⟩ (fun c123 => ?_) (fun c123 => ?_)
                                                    · skip
                                                      exact absurd rfl c123
                                                    · skip
                                                      refine lv_aload hx hb dX2_work_126 (lv_at hl 0 rfl) ?_
                                                      refine va_get (D := D) (ci := 3) (v := .int (iI ((xGraft σ (r0 * 8 + p0) i0) 4 (r0 * 8 + (7 - p0))))) (C := RX3) (T := TX3) (N := 4) hx hb hts hinX3 hown hK hP (spos (xGraft σ (r0 * 8 + p0) i0) ι (r0 * 8 + (7 - p0))) (sw_at ct78 (by omega) (by omega)) rfl 2 (by decide) (hts (.fieldLink RX2 44 "TwinOrchardLaw$Tree" "sort" "I") (List.mem_of_getElem? (i := 3) rfl)) (fun _ h9 => h9) rfl dX2_work_128 ?_
                                                      refine lv_iload hx hb dX2_work_131 (lv_at hl 11 rfl) ?_
                                                      refine gi_icmp_eq (tgt := 148) hx hb dX2_work_133 (by decide) ⟨by omega, by omega⟩ ⟨by omega, by omega⟩ (fun c133 => ?_) (fun c133 => ?_)
                                                      · skip
                                                        refine lv_iconst (v := iI (0)) hx hb dX2_work_148 rfl ?_
                                                        refine lv_istore (lv' := [(12, .int (iI (0))), (11, .ref (ι (r0 * 8 + (7 - p0))).toNat), (10, .int (iI (4))), (9, .int (iI (tw (r0 * 8 + (7 - p0))))), (8, .int (iI (7 - p0))), (7, .int (iI (1))), (6, .int (iI (0 + (0 + 1)))), (0, .ref (d 0)), (1, .int (iI (2))), (2, .int (iI (r0))), (3, .int (iI (p0))), (4, .int (iI (i0))), (5, .int (iI (0)))]) hx hb dX2_work_149 hl (by decide) rfl (fun ls hl => ?_)
                                                        refine lv_iload hx hb dX2_work_151 (lv_at hl 0 rfl) ?_
                                                        refine gi_if_eq (tgt := 309) hx hb dX2_work_153 (by decide) ⟨by decide, by decide⟩ (fun c153 => ?_) (fun c153 => ?_)
                                                        · skip
                                                          have ha2 : grA (xGraft σ (r0 * 8 + p0) i0) (r0 * 8 + (7 - p0)) i0 = 0 := bI_f (by omega)
                                                          have e8 : (xGraft σ (r0 * 8 + p0) i0) = (xGraft (xGraft σ (r0 * 8 + p0) i0) (r0 * 8 + (7 - p0)) i0) := (xGraft_n (by omega)).symm
                                                          rw [e8] at hP hD
                                                          have hP : va_P D vwCl (SW cI cT cU d (xGraft (xGraft σ (r0 * 8 + p0) i0) (r0 * 8 + (7 - p0)) i0) ι) H := hP
                                                          have hD : va_D A (SW cI cT cU d (xGraft (xGraft σ (r0 * 8 + p0) i0) (r0 * 8 + (7 - p0)) i0) ι) := hD
                                                          refine lv_iinc (v := iI (2)) (lv' := [(7, .int (iI (2))), (12, .int (iI (0))), (11, .ref (ι (r0 * 8 + (7 - p0))).toNat), (10, .int (iI (4))), (9, .int (iI (tw (r0 * 8 + (7 - p0))))), (8, .int (iI (7 - p0))), (6, .int (iI (0 + (0 + 1)))), (0, .ref (d 0)), (1, .int (iI (2))), (2, .int (iI (r0))), (3, .int (iI (p0))), (4, .int (iI (i0))), (5, .int (iI (0)))]) hx hb dX2_work_309 hl (k := 5) rfl rfl (by decide) rfl (fun ls hl => ?_)
                                                          refine lv_goto (tgt := 6) hx hb dX2_work_312 (by decide) ?_
                                                          refine lv_iload hx hb dX2_work_6 (lv_at hl 0 rfl) ?_
                                                          refine lv_iconst (v := iI (2)) hx hb dX2_work_8 rfl ?_
                                                          refine gi_icmp_ge (tgt := 315) hx hb dX2_work_9 (by decide) ⟨by decide, by decide⟩ ⟨by decide, by decide⟩ (fun c9 => ?_) (fun c9 => ?_)
                                                          · skip
                                                            refine lv_iload hx hb dX2_work_315 (lv_at hl 6 rfl) ?_
                                                            have ess : (xGraft (xGraft σ (r0 * 8 + p0) i0) (mir (r0 * 8 + p0)) i0) = (xGraft (xGraft σ (r0 * 8 + p0) i0) (r0 * 8 + (7 - p0)) i0) := by rw [em]
                                                            have hP : va_P D vwCl (SW cI cT cU d (xGraft (xGraft σ (r0 * 8 + p0) i0) (mir (r0 * 8 + p0)) i0) ι) H := by rw [ess]; exact hP
                                                            have hD : va_D A (SW cI cT cU d (xGraft (xGraft σ (r0 * 8 + p0) i0) (mir (r0 * 8 + p0)) i0) ι) := by rw [ess]; exact hD
                                                            have er : ((who (grA σ (r0 * 8 + p0) i0) (grA (xGraft σ (r0 * 8 + p0) i0) (mir (r0 * 8 + p0)) i0) : Int)) = (0 + (0 + 1)) := by rw [em, ha1, ha2]; decide
                                                            exact g_iret (wo := (fun κ' => SW cI cT cU d (xGraft (xGraft σ (r0 * 8 + p0) i0) (mir (r0 * 8 + p0)) i0) (κ' 2))) (kr := (fun κ' => True)) (rv := (fun _ => some (.int (iI (who (grA σ (r0 * 8 + p0) i0) (grA (xGraft σ (r0 * 8 + p0) i0) (mir (r0 * 8 + p0)) i0)))))) hx hb hr hlocks (fun _ => ι) rfl hP hK hD hS trivial (by rw [er]) (Nat.le_of_ble_eq_true rfl) (Nat.le_of_ble_eq_true rfl) dX2_work_317
                                                          · skip
                                                            omega
                                                        · skip
                                                          exact absurd rfl c153
                                                      · skip
                                                        refine lv_aload hx hb dX2_work_136 (lv_at hl 0 rfl) ?_
                                                        refine va_get (D := D) (ci := 3) (v := .int (iI ((xGraft σ (r0 * 8 + p0) i0) 5 (r0 * 8 + (7 - p0))))) (C := RX3) (T := TX3) (N := 4) hx hb hts hinX3 hown hK hP (spos (xGraft σ (r0 * 8 + p0) i0) ι (r0 * 8 + (7 - p0))) (sw_at ct78 (by omega) (by omega)) rfl 0 (by decide) (hts (.fieldLink RX2 41 "TwinOrchardLaw$Tree" "branches" "I") (List.mem_of_getElem? (i := 2) rfl)) (fun _ h9 => h9) rfl dX2_work_138 ?_
                                                        refine gi_if_le (tgt := 148) hx hb dX2_work_141 (by decide) ⟨by omega, by omega⟩ (fun c141 => ?_) (fun c141 => ?_)
                                                        · skip
                                                          refine lv_iconst (v := iI (0)) hx hb dX2_work_148 rfl ?_
                                                          refine lv_istore (lv' := [(12, .int (iI (0))), (11, .ref (ι (r0 * 8 + (7 - p0))).toNat), (10, .int (iI (4))), (9, .int (iI (tw (r0 * 8 + (7 - p0))))), (8, .int (iI (7 - p0))), (7, .int (iI (1))), (6, .int (iI (0 + (0 + 1)))), (0, .ref (d 0)), (1, .int (iI (2))), (2, .int (iI (r0))), (3, .int (iI (p0))), (4, .int (iI (i0))), (5, .int (iI (0)))]) hx hb dX2_work_149 hl (by decide) rfl (fun ls hl => ?_)
                                                          refine lv_iload hx hb dX2_work_151 (lv_at hl 0 rfl) ?_
                                                          refine gi_if_eq (tgt := 309) hx hb dX2_work_153 (by decide) ⟨by decide, by decide⟩ (fun c153 => ?_) (fun c153 => ?_)
                                                          · skip
                                                            have ha2 : grA (xGraft σ (r0 * 8 + p0) i0) (r0 * 8 + (7 - p0)) i0 = 0 := bI_f (by omega)
                                                            have e8 : (xGraft σ (r0 * 8 + p0) i0) = (xGraft (xGraft σ (r0 * 8 + p0) i0) (r0 * 8 + (7 - p0)) i0) := (xGraft_n (by omega)).symm
                                                            rw [e8] at hP hD
                                                            have hP : va_P D vwCl (SW cI cT cU d (xGraft (xGraft σ (r0 * 8 + p0) i0) (r0 * 8 + (7 - p0)) i0) ι) H := hP
                                                            have hD : va_D A (SW cI cT cU d (xGraft (xGraft σ (r0 * 8 + p0) i0) (r0 * 8 + (7 - p0)) i0) ι) := hD
                                                            refine lv_iinc (v := iI (2)) (lv' := [(7, .int (iI (2))), (12, .int (iI (0))), (11, .ref (ι (r0 * 8 + (7 - p0))).toNat), (10, .int (iI (4))), (9, .int (iI (tw (r0 * 8 + (7 - p0))))), (8, .int (iI (7 - p0))), (6, .int (iI (0 + (0 + 1)))), (0, .ref (d 0)), (1, .int (iI (2))), (2, .int (iI (r0))), (3, .int (iI (p0))), (4, .int (iI (i0))), (5, .int (iI (0)))]) hx hb dX2_work_309 hl (k := 5) rfl rfl (by decide) rfl (fun ls hl => ?_)
                                                            refine lv_goto (tgt := 6) hx hb dX2_work_312 (by decide) ?_
                                                            refine lv_iload hx hb dX2_work_6 (lv_at hl 0 rfl) ?_
                                                            refine lv_iconst (v := iI (2)) hx hb dX2_work_8 rfl ?_
                                                            refine gi_icmp_ge (tgt := 315) hx hb dX2_work_9 (by decide) ⟨by decide, by decide⟩ ⟨by decide, by decide⟩ (fun c9 => ?_) (fun c9 => ?_)
                                                            · skip
                                                              refine lv_iload hx hb dX2_work_315 (lv_at hl 6 rfl) ?_
                                                              have ess : (xGraft (xGraft σ (r0 * 8 + p0) i0) (mir (r0 * 8 + p0)) i0) = (xGraft (xGraft σ (r0 * 8 + p0) i0) (r0 * 8 + (7 - p0)) i0) := by rw [em]
                                                              have hP : va_P D vwCl (SW cI cT cU d (xGraft (xGraft σ (r0 * 8 + p0) i0) (mir (r0 * 8 + p0)) i0) ι) H := by rw [ess]; exact hP
                                                              have hD : va_D A (SW cI cT cU d (xGraft (xGraft σ (r0 * 8 + p0) i0) (mir (r0 * 8 + p0)) i0) ι) := by rw [ess]; exact hD
                                                              have er : ((who (grA σ (r0 * 8 + p0) i0) (grA (xGraft σ (r0 * 8 + p0) i0) (mir (r0 * 8 + p0)) i0) : Int)) = (0 + (0 + 1)) := by rw [em, ha1, ha2]; decide
                                                              exact g_iret (wo := (fun κ' => SW cI cT cU d (xGraft (xGraft σ (r0 * 8 + p0) i0) (mir (r0 * 8 + p0)) i0) (κ' 2))) (kr := (fun κ' => True)) (rv := (fun _ => some (.int (iI (who (grA σ (r0 * 8 + p0) i0) (grA (xGraft σ (r0 * 8 + p0) i0) (mir (r0 * 8 + p0)) i0)))))) hx hb hr hlocks (fun _ => ι) rfl hP hK hD hS trivial (by rw [er]) (Nat.le_of_ble_eq_true rfl) (Nat.le_of_ble_eq_true rfl) dX2_work_317
                                                            · skip
                                                              omega
                                                          · skip
                                                            exact absurd rfl c153
                                                        · skip
                                                          refine lv_iconst (v := iI (1)) hx hb dX2_work_144 rfl ?_
                                                          refine lv_goto (tgt := 149) hx hb dX2_work_145 (by decide) ?_
                                                          refine lv_istore (lv' := [(12, .int (iI (1))), (11, .ref (ι (r0 * 8 + (7 - p0))).toNat), (10, .int (iI (4))), (9, .int (iI (tw (r0 * 8 + (7 - p0))))), (8, .int (iI (7 - p0))), (7, .int (iI (1))), (6, .int (iI (0 + (0 + 1)))), (0, .ref (d 0)), (1, .int (iI (2))), (2, .int (iI (r0))), (3, .int (iI (p0))), (4, .int (iI (i0))), (5, .int (iI (0)))]) hx hb dX2_work_149 hl (by decide) rfl (fun ls hl => ?_)
                                                          refine lv_iload hx hb dX2_work_151 (lv_at hl 0 rfl) ?_
                                                          refine gi_if_eq (tgt := 309) hx hb dX2_work_153 (by decide) ⟨by decide, by decide⟩ (fun c153 => ?_) (fun c153 => ?_)
                                                          · skip
                                                            exact absurd c153 (by decide)
                                                          · skip
                                                            refine lv_aload_n hx hb dX2_work_156 rfl (lv_at hl 7 rfl) ?_
                                                            refine va_get (D := D) (ci := 2) (v := .ref (d 6)) (C := RX2) (T := TX2) (N := 8) hx hb hts hinX2 hown hK hP 0 rfl rfl 5 (by decide) (hts (.fieldLink RX2 27 "TwinOrchardLaw$Sim" "strength" "[I") (List.mem_of_getElem? (i := 4) rfl)) (fun _ h9 => h9) rfl dX2_work_157 ?_
                                                            refine lv_iload hx hb dX2_work_160 (lv_at hl 3 rfl) ?_
                                                            refine gi_iald (a := d 6) (n := 2) (f := (xGraft σ (r0 * 8 + p0) i0) 8) hx hb hK hP 6 0 rfl rfl (by omega) (by omega) (by decide) dX2_work_162 ?_
                                                            refine lv_iload hx hb dX2_work_163 (lv_at hl 2 rfl) ?_
                                                            refine gi_icmp_ge (tgt := 171) hx hb dX2_work_165 (by decide) ⟨by omega, by omega⟩ ⟨by decide, by decide⟩ (fun c165 => ?_) (fun c165 => ?_)
                                                            · skip
                                                              refine lv_aload_n hx hb dX2_work_171 rfl (lv_at hl 7 rfl) ?_
                                                              refine va_get (D := D) (ci := 2) (v := .ref (d 6)) (C := RX2) (T := TX2) (N := 8) hx hb hts hinX2 hown hK hP 0 rfl rfl 5 (by decide) (hts (.fieldLink RX2 27 "TwinOrchardLaw$Sim" "strength" "[I") (List.mem_of_getElem? (i := 4) rfl)) (fun _ h9 => h9) rfl dX2_work_172 ?_
                                                              refine lv_iload hx hb dX2_work_175 (lv_at hl 3 rfl) ?_
                                                              refine lv_dup2_11 hx hb dX2_work_177 rfl rfl ?_
                                                              refine gi_iald (a := d 6) (n := 2) (f := (xGraft σ (r0 * 8 + p0) i0) 8) hx hb hK hP 6 0 rfl rfl (by omega) (by omega) (by decide) dX2_work_178 ?_
                                                              refine lv_iload hx hb dX2_work_179 (lv_at hl 2 rfl) ?_
                                                              refine gi_sub hx hb dX2_work_181 ?_
                                                              refine gi_iast (a := d 6) (n := 2) (f := (xGraft σ (r0 * 8 + p0) i0) 8) hx hb hK hP hD hS 6 0 rfl rfl (by omega) (by omega) (by decide) dX2_work_182 (fun H locs hP hD hS => ?_)
                                                              have hP : va_P D vwCl (SW cI cT cU d (su (xGraft σ (r0 * 8 + p0) i0) 8 (tw (r0 * 8 + (7 - p0))) (((xGraft σ (r0 * 8 + p0) i0) 8 (tw (r0 * 8 + (7 - p0)))) - 4)) ι) H := hP
                                                              have hD : va_D A (SW cI cT cU d (su (xGraft σ (r0 * 8 + p0) i0) 8 (tw (r0 * 8 + (7 - p0))) (((xGraft σ (r0 * 8 + p0) i0) 8 (tw (r0 * 8 + (7 - p0)))) - 4)) ι) := hD
                                                              refine lv_iload hx hb dX2_work_183 (lv_at hl 6 rfl) ?_
                                                              refine lv_iload hx hb dX2_work_185 (lv_at hl 5 rfl) ?_
                                                              refine lv_iconst (v := iI (1)) hx hb dX2_work_187 rfl ?_
                                                              refine gi_add hx hb dX2_work_188 ?_
                                                              refine gi_add hx hb dX2_work_189 ?_
                                                              refine lv_istore (lv' := [(6, .int (iI ((0 + (0 + 1)) + (1 + 1)))), (12, .int (iI (1))), (11, .ref (ι (r0 * 8 + (7 - p0))).toNat), (10, .int (iI (4))), (9, .int (iI (tw (r0 * 8 + (7 - p0))))), (8, .int (iI (7 - p0))), (7, .int (iI (1))), (0, .ref (d 0)), (1, .int (iI (2))), (2, .int (iI (r0))), (3, .int (iI (p0))), (4, .int (iI (i0))), (5, .int (iI (0)))]) hx hb dX2_work_190 hl (by decide) rfl (fun ls hl => ?_)
                                                              refine lv_iload_n hx hb dX2_work_192 rfl (lv_at hl 8 rfl) ?_
                                                              refine gi_if_ne (tgt := 233) hx hb dX2_work_193 (by decide) ⟨by decide, by decide⟩ (fun c193 => ?_) (fun c193 => ?_)
                                                              · skip
                                                                refine lv_iload_n hx hb dX2_work_233 rfl (lv_at hl 8 rfl) ?_
                                                                refine lv_iconst (v := iI (1)) hx hb dX2_work_234 rfl ?_
                                                                refine gi_icmp_ne (tgt := 259) hx hb dX2_work_235 (by decide) ⟨by decide, by decide⟩ ⟨by decide, by decide⟩ (fun c235 => ?_) (fun c235 => ?_)
                                                                · skip
                                                                  refine lv_iload_n hx hb dX2_work_259 rfl (lv_at hl 8 rfl) ?_
                                                                  refine lv_iconst (v := iI (2)) hx hb dX2_work_260 rfl ?_
                                                                  refine gi_icmp_ne (tgt := 299) hx hb dX2_work_261 (by decide) ⟨by decide, by decide⟩ ⟨by decide, by decide⟩ (fun c261 => ?_) (fun c261 => ?_)
                                                                  · skip
                                                                    exact absurd rfl c261
                                                                  · skip
                                                                    refine lv_aload hx hb dX2_work_264 (lv_at hl 2 rfl) ?_
                                                                    refine lv_iload hx hb dX2_work_266 (lv_at hl 11 rfl) ?_
                                                                    refine va_put (D := D) (ci := 3) (v := .int (iI (i0))) (ty := .int) (C := RX3) (T := TX3) (N := 4) hx hb hts hinX3 tyX3 tyX3_ok nmX3 hown hK hP hD hS (spos (su (xGraft σ (r0 * 8 + p0) i0) 8 (tw (r0 * 8 + (7 - p0))) (((xGraft σ (r0 * 8 + p0) i0) 8 (tw (r0 * 8 + (7 - p0)))) - 4)) ι (r0 * 8 + (7 - p0))) (sw_at ct78 (by omega) (by omega)) rfl 2 (by decide) (hts (.fieldLink RX2 44 "TwinOrchardLaw$Tree" "sort" "I") (List.mem_of_getElem? (i := 3) rfl)) (fun _ h9 => h9) rfl (by decide +kernel) rfl rfl (Nat.le_of_ble_eq_true rfl) dX2_work_268 (fun H locs hP hD hS => ?_)
                                                                    have hP : va_P D vwCl (SW cI cT cU d (su (su (xGraft σ (r0 * 8 + p0) i0) 8 (tw (r0 * 8 + (7 - p0))) (((xGraft σ (r0 * 8 + p0) i0) 8 (tw (r0 * 8 + (7 - p0)))) - 4)) 4 (r0 * 8 + (7 - p0)) (i0)) ι) H := va_Pe (sw_put4 (cI := cI) (cT := cT) (cU := cU) (d := d) (σ := su (xGraft σ (r0 * 8 + p0) i0) 8 (tw (r0 * 8 + (7 - p0))) (((xGraft σ (r0 * 8 + p0) i0) 8 (tw (r0 * 8 + (7 - p0)))) - 4)) (ι := ι) (k := r0 * 8 + (7 - p0)) (v := i0) (by omega) ct78 (by omega) (by omega)) hP
                                                                    have hD : va_D A (SW cI cT cU d (su (su (xGraft σ (r0 * 8 + p0) i0) 8 (tw (r0 * 8 + (7 - p0))) (((xGraft σ (r0 * 8 + p0) i0) 8 (tw (r0 * 8 + (7 - p0)))) - 4)) 4 (r0 * 8 + (7 - p0)) (i0)) ι) := va_De (sw_put4 (cI := cI) (cT := cT) (cU := cU) (d := d) (σ := su (xGraft σ (r0 * 8 + p0) i0) 8 (tw (r0 * 8 + (7 - p0))) (((xGraft σ (r0 * 8 + p0) i0) 8 (tw (r0 * 8 + (7 - p0)))) - 4)) (ι := ι) (k := r0 * 8 + (7 - p0)) (v := i0) (by omega) ct78 (by omega) (by omega)) hD
                                                                    have ct268 : ¬ (su (su (xGraft σ (r0 * 8 + p0) i0) 8 (tw (r0 * 8 + (7 - p0))) (((xGraft σ (r0 * 8 + p0) i0) 8 (tw (r0 * 8 + (7 - p0)))) - 4)) 4 (r0 * 8 + (7 - p0)) (i0)) 4 (r0 * 8 + (7 - p0)) = -1 := by show ¬ fu _ _ _ _ = -1; rw [fu_s]; omega
                                                                    refine lv_aload hx hb dX2_work_271 (lv_at hl 2 rfl) ?_
                                                                    refine lv_aload hx hb dX2_work_273 (lv_at hl 2 rfl) ?_
                                                                    refine va_get (D := D) (ci := 3) (v := .int (iI ((su (su (xGraft σ (r0 * 8 + p0) i0) 8 (tw (r0 * 8 + (7 - p0))) (((xGraft σ (r0 * 8 + p0) i0) 8 (tw (r0 * 8 + (7 - p0)))) - 4)) 4 (r0 * 8 + (7 - p0)) (i0)) 5 (r0 * 8 + (7 - p0))))) (C := RX3) (T := TX3) (N := 4) hx hb hts hinX3 hown hK hP (spos (su (su (xGraft σ (r0 * 8 + p0) i0) 8 (tw (r0 * 8 + (7 - p0))) (((xGraft σ (r0 * 8 + p0) i0) 8 (tw (r0 * 8 + (7 - p0)))) - 4)) 4 (r0 * 8 + (7 - p0)) (i0)) ι (r0 * 8 + (7 - p0))) (sw_at ct268 (by omega) (by omega)) rfl 0 (by decide) (hts (.fieldLink RX2 41 "TwinOrchardLaw$Tree" "branches" "I") (List.mem_of_getElem? (i := 2) rfl)) (fun _ h9 => h9) rfl dX2_work_275 ?_
                                                                    rw [show ((su (su (xGraft σ (r0 * 8 + p0) i0) 8 (tw (r0 * 8 + (7 - p0))) (((xGraft σ (r0 * 8 + p0) i0) 8 (tw (r0 * 8 + (7 - p0)))) - 4)) 4 (r0 * 8 + (7 - p0)) (i0)) 5 (r0 * 8 + (7 - p0))) = ((xGraft σ (r0 * 8 + p0) i0) 5 (r0 * 8 + (7 - p0))) from by rfl]
                                                                    refine lv_iconst (v := iI (1)) hx hb dX2_work_278 rfl ?_
                                                                    refine gi_icmp_le (tgt := 292) hx hb dX2_work_279 (by decide) ⟨by omega, by omega⟩ ⟨by decide, by decide⟩ (fun c279 => ?_) (fun c279 => ?_)
                                                                    · skip
                                                                      refine lv_iconst (v := iI (1)) hx hb dX2_work_292 rfl ?_
                                                                      refine va_put (D := D) (ci := 3) (v := .int (iI (1))) (ty := .int) (C := RX3) (T := TX3) (N := 4) hx hb hts hinX3 tyX3 tyX3_ok nmX3 hown hK hP hD hS (spos (su (su (xGraft σ (r0 * 8 + p0) i0) 8 (tw (r0 * 8 + (7 - p0))) (((xGraft σ (r0 * 8 + p0) i0) 8 (tw (r0 * 8 + (7 - p0)))) - 4)) 4 (r0 * 8 + (7 - p0)) (i0)) ι (r0 * 8 + (7 - p0))) (sw_at ct268 (by omega) (by omega)) rfl 0 (by decide) (hts (.fieldLink RX2 41 "TwinOrchardLaw$Tree" "branches" "I") (List.mem_of_getElem? (i := 2) rfl)) (fun _ h9 => h9) rfl (by decide +kernel) rfl rfl (Nat.le_of_ble_eq_true rfl) dX2_work_293 (fun H locs hP hD hS => ?_)
                                                                      have hP : va_P D vwCl (SW cI cT cU d (su (su (su (xGraft σ (r0 * 8 + p0) i0) 8 (tw (r0 * 8 + (7 - p0))) (((xGraft σ (r0 * 8 + p0) i0) 8 (tw (r0 * 8 + (7 - p0)))) - 4)) 4 (r0 * 8 + (7 - p0)) (i0)) 5 (r0 * 8 + (7 - p0)) (1)) ι) H := va_Pe (sw_put5 (cI := cI) (cT := cT) (cU := cU) (d := d) (σ := su (su (xGraft σ (r0 * 8 + p0) i0) 8 (tw (r0 * 8 + (7 - p0))) (((xGraft σ (r0 * 8 + p0) i0) 8 (tw (r0 * 8 + (7 - p0)))) - 4)) 4 (r0 * 8 + (7 - p0)) (i0)) (ι := ι) (k := r0 * 8 + (7 - p0)) (v := 1) ct268 (by omega) (by omega)) hP
                                                                      have hD : va_D A (SW cI cT cU d (su (su (su (xGraft σ (r0 * 8 + p0) i0) 8 (tw (r0 * 8 + (7 - p0))) (((xGraft σ (r0 * 8 + p0) i0) 8 (tw (r0 * 8 + (7 - p0)))) - 4)) 4 (r0 * 8 + (7 - p0)) (i0)) 5 (r0 * 8 + (7 - p0)) (1)) ι) := va_De (sw_put5 (cI := cI) (cT := cT) (cU := cU) (d := d) (σ := su (su (xGraft σ (r0 * 8 + p0) i0) 8 (tw (r0 * 8 + (7 - p0))) (((xGraft σ (r0 * 8 + p0) i0) 8 (tw (r0 * 8 + (7 - p0)))) - 4)) 4 (r0 * 8 + (7 - p0)) (i0)) (ι := ι) (k := r0 * 8 + (7 - p0)) (v := 1) ct268 (by omega) (by omega)) hD
                                                                      refine lv_goto (tgt := 309) hx hb dX2_work_296 (by decide) ?_
                                                                      have ha2 : grA (xGraft σ (r0 * 8 + p0) i0) (r0 * 8 + (7 - p0)) i0 = 1 := bI_t (by omega)
                                                                      have e8 : (su (su (su (xGraft σ (r0 * 8 + p0) i0) 8 (tw (r0 * 8 + (7 - p0))) (((xGraft σ (r0 * 8 + p0) i0) 8 (tw (r0 * 8 + (7 - p0)))) - 4)) 4 (r0 * 8 + (7 - p0)) (i0)) 5 (r0 * 8 + (7 - p0)) (1)) = (xGraft (xGraft σ (r0 * 8 + p0) i0) (r0 * 8 + (7 - p0)) i0) := (xGraft_y (by omega) (by omega)).symm
                                                                      rw [e8] at hP hD
                                                                      have hP : va_P D vwCl (SW cI cT cU d (xGraft (xGraft σ (r0 * 8 + p0) i0) (r0 * 8 + (7 - p0)) i0) ι) H := hP
                                                                      have hD : va_D A (SW cI cT cU d (xGraft (xGraft σ (r0 * 8 + p0) i0) (r0 * 8 + (7 - p0)) i0) ι) := hD
                                                                      refine lv_iinc (v := iI (2)) (lv' := [(7, .int (iI (2))), (6, .int (iI ((0 + (0 + 1)) + (1 + 1)))), (12, .int (iI (1))), (11, .ref (ι (r0 * 8 + (7 - p0))).toNat), (10, .int (iI (4))), (9, .int (iI (tw (r0 * 8 + (7 - p0))))), (8, .int (iI (7 - p0))), (0, .ref (d 0)), (1, .int (iI (2))), (2, .int (iI (r0))), (3, .int (iI (p0))), (4, .int (iI (i0))), (5, .int (iI (0)))]) hx hb dX2_work_309 hl (k := 6) rfl rfl (by decide) rfl (fun ls hl => ?_)
                                                                      refine lv_goto (tgt := 6) hx hb dX2_work_312 (by decide) ?_
                                                                      refine lv_iload hx hb dX2_work_6 (lv_at hl 0 rfl) ?_
                                                                      refine lv_iconst (v := iI (2)) hx hb dX2_work_8 rfl ?_
                                                                      refine gi_icmp_ge (tgt := 315) hx hb dX2_work_9 (by decide) ⟨by decide, by decide⟩ ⟨by decide, by decide⟩ (fun c9 => ?_) (fun c9 => ?_)
                                                                      · skip
                                                                        refine lv_iload hx hb dX2_work_315 (lv_at hl 1 rfl) ?_
                                                                        have ess : (xGraft (xGraft σ (r0 * 8 + p0) i0) (mir (r0 * 8 + p0)) i0) = (xGraft (xGraft σ (r0 * 8 + p0) i0) (r0 * 8 + (7 - p0)) i0) := by rw [em]
                                                                        have hP : va_P D vwCl (SW cI cT cU d (xGraft (xGraft σ (r0 * 8 + p0) i0) (mir (r0 * 8 + p0)) i0) ι) H := by rw [ess]; exact hP
                                                                        have hD : va_D A (SW cI cT cU d (xGraft (xGraft σ (r0 * 8 + p0) i0) (mir (r0 * 8 + p0)) i0) ι) := by rw [ess]; exact hD
                                                                        have er : ((who (grA σ (r0 * 8 + p0) i0) (grA (xGraft σ (r0 * 8 + p0) i0) (mir (r0 * 8 + p0)) i0) : Int)) = ((0 + (0 + 1)) + (1 + 1)) := by rw [em, ha1, ha2]; decide
                                                                        exact g_iret (wo := (fun κ' => SW cI cT cU d (xGraft (xGraft σ (r0 * 8 + p0) i0) (mir (r0 * 8 + p0)) i0) (κ' 2))) (kr := (fun κ' => True)) (rv := (fun _ => some (.int (iI (who (grA σ (r0 * 8 + p0) i0) (grA (xGraft σ (r0 * 8 + p0) i0) (mir (r0 * 8 + p0)) i0)))))) hx hb hr hlocks (fun _ => ι) rfl hP hK hD hS trivial (by rw [er]) (Nat.le_of_ble_eq_true rfl) (Nat.le_of_ble_eq_true rfl) dX2_work_317
                                                                      · skip
                                                                        omega
                                                                    · skip
                                                                      refine lv_aload hx hb dX2_work_282 (lv_at hl 2 rfl) ?_
                                                                      refine va_get (D := D) (ci := 3) (v := .int (iI ((su (su (xGraft σ (r0 * 8 + p0) i0) 8 (tw (r0 * 8 + (7 - p0))) (((xGraft σ (r0 * 8 + p0) i0) 8 (tw (r0 * 8 + (7 - p0)))) - 4)) 4 (r0 * 8 + (7 - p0)) (i0)) 5 (r0 * 8 + (7 - p0))))) (C := RX3) (T := TX3) (N := 4) hx hb hts hinX3 hown hK hP (spos (su (su (xGraft σ (r0 * 8 + p0) i0) 8 (tw (r0 * 8 + (7 - p0))) (((xGraft σ (r0 * 8 + p0) i0) 8 (tw (r0 * 8 + (7 - p0)))) - 4)) 4 (r0 * 8 + (7 - p0)) (i0)) ι (r0 * 8 + (7 - p0))) (sw_at ct268 (by omega) (by omega)) rfl 0 (by decide) (hts (.fieldLink RX2 41 "TwinOrchardLaw$Tree" "branches" "I") (List.mem_of_getElem? (i := 2) rfl)) (fun _ h9 => h9) rfl dX2_work_284 ?_
                                                                      rw [show ((su (su (xGraft σ (r0 * 8 + p0) i0) 8 (tw (r0 * 8 + (7 - p0))) (((xGraft σ (r0 * 8 + p0) i0) 8 (tw (r0 * 8 + (7 - p0)))) - 4)) 4 (r0 * 8 + (7 - p0)) (i0)) 5 (r0 * 8 + (7 - p0))) = ((xGraft σ (r0 * 8 + p0) i0) 5 (r0 * 8 + (7 - p0))) from by rfl]
                                                                      refine lv_iconst (v := iI (2)) hx hb dX2_work_287 rfl ?_
                                                                      refine gi_div hx hb ⟨by omega, by omega⟩ ⟨by omega, by omega⟩ dX2_work_288 ?_
                                                                      refine lv_goto (tgt := 293) hx hb dX2_work_289 (by decide) ?_
                                                                      refine va_put (D := D) (ci := 3) (v := .int (iI (((xGraft σ (r0 * 8 + p0) i0) 5 (r0 * 8 + (7 - p0))) / 2))) (ty := .int) (C := RX3) (T := TX3) (N := 4) hx hb hts hinX3 tyX3 tyX3_ok nmX3 hown hK hP hD hS (spos (su (su (xGraft σ (r0 * 8 + p0) i0) 8 (tw (r0 * 8 + (7 - p0))) (((xGraft σ (r0 * 8 + p0) i0) 8 (tw (r0 * 8 + (7 - p0)))) - 4)) 4 (r0 * 8 + (7 - p0)) (i0)) ι (r0 * 8 + (7 - p0))) (sw_at ct268 (by omega) (by omega)) rfl 0 (by decide) (hts (.fieldLink RX2 41 "TwinOrchardLaw$Tree" "branches" "I") (List.mem_of_getElem? (i := 2) rfl)) (fun _ h9 => h9) rfl (by decide +kernel) rfl rfl (Nat.le_of_ble_eq_true rfl) dX2_work_293 (fun H locs hP hD hS => ?_)
                                                                      have hP : va_P D vwCl (SW cI cT cU d (su (su (su (xGraft σ (r0 * 8 + p0) i0) 8 (tw (r0 * 8 + (7 - p0))) (((xGraft σ (r0 * 8 + p0) i0) 8 (tw (r0 * 8 + (7 - p0)))) - 4)) 4 (r0 * 8 + (7 - p0)) (i0)) 5 (r0 * 8 + (7 - p0)) (((xGraft σ (r0 * 8 + p0) i0) 5 (r0 * 8 + (7 - p0))) / 2)) ι) H := va_Pe (sw_put5 (cI := cI) (cT := cT) (cU := cU) (d := d) (σ := su (su (xGraft σ (r0 * 8 + p0) i0) 8 (tw (r0 * 8 + (7 - p0))) (((xGraft σ (r0 * 8 + p0) i0) 8 (tw (r0 * 8 + (7 - p0)))) - 4)) 4 (r0 * 8 + (7 - p0)) (i0)) (ι := ι) (k := r0 * 8 + (7 - p0)) (v := ((xGraft σ (r0 * 8 + p0) i0) 5 (r0 * 8 + (7 - p0))) / 2) ct268 (by omega) (by omega)) hP
                                                                      have hD : va_D A (SW cI cT cU d (su (su (su (xGraft σ (r0 * 8 + p0) i0) 8 (tw (r0 * 8 + (7 - p0))) (((xGraft σ (r0 * 8 + p0) i0) 8 (tw (r0 * 8 + (7 - p0)))) - 4)) 4 (r0 * 8 + (7 - p0)) (i0)) 5 (r0 * 8 + (7 - p0)) (((xGraft σ (r0 * 8 + p0) i0) 5 (r0 * 8 + (7 - p0))) / 2)) ι) := va_De (sw_put5 (cI := cI) (cT := cT) (cU := cU) (d := d) (σ := su (su (xGraft σ (r0 * 8 + p0) i0) 8 (tw (r0 * 8 + (7 - p0))) (((xGraft σ (r0 * 8 + p0) i0) 8 (tw (r0 * 8 + (7 - p0)))) - 4)) 4 (r0 * 8 + (7 - p0)) (i0)) (ι := ι) (k := r0 * 8 + (7 - p0)) (v := ((xGraft σ (r0 * 8 + p0) i0) 5 (r0 * 8 + (7 - p0))) / 2) ct268 (by omega) (by omega)) hD
                                                                      refine lv_goto (tgt := 309) hx hb dX2_work_296 (by decide) ?_
                                                                      have ha2 : grA (xGraft σ (r0 * 8 + p0) i0) (r0 * 8 + (7 - p0)) i0 = 1 := bI_t (by omega)
                                                                      have e8 : (su (su (su (xGraft σ (r0 * 8 + p0) i0) 8 (tw (r0 * 8 + (7 - p0))) (((xGraft σ (r0 * 8 + p0) i0) 8 (tw (r0 * 8 + (7 - p0)))) - 4)) 4 (r0 * 8 + (7 - p0)) (i0)) 5 (r0 * 8 + (7 - p0)) (((xGraft σ (r0 * 8 + p0) i0) 5 (r0 * 8 + (7 - p0))) / 2)) = (xGraft (xGraft σ (r0 * 8 + p0) i0) (r0 * 8 + (7 - p0)) i0) := (xGraft_y (by omega) (by omega)).symm
                                                                      rw [e8] at hP hD
                                                                      have hP : va_P D vwCl (SW cI cT cU d (xGraft (xGraft σ (r0 * 8 + p0) i0) (r0 * 8 + (7 - p0)) i0) ι) H := hP
                                                                      have hD : va_D A (SW cI cT cU d (xGraft (xGraft σ (r0 * 8 + p0) i0) (r0 * 8 + (7 - p0)) i0) ι) := hD
                                                                      refine lv_iinc (v := iI (2)) (lv' := [(7, .int (iI (2))), (6, .int (iI ((0 + (0 + 1)) + (1 + 1)))), (12, .int (iI (1))), (11, .ref (ι (r0 * 8 + (7 - p0))).toNat), (10, .int (iI (4))), (9, .int (iI (tw (r0 * 8 + (7 - p0))))), (8, .int (iI (7 - p0))), (0, .ref (d 0)), (1, .int (iI (2))), (2, .int (iI (r0))), (3, .int (iI (p0))), (4, .int (iI (i0))), (5, .int (iI (0)))]) hx hb dX2_work_309 hl (k := 6) rfl rfl (by decide) rfl (fun ls hl => ?_)
                                                                      refine lv_goto (tgt := 6) hx hb dX2_work_312 (by decide) ?_
                                                                      refine lv_iload hx hb dX2_work_6 (lv_at hl 0 rfl) ?_
                                                                      refine lv_iconst (v := iI (2)) hx hb dX2_work_8 rfl ?_
                                                                      refine gi_icmp_ge (tgt := 315) hx hb dX2_work_9 (by decide) ⟨by decide, by decide⟩ ⟨by decide, by decide⟩ (fun c9 => ?_) (fun c9 => ?_)
                                                                      · skip
                                                                        refine lv_iload hx hb dX2_work_315 (lv_at hl 1 rfl) ?_
                                                                        have ess : (xGraft (xGraft σ (r0 * 8 + p0) i0) (mir (r0 * 8 + p0)) i0) = (xGraft (xGraft σ (r0 * 8 + p0) i0) (r0 * 8 + (7 - p0)) i0) := by rw [em]
                                                                        have hP : va_P D vwCl (SW cI cT cU d (xGraft (xGraft σ (r0 * 8 + p0) i0) (mir (r0 * 8 + p0)) i0) ι) H := by rw [ess]; exact hP
                                                                        have hD : va_D A (SW cI cT cU d (xGraft (xGraft σ (r0 * 8 + p0) i0) (mir (r0 * 8 + p0)) i0) ι) := by rw [ess]; exact hD
                                                                        have er : ((who (grA σ (r0 * 8 + p0) i0) (grA (xGraft σ (r0 * 8 + p0) i0) (mir (r0 * 8 + p0)) i0) : Int)) = ((0 + (0 + 1)) + (1 + 1)) := by rw [em, ha1, ha2]; decide
                                                                        exact g_iret (wo := (fun κ' => SW cI cT cU d (xGraft (xGraft σ (r0 * 8 + p0) i0) (mir (r0 * 8 + p0)) i0) (κ' 2))) (kr := (fun κ' => True)) (rv := (fun _ => some (.int (iI (who (grA σ (r0 * 8 + p0) i0) (grA (xGraft σ (r0 * 8 + p0) i0) (mir (r0 * 8 + p0)) i0)))))) hx hb hr hlocks (fun _ => ι) rfl hP hK hD hS trivial (by rw [er]) (Nat.le_of_ble_eq_true rfl) (Nat.le_of_ble_eq_true rfl) dX2_work_317
                                                                      · skip
                                                                        omega
                                                                · skip
                                                                  exact absurd c235 (by decide)
                                                              · skip
                                                                exact absurd c193 (by decide)
                                                            · skip
                                                              refine lv_goto (tgt := 309) hx hb dX2_work_168 (by decide) ?_
                                                              have ha2 : grA (xGraft σ (r0 * 8 + p0) i0) (r0 * 8 + (7 - p0)) i0 = 0 := bI_f (by omega)
                                                              have e8 : (xGraft σ (r0 * 8 + p0) i0) = (xGraft (xGraft σ (r0 * 8 + p0) i0) (r0 * 8 + (7 - p0)) i0) := (xGraft_n (by omega)).symm
                                                              rw [e8] at hP hD
                                                              have hP : va_P D vwCl (SW cI cT cU d (xGraft (xGraft σ (r0 * 8 + p0) i0) (r0 * 8 + (7 - p0)) i0) ι) H := hP
                                                              have hD : va_D A (SW cI cT cU d (xGraft (xGraft σ (r0 * 8 + p0) i0) (r0 * 8 + (7 - p0)) i0) ι) := hD
                                                              refine lv_iinc (v := iI (2)) (lv' := [(7, .int (iI (2))), (12, .int (iI (1))), (11, .ref (ι (r0 * 8 + (7 - p0))).toNat), (10, .int (iI (4))), (9, .int (iI (tw (r0 * 8 + (7 - p0))))), (8, .int (iI (7 - p0))), (6, .int (iI (0 + (0 + 1)))), (0, .ref (d 0)), (1, .int (iI (2))), (2, .int (iI (r0))), (3, .int (iI (p0))), (4, .int (iI (i0))), (5, .int (iI (0)))]) hx hb dX2_work_309 hl (k := 5) rfl rfl (by decide) rfl (fun ls hl => ?_)
                                                              refine lv_goto (tgt := 6) hx hb dX2_work_312 (by decide) ?_
                                                              refine lv_iload hx hb dX2_work_6 (lv_at hl 0 rfl) ?_
                                                              refine lv_iconst (v := iI (2)) hx hb dX2_work_8 rfl ?_
                                                              refine gi_icmp_ge (tgt := 315) hx hb dX2_work_9 (by decide) ⟨by decide, by decide⟩ ⟨by decide, by decide⟩ (fun c9 => ?_) (fun c9 => ?_)
                                                              · skip
                                                                refine lv_iload hx hb dX2_work_315 (lv_at hl 6 rfl) ?_
                                                                have ess : (xGraft (xGraft σ (r0 * 8 + p0) i0) (mir (r0 * 8 + p0)) i0) = (xGraft (xGraft σ (r0 * 8 + p0) i0) (r0 * 8 + (7 - p0)) i0) := by rw [em]
                                                                have hP : va_P D vwCl (SW cI cT cU d (xGraft (xGraft σ (r0 * 8 + p0) i0) (mir (r0 * 8 + p0)) i0) ι) H := by rw [ess]; exact hP
                                                                have hD : va_D A (SW cI cT cU d (xGraft (xGraft σ (r0 * 8 + p0) i0) (mir (r0 * 8 + p0)) i0) ι) := by rw [ess]; exact hD
                                                                have er : ((who (grA σ (r0 * 8 + p0) i0) (grA (xGraft σ (r0 * 8 + p0) i0) (mir (r0 * 8 + p0)) i0) : Int)) = (0 + (0 + 1)) := by rw [em, ha1, ha2]; decide
                                                                exact g_iret (wo := (fun κ' => SW cI cT cU d (xGraft (xGraft σ (r0 * 8 + p0) i0) (mir (r0 * 8 + p0)) i0) (κ' 2))) (kr := (fun κ' => True)) (rv := (fun _ => some (.int (iI (who (grA σ (r0 * 8 + p0) i0) (grA (xGraft σ (r0 * 8 + p0) i0) (mir (r0 * 8 + p0)) i0)))))) hx hb hr hlocks (fun _ => ι) rfl hP hK hD hS trivial (by rw [er]) (Nat.le_of_ble_eq_true rfl) (Nat.le_of_ble_eq_true rfl) dX2_work_317
                                                              · skip
                                                                omega
                                                  · skip
                                                    exact absurd c105 (by decide)
                                                · skip
                                                  exact absurd c82 (by decide)
                                          · skip
                                            exact absurd c50 (by decide)
                                        · skip
                                          exact absurd c41 (by decide)
                                      · skip
                                        exact absurd c14 (by decide)
                                  · skip
                                    refine lv_aload hx hb dX2_work_282 (lv_at hl 2 rfl) ?_
                                    refine va_get (D := D) (ci := 3) (v := .int (iI ((su (su σ 8 (tw (r0 * 8 + p0)) ((σ 8 (tw (r0 * 8 + p0))) - 4)) 4 (r0 * 8 + p0) (i0)) 5 (r0 * 8 + p0)))) (C := RX3) (T := TX3) (N := 4) hx hb hts hinX3 hown hK hP (spos (su (su σ 8 (tw (r0 * 8 + p0)) ((σ 8 (tw (r0 * 8 + p0))) - 4)) 4 (r0 * 8 + p0) (i0)) ι (r0 * 8 + p0)) (sw_at ct268 (by omega) (by omega)) rfl 0 (by decide) (hts (.fieldLink RX2 41 "TwinOrchardLaw$Tree" "branches" "I") (List.mem_of_getElem? (i := 2) rfl)) (fun _ h9 => h9) rfl dX2_work_284 ?_
                                    rw [show ((su (su σ 8 (tw (r0 * 8 + p0)) ((σ 8 (tw (r0 * 8 + p0))) - 4)) 4 (r0 * 8 + p0) (i0)) 5 (r0 * 8 + p0)) = (σ 5 (r0 * 8 + p0)) from by rfl]
                                    refine lv_iconst (v := iI (2)) hx hb dX2_work_287 rfl ?_
                                    refine gi_div hx hb ⟨by omega, by omega⟩ ⟨by omega, by omega⟩ dX2_work_288 ?_
                                    refine lv_goto (tgt := 293) hx hb dX2_work_289 (by decide) ?_
                                    refine va_put (D := D) (ci := 3) (v := .int (iI ((σ 5 (r0 * 8 + p0)) / 2))) (ty := .int) (C := RX3) (T := TX3) (N := 4) hx hb hts hinX3 tyX3 tyX3_ok nmX3 hown hK hP hD hS (spos (su (su σ 8 (tw (r0 * 8 + p0)) ((σ 8 (tw (r0 * 8 + p0))) - 4)) 4 (r0 * 8 + p0) (i0)) ι (r0 * 8 + p0)) (sw_at ct268 (by omega) (by omega)) rfl 0 (by decide) (hts (.fieldLink RX2 41 "TwinOrchardLaw$Tree" "branches" "I") (List.mem_of_getElem? (i := 2) rfl)) (fun _ h9 => h9) rfl (by decide +kernel) rfl rfl (Nat.le_of_ble_eq_true rfl) dX2_work_293 (fun H locs hP hD hS => ?_)
                                    have hP : va_P D vwCl (SW cI cT cU d (su (su (su σ 8 (tw (r0 * 8 + p0)) ((σ 8 (tw (r0 * 8 + p0))) - 4)) 4 (r0 * 8 + p0) (i0)) 5 (r0 * 8 + p0) ((σ 5 (r0 * 8 + p0)) / 2)) ι) H := va_Pe (sw_put5 (cI := cI) (cT := cT) (cU := cU) (d := d) (σ := su (su σ 8 (tw (r0 * 8 + p0)) ((σ 8 (tw (r0 * 8 + p0))) - 4)) 4 (r0 * 8 + p0) (i0)) (ι := ι) (k := r0 * 8 + p0) (v := (σ 5 (r0 * 8 + p0)) / 2) ct268 (by omega) (by omega)) hP
                                    have hD : va_D A (SW cI cT cU d (su (su (su σ 8 (tw (r0 * 8 + p0)) ((σ 8 (tw (r0 * 8 + p0))) - 4)) 4 (r0 * 8 + p0) (i0)) 5 (r0 * 8 + p0) ((σ 5 (r0 * 8 + p0)) / 2)) ι) := va_De (sw_put5 (cI := cI) (cT := cT) (cU := cU) (d := d) (σ := su (su σ 8 (tw (r0 * 8 + p0)) ((σ 8 (tw (r0 * 8 + p0))) - 4)) 4 (r0 * 8 + p0) (i0)) (ι := ι) (k := r0 * 8 + p0) (v := (σ 5 (r0 * 8 + p0)) / 2) ct268 (by omega) (by omega)) hD
                                    refine lv_goto (tgt := 309) hx hb dX2_work_296 (by decide) ?_
                                    have ha1 : grA σ (r0 * 8 + p0) i0 = 1 := bI_t (by omega)
                                    have e8 : (su (su (su σ 8 (tw (r0 * 8 + p0)) ((σ 8 (tw (r0 * 8 + p0))) - 4)) 4 (r0 * 8 + p0) (i0)) 5 (r0 * 8 + p0) ((σ 5 (r0 * 8 + p0)) / 2)) = (xGraft σ (r0 * 8 + p0) i0) := (xGraft_y (by omega) (by omega)).symm
                                    rw [e8] at hP hD
                                    have hP : va_P D vwCl (SW cI cT cU d (xGraft σ (r0 * 8 + p0) i0) ι) H := hP
                                    have hD : va_D A (SW cI cT cU d (xGraft σ (r0 * 8 + p0) i0) ι) := hD
                                    have hwf2 : xWF (xGraft σ (r0 * 8 + p0) i0) := xWF_graft hwf hi
                                    have k4b := xWF_4 hwf2 (r0 * 8 + (7 - p0))
                                    have k5b := xWF_5 hwf2 (r0 * 8 + (7 - p0))
                                    have k8b := xWF_8 hwf2 (tw (r0 * 8 + (7 - p0)))
                                    refine lv_iinc (v := iI (1)) (lv' := [(7, .int (iI (1))), (6, .int (iI (0 + (0 + 1)))), (12, .int (iI (1))), (11, .ref (ι (r0 * 8 + p0)).toNat), (10, .int (iI (4))), (9, .int (iI (tw (r0 * 8 + p0)))), (8, .int (iI (p0))), (0, .ref (d 0)), (1, .int (iI (2))), (2, .int (iI (r0))), (3, .int (iI (p0))), (4, .int (iI (i0))), (5, .int (iI (0)))]) hx hb dX2_work_309 hl (k := 6) rfl rfl (by decide) rfl (fun ls hl => ?_)
                                    refine lv_goto (tgt := 6) hx hb dX2_work_312 (by decide) ?_
                                    refine lv_iload hx hb dX2_work_6 (lv_at hl 0 rfl) ?_
                                    refine lv_iconst (v := iI (2)) hx hb dX2_work_8 rfl ?_
                                    refine gi_icmp_ge (tgt := 315) hx hb dX2_work_9 (by decide) ⟨by decide, by decide⟩ ⟨by decide, by decide⟩ (fun c9 => ?_) (fun c9 => ?_)
                                    · skip
                                      exact absurd c9 (by decide)
                                    · skip
                                      refine lv_iload hx hb dX2_work_12 (lv_at hl 0 rfl) ?_
                                      refine gi_if_ne (tgt := 21) hx hb dX2_work_14 (by decide) ⟨by decide, by decide⟩ (fun c14 => ?_) (fun c14 => ?_)
                                      · skip
                                        refine lv_bipush (v := iI (7)) hx hb dX2_work_21 rfl ?_
                                        refine lv_iload_n hx hb dX2_work_23 rfl (lv_at hl 10 rfl) ?_
                                        refine gi_sub hx hb dX2_work_24 ?_
                                        refine lv_istore (lv' := [(8, .int (iI (7 - p0))), (7, .int (iI (1))), (6, .int (iI (0 + (0 + 1)))), (12, .int (iI (1))), (11, .ref (ι (r0 * 8 + p0)).toNat), (10, .int (iI (4))), (9, .int (iI (tw (r0 * 8 + p0)))), (0, .ref (d 0)), (1, .int (iI (2))), (2, .int (iI (r0))), (3, .int (iI (p0))), (4, .int (iI (i0))), (5, .int (iI (0)))]) hx hb dX2_work_25 hl (by decide) rfl (fun ls hl => ?_)
                                        refine lv_iload hx hb dX2_work_27 (lv_at hl 0 rfl) ?_
                                        refine lv_iconst (v := iI (4)) hx hb dX2_work_29 rfl ?_
                                        refine g_selGe (u := 0) (v := 1) (t1 := 37) (t2 := 38) hx hb ⟨by omega, by omega⟩ ⟨by decide, by decide⟩ dX2_work_30 (by decide) (fun st h => lv_iconst (v := iI (0)) hx hb dX2_work_33 rfl (lv_goto (tgt := 38) hx hb dX2_work_34 (by decide) h)) (fun st h => lv_iconst (v := iI (1)) hx hb dX2_work_37 rfl h) ?_
                                        rw [show (if 7 - p0 < 4 then (0 : Int) else 1) = tw (r0 * 8 + (7 - p0)) from by unfold tw; split <;> split <;> omega]
                                        refine lv_istore (lv' := [(9, .int (iI (tw (r0 * 8 + (7 - p0))))), (8, .int (iI (7 - p0))), (7, .int (iI (1))), (6, .int (iI (0 + (0 + 1)))), (12, .int (iI (1))), (11, .ref (ι (r0 * 8 + p0)).toNat), (10, .int (iI (4))), (0, .ref (d 0)), (1, .int (iI (2))), (2, .int (iI (r0))), (3, .int (iI (p0))), (4, .int (iI (i0))), (5, .int (iI (0)))]) hx hb dX2_work_38 hl (by decide) rfl (fun ls hl => ?_)
                                        refine lv_iload_n hx hb dX2_work_40 rfl (lv_at hl 8 rfl) ?_
                                        refine gi_if_ne (tgt := 48) hx hb dX2_work_41 (by decide) ⟨by decide, by decide⟩ (fun c41 => ?_) (fun c41 => ?_)
                                        · skip
                                          refine lv_iload_n hx hb dX2_work_48 rfl (lv_at hl 8 rfl) ?_
                                          refine lv_iconst (v := iI (1)) hx hb dX2_work_49 rfl ?_
                                          refine gi_icmp_ne (tgt := 57) hx hb dX2_work_50 (by decide) ⟨by decide, by decide⟩ ⟨by decide, by decide⟩ (fun c50 => ?_) (fun c50 => ?_)
                                          · skip
                                            refine lv_iload_n hx hb dX2_work_57 rfl (lv_at hl 8 rfl) ?_
                                            refine lv_iconst (v := iI (2)) hx hb dX2_work_58 rfl ?_
                                            refine gi_icmp_ne (tgt := 66) hx hb dX2_work_59 (by decide) ⟨by decide, by decide⟩ ⟨by decide, by decide⟩ (fun c59 => ?_) (fun c59 => ?_)
                                            · skip
                                              exact absurd rfl c59
                                            · skip
                                              refine lv_iconst (v := iI (4)) hx hb dX2_work_62 rfl ?_
                                              refine lv_goto (tgt := 68) hx hb dX2_work_63 (by decide) ?_
                                              refine lv_istore (lv' := [(10, .int (iI (4))), (9, .int (iI (tw (r0 * 8 + (7 - p0))))), (8, .int (iI (7 - p0))), (7, .int (iI (1))), (6, .int (iI (0 + (0 + 1)))), (12, .int (iI (1))), (11, .ref (ι (r0 * 8 + p0)).toNat), (0, .ref (d 0)), (1, .int (iI (2))), (2, .int (iI (r0))), (3, .int (iI (p0))), (4, .int (iI (i0))), (5, .int (iI (0)))]) hx hb dX2_work_68 hl (by decide) rfl (fun ls hl => ?_)
                                              refine lv_aload_n hx hb dX2_work_70 rfl (lv_at hl 7 rfl) ?_
                                              refine va_get (D := D) (ci := 2) (v := .ref (d 1)) (C := RX2) (T := TX2) (N := 8) hx hb hts hinX2 hown hK hP 0 rfl rfl 0 (by decide) (hts (.fieldLink RX2 9 "TwinOrchardLaw$Sim" "trees" "[[LTwinOrchardLaw$Tree;") (List.mem_of_getElem? (i := 1) rfl)) (fun _ h9 => h9) rfl dX2_work_71 ?_
                                              refine lv_iload_n hx hb dX2_work_74 rfl (lv_at hl 9 rfl) ?_
                                              refine s_row (f := srt d) hx hb hK hP 1 3 rfl rfl (by omega) (by omega) (by decide) (v := d (r0.toNat + 7)) (if_pos (by omega)) dX2_work_75 ?_
                                              refine lv_iload hx hb dX2_work_76 (lv_at hl 2 rfl) ?_
                                              refine s_tree (σ := xGraft σ (r0 * 8 + p0) i0) (ι := ι) (r := r0) (i := 7 - p0) hx hb hK hP (r0.toNat + 7) 2 (sw_row (by omega) (by omega)) rfl (by omega) (by omega) dX2_work_78 (fun ct78 => ?_) (fun ct78 => ?_)
                                              · skip
                                                refine lv_astoreN (lv' := [(11, .null), (10, .int (iI (4))), (9, .int (iI (tw (r0 * 8 + (7 - p0))))), (8, .int (iI (7 - p0))), (7, .int (iI (1))), (6, .int (iI (0 + (0 + 1)))), (12, .int (iI (1))), (0, .ref (d 0)), (1, .int (iI (2))), (2, .int (iI (r0))), (3, .int (iI (p0))), (4, .int (iI (i0))), (5, .int (iI (0)))]) hx hb dX2_work_79 hl (by decide) rfl (fun ls hl => ?_)
                                                refine lv_iload_n hx hb dX2_work_81 rfl (lv_at hl 8 rfl) ?_
                                                refine gi_if_ne (tgt := 98) hx hb dX2_work_82 (by decide) ⟨by decide, by decide⟩ (fun c82 => ?_) (fun c82 => ?_)
                                                · skip
                                                  refine lv_aloadN hx hb dX2_work_98 (lv_at hl 0 rfl) ?_
                                                  refine lv_ifnullN (tgt := 148) hx hb dX2_work_100 (by decide) ?_
                                                  refine lv_iconst (v := iI (0)) hx hb dX2_work_148 rfl ?_
                                                  refine lv_istore (lv' := [(12, .int (iI (0))), (11, .null), (10, .int (iI (4))), (9, .int (iI (tw (r0 * 8 + (7 - p0))))), (8, .int (iI (7 - p0))), (7, .int (iI (1))), (6, .int (iI (0 + (0 + 1)))), (0, .ref (d 0)), (1, .int (iI (2))), (2, .int (iI (r0))), (3, .int (iI (p0))), (4, .int (iI (i0))), (5, .int (iI (0)))]) hx hb dX2_work_149 hl (by decide) rfl (fun ls hl => ?_)
                                                  refine lv_iload hx hb dX2_work_151 (lv_at hl 0 rfl) ?_
                                                  refine gi_if_eq (tgt := 309) hx hb dX2_work_153 (by decide) ⟨by decide, by decide⟩ (fun c153 => ?_) (fun c153 => ?_)
                                                  · skip
                                                    have ha2 : grA (xGraft σ (r0 * 8 + p0) i0) (r0 * 8 + (7 - p0)) i0 = 0 := bI_f (by omega)
                                                    have e8 : (xGraft σ (r0 * 8 + p0) i0) = (xGraft (xGraft σ (r0 * 8 + p0) i0) (r0 * 8 + (7 - p0)) i0) := (xGraft_n (by omega)).symm
                                                    rw [e8] at hP hD
                                                    have hP : va_P D vwCl (SW cI cT cU d (xGraft (xGraft σ (r0 * 8 + p0) i0) (r0 * 8 + (7 - p0)) i0) ι) H := hP
                                                    have hD : va_D A (SW cI cT cU d (xGraft (xGraft σ (r0 * 8 + p0) i0) (r0 * 8 + (7 - p0)) i0) ι) := hD
                                                    refine lv_iinc (v := iI (2)) (lv' := [(7, .int (iI (2))), (12, .int (iI (0))), (11, .null), (10, .int (iI (4))), (9, .int (iI (tw (r0 * 8 + (7 - p0))))), (8, .int (iI (7 - p0))), (6, .int (iI (0 + (0 + 1)))), (0, .ref (d 0)), (1, .int (iI (2))), (2, .int (iI (r0))), (3, .int (iI (p0))), (4, .int (iI (i0))), (5, .int (iI (0)))]) hx hb dX2_work_309 hl (k := 5) rfl rfl (by decide) rfl (fun ls hl => ?_)
                                                    refine lv_goto (tgt := 6) hx hb dX2_work_312 (by decide) ?_
                                                    refine lv_iload hx hb dX2_work_6 (lv_at hl 0 rfl) ?_
                                                    refine lv_iconst (v := iI (2)) hx hb dX2_work_8 rfl ?_
                                                    refine gi_icmp_ge (tgt := 315) hx hb dX2_work_9 (by decide) ⟨by decide, by decide⟩ ⟨by decide, by decide⟩ (fun c9 => ?_) (fun c9 => ?_)
                                                    · skip
                                                      refine lv_iload hx hb dX2_work_315 (lv_at hl 6 rfl) ?_
                                                      have ess : (xGraft (xGraft σ (r0 * 8 + p0) i0) (mir (r0 * 8 + p0)) i0) = (xGraft (xGraft σ (r0 * 8 + p0) i0) (r0 * 8 + (7 - p0)) i0) := by rw [em]
                                                      have hP : va_P D vwCl (SW cI cT cU d (xGraft (xGraft σ (r0 * 8 + p0) i0) (mir (r0 * 8 + p0)) i0) ι) H := by rw [ess]; exact hP
                                                      have hD : va_D A (SW cI cT cU d (xGraft (xGraft σ (r0 * 8 + p0) i0) (mir (r0 * 8 + p0)) i0) ι) := by rw [ess]; exact hD
                                                      have er : ((who (grA σ (r0 * 8 + p0) i0) (grA (xGraft σ (r0 * 8 + p0) i0) (mir (r0 * 8 + p0)) i0) : Int)) = (0 + (0 + 1)) := by rw [em, ha1, ha2]; decide
                                                      exact g_iret (wo := (fun κ' => SW cI cT cU d (xGraft (xGraft σ (r0 * 8 + p0) i0) (mir (r0 * 8 + p0)) i0) (κ' 2))) (kr := (fun κ' => True)) (rv := (fun _ => some (.int (iI (who (grA σ (r0 * 8 + p0) i0) (grA (xGraft σ (r0 * 8 + p0) i0) (mir (r0 * 8 + p0)) i0)))))) hx hb hr hlocks (fun _ => ι) rfl hP hK hD hS trivial (by rw [er]) (Nat.le_of_ble_eq_true rfl) (Nat.le_of_ble_eq_true rfl) dX2_work_317
                                                    · skip
                                                      omega
                                                  · skip
                                                    exact absurd rfl c153
                                                · skip
                                                  exact absurd c82 (by decide)
                                              · skip
                                                refine lv_astore (lv' := [(11, .ref (ι (r0 * 8 + (7 - p0))).toNat), (10, .int (iI (4))), (9, .int (iI (tw (r0 * 8 + (7 - p0))))), (8, .int (iI (7 - p0))), (7, .int (iI (1))), (6, .int (iI (0 + (0 + 1)))), (12, .int (iI (1))), (0, .ref (d 0)), (1, .int (iI (2))), (2, .int (iI (r0))), (3, .int (iI (p0))), (4, .int (iI (i0))), (5, .int (iI (0)))]) hx hb dX2_work_79 hl (by decide) rfl (fun ls hl => ?_)
                                                refine lv_iload_n hx hb dX2_work_81 rfl (lv_at hl 8 rfl) ?_
                                                refine gi_if_ne (tgt := 98) hx hb dX2_work_82 (by decide) ⟨by decide, by decide⟩ (fun c82 => ?_) (fun c82 => ?_)
                                                · skip
                                                  refine lv_aload hx hb dX2_work_98 (lv_at hl 0 rfl) ?_
                                                  refine lv_ifnull hx hb dX2_work_100 ?_
                                                  refine lv_iload_n hx hb dX2_work_103 rfl (lv_at hl 8 rfl) ?_
                                                  refine lv_iconst (v := iI (1)) hx hb dX2_work_104 rfl ?_
                                                  refine gi_icmp_ne (tgt := 121) hx hb dX2_work_105 (by decide) ⟨by decide, by decide⟩ ⟨by decide, by decide⟩ (fun c105 => ?_) (fun c105 => ?_)
                                                  · skip
                                                    refine lv_iload_n hx hb dX2_work_121 rfl (lv_at hl 8 rfl) ?_
                                                    refine lv_iconst (v := iI (2)) hx hb dX2_work_122 rfl ?_
                                                    refine gi_icmp_ne (tgt := 144) hx hb dX2_work_123 (by decide) ⟨by decide, by decide⟩ ⟨by decide, by decide⟩ (fun c123 => ?_) (fun c123 => ?_)
                                                    · skip
                                                      exact absurd rfl c123
                                                    · skip
                                                      refine lv_aload hx hb dX2_work_126 (lv_at hl 0 rfl) ?_
                                                      refine va_get (D := D) (ci := 3) (v := .int (iI ((xGraft σ (r0 * 8 + p0) i0) 4 (r0 * 8 + (7 - p0))))) (C := RX3) (T := TX3) (N := 4) hx hb hts hinX3 hown hK hP (spos (xGraft σ (r0 * 8 + p0) i0) ι (r0 * 8 + (7 - p0))) (sw_at ct78 (by omega) (by omega)) rfl 2 (by decide) (hts (.fieldLink RX2 44 "TwinOrchardLaw$Tree" "sort" "I") (List.mem_of_getElem? (i := 3) rfl)) (fun _ h9 => h9) rfl dX2_work_128 ?_
                                                      refine lv_iload hx hb dX2_work_131 (lv_at hl 11 rfl) ?_
                                                      refine gi_icmp_eq (tgt := 148) hx hb dX2_work_133 (by decide) ⟨by omega, by omega⟩ ⟨by omega, by omega⟩ (fun c133 => ?_) (fun c133 => ?_)
                                                      · skip
                                                        refine lv_iconst (v := iI (0)) hx hb dX2_work_148 rfl ?_
                                                        refine lv_istore (lv' := [(12, .int (iI (0))), (11, .ref (ι (r0 * 8 + (7 - p0))).toNat), (10, .int (iI (4))), (9, .int (iI (tw (r0 * 8 + (7 - p0))))), (8, .int (iI (7 - p0))), (7, .int (iI (1))), (6, .int (iI (0 + (0 + 1)))), (0, .ref (d 0)), (1, .int (iI (2))), (2, .int (iI (r0))), (3, .int (iI (p0))), (4, .int (iI (i0))), (5, .int (iI (0)))]) hx hb dX2_work_149 hl (by decide) rfl (fun ls hl => ?_)
                                                        refine lv_iload hx hb dX2_work_151 (lv_at hl 0 rfl) ?_
                                                        refine gi_if_eq (tgt := 309) hx hb dX2_work_153 (by decide) ⟨by decide, by decide⟩ (fun c153 => ?_) (fun c153 => ?_)
                                                        · skip
                                                          have ha2 : grA (xGraft σ (r0 * 8 + p0) i0) (r0 * 8 + (7 - p0)) i0 = 0 := bI_f (by omega)
                                                          have e8 : (xGraft σ (r0 * 8 + p0) i0) = (xGraft (xGraft σ (r0 * 8 + p0) i0) (r0 * 8 + (7 - p0)) i0) := (xGraft_n (by omega)).symm
                                                          rw [e8] at hP hD
                                                          have hP : va_P D vwCl (SW cI cT cU d (xGraft (xGraft σ (r0 * 8 + p0) i0) (r0 * 8 + (7 - p0)) i0) ι) H := hP
                                                          have hD : va_D A (SW cI cT cU d (xGraft (xGraft σ (r0 * 8 + p0) i0) (r0 * 8 + (7 - p0)) i0) ι) := hD
                                                          refine lv_iinc (v := iI (2)) (lv' := [(7, .int (iI (2))), (12, .int (iI (0))), (11, .ref (ι (r0 * 8 + (7 - p0))).toNat), (10, .int (iI (4))), (9, .int (iI (tw (r0 * 8 + (7 - p0))))), (8, .int (iI (7 - p0))), (6, .int (iI (0 + (0 + 1)))), (0, .ref (d 0)), (1, .int (iI (2))), (2, .int (iI (r0))), (3, .int (iI (p0))), (4, .int (iI (i0))), (5, .int (iI (0)))]) hx hb dX2_work_309 hl (k := 5) rfl rfl (by decide) rfl (fun ls hl => ?_)
                                                          refine lv_goto (tgt := 6) hx hb dX2_work_312 (by decide) ?_
                                                          refine lv_iload hx hb dX2_work_6 (lv_at hl 0 rfl) ?_
                                                          refine lv_iconst (v := iI (2)) hx hb dX2_work_8 rfl ?_
                                                          refine gi_icmp_ge (tgt := 315) hx hb dX2_work_9 (by decide) ⟨by decide, by decide⟩ ⟨by decide, by decide⟩ (fun c9 => ?_) (fun c9 => ?_)
                                                          · skip
                                                            refine lv_iload hx hb dX2_work_315 (lv_at hl 6 rfl) ?_
                                                            have ess : (xGraft (xGraft σ (r0 * 8 + p0) i0) (mir (r0 * 8 + p0)) i0) = (xGraft (xGraft σ (r0 * 8 + p0) i0) (r0 * 8 + (7 - p0)) i0) := by rw [em]
                                                            have hP : va_P D vwCl (SW cI cT cU d (xGraft (xGraft σ (r0 * 8 + p0) i0) (mir (r0 * 8 + p0)) i0) ι) H := by rw [ess]; exact hP
                                                            have hD : va_D A (SW cI cT cU d (xGraft (xGraft σ (r0 * 8 + p0) i0) (mir (r0 * 8 + p0)) i0) ι) := by rw [ess]; exact hD
                                                            have er : ((who (grA σ (r0 * 8 + p0) i0) (grA (xGraft σ (r0 * 8 + p0) i0) (mir (r0 * 8 + p0)) i0) : Int)) = (0 + (0 + 1)) := by rw [em, ha1, ha2]; decide
                                                            exact g_iret (wo := (fun κ' => SW cI cT cU d (xGraft (xGraft σ (r0 * 8 + p0) i0) (mir (r0 * 8 + p0)) i0) (κ' 2))) (kr := (fun κ' => True)) (rv := (fun _ => some (.int (iI (who (grA σ (r0 * 8 + p0) i0) (grA (xGraft σ (r0 * 8 + p0) i0) (mir (r0 * 8 + p0)) i0)))))) hx hb hr hlocks (fun _ => ι) rfl hP hK hD hS trivial (by rw [er]) (Nat.le_of_ble_eq_true rfl) (Nat.le_of_ble_eq_true rfl) dX2_work_317
                                                          · skip
                                                            omega
                                                        · skip
                                                          exact absurd rfl c153
                                                      · skip
                                                        refine lv_aload hx hb dX2_work_136 (lv_at hl 0 rfl) ?_
                                                        refine va_get (D := D) (ci := 3) (v := .int (iI ((xGraft σ (r0 * 8 + p0) i0) 5 (r0 * 8 + (7 - p0))))) (C := RX3) (T := TX3) (N := 4) hx hb hts hinX3 hown hK hP (spos (xGraft σ (r0 * 8 + p0) i0) ι (r0 * 8 + (7 - p0))) (sw_at ct78 (by omega) (by omega)) rfl 0 (by decide) (hts (.fieldLink RX2 41 "TwinOrchardLaw$Tree" "branches" "I") (List.mem_of_getElem? (i := 2) rfl)) (fun _ h9 => h9) rfl dX2_work_138 ?_
                                                        refine gi_if_le (tgt := 148) hx hb dX2_work_141 (by decide) ⟨by omega, by omega⟩ (fun c141 => ?_) (fun c141 => ?_)
                                                        · skip
                                                          refine lv_iconst (v := iI (0)) hx hb dX2_work_148 rfl ?_
                                                          refine lv_istore (lv' := [(12, .int (iI (0))), (11, .ref (ι (r0 * 8 + (7 - p0))).toNat), (10, .int (iI (4))), (9, .int (iI (tw (r0 * 8 + (7 - p0))))), (8, .int (iI (7 - p0))), (7, .int (iI (1))), (6, .int (iI (0 + (0 + 1)))), (0, .ref (d 0)), (1, .int (iI (2))), (2, .int (iI (r0))), (3, .int (iI (p0))), (4, .int (iI (i0))), (5, .int (iI (0)))]) hx hb dX2_work_149 hl (by decide) rfl (fun ls hl => ?_)
                                                          refine lv_iload hx hb dX2_work_151 (lv_at hl 0 rfl) ?_
                                                          refine gi_if_eq (tgt := 309) hx hb dX2_work_153 (by decide) ⟨by decide, by decide⟩ (fun c153 => ?_) (fun c153 => ?_)
                                                          · skip
                                                            have ha2 : grA (xGraft σ (r0 * 8 + p0) i0) (r0 * 8 + (7 - p0)) i0 = 0 := bI_f (by omega)
                                                            have e8 : (xGraft σ (r0 * 8 + p0) i0) = (xGraft (xGraft σ (r0 * 8 + p0) i0) (r0 * 8 + (7 - p0)) i0) := (xGraft_n (by omega)).symm
                                                            rw [e8] at hP hD
                                                            have hP : va_P D vwCl (SW cI cT cU d (xGraft (xGraft σ (r0 * 8 + p0) i0) (r0 * 8 + (7 - p0)) i0) ι) H := hP
                                                            have hD : va_D A (SW cI cT cU d (xGraft (xGraft σ (r0 * 8 + p0) i0) (r0 * 8 + (7 - p0)) i0) ι) := hD
                                                            refine lv_iinc (v := iI (2)) (lv' := [(7, .int (iI (2))), (12, .int (iI (0))), (11, .ref (ι (r0 * 8 + (7 - p0))).toNat), (10, .int (iI (4))), (9, .int (iI (tw (r0 * 8 + (7 - p0))))), (8, .int (iI (7 - p0))), (6, .int (iI (0 + (0 + 1)))), (0, .ref (d 0)), (1, .int (iI (2))), (2, .int (iI (r0))), (3, .int (iI (p0))), (4, .int (iI (i0))), (5, .int (iI (0)))]) hx hb dX2_work_309 hl (k := 5) rfl rfl (by decide) rfl (fun ls hl => ?_)
                                                            refine lv_goto (tgt := 6) hx hb dX2_work_312 (by decide) ?_
                                                            refine lv_iload hx hb dX2_work_6 (lv_at hl 0 rfl) ?_
                                                            refine lv_iconst (v := iI (2)) hx hb dX2_work_8 rfl ?_
                                                            refine gi_icmp_ge (tgt := 315) hx hb dX2_work_9 (by decide) ⟨by decide, by decide⟩ ⟨by decide, by decide⟩ (fun c9 => ?_) (fun c9 => ?_)
                                                            · skip
                                                              refine lv_iload hx hb dX2_work_315 (lv_at hl 6 rfl) ?_
                                                              have ess : (xGraft (xGraft σ (r0 * 8 + p0) i0) (mir (r0 * 8 + p0)) i0) = (xGraft (xGraft σ (r0 * 8 + p0) i0) (r0 * 8 + (7 - p0)) i0) := by rw [em]
                                                              have hP : va_P D vwCl (SW cI cT cU d (xGraft (xGraft σ (r0 * 8 + p0) i0) (mir (r0 * 8 + p0)) i0) ι) H := by rw [ess]; exact hP
                                                              have hD : va_D A (SW cI cT cU d (xGraft (xGraft σ (r0 * 8 + p0) i0) (mir (r0 * 8 + p0)) i0) ι) := by rw [ess]; exact hD
                                                              have er : ((who (grA σ (r0 * 8 + p0) i0) (grA (xGraft σ (r0 * 8 + p0) i0) (mir (r0 * 8 + p0)) i0) : Int)) = (0 + (0 + 1)) := by rw [em, ha1, ha2]; decide
                                                              exact g_iret (wo := (fun κ' => SW cI cT cU d (xGraft (xGraft σ (r0 * 8 + p0) i0) (mir (r0 * 8 + p0)) i0) (κ' 2))) (kr := (fun κ' => True)) (rv := (fun _ => some (.int (iI (who (grA σ (r0 * 8 + p0) i0) (grA (xGraft σ (r0 * 8 + p0) i0) (mir (r0 * 8 + p0)) i0)))))) hx hb hr hlocks (fun _ => ι) rfl hP hK hD hS trivial (by rw [er]) (Nat.le_of_ble_eq_true rfl) (Nat.le_of_ble_eq_true rfl) dX2_work_317
                                                            · skip
                                                              omega
                                                          · skip
                                                            exact absurd rfl c153
                                                        · skip
                                                          refine lv_iconst (v := iI (1)) hx hb dX2_work_144 rfl ?_
                                                          refine lv_goto (tgt := 149) hx hb dX2_work_145 (by decide) ?_
                                                          refine lv_istore (lv' := [(12, .int (iI (1))), (11, .ref (ι (r0 * 8 + (7 - p0))).toNat), (10, .int (iI (4))), (9, .int (iI (tw (r0 * 8 + (7 - p0))))), (8, .int (iI (7 - p0))), (7, .int (iI (1))), (6, .int (iI (0 + (0 + 1)))), (0, .ref (d 0)), (1, .int (iI (2))), (2, .int (iI (r0))), (3, .int (iI (p0))), (4, .int (iI (i0))), (5, .int (iI (0)))]) hx hb dX2_work_149 hl (by decide) rfl (fun ls hl => ?_)
                                                          refine lv_iload hx hb dX2_work_151 (lv_at hl 0 rfl) ?_
                                                          refine gi_if_eq (tgt := 309) hx hb dX2_work_153 (by decide) ⟨by decide, by decide⟩ (fun c153 => ?_) (fun c153 => ?_)
                                                          · skip
                                                            exact absurd c153 (by decide)
                                                          · skip
                                                            refine lv_aload_n hx hb dX2_work_156 rfl (lv_at hl 7 rfl) ?_
                                                            refine va_get (D := D) (ci := 2) (v := .ref (d 6)) (C := RX2) (T := TX2) (N := 8) hx hb hts hinX2 hown hK hP 0 rfl rfl 5 (by decide) (hts (.fieldLink RX2 27 "TwinOrchardLaw$Sim" "strength" "[I") (List.mem_of_getElem? (i := 4) rfl)) (fun _ h9 => h9) rfl dX2_work_157 ?_
                                                            refine lv_iload hx hb dX2_work_160 (lv_at hl 3 rfl) ?_
                                                            refine gi_iald (a := d 6) (n := 2) (f := (xGraft σ (r0 * 8 + p0) i0) 8) hx hb hK hP 6 0 rfl rfl (by omega) (by omega) (by decide) dX2_work_162 ?_
                                                            refine lv_iload hx hb dX2_work_163 (lv_at hl 2 rfl) ?_
                                                            refine gi_icmp_ge (tgt := 171) hx hb dX2_work_165 (by decide) ⟨by omega, by omega⟩ ⟨by decide, by decide⟩ (fun c165 => ?_) (fun c165 => ?_)
                                                            · skip
                                                              refine lv_aload_n hx hb dX2_work_171 rfl (lv_at hl 7 rfl) ?_
                                                              refine va_get (D := D) (ci := 2) (v := .ref (d 6)) (C := RX2) (T := TX2) (N := 8) hx hb hts hinX2 hown hK hP 0 rfl rfl 5 (by decide) (hts (.fieldLink RX2 27 "TwinOrchardLaw$Sim" "strength" "[I") (List.mem_of_getElem? (i := 4) rfl)) (fun _ h9 => h9) rfl dX2_work_172 ?_
                                                              refine lv_iload hx hb dX2_work_175 (lv_at hl 3 rfl) ?_
                                                              refine lv_dup2_11 hx hb dX2_work_177 rfl rfl ?_
                                                              refine gi_iald (a := d 6) (n := 2) (f := (xGraft σ (r0 * 8 + p0) i0) 8) hx hb hK hP 6 0 rfl rfl (by omega) (by omega) (by decide) dX2_work_178 ?_
                                                              refine lv_iload hx hb dX2_work_179 (lv_at hl 2 rfl) ?_
                                                              refine gi_sub hx hb dX2_work_181 ?_
                                                              refine gi_iast (a := d 6) (n := 2) (f := (xGraft σ (r0 * 8 + p0) i0) 8) hx hb hK hP hD hS 6 0 rfl rfl (by omega) (by omega) (by decide) dX2_work_182 (fun H locs hP hD hS => ?_)
                                                              have hP : va_P D vwCl (SW cI cT cU d (su (xGraft σ (r0 * 8 + p0) i0) 8 (tw (r0 * 8 + (7 - p0))) (((xGraft σ (r0 * 8 + p0) i0) 8 (tw (r0 * 8 + (7 - p0)))) - 4)) ι) H := hP
                                                              have hD : va_D A (SW cI cT cU d (su (xGraft σ (r0 * 8 + p0) i0) 8 (tw (r0 * 8 + (7 - p0))) (((xGraft σ (r0 * 8 + p0) i0) 8 (tw (r0 * 8 + (7 - p0)))) - 4)) ι) := hD
                                                              refine lv_iload hx hb dX2_work_183 (lv_at hl 6 rfl) ?_
                                                              refine lv_iload hx hb dX2_work_185 (lv_at hl 5 rfl) ?_
                                                              refine lv_iconst (v := iI (1)) hx hb dX2_work_187 rfl ?_
                                                              refine gi_add hx hb dX2_work_188 ?_
                                                              refine gi_add hx hb dX2_work_189 ?_
                                                              refine lv_istore (lv' := [(6, .int (iI ((0 + (0 + 1)) + (1 + 1)))), (12, .int (iI (1))), (11, .ref (ι (r0 * 8 + (7 - p0))).toNat), (10, .int (iI (4))), (9, .int (iI (tw (r0 * 8 + (7 - p0))))), (8, .int (iI (7 - p0))), (7, .int (iI (1))), (0, .ref (d 0)), (1, .int (iI (2))), (2, .int (iI (r0))), (3, .int (iI (p0))), (4, .int (iI (i0))), (5, .int (iI (0)))]) hx hb dX2_work_190 hl (by decide) rfl (fun ls hl => ?_)
                                                              refine lv_iload_n hx hb dX2_work_192 rfl (lv_at hl 8 rfl) ?_
                                                              refine gi_if_ne (tgt := 233) hx hb dX2_work_193 (by decide) ⟨by decide, by decide⟩ (fun c193 => ?_) (fun c193 => ?_)
                                                              · skip
                                                                refine lv_iload_n hx hb dX2_work_233 rfl (lv_at hl 8 rfl) ?_
                                                                refine lv_iconst (v := iI (1)) hx hb dX2_work_234 rfl ?_
                                                                refine gi_icmp_ne (tgt := 259) hx hb dX2_work_235 (by decide) ⟨by decide, by decide⟩ ⟨by decide, by decide⟩ (fun c235 => ?_) (fun c235 => ?_)
                                                                · skip
                                                                  refine lv_iload_n hx hb dX2_work_259 rfl (lv_at hl 8 rfl) ?_
                                                                  refine lv_iconst (v := iI (2)) hx hb dX2_work_260 rfl ?_
                                                                  refine gi_icmp_ne (tgt := 299) hx hb dX2_work_261 (by decide) ⟨by decide, by decide⟩ ⟨by decide, by decide⟩ (fun c261 => ?_) (fun c261 => ?_)
                                                                  · skip
                                                                    exact absurd rfl c261
                                                                  · skip
                                                                    refine lv_aload hx hb dX2_work_264 (lv_at hl 2 rfl) ?_
                                                                    refine lv_iload hx hb dX2_work_266 (lv_at hl 11 rfl) ?_
                                                                    refine va_put (D := D) (ci := 3) (v := .int (iI (i0))) (ty := .int) (C := RX3) (T := TX3) (N := 4) hx hb hts hinX3 tyX3 tyX3_ok nmX3 hown hK hP hD hS (spos (su (xGraft σ (r0 * 8 + p0) i0) 8 (tw (r0 * 8 + (7 - p0))) (((xGraft σ (r0 * 8 + p0) i0) 8 (tw (r0 * 8 + (7 - p0)))) - 4)) ι (r0 * 8 + (7 - p0))) (sw_at ct78 (by omega) (by omega)) rfl 2 (by decide) (hts (.fieldLink RX2 44 "TwinOrchardLaw$Tree" "sort" "I") (List.mem_of_getElem? (i := 3) rfl)) (fun _ h9 => h9) rfl (by decide +kernel) rfl rfl (Nat.le_of_ble_eq_true rfl) dX2_work_268 (fun H locs hP hD hS => ?_)
                                                                    have hP : va_P D vwCl (SW cI cT cU d (su (su (xGraft σ (r0 * 8 + p0) i0) 8 (tw (r0 * 8 + (7 - p0))) (((xGraft σ (r0 * 8 + p0) i0) 8 (tw (r0 * 8 + (7 - p0)))) - 4)) 4 (r0 * 8 + (7 - p0)) (i0)) ι) H := va_Pe (sw_put4 (cI := cI) (cT := cT) (cU := cU) (d := d) (σ := su (xGraft σ (r0 * 8 + p0) i0) 8 (tw (r0 * 8 + (7 - p0))) (((xGraft σ (r0 * 8 + p0) i0) 8 (tw (r0 * 8 + (7 - p0)))) - 4)) (ι := ι) (k := r0 * 8 + (7 - p0)) (v := i0) (by omega) ct78 (by omega) (by omega)) hP
                                                                    have hD : va_D A (SW cI cT cU d (su (su (xGraft σ (r0 * 8 + p0) i0) 8 (tw (r0 * 8 + (7 - p0))) (((xGraft σ (r0 * 8 + p0) i0) 8 (tw (r0 * 8 + (7 - p0)))) - 4)) 4 (r0 * 8 + (7 - p0)) (i0)) ι) := va_De (sw_put4 (cI := cI) (cT := cT) (cU := cU) (d := d) (σ := su (xGraft σ (r0 * 8 + p0) i0) 8 (tw (r0 * 8 + (7 - p0))) (((xGraft σ (r0 * 8 + p0) i0) 8 (tw (r0 * 8 + (7 - p0)))) - 4)) (ι := ι) (k := r0 * 8 + (7 - p0)) (v := i0) (by omega) ct78 (by omega) (by omega)) hD
                                                                    have ct268 : ¬ (su (su (xGraft σ (r0 * 8 + p0) i0) 8 (tw (r0 * 8 + (7 - p0))) (((xGraft σ (r0 * 8 + p0) i0) 8 (tw (r0 * 8 + (7 - p0)))) - 4)) 4 (r0 * 8 + (7 - p0)) (i0)) 4 (r0 * 8 + (7 - p0)) = -1 := by show ¬ fu _ _ _ _ = -1; rw [fu_s]; omega
                                                                    refine lv_aload hx hb dX2_work_271 (lv_at hl 2 rfl) ?_
                                                                    refine lv_aload hx hb dX2_work_273 (lv_at hl 2 rfl) ?_
                                                                    refine va_get (D := D) (ci := 3) (v := .int (iI ((su (su (xGraft σ (r0 * 8 + p0) i0) 8 (tw (r0 * 8 + (7 - p0))) (((xGraft σ (r0 * 8 + p0) i0) 8 (tw (r0 * 8 + (7 - p0)))) - 4)) 4 (r0 * 8 + (7 - p0)) (i0)) 5 (r0 * 8 + (7 - p0))))) (C := RX3) (T := TX3) (N := 4) hx hb hts hinX3 hown hK hP (spos (su (su (xGraft σ (r0 * 8 + p0) i0) 8 (tw (r0 * 8 + (7 - p0))) (((xGraft σ (r0 * 8 + p0) i0) 8 (tw (r0 * 8 + (7 - p0)))) - 4)) 4 (r0 * 8 + (7 - p0)) (i0)) ι (r0 * 8 + (7 - p0))) (sw_at ct268 (by omega) (by omega)) rfl 0 (by decide) (hts (.fieldLink RX2 41 "TwinOrchardLaw$Tree" "branches" "I") (List.mem_of_getElem? (i := 2) rfl)) (fun _ h9 => h9) rfl dX2_work_275 ?_
                                                                    rw [show ((su (su (xGraft σ (r0 * 8 + p0) i0) 8 (tw (r0 * 8 + (7 - p0))) (((xGraft σ (r0 * 8 + p0) i0) 8 (tw (r0 * 8 + (7 - p0)))) - 4)) 4 (r0 * 8 + (7 - p0)) (i0)) 5 (r0 * 8 + (7 - p0))) = ((xGraft σ (r0 * 8 + p0) i0) 5 (r0 * 8 + (7 - p0))) from by rfl]
                                                                    refine lv_iconst (v := iI (1)) hx hb dX2_work_278 rfl ?_
                                                                    refine gi_icmp_le (tgt := 292) hx hb dX2_work_279 (by decide) ⟨by omega, by omega⟩ ⟨by decide, by decide⟩ (fun c279 => ?_) (fun c279 => ?_)
                                                                    · skip
                                                                      refine lv_iconst (v := iI (1)) hx hb dX2_work_292 rfl ?_
                                                                      refine va_put (D := D) (ci := 3) (v := .int (iI (1))) (ty := .int) (C := RX3) (T := TX3) (N := 4) hx hb hts hinX3 tyX3 tyX3_ok nmX3 hown hK hP hD hS (spos (su (su (xGraft σ (r0 * 8 + p0) i0) 8 (tw (r0 * 8 + (7 - p0))) (((xGraft σ (r0 * 8 + p0) i0) 8 (tw (r0 * 8 + (7 - p0)))) - 4)) 4 (r0 * 8 + (7 - p0)) (i0)) ι (r0 * 8 + (7 - p0))) (sw_at ct268 (by omega) (by omega)) rfl 0 (by decide) (hts (.fieldLink RX2 41 "TwinOrchardLaw$Tree" "branches" "I") (List.mem_of_getElem? (i := 2) rfl)) (fun _ h9 => h9) rfl (by decide +kernel) rfl rfl (Nat.le_of_ble_eq_true rfl) dX2_work_293 (fun H locs hP hD hS => ?_)
                                                                      have hP : va_P D vwCl (SW cI cT cU d (su (su (su (xGraft σ (r0 * 8 + p0) i0) 8 (tw (r0 * 8 + (7 - p0))) (((xGraft σ (r0 * 8 + p0) i0) 8 (tw (r0 * 8 + (7 - p0)))) - 4)) 4 (r0 * 8 + (7 - p0)) (i0)) 5 (r0 * 8 + (7 - p0)) (1)) ι) H := va_Pe (sw_put5 (cI := cI) (cT := cT) (cU := cU) (d := d) (σ := su (su (xGraft σ (r0 * 8 + p0) i0) 8 (tw (r0 * 8 + (7 - p0))) (((xGraft σ (r0 * 8 + p0) i0) 8 (tw (r0 * 8 + (7 - p0)))) - 4)) 4 (r0 * 8 + (7 - p0)) (i0)) (ι := ι) (k := r0 * 8 + (7 - p0)) (v := 1) ct268 (by omega) (by omega)) hP
                                                                      have hD : va_D A (SW cI cT cU d (su (su (su (xGraft σ (r0 * 8 + p0) i0) 8 (tw (r0 * 8 + (7 - p0))) (((xGraft σ (r0 * 8 + p0) i0) 8 (tw (r0 * 8 + (7 - p0)))) - 4)) 4 (r0 * 8 + (7 - p0)) (i0)) 5 (r0 * 8 + (7 - p0)) (1)) ι) := va_De (sw_put5 (cI := cI) (cT := cT) (cU := cU) (d := d) (σ := su (su (xGraft σ (r0 * 8 + p0) i0) 8 (tw (r0 * 8 + (7 - p0))) (((xGraft σ (r0 * 8 + p0) i0) 8 (tw (r0 * 8 + (7 - p0)))) - 4)) 4 (r0 * 8 + (7 - p0)) (i0)) (ι := ι) (k := r0 * 8 + (7 - p0)) (v := 1) ct268 (by omega) (by omega)) hD
                                                                      refine lv_goto (tgt := 309) hx hb dX2_work_296 (by decide) ?_
                                                                      have ha2 : grA (xGraft σ (r0 * 8 + p0) i0) (r0 * 8 + (7 - p0)) i0 = 1 := bI_t (by omega)
                                                                      have e8 : (su (su (su (xGraft σ (r0 * 8 + p0) i0) 8 (tw (r0 * 8 + (7 - p0))) (((xGraft σ (r0 * 8 + p0) i0) 8 (tw (r0 * 8 + (7 - p0)))) - 4)) 4 (r0 * 8 + (7 - p0)) (i0)) 5 (r0 * 8 + (7 - p0)) (1)) = (xGraft (xGraft σ (r0 * 8 + p0) i0) (r0 * 8 + (7 - p0)) i0) := (xGraft_y (by omega) (by omega)).symm
                                                                      rw [e8] at hP hD
                                                                      have hP : va_P D vwCl (SW cI cT cU d (xGraft (xGraft σ (r0 * 8 + p0) i0) (r0 * 8 + (7 - p0)) i0) ι) H := hP
                                                                      have hD : va_D A (SW cI cT cU d (xGraft (xGraft σ (r0 * 8 + p0) i0) (r0 * 8 + (7 - p0)) i0) ι) := hD
                                                                      refine lv_iinc (v := iI (2)) (lv' := [(7, .int (iI (2))), (6, .int (iI ((0 + (0 + 1)) + (1 + 1)))), (12, .int (iI (1))), (11, .ref (ι (r0 * 8 + (7 - p0))).toNat), (10, .int (iI (4))), (9, .int (iI (tw (r0 * 8 + (7 - p0))))), (8, .int (iI (7 - p0))), (0, .ref (d 0)), (1, .int (iI (2))), (2, .int (iI (r0))), (3, .int (iI (p0))), (4, .int (iI (i0))), (5, .int (iI (0)))]) hx hb dX2_work_309 hl (k := 6) rfl rfl (by decide) rfl (fun ls hl => ?_)
                                                                      refine lv_goto (tgt := 6) hx hb dX2_work_312 (by decide) ?_
                                                                      refine lv_iload hx hb dX2_work_6 (lv_at hl 0 rfl) ?_
                                                                      refine lv_iconst (v := iI (2)) hx hb dX2_work_8 rfl ?_
                                                                      refine gi_icmp_ge (tgt := 315) hx hb dX2_work_9 (by decide) ⟨by decide, by decide⟩ ⟨by decide, by decide⟩ (fun c9 => ?_) (fun c9 => ?_)
                                                                      · skip
                                                                        refine lv_iload hx hb dX2_work_315 (lv_at hl 1 rfl) ?_
                                                                        have ess : (xGraft (xGraft σ (r0 * 8 + p0) i0) (mir (r0 * 8 + p0)) i0) = (xGraft (xGraft σ (r0 * 8 + p0) i0) (r0 * 8 + (7 - p0)) i0) := by rw [em]
                                                                        have hP : va_P D vwCl (SW cI cT cU d (xGraft (xGraft σ (r0 * 8 + p0) i0) (mir (r0 * 8 + p0)) i0) ι) H := by rw [ess]; exact hP
                                                                        have hD : va_D A (SW cI cT cU d (xGraft (xGraft σ (r0 * 8 + p0) i0) (mir (r0 * 8 + p0)) i0) ι) := by rw [ess]; exact hD
                                                                        have er : ((who (grA σ (r0 * 8 + p0) i0) (grA (xGraft σ (r0 * 8 + p0) i0) (mir (r0 * 8 + p0)) i0) : Int)) = ((0 + (0 + 1)) + (1 + 1)) := by rw [em, ha1, ha2]; decide
                                                                        exact g_iret (wo := (fun κ' => SW cI cT cU d (xGraft (xGraft σ (r0 * 8 + p0) i0) (mir (r0 * 8 + p0)) i0) (κ' 2))) (kr := (fun κ' => True)) (rv := (fun _ => some (.int (iI (who (grA σ (r0 * 8 + p0) i0) (grA (xGraft σ (r0 * 8 + p0) i0) (mir (r0 * 8 + p0)) i0)))))) hx hb hr hlocks (fun _ => ι) rfl hP hK hD hS trivial (by rw [er]) (Nat.le_of_ble_eq_true rfl) (Nat.le_of_ble_eq_true rfl) dX2_work_317
                                                                      · skip
                                                                        omega
                                                                    · skip
                                                                      refine lv_aload hx hb dX2_work_282 (lv_at hl 2 rfl) ?_
                                                                      refine va_get (D := D) (ci := 3) (v := .int (iI ((su (su (xGraft σ (r0 * 8 + p0) i0) 8 (tw (r0 * 8 + (7 - p0))) (((xGraft σ (r0 * 8 + p0) i0) 8 (tw (r0 * 8 + (7 - p0)))) - 4)) 4 (r0 * 8 + (7 - p0)) (i0)) 5 (r0 * 8 + (7 - p0))))) (C := RX3) (T := TX3) (N := 4) hx hb hts hinX3 hown hK hP (spos (su (su (xGraft σ (r0 * 8 + p0) i0) 8 (tw (r0 * 8 + (7 - p0))) (((xGraft σ (r0 * 8 + p0) i0) 8 (tw (r0 * 8 + (7 - p0)))) - 4)) 4 (r0 * 8 + (7 - p0)) (i0)) ι (r0 * 8 + (7 - p0))) (sw_at ct268 (by omega) (by omega)) rfl 0 (by decide) (hts (.fieldLink RX2 41 "TwinOrchardLaw$Tree" "branches" "I") (List.mem_of_getElem? (i := 2) rfl)) (fun _ h9 => h9) rfl dX2_work_284 ?_
                                                                      rw [show ((su (su (xGraft σ (r0 * 8 + p0) i0) 8 (tw (r0 * 8 + (7 - p0))) (((xGraft σ (r0 * 8 + p0) i0) 8 (tw (r0 * 8 + (7 - p0)))) - 4)) 4 (r0 * 8 + (7 - p0)) (i0)) 5 (r0 * 8 + (7 - p0))) = ((xGraft σ (r0 * 8 + p0) i0) 5 (r0 * 8 + (7 - p0))) from by rfl]
                                                                      refine lv_iconst (v := iI (2)) hx hb dX2_work_287 rfl ?_
                                                                      refine gi_div hx hb ⟨by omega, by omega⟩ ⟨by omega, by omega⟩ dX2_work_288 ?_
                                                                      refine lv_goto (tgt := 293) hx hb dX2_work_289 (by decide) ?_
                                                                      refine va_put (D := D) (ci := 3) (v := .int (iI (((xGraft σ (r0 * 8 + p0) i0) 5 (r0 * 8 + (7 - p0))) / 2))) (ty := .int) (C := RX3) (T := TX3) (N := 4) hx hb hts hinX3 tyX3 tyX3_ok nmX3 hown hK hP hD hS (spos (su (su (xGraft σ (r0 * 8 + p0) i0) 8 (tw (r0 * 8 + (7 - p0))) (((xGraft σ (r0 * 8 + p0) i0) 8 (tw (r0 * 8 + (7 - p0)))) - 4)) 4 (r0 * 8 + (7 - p0)) (i0)) ι (r0 * 8 + (7 - p0))) (sw_at ct268 (by omega) (by omega)) rfl 0 (by decide) (hts (.fieldLink RX2 41 "TwinOrchardLaw$Tree" "branches" "I") (List.mem_of_getElem? (i := 2) rfl)) (fun _ h9 => h9) rfl (by decide +kernel) rfl rfl (Nat.le_of_ble_eq_true rfl) dX2_work_293 (fun H locs hP hD hS => ?_)
                                                                      have hP : va_P D vwCl (SW cI cT cU d (su (su (su (xGraft σ (r0 * 8 + p0) i0) 8 (tw (r0 * 8 + (7 - p0))) (((xGraft σ (r0 * 8 + p0) i0) 8 (tw (r0 * 8 + (7 - p0)))) - 4)) 4 (r0 * 8 + (7 - p0)) (i0)) 5 (r0 * 8 + (7 - p0)) (((xGraft σ (r0 * 8 + p0) i0) 5 (r0 * 8 + (7 - p0))) / 2)) ι) H := va_Pe (sw_put5 (cI := cI) (cT := cT) (cU := cU) (d := d) (σ := su (su (xGraft σ (r0 * 8 + p0) i0) 8 (tw (r0 * 8 + (7 - p0))) (((xGraft σ (r0 * 8 + p0) i0) 8 (tw (r0 * 8 + (7 - p0)))) - 4)) 4 (r0 * 8 + (7 - p0)) (i0)) (ι := ι) (k := r0 * 8 + (7 - p0)) (v := ((xGraft σ (r0 * 8 + p0) i0) 5 (r0 * 8 + (7 - p0))) / 2) ct268 (by omega) (by omega)) hP
                                                                      have hD : va_D A (SW cI cT cU d (su (su (su (xGraft σ (r0 * 8 + p0) i0) 8 (tw (r0 * 8 + (7 - p0))) (((xGraft σ (r0 * 8 + p0) i0) 8 (tw (r0 * 8 + (7 - p0)))) - 4)) 4 (r0 * 8 + (7 - p0)) (i0)) 5 (r0 * 8 + (7 - p0)) (((xGraft σ (r0 * 8 + p0) i0) 5 (r0 * 8 + (7 - p0))) / 2)) ι) := va_De (sw_put5 (cI := cI) (cT := cT) (cU := cU) (d := d) (σ := su (su (xGraft σ (r0 * 8 + p0) i0) 8 (tw (r0 * 8 + (7 - p0))) (((xGraft σ (r0 * 8 + p0) i0) 8 (tw (r0 * 8 + (7 - p0)))) - 4)) 4 (r0 * 8 + (7 - p0)) (i0)) (ι := ι) (k := r0 * 8 + (7 - p0)) (v := ((xGraft σ (r0 * 8 + p0) i0) 5 (r0 * 8 + (7 - p0))) / 2) ct268 (by omega) (by omega)) hD
                                                                      refine lv_goto (tgt := 309) hx hb dX2_work_296 (by decide) ?_
                                                                      have ha2 : grA (xGraft σ (r0 * 8 + p0) i0) (r0 * 8 + (7 - p0)) i0 = 1 := bI_t (by omega)
                                                                      have e8 : (su (su (su (xGraft σ (r0 * 8 + p0) i0) 8 (tw (r0 * 8 + (7 - p0))) (((xGraft σ (r0 * 8 + p0) i0) 8 (tw (r0 * 8 + (7 - p0)))) - 4)) 4 (r0 * 8 + (7 - p0)) (i0)) 5 (r0 * 8 + (7 - p0)) (((xGraft σ (r0 * 8 + p0) i0) 5 (r0 * 8 + (7 - p0))) / 2)) = (xGraft (xGraft σ (r0 * 8 + p0) i0) (r0 * 8 + (7 - p0)) i0) := (xGraft_y (by omega) (by omega)).symm
                                                                      rw [e8] at hP hD
                                                                      have hP : va_P D vwCl (SW cI cT cU d (xGraft (xGraft σ (r0 * 8 + p0) i0) (r0 * 8 + (7 - p0)) i0) ι) H := hP
                                                                      have hD : va_D A (SW cI cT cU d (xGraft (xGraft σ (r0 * 8 + p0) i0) (r0 * 8 + (7 - p0)) i0) ι) := hD
                                                                      refine lv_iinc (v := iI (2)) (lv' := [(7, .int (iI (2))), (6, .int (iI ((0 + (0 + 1)) + (1 + 1)))), (12, .int (iI (1))), (11, .ref (ι (r0 * 8 + (7 - p0))).toNat), (10, .int (iI (4))), (9, .int (iI (tw (r0 * 8 + (7 - p0))))), (8, .int (iI (7 - p0))), (0, .ref (d 0)), (1, .int (iI (2))), (2, .int (iI (r0))), (3, .int (iI (p0))), (4, .int (iI (i0))), (5, .int (iI (0)))]) hx hb dX2_work_309 hl (k := 6) rfl rfl (by decide) rfl (fun ls hl => ?_)
                                                                      refine lv_goto (tgt := 6) hx hb dX2_work_312 (by decide) ?_
                                                                      refine lv_iload hx hb dX2_work_6 (lv_at hl 0 rfl) ?_
                                                                      refine lv_iconst (v := iI (2)) hx hb dX2_work_8 rfl ?_
                                                                      refine gi_icmp_ge (tgt := 315) hx hb dX2_work_9 (by decide) ⟨by decide, by decide⟩ ⟨by decide, by decide⟩ (fun c9 => ?_) (fun c9 => ?_)
                                                                      · skip
                                                                        refine lv_iload hx hb dX2_work_315 (lv_at hl 1 rfl) ?_
                                                                        have ess : (xGraft (xGraft σ (r0 * 8 + p0) i0) (mir (r0 * 8 + p0)) i0) = (xGraft (xGraft σ (r0 * 8 + p0) i0) (r0 * 8 + (7 - p0)) i0) := by rw [em]
                                                                        have hP : va_P D vwCl (SW cI cT cU d (xGraft (xGraft σ (r0 * 8 + p0) i0) (mir (r0 * 8 + p0)) i0) ι) H := by rw [ess]; exact hP
                                                                        have hD : va_D A (SW cI cT cU d (xGraft (xGraft σ (r0 * 8 + p0) i0) (mir (r0 * 8 + p0)) i0) ι) := by rw [ess]; exact hD
                                                                        have er : ((who (grA σ (r0 * 8 + p0) i0) (grA (xGraft σ (r0 * 8 + p0) i0) (mir (r0 * 8 + p0)) i0) : Int)) = ((0 + (0 + 1)) + (1 + 1)) := by rw [em, ha1, ha2]; decide
                                                                        exact g_iret (wo := (fun κ' => SW cI cT cU d (xGraft (xGraft σ (r0 * 8 + p0) i0) (mir (r0 * 8 + p0)) i0) (κ' 2))) (kr := (fun κ' => True)) (rv := (fun _ => some (.int (iI (who (grA σ (r0 * 8 + p0) i0) (grA (xGraft σ (r0 * 8 + p0) i0) (mir (r0 * 8 + p0)) i0)))))) hx hb hr hlocks (fun _ => ι) rfl hP hK hD hS trivial (by rw [er]) (Nat.le_of_ble_eq_true rfl) (Nat.le_of_ble_eq_true rfl) dX2_work_317
                                                                      · skip
                                                                        omega
                                                                · skip
                                                                  exact absurd c235 (by decide)
                                                              · skip
                                                                exact absurd c193 (by decide)
                                                            · skip
                                                              refine lv_goto (tgt := 309) hx hb dX2_work_168 (by decide) ?_
                                                              have ha2 : grA (xGraft σ (r0 * 8 + p0) i0) (r0 * 8 + (7 - p0)) i0 = 0 := bI_f (by omega)
                                                              have e8 : (xGraft σ (r0 * 8 + p0) i0) = (xGraft (xGraft σ (r0 * 8 + p0) i0) (r0 * 8 + (7 - p0)) i0) := (xGraft_n (by omega)).symm
                                                              rw [e8] at hP hD
                                                              have hP : va_P D vwCl (SW cI cT cU d (xGraft (xGraft σ (r0 * 8 + p0) i0) (r0 * 8 + (7 - p0)) i0) ι) H := hP
                                                              have hD : va_D A (SW cI cT cU d (xGraft (xGraft σ (r0 * 8 + p0) i0) (r0 * 8 + (7 - p0)) i0) ι) := hD
                                                              refine lv_iinc (v := iI (2)) (lv' := [(7, .int (iI (2))), (12, .int (iI (1))), (11, .ref (ι (r0 * 8 + (7 - p0))).toNat), (10, .int (iI (4))), (9, .int (iI (tw (r0 * 8 + (7 - p0))))), (8, .int (iI (7 - p0))), (6, .int (iI (0 + (0 + 1)))), (0, .ref (d 0)), (1, .int (iI (2))), (2, .int (iI (r0))), (3, .int (iI (p0))), (4, .int (iI (i0))), (5, .int (iI (0)))]) hx hb dX2_work_309 hl (k := 5) rfl rfl (by decide) rfl (fun ls hl => ?_)
                                                              refine lv_goto (tgt := 6) hx hb dX2_work_312 (by decide) ?_
                                                              refine lv_iload hx hb dX2_work_6 (lv_at hl 0 rfl) ?_
                                                              refine lv_iconst (v := iI (2)) hx hb dX2_work_8 rfl ?_
                                                              refine gi_icmp_ge (tgt := 315) hx hb dX2_work_9 (by decide) ⟨by decide, by decide⟩ ⟨by decide, by decide⟩ (fun c9 => ?_) (fun c9 => ?_)
                                                              · skip
                                                                refine lv_iload hx hb dX2_work_315 (lv_at hl 6 rfl) ?_
                                                                have ess : (xGraft (xGraft σ (r0 * 8 + p0) i0) (mir (r0 * 8 + p0)) i0) = (xGraft (xGraft σ (r0 * 8 + p0) i0) (r0 * 8 + (7 - p0)) i0) := by rw [em]
                                                                have hP : va_P D vwCl (SW cI cT cU d (xGraft (xGraft σ (r0 * 8 + p0) i0) (mir (r0 * 8 + p0)) i0) ι) H := by rw [ess]; exact hP
                                                                have hD : va_D A (SW cI cT cU d (xGraft (xGraft σ (r0 * 8 + p0) i0) (mir (r0 * 8 + p0)) i0) ι) := by rw [ess]; exact hD
                                                                have er : ((who (grA σ (r0 * 8 + p0) i0) (grA (xGraft σ (r0 * 8 + p0) i0) (mir (r0 * 8 + p0)) i0) : Int)) = (0 + (0 + 1)) := by rw [em, ha1, ha2]; decide
                                                                exact g_iret (wo := (fun κ' => SW cI cT cU d (xGraft (xGraft σ (r0 * 8 + p0) i0) (mir (r0 * 8 + p0)) i0) (κ' 2))) (kr := (fun κ' => True)) (rv := (fun _ => some (.int (iI (who (grA σ (r0 * 8 + p0) i0) (grA (xGraft σ (r0 * 8 + p0) i0) (mir (r0 * 8 + p0)) i0)))))) hx hb hr hlocks (fun _ => ι) rfl hP hK hD hS trivial (by rw [er]) (Nat.le_of_ble_eq_true rfl) (Nat.le_of_ble_eq_true rfl) dX2_work_317
                                                              · skip
                                                                omega
                                                  · skip
                                                    exact absurd c105 (by decide)
                                                · skip
                                                  exact absurd c82 (by decide)
                                          · skip
                                            exact absurd c50 (by decide)
                                        · skip
                                          exact absurd c41 (by decide)
                                      · skip
                                        exact absurd c14 (by decide)
                              · skip
                                exact absurd c235 (by decide)
                            · skip
                              exact absurd c193 (by decide)
                          · skip
                            refine lv_goto (tgt := 309) hx hb dX2_work_168 (by decide) ?_
                            have ha1 : grA σ (r0 * 8 + p0) i0 = 0 := bI_f (by omega)
                            have e8 : (σ) = (xGraft σ (r0 * 8 + p0) i0) := (xGraft_n (by omega)).symm
                            rw [e8] at hP hD
                            have hP : va_P D vwCl (SW cI cT cU d (xGraft σ (r0 * 8 + p0) i0) ι) H := hP
                            have hD : va_D A (SW cI cT cU d (xGraft σ (r0 * 8 + p0) i0) ι) := hD
                            have hwf2 : xWF (xGraft σ (r0 * 8 + p0) i0) := xWF_graft hwf hi
                            have k4b := xWF_4 hwf2 (r0 * 8 + (7 - p0))
                            have k5b := xWF_5 hwf2 (r0 * 8 + (7 - p0))
                            have k8b := xWF_8 hwf2 (tw (r0 * 8 + (7 - p0)))
                            refine lv_iinc (v := iI (1)) (lv' := [(7, .int (iI (1))), (12, .int (iI (1))), (11, .ref (ι (r0 * 8 + p0)).toNat), (10, .int (iI (4))), (9, .int (iI (tw (r0 * 8 + p0)))), (8, .int (iI (p0))), (6, .int (iI (0))), (0, .ref (d 0)), (1, .int (iI (2))), (2, .int (iI (r0))), (3, .int (iI (p0))), (4, .int (iI (i0))), (5, .int (iI (0)))]) hx hb dX2_work_309 hl (k := 5) rfl rfl (by decide) rfl (fun ls hl => ?_)
                            refine lv_goto (tgt := 6) hx hb dX2_work_312 (by decide) ?_
                            refine lv_iload hx hb dX2_work_6 (lv_at hl 0 rfl) ?_
                            refine lv_iconst (v := iI (2)) hx hb dX2_work_8 rfl ?_
                            refine gi_icmp_ge (tgt := 315) hx hb dX2_work_9 (by decide) ⟨by decide, by decide⟩ ⟨by decide, by decide⟩ (fun c9 => ?_) (fun c9 => ?_)
                            · skip
                              exact absurd c9 (by decide)
                            · skip
                              refine lv_iload hx hb dX2_work_12 (lv_at hl 0 rfl) ?_
                              refine gi_if_ne (tgt := 21) hx hb dX2_work_14 (by decide) ⟨by decide, by decide⟩ (fun c14 => ?_) (fun c14 => ?_)
                              · skip
                                refine lv_bipush (v := iI (7)) hx hb dX2_work_21 rfl ?_
                                refine lv_iload_n hx hb dX2_work_23 rfl (lv_at hl 10 rfl) ?_
                                refine gi_sub hx hb dX2_work_24 ?_
                                refine lv_istore (lv' := [(8, .int (iI (7 - p0))), (7, .int (iI (1))), (12, .int (iI (1))), (11, .ref (ι (r0 * 8 + p0)).toNat), (10, .int (iI (4))), (9, .int (iI (tw (r0 * 8 + p0)))), (6, .int (iI (0))), (0, .ref (d 0)), (1, .int (iI (2))), (2, .int (iI (r0))), (3, .int (iI (p0))), (4, .int (iI (i0))), (5, .int (iI (0)))]) hx hb dX2_work_25 hl (by decide) rfl (fun ls hl => ?_)
                                refine lv_iload hx hb dX2_work_27 (lv_at hl 0 rfl) ?_
                                refine lv_iconst (v := iI (4)) hx hb dX2_work_29 rfl ?_
                                refine g_selGe (u := 0) (v := 1) (t1 := 37) (t2 := 38) hx hb ⟨by omega, by omega⟩ ⟨by decide, by decide⟩ dX2_work_30 (by decide) (fun st h => lv_iconst (v := iI (0)) hx hb dX2_work_33 rfl (lv_goto (tgt := 38) hx hb dX2_work_34 (by decide) h)) (fun st h => lv_iconst (v := iI (1)) hx hb dX2_work_37 rfl h) ?_
                                rw [show (if 7 - p0 < 4 then (0 : Int) else 1) = tw (r0 * 8 + (7 - p0)) from by unfold tw; split <;> split <;> omega]
                                refine lv_istore (lv' := [(9, .int (iI (tw (r0 * 8 + (7 - p0))))), (8, .int (iI (7 - p0))), (7, .int (iI (1))), (12, .int (iI (1))), (11, .ref (ι (r0 * 8 + p0)).toNat), (10, .int (iI (4))), (6, .int (iI (0))), (0, .ref (d 0)), (1, .int (iI (2))), (2, .int (iI (r0))), (3, .int (iI (p0))), (4, .int (iI (i0))), (5, .int (iI (0)))]) hx hb dX2_work_38 hl (by decide) rfl (fun ls hl => ?_)
                                refine lv_iload_n hx hb dX2_work_40 rfl (lv_at hl 8 rfl) ?_
                                refine gi_if_ne (tgt := 48) hx hb dX2_work_41 (by decide) ⟨by decide, by decide⟩ (fun c41 => ?_) (fun c41 => ?_)
                                · skip
                                  refine lv_iload_n hx hb dX2_work_48 rfl (lv_at hl 8 rfl) ?_
                                  refine lv_iconst (v := iI (1)) hx hb dX2_work_49 rfl ?_
                                  refine gi_icmp_ne (tgt := 57) hx hb dX2_work_50 (by decide) ⟨by decide, by decide⟩ ⟨by decide, by decide⟩ (fun c50 => ?_) (fun c50 => ?_)
                                  · skip
                                    refine lv_iload_n hx hb dX2_work_57 rfl (lv_at hl 8 rfl) ?_
                                    refine lv_iconst (v := iI (2)) hx hb dX2_work_58 rfl ?_
                                    refine gi_icmp_ne (tgt := 66) hx hb dX2_work_59 (by decide) ⟨by decide, by decide⟩ ⟨by decide, by decide⟩ (fun c59 => ?_) (fun c59 => ?_)
                                    · skip
                                      exact absurd rfl c59
                                    · skip
                                      refine lv_iconst (v := iI (4)) hx hb dX2_work_62 rfl ?_
                                      refine lv_goto (tgt := 68) hx hb dX2_work_63 (by decide) ?_
                                      refine lv_istore (lv' := [(10, .int (iI (4))), (9, .int (iI (tw (r0 * 8 + (7 - p0))))), (8, .int (iI (7 - p0))), (7, .int (iI (1))), (12, .int (iI (1))), (11, .ref (ι (r0 * 8 + p0)).toNat), (6, .int (iI (0))), (0, .ref (d 0)), (1, .int (iI (2))), (2, .int (iI (r0))), (3, .int (iI (p0))), (4, .int (iI (i0))), (5, .int (iI (0)))]) hx hb dX2_work_68 hl (by decide) rfl (fun ls hl => ?_)
                                      refine lv_aload_n hx hb dX2_work_70 rfl (lv_at hl 7 rfl) ?_
                                      refine va_get (D := D) (ci := 2) (v := .ref (d 1)) (C := RX2) (T := TX2) (N := 8) hx hb hts hinX2 hown hK hP 0 rfl rfl 0 (by decide) (hts (.fieldLink RX2 9 "TwinOrchardLaw$Sim" "trees" "[[LTwinOrchardLaw$Tree;") (List.mem_of_getElem? (i := 1) rfl)) (fun _ h9 => h9) rfl dX2_work_71 ?_
                                      refine lv_iload_n hx hb dX2_work_74 rfl (lv_at hl 9 rfl) ?_
                                      refine s_row (f := srt d) hx hb hK hP 1 3 rfl rfl (by omega) (by omega) (by decide) (v := d (r0.toNat + 7)) (if_pos (by omega)) dX2_work_75 ?_
                                      refine lv_iload hx hb dX2_work_76 (lv_at hl 2 rfl) ?_
                                      refine s_tree (σ := xGraft σ (r0 * 8 + p0) i0) (ι := ι) (r := r0) (i := 7 - p0) hx hb hK hP (r0.toNat + 7) 2 (sw_row (by omega) (by omega)) rfl (by omega) (by omega) dX2_work_78 (fun ct78 => ?_) (fun ct78 => ?_)
                                      · skip
                                        refine lv_astoreN (lv' := [(11, .null), (10, .int (iI (4))), (9, .int (iI (tw (r0 * 8 + (7 - p0))))), (8, .int (iI (7 - p0))), (7, .int (iI (1))), (12, .int (iI (1))), (6, .int (iI (0))), (0, .ref (d 0)), (1, .int (iI (2))), (2, .int (iI (r0))), (3, .int (iI (p0))), (4, .int (iI (i0))), (5, .int (iI (0)))]) hx hb dX2_work_79 hl (by decide) rfl (fun ls hl => ?_)
                                        refine lv_iload_n hx hb dX2_work_81 rfl (lv_at hl 8 rfl) ?_
                                        refine gi_if_ne (tgt := 98) hx hb dX2_work_82 (by decide) ⟨by decide, by decide⟩ (fun c82 => ?_) (fun c82 => ?_)
                                        · skip
                                          refine lv_aloadN hx hb dX2_work_98 (lv_at hl 0 rfl) ?_
                                          refine lv_ifnullN (tgt := 148) hx hb dX2_work_100 (by decide) ?_
                                          refine lv_iconst (v := iI (0)) hx hb dX2_work_148 rfl ?_
                                          refine lv_istore (lv' := [(12, .int (iI (0))), (11, .null), (10, .int (iI (4))), (9, .int (iI (tw (r0 * 8 + (7 - p0))))), (8, .int (iI (7 - p0))), (7, .int (iI (1))), (6, .int (iI (0))), (0, .ref (d 0)), (1, .int (iI (2))), (2, .int (iI (r0))), (3, .int (iI (p0))), (4, .int (iI (i0))), (5, .int (iI (0)))]) hx hb dX2_work_149 hl (by decide) rfl (fun ls hl => ?_)
                                          refine lv_iload hx hb dX2_work_151 (lv_at hl 0 rfl) ?_
                                          refine gi_if_eq (tgt := 309) hx hb dX2_work_153 (by decide) ⟨by decide, by decide⟩ (fun c153 => ?_) (fun c153 => ?_)
                                          · skip
                                            have ha2 : grA (xGraft σ (r0 * 8 + p0) i0) (r0 * 8 + (7 - p0)) i0 = 0 := bI_f (by omega)
                                            have e8 : (xGraft σ (r0 * 8 + p0) i0) = (xGraft (xGraft σ (r0 * 8 + p0) i0) (r0 * 8 + (7 - p0)) i0) := (xGraft_n (by omega)).symm
                                            rw [e8] at hP hD
                                            have hP : va_P D vwCl (SW cI cT cU d (xGraft (xGraft σ (r0 * 8 + p0) i0) (r0 * 8 + (7 - p0)) i0) ι) H := hP
                                            have hD : va_D A (SW cI cT cU d (xGraft (xGraft σ (r0 * 8 + p0) i0) (r0 * 8 + (7 - p0)) i0) ι) := hD
                                            refine lv_iinc (v := iI (2)) (lv' := [(7, .int (iI (2))), (12, .int (iI (0))), (11, .null), (10, .int (iI (4))), (9, .int (iI (tw (r0 * 8 + (7 - p0))))), (8, .int (iI (7 - p0))), (6, .int (iI (0))), (0, .ref (d 0)), (1, .int (iI (2))), (2, .int (iI (r0))), (3, .int (iI (p0))), (4, .int (iI (i0))), (5, .int (iI (0)))]) hx hb dX2_work_309 hl (k := 5) rfl rfl (by decide) rfl (fun ls hl => ?_)
                                            refine lv_goto (tgt := 6) hx hb dX2_work_312 (by decide) ?_
                                            refine lv_iload hx hb dX2_work_6 (lv_at hl 0 rfl) ?_
                                            refine lv_iconst (v := iI (2)) hx hb dX2_work_8 rfl ?_
                                            refine gi_icmp_ge (tgt := 315) hx hb dX2_work_9 (by decide) ⟨by decide, by decide⟩ ⟨by decide, by decide⟩ (fun c9 => ?_) (fun c9 => ?_)
                                            · skip
                                              refine lv_iload hx hb dX2_work_315 (lv_at hl 6 rfl) ?_
                                              have ess : (xGraft (xGraft σ (r0 * 8 + p0) i0) (mir (r0 * 8 + p0)) i0) = (xGraft (xGraft σ (r0 * 8 + p0) i0) (r0 * 8 + (7 - p0)) i0) := by rw [em]
                                              have hP : va_P D vwCl (SW cI cT cU d (xGraft (xGraft σ (r0 * 8 + p0) i0) (mir (r0 * 8 + p0)) i0) ι) H := by rw [ess]; exact hP
                                              have hD : va_D A (SW cI cT cU d (xGraft (xGraft σ (r0 * 8 + p0) i0) (mir (r0 * 8 + p0)) i0) ι) := by rw [ess]; exact hD
                                              have er : ((who (grA σ (r0 * 8 + p0) i0) (grA (xGraft σ (r0 * 8 + p0) i0) (mir (r0 * 8 + p0)) i0) : Int)) = (0) := by rw [em, ha1, ha2]; decide
                                              exact g_iret (wo := (fun κ' => SW cI cT cU d (xGraft (xGraft σ (r0 * 8 + p0) i0) (mir (r0 * 8 + p0)) i0) (κ' 2))) (kr := (fun κ' => True)) (rv := (fun _ => some (.int (iI (who (grA σ (r0 * 8 + p0) i0) (grA (xGraft σ (r0 * 8 + p0) i0) (mir (r0 * 8 + p0)) i0)))))) hx hb hr hlocks (fun _ => ι) rfl hP hK hD hS trivial (by rw [er]) (Nat.le_of_ble_eq_true rfl) (Nat.le_of_ble_eq_true rfl) dX2_work_317
                                            · skip
                                              omega
                                          · skip
                                            exact absurd rfl c153
                                        · skip
                                          exact absurd c82 (by decide)
                                      · skip
                                        refine lv_astore (lv' := [(11, .ref (ι (r0 * 8 + (7 - p0))).toNat), (10, .int (iI (4))), (9, .int (iI (tw (r0 * 8 + (7 - p0))))), (8, .int (iI (7 - p0))), (7, .int (iI (1))), (12, .int (iI (1))), (6, .int (iI (0))), (0, .ref (d 0)), (1, .int (iI (2))), (2, .int (iI (r0))), (3, .int (iI (p0))), (4, .int (iI (i0))), (5, .int (iI (0)))]) hx hb dX2_work_79 hl (by decide) rfl (fun ls hl => ?_)
                                        refine lv_iload_n hx hb dX2_work_81 rfl (lv_at hl 8 rfl) ?_
                                        refine gi_if_ne (tgt := 98) hx hb dX2_work_82 (by decide) ⟨by decide, by decide⟩ (fun c82 => ?_) (fun c82 => ?_)
                                        · skip
                                          refine lv_aload hx hb dX2_work_98 (lv_at hl 0 rfl) ?_
                                          refine lv_ifnull hx hb dX2_work_100 ?_
                                          refine lv_iload_n hx hb dX2_work_103 rfl (lv_at hl 8 rfl) ?_
                                          refine lv_iconst (v := iI (1)) hx hb dX2_work_104 rfl ?_
                                          refine gi_icmp_ne (tgt := 121) hx hb dX2_work_105 (by decide) ⟨by decide, by decide⟩ ⟨by decide, by decide⟩ (fun c105 => ?_) (fun c105 => ?_)
                                          · skip
                                            refine lv_iload_n hx hb dX2_work_121 rfl (lv_at hl 8 rfl) ?_
                                            refine lv_iconst (v := iI (2)) hx hb dX2_work_122 rfl ?_
                                            refine gi_icmp_ne (tgt := 144) hx hb dX2_work_123 (by decide) ⟨by decide, by decide⟩ ⟨by decide, by decide⟩ (fun c123 => ?_) (fun c123 => ?_)
                                            · skip
                                              exact absurd rfl c123
                                            · skip
                                              refine lv_aload hx hb dX2_work_126 (lv_at hl 0 rfl) ?_
                                              refine va_get (D := D) (ci := 3) (v := .int (iI ((xGraft σ (r0 * 8 + p0) i0) 4 (r0 * 8 + (7 - p0))))) (C := RX3) (T := TX3) (N := 4) hx hb hts hinX3 hown hK hP (spos (xGraft σ (r0 * 8 + p0) i0) ι (r0 * 8 + (7 - p0))) (sw_at ct78 (by omega) (by omega)) rfl 2 (by decide) (hts (.fieldLink RX2 44 "TwinOrchardLaw$Tree" "sort" "I") (List.mem_of_getElem? (i := 3) rfl)) (fun _ h9 => h9) rfl dX2_work_128 ?_
                                              refine lv_iload hx hb dX2_work_131 (lv_at hl 11 rfl) ?_
                                              refine gi_icmp_eq (tgt := 148) hx hb dX2_work_133 (by decide) ⟨by omega, by omega⟩ ⟨by omega, by omega⟩ (fun c133 => ?_) (fun c133 => ?_)
                                              · skip
                                                refine lv_iconst (v := iI (0)) hx hb dX2_work_148 rfl ?_
                                                refine lv_istore (lv' := [(12, .int (iI (0))), (11, .ref (ι (r0 * 8 + (7 - p0))).toNat), (10, .int (iI (4))), (9, .int (iI (tw (r0 * 8 + (7 - p0))))), (8, .int (iI (7 - p0))), (7, .int (iI (1))), (6, .int (iI (0))), (0, .ref (d 0)), (1, .int (iI (2))), (2, .int (iI (r0))), (3, .int (iI (p0))), (4, .int (iI (i0))), (5, .int (iI (0)))]) hx hb dX2_work_149 hl (by decide) rfl (fun ls hl => ?_)
                                                refine lv_iload hx hb dX2_work_151 (lv_at hl 0 rfl) ?_
                                                refine gi_if_eq (tgt := 309) hx hb dX2_work_153 (by decide) ⟨by decide, by decide⟩ (fun c153 => ?_) (fun c153 => ?_)
                                                · skip
                                                  have ha2 : grA (xGraft σ (r0 * 8 + p0) i0) (r0 * 8 + (7 - p0)) i0 = 0 := bI_f (by omega)
                                                  have e8 : (xGraft σ (r0 * 8 + p0) i0) = (xGraft (xGraft σ (r0 * 8 + p0) i0) (r0 * 8 + (7 - p0)) i0) := (xGraft_n (by omega)).symm
                                                  rw [e8] at hP hD
                                                  have hP : va_P D vwCl (SW cI cT cU d (xGraft (xGraft σ (r0 * 8 + p0) i0) (r0 * 8 + (7 - p0)) i0) ι) H := hP
                                                  have hD : va_D A (SW cI cT cU d (xGraft (xGraft σ (r0 * 8 + p0) i0) (r0 * 8 + (7 - p0)) i0) ι) := hD
                                                  refine lv_iinc (v := iI (2)) (lv' := [(7, .int (iI (2))), (12, .int (iI (0))), (11, .ref (ι (r0 * 8 + (7 - p0))).toNat), (10, .int (iI (4))), (9, .int (iI (tw (r0 * 8 + (7 - p0))))), (8, .int (iI (7 - p0))), (6, .int (iI (0))), (0, .ref (d 0)), (1, .int (iI (2))), (2, .int (iI (r0))), (3, .int (iI (p0))), (4, .int (iI (i0))), (5, .int (iI (0)))]) hx hb dX2_work_309 hl (k := 5) rfl rfl (by decide) rfl (fun ls hl => ?_)
                                                  refine lv_goto (tgt := 6) hx hb dX2_work_312 (by decide) ?_
                                                  refine lv_iload hx hb dX2_work_6 (lv_at hl 0 rfl) ?_
                                                  refine lv_iconst (v := iI (2)) hx hb dX2_work_8 rfl ?_
                                                  refine gi_icmp_ge (tgt := 315) hx hb dX2_work_9 (by decide) ⟨by decide, by decide⟩ ⟨by decide, by decide⟩ (fun c9 => ?_) (fun c9 => ?_)
                                                  · skip
                                                    refine lv_iload hx hb dX2_work_315 (lv_at hl 6 rfl) ?_
                                                    have ess : (xGraft (xGraft σ (r0 * 8 + p0) i0) (mir (r0 * 8 + p0)) i0) = (xGraft (xGraft σ (r0 * 8 + p0) i0) (r0 * 8 + (7 - p0)) i0) := by rw [em]
                                                    have hP : va_P D vwCl (SW cI cT cU d (xGraft (xGraft σ (r0 * 8 + p0) i0) (mir (r0 * 8 + p0)) i0) ι) H := by rw [ess]; exact hP
                                                    have hD : va_D A (SW cI cT cU d (xGraft (xGraft σ (r0 * 8 + p0) i0) (mir (r0 * 8 + p0)) i0) ι) := by rw [ess]; exact hD
                                                    have er : ((who (grA σ (r0 * 8 + p0) i0) (grA (xGraft σ (r0 * 8 + p0) i0) (mir (r0 * 8 + p0)) i0) : Int)) = (0) := by rw [em, ha1, ha2]; decide
                                                    exact g_iret (wo := (fun κ' => SW cI cT cU d (xGraft (xGraft σ (r0 * 8 + p0) i0) (mir (r0 * 8 + p0)) i0) (κ' 2))) (kr := (fun κ' => True)) (rv := (fun _ => some (.int (iI (who (grA σ (r0 * 8 + p0) i0) (grA (xGraft σ (r0 * 8 + p0) i0) (mir (r0 * 8 + p0)) i0)))))) hx hb hr hlocks (fun _ => ι) rfl hP hK hD hS trivial (by rw [er]) (Nat.le_of_ble_eq_true rfl) (Nat.le_of_ble_eq_true rfl) dX2_work_317
                                                  · skip
                                                    omega
                                                · skip
                                                  exact absurd rfl c153
                                              · skip
                                                refine lv_aload hx hb dX2_work_136 (lv_at hl 0 rfl) ?_
                                                refine va_get (D := D) (ci := 3) (v := .int (iI ((xGraft σ (r0 * 8 + p0) i0) 5 (r0 * 8 + (7 - p0))))) (C := RX3) (T := TX3) (N := 4) hx hb hts hinX3 hown hK hP (spos (xGraft σ (r0 * 8 + p0) i0) ι (r0 * 8 + (7 - p0))) (sw_at ct78 (by omega) (by omega)) rfl 0 (by decide) (hts (.fieldLink RX2 41 "TwinOrchardLaw$Tree" "branches" "I") (List.mem_of_getElem? (i := 2) rfl)) (fun _ h9 => h9) rfl dX2_work_138 ?_
                                                refine gi_if_le (tgt := 148) hx hb dX2_work_141 (by decide) ⟨by omega, by omega⟩ (fun c141 => ?_) (fun c141 => ?_)
                                                · skip
                                                  refine lv_iconst (v := iI (0)) hx hb dX2_work_148 rfl ?_
                                                  refine lv_istore (lv' := [(12, .int (iI (0))), (11, .ref (ι (r0 * 8 + (7 - p0))).toNat), (10, .int (iI (4))), (9, .int (iI (tw (r0 * 8 + (7 - p0))))), (8, .int (iI (7 - p0))), (7, .int (iI (1))), (6, .int (iI (0))), (0, .ref (d 0)), (1, .int (iI (2))), (2, .int (iI (r0))), (3, .int (iI (p0))), (4, .int (iI (i0))), (5, .int (iI (0)))]) hx hb dX2_work_149 hl (by decide) rfl (fun ls hl => ?_)
                                                  refine lv_iload hx hb dX2_work_151 (lv_at hl 0 rfl) ?_
                                                  refine gi_if_eq (tgt := 309) hx hb dX2_work_153 (by decide) ⟨by decide, by decide⟩ (fun c153 => ?_) (fun c153 => ?_)
                                                  · skip
                                                    have ha2 : grA (xGraft σ (r0 * 8 + p0) i0) (r0 * 8 + (7 - p0)) i0 = 0 := bI_f (by omega)
                                                    have e8 : (xGraft σ (r0 * 8 + p0) i0) = (xGraft (xGraft σ (r0 * 8 + p0) i0) (r0 * 8 + (7 - p0)) i0) := (xGraft_n (by omega)).symm
                                                    rw [e8] at hP hD
                                                    have hP : va_P D vwCl (SW cI cT cU d (xGraft (xGraft σ (r0 * 8 + p0) i0) (r0 * 8 + (7 - p0)) i0) ι) H := hP
                                                    have hD : va_D A (SW cI cT cU d (xGraft (xGraft σ (r0 * 8 + p0) i0) (r0 * 8 + (7 - p0)) i0) ι) := hD
                                                    refine lv_iinc (v := iI (2)) (lv' := [(7, .int (iI (2))), (12, .int (iI (0))), (11, .ref (ι (r0 * 8 + (7 - p0))).toNat), (10, .int (iI (4))), (9, .int (iI (tw (r0 * 8 + (7 - p0))))), (8, .int (iI (7 - p0))), (6, .int (iI (0))), (0, .ref (d 0)), (1, .int (iI (2))), (2, .int (iI (r0))), (3, .int (iI (p0))), (4, .int (iI (i0))), (5, .int (iI (0)))]) hx hb dX2_work_309 hl (k := 5) rfl rfl (by decide) rfl (fun ls hl => ?_)
                                                    refine lv_goto (tgt := 6) hx hb dX2_work_312 (by decide) ?_
                                                    refine lv_iload hx hb dX2_work_6 (lv_at hl 0 rfl) ?_
                                                    refine lv_iconst (v := iI (2)) hx hb dX2_work_8 rfl ?_
                                                    refine gi_icmp_ge (tgt := 315) hx hb dX2_work_9 (by decide) ⟨by decide, by decide⟩ ⟨by decide, by decide⟩ (fun c9 => ?_) (fun c9 => ?_)
                                                    · skip
                                                      refine lv_iload hx hb dX2_work_315 (lv_at hl 6 rfl) ?_
                                                      have ess : (xGraft (xGraft σ (r0 * 8 + p0) i0) (mir (r0 * 8 + p0)) i0) = (xGraft (xGraft σ (r0 * 8 + p0) i0) (r0 * 8 + (7 - p0)) i0) := by rw [em]
                                                      have hP : va_P D vwCl (SW cI cT cU d (xGraft (xGraft σ (r0 * 8 + p0) i0) (mir (r0 * 8 + p0)) i0) ι) H := by rw [ess]; exact hP
                                                      have hD : va_D A (SW cI cT cU d (xGraft (xGraft σ (r0 * 8 + p0) i0) (mir (r0 * 8 + p0)) i0) ι) := by rw [ess]; exact hD
                                                      have er : ((who (grA σ (r0 * 8 + p0) i0) (grA (xGraft σ (r0 * 8 + p0) i0) (mir (r0 * 8 + p0)) i0) : Int)) = (0) := by rw [em, ha1, ha2]; decide
                                                      exact g_iret (wo := (fun κ' => SW cI cT cU d (xGraft (xGraft σ (r0 * 8 + p0) i0) (mir (r0 * 8 + p0)) i0) (κ' 2))) (kr := (fun κ' => True)) (rv := (fun _ => some (.int (iI (who (grA σ (r0 * 8 + p0) i0) (grA (xGraft σ (r0 * 8 + p0) i0) (mir (r0 * 8 + p0)) i0)))))) hx hb hr hlocks (fun _ => ι) rfl hP hK hD hS trivial (by rw [er]) (Nat.le_of_ble_eq_true rfl) (Nat.le_of_ble_eq_true rfl) dX2_work_317
                                                    · skip
                                                      omega
                                                  · skip
                                                    exact absurd rfl c153
                                                · skip
                                                  refine lv_iconst (v := iI (1)) hx hb dX2_work_144 rfl ?_
                                                  refine lv_goto (tgt := 149) hx hb dX2_work_145 (by decide) ?_
                                                  refine lv_istore (lv' := [(12, .int (iI (1))), (11, .ref (ι (r0 * 8 + (7 - p0))).toNat), (10, .int (iI (4))), (9, .int (iI (tw (r0 * 8 + (7 - p0))))), (8, .int (iI (7 - p0))), (7, .int (iI (1))), (6, .int (iI (0))), (0, .ref (d 0)), (1, .int (iI (2))), (2, .int (iI (r0))), (3, .int (iI (p0))), (4, .int (iI (i0))), (5, .int (iI (0)))]) hx hb dX2_work_149 hl (by decide) rfl (fun ls hl => ?_)
                                                  refine lv_iload hx hb dX2_work_151 (lv_at hl 0 rfl) ?_
                                                  refine gi_if_eq (tgt := 309) hx hb dX2_work_153 (by decide) ⟨by decide, by decide⟩ (fun c153 => ?_) (fun c153 => ?_)
                                                  · skip
                                                    exact absurd c153 (by decide)
                                                  · skip
                                                    refine lv_aload_n hx hb dX2_work_156 rfl (lv_at hl 7 rfl) ?_
                                                    refine va_get (D := D) (ci := 2) (v := .ref (d 6)) (C := RX2) (T := TX2) (N := 8) hx hb hts hinX2 hown hK hP 0 rfl rfl 5 (by decide) (hts (.fieldLink RX2 27 "TwinOrchardLaw$Sim" "strength" "[I") (List.mem_of_getElem? (i := 4) rfl)) (fun _ h9 => h9) rfl dX2_work_157 ?_
                                                    refine lv_iload hx hb dX2_work_160 (lv_at hl 3 rfl) ?_
                                                    refine gi_iald (a := d 6) (n := 2) (f := (xGraft σ (r0 * 8 + p0) i0) 8) hx hb hK hP 6 0 rfl rfl (by omega) (by omega) (by decide) dX2_work_162 ?_
                                                    refine lv_iload hx hb dX2_work_163 (lv_at hl 2 rfl) ?_
                                                    refine gi_icmp_ge (tgt := 171) hx hb dX2_work_165 (by decide) ⟨by omega, by omega⟩ ⟨by decide, by decide⟩ (fun c165 => ?_) (fun c165 => ?_)
                                                    · skip
                                                      refine lv_aload_n hx hb dX2_work_171 rfl (lv_at hl 7 rfl) ?_
                                                      refine va_get (D := D) (ci := 2) (v := .ref (d 6)) (C := RX2) (T := TX2) (N := 8) hx hb hts hinX2 hown hK hP 0 rfl rfl 5 (by decide) (hts (.fieldLink RX2 27 "TwinOrchardLaw$Sim" "strength" "[I") (List.mem_of_getElem? (i := 4) rfl)) (fun _ h9 => h9) rfl dX2_work_172 ?_
                                                      refine lv_iload hx hb dX2_work_175 (lv_at hl 3 rfl) ?_
                                                      refine lv_dup2_11 hx hb dX2_work_177 rfl rfl ?_
                                                      refine gi_iald (a := d 6) (n := 2) (f := (xGraft σ (r0 * 8 + p0) i0) 8) hx hb hK hP 6 0 rfl rfl (by omega) (by omega) (by decide) dX2_work_178 ?_
                                                      refine lv_iload hx hb dX2_work_179 (lv_at hl 2 rfl) ?_
                                                      refine gi_sub hx hb dX2_work_181 ?_
                                                      refine gi_iast (a := d 6) (n := 2) (f := (xGraft σ (r0 * 8 + p0) i0) 8) hx hb hK hP hD hS 6 0 rfl rfl (by omega) (by omega) (by decide) dX2_work_182 (fun H locs hP hD hS => ?_)
                                                      have hP : va_P D vwCl (SW cI cT cU d (su (xGraft σ (r0 * 8 + p0) i0) 8 (tw (r0 * 8 + (7 - p0))) (((xGraft σ (r0 * 8 + p0) i0) 8 (tw (r0 * 8 + (7 - p0)))) - 4)) ι) H := hP
                                                      have hD : va_D A (SW cI cT cU d (su (xGraft σ (r0 * 8 + p0) i0) 8 (tw (r0 * 8 + (7 - p0))) (((xGraft σ (r0 * 8 + p0) i0) 8 (tw (r0 * 8 + (7 - p0)))) - 4)) ι) := hD
                                                      refine lv_iload hx hb dX2_work_183 (lv_at hl 6 rfl) ?_
                                                      refine lv_iload hx hb dX2_work_185 (lv_at hl 5 rfl) ?_
                                                      refine lv_iconst (v := iI (1)) hx hb dX2_work_187 rfl ?_
                                                      refine gi_add hx hb dX2_work_188 ?_
                                                      refine gi_add hx hb dX2_work_189 ?_
                                                      refine lv_istore (lv' := [(6, .int (iI (0 + (1 + 1)))), (12, .int (iI (1))), (11, .ref (ι (r0 * 8 + (7 - p0))).toNat), (10, .int (iI (4))), (9, .int (iI (tw (r0 * 8 + (7 - p0))))), (8, .int (iI (7 - p0))), (7, .int (iI (1))), (0, .ref (d 0)), (1, .int (iI (2))), (2, .int (iI (r0))), (3, .int (iI (p0))), (4, .int (iI (i0))), (5, .int (iI (0)))]) hx hb dX2_work_190 hl (by decide) rfl (fun ls hl => ?_)
                                                      refine lv_iload_n hx hb dX2_work_192 rfl (lv_at hl 8 rfl) ?_
                                                      refine gi_if_ne (tgt := 233) hx hb dX2_work_193 (by decide) ⟨by decide, by decide⟩ (fun c193 => ?_) (fun c193 => ?_)
                                                      · skip
                                                        refine lv_iload_n hx hb dX2_work_233 rfl (lv_at hl 8 rfl) ?_
                                                        refine lv_iconst (v := iI (1)) hx hb dX2_work_234 rfl ?_
                                                        refine gi_icmp_ne (tgt := 259) hx hb dX2_work_235 (by decide) ⟨by decide, by decide⟩ ⟨by decide, by decide⟩ (fun c235 => ?_) (fun c235 => ?_)
                                                        · skip
                                                          refine lv_iload_n hx hb dX2_work_259 rfl (lv_at hl 8 rfl) ?_
                                                          refine lv_iconst (v := iI (2)) hx hb dX2_work_260 rfl ?_
                                                          refine gi_icmp_ne (tgt := 299) hx hb dX2_work_261 (by decide) ⟨by decide, by decide⟩ ⟨by decide, by decide⟩ (fun c261 => ?_) (fun c261 => ?_)
                                                          · skip
                                                            exact absurd rfl c261
                                                          · skip
                                                            refine lv_aload hx hb dX2_work_264 (lv_at hl 2 rfl) ?_
                                                            refine lv_iload hx hb dX2_work_266 (lv_at hl 11 rfl) ?_
                                                            refine va_put (D := D) (ci := 3) (v := .int (iI (i0))) (ty := .int) (C := RX3) (T := TX3) (N := 4) hx hb hts hinX3 tyX3 tyX3_ok nmX3 hown hK hP hD hS (spos (su (xGraft σ (r0 * 8 + p0) i0) 8 (tw (r0 * 8 + (7 - p0))) (((xGraft σ (r0 * 8 + p0) i0) 8 (tw (r0 * 8 + (7 - p0)))) - 4)) ι (r0 * 8 + (7 - p0))) (sw_at ct78 (by omega) (by omega)) rfl 2 (by decide) (hts (.fieldLink RX2 44 "TwinOrchardLaw$Tree" "sort" "I") (List.mem_of_getElem? (i := 3) rfl)) (fun _ h9 => h9) rfl (by decide +kernel) rfl rfl (Nat.le_of_ble_eq_true rfl) dX2_work_268 (fun H locs hP hD hS => ?_)
                                                            have hP : va_P D vwCl (SW cI cT cU d (su (su (xGraft σ (r0 * 8 + p0) i0) 8 (tw (r0 * 8 + (7 - p0))) (((xGraft σ (r0 * 8 + p0) i0) 8 (tw (r0 * 8 + (7 - p0)))) - 4)) 4 (r0 * 8 + (7 - p0)) (i0)) ι) H := va_Pe (sw_put4 (cI := cI) (cT := cT) (cU := cU) (d := d) (σ := su (xGraft σ (r0 * 8 + p0) i0) 8 (tw (r0 * 8 + (7 - p0))) (((xGraft σ (r0 * 8 + p0) i0) 8 (tw (r0 * 8 + (7 - p0)))) - 4)) (ι := ι) (k := r0 * 8 + (7 - p0)) (v := i0) (by omega) ct78 (by omega) (by omega)) hP
                                                            have hD : va_D A (SW cI cT cU d (su (su (xGraft σ (r0 * 8 + p0) i0) 8 (tw (r0 * 8 + (7 - p0))) (((xGraft σ (r0 * 8 + p0) i0) 8 (tw (r0 * 8 + (7 - p0)))) - 4)) 4 (r0 * 8 + (7 - p0)) (i0)) ι) := va_De (sw_put4 (cI := cI) (cT := cT) (cU := cU) (d := d) (σ := su (xGraft σ (r0 * 8 + p0) i0) 8 (tw (r0 * 8 + (7 - p0))) (((xGraft σ (r0 * 8 + p0) i0) 8 (tw (r0 * 8 + (7 - p0)))) - 4)) (ι := ι) (k := r0 * 8 + (7 - p0)) (v := i0) (by omega) ct78 (by omega) (by omega)) hD
                                                            have ct268 : ¬ (su (su (xGraft σ (r0 * 8 + p0) i0) 8 (tw (r0 * 8 + (7 - p0))) (((xGraft σ (r0 * 8 + p0) i0) 8 (tw (r0 * 8 + (7 - p0)))) - 4)) 4 (r0 * 8 + (7 - p0)) (i0)) 4 (r0 * 8 + (7 - p0)) = -1 := by show ¬ fu _ _ _ _ = -1; rw [fu_s]; omega
                                                            refine lv_aload hx hb dX2_work_271 (lv_at hl 2 rfl) ?_
                                                            refine lv_aload hx hb dX2_work_273 (lv_at hl 2 rfl) ?_
                                                            refine va_get (D := D) (ci := 3) (v := .int (iI ((su (su (xGraft σ (r0 * 8 + p0) i0) 8 (tw (r0 * 8 + (7 - p0))) (((xGraft σ (r0 * 8 + p0) i0) 8 (tw (r0 * 8 + (7 - p0)))) - 4)) 4 (r0 * 8 + (7 - p0)) (i0)) 5 (r0 * 8 + (7 - p0))))) (C := RX3) (T := TX3) (N := 4) hx hb hts hinX3 hown hK hP (spos (su (su (xGraft σ (r0 * 8 + p0) i0) 8 (tw (r0 * 8 + (7 - p0))) (((xGraft σ (r0 * 8 + p0) i0) 8 (tw (r0 * 8 + (7 - p0)))) - 4)) 4 (r0 * 8 + (7 - p0)) (i0)) ι (r0 * 8 + (7 - p0))) (sw_at ct268 (by omega) (by omega)) rfl 0 (by decide) (hts (.fieldLink RX2 41 "TwinOrchardLaw$Tree" "branches" "I") (List.mem_of_getElem? (i := 2) rfl)) (fun _ h9 => h9) rfl dX2_work_275 ?_
                                                            rw [show ((su (su (xGraft σ (r0 * 8 + p0) i0) 8 (tw (r0 * 8 + (7 - p0))) (((xGraft σ (r0 * 8 + p0) i0) 8 (tw (r0 * 8 + (7 - p0)))) - 4)) 4 (r0 * 8 + (7 - p0)) (i0)) 5 (r0 * 8 + (7 - p0))) = ((xGraft σ (r0 * 8 + p0) i0) 5 (r0 * 8 + (7 - p0))) from by rfl]
                                                            refine lv_iconst (v := iI (1)) hx hb dX2_work_278 rfl ?_
                                                            refine gi_icmp_le (tgt := 292) hx hb dX2_work_279 (by decide) ⟨by omega, by omega⟩ ⟨by decide, by decide⟩ (fun c279 => ?_) (fun c279 => ?_)
                                                            · skip
                                                              refine lv_iconst (v := iI (1)) hx hb dX2_work_292 rfl ?_
                                                              refine va_put (D := D) (ci := 3) (v := .int (iI (1))) (ty := .int) (C := RX3) (T := TX3) (N := 4) hx hb hts hinX3 tyX3 tyX3_ok nmX3 hown hK hP hD hS (spos (su (su (xGraft σ (r0 * 8 + p0) i0) 8 (tw (r0 * 8 + (7 - p0))) (((xGraft σ (r0 * 8 + p0) i0) 8 (tw (r0 * 8 + (7 - p0)))) - 4)) 4 (r0 * 8 + (7 - p0)) (i0)) ι (r0 * 8 + (7 - p0))) (sw_at ct268 (by omega) (by omega)) rfl 0 (by decide) (hts (.fieldLink RX2 41 "TwinOrchardLaw$Tree" "branches" "I") (List.mem_of_getElem? (i := 2) rfl)) (fun _ h9 => h9) rfl (by decide +kernel) rfl rfl (Nat.le_of_ble_eq_true rfl) dX2_work_293 (fun H locs hP hD hS => ?_)
                                                              have hP : va_P D vwCl (SW cI cT cU d (su (su (su (xGraft σ (r0 * 8 + p0) i0) 8 (tw (r0 * 8 + (7 - p0))) (((xGraft σ (r0 * 8 + p0) i0) 8 (tw (r0 * 8 + (7 - p0)))) - 4)) 4 (r0 * 8 + (7 - p0)) (i0)) 5 (r0 * 8 + (7 - p0)) (1)) ι) H := va_Pe (sw_put5 (cI := cI) (cT := cT) (cU := cU) (d := d) (σ := su (su (xGraft σ (r0 * 8 + p0) i0) 8 (tw (r0 * 8 + (7 - p0))) (((xGraft σ (r0 * 8 + p0) i0) 8 (tw (r0 * 8 + (7 - p0)))) - 4)) 4 (r0 * 8 + (7 - p0)) (i0)) (ι := ι) (k := r0 * 8 + (7 - p0)) (v := 1) ct268 (by omega) (by omega)) hP
                                                              have hD : va_D A (SW cI cT cU d (su (su (su (xGraft σ (r0 * 8 + p0) i0) 8 (tw (r0 * 8 + (7 - p0))) (((xGraft σ (r0 * 8 + p0) i0) 8 (tw (r0 * 8 + (7 - p0)))) - 4)) 4 (r0 * 8 + (7 - p0)) (i0)) 5 (r0 * 8 + (7 - p0)) (1)) ι) := va_De (sw_put5 (cI := cI) (cT := cT) (cU := cU) (d := d) (σ := su (su (xGraft σ (r0 * 8 + p0) i0) 8 (tw (r0 * 8 + (7 - p0))) (((xGraft σ (r0 * 8 + p0) i0) 8 (tw (r0 * 8 + (7 - p0)))) - 4)) 4 (r0 * 8 + (7 - p0)) (i0)) (ι := ι) (k := r0 * 8 + (7 - p0)) (v := 1) ct268 (by omega) (by omega)) hD
                                                              refine lv_goto (tgt := 309) hx hb dX2_work_296 (by decide) ?_
                                                              have ha2 : grA (xGraft σ (r0 * 8 + p0) i0) (r0 * 8 + (7 - p0)) i0 = 1 := bI_t (by omega)
                                                              have e8 : (su (su (su (xGraft σ (r0 * 8 + p0) i0) 8 (tw (r0 * 8 + (7 - p0))) (((xGraft σ (r0 * 8 + p0) i0) 8 (tw (r0 * 8 + (7 - p0)))) - 4)) 4 (r0 * 8 + (7 - p0)) (i0)) 5 (r0 * 8 + (7 - p0)) (1)) = (xGraft (xGraft σ (r0 * 8 + p0) i0) (r0 * 8 + (7 - p0)) i0) := (xGraft_y (by omega) (by omega)).symm
                                                              rw [e8] at hP hD
                                                              have hP : va_P D vwCl (SW cI cT cU d (xGraft (xGraft σ (r0 * 8 + p0) i0) (r0 * 8 + (7 - p0)) i0) ι) H := hP
                                                              have hD : va_D A (SW cI cT cU d (xGraft (xGraft σ (r0 * 8 + p0) i0) (r0 * 8 + (7 - p0)) i0) ι) := hD
                                                              refine lv_iinc (v := iI (2)) (lv' := [(7, .int (iI (2))), (6, .int (iI (0 + (1 + 1)))), (12, .int (iI (1))), (11, .ref (ι (r0 * 8 + (7 - p0))).toNat), (10, .int (iI (4))), (9, .int (iI (tw (r0 * 8 + (7 - p0))))), (8, .int (iI (7 - p0))), (0, .ref (d 0)), (1, .int (iI (2))), (2, .int (iI (r0))), (3, .int (iI (p0))), (4, .int (iI (i0))), (5, .int (iI (0)))]) hx hb dX2_work_309 hl (k := 6) rfl rfl (by decide) rfl (fun ls hl => ?_)
                                                              refine lv_goto (tgt := 6) hx hb dX2_work_312 (by decide) ?_
                                                              refine lv_iload hx hb dX2_work_6 (lv_at hl 0 rfl) ?_
                                                              refine lv_iconst (v := iI (2)) hx hb dX2_work_8 rfl ?_
                                                              refine gi_icmp_ge (tgt := 315) hx hb dX2_work_9 (by decide) ⟨by decide, by decide⟩ ⟨by decide, by decide⟩ (fun c9 => ?_) (fun c9 => ?_)
                                                              · skip
                                                                refine lv_iload hx hb dX2_work_315 (lv_at hl 1 rfl) ?_
                                                                have ess : (xGraft (xGraft σ (r0 * 8 + p0) i0) (mir (r0 * 8 + p0)) i0) = (xGraft (xGraft σ (r0 * 8 + p0) i0) (r0 * 8 + (7 - p0)) i0) := by rw [em]
                                                                have hP : va_P D vwCl (SW cI cT cU d (xGraft (xGraft σ (r0 * 8 + p0) i0) (mir (r0 * 8 + p0)) i0) ι) H := by rw [ess]; exact hP
                                                                have hD : va_D A (SW cI cT cU d (xGraft (xGraft σ (r0 * 8 + p0) i0) (mir (r0 * 8 + p0)) i0) ι) := by rw [ess]; exact hD
                                                                have er : ((who (grA σ (r0 * 8 + p0) i0) (grA (xGraft σ (r0 * 8 + p0) i0) (mir (r0 * 8 + p0)) i0) : Int)) = (0 + (1 + 1)) := by rw [em, ha1, ha2]; decide
                                                                exact g_iret (wo := (fun κ' => SW cI cT cU d (xGraft (xGraft σ (r0 * 8 + p0) i0) (mir (r0 * 8 + p0)) i0) (κ' 2))) (kr := (fun κ' => True)) (rv := (fun _ => some (.int (iI (who (grA σ (r0 * 8 + p0) i0) (grA (xGraft σ (r0 * 8 + p0) i0) (mir (r0 * 8 + p0)) i0)))))) hx hb hr hlocks (fun _ => ι) rfl hP hK hD hS trivial (by rw [er]) (Nat.le_of_ble_eq_true rfl) (Nat.le_of_ble_eq_true rfl) dX2_work_317
                                                              · skip
                                                                omega
                                                            · skip
                                                              refine lv_aload hx hb dX2_work_282 (lv_at hl 2 rfl) ?_
                                                              refine va_get (D := D) (ci := 3) (v := .int (iI ((su (su (xGraft σ (r0 * 8 + p0) i0) 8 (tw (r0 * 8 + (7 - p0))) (((xGraft σ (r0 * 8 + p0) i0) 8 (tw (r0 * 8 + (7 - p0)))) - 4)) 4 (r0 * 8 + (7 - p0)) (i0)) 5 (r0 * 8 + (7 - p0))))) (C := RX3) (T := TX3) (N := 4) hx hb hts hinX3 hown hK hP (spos (su (su (xGraft σ (r0 * 8 + p0) i0) 8 (tw (r0 * 8 + (7 - p0))) (((xGraft σ (r0 * 8 + p0) i0) 8 (tw (r0 * 8 + (7 - p0)))) - 4)) 4 (r0 * 8 + (7 - p0)) (i0)) ι (r0 * 8 + (7 - p0))) (sw_at ct268 (by omega) (by omega)) rfl 0 (by decide) (hts (.fieldLink RX2 41 "TwinOrchardLaw$Tree" "branches" "I") (List.mem_of_getElem? (i := 2) rfl)) (fun _ h9 => h9) rfl dX2_work_284 ?_
                                                              rw [show ((su (su (xGraft σ (r0 * 8 + p0) i0) 8 (tw (r0 * 8 + (7 - p0))) (((xGraft σ (r0 * 8 + p0) i0) 8 (tw (r0 * 8 + (7 - p0)))) - 4)) 4 (r0 * 8 + (7 - p0)) (i0)) 5 (r0 * 8 + (7 - p0))) = ((xGraft σ (r0 * 8 + p0) i0) 5 (r0 * 8 + (7 - p0))) from by rfl]
                                                              refine lv_iconst (v := iI (2)) hx hb dX2_work_287 rfl ?_
                                                              refine gi_div hx hb ⟨by omega, by omega⟩ ⟨by omega, by omega⟩ dX2_work_288 ?_
                                                              refine lv_goto (tgt := 293) hx hb dX2_work_289 (by decide) ?_
                                                              refine va_put (D := D) (ci := 3) (v := .int (iI (((xGraft σ (r0 * 8 + p0) i0) 5 (r0 * 8 + (7 - p0))) / 2))) (ty := .int) (C := RX3) (T := TX3) (N := 4) hx hb hts hinX3 tyX3 tyX3_ok nmX3 hown hK hP hD hS (spos (su (su (xGraft σ (r0 * 8 + p0) i0) 8 (tw (r0 * 8 + (7 - p0))) (((xGraft σ (r0 * 8 + p0) i0) 8 (tw (r0 * 8 + (7 - p0)))) - 4)) 4 (r0 * 8 + (7 - p0)) (i0)) ι (r0 * 8 + (7 - p0))) (sw_at ct268 (by omega) (by omega)) rfl 0 (by decide) (hts (.fieldLink RX2 41 "TwinOrchardLaw$Tree" "branches" "I") (List.mem_of_getElem? (i := 2) rfl)) (fun _ h9 => h9) rfl (by decide +kernel) rfl rfl (Nat.le_of_ble_eq_true rfl) dX2_work_293 (fun H locs hP hD hS => ?_)
                                                              have hP : va_P D vwCl (SW cI cT cU d (su (su (su (xGraft σ (r0 * 8 + p0) i0) 8 (tw (r0 * 8 + (7 - p0))) (((xGraft σ (r0 * 8 + p0) i0) 8 (tw (r0 * 8 + (7 - p0)))) - 4)) 4 (r0 * 8 + (7 - p0)) (i0)) 5 (r0 * 8 + (7 - p0)) (((xGraft σ (r0 * 8 + p0) i0) 5 (r0 * 8 + (7 - p0))) / 2)) ι) H := va_Pe (sw_put5 (cI := cI) (cT := cT) (cU := cU) (d := d) (σ := su (su (xGraft σ (r0 * 8 + p0) i0) 8 (tw (r0 * 8 + (7 - p0))) (((xGraft σ (r0 * 8 + p0) i0) 8 (tw (r0 * 8 + (7 - p0)))) - 4)) 4 (r0 * 8 + (7 - p0)) (i0)) (ι := ι) (k := r0 * 8 + (7 - p0)) (v := ((xGraft σ (r0 * 8 + p0) i0) 5 (r0 * 8 + (7 - p0))) / 2) ct268 (by omega) (by omega)) hP
                                                              have hD : va_D A (SW cI cT cU d (su (su (su (xGraft σ (r0 * 8 + p0) i0) 8 (tw (r0 * 8 + (7 - p0))) (((xGraft σ (r0 * 8 + p0) i0) 8 (tw (r0 * 8 + (7 - p0)))) - 4)) 4 (r0 * 8 + (7 - p0)) (i0)) 5 (r0 * 8 + (7 - p0)) (((xGraft σ (r0 * 8 + p0) i0) 5 (r0 * 8 + (7 - p0))) / 2)) ι) := va_De (sw_put5 (cI := cI) (cT := cT) (cU := cU) (d := d) (σ := su (su (xGraft σ (r0 * 8 + p0) i0) 8 (tw (r0 * 8 + (7 - p0))) (((xGraft σ (r0 * 8 + p0) i0) 8 (tw (r0 * 8 + (7 - p0)))) - 4)) 4 (r0 * 8 + (7 - p0)) (i0)) (ι := ι) (k := r0 * 8 + (7 - p0)) (v := ((xGraft σ (r0 * 8 + p0) i0) 5 (r0 * 8 + (7 - p0))) / 2) ct268 (by omega) (by omega)) hD
                                                              refine lv_goto (tgt := 309) hx hb dX2_work_296 (by decide) ?_
                                                              have ha2 : grA (xGraft σ (r0 * 8 + p0) i0) (r0 * 8 + (7 - p0)) i0 = 1 := bI_t (by omega)
                                                              have e8 : (su (su (su (xGraft σ (r0 * 8 + p0) i0) 8 (tw (r0 * 8 + (7 - p0))) (((xGraft σ (r0 * 8 + p0) i0) 8 (tw (r0 * 8 + (7 - p0)))) - 4)) 4 (r0 * 8 + (7 - p0)) (i0)) 5 (r0 * 8 + (7 - p0)) (((xGraft σ (r0 * 8 + p0) i0) 5 (r0 * 8 + (7 - p0))) / 2)) = (xGraft (xGraft σ (r0 * 8 + p0) i0) (r0 * 8 + (7 - p0)) i0) := (xGraft_y (by omega) (by omega)).symm
                                                              rw [e8] at hP hD
                                                              have hP : va_P D vwCl (SW cI cT cU d (xGraft (xGraft σ (r0 * 8 + p0) i0) (r0 * 8 + (7 - p0)) i0) ι) H := hP
                                                              have hD : va_D A (SW cI cT cU d (xGraft (xGraft σ (r0 * 8 + p0) i0) (r0 * 8 + (7 - p0)) i0) ι) := hD
                                                              refine lv_iinc (v := iI (2)) (lv' := [(7, .int (iI (2))), (6, .int (iI (0 + (1 + 1)))), (12, .int (iI (1))), (11, .ref (ι (r0 * 8 + (7 - p0))).toNat), (10, .int (iI (4))), (9, .int (iI (tw (r0 * 8 + (7 - p0))))), (8, .int (iI (7 - p0))), (0, .ref (d 0)), (1, .int (iI (2))), (2, .int (iI (r0))), (3, .int (iI (p0))), (4, .int (iI (i0))), (5, .int (iI (0)))]) hx hb dX2_work_309 hl (k := 6) rfl rfl (by decide) rfl (fun ls hl => ?_)
                                                              refine lv_goto (tgt := 6) hx hb dX2_work_312 (by decide) ?_
                                                              refine lv_iload hx hb dX2_work_6 (lv_at hl 0 rfl) ?_
                                                              refine lv_iconst (v := iI (2)) hx hb dX2_work_8 rfl ?_
                                                              refine gi_icmp_ge (tgt := 315) hx hb dX2_work_9 (by decide) ⟨by decide, by decide⟩ ⟨by decide, by decide⟩ (fun c9 => ?_) (fun c9 => ?_)
                                                              · skip
                                                                refine lv_iload hx hb dX2_work_315 (lv_at hl 1 rfl) ?_
                                                                have ess : (xGraft (xGraft σ (r0 * 8 + p0) i0) (mir (r0 * 8 + p0)) i0) = (xGraft (xGraft σ (r0 * 8 + p0) i0) (r0 * 8 + (7 - p0)) i0) := by rw [em]
                                                                have hP : va_P D vwCl (SW cI cT cU d (xGraft (xGraft σ (r0 * 8 + p0) i0) (mir (r0 * 8 + p0)) i0) ι) H := by rw [ess]; exact hP
                                                                have hD : va_D A (SW cI cT cU d (xGraft (xGraft σ (r0 * 8 + p0) i0) (mir (r0 * 8 + p0)) i0) ι) := by rw [ess]; exact hD
                                                                have er : ((who (grA σ (r0 * 8 + p0) i0) (grA (xGraft σ (r0 * 8 + p0) i0) (mir (r0 * 8 + p0)) i0) : Int)) = (0 + (1 + 1)) := by rw [em, ha1, ha2]; decide
                                                                exact g_iret (wo := (fun κ' => SW cI cT cU d (xGraft (xGraft σ (r0 * 8 + p0) i0) (mir (r0 * 8 + p0)) i0) (κ' 2))) (kr := (fun κ' => True)) (rv := (fun _ => some (.int (iI (who (grA σ (r0 * 8 + p0) i0) (grA (xGraft σ (r0 * 8 + p0) i0) (mir (r0 * 8 + p0)) i0)))))) hx hb hr hlocks (fun _ => ι) rfl hP hK hD hS trivial (by rw [er]) (Nat.le_of_ble_eq_true rfl) (Nat.le_of_ble_eq_true rfl) dX2_work_317
                                                              · skip
                                                                omega
                                                        · skip
                                                          exact absurd c235 (by decide)
                                                      · skip
                                                        exact absurd c193 (by decide)
                                                    · skip
                                                      refine lv_goto (tgt := 309) hx hb dX2_work_168 (by decide) ?_
                                                      have ha2 : grA (xGraft σ (r0 * 8 + p0) i0) (r0 * 8 + (7 - p0)) i0 = 0 := bI_f (by omega)
                                                      have e8 : (xGraft σ (r0 * 8 + p0) i0) = (xGraft (xGraft σ (r0 * 8 + p0) i0) (r0 * 8 + (7 - p0)) i0) := (xGraft_n (by omega)).symm
                                                      rw [e8] at hP hD
                                                      have hP : va_P D vwCl (SW cI cT cU d (xGraft (xGraft σ (r0 * 8 + p0) i0) (r0 * 8 + (7 - p0)) i0) ι) H := hP
                                                      have hD : va_D A (SW cI cT cU d (xGraft (xGraft σ (r0 * 8 + p0) i0) (r0 * 8 + (7 - p0)) i0) ι) := hD
                                                      refine lv_iinc (v := iI (2)) (lv' := [(7, .int (iI (2))), (12, .int (iI (1))), (11, .ref (ι (r0 * 8 + (7 - p0))).toNat), (10, .int (iI (4))), (9, .int (iI (tw (r0 * 8 + (7 - p0))))), (8, .int (iI (7 - p0))), (6, .int (iI (0))), (0, .ref (d 0)), (1, .int (iI (2))), (2, .int (iI (r0))), (3, .int (iI (p0))), (4, .int (iI (i0))), (5, .int (iI (0)))]) hx hb dX2_work_309 hl (k := 5) rfl rfl (by decide) rfl (fun ls hl => ?_)
                                                      refine lv_goto (tgt := 6) hx hb dX2_work_312 (by decide) ?_
                                                      refine lv_iload hx hb dX2_work_6 (lv_at hl 0 rfl) ?_
                                                      refine lv_iconst (v := iI (2)) hx hb dX2_work_8 rfl ?_
                                                      refine gi_icmp_ge (tgt := 315) hx hb dX2_work_9 (by decide) ⟨by decide, by decide⟩ ⟨by decide, by decide⟩ (fun c9 => ?_) (fun c9 => ?_)
                                                      · skip
                                                        refine lv_iload hx hb dX2_work_315 (lv_at hl 6 rfl) ?_
                                                        have ess : (xGraft (xGraft σ (r0 * 8 + p0) i0) (mir (r0 * 8 + p0)) i0) = (xGraft (xGraft σ (r0 * 8 + p0) i0) (r0 * 8 + (7 - p0)) i0) := by rw [em]
                                                        have hP : va_P D vwCl (SW cI cT cU d (xGraft (xGraft σ (r0 * 8 + p0) i0) (mir (r0 * 8 + p0)) i0) ι) H := by rw [ess]; exact hP
                                                        have hD : va_D A (SW cI cT cU d (xGraft (xGraft σ (r0 * 8 + p0) i0) (mir (r0 * 8 + p0)) i0) ι) := by rw [ess]; exact hD
                                                        have er : ((who (grA σ (r0 * 8 + p0) i0) (grA (xGraft σ (r0 * 8 + p0) i0) (mir (r0 * 8 + p0)) i0) : Int)) = (0) := by rw [em, ha1, ha2]; decide
                                                        exact g_iret (wo := (fun κ' => SW cI cT cU d (xGraft (xGraft σ (r0 * 8 + p0) i0) (mir (r0 * 8 + p0)) i0) (κ' 2))) (kr := (fun κ' => True)) (rv := (fun _ => some (.int (iI (who (grA σ (r0 * 8 + p0) i0) (grA (xGraft σ (r0 * 8 + p0) i0) (mir (r0 * 8 + p0)) i0)))))) hx hb hr hlocks (fun _ => ι) rfl hP hK hD hS trivial (by rw [er]) (Nat.le_of_ble_eq_true rfl) (Nat.le_of_ble_eq_true rfl) dX2_work_317
                                                      · skip
                                                        omega
                                          · skip
                                            exact absurd c105 (by decide)
                                        · skip
                                          exact absurd c82 (by decide)
                                  · skip
                                    exact absurd c50 (by decide)
                                · skip
                                  exact absurd c41 (by decide)
                              · skip
                                exact absurd c14 (by decide)
                · skip
                  exact absurd c105 (by decide)
              · skip
                exact absurd c82 (by decide)
        · skip
          exact absurd c50 (by decide)
      · skip
        exact absurd c41 (by decide)
set_option maxHeartbeats 4000000 in
set_option maxRecDepth 100000 in
theorem kX2_work_3 (l : Launch) (D : va_G) (cI cZ cT cU cQ : ClassId) (d : Nat → Nat) (σ : St) (ι : Int → Int) (r0 : Int) (p0 : Int) (hwf : xWF σ) (hr : 0 ≤ r0 ∧ r0 ≤ 4) (hp : 0 ≤ p0 ∧ p0 ≤ 7) : gMet l yX2_work wsX2_work ({ frames := 2, cells := 0, slots := 0, locals := 44 } : Room) D (tyA cI cZ cT cU cQ) (SW cI cT cU d σ ι) [.ref (d 0), .int (iI (3)), .int (iI (r0)), .int (iI (p0)), .int (iI (0)), .int (iI (0))] nst (fun _ => some (.int (iI (who (feA σ (r0 * 8 + p0)) (feA (xFell σ (r0 * 8 + p0)) (mir (r0 * 8 + p0))))))) (fun κ' => True) (fun κ' => SW cI cT cU d (xFell (xFell σ (r0 * 8 + p0)) (mir (r0 * 8 + p0))) (κ' 2)) := by
  refine g_start (cc := cX2_work) (maxL := 13) (ret := (some .int)) (by decide) rfl (Nat.le_of_ble_eq_true rfl) ?_
  intro p e s m args below meth c A ls H locs S hr hlocks hname hP hK hD hA hS hE hl
  have S0 := S
  obtain ⟨hx, hb, hml, hown, hts⟩ := S0
  have hl : lv_has ls 13 [(0, .ref (d 0)), (1, .int (iI (3))), (2, .int (iI (r0))), (3, .int (iI (p0))), (4, .int (iI (0))), (5, .int (iI (0)))] := hl
  have hinX2 : ∀ w ∈ wsX20, w ∈ wsX2_work := by decide +kernel
  have hinX3 : ∀ w ∈ wsX30, w ∈ wsX2_work := by decide +kernel
  have kt := tw_in (r0 * 8 + p0)
  have kt2 := tw_in (r0 * 8 + (7 - p0))
  have k4 := xWF_4 hwf (r0 * 8 + p0)
  have k5 := xWF_5 hwf (r0 * 8 + p0)
  have k8 := xWF_8 hwf (tw (r0 * 8 + p0))
  have em : mir (r0 * 8 + p0) = r0 * 8 + (7 - p0) := by unfold mir; omega
  refine lv_iconst (v := iI (0)) hx hb dX2_work_0 rfl ?_
  refine lv_istore (lv' := [(6, .int (iI (0))), (0, .ref (d 0)), (1, .int (iI (3))), (2, .int (iI (r0))), (3, .int (iI (p0))), (4, .int (iI (0))), (5, .int (iI (0)))]) hx hb dX2_work_1 hl (by decide) rfl (fun ls hl => ?_)
  refine lv_iconst (v := iI (0)) hx hb dX2_work_3 rfl ?_
  refine lv_istore (lv' := [(7, .int (iI (0))), (6, .int (iI (0))), (0, .ref (d 0)), (1, .int (iI (3))), (2, .int (iI (r0))), (3, .int (iI (p0))), (4, .int (iI (0))), (5, .int (iI (0)))]) hx hb dX2_work_4 hl (by decide) rfl (fun ls hl => ?_)
  refine lv_iload hx hb dX2_work_6 (lv_at hl 0 rfl) ?_
  refine lv_iconst (v := iI (2)) hx hb dX2_work_8 rfl ?_
  refine gi_icmp_ge (tgt := 315) hx hb dX2_work_9 (by decide) ⟨by decide, by decide⟩ ⟨by decide, by decide⟩ (fun c9 => ?_) (fun c9 => ?_)
  · skip
    exact absurd c9 (by decide)
  · skip
    refine lv_iload hx hb dX2_work_12 (lv_at hl 0 rfl) ?_
    refine gi_if_ne (tgt := 21) hx hb dX2_work_14 (by decide) ⟨by decide, by decide⟩ (fun c14 => ?_) (fun c14 => ?_)
    · skip
      exact absurd rfl c14
    · skip
      refine lv_iload_n hx hb dX2_work_17 rfl (lv_at hl 5 rfl) ?_
      refine lv_goto (tgt := 25) hx hb dX2_work_18 (by decide) ?_
      refine lv_istore (lv' := [(8, .int (iI (p0))), (7, .int (iI (0))), (6, .int (iI (0))), (0, .ref (d 0)), (1, .int (iI (3))), (2, .int (iI (r0))), (3, .int (iI (p0))), (4, .int (iI (0))), (5, .int (iI (0)))]) hx hb dX2_work_25 hl (by decide) rfl (fun ls hl => ?_)
      refine lv_iload hx hb dX2_work_27 (lv_at hl 0 rfl) ?_
      refine lv_iconst (v := iI (4)) hx hb dX2_work_29 rfl ?_
      refine g_selGe (u := 0) (v := 1) (t1 := 37) (t2 := 38) hx hb ⟨by omega, by omega⟩ ⟨by decide, by decide⟩ dX2_work_30 (by decide) (fun st h => lv_iconst (v := iI (0)) hx hb dX2_work_33 rfl (lv_goto (tgt := 38) hx hb dX2_work_34 (by decide) h)) (fun st h => lv_iconst (v := iI (1)) hx hb dX2_work_37 rfl h) ?_
      rw [show (if p0 < 4 then (0 : Int) else 1) = tw (r0 * 8 + p0) from by unfold tw; split <;> split <;> omega]
      refine lv_istore (lv' := [(9, .int (iI (tw (r0 * 8 + p0)))), (8, .int (iI (p0))), (7, .int (iI (0))), (6, .int (iI (0))), (0, .ref (d 0)), (1, .int (iI (3))), (2, .int (iI (r0))), (3, .int (iI (p0))), (4, .int (iI (0))), (5, .int (iI (0)))]) hx hb dX2_work_38 hl (by decide) rfl (fun ls hl => ?_)
      refine lv_iload_n hx hb dX2_work_40 rfl (lv_at hl 5 rfl) ?_
      refine gi_if_ne (tgt := 48) hx hb dX2_work_41 (by decide) ⟨by decide, by decide⟩ (fun c41 => ?_) (fun c41 => ?_)
      · skip
        refine lv_iload_n hx hb dX2_work_48 rfl (lv_at hl 5 rfl) ?_
        refine lv_iconst (v := iI (1)) hx hb dX2_work_49 rfl ?_
        refine gi_icmp_ne (tgt := 57) hx hb dX2_work_50 (by decide) ⟨by decide, by decide⟩ ⟨by decide, by decide⟩ (fun c50 => ?_) (fun c50 => ?_)
        · skip
          refine lv_iload_n hx hb dX2_work_57 rfl (lv_at hl 5 rfl) ?_
          refine lv_iconst (v := iI (2)) hx hb dX2_work_58 rfl ?_
          refine gi_icmp_ne (tgt := 66) hx hb dX2_work_59 (by decide) ⟨by decide, by decide⟩ ⟨by decide, by decide⟩ (fun c59 => ?_) (fun c59 => ?_)
          · skip
            refine lv_bipush (v := iI (6)) hx hb dX2_work_66 rfl ?_
            refine lv_istore (lv' := [(10, .int (iI (6))), (9, .int (iI (tw (r0 * 8 + p0)))), (8, .int (iI (p0))), (7, .int (iI (0))), (6, .int (iI (0))), (0, .ref (d 0)), (1, .int (iI (3))), (2, .int (iI (r0))), (3, .int (iI (p0))), (4, .int (iI (0))), (5, .int (iI (0)))]) hx hb dX2_work_68 hl (by decide) rfl (fun ls hl => ?_)
            refine lv_aload_n hx hb dX2_work_70 rfl (lv_at hl 5 rfl) ?_
            refine va_get (D := D) (ci := 2) (v := .ref (d 1)) (C := RX2) (T := TX2) (N := 8) hx hb hts hinX2 hown hK hP 0 rfl rfl 0 (by decide) (hts (.fieldLink RX2 9 "TwinOrchardLaw$Sim" "trees" "[[LTwinOrchardLaw$Tree;") (List.mem_of_getElem? (i := 1) rfl)) (fun _ h9 => h9) rfl dX2_work_71 ?_
            refine lv_iload_n hx hb dX2_work_74 rfl (lv_at hl 7 rfl) ?_
            refine s_row (f := srt d) hx hb hK hP 1 3 rfl rfl (by omega) (by omega) (by decide) (v := d (r0.toNat + 7)) (if_pos (by omega)) dX2_work_75 ?_
            refine lv_iload hx hb dX2_work_76 (lv_at hl 2 rfl) ?_
            refine s_tree (σ := σ) (ι := ι) (r := r0) (i := p0) hx hb hK hP (r0.toNat + 7) 2 (sw_row (by omega) (by omega)) rfl (by omega) (by omega) dX2_work_78 (fun ct78 => ?_) (fun ct78 => ?_)
            · skip
              refine lv_astoreN (lv' := [(11, .null), (10, .int (iI (6))), (9, .int (iI (tw (r0 * 8 + p0)))), (8, .int (iI (p0))), (7, .int (iI (0))), (6, .int (iI (0))), (0, .ref (d 0)), (1, .int (iI (3))), (2, .int (iI (r0))), (3, .int (iI (p0))), (4, .int (iI (0))), (5, .int (iI (0)))]) hx hb dX2_work_79 hl (by decide) rfl (fun ls hl => ?_)
              refine lv_iload_n hx hb dX2_work_81 rfl (lv_at hl 7 rfl) ?_
              refine gi_if_ne (tgt := 98) hx hb dX2_work_82 (by decide) ⟨by decide, by decide⟩ (fun c82 => ?_) (fun c82 => ?_)
              · skip
                refine lv_aloadN hx hb dX2_work_98 (lv_at hl 0 rfl) ?_
                refine lv_ifnullN (tgt := 148) hx hb dX2_work_100 (by decide) ?_
                refine lv_iconst (v := iI (0)) hx hb dX2_work_148 rfl ?_
                refine lv_istore (lv' := [(12, .int (iI (0))), (11, .null), (10, .int (iI (6))), (9, .int (iI (tw (r0 * 8 + p0)))), (8, .int (iI (p0))), (7, .int (iI (0))), (6, .int (iI (0))), (0, .ref (d 0)), (1, .int (iI (3))), (2, .int (iI (r0))), (3, .int (iI (p0))), (4, .int (iI (0))), (5, .int (iI (0)))]) hx hb dX2_work_149 hl (by decide) rfl (fun ls hl => ?_)
                refine lv_iload hx hb dX2_work_151 (lv_at hl 0 rfl) ?_
                refine gi_if_eq (tgt := 309) hx hb dX2_work_153 (by decide) ⟨by decide, by decide⟩ (fun c153 => ?_) (fun c153 => ?_)
                · skip
                  have ha1 : feA σ (r0 * 8 + p0) = 0 := bI_f (by omega)
                  have e8 : (σ) = (xFell σ (r0 * 8 + p0)) := (xFell_n (by omega)).symm
                  rw [e8] at hP hD
                  have hP : va_P D vwCl (SW cI cT cU d (xFell σ (r0 * 8 + p0)) ι) H := hP
                  have hD : va_D A (SW cI cT cU d (xFell σ (r0 * 8 + p0)) ι) := hD
                  have hwf2 : xWF (xFell σ (r0 * 8 + p0)) := xWF_fell hwf
                  have k4b := xWF_4 hwf2 (r0 * 8 + (7 - p0))
                  have k5b := xWF_5 hwf2 (r0 * 8 + (7 - p0))
                  have k8b := xWF_8 hwf2 (tw (r0 * 8 + (7 - p0)))
                  refine lv_iinc (v := iI (1)) (lv' := [(7, .int (iI (1))), (12, .int (iI (0))), (11, .null), (10, .int (iI (6))), (9, .int (iI (tw (r0 * 8 + p0)))), (8, .int (iI (p0))), (6, .int (iI (0))), (0, .ref (d 0)), (1, .int (iI (3))), (2, .int (iI (r0))), (3, .int (iI (p0))), (4, .int (iI (0))), (5, .int (iI (0)))]) hx hb dX2_work_309 hl (k := 5) rfl rfl (by decide) rfl (fun ls hl => ?_)
                  refine lv_goto (tgt := 6) hx hb dX2_work_312 (by decide) ?_
                  refine lv_iload hx hb dX2_work_6 (lv_at hl 0 rfl) ?_
                  refine lv_iconst (v := iI (2)) hx hb dX2_work_8 rfl ?_
                  refine gi_icmp_ge (tgt := 315) hx hb dX2_work_9 (by decide) ⟨by decide, by decide⟩ ⟨by decide, by decide⟩ (fun c9 => ?_) (fun c9 => ?_)
                  · skip
                    exact absurd c9 (by decide)
                  · skip
                    refine lv_iload hx hb dX2_work_12 (lv_at hl 0 rfl) ?_
                    refine gi_if_ne (tgt := 21) hx hb dX2_work_14 (by decide) ⟨by decide, by decide⟩ (fun c14 => ?_) (fun c14 => ?_)
                    · skip
                      refine lv_bipush (v := iI (7)) hx hb dX2_work_21 rfl ?_
                      refine lv_iload_n hx hb dX2_work_23 rfl (lv_at hl 10 rfl) ?_
                      refine gi_sub hx hb dX2_work_24 ?_
                      refine lv_istore (lv' := [(8, .int (iI (7 - p0))), (7, .int (iI (1))), (12, .int (iI (0))), (11, .null), (10, .int (iI (6))), (9, .int (iI (tw (r0 * 8 + p0)))), (6, .int (iI (0))), (0, .ref (d 0)), (1, .int (iI (3))), (2, .int (iI (r0))), (3, .int (iI (p0))), (4, .int (iI (0))), (5, .int (iI (0)))]) hx hb dX2_work_25 hl (by decide) rfl (fun ls hl => ?_)
                      refine lv_iload hx hb dX2_work_27 (lv_at hl 0 rfl) ?_
                      refine lv_iconst (v := iI (4)) hx hb dX2_work_29 rfl ?_
                      refine g_selGe (u := 0) (v := 1) (t1 := 37) (t2 := 38) hx hb ⟨by omega, by omega⟩ ⟨by decide, by decide⟩ dX2_work_30 (by decide) (fun st h => lv_iconst (v := iI (0)) hx hb dX2_work_33 rfl (lv_goto (tgt := 38) hx hb dX2_work_34 (by decide) h)) (fun st h => lv_iconst (v := iI (1)) hx hb dX2_work_37 rfl h) ?_
                      rw [show (if 7 - p0 < 4 then (0 : Int) else 1) = tw (r0 * 8 + (7 - p0)) from by unfold tw; split <;> split <;> omega]
                      refine lv_istore (lv' := [(9, .int (iI (tw (r0 * 8 + (7 - p0))))), (8, .int (iI (7 - p0))), (7, .int (iI (1))), (12, .int (iI (0))), (11, .null), (10, .int (iI (6))), (6, .int (iI (0))), (0, .ref (d 0)), (1, .int (iI (3))), (2, .int (iI (r0))), (3, .int (iI (p0))), (4, .int (iI (0))), (5, .int (iI (0)))]) hx hb dX2_work_38 hl (by decide) rfl (fun ls hl => ?_)
                      refine lv_iload_n hx hb dX2_work_40 rfl (lv_at hl 8 rfl) ?_
                      refine gi_if_ne (tgt := 48) hx hb dX2_work_41 (by decide) ⟨by decide, by decide⟩ (fun c41 => ?_) (fun c41 => ?_)
                      · skip
                        refine lv_iload_n hx hb dX2_work_48 rfl (lv_at hl 8 rfl) ?_
                        refine lv_iconst (v := iI (1)) hx hb dX2_work_49 rfl ?_
                        refine gi_icmp_ne (tgt := 57) hx hb dX2_work_50 (by decide) ⟨by decide, by decide⟩ ⟨by decide, by decide⟩ (fun c50 => ?_) (fun c50 => ?_)
                        · skip
                          refine lv_iload_n hx hb dX2_work_57 rfl (lv_at hl 8 rfl) ?_
                          refine lv_iconst (v := iI (2)) hx hb dX2_work_58 rfl ?_
                          refine gi_icmp_ne (tgt := 66) hx hb dX2_work_59 (by decide) ⟨by decide, by decide⟩ ⟨by decide, by decide⟩ (fun c59 => ?_) (fun c59 => ?_)
                          · skip
                            refine lv_bipush (v := iI (6)) hx hb dX2_work_66 rfl ?_
                            refine lv_istore (lv' := [(10, .int (iI (6))), (9, .int (iI (tw (r0 * 8 + (7 - p0))))), (8, .int (iI (7 - p0))), (7, .int (iI (1))), (12, .int (iI (0))), (11, .null), (6, .int (iI (0))), (0, .ref (d 0)), (1, .int (iI (3))), (2, .int (iI (r0))), (3, .int (iI (p0))), (4, .int (iI (0))), (5, .int (iI (0)))]) hx hb dX2_work_68 hl (by decide) rfl (fun ls hl => ?_)
                            refine lv_aload_n hx hb dX2_work_70 rfl (lv_at hl 7 rfl) ?_
                            refine va_get (D := D) (ci := 2) (v := .ref (d 1)) (C := RX2) (T := TX2) (N := 8) hx hb hts hinX2 hown hK hP 0 rfl rfl 0 (by decide) (hts (.fieldLink RX2 9 "TwinOrchardLaw$Sim" "trees" "[[LTwinOrchardLaw$Tree;") (List.mem_of_getElem? (i := 1) rfl)) (fun _ h9 => h9) rfl dX2_work_71 ?_
                            refine lv_iload_n hx hb dX2_work_74 rfl (lv_at hl 9 rfl) ?_
                            refine s_row (f := srt d) hx hb hK hP 1 3 rfl rfl (by omega) (by omega) (by decide) (v := d (r0.toNat + 7)) (if_pos (by omega)) dX2_work_75 ?_
                            refine lv_iload hx hb dX2_work_76 (lv_at hl 2 rfl) ?_
                            refine s_tree (σ := xFell σ (r0 * 8 + p0)) (ι := ι) (r := r0) (i := 7 - p0) hx hb hK hP (r0.toNat + 7) 2 (sw_row (by omega) (by omega)) rfl (by omega) (by omega) dX2_work_78 (fun ct78 => ?_) (fun ct78 => ?_)
                            · skip
                              refine lv_astoreN (lv' := [(11, .null), (10, .int (iI (6))), (9, .int (iI (tw (r0 * 8 + (7 - p0))))), (8, .int (iI (7 - p0))), (7, .int (iI (1))), (12, .int (iI (0))), (6, .int (iI (0))), (0, .ref (d 0)), (1, .int (iI (3))), (2, .int (iI (r0))), (3, .int (iI (p0))), (4, .int (iI (0))), (5, .int (iI (0)))]) hx hb dX2_work_79 hl (by decide) rfl (fun ls hl => ?_)
                              refine lv_iload_n hx hb dX2_work_81 rfl (lv_at hl 8 rfl) ?_
                              refine gi_if_ne (tgt := 98) hx hb dX2_work_82 (by decide) ⟨by decide, by decide⟩ (fun c82 => ?_) (fun c82 => ?_)
                              · skip
                                refine lv_aloadN hx hb dX2_work_98 (lv_at hl 0 rfl) ?_
                                refine lv_ifnullN (tgt := 148) hx hb dX2_work_100 (by decide) ?_
                                refine lv_iconst (v := iI (0)) hx hb dX2_work_148 rfl ?_
                                refine lv_istore (lv' := [(12, .int (iI (0))), (11, .null), (10, .int (iI (6))), (9, .int (iI (tw (r0 * 8 + (7 - p0))))), (8, .int (iI (7 - p0))), (7, .int (iI (1))), (6, .int (iI (0))), (0, .ref (d 0)), (1, .int (iI (3))), (2, .int (iI (r0))), (3, .int (iI (p0))), (4, .int (iI (0))), (5, .int (iI (0)))]) hx hb dX2_work_149 hl (by decide) rfl (fun ls hl => ?_)
                                refine lv_iload hx hb dX2_work_151 (lv_at hl 0 rfl) ?_
                                refine gi_if_eq (tgt := 309) hx hb dX2_work_153 (by decide) ⟨by decide, by decide⟩ (fun c153 => ?_) (fun c153 => ?_)
                                · skip
                                  have ha2 : feA (xFell σ (r0 * 8 + p0)) (r0 * 8 + (7 - p0)) = 0 := bI_f (by omega)
                                  have e8 : (xFell σ (r0 * 8 + p0)) = (xFell (xFell σ (r0 * 8 + p0)) (r0 * 8 + (7 - p0))) := (xFell_n (by omega)).symm
                                  rw [e8] at hP hD
                                  have hP : va_P D vwCl (SW cI cT cU d (xFell (xFell σ (r0 * 8 + p0)) (r0 * 8 + (7 - p0))) ι) H := hP
                                  have hD : va_D A (SW cI cT cU d (xFell (xFell σ (r0 * 8 + p0)) (r0 * 8 + (7 - p0))) ι) := hD
                                  refine lv_iinc (v := iI (2)) (lv' := [(7, .int (iI (2))), (12, .int (iI (0))), (11, .null), (10, .int (iI (6))), (9, .int (iI (tw (r0 * 8 + (7 - p0))))), (8, .int (iI (7 - p0))), (6, .int (iI (0))), (0, .ref (d 0)), (1, .int (iI (3))), (2, .int (iI (r0))), (3, .int (iI (p0))), (4, .int (iI (0))), (5, .int (iI (0)))]) hx hb dX2_work_309 hl (k := 5) rfl rfl (by decide) rfl (fun ls hl => ?_)
                                  refine lv_goto (tgt := 6) hx hb dX2_work_312 (by decide) ?_
                                  refine lv_iload hx hb dX2_work_6 (lv_at hl 0 rfl) ?_
                                  refine lv_iconst (v := iI (2)) hx hb dX2_work_8 rfl ?_
                                  refine gi_icmp_ge (tgt := 315) hx hb dX2_work_9 (by decide) ⟨by decide, by decide⟩ ⟨by decide, by decide⟩ (fun c9 => ?_) (fun c9 => ?_)
                                  · skip
                                    refine lv_iload hx hb dX2_work_315 (lv_at hl 6 rfl) ?_
                                    have ess : (xFell (xFell σ (r0 * 8 + p0)) (mir (r0 * 8 + p0))) = (xFell (xFell σ (r0 * 8 + p0)) (r0 * 8 + (7 - p0))) := by rw [em]
                                    have hP : va_P D vwCl (SW cI cT cU d (xFell (xFell σ (r0 * 8 + p0)) (mir (r0 * 8 + p0))) ι) H := by rw [ess]; exact hP
                                    have hD : va_D A (SW cI cT cU d (xFell (xFell σ (r0 * 8 + p0)) (mir (r0 * 8 + p0))) ι) := by rw [ess]; exact hD
                                    have er : ((who (feA σ (r0 * 8 + p0)) (feA (xFell σ (r0 * 8 + p0)) (mir (r0 * 8 + p0))) : Int)) = (0) := by rw [em, ha1, ha2]; decide
                                    exact g_iret (wo := (fun κ' => SW cI cT cU d (xFell (xFell σ (r0 * 8 + p0)) (mir (r0 * 8 + p0))) (κ' 2))) (kr := (fun κ' => True)) (rv := (fun _ => some (.int (iI (who (feA σ (r0 * 8 + p0)) (feA (xFell σ (r0 * 8 + p0)) (mir (r0 * 8 + p0)))))))) hx hb hr hlocks (fun _ => ι) rfl hP hK hD hS trivial (by rw [er]) (Nat.le_of_ble_eq_true rfl) (Nat.le_of_ble_eq_true rfl) dX2_work_317
                                  · skip
                                    omega
                                · skip
                                  exact absurd rfl c153
                              · skip
                                exact absurd c82 (by decide)
                            · skip
                              refine lv_astore (lv' := [(11, .ref (ι (r0 * 8 + (7 - p0))).toNat), (10, .int (iI (6))), (9, .int (iI (tw (r0 * 8 + (7 - p0))))), (8, .int (iI (7 - p0))), (7, .int (iI (1))), (12, .int (iI (0))), (6, .int (iI (0))), (0, .ref (d 0)), (1, .int (iI (3))), (2, .int (iI (r0))), (3, .int (iI (p0))), (4, .int (iI (0))), (5, .int (iI (0)))]) hx hb dX2_work_79 hl (by decide) rfl (fun ls hl => ?_)
                              refine lv_iload_n hx hb dX2_work_81 rfl (lv_at hl 8 rfl) ?_
                              refine gi_if_ne (tgt := 98) hx hb dX2_work_82 (by decide) ⟨by decide, by decide⟩ (fun c82 => ?_) (fun c82 => ?_)
                              · skip
                                refine lv_aload hx hb dX2_work_98 (lv_at hl 0 rfl) ?_
                                refine lv_ifnull hx hb dX2_work_100 ?_
                                refine lv_iload_n hx hb dX2_work_103 rfl (lv_at hl 8 rfl) ?_
                                refine lv_iconst (v := iI (1)) hx hb dX2_work_104 rfl ?_
                                refine gi_icmp_ne (tgt := 121) hx hb dX2_work_105 (by decide) ⟨by decide, by decide⟩ ⟨by decide, by decide⟩ (fun c105 => ?_) (fun c105 => ?_)
                                · skip
                                  refine lv_iload_n hx hb dX2_work_121 rfl (lv_at hl 8 rfl) ?_
                                  refine lv_iconst (v := iI (2)) hx hb dX2_work_122 rfl ?_
                                  refine gi_icmp_ne (tgt := 144) hx hb dX2_work_123 (by decide) ⟨by decide, by decide⟩ ⟨by decide, by decide⟩ (fun c123 => ?_) (fun c123 => ?_)
                                  · skip
                                    refine lv_iconst (v := iI (1)) hx hb dX2_work_144 rfl ?_
                                    refine lv_goto (tgt := 149) hx hb dX2_work_145 (by decide) ?_
                                    refine lv_istore (lv' := [(12, .int (iI (1))), (11, .ref (ι (r0 * 8 + (7 - p0))).toNat), (10, .int (iI (6))), (9, .int (iI (tw (r0 * 8 + (7 - p0))))), (8, .int (iI (7 - p0))), (7, .int (iI (1))), (6, .int (iI (0))), (0, .ref (d 0)), (1, .int (iI (3))), (2, .int (iI (r0))), (3, .int (iI (p0))), (4, .int (iI (0))), (5, .int (iI (0)))]) hx hb dX2_work_149 hl (by decide) rfl (fun ls hl => ?_)
                                    refine lv_iload hx hb dX2_work_151 (lv_at hl 0 rfl) ?_
                                    refine gi_if_eq (tgt := 309) hx hb dX2_work_153 (by decide) ⟨by decide, by decide⟩ (fun c153 => ?_) (fun c153 => ?_)
                                    · skip
                                      exact absurd c153 (by decide)
                                    · skip
                                      refine lv_aload_n hx hb dX2_work_156 rfl (lv_at hl 7 rfl) ?_
                                      refine va_get (D := D) (ci := 2) (v := .ref (d 6)) (C := RX2) (T := TX2) (N := 8) hx hb hts hinX2 hown hK hP 0 rfl rfl 5 (by decide) (hts (.fieldLink RX2 27 "TwinOrchardLaw$Sim" "strength" "[I") (List.mem_of_getElem? (i := 4) rfl)) (fun _ h9 => h9) rfl dX2_work_157 ?_
                                      refine lv_iload hx hb dX2_work_160 (lv_at hl 3 rfl) ?_
                                      refine gi_iald (a := d 6) (n := 2) (f := (xFell σ (r0 * 8 + p0)) 8) hx hb hK hP 6 0 rfl rfl (by omega) (by omega) (by decide) dX2_work_162 ?_
                                      refine lv_iload hx hb dX2_work_163 (lv_at hl 2 rfl) ?_
                                      refine gi_icmp_ge (tgt := 171) hx hb dX2_work_165 (by decide) ⟨by omega, by omega⟩ ⟨by decide, by decide⟩ (fun c165 => ?_) (fun c165 => ?_)
                                      · skip
                                        refine lv_aload_n hx hb dX2_work_171 rfl (lv_at hl 7 rfl) ?_
                                        refine va_get (D := D) (ci := 2) (v := .ref (d 6)) (C := RX2) (T := TX2) (N := 8) hx hb hts hinX2 hown hK hP 0 rfl rfl 5 (by decide) (hts (.fieldLink RX2 27 "TwinOrchardLaw$Sim" "strength" "[I") (List.mem_of_getElem? (i := 4) rfl)) (fun _ h9 => h9) rfl dX2_work_172 ?_
                                        refine lv_iload hx hb dX2_work_175 (lv_at hl 3 rfl) ?_
                                        refine lv_dup2_11 hx hb dX2_work_177 rfl rfl ?_
                                        refine gi_iald (a := d 6) (n := 2) (f := (xFell σ (r0 * 8 + p0)) 8) hx hb hK hP 6 0 rfl rfl (by omega) (by omega) (by decide) dX2_work_178 ?_
                                        refine lv_iload hx hb dX2_work_179 (lv_at hl 2 rfl) ?_
                                        refine gi_sub hx hb dX2_work_181 ?_
                                        refine gi_iast (a := d 6) (n := 2) (f := (xFell σ (r0 * 8 + p0)) 8) hx hb hK hP hD hS 6 0 rfl rfl (by omega) (by omega) (by decide) dX2_work_182 (fun H locs hP hD hS => ?_)
                                        have hP : va_P D vwCl (SW cI cT cU d (su (xFell σ (r0 * 8 + p0)) 8 (tw (r0 * 8 + (7 - p0))) (((xFell σ (r0 * 8 + p0)) 8 (tw (r0 * 8 + (7 - p0)))) - 6)) ι) H := hP
                                        have hD : va_D A (SW cI cT cU d (su (xFell σ (r0 * 8 + p0)) 8 (tw (r0 * 8 + (7 - p0))) (((xFell σ (r0 * 8 + p0)) 8 (tw (r0 * 8 + (7 - p0)))) - 6)) ι) := hD
                                        refine lv_iload hx hb dX2_work_183 (lv_at hl 6 rfl) ?_
                                        refine lv_iload hx hb dX2_work_185 (lv_at hl 5 rfl) ?_
                                        refine lv_iconst (v := iI (1)) hx hb dX2_work_187 rfl ?_
                                        refine gi_add hx hb dX2_work_188 ?_
                                        refine gi_add hx hb dX2_work_189 ?_
                                        refine lv_istore (lv' := [(6, .int (iI (0 + (1 + 1)))), (12, .int (iI (1))), (11, .ref (ι (r0 * 8 + (7 - p0))).toNat), (10, .int (iI (6))), (9, .int (iI (tw (r0 * 8 + (7 - p0))))), (8, .int (iI (7 - p0))), (7, .int (iI (1))), (0, .ref (d 0)), (1, .int (iI (3))), (2, .int (iI (r0))), (3, .int (iI (p0))), (4, .int (iI (0))), (5, .int (iI (0)))]) hx hb dX2_work_190 hl (by decide) rfl (fun ls hl => ?_)
                                        refine lv_iload_n hx hb dX2_work_192 rfl (lv_at hl 8 rfl) ?_
                                        refine gi_if_ne (tgt := 233) hx hb dX2_work_193 (by decide) ⟨by decide, by decide⟩ (fun c193 => ?_) (fun c193 => ?_)
                                        · skip
                                          refine lv_iload_n hx hb dX2_work_233 rfl (lv_at hl 8 rfl) ?_
                                          refine lv_iconst (v := iI (1)) hx hb dX2_work_234 rfl ?_
                                          refine gi_icmp_ne (tgt := 259) hx hb dX2_work_235 (by decide) ⟨by decide, by decide⟩ ⟨by decide, by decide⟩ (fun c235 => ?_) (fun c235 => ?_)
                                          · skip
                                            refine lv_iload_n hx hb dX2_work_259 rfl (lv_at hl 8 rfl) ?_
                                            refine lv_iconst (v := iI (2)) hx hb dX2_work_260 rfl ?_
                                            refine gi_icmp_ne (tgt := 299) hx hb dX2_work_261 (by decide) ⟨by decide, by decide⟩ ⟨by decide, by decide⟩ (fun c261 => ?_) (fun c261 => ?_)
                                            · skip
                                              refine lv_aload_n hx hb dX2_work_299 rfl (lv_at hl 7 rfl) ?_
                                              refine va_get (D := D) (ci := 2) (v := .ref (d 1)) (C := RX2) (T := TX2) (N := 8) hx hb hts hinX2 hown hK hP 0 rfl rfl 0 (by decide) (hts (.fieldLink RX2 9 "TwinOrchardLaw$Sim" "trees" "[[LTwinOrchardLaw$Tree;") (List.mem_of_getElem? (i := 1) rfl)) (fun _ h9 => h9) rfl dX2_work_300 ?_
                                              refine lv_iload_n hx hb dX2_work_303 rfl (lv_at hl 9 rfl) ?_
                                              refine s_row (f := srt d) hx hb hK hP 1 3 rfl rfl (by omega) (by omega) (by decide) (v := d (r0.toNat + 7)) (if_pos (by omega)) dX2_work_304 ?_
                                              refine lv_iload hx hb dX2_work_305 (lv_at hl 5 rfl) ?_
                                              refine lv_null hx hb dX2_work_307 ?_
                                              refine s_storeN (f := trow (su (xFell σ (r0 * 8 + p0)) 8 (tw (r0 * 8 + (7 - p0))) (((xFell σ (r0 * 8 + p0)) 8 (tw (r0 * 8 + (7 - p0)))) - 6)) ι r0) hx hb hK hP hD hS (r0.toNat + 7) 2 (sw_row (by omega) (by omega)) rfl (by omega) (by omega) dX2_work_308 (fun H locs hP hD hS => ?_)
                                              obtain ⟨hP, hD⟩ := sw_fell (cI := cI) (cT := cT) (cU := cU) (d := d) (σ := su (xFell σ (r0 * 8 + p0)) 8 (tw (r0 * 8 + (7 - p0))) (((xFell σ (r0 * 8 + p0)) 8 (tw (r0 * 8 + (7 - p0)))) - 6)) (ι := ι) (r := r0) (p := 7 - p0) (by omega) (by omega) hP hD
                                              have hP : va_P D vwCl (SW cI cT cU d (felS (su (xFell σ (r0 * 8 + p0)) 8 (tw (r0 * 8 + (7 - p0))) (((xFell σ (r0 * 8 + p0)) 8 (tw (r0 * 8 + (7 - p0)))) - 6)) (r0 * 8 + (7 - p0))) ι) H := hP
                                              have hD : va_D A (SW cI cT cU d (felS (su (xFell σ (r0 * 8 + p0)) 8 (tw (r0 * 8 + (7 - p0))) (((xFell σ (r0 * 8 + p0)) 8 (tw (r0 * 8 + (7 - p0)))) - 6)) (r0 * 8 + (7 - p0))) ι) := hD
                                              have ha2 : feA (xFell σ (r0 * 8 + p0)) (r0 * 8 + (7 - p0)) = 1 := bI_t (by omega)
                                              have e8 : (felS (su (xFell σ (r0 * 8 + p0)) 8 (tw (r0 * 8 + (7 - p0))) (((xFell σ (r0 * 8 + p0)) 8 (tw (r0 * 8 + (7 - p0)))) - 6)) (r0 * 8 + (7 - p0))) = (xFell (xFell σ (r0 * 8 + p0)) (r0 * 8 + (7 - p0))) := (xFell_y (by omega)).symm
                                              rw [e8] at hP hD
                                              have hP : va_P D vwCl (SW cI cT cU d (xFell (xFell σ (r0 * 8 + p0)) (r0 * 8 + (7 - p0))) ι) H := hP
                                              have hD : va_D A (SW cI cT cU d (xFell (xFell σ (r0 * 8 + p0)) (r0 * 8 + (7 - p0))) ι) := hD
                                              refine lv_iinc (v := iI (2)) (lv' := [(7, .int (iI (2))), (6, .int (iI (0 + (1 + 1)))), (12, .int (iI (1))), (11, .ref (ι (r0 * 8 + (7 - p0))).toNat), (10, .int (iI (6))), (9, .int (iI (tw (r0 * 8 + (7 - p0))))), (8, .int (iI (7 - p0))), (0, .ref (d 0)), (1, .int (iI (3))), (2, .int (iI (r0))), (3, .int (iI (p0))), (4, .int (iI (0))), (5, .int (iI (0)))]) hx hb dX2_work_309 hl (k := 6) rfl rfl (by decide) rfl (fun ls hl => ?_)
                                              refine lv_goto (tgt := 6) hx hb dX2_work_312 (by decide) ?_
                                              refine lv_iload hx hb dX2_work_6 (lv_at hl 0 rfl) ?_
                                              refine lv_iconst (v := iI (2)) hx hb dX2_work_8 rfl ?_
                                              refine gi_icmp_ge (tgt := 315) hx hb dX2_work_9 (by decide) ⟨by decide, by decide⟩ ⟨by decide, by decide⟩ (fun c9 => ?_) (fun c9 => ?_)
                                              · skip
                                                refine lv_iload hx hb dX2_work_315 (lv_at hl 1 rfl) ?_
                                                have ess : (xFell (xFell σ (r0 * 8 + p0)) (mir (r0 * 8 + p0))) = (xFell (xFell σ (r0 * 8 + p0)) (r0 * 8 + (7 - p0))) := by rw [em]
                                                have hP : va_P D vwCl (SW cI cT cU d (xFell (xFell σ (r0 * 8 + p0)) (mir (r0 * 8 + p0))) ι) H := by rw [ess]; exact hP
                                                have hD : va_D A (SW cI cT cU d (xFell (xFell σ (r0 * 8 + p0)) (mir (r0 * 8 + p0))) ι) := by rw [ess]; exact hD
                                                have er : ((who (feA σ (r0 * 8 + p0)) (feA (xFell σ (r0 * 8 + p0)) (mir (r0 * 8 + p0))) : Int)) = (0 + (1 + 1)) := by rw [em, ha1, ha2]; decide
                                                exact g_iret (wo := (fun κ' => SW cI cT cU d (xFell (xFell σ (r0 * 8 + p0)) (mir (r0 * 8 + p0))) (κ' 2))) (kr := (fun κ' => True)) (rv := (fun _ => some (.int (iI (who (feA σ (r0 * 8 + p0)) (feA (xFell σ (r0 * 8 + p0)) (mir (r0 * 8 + p0)))))))) hx hb hr hlocks (fun _ => ι) rfl hP hK hD hS trivial (by rw [er]) (Nat.le_of_ble_eq_true rfl) (Nat.le_of_ble_eq_true rfl) dX2_work_317
                                              · skip
                                                omega
                                            · skip
                                              exact absurd c261 (by decide)
                                          · skip
                                            exact absurd c235 (by decide)
                                        · skip
                                          exact absurd c193 (by decide)
                                      · skip
                                        refine lv_goto (tgt := 309) hx hb dX2_work_168 (by decide) ?_
                                        have ha2 : feA (xFell σ (r0 * 8 + p0)) (r0 * 8 + (7 - p0)) = 0 := bI_f (by omega)
                                        have e8 : (xFell σ (r0 * 8 + p0)) = (xFell (xFell σ (r0 * 8 + p0)) (r0 * 8 + (7 - p0))) := (xFell_n (by omega)).symm
                                        rw [e8] at hP hD
                                        have hP : va_P D vwCl (SW cI cT cU d (xFell (xFell σ (r0 * 8 + p0)) (r0 * 8 + (7 - p0))) ι) H := hP
                                        have hD : va_D A (SW cI cT cU d (xFell (xFell σ (r0 * 8 + p0)) (r0 * 8 + (7 - p0))) ι) := hD
                                        refine lv_iinc (v := iI (2)) (lv' := [(7, .int (iI (2))), (12, .int (iI (1))), (11, .ref (ι (r0 * 8 + (7 - p0))).toNat), (10, .int (iI (6))), (9, .int (iI (tw (r0 * 8 + (7 - p0))))), (8, .int (iI (7 - p0))), (6, .int (iI (0))), (0, .ref (d 0)), (1, .int (iI (3))), (2, .int (iI (r0))), (3, .int (iI (p0))), (4, .int (iI (0))), (5, .int (iI (0)))]) hx hb dX2_work_309 hl (k := 5) rfl rfl (by decide) rfl (fun ls hl => ?_)
                                        refine lv_goto (tgt := 6) hx hb dX2_work_312 (by decide) ?_
                                        refine lv_iload hx hb dX2_work_6 (lv_at hl 0 rfl) ?_
                                        refine lv_iconst (v := iI (2)) hx hb dX2_work_8 rfl ?_
                                        refine gi_icmp_ge (tgt := 315) hx hb dX2_work_9 (by decide) ⟨by decide, by decide⟩ ⟨by decide, by decide⟩ (fun c9 => ?_) (fun c9 => ?_)
                                        · skip
                                          refine lv_iload hx hb dX2_work_315 (lv_at hl 6 rfl) ?_
                                          have ess : (xFell (xFell σ (r0 * 8 + p0)) (mir (r0 * 8 + p0))) = (xFell (xFell σ (r0 * 8 + p0)) (r0 * 8 + (7 - p0))) := by rw [em]
                                          have hP : va_P D vwCl (SW cI cT cU d (xFell (xFell σ (r0 * 8 + p0)) (mir (r0 * 8 + p0))) ι) H := by rw [ess]; exact hP
                                          have hD : va_D A (SW cI cT cU d (xFell (xFell σ (r0 * 8 + p0)) (mir (r0 * 8 + p0))) ι) := by rw [ess]; exact hD
                                          have er : ((who (feA σ (r0 * 8 + p0)) (feA (xFell σ (r0 * 8 + p0)) (mir (r0 * 8 + p0))) : Int)) = (0) := by rw [em, ha1, ha2]; decide
                                          exact g_iret (wo := (fun κ' => SW cI cT cU d (xFell (xFell σ (r0 * 8 + p0)) (mir (r0 * 8 + p0))) (κ' 2))) (kr := (fun κ' => True)) (rv := (fun _ => some (.int (iI (who (feA σ (r0 * 8 + p0)) (feA (xFell σ (r0 * 8 + p0)) (mir (r0 * 8 + p0)))))))) hx hb hr hlocks (fun _ => ι) rfl hP hK hD hS trivial (by rw [er]) (Nat.le_of_ble_eq_true rfl) (Nat.le_of_ble_eq_true rfl) dX2_work_317
                                        · skip
                                          omega
                                  · skip
                                    exact absurd c123 (by decide)
                                · skip
                                  exact absurd c105 (by decide)
                              · skip
                                exact absurd c82 (by decide)
                          · skip
                            exact absurd c59 (by decide)
                        · skip
                          exact absurd c50 (by decide)
                      · skip
                        exact absurd c41 (by decide)
                    · skip
                      exact absurd c14 (by decide)
                · skip
                  exact absurd rfl c153
              · skip
                exact absurd c82 (by decide)
            · skip
              refine lv_astore (lv' := [(11, .ref (ι (r0 * 8 + p0)).toNat), (10, .int (iI (6))), (9, .int (iI (tw (r0 * 8 + p0)))), (8, .int (iI (p0))), (7, .int (iI (0))), (6, .int (iI (0))), (0, .ref (d 0)), (1, .int (iI (3))), (2, .int (iI (r0))), (3, .int (iI (p0))), (4, .int (iI (0))), (5, .int (iI (0)))]) hx hb dX2_work_79 hl (by decide) rfl (fun ls hl => ?_)
              refine lv_iload_n hx hb dX2_work_81 rfl (lv_at hl 7 rfl) ?_
              refine gi_if_ne (tgt := 98) hx hb dX2_work_82 (by decide) ⟨by decide, by decide⟩ (fun c82 => ?_) (fun c82 => ?_)
              · skip
                refine lv_aload hx hb dX2_work_98 (lv_at hl 0 rfl) ?_
                refine lv_ifnull hx hb dX2_work_100 ?_
                refine lv_iload_n hx hb dX2_work_103 rfl (lv_at hl 7 rfl) ?_
                refine lv_iconst (v := iI (1)) hx hb dX2_work_104 rfl ?_
                refine gi_icmp_ne (tgt := 121) hx hb dX2_work_105 (by decide) ⟨by decide, by decide⟩ ⟨by decide, by decide⟩ (fun c105 => ?_) (fun c105 => ?_)
                · skip
                  refine lv_iload_n hx hb dX2_work_121 rfl (lv_at hl 7 rfl) ?_
                  refine lv_iconst (v := iI (2)) hx hb dX2_work_122 rfl ?_
                  refine gi_icmp_ne (tgt := 144) hx hb dX2_work_123 (by decide) ⟨by decide, by decide⟩ ⟨by decide, by decide⟩ (fun c123 => ?_) (fun c123 => ?_)
                  · skip
                    refine lv_iconst (v := iI (1)) hx hb dX2_work_144 rfl ?_
                    refine lv_goto (tgt := 149) hx hb dX2_work_145 (by decide) ?_
                    refine lv_istore (lv' := [(12, .int (iI (1))), (11, .ref (ι (r0 * 8 + p0)).toNat), (10, .int (iI (6))), (9, .int (iI (tw (r0 * 8 + p0)))), (8, .int (iI (p0))), (7, .int (iI (0))), (6, .int (iI (0))), (0, .ref (d 0)), (1, .int (iI (3))), (2, .int (iI (r0))), (3, .int (iI (p0))), (4, .int (iI (0))), (5, .int (iI (0)))]) hx hb dX2_work_149 hl (by decide) rfl (fun ls hl => ?_)
                    refine lv_iload hx hb dX2_work_151 (lv_at hl 0 rfl) ?_
                    refine gi_if_eq (tgt := 309) hx hb dX2_work_153 (by decide) ⟨by decide, by decide⟩ (fun c153 => ?_) (fun c153 => ?_)
                    · skip
                      exact absurd c153 (by decide)
                    · skip
                      refine lv_aload_n hx hb dX2_work_156 rfl (lv_at hl 7 rfl) ?_
                      refine va_get (D := D) (ci := 2) (v := .ref (d 6)) (C := RX2) (T := TX2) (N := 8) hx hb hts hinX2 hown hK hP 0 rfl rfl 5 (by decide) (hts (.fieldLink RX2 27 "TwinOrchardLaw$Sim" "strength" "[I") (List.mem_of_getElem? (i := 4) rfl)) (fun _ h9 => h9) rfl dX2_work_157 ?_
                      refine lv_iload hx hb dX2_work_160 (lv_at hl 3 rfl) ?_
                      refine gi_iald (a := d 6) (n := 2) (f := σ 8) hx hb hK hP 6 0 rfl rfl (by omega) (by omega) (by decide) dX2_work_162 ?_
                      refine lv_iload hx hb dX2_work_163 (lv_at hl 2 rfl) ?_
                      refine gi_icmp_ge (tgt := 171) hx hb dX2_work_165 (by decide) ⟨by omega, by omega⟩ ⟨by decide, by decide⟩ (fun c165 => ?_) (fun c165 => ?_)
                      · skip
                        refine lv_aload_n hx hb dX2_work_171 rfl (lv_at hl 7 rfl) ?_
                        refine va_get (D := D) (ci := 2) (v := .ref (d 6)) (C := RX2) (T := TX2) (N := 8) hx hb hts hinX2 hown hK hP 0 rfl rfl 5 (by decide) (hts (.fieldLink RX2 27 "TwinOrchardLaw$Sim" "strength" "[I") (List.mem_of_getElem? (i := 4) rfl)) (fun _ h9 => h9) rfl dX2_work_172 ?_
                        refine lv_iload hx hb dX2_work_175 (lv_at hl 3 rfl) ?_
                        refine lv_dup2_11 hx hb dX2_work_177 rfl rfl ?_
                        refine gi_iald (a := d 6) (n := 2) (f := σ 8) hx hb hK hP 6 0 rfl rfl (by omega) (by omega) (by decide) dX2_work_178 ?_
                        refine lv_iload hx hb dX2_work_179 (lv_at hl 2 rfl) ?_
                        refine gi_sub hx hb dX2_work_181 ?_
                        refine gi_iast (a := d 6) (n := 2) (f := σ 8) hx hb hK hP hD hS 6 0 rfl rfl (by omega) (by omega) (by decide) dX2_work_182 (fun H locs hP hD hS => ?_)
                        have hP : va_P D vwCl (SW cI cT cU d (su σ 8 (tw (r0 * 8 + p0)) ((σ 8 (tw (r0 * 8 + p0))) - 6)) ι) H := hP
                        have hD : va_D A (SW cI cT cU d (su σ 8 (tw (r0 * 8 + p0)) ((σ 8 (tw (r0 * 8 + p0))) - 6)) ι) := hD
                        refine lv_iload hx hb dX2_work_183 (lv_at hl 6 rfl) ?_
                        refine lv_iload hx hb dX2_work_185 (lv_at hl 5 rfl) ?_
                        refine lv_iconst (v := iI (1)) hx hb dX2_work_187 rfl ?_
                        refine gi_add hx hb dX2_work_188 ?_
                        refine gi_add hx hb dX2_work_189 ?_
                        refine lv_istore (lv' := [(6, .int (iI (0 + (0 + 1)))), (12, .int (iI (1))), (11, .ref (ι (r0 * 8 + p0)).toNat), (10, .int (iI (6))), (9, .int (iI (tw (r0 * 8 + p0)))), (8, .int (iI (p0))), (7, .int (iI (0))), (0, .ref (d 0)), (1, .int (iI (3))), (2, .int (iI (r0))), (3, .int (iI (p0))), (4, .int (iI (0))), (5, .int (iI (0)))]) hx hb dX2_work_190 hl (by decide) rfl (fun ls hl => ?_)
                        refine lv_iload_n hx hb dX2_work_192 rfl (lv_at hl 8 rfl) ?_
                        refine gi_if_ne (tgt := 233) hx hb dX2_work_193 (by decide) ⟨by decide, by decide⟩ (fun c193 => ?_) (fun c193 => ?_)
                        · skip
                          refine lv_iload_n hx hb dX2_work_233 rfl (lv_at hl 8 rfl) ?_
                          refine lv_iconst (v := iI (1)) hx hb dX2_work_234 rfl ?_
                          refine gi_icmp_ne (tgt := 259) hx hb dX2_work_235 (by decide) ⟨by decide, by decide⟩ ⟨by decide, by decide⟩ (fun c235 => ?_) (fun c235 => ?_)
                          · skip
                            refine lv_iload_n hx hb dX2_work_259 rfl (lv_at hl 8 rfl) ?_
                            refine lv_iconst (v := iI (2)) hx hb dX2_work_260 rfl ?_
                            refine gi_icmp_ne (tgt := 299) hx hb dX2_work_261 (by decide) ⟨by decide, by decide⟩ ⟨by decide, by decide⟩ (fun c261 => ?_) (fun c261 => ?_)
                            · skip
                              refine lv_aload_n hx hb dX2_work_299 rfl (lv_at hl 7 rfl) ?_
                              refine va_get (D := D) (ci := 2) (v := .ref (d 1)) (C := RX2) (T := TX2) (N := 8) hx hb hts hinX2 hown hK hP 0 rfl rfl 0 (by decide) (hts (.fieldLink RX2 9 "TwinOrchardLaw$Sim" "trees" "[[LTwinOrchardLaw$Tree;") (List.mem_of_getElem? (i := 1) rfl)) (fun _ h9 => h9) rfl dX2_work_300 ?_
                              refine lv_iload_n hx hb dX2_work_303 rfl (lv_at hl 9 rfl) ?_
                              refine s_row (f := srt d) hx hb hK hP 1 3 rfl rfl (by omega) (by omega) (by decide) (v := d (r0.toNat + 7)) (if_pos (by omega)) dX2_work_304 ?_
                              refine lv_iload hx hb dX2_work_305 (lv_at hl 5 rfl) ?_
                              refine lv_null hx hb dX2_work_307 ?_
                              refine s_storeN (f := trow (su σ 8 (tw (r0 * 8 + p0)) ((σ 8 (tw (r0 * 8 + p0))) - 6)) ι r0) hx hb hK hP hD hS (r0.toNat + 7) 2 (sw_row (by omega) (by omega)) rfl (by omega) (by omega) dX2_work_308 (fun H locs hP hD hS => ?_)
                              obtain ⟨hP, hD⟩ := sw_fell (cI := cI) (cT := cT) (cU := cU) (d := d) (σ := su σ 8 (tw (r0 * 8 + p0)) ((σ 8 (tw (r0 * 8 + p0))) - 6)) (ι := ι) (r := r0) (p := p0) (by omega) (by omega) hP hD
                              have hP : va_P D vwCl (SW cI cT cU d (felS (su σ 8 (tw (r0 * 8 + p0)) ((σ 8 (tw (r0 * 8 + p0))) - 6)) (r0 * 8 + p0)) ι) H := hP
                              have hD : va_D A (SW cI cT cU d (felS (su σ 8 (tw (r0 * 8 + p0)) ((σ 8 (tw (r0 * 8 + p0))) - 6)) (r0 * 8 + p0)) ι) := hD
                              have ha1 : feA σ (r0 * 8 + p0) = 1 := bI_t (by omega)
                              have e8 : (felS (su σ 8 (tw (r0 * 8 + p0)) ((σ 8 (tw (r0 * 8 + p0))) - 6)) (r0 * 8 + p0)) = (xFell σ (r0 * 8 + p0)) := (xFell_y (by omega)).symm
                              rw [e8] at hP hD
                              have hP : va_P D vwCl (SW cI cT cU d (xFell σ (r0 * 8 + p0)) ι) H := hP
                              have hD : va_D A (SW cI cT cU d (xFell σ (r0 * 8 + p0)) ι) := hD
                              have hwf2 : xWF (xFell σ (r0 * 8 + p0)) := xWF_fell hwf
                              have k4b := xWF_4 hwf2 (r0 * 8 + (7 - p0))
                              have k5b := xWF_5 hwf2 (r0 * 8 + (7 - p0))
                              have k8b := xWF_8 hwf2 (tw (r0 * 8 + (7 - p0)))
                              refine lv_iinc (v := iI (1)) (lv' := [(7, .int (iI (1))), (6, .int (iI (0 + (0 + 1)))), (12, .int (iI (1))), (11, .ref (ι (r0 * 8 + p0)).toNat), (10, .int (iI (6))), (9, .int (iI (tw (r0 * 8 + p0)))), (8, .int (iI (p0))), (0, .ref (d 0)), (1, .int (iI (3))), (2, .int (iI (r0))), (3, .int (iI (p0))), (4, .int (iI (0))), (5, .int (iI (0)))]) hx hb dX2_work_309 hl (k := 6) rfl rfl (by decide) rfl (fun ls hl => ?_)
                              refine lv_goto (tgt := 6) hx hb dX2_work_312 (by decide) ?_
                              refine lv_iload hx hb dX2_work_6 (lv_at hl 0 rfl) ?_
                              refine lv_iconst (v := iI (2)) hx hb dX2_work_8 rfl ?_
                              refine gi_icmp_ge (tgt := 315) hx hb dX2_work_9 (by decide) ⟨by decide, by decide⟩ ⟨by decide, by decide⟩ (fun c9 => ?_) (fun c9 => ?_)
                              · skip
                                exact absurd c9 (by decide)
                              · skip
                                refine lv_iload hx hb dX2_work_12 (lv_at hl 0 rfl) ?_
                                refine gi_if_ne (tgt := 21) hx hb dX2_work_14 (by decide) ⟨by decide, by decide⟩ (fun c14 => ?_) (fun c14 => ?_)
                                · skip
                                  refine lv_bipush (v := iI (7)) hx hb dX2_work_21 rfl ?_
                                  refine lv_iload_n hx hb dX2_work_23 rfl (lv_at hl 10 rfl) ?_
                                  refine gi_sub hx hb dX2_work_24 ?_
                                  refine lv_istore (lv' := [(8, .int (iI (7 - p0))), (7, .int (iI (1))), (6, .int (iI (0 + (0 + 1)))), (12, .int (iI (1))), (11, .ref (ι (r0 * 8 + p0)).toNat), (10, .int (iI (6))), (9, .int (iI (tw (r0 * 8 + p0)))), (0, .ref (d 0)), (1, .int (iI (3))), (2, .int (iI (r0))), (3, .int (iI (p0))), (4, .int (iI (0))), (5, .int (iI (0)))]) hx hb dX2_work_25 hl (by decide) rfl (fun ls hl => ?_)
                                  refine lv_iload hx hb dX2_work_27 (lv_at hl 0 rfl) ?_
                                  refine lv_iconst (v := iI (4)) hx hb dX2_work_29 rfl ?_
                                  refine g_selGe (u := 0) (v := 1) (t1 := 37) (t2 := 38) hx hb ⟨by omega, by omega⟩ ⟨by decide, by decide⟩ dX2_work_30 (by decide) (fun st h => lv_iconst (v := iI (0)) hx hb dX2_work_33 rfl (lv_goto (tgt := 38) hx hb dX2_work_34 (by decide) h)) (fun st h => lv_iconst (v := iI (1)) hx hb dX2_work_37 rfl h) ?_
                                  rw [show (if 7 - p0 < 4 then (0 : Int) else 1) = tw (r0 * 8 + (7 - p0)) from by unfold tw; split <;> split <;> omega]
                                  refine lv_istore (lv' := [(9, .int (iI (tw (r0 * 8 + (7 - p0))))), (8, .int (iI (7 - p0))), (7, .int (iI (1))), (6, .int (iI (0 + (0 + 1)))), (12, .int (iI (1))), (11, .ref (ι (r0 * 8 + p0)).toNat), (10, .int (iI (6))), (0, .ref (d 0)), (1, .int (iI (3))), (2, .int (iI (r0))), (3, .int (iI (p0))), (4, .int (iI (0))), (5, .int (iI (0)))]) hx hb dX2_work_38 hl (by decide) rfl (fun ls hl => ?_)
                                  refine lv_iload_n hx hb dX2_work_40 rfl (lv_at hl 8 rfl) ?_
                                  refine gi_if_ne (tgt := 48) hx hb dX2_work_41 (by decide) ⟨by decide, by decide⟩ (fun c41 => ?_) (fun c41 => ?_)
                                  · skip
                                    refine lv_iload_n hx hb dX2_work_48 rfl (lv_at hl 8 rfl) ?_
                                    refine lv_iconst (v := iI (1)) hx hb dX2_work_49 rfl ?_
                                    refine gi_icmp_ne (tgt := 57) hx hb dX2_work_50 (by decide) ⟨by decide, by decide⟩ ⟨by decide, by decide⟩ (fun c50 => ?_) (fun c50 => ?_)
                                    · skip
                                      refine lv_iload_n hx hb dX2_work_57 rfl (lv_at hl 8 rfl) ?_
                                      refine lv_iconst (v := iI (2)) hx hb dX2_work_58 rfl ?_
                                      refine gi_icmp_ne (tgt := 66) hx hb dX2_work_59 (by decide) ⟨by decide, by decide⟩ ⟨by decide, by decide⟩ (fun c59 => ?_) (fun c59 => ?_)
                                      · skip
                                        refine lv_bipush (v := iI (6)) hx hb dX2_work_66 rfl ?_
                                        refine lv_istore (lv' := [(10, .int (iI (6))), (9, .int (iI (tw (r0 * 8 + (7 - p0))))), (8, .int (iI (7 - p0))), (7, .int (iI (1))), (6, .int (iI (0 + (0 + 1)))), (12, .int (iI (1))), (11, .ref (ι (r0 * 8 + p0)).toNat), (0, .ref (d 0)), (1, .int (iI (3))), (2, .int (iI (r0))), (3, .int (iI (p0))), (4, .int (iI (0))), (5, .int (iI (0)))]) hx hb dX2_work_68 hl (by decide) rfl (fun ls hl => ?_)
                                        refine lv_aload_n hx hb dX2_work_70 rfl (lv_at hl 7 rfl) ?_
                                        refine va_get (D := D) (ci := 2) (v := .ref (d 1)) (C := RX2) (T := TX2) (N := 8) hx hb hts hinX2 hown hK hP 0 rfl rfl 0 (by decide) (hts (.fieldLink RX2 9 "TwinOrchardLaw$Sim" "trees" "[[LTwinOrchardLaw$Tree;") (List.mem_of_getElem? (i := 1) rfl)) (fun _ h9 => h9) rfl dX2_work_71 ?_
                                        refine lv_iload_n hx hb dX2_work_74 rfl (lv_at hl 9 rfl) ?_
                                        refine s_row (f := srt d) hx hb hK hP 1 3 rfl rfl (by omega) (by omega) (by decide) (v := d (r0.toNat + 7)) (if_pos (by omega)) dX2_work_75 ?_
                                        refine lv_iload hx hb dX2_work_76 (lv_at hl 2 rfl) ?_
                                        refine s_tree (σ := xFell σ (r0 * 8 + p0)) (ι := ι) (r := r0) (i := 7 - p0) hx hb hK hP (r0.toNat + 7) 2 (sw_row (by omega) (by omega)) rfl (by omega) (by omega) dX2_work_78 (fun ct78 => ?_) (fun ct78 => ?_)
                                        · skip
                                          refine lv_astoreN (lv' := [(11, .null), (10, .int (iI (6))), (9, .int (iI (tw (r0 * 8 + (7 - p0))))), (8, .int (iI (7 - p0))), (7, .int (iI (1))), (6, .int (iI (0 + (0 + 1)))), (12, .int (iI (1))), (0, .ref (d 0)), (1, .int (iI (3))), (2, .int (iI (r0))), (3, .int (iI (p0))), (4, .int (iI (0))), (5, .int (iI (0)))]) hx hb dX2_work_79 hl (by decide) rfl (fun ls hl => ?_)
                                          refine lv_iload_n hx hb dX2_work_81 rfl (lv_at hl 8 rfl) ?_
                                          refine gi_if_ne (tgt := 98) hx hb dX2_work_82 (by decide) ⟨by decide, by decide⟩ (fun c82 => ?_) (fun c82 => ?_)
                                          · skip
                                            refine lv_aloadN hx hb dX2_work_98 (lv_at hl 0 rfl) ?_
                                            refine lv_ifnullN (tgt := 148) hx hb dX2_work_100 (by decide) ?_
                                            refine lv_iconst (v := iI (0)) hx hb dX2_work_148 rfl ?_
                                            refine lv_istore (lv' := [(12, .int (iI (0))), (11, .null), (10, .int (iI (6))), (9, .int (iI (tw (r0 * 8 + (7 - p0))))), (8, .int (iI (7 - p0))), (7, .int (iI (1))), (6, .int (iI (0 + (0 + 1)))), (0, .ref (d 0)), (1, .int (iI (3))), (2, .int (iI (r0))), (3, .int (iI (p0))), (4, .int (iI (0))), (5, .int (iI (0)))]) hx hb dX2_work_149 hl (by decide) rfl (fun ls hl => ?_)
                                            refine lv_iload hx hb dX2_work_151 (lv_at hl 0 rfl) ?_
                                            refine gi_if_eq (tgt := 309) hx hb dX2_work_153 (by decide) ⟨by decide, by decide⟩ (fun c153 => ?_) (fun c153 => ?_)
                                            · skip
                                              have ha2 : feA (xFell σ (r0 * 8 + p0)) (r0 * 8 + (7 - p0)) = 0 := bI_f (by omega)
                                              have e8 : (xFell σ (r0 * 8 + p0)) = (xFell (xFell σ (r0 * 8 + p0)) (r0 * 8 + (7 - p0))) := (xFell_n (by omega)).symm
                                              rw [e8] at hP hD
                                              have hP : va_P D vwCl (SW cI cT cU d (xFell (xFell σ (r0 * 8 + p0)) (r0 * 8 + (7 - p0))) ι) H := hP
                                              have hD : va_D A (SW cI cT cU d (xFell (xFell σ (r0 * 8 + p0)) (r0 * 8 + (7 - p0))) ι) := hD
                                              refine lv_iinc (v := iI (2)) (lv' := [(7, .int (iI (2))), (12, .int (iI (0))), (11, .null), (10, .int (iI (6))), (9, .int (iI (tw (r0 * 8 + (7 - p0))))), (8, .int (iI (7 - p0))), (6, .int (iI (0 + (0 + 1)))), (0, .ref (d 0)), (1, .int (iI (3))), (2, .int (iI (r0))), (3, .int (iI (p0))), (4, .int (iI (0))), (5, .int (iI (0)))]) hx hb dX2_work_309 hl (k := 5) rfl rfl (by decide) rfl (fun ls hl => ?_)
                                              refine lv_goto (tgt := 6) hx hb dX2_work_312 (by decide) ?_
                                              refine lv_iload hx hb dX2_work_6 (lv_at hl 0 rfl) ?_
                                              refine lv_iconst (v := iI (2)) hx hb dX2_work_8 rfl ?_
                                              refine gi_icmp_ge (tgt := 315) hx hb dX2_work_9 (by decide) ⟨by decide, by decide⟩ ⟨by decide, by decide⟩ (fun c9 => ?_) (fun c9 => ?_)
                                              · skip
                                                refine lv_iload hx hb dX2_work_315 (lv_at hl 6 rfl) ?_
                                                have ess : (xFell (xFell σ (r0 * 8 + p0)) (mir (r0 * 8 + p0))) = (xFell (xFell σ (r0 * 8 + p0)) (r0 * 8 + (7 - p0))) := by rw [em]
                                                have hP : va_P D vwCl (SW cI cT cU d (xFell (xFell σ (r0 * 8 + p0)) (mir (r0 * 8 + p0))) ι) H := by rw [ess]; exact hP
                                                have hD : va_D A (SW cI cT cU d (xFell (xFell σ (r0 * 8 + p0)) (mir (r0 * 8 + p0))) ι) := by rw [ess]; exact hD
                                                have er : ((who (feA σ (r0 * 8 + p0)) (feA (xFell σ (r0 * 8 + p0)) (mir (r0 * 8 + p0))) : Int)) = (0 + (0 + 1)) := by rw [em, ha1, ha2]; decide
                                                exact g_iret (wo := (fun κ' => SW cI cT cU d (xFell (xFell σ (r0 * 8 + p0)) (mir (r0 * 8 + p0))) (κ' 2))) (kr := (fun κ' => True)) (rv := (fun _ => some (.int (iI (who (feA σ (r0 * 8 + p0)) (feA (xFell σ (r0 * 8 + p0)) (mir (r0 * 8 + p0)))))))) hx hb hr hlocks (fun _ => ι) rfl hP hK hD hS trivial (by rw [er]) (Nat.le_of_ble_eq_true rfl) (Nat.le_of_ble_eq_true rfl) dX2_work_317
                                              · skip
                                                omega
                                            · skip
                                              exact absurd rfl c153
                                          · skip
                                            exact absurd c82 (by decide)
                                        · skip
                                          refine lv_astore (lv' := [(11, .ref (ι (r0 * 8 + (7 - p0))).toNat), (10, .int (iI (6))), (9, .int (iI (tw (r0 * 8 + (7 - p0))))), (8, .int (iI (7 - p0))), (7, .int (iI (1))), (6, .int (iI (0 + (0 + 1)))), (12, .int (iI (1))), (0, .ref (d 0)), (1, .int (iI (3))), (2, .int (iI (r0))), (3, .int (iI (p0))), (4, .int (iI (0))), (5, .int (iI (0)))]) hx hb dX2_work_79 hl (by decide) rfl (fun ls hl => ?_)
                                          refine lv_iload_n hx hb dX2_work_81 rfl (lv_at hl 8 rfl) ?_
                                          refine gi_if_ne (tgt := 98) hx hb dX2_work_82 (by decide) ⟨by decide, by decide⟩ (fun c82 => ?_) (fun c82 => ?_)
                                          · skip
                                            refine lv_aload hx hb dX2_work_98 (lv_at hl 0 rfl) ?_
                                            refine lv_ifnull hx hb dX2_work_100 ?_
                                            refine lv_iload_n hx hb dX2_work_103 rfl (lv_at hl 8 rfl) ?_
                                            refine lv_iconst (v := iI (1)) hx hb dX2_work_104 rfl ?_
                                            refine gi_icmp_ne (tgt := 121) hx hb dX2_work_105 (by decide) ⟨by decide, by decide⟩ ⟨by decide, by decide⟩ (fun c105 => ?_) (fun c105 => ?_)
                                            · skip
                                              refine lv_iload_n hx hb dX2_work_121 rfl (lv_at hl 8 rfl) ?_
                                              refine lv_iconst (v := iI (2)) hx hb dX2_work_122 rfl ?_
                                              refine gi_icmp_ne (tgt := 144) hx hb dX2_work_123 (by decide) ⟨by decide, by decide⟩ ⟨by decide, by decide⟩ (fun c123 => ?_) (fun c123 => ?_)
                                              · skip
                                                refine lv_iconst (v := iI (1)) hx hb dX2_work_144 rfl ?_
                                                refine lv_goto (tgt := 149) hx hb dX2_work_145 (by decide) ?_
                                                refine lv_istore (lv' := [(12, .int (iI (1))), (11, .ref (ι (r0 * 8 + (7 - p0))).toNat), (10, .int (iI (6))), (9, .int (iI (tw (r0 * 8 + (7 - p0))))), (8, .int (iI (7 - p0))), (7, .int (iI (1))), (6, .int (iI (0 + (0 + 1)))), (0, .ref (d 0)), (1, .int (iI (3))), (2, .int (iI (r0))), (3, .int (iI (p0))), (4, .int (iI (0))), (5, .int (iI (0)))]) hx hb dX2_work_149 hl (by decide) rfl (fun ls hl => ?_)
                                                refine lv_iload hx hb dX2_work_151 (lv_at hl 0 rfl) ?_
                                                refine gi_if_eq (tgt := 309) hx hb dX2_work_153 (by decide) ⟨by decide, by decide⟩ (fun c153 => ?_) (fun c153 => ?_)
                                                · skip
                                                  exact absurd c153 (by decide)
                                                · skip
                                                  refine lv_aload_n hx hb dX2_work_156 rfl (lv_at hl 7 rfl) ?_
                                                  refine va_get (D := D) (ci := 2) (v := .ref (d 6)) (C := RX2) (T := TX2) (N := 8) hx hb hts hinX2 hown hK hP 0 rfl rfl 5 (by decide) (hts (.fieldLink RX2 27 "TwinOrchardLaw$Sim" "strength" "[I") (List.mem_of_getElem? (i := 4) rfl)) (fun _ h9 => h9) rfl dX2_work_157 ?_
                                                  refine lv_iload hx hb dX2_work_160 (lv_at hl 3 rfl) ?_
                                                  refine gi_iald (a := d 6) (n := 2) (f := (xFell σ (r0 * 8 + p0)) 8) hx hb hK hP 6 0 rfl rfl (by omega) (by omega) (by decide) dX2_work_162 ?_
                                                  refine lv_iload hx hb dX2_work_163 (lv_at hl 2 rfl) ?_
                                                  refine gi_icmp_ge (tgt := 171) hx hb dX2_work_165 (by decide) ⟨by omega, by omega⟩ ⟨by decide, by decide⟩ (fun c165 => ?_) (fun c165 => ?_)
                                                  · skip
                                                    refine lv_aload_n hx hb dX2_work_171 rfl (lv_at hl 7 rfl) ?_
                                                    refine va_get (D := D) (ci := 2) (v := .ref (d 6)) (C := RX2) (T := TX2) (N := 8) hx hb hts hinX2 hown hK hP 0 rfl rfl 5 (by decide) (hts (.fieldLink RX2 27 "TwinOrchardLaw$Sim" "strength" "[I") (List.mem_of_getElem? (i := 4) rfl)) (fun _ h9 => h9) rfl dX2_work_172 ?_
                                                    refine lv_iload hx hb dX2_work_175 (lv_at hl 3 rfl) ?_
                                                    refine lv_dup2_11 hx hb dX2_work_177 rfl rfl ?_
                                                    refine gi_iald (a := d 6) (n := 2) (f := (xFell σ (r0 * 8 + p0)) 8) hx hb hK hP 6 0 rfl rfl (by omega) (by omega) (by decide) dX2_work_178 ?_
                                                    refine lv_iload hx hb dX2_work_179 (lv_at hl 2 rfl) ?_
                                                    refine gi_sub hx hb dX2_work_181 ?_
                                                    refine gi_iast (a := d 6) (n := 2) (f := (xFell σ (r0 * 8 + p0)) 8) hx hb hK hP hD hS 6 0 rfl rfl (by omega) (by omega) (by decide) dX2_work_182 (fun H locs hP hD hS => ?_)
                                                    have hP : va_P D vwCl (SW cI cT cU d (su (xFell σ (r0 * 8 + p0)) 8 (tw (r0 * 8 + (7 - p0))) (((xFell σ (r0 * 8 + p0)) 8 (tw (r0 * 8 + (7 - p0)))) - 6)) ι) H := hP
                                                    have hD : va_D A (SW cI cT cU d (su (xFell σ (r0 * 8 + p0)) 8 (tw (r0 * 8 + (7 - p0))) (((xFell σ (r0 * 8 + p0)) 8 (tw (r0 * 8 + (7 - p0)))) - 6)) ι) := hD
                                                    refine lv_iload hx hb dX2_work_183 (lv_at hl 6 rfl) ?_
                                                    refine lv_iload hx hb dX2_work_185 (lv_at hl 5 rfl) ?_
                                                    refine lv_iconst (v := iI (1)) hx hb dX2_work_187 rfl ?_
                                                    refine gi_add hx hb dX2_work_188 ?_
                                                    refine gi_add hx hb dX2_work_189 ?_
                                                    refine lv_istore (lv' := [(6, .int (iI ((0 + (0 + 1)) + (1 + 1)))), (12, .int (iI (1))), (11, .ref (ι (r0 * 8 + (7 - p0))).toNat), (10, .int (iI (6))), (9, .int (iI (tw (r0 * 8 + (7 - p0))))), (8, .int (iI (7 - p0))), (7, .int (iI (1))), (0, .ref (d 0)), (1, .int (iI (3))), (2, .int (iI (r0))), (3, .int (iI (p0))), (4, .int (iI (0))), (5, .int (iI (0)))]) hx hb dX2_work_190 hl (by decide) rfl (fun ls hl => ?_)
                                                    refine lv_iload_n hx hb dX2_work_192 rfl (lv_at hl 8 rfl) ?_
                                                    refine gi_if_ne (tgt := 233) hx hb dX2_work_193 (by decide) ⟨by decide, by decide⟩ (fun c193 => ?_) (fun c193 => ?_)
                                                    · skip
                                                      refine lv_iload_n hx hb dX2_work_233 rfl (lv_at hl 8 rfl) ?_
                                                      refine lv_iconst (v := iI (1)) hx hb dX2_work_234 rfl ?_
                                                      refine gi_icmp_ne (tgt := 259) hx hb dX2_work_235 (by decide) ⟨by decide, by decide⟩ ⟨by decide, by decide⟩ (fun c235 => ?_) (fun c235 => ?_)
                                                      · skip
                                                        refine lv_iload_n hx hb dX2_work_259 rfl (lv_at hl 8 rfl) ?_
                                                        refine lv_iconst (v := iI (2)) hx hb dX2_work_260 rfl ?_
                                                        refine gi_icmp_ne (tgt := 299) hx hb dX2_work_261 (by decide) ⟨by decide, by decide⟩ ⟨by decide, by decide⟩ (fun c261 => ?_) (fun c261 => ?_)
                                                        · skip
                                                          refine lv_aload_n hx hb dX2_work_299 rfl (lv_at hl 7 rfl) ?_
                                                          refine va_get (D := D) (ci := 2) (v := .ref (d 1)) (C := RX2) (T := TX2) (N := 8) hx hb hts hinX2 hown hK hP 0 rfl rfl 0 (by decide) (hts (.fieldLink RX2 9 "TwinOrchardLaw$Sim" "trees" "[[LTwinOrchardLaw$Tree;") (List.mem_of_getElem? (i := 1) rfl)) (fun _ h9 => h9) rfl dX2_work_300 ?_
                                                          refine lv_iload_n hx hb dX2_work_303 rfl (lv_at hl 9 rfl) ?_
                                                          refine s_row (f := srt d) hx hb hK hP 1 3 rfl rfl (by omega) (by omega) (by decide) (v := d (r0.toNat + 7)) (if_pos (by omega)) dX2_work_304 ?_
                                                          refine lv_iload hx hb dX2_work_305 (lv_at hl 5 rfl) ?_
                                                          refine lv_null hx hb dX2_work_307 ?_
                                                          refine s_storeN (f := trow (su (xFell σ (r0 * 8 + p0)) 8 (tw (r0 * 8 + (7 - p0))) (((xFell σ (r0 * 8 + p0)) 8 (tw (r0 * 8 + (7 - p0)))) - 6)) ι r0) hx hb hK hP hD hS (r0.toNat + 7) 2 (sw_row (by omega) (by omega)) rfl (by omega) (by omega) dX2_work_308 (fun H locs hP hD hS => ?_)
                                                          obtain ⟨hP, hD⟩ := sw_fell (cI := cI) (cT := cT) (cU := cU) (d := d) (σ := su (xFell σ (r0 * 8 + p0)) 8 (tw (r0 * 8 + (7 - p0))) (((xFell σ (r0 * 8 + p0)) 8 (tw (r0 * 8 + (7 - p0)))) - 6)) (ι := ι) (r := r0) (p := 7 - p0) (by omega) (by omega) hP hD
                                                          have hP : va_P D vwCl (SW cI cT cU d (felS (su (xFell σ (r0 * 8 + p0)) 8 (tw (r0 * 8 + (7 - p0))) (((xFell σ (r0 * 8 + p0)) 8 (tw (r0 * 8 + (7 - p0)))) - 6)) (r0 * 8 + (7 - p0))) ι) H := hP
                                                          have hD : va_D A (SW cI cT cU d (felS (su (xFell σ (r0 * 8 + p0)) 8 (tw (r0 * 8 + (7 - p0))) (((xFell σ (r0 * 8 + p0)) 8 (tw (r0 * 8 + (7 - p0)))) - 6)) (r0 * 8 + (7 - p0))) ι) := hD
                                                          have ha2 : feA (xFell σ (r0 * 8 + p0)) (r0 * 8 + (7 - p0)) = 1 := bI_t (by omega)
                                                          have e8 : (felS (su (xFell σ (r0 * 8 + p0)) 8 (tw (r0 * 8 + (7 - p0))) (((xFell σ (r0 * 8 + p0)) 8 (tw (r0 * 8 + (7 - p0)))) - 6)) (r0 * 8 + (7 - p0))) = (xFell (xFell σ (r0 * 8 + p0)) (r0 * 8 + (7 - p0))) := (xFell_y (by omega)).symm
                                                          rw [e8] at hP hD
                                                          have hP : va_P D vwCl (SW cI cT cU d (xFell (xFell σ (r0 * 8 + p0)) (r0 * 8 + (7 - p0))) ι) H := hP
                                                          have hD : va_D A (SW cI cT cU d (xFell (xFell σ (r0 * 8 + p0)) (r0 * 8 + (7 - p0))) ι) := hD
                                                          refine lv_iinc (v := iI (2)) (lv' := [(7, .int (iI (2))), (6, .int (iI ((0 + (0 + 1)) + (1 + 1)))), (12, .int (iI (1))), (11, .ref (ι (r0 * 8 + (7 - p0))).toNat), (10, .int (iI (6))), (9, .int (iI (tw (r0 * 8 + (7 - p0))))), (8, .int (iI (7 - p0))), (0, .ref (d 0)), (1, .int (iI (3))), (2, .int (iI (r0))), (3, .int (iI (p0))), (4, .int (iI (0))), (5, .int (iI (0)))]) hx hb dX2_work_309 hl (k := 6) rfl rfl (by decide) rfl (fun ls hl => ?_)
                                                          refine lv_goto (tgt := 6) hx hb dX2_work_312 (by decide) ?_
                                                          refine lv_iload hx hb dX2_work_6 (lv_at hl 0 rfl) ?_
                                                          refine lv_iconst (v := iI (2)) hx hb dX2_work_8 rfl ?_
                                                          refine gi_icmp_ge (tgt := 315) hx hb dX2_work_9 (by decide) ⟨by decide, by decide⟩ ⟨by decide, by decide⟩ (fun c9 => ?_) (fun c9 => ?_)
                                                          · skip
                                                            refine lv_iload hx hb dX2_work_315 (lv_at hl 1 rfl) ?_
                                                            have ess : (xFell (xFell σ (r0 * 8 + p0)) (mir (r0 * 8 + p0))) = (xFell (xFell σ (r0 * 8 + p0)) (r0 * 8 + (7 - p0))) := by rw [em]
                                                            have hP : va_P D vwCl (SW cI cT cU d (xFell (xFell σ (r0 * 8 + p0)) (mir (r0 * 8 + p0))) ι) H := by rw [ess]; exact hP
                                                            have hD : va_D A (SW cI cT cU d (xFell (xFell σ (r0 * 8 + p0)) (mir (r0 * 8 + p0))) ι) := by rw [ess]; exact hD
                                                            have er : ((who (feA σ (r0 * 8 + p0)) (feA (xFell σ (r0 * 8 + p0)) (mir (r0 * 8 + p0))) : Int)) = ((0 + (0 + 1)) + (1 + 1)) := by rw [em, ha1, ha2]; decide
                                                            exact g_iret (wo := (fun κ' => SW cI cT cU d (xFell (xFell σ (r0 * 8 + p0)) (mir (r0 * 8 + p0))) (κ' 2))) (kr := (fun κ' => True)) (rv := (fun _ => some (.int (iI (who (feA σ (r0 * 8 + p0)) (feA (xFell σ (r0 * 8 + p0)) (mir (r0 * 8 + p0)))))))) hx hb hr hlocks (fun _ => ι) rfl hP hK hD hS trivial (by rw [er]) (Nat.le_of_ble_eq_true rfl) (Nat.le_of_ble_eq_true rfl) dX2_work_317
                                                          · skip
                                                            omega
                                                        · skip
                                                          exact absurd c261 (by decide)
                                                      · skip
                                                        exact absurd c235 (by decide)
                                                    · skip
                                                      exact absurd c193 (by decide)
                                                  · skip
                                                    refine lv_goto (tgt := 309) hx hb dX2_work_168 (by decide) ?_
                                                    have ha2 : feA (xFell σ (r0 * 8 + p0)) (r0 * 8 + (7 - p0)) = 0 := bI_f (by omega)
                                                    have e8 : (xFell σ (r0 * 8 + p0)) = (xFell (xFell σ (r0 * 8 + p0)) (r0 * 8 + (7 - p0))) := (xFell_n (by omega)).symm
                                                    rw [e8] at hP hD
                                                    have hP : va_P D vwCl (SW cI cT cU d (xFell (xFell σ (r0 * 8 + p0)) (r0 * 8 + (7 - p0))) ι) H := hP
                                                    have hD : va_D A (SW cI cT cU d (xFell (xFell σ (r0 * 8 + p0)) (r0 * 8 + (7 - p0))) ι) := hD
                                                    refine lv_iinc (v := iI (2)) (lv' := [(7, .int (iI (2))), (12, .int (iI (1))), (11, .ref (ι (r0 * 8 + (7 - p0))).toNat), (10, .int (iI (6))), (9, .int (iI (tw (r0 * 8 + (7 - p0))))), (8, .int (iI (7 - p0))), (6, .int (iI (0 + (0 + 1)))), (0, .ref (d 0)), (1, .int (iI (3))), (2, .int (iI (r0))), (3, .int (iI (p0))), (4, .int (iI (0))), (5, .int (iI (0)))]) hx hb dX2_work_309 hl (k := 5) rfl rfl (by decide) rfl (fun ls hl => ?_)
                                                    refine lv_goto (tgt := 6) hx hb dX2_work_312 (by decide) ?_
                                                    refine lv_iload hx hb dX2_work_6 (lv_at hl 0 rfl) ?_
                                                    refine lv_iconst (v := iI (2)) hx hb dX2_work_8 rfl ?_
                                                    refine gi_icmp_ge (tgt := 315) hx hb dX2_work_9 (by decide) ⟨by decide, by decide⟩ ⟨by decide, by decide⟩ (fun c9 => ?_) (fun c9 => ?_)
                                                    · skip
                                                      refine lv_iload hx hb dX2_work_315 (lv_at hl 6 rfl) ?_
                                                      have ess : (xFell (xFell σ (r0 * 8 + p0)) (mir (r0 * 8 + p0))) = (xFell (xFell σ (r0 * 8 + p0)) (r0 * 8 + (7 - p0))) := by rw [em]
                                                      have hP : va_P D vwCl (SW cI cT cU d (xFell (xFell σ (r0 * 8 + p0)) (mir (r0 * 8 + p0))) ι) H := by rw [ess]; exact hP
                                                      have hD : va_D A (SW cI cT cU d (xFell (xFell σ (r0 * 8 + p0)) (mir (r0 * 8 + p0))) ι) := by rw [ess]; exact hD
                                                      have er : ((who (feA σ (r0 * 8 + p0)) (feA (xFell σ (r0 * 8 + p0)) (mir (r0 * 8 + p0))) : Int)) = (0 + (0 + 1)) := by rw [em, ha1, ha2]; decide
                                                      exact g_iret (wo := (fun κ' => SW cI cT cU d (xFell (xFell σ (r0 * 8 + p0)) (mir (r0 * 8 + p0))) (κ' 2))) (kr := (fun κ' => True)) (rv := (fun _ => some (.int (iI (who (feA σ (r0 * 8 + p0)) (feA (xFell σ (r0 * 8 + p0)) (mir (r0 * 8 + p0)))))))) hx hb hr hlocks (fun _ => ι) rfl hP hK hD hS trivial (by rw [er]) (Nat.le_of_ble_eq_true rfl) (Nat.le_of_ble_eq_true rfl) dX2_work_317
                                                    · skip
                                                      omega
                                              · skip
                                                exact absurd c123 (by decide)
                                            · skip
                                              exact absurd c105 (by decide)
                                          · skip
                                            exact absurd c82 (by decide)
                                      · skip
                                        exact absurd c59 (by decide)
                                    · skip
                                      exact absurd c50 (by decide)
                                  · skip
                                    exact absurd c41 (by decide)
                                · skip
                                  exact absurd c14 (by decide)
                            · skip
                              exact absurd c261 (by decide)
                          · skip
                            exact absurd c235 (by decide)
                        · skip
                          exact absurd c193 (by decide)
                      · skip
                        refine lv_goto (tgt := 309) hx hb dX2_work_168 (by decide) ?_
                        have ha1 : feA σ (r0 * 8 + p0) = 0 := bI_f (by omega)
                        have e8 : (σ) = (xFell σ (r0 * 8 + p0)) := (xFell_n (by omega)).symm
                        rw [e8] at hP hD
                        have hP : va_P D vwCl (SW cI cT cU d (xFell σ (r0 * 8 + p0)) ι) H := hP
                        have hD : va_D A (SW cI cT cU d (xFell σ (r0 * 8 + p0)) ι) := hD
                        have hwf2 : xWF (xFell σ (r0 * 8 + p0)) := xWF_fell hwf
                        have k4b := xWF_4 hwf2 (r0 * 8 + (7 - p0))
                        have k5b := xWF_5 hwf2 (r0 * 8 + (7 - p0))
                        have k8b := xWF_8 hwf2 (tw (r0 * 8 + (7 - p0)))
                        refine lv_iinc (v := iI (1)) (lv' := [(7, .int (iI (1))), (12, .int (iI (1))), (11, .ref (ι (r0 * 8 + p0)).toNat), (10, .int (iI (6))), (9, .int (iI (tw (r0 * 8 + p0)))), (8, .int (iI (p0))), (6, .int (iI (0))), (0, .ref (d 0)), (1, .int (iI (3))), (2, .int (iI (r0))), (3, .int (iI (p0))), (4, .int (iI (0))), (5, .int (iI (0)))]) hx hb dX2_work_309 hl (k := 5) rfl rfl (by decide) rfl (fun ls hl => ?_)
                        refine lv_goto (tgt := 6) hx hb dX2_work_312 (by decide) ?_
                        refine lv_iload hx hb dX2_work_6 (lv_at hl 0 rfl) ?_
                        refine lv_iconst (v := iI (2)) hx hb dX2_work_8 rfl ?_
                        refine gi_icmp_ge (tgt := 315) hx hb dX2_work_9 (by decide) ⟨by decide, by decide⟩ ⟨by decide, by decide⟩ (fun c9 => ?_) (fun c9 => ?_)
                        · skip
                          exact absurd c9 (by decide)
                        · skip
                          refine lv_iload hx hb dX2_work_12 (lv_at hl 0 rfl) ?_
                          refine gi_if_ne (tgt := 21) hx hb dX2_work_14 (by decide) ⟨by decide, by decide⟩ (fun c14 => ?_) (fun c14 => ?_)
                          · skip
                            refine lv_bipush (v := iI (7)) hx hb dX2_work_21 rfl ?_
                            refine lv_iload_n hx hb dX2_work_23 rfl (lv_at hl 10 rfl) ?_
                            refine gi_sub hx hb dX2_work_24 ?_
                            refine lv_istore (lv' := [(8, .int (iI (7 - p0))), (7, .int (iI (1))), (12, .int (iI (1))), (11, .ref (ι (r0 * 8 + p0)).toNat), (10, .int (iI (6))), (9, .int (iI (tw (r0 * 8 + p0)))), (6, .int (iI (0))), (0, .ref (d 0)), (1, .int (iI (3))), (2, .int (iI (r0))), (3, .int (iI (p0))), (4, .int (iI (0))), (5, .int (iI (0)))]) hx hb dX2_work_25 hl (by decide) rfl (fun ls hl => ?_)
                            refine lv_iload hx hb dX2_work_27 (lv_at hl 0 rfl) ?_
                            refine lv_iconst (v := iI (4)) hx hb dX2_work_29 rfl ?_
                            refine g_selGe (u := 0) (v := 1) (t1 := 37) (t2 := 38) hx hb ⟨by omega, by omega⟩ ⟨by decide, by decide⟩ dX2_work_30 (by decide) (fun st h => lv_iconst (v := iI (0)) hx hb dX2_work_33 rfl (lv_goto (tgt := 38) hx hb dX2_work_34 (by decide) h)) (fun st h => lv_iconst (v := iI (1)) hx hb dX2_work_37 rfl h) ?_
                            rw [show (if 7 - p0 < 4 then (0 : Int) else 1) = tw (r0 * 8 + (7 - p0)) from by unfold tw; split <;> split <;> omega]
                            refine lv_istore (lv' := [(9, .int (iI (tw (r0 * 8 + (7 - p0))))), (8, .int (iI (7 - p0))), (7, .int (iI (1))), (12, .int (iI (1))), (11, .ref (ι (r0 * 8 + p0)).toNat), (10, .int (iI (6))), (6, .int (iI (0))), (0, .ref (d 0)), (1, .int (iI (3))), (2, .int (iI (r0))), (3, .int (iI (p0))), (4, .int (iI (0))), (5, .int (iI (0)))]) hx hb dX2_work_38 hl (by decide) rfl (fun ls hl => ?_)
                            refine lv_iload_n hx hb dX2_work_40 rfl (lv_at hl 8 rfl) ?_
                            refine gi_if_ne (tgt := 48) hx hb dX2_work_41 (by decide) ⟨by decide, by decide⟩ (fun c41 => ?_) (fun c41 => ?_)
                            · skip
                              refine lv_iload_n hx hb dX2_work_48 rfl (lv_at hl 8 rfl) ?_
                              refine lv_iconst (v := iI (1)) hx hb dX2_work_49 rfl ?_
                              refine gi_icmp_ne (tgt := 57) hx hb dX2_work_50 (by decide) ⟨by decide, by decide⟩ ⟨by decide, by decide⟩ (fun c50 => ?_) (fun c50 => ?_)
                              · skip
                                refine lv_iload_n hx hb dX2_work_57 rfl (lv_at hl 8 rfl) ?_
                                refine lv_iconst (v := iI (2)) hx hb dX2_work_58 rfl ?_
                                refine gi_icmp_ne (tgt := 66) hx hb dX2_work_59 (by decide) ⟨by decide, by decide⟩ ⟨by decide, by decide⟩ (fun c59 => ?_) (fun c59 => ?_)
                                · skip
                                  refine lv_bipush (v := iI (6)) hx hb dX2_work_66 rfl ?_
                                  refine lv_istore (lv' := [(10, .int (iI (6))), (9, .int (iI (tw (r0 * 8 + (7 - p0))))), (8, .int (iI (7 - p0))), (7, .int (iI (1))), (12, .int (iI (1))), (11, .ref (ι (r0 * 8 + p0)).toNat), (6, .int (iI (0))), (0, .ref (d 0)), (1, .int (iI (3))), (2, .int (iI (r0))), (3, .int (iI (p0))), (4, .int (iI (0))), (5, .int (iI (0)))]) hx hb dX2_work_68 hl (by decide) rfl (fun ls hl => ?_)
                                  refine lv_aload_n hx hb dX2_work_70 rfl (lv_at hl 7 rfl) ?_
                                  refine va_get (D := D) (ci := 2) (v := .ref (d 1)) (C := RX2) (T := TX2) (N := 8) hx hb hts hinX2 hown hK hP 0 rfl rfl 0 (by decide) (hts (.fieldLink RX2 9 "TwinOrchardLaw$Sim" "trees" "[[LTwinOrchardLaw$Tree;") (List.mem_of_getElem? (i := 1) rfl)) (fun _ h9 => h9) rfl dX2_work_71 ?_
                                  refine lv_iload_n hx hb dX2_work_74 rfl (lv_at hl 9 rfl) ?_
                                  refine s_row (f := srt d) hx hb hK hP 1 3 rfl rfl (by omega) (by omega) (by decide) (v := d (r0.toNat + 7)) (if_pos (by omega)) dX2_work_75 ?_
                                  refine lv_iload hx hb dX2_work_76 (lv_at hl 2 rfl) ?_
                                  refine s_tree (σ := xFell σ (r0 * 8 + p0)) (ι := ι) (r := r0) (i := 7 - p0) hx hb hK hP (r0.toNat + 7) 2 (sw_row (by omega) (by omega)) rfl (by omega) (by omega) dX2_work_78 (fun ct78 => ?_) (fun ct78 => ?_)
                                  · skip
                                    refine lv_astoreN (lv' := [(11, .null), (10, .int (iI (6))), (9, .int (iI (tw (r0 * 8 + (7 - p0))))), (8, .int (iI (7 - p0))), (7, .int (iI (1))), (12, .int (iI (1))), (6, .int (iI (0))), (0, .ref (d 0)), (1, .int (iI (3))), (2, .int (iI (r0))), (3, .int (iI (p0))), (4, .int (iI (0))), (5, .int (iI (0)))]) hx hb dX2_work_79 hl (by decide) rfl (fun ls hl => ?_)
                                    refine lv_iload_n hx hb dX2_work_81 rfl (lv_at hl 8 rfl) ?_
                                    refine gi_if_ne (tgt := 98) hx hb dX2_work_82 (by decide) ⟨by decide, by decide⟩ (fun c82 => ?_) (fun c82 => ?_)
                                    · skip
                                      refine lv_aloadN hx hb dX2_work_98 (lv_at hl 0 rfl) ?_
                                      refine lv_ifnullN (tgt := 148) hx hb dX2_work_100 (by decide) ?_
                                      refine lv_iconst (v := iI (0)) hx hb dX2_work_148 rfl ?_
                                      refine lv_istore (lv' := [(12, .int (iI (0))), (11, .null), (10, .int (iI (6))), (9, .int (iI (tw (r0 * 8 + (7 - p0))))), (8, .int (iI (7 - p0))), (7, .int (iI (1))), (6, .int (iI (0))), (0, .ref (d 0)), (1, .int (iI (3))), (2, .int (iI (r0))), (3, .int (iI (p0))), (4, .int (iI (0))), (5, .int (iI (0)))]) hx hb dX2_work_149 hl (by decide) rfl (fun ls hl => ?_)
                                      refine lv_iload hx hb dX2_work_151 (lv_at hl 0 rfl) ?_
                                      refine gi_if_eq (tgt := 309) hx hb dX2_work_153 (by decide) ⟨by decide, by decide⟩ (fun c153 => ?_) (fun c153 => ?_)
                                      · skip
                                        have ha2 : feA (xFell σ (r0 * 8 + p0)) (r0 * 8 + (7 - p0)) = 0 := bI_f (by omega)
                                        have e8 : (xFell σ (r0 * 8 + p0)) = (xFell (xFell σ (r0 * 8 + p0)) (r0 * 8 + (7 - p0))) := (xFell_n (by omega)).symm
                                        rw [e8] at hP hD
                                        have hP : va_P D vwCl (SW cI cT cU d (xFell (xFell σ (r0 * 8 + p0)) (r0 * 8 + (7 - p0))) ι) H := hP
                                        have hD : va_D A (SW cI cT cU d (xFell (xFell σ (r0 * 8 + p0)) (r0 * 8 + (7 - p0))) ι) := hD
                                        refine lv_iinc (v := iI (2)) (lv' := [(7, .int (iI (2))), (12, .int (iI (0))), (11, .null), (10, .int (iI (6))), (9, .int (iI (tw (r0 * 8 + (7 - p0))))), (8, .int (iI (7 - p0))), (6, .int (iI (0))), (0, .ref (d 0)), (1, .int (iI (3))), (2, .int (iI (r0))), (3, .int (iI (p0))), (4, .int (iI (0))), (5, .int (iI (0)))]) hx hb dX2_work_309 hl (k := 5) rfl rfl (by decide) rfl (fun ls hl => ?_)
                                        refine lv_goto (tgt := 6) hx hb dX2_work_312 (by decide) ?_
                                        refine lv_iload hx hb dX2_work_6 (lv_at hl 0 rfl) ?_
                                        refine lv_iconst (v := iI (2)) hx hb dX2_work_8 rfl ?_
                                        refine gi_icmp_ge (tgt := 315) hx hb dX2_work_9 (by decide) ⟨by decide, by decide⟩ ⟨by decide, by decide⟩ (fun c9 => ?_) (fun c9 => ?_)
                                        · skip
                                          refine lv_iload hx hb dX2_work_315 (lv_at hl 6 rfl) ?_
                                          have ess : (xFell (xFell σ (r0 * 8 + p0)) (mir (r0 * 8 + p0))) = (xFell (xFell σ (r0 * 8 + p0)) (r0 * 8 + (7 - p0))) := by rw [em]
                                          have hP : va_P D vwCl (SW cI cT cU d (xFell (xFell σ (r0 * 8 + p0)) (mir (r0 * 8 + p0))) ι) H := by rw [ess]; exact hP
                                          have hD : va_D A (SW cI cT cU d (xFell (xFell σ (r0 * 8 + p0)) (mir (r0 * 8 + p0))) ι) := by rw [ess]; exact hD
                                          have er : ((who (feA σ (r0 * 8 + p0)) (feA (xFell σ (r0 * 8 + p0)) (mir (r0 * 8 + p0))) : Int)) = (0) := by rw [em, ha1, ha2]; decide
                                          exact g_iret (wo := (fun κ' => SW cI cT cU d (xFell (xFell σ (r0 * 8 + p0)) (mir (r0 * 8 + p0))) (κ' 2))) (kr := (fun κ' => True)) (rv := (fun _ => some (.int (iI (who (feA σ (r0 * 8 + p0)) (feA (xFell σ (r0 * 8 + p0)) (mir (r0 * 8 + p0)))))))) hx hb hr hlocks (fun _ => ι) rfl hP hK hD hS trivial (by rw [er]) (Nat.le_of_ble_eq_true rfl) (Nat.le_of_ble_eq_true rfl) dX2_work_317
                                        · skip
                                          omega
                                      · skip
                                        exact absurd rfl c153
                                    · skip
                                      exact absurd c82 (by decide)
                                  · skip
                                    refine lv_astore (lv' := [(11, .ref (ι (r0 * 8 + (7 - p0))).toNat), (10, .int (iI (6))), (9, .int (iI (tw (r0 * 8 + (7 - p0))))), (8, .int (iI (7 - p0))), (7, .int (iI (1))), (12, .int (iI (1))), (6, .int (iI (0))), (0, .ref (d 0)), (1, .int (iI (3))), (2, .int (iI (r0))), (3, .int (iI (p0))), (4, .int (iI (0))), (5, .int (iI (0)))]) hx hb dX2_work_79 hl (by decide) rfl (fun ls hl => ?_)
                                    refine lv_iload_n hx hb dX2_work_81 rfl (lv_at hl 8 rfl) ?_
                                    refine gi_if_ne (tgt := 98) hx hb dX2_work_82 (by decide) ⟨by decide, by decide⟩ (fun c82 => ?_) (fun c82 => ?_)
                                    · skip
                                      refine lv_aload hx hb dX2_work_98 (lv_at hl 0 rfl) ?_
                                      refine lv_ifnull hx hb dX2_work_100 ?_
                                      refine lv_iload_n hx hb dX2_work_103 rfl (lv_at hl 8 rfl) ?_
                                      refine lv_iconst (v := iI (1)) hx hb dX2_work_104 rfl ?_
                                      refine gi_icmp_ne (tgt := 121) hx hb dX2_work_105 (by decide) ⟨by decide, by decide⟩ ⟨by decide, by decide⟩ (fun c105 => ?_) (fun c105 => ?_)
                                      · skip
                                        refine lv_iload_n hx hb dX2_work_121 rfl (lv_at hl 8 rfl) ?_
                                        refine lv_iconst (v := iI (2)) hx hb dX2_work_122 rfl ?_
                                        refine gi_icmp_ne (tgt := 144) hx hb dX2_work_123 (by decide) ⟨by decide, by decide⟩ ⟨by decide, by decide⟩ (fun c123 => ?_) (fun c123 => ?_)
                                        · skip
                                          refine lv_iconst (v := iI (1)) hx hb dX2_work_144 rfl ?_
                                          refine lv_goto (tgt := 149) hx hb dX2_work_145 (by decide) ?_
                                          refine lv_istore (lv' := [(12, .int (iI (1))), (11, .ref (ι (r0 * 8 + (7 - p0))).toNat), (10, .int (iI (6))), (9, .int (iI (tw (r0 * 8 + (7 - p0))))), (8, .int (iI (7 - p0))), (7, .int (iI (1))), (6, .int (iI (0))), (0, .ref (d 0)), (1, .int (iI (3))), (2, .int (iI (r0))), (3, .int (iI (p0))), (4, .int (iI (0))), (5, .int (iI (0)))]) hx hb dX2_work_149 hl (by decide) rfl (fun ls hl => ?_)
                                          refine lv_iload hx hb dX2_work_151 (lv_at hl 0 rfl) ?_
                                          refine gi_if_eq (tgt := 309) hx hb dX2_work_153 (by decide) ⟨by decide, by decide⟩ (fun c153 => ?_) (fun c153 => ?_)
                                          · skip
                                            exact absurd c153 (by decide)
                                          · skip
                                            refine lv_aload_n hx hb dX2_work_156 rfl (lv_at hl 7 rfl) ?_
                                            refine va_get (D := D) (ci := 2) (v := .ref (d 6)) (C := RX2) (T := TX2) (N := 8) hx hb hts hinX2 hown hK hP 0 rfl rfl 5 (by decide) (hts (.fieldLink RX2 27 "TwinOrchardLaw$Sim" "strength" "[I") (List.mem_of_getElem? (i := 4) rfl)) (fun _ h9 => h9) rfl dX2_work_157 ?_
                                            refine lv_iload hx hb dX2_work_160 (lv_at hl 3 rfl) ?_
                                            refine gi_iald (a := d 6) (n := 2) (f := (xFell σ (r0 * 8 + p0)) 8) hx hb hK hP 6 0 rfl rfl (by omega) (by omega) (by decide) dX2_work_162 ?_
                                            refine lv_iload hx hb dX2_work_163 (lv_at hl 2 rfl) ?_
                                            refine gi_icmp_ge (tgt := 171) hx hb dX2_work_165 (by decide) ⟨by omega, by omega⟩ ⟨by decide, by decide⟩ (fun c165 => ?_) (fun c165 => ?_)
                                            · skip
                                              refine lv_aload_n hx hb dX2_work_171 rfl (lv_at hl 7 rfl) ?_
                                              refine va_get (D := D) (ci := 2) (v := .ref (d 6)) (C := RX2) (T := TX2) (N := 8) hx hb hts hinX2 hown hK hP 0 rfl rfl 5 (by decide) (hts (.fieldLink RX2 27 "TwinOrchardLaw$Sim" "strength" "[I") (List.mem_of_getElem? (i := 4) rfl)) (fun _ h9 => h9) rfl dX2_work_172 ?_
                                              refine lv_iload hx hb dX2_work_175 (lv_at hl 3 rfl) ?_
                                              refine lv_dup2_11 hx hb dX2_work_177 rfl rfl ?_
                                              refine gi_iald (a := d 6) (n := 2) (f := (xFell σ (r0 * 8 + p0)) 8) hx hb hK hP 6 0 rfl rfl (by omega) (by omega) (by decide) dX2_work_178 ?_
                                              refine lv_iload hx hb dX2_work_179 (lv_at hl 2 rfl) ?_
                                              refine gi_sub hx hb dX2_work_181 ?_
                                              refine gi_iast (a := d 6) (n := 2) (f := (xFell σ (r0 * 8 + p0)) 8) hx hb hK hP hD hS 6 0 rfl rfl (by omega) (by omega) (by decide) dX2_work_182 (fun H locs hP hD hS => ?_)
                                              have hP : va_P D vwCl (SW cI cT cU d (su (xFell σ (r0 * 8 + p0)) 8 (tw (r0 * 8 + (7 - p0))) (((xFell σ (r0 * 8 + p0)) 8 (tw (r0 * 8 + (7 - p0)))) - 6)) ι) H := hP
                                              have hD : va_D A (SW cI cT cU d (su (xFell σ (r0 * 8 + p0)) 8 (tw (r0 * 8 + (7 - p0))) (((xFell σ (r0 * 8 + p0)) 8 (tw (r0 * 8 + (7 - p0)))) - 6)) ι) := hD
                                              refine lv_iload hx hb dX2_work_183 (lv_at hl 6 rfl) ?_
                                              refine lv_iload hx hb dX2_work_185 (lv_at hl 5 rfl) ?_
                                              refine lv_iconst (v := iI (1)) hx hb dX2_work_187 rfl ?_
                                              refine gi_add hx hb dX2_work_188 ?_
                                              refine gi_add hx hb dX2_work_189 ?_
                                              refine lv_istore (lv' := [(6, .int (iI (0 + (1 + 1)))), (12, .int (iI (1))), (11, .ref (ι (r0 * 8 + (7 - p0))).toNat), (10, .int (iI (6))), (9, .int (iI (tw (r0 * 8 + (7 - p0))))), (8, .int (iI (7 - p0))), (7, .int (iI (1))), (0, .ref (d 0)), (1, .int (iI (3))), (2, .int (iI (r0))), (3, .int (iI (p0))), (4, .int (iI (0))), (5, .int (iI (0)))]) hx hb dX2_work_190 hl (by decide) rfl (fun ls hl => ?_)
                                              refine lv_iload_n hx hb dX2_work_192 rfl (lv_at hl 8 rfl) ?_
                                              refine gi_if_ne (tgt := 233) hx hb dX2_work_193 (by decide) ⟨by decide, by decide⟩ (fun c193 => ?_) (fun c193 => ?_)
                                              · skip
                                                refine lv_iload_n hx hb dX2_work_233 rfl (lv_at hl 8 rfl) ?_
                                                refine lv_iconst (v := iI (1)) hx hb dX2_work_234 rfl ?_
                                                refine gi_icmp_ne (tgt := 259) hx hb dX2_work_235 (by decide) ⟨by decide, by decide⟩ ⟨by decide, by decide⟩ (fun c235 => ?_) (fun c235 => ?_)
                                                · skip
                                                  refine lv_iload_n hx hb dX2_work_259 rfl (lv_at hl 8 rfl) ?_
                                                  refine lv_iconst (v := iI (2)) hx hb dX2_work_260 rfl ?_
                                                  refine gi_icmp_ne (tgt := 299) hx hb dX2_work_261 (by decide) ⟨by decide, by decide⟩ ⟨by decide, by decide⟩ (fun c261 => ?_) (fun c261 => ?_)
                                                  · skip
                                                    refine lv_aload_n hx hb dX2_work_299 rfl (lv_at hl 7 rfl) ?_
                                                    refine va_get (D := D) (ci := 2) (v := .ref (d 1)) (C := RX2) (T := TX2) (N := 8) hx hb hts hinX2 hown hK hP 0 rfl rfl 0 (by decide) (hts (.fieldLink RX2 9 "TwinOrchardLaw$Sim" "trees" "[[LTwinOrchardLaw$Tree;") (List.mem_of_getElem? (i := 1) rfl)) (fun _ h9 => h9) rfl dX2_work_300 ?_
                                                    refine lv_iload_n hx hb dX2_work_303 rfl (lv_at hl 9 rfl) ?_
                                                    refine s_row (f := srt d) hx hb hK hP 1 3 rfl rfl (by omega) (by omega) (by decide) (v := d (r0.toNat + 7)) (if_pos (by omega)) dX2_work_304 ?_
                                                    refine lv_iload hx hb dX2_work_305 (lv_at hl 5 rfl) ?_
                                                    refine lv_null hx hb dX2_work_307 ?_
                                                    refine s_storeN (f := trow (su (xFell σ (r0 * 8 + p0)) 8 (tw (r0 * 8 + (7 - p0))) (((xFell σ (r0 * 8 + p0)) 8 (tw (r0 * 8 + (7 - p0)))) - 6)) ι r0) hx hb hK hP hD hS (r0.toNat + 7) 2 (sw_row (by omega) (by omega)) rfl (by omega) (by omega) dX2_work_308 (fun H locs hP hD hS => ?_)
                                                    obtain ⟨hP, hD⟩ := sw_fell (cI := cI) (cT := cT) (cU := cU) (d := d) (σ := su (xFell σ (r0 * 8 + p0)) 8 (tw (r0 * 8 + (7 - p0))) (((xFell σ (r0 * 8 + p0)) 8 (tw (r0 * 8 + (7 - p0)))) - 6)) (ι := ι) (r := r0) (p := 7 - p0) (by omega) (by omega) hP hD
                                                    have hP : va_P D vwCl (SW cI cT cU d (felS (su (xFell σ (r0 * 8 + p0)) 8 (tw (r0 * 8 + (7 - p0))) (((xFell σ (r0 * 8 + p0)) 8 (tw (r0 * 8 + (7 - p0)))) - 6)) (r0 * 8 + (7 - p0))) ι) H := hP
                                                    have hD : va_D A (SW cI cT cU d (felS (su (xFell σ (r0 * 8 + p0)) 8 (tw (r0 * 8 + (7 - p0))) (((xFell σ (r0 * 8 + p0)) 8 (tw (r0 * 8 + (7 - p0)))) - 6)) (r0 * 8 + (7 - p0))) ι) := hD
                                                    have ha2 : feA (xFell σ (r0 * 8 + p0)) (r0 * 8 + (7 - p0)) = 1 := bI_t (by omega)
                                                    have e8 : (felS (su (xFell σ (r0 * 8 + p0)) 8 (tw (r0 * 8 + (7 - p0))) (((xFell σ (r0 * 8 + p0)) 8 (tw (r0 * 8 + (7 - p0)))) - 6)) (r0 * 8 + (7 - p0))) = (xFell (xFell σ (r0 * 8 + p0)) (r0 * 8 + (7 - p0))) := (xFell_y (by omega)).symm
                                                    rw [e8] at hP hD
                                                    have hP : va_P D vwCl (SW cI cT cU d (xFell (xFell σ (r0 * 8 + p0)) (r0 * 8 + (7 - p0))) ι) H := hP
                                                    have hD : va_D A (SW cI cT cU d (xFell (xFell σ (r0 * 8 + p0)) (r0 * 8 + (7 - p0))) ι) := hD
                                                    refine lv_iinc (v := iI (2)) (lv' := [(7, .int (iI (2))), (6, .int (iI (0 + (1 + 1)))), (12, .int (iI (1))), (11, .ref (ι (r0 * 8 + (7 - p0))).toNat), (10, .int (iI (6))), (9, .int (iI (tw (r0 * 8 + (7 - p0))))), (8, .int (iI (7 - p0))), (0, .ref (d 0)), (1, .int (iI (3))), (2, .int (iI (r0))), (3, .int (iI (p0))), (4, .int (iI (0))), (5, .int (iI (0)))]) hx hb dX2_work_309 hl (k := 6) rfl rfl (by decide) rfl (fun ls hl => ?_)
                                                    refine lv_goto (tgt := 6) hx hb dX2_work_312 (by decide) ?_
                                                    refine lv_iload hx hb dX2_work_6 (lv_at hl 0 rfl) ?_
                                                    refine lv_iconst (v := iI (2)) hx hb dX2_work_8 rfl ?_
                                                    refine gi_icmp_ge (tgt := 315) hx hb dX2_work_9 (by decide) ⟨by decide, by decide⟩ ⟨by decide, by decide⟩ (fun c9 => ?_) (fun c9 => ?_)
                                                    · skip
                                                      refine lv_iload hx hb dX2_work_315 (lv_at hl 1 rfl) ?_
                                                      have ess : (xFell (xFell σ (r0 * 8 + p0)) (mir (r0 * 8 + p0))) = (xFell (xFell σ (r0 * 8 + p0)) (r0 * 8 + (7 - p0))) := by rw [em]
                                                      have hP : va_P D vwCl (SW cI cT cU d (xFell (xFell σ (r0 * 8 + p0)) (mir (r0 * 8 + p0))) ι) H := by rw [ess]; exact hP
                                                      have hD : va_D A (SW cI cT cU d (xFell (xFell σ (r0 * 8 + p0)) (mir (r0 * 8 + p0))) ι) := by rw [ess]; exact hD
                                                      have er : ((who (feA σ (r0 * 8 + p0)) (feA (xFell σ (r0 * 8 + p0)) (mir (r0 * 8 + p0))) : Int)) = (0 + (1 + 1)) := by rw [em, ha1, ha2]; decide
                                                      exact g_iret (wo := (fun κ' => SW cI cT cU d (xFell (xFell σ (r0 * 8 + p0)) (mir (r0 * 8 + p0))) (κ' 2))) (kr := (fun κ' => True)) (rv := (fun _ => some (.int (iI (who (feA σ (r0 * 8 + p0)) (feA (xFell σ (r0 * 8 + p0)) (mir (r0 * 8 + p0)))))))) hx hb hr hlocks (fun _ => ι) rfl hP hK hD hS trivial (by rw [er]) (Nat.le_of_ble_eq_true rfl) (Nat.le_of_ble_eq_true rfl) dX2_work_317
                                                    · skip
                                                      omega
                                                  · skip
                                                    exact absurd c261 (by decide)
                                                · skip
                                                  exact absurd c235 (by decide)
                                              · skip
                                                exact absurd c193 (by decide)
                                            · skip
                                              refine lv_goto (tgt := 309) hx hb dX2_work_168 (by decide) ?_
                                              have ha2 : feA (xFell σ (r0 * 8 + p0)) (r0 * 8 + (7 - p0)) = 0 := bI_f (by omega)
                                              have e8 : (xFell σ (r0 * 8 + p0)) = (xFell (xFell σ (r0 * 8 + p0)) (r0 * 8 + (7 - p0))) := (xFell_n (by omega)).symm
                                              rw [e8] at hP hD
                                              have hP : va_P D vwCl (SW cI cT cU d (xFell (xFell σ (r0 * 8 + p0)) (r0 * 8 + (7 - p0))) ι) H := hP
                                              have hD : va_D A (SW cI cT cU d (xFell (xFell σ (r0 * 8 + p0)) (r0 * 8 + (7 - p0))) ι) := hD
                                              refine lv_iinc (v := iI (2)) (lv' := [(7, .int (iI (2))), (12, .int (iI (1))), (11, .ref (ι (r0 * 8 + (7 - p0))).toNat), (10, .int (iI (6))), (9, .int (iI (tw (r0 * 8 + (7 - p0))))), (8, .int (iI (7 - p0))), (6, .int (iI (0))), (0, .ref (d 0)), (1, .int (iI (3))), (2, .int (iI (r0))), (3, .int (iI (p0))), (4, .int (iI (0))), (5, .int (iI (0)))]) hx hb dX2_work_309 hl (k := 5) rfl rfl (by decide) rfl (fun ls hl => ?_)
                                              refine lv_goto (tgt := 6) hx hb dX2_work_312 (by decide) ?_
                                              refine lv_iload hx hb dX2_work_6 (lv_at hl 0 rfl) ?_
                                              refine lv_iconst (v := iI (2)) hx hb dX2_work_8 rfl ?_
                                              refine gi_icmp_ge (tgt := 315) hx hb dX2_work_9 (by decide) ⟨by decide, by decide⟩ ⟨by decide, by decide⟩ (fun c9 => ?_) (fun c9 => ?_)
                                              · skip
                                                refine lv_iload hx hb dX2_work_315 (lv_at hl 6 rfl) ?_
                                                have ess : (xFell (xFell σ (r0 * 8 + p0)) (mir (r0 * 8 + p0))) = (xFell (xFell σ (r0 * 8 + p0)) (r0 * 8 + (7 - p0))) := by rw [em]
                                                have hP : va_P D vwCl (SW cI cT cU d (xFell (xFell σ (r0 * 8 + p0)) (mir (r0 * 8 + p0))) ι) H := by rw [ess]; exact hP
                                                have hD : va_D A (SW cI cT cU d (xFell (xFell σ (r0 * 8 + p0)) (mir (r0 * 8 + p0))) ι) := by rw [ess]; exact hD
                                                have er : ((who (feA σ (r0 * 8 + p0)) (feA (xFell σ (r0 * 8 + p0)) (mir (r0 * 8 + p0))) : Int)) = (0) := by rw [em, ha1, ha2]; decide
                                                exact g_iret (wo := (fun κ' => SW cI cT cU d (xFell (xFell σ (r0 * 8 + p0)) (mir (r0 * 8 + p0))) (κ' 2))) (kr := (fun κ' => True)) (rv := (fun _ => some (.int (iI (who (feA σ (r0 * 8 + p0)) (feA (xFell σ (r0 * 8 + p0)) (mir (r0 * 8 + p0)))))))) hx hb hr hlocks (fun _ => ι) rfl hP hK hD hS trivial (by rw [er]) (Nat.le_of_ble_eq_true rfl) (Nat.le_of_ble_eq_true rfl) dX2_work_317
                                              · skip
                                                omega
                                        · skip
                                          exact absurd c123 (by decide)
                                      · skip
                                        exact absurd c105 (by decide)
                                    · skip
                                      exact absurd c82 (by decide)
                                · skip
                                  exact absurd c59 (by decide)
                              · skip
                                exact absurd c50 (by decide)
                            · skip
                              exact absurd c41 (by decide)
                          · skip
                            exact absurd c14 (by decide)
                  · skip
                    exact absurd c123 (by decide)
                · skip
                  exact absurd c105 (by decide)
              · skip
                exact absurd c82 (by decide)
          · skip
            exact absurd c59 (by decide)
        · skip
          exact absurd c50 (by decide)
      · skip
        exact absurd c41 (by decide)
