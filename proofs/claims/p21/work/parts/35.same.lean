set_option maxHeartbeats 4000000 in
set_option maxRecDepth 100000 in
theorem kX2_isSame (l : Launch) (hfl : l.stackTraces = false) (D : va_G) (cI cZ cT cU cQ : ClassId) (d : Nat → Nat) (σ κ : St) (ds : Nat → Nat) (ι : Int → Int)  (hwf : xWF σ) (hz : zWF σ) (hbn : ∀ j, σ 2 j ≤ 200000) : gMet l yX2_isSame wsX2_isSame ({ frames := 7, cells := 326, slots := 1940, locals := 116 } : Room) D (tyA cI cZ cT cU cQ) ((XW cI cZ d σ κ) ++ (SW cI cT cU ds σ ι)) [.ref (ds 0), .ref (d 0)] (lEx ((XW cI cZ d σ κ) ++ (SW cI cT cU ds σ ι))) (fun _ => some (.int (iI (1)))) (fun κ' => True) (fun κ' => (XW cI cZ d σ κ') ++ (SW cI cT cU ds σ (κ' 2))) := by
  refine g_startL (cc := cX2_isSame) (maxL := 13) (ret := (some .boolean)) (by decide) rfl (Nat.le_of_ble_eq_true rfl) ?_
  intro p e s m args below meth c A ls H locs S hr hlocks hP hK hD hA hS hTE hN hl
  have hE := hTE.1
  have S0 := S
  obtain ⟨hx, hb, hml, hown, hts⟩ := S0
  have hl : lv_has ls 13 [(0, .ref (ds 0)), (1, .ref (d 0))] := hl
  have hinX0 : ∀ w ∈ wsX00, w ∈ wsX2_isSame := by decide +kernel
  have hinX1 : ∀ w ∈ wsX10, w ∈ wsX2_isSame := by decide +kernel
  have hinX2 : ∀ w ∈ wsX20, w ∈ wsX2_isSame := by decide +kernel
  have hinX3 : ∀ w ∈ wsX30, w ∈ wsX2_isSame := by decide +kernel
  refine lv_iconst (v := iI (0)) hx hb dX2_isSame_0 rfl ?_
  refine lv_istore_n (lv' := [(2, .int (iI (0))), (0, .ref (ds 0)), (1, .ref (d 0))]) hx hb dX2_isSame_1 rfl hl (by decide) rfl (fun ls hl => ?_)
  refine lv_iconst (v := iI (0)) hx hb dX2_isSame_2 rfl ?_
  refine lv_istore_n (lv' := [(3, .int (iI (0))), (2, .int (iI (0))), (0, .ref (ds 0)), (1, .ref (d 0))]) hx hb dX2_isSame_3 rfl hl (by decide) rfl (fun ls hl => ?_)
  refine lv_iconst (v := iI (0)) hx hb dX2_isSame_4 rfl ?_
  refine lv_istore (lv' := [(4, .int (iI (0))), (3, .int (iI (0))), (2, .int (iI (0))), (0, .ref (ds 0)), (1, .ref (d 0))]) hx hb dX2_isSame_5 hl (by decide) rfl (fun ls hl => ?_)
  refine lv_iconst (v := iI (0)) hx hb dX2_isSame_7 rfl ?_
  refine lv_istore (lv' := [(5, .int (iI (0))), (4, .int (iI (0))), (3, .int (iI (0))), (2, .int (iI (0))), (0, .ref (ds 0)), (1, .ref (d 0))]) hx hb dX2_isSame_8 hl (by decide) rfl (fun ls hl => ?_)
  refine lv_bipush (v := iI (6)) hx hb dX2_isSame_10 rfl ?_
  refine va_newa (atype := .int) (ty := .int) (N' := 6) (a0 := (6, .inl (fun j : Nat => iI ((fun _ => 0 : Int → Int) (j : Int))))) hx hb (hts _ (List.mem_of_getElem? (i := 1) rfl)) rfl hK hP hD hS hA (fun _ => rfl) (by decide) rfl (Nat.le_of_ble_eq_true rfl) (Nat.le_of_ble_eq_true rfl) (Nat.le_of_ble_eq_true rfl) dX2_isSame_12 (fun q12 cA H hK hP hD hS => ?_)
  have e9 : cI = cA := g_clsI hK 0 5 rfl rfl
  subst e9
  have hK : va_K D vwCl (tyA cI cZ cT cU cQ) s := hK.sub [0, 1, 2, 3, 4] rfl
  obtain ⟨hP, hD⟩ := g_swap hP hD
  have hP : va_P D vwCl ([(q12, aI cI 6 (fun _ => 0))] ++ ((XW cI cZ d σ κ) ++ (SW cI cT cU ds σ ι))) H := hP
  have hD : va_D A ([(q12, aI cI 6 (fun _ => 0))] ++ ((XW cI cZ d σ κ) ++ (SW cI cT cU ds σ ι))) := hD
  refine lv_astore (lv' := [(6, .ref (q12)), (5, .int (iI (0))), (4, .int (iI (0))), (3, .int (iI (0))), (2, .int (iI (0))), (0, .ref (ds 0)), (1, .ref (d 0))]) hx hb dX2_isSame_14 hl (by decide) rfl (fun ls hl => ?_)
  refine lv_iconst (v := iI (0)) hx hb dX2_isSame_16 rfl ?_
  refine lv_istore (lv' := [(7, .int (iI (0))), (6, .ref (q12)), (5, .int (iI (0))), (4, .int (iI (0))), (3, .int (iI (0))), (2, .int (iI (0))), (0, .ref (ds 0)), (1, .ref (d 0))]) hx hb dX2_isSame_17 hl (by decide) rfl (fun ls hl => ?_)
  have loop19 : ∀ (n19 : Nat) (r a b : Int) (κx19 : St) (f19 : Int → Int) (cl19 sl19 : Nat), (0 ≤ r) → (r ≤ 5) → (5 - r < (n19 : Int)) → (a = isumI (fun j => bI (¬ σ 4 j = -1)) (r * 8)) → (b = isumI (UP σ) r) → (∀ s9 : Int, 0 ≤ s9 → s9 < 6 → f19 s9 = isumI (fun j => bI (σ 4 j = s9)) (r * 8)) → ((cl19 : Int) ≤ 1 + 57 * r) → ((sl19 : Int) ≤ 6 + 342 * r) → ∀ (H : Heap) (locs : List Loc) (ls : Array Slot), va_P D vwCl ([(q12, aI cI 6 f19)] ++ ((XW cI cZ d σ κx19) ++ (SW cI cT cU ds σ ι))) H → va_D A ([(q12, aI cI 6 f19)] ++ ((XW cI cZ d σ κx19) ++ (SW cI cT cU ds σ ι))) → va_S A s.heap H locs → lv_has ls 13 [(7, .int (iI (r))), (2, .int (iI (a))), (3, .int (iI (b))), (6, .ref (q12)), (5, .int (iI (0))), (4, .int (iI (0))), (0, .ref (ds 0)), (1, .ref (d 0))] → W p l e ({ frames := 7, cells := 326, slots := 1940, locals := 116 } : Room) s m args below meth c H locs cl19 sl19 (MQ below (gQ D (tyA cI cZ cT cU cQ) (fun κ' => (XW cI cZ d σ κ') ++ (SW cI cT cU ds σ (κ' 2))) A (fun _ => some (.int (iI (1)))) (fun κ' => True)) args s 326 1940 A) (F0 m 19 ls []) := by
    intro n19
    induction n19 with
    | zero =>
      intro r a b κx19 f19 cl19 sl19 hlo19 hhi19 hm19
      omega
    | succ n19 ih19 =>
      intro r a b κx19 f19 cl19 sl19 hlo19 hhi19 hm19 ia19 ib19 if19 hcl19 hsl19 H locs ls hP hD hS hl
      refine lv_iload hx hb dX2_isSame_19 (lv_at hl 0 rfl) ?_
      refine lv_iconst (v := iI (5)) hx hb dX2_isSame_21 rfl ?_
      refine gi_icmp_ge (tgt := 335) hx hb dX2_isSame_22 (by decide) ⟨by omega, by omega⟩ ⟨by decide, by decide⟩ (fun c22 => ?_) (fun c22 => ?_)
      · skip
        refine lv_iconst (v := iI (0)) hx hb dX2_isSame_335 rfl ?_
        refine lv_istore (lv' := [(7, .int (iI (0))), (2, .int (iI (a))), (3, .int (iI (b))), (6, .ref (q12)), (5, .int (iI (0))), (4, .int (iI (0))), (0, .ref (ds 0)), (1, .ref (d 0))]) hx hb dX2_isSame_336 hl (by decide) rfl (fun ls hl => ?_)
        have loop338 : ∀ (n338 : Nat) (s0 u h : Int) (κx338 : St) (cl338 sl338 : Nat), (0 ≤ s0) → (s0 ≤ 6) → (6 - s0 < (n338 : Int)) → (u = isumI (σ 2) s0) → (h = isumI (fun j => σ 2 j * σ 0 j) s0) → ((cl338 : Int) ≤ 286 + 5 * s0) → ((sl338 : Int) ≤ 1716 + 28 * s0) → ∀ (H : Heap) (locs : List Loc) (ls : Array Slot), va_P D vwCl ([(q12, aI cI 6 f19)] ++ ((XW cI cZ d σ κx338) ++ (SW cI cT cU ds σ ι))) H → va_D A ([(q12, aI cI 6 f19)] ++ ((XW cI cZ d σ κx338) ++ (SW cI cT cU ds σ ι))) → va_S A s.heap H locs → lv_has ls 13 [(7, .int (iI (s0))), (4, .int (iI (u))), (5, .int (iI (h))), (2, .int (iI (a))), (3, .int (iI (b))), (6, .ref (q12)), (0, .ref (ds 0)), (1, .ref (d 0))] → W p l e ({ frames := 7, cells := 326, slots := 1940, locals := 116 } : Room) s m args below meth c H locs cl338 sl338 (MQ below (gQ D (tyA cI cZ cT cU cQ) (fun κ' => (XW cI cZ d σ κ') ++ (SW cI cT cU ds σ (κ' 2))) A (fun _ => some (.int (iI (1)))) (fun κ' => True)) args s 326 1940 A) (F0 m 338 ls []) := by
          intro n338
          induction n338 with
          | zero =>
            intro s0 u h κx338 cl338 sl338 hlo338 hhi338 hm338
            omega
          | succ n338 ih338 =>
            intro s0 u h κx338 cl338 sl338 hlo338 hhi338 hm338 iu338 iy338 hcl338 hsl338 H locs ls hP hD hS hl
            refine lv_iload hx hb dX2_isSame_338 (lv_at hl 0 rfl) ?_
            refine lv_bipush (v := iI (6)) hx hb dX2_isSame_340 rfl ?_
            refine gi_icmp_ge (tgt := 459) hx hb dX2_isSame_342 (by decide) ⟨by omega, by omega⟩ ⟨by decide, by decide⟩ (fun c342 => ?_) (fun c342 => ?_)
            · skip
              refine lv_bipush (v := iI (8)) hx hb dX2_isSame_459 rfl ?_
              refine va_newa (atype := .int) (ty := .int) (N' := 8) (a0 := (8, .inl (fun j : Nat => iI ((fun _ => 0 : Int → Int) (j : Int))))) hx hb (hts _ (List.mem_of_getElem? (i := 1) rfl)) rfl hK hP hD hS hA (fun _ => rfl) (by decide) rfl (Nat.le_of_ble_eq_true rfl) (by show cl338 + 1 ≤ 326; omega) (by show sl338 + 8 ≤ 1940; omega) dX2_isSame_461 (fun q461 cA H hK hP hD hS => ?_)
              have e9 : cI = cA := g_clsI hK 0 5 rfl rfl
              subst e9
              have hK : va_K D vwCl (tyA cI cZ cT cU cQ) s := hK.sub [0, 1, 2, 3, 4] rfl
              obtain ⟨hP, hD⟩ := g_swap hP hD
              have hP : va_P D vwCl ([(q461, aI cI 8 (fun _ => 0))] ++ ([(q12, aI cI 6 f19)] ++ ((XW cI cZ d σ κx338) ++ (SW cI cT cU ds σ ι)))) H := hP
              have hD : va_D A ([(q461, aI cI 8 (fun _ => 0))] ++ ([(q12, aI cI 6 f19)] ++ ((XW cI cZ d σ κx338) ++ (SW cI cT cU ds σ ι)))) := hD
              show W p l e ({ frames := 7, cells := 326, slots := 1940, locals := 116 } : Room) s m args below meth c H locs (cl338 + 1) (sl338 + 8) (MQ below (gQ D (tyA cI cZ cT cU cQ) (fun κ' => (XW cI cZ d σ κ') ++ (SW cI cT cU ds σ (κ' 2))) A (fun _ => some (.int (iI (1)))) (fun κ' => True)) args s 326 1940 A) (F0 m 463 ls [.ref (q461)])
              refine lv_dup hx hb dX2_isSame_463 rfl ?_
              refine lv_iconst (v := iI (0)) hx hb dX2_isSame_464 rfl ?_
              refine lv_aload_n hx hb dX2_isSame_465 rfl (lv_at hl 6 rfl) ?_
              refine va_get (D := D) (ci := 2) (v := .int (iI (σ 9 0))) (C := RX2) (T := TX2) (N := 8) hx hb hts hinX2 hown hK (g_right (g_right (g_right hP))) 0 rfl rfl 6 (by decide) (hts (.fieldLink RX2 37 "TwinOrchardLaw$Sim" "year" "I") (List.mem_of_getElem? (i := 10) rfl)) (fun _ h9 => h9) rfl dX2_isSame_466 ?_
              refine gi_iast (a := q461) (n := 8) (f := fun _ => 0) hx hb hK hP hD hS 0 0 rfl rfl (by omega) (by omega) (by decide) dX2_isSame_469 (fun H locs hP hD hS => ?_)
              have hP : va_P D vwCl ([(q461, aI cI 8 (fu (fun _ => 0) 0 (σ 9 0)))] ++ ([(q12, aI cI 6 f19)] ++ ((XW cI cZ d σ κx338) ++ (SW cI cT cU ds σ ι)))) H := hP
              have hD : va_D A ([(q461, aI cI 8 (fu (fun _ => 0) 0 (σ 9 0)))] ++ ([(q12, aI cI 6 f19)] ++ ((XW cI cZ d σ κx338) ++ (SW cI cT cU ds σ ι)))) := hD
              refine lv_dup hx hb dX2_isSame_470 rfl ?_
              refine lv_iconst (v := iI (1)) hx hb dX2_isSame_471 rfl ?_
              refine lv_aload_n hx hb dX2_isSame_472 rfl (lv_at hl 6 rfl) ?_
              refine va_get (D := D) (ci := 2) (v := .ref (ds 6)) (C := RX2) (T := TX2) (N := 8) hx hb hts hinX2 hown hK (g_right (g_right (g_right hP))) 0 rfl rfl 5 (by decide) (hts (.fieldLink RX2 27 "TwinOrchardLaw$Sim" "strength" "[I") (List.mem_of_getElem? (i := 11) rfl)) (fun _ h9 => h9) rfl dX2_isSame_473 ?_
              refine lv_iconst (v := iI (0)) hx hb dX2_isSame_476 rfl ?_
              refine gi_iald (a := (ds 6)) (n := 2) (f := σ 8) hx hb hK (g_right (g_right (g_right hP))) 6 0 rfl rfl (by omega) (by omega) (by decide) dX2_isSame_477 ?_
              refine gi_iast (a := q461) (n := 8) (f := fu (fun _ => 0) 0 (σ 9 0)) hx hb hK hP hD hS 0 0 rfl rfl (by omega) (by omega) (by decide) dX2_isSame_478 (fun H locs hP hD hS => ?_)
              have hP : va_P D vwCl ([(q461, aI cI 8 (fu (fu (fun _ => 0) 0 (σ 9 0)) 1 (σ 8 0)))] ++ ([(q12, aI cI 6 f19)] ++ ((XW cI cZ d σ κx338) ++ (SW cI cT cU ds σ ι)))) H := hP
              have hD : va_D A ([(q461, aI cI 8 (fu (fu (fun _ => 0) 0 (σ 9 0)) 1 (σ 8 0)))] ++ ([(q12, aI cI 6 f19)] ++ ((XW cI cZ d σ κx338) ++ (SW cI cT cU ds σ ι)))) := hD
              refine lv_dup hx hb dX2_isSame_479 rfl ?_
              refine lv_iconst (v := iI (2)) hx hb dX2_isSame_480 rfl ?_
              refine lv_aload_n hx hb dX2_isSame_481 rfl (lv_at hl 6 rfl) ?_
              refine va_get (D := D) (ci := 2) (v := .ref (ds 6)) (C := RX2) (T := TX2) (N := 8) hx hb hts hinX2 hown hK (g_right (g_right (g_right hP))) 0 rfl rfl 5 (by decide) (hts (.fieldLink RX2 27 "TwinOrchardLaw$Sim" "strength" "[I") (List.mem_of_getElem? (i := 11) rfl)) (fun _ h9 => h9) rfl dX2_isSame_482 ?_
              refine lv_iconst (v := iI (1)) hx hb dX2_isSame_485 rfl ?_
              refine gi_iald (a := (ds 6)) (n := 2) (f := σ 8) hx hb hK (g_right (g_right (g_right hP))) 6 0 rfl rfl (by omega) (by omega) (by decide) dX2_isSame_486 ?_
              refine gi_iast (a := q461) (n := 8) (f := fu (fu (fun _ => 0) 0 (σ 9 0)) 1 (σ 8 0)) hx hb hK hP hD hS 0 0 rfl rfl (by omega) (by omega) (by decide) dX2_isSame_487 (fun H locs hP hD hS => ?_)
              have hP : va_P D vwCl ([(q461, aI cI 8 (fu (fu (fu (fun _ => 0) 0 (σ 9 0)) 1 (σ 8 0)) 2 (σ 8 1)))] ++ ([(q12, aI cI 6 f19)] ++ ((XW cI cZ d σ κx338) ++ (SW cI cT cU ds σ ι)))) H := hP
              have hD : va_D A ([(q461, aI cI 8 (fu (fu (fu (fun _ => 0) 0 (σ 9 0)) 1 (σ 8 0)) 2 (σ 8 1)))] ++ ([(q12, aI cI 6 f19)] ++ ((XW cI cZ d σ κx338) ++ (SW cI cT cU ds σ ι)))) := hD
              refine lv_dup hx hb dX2_isSame_488 rfl ?_
              refine lv_iconst (v := iI (3)) hx hb dX2_isSame_489 rfl ?_
              refine lv_iload_n hx hb dX2_isSame_490 rfl (lv_at hl 3 rfl) ?_
              refine gi_iast (a := q461) (n := 8) (f := fu (fu (fu (fun _ => 0) 0 (σ 9 0)) 1 (σ 8 0)) 2 (σ 8 1)) hx hb hK hP hD hS 0 0 rfl rfl (by omega) (by omega) (by decide) dX2_isSame_491 (fun H locs hP hD hS => ?_)
              have hP : va_P D vwCl ([(q461, aI cI 8 (fu (fu (fu (fu (fun _ => 0) 0 (σ 9 0)) 1 (σ 8 0)) 2 (σ 8 1)) 3 (a)))] ++ ([(q12, aI cI 6 f19)] ++ ((XW cI cZ d σ κx338) ++ (SW cI cT cU ds σ ι)))) H := hP
              have hD : va_D A ([(q461, aI cI 8 (fu (fu (fu (fu (fun _ => 0) 0 (σ 9 0)) 1 (σ 8 0)) 2 (σ 8 1)) 3 (a)))] ++ ([(q12, aI cI 6 f19)] ++ ((XW cI cZ d σ κx338) ++ (SW cI cT cU ds σ ι)))) := hD
              refine lv_dup hx hb dX2_isSame_492 rfl ?_
              refine lv_iconst (v := iI (4)) hx hb dX2_isSame_493 rfl ?_
              refine lv_aload_n hx hb dX2_isSame_494 rfl (lv_at hl 6 rfl) ?_
              have hp9 : ((SW cI cT cU ds σ ι) ++ ([(q461, aI cI 8 (fu (fu (fu (fu (fun _ => 0) 0 (σ 9 0)) 1 (σ 8 0)) 2 (σ 8 1)) 3 (a)))] ++ ([(q12, aI cI 6 f19)] ++ (XW cI cZ d σ κx338))) : va_W).Perm ([(q461, aI cI 8 (fu (fu (fu (fu (fun _ => 0) 0 (σ 9 0)) 1 (σ 8 0)) 2 (σ 8 1)) 3 (a)))] ++ ([(q12, aI cI 6 f19)] ++ ((XW cI cZ d σ κx338) ++ (SW cI cT cU ds σ ι))) : va_W) := ((List.perm_append_comm_assoc _ _ _)).trans (((List.Perm.append_left _ (List.perm_append_comm_assoc _ _ _))).trans ((List.Perm.append_left _ (List.Perm.append_left _ List.perm_append_comm))))
              have hPc : va_P D vwCl ((SW cI cT cU ds σ ι) ++ ([(q461, aI cI 8 (fu (fu (fu (fu (fun _ => 0) 0 (σ 9 0)) 1 (σ 8 0)) 2 (σ 8 1)) 3 (a)))] ++ ([(q12, aI cI 6 f19)] ++ (XW cI cZ d σ κx338)))) H := va_mem hP (fun q9 hq9 => hp9.mem_iff.mp hq9)
              have hDc : va_D A ((SW cI cT cU ds σ ι) ++ ([(q461, aI cI 8 (fu (fu (fu (fu (fun _ => 0) 0 (σ 9 0)) 1 (σ 8 0)) 2 (σ 8 1)) 3 (a)))] ++ ([(q12, aI cI 6 f19)] ++ (XW cI cZ d σ κx338)))) := va_Dp hD hp9
              refine g_call (va_runV (As := []) (rest := [.int (iI (4)), .ref (q461), .ref (q461)]) S ((kX2_tired l D cI cZ cT cU cQ ds σ ι  (by first | assumption | omega)) H.size) (cwV 0 hts gX2_isSame_X2_tired rfl rfl rfl (by decide +kernel) ⟨Nat.le_of_ble_eq_true rfl, Nat.le_of_ble_eq_true rfl⟩) (g_preV gEx_t hK [0, 1, 2, 3, 4] rfl hPc hDc (fun _ _ _ => trivial) (q0 := 0) (ci := 2) rfl rfl rfl) rfl rfl hl.1 rfl (lv_room (Nat.le_of_ble_eq_true rfl)) dX2_isSame_495 ⟨by show (cl338 + 1) + 0 ≤ 326; omega, by show (sl338 + 8) + 0 ≤ 1940; omega⟩) hPc hDc hS hA (fun κ9 H locs hk hP hD hS => ?_)
              obtain ⟨z1, ezz1⟩ : ∃ z, z = κ9 := ⟨_, rfl⟩
              subst ezz1
              have hP : va_P D vwCl ((SW cI cT cU ds σ (z1 2)) ++ ([(q461, aI cI 8 (fu (fu (fu (fu (fun _ => 0) 0 (σ 9 0)) 1 (σ 8 0)) 2 (σ 8 1)) 3 (a)))] ++ ([(q12, aI cI 6 f19)] ++ (XW cI cZ d σ κx338)))) H := hP
              have hD : va_D A ((SW cI cT cU ds σ (z1 2)) ++ ([(q461, aI cI 8 (fu (fu (fu (fu (fun _ => 0) 0 (σ 9 0)) 1 (σ 8 0)) 2 (σ 8 1)) 3 (a)))] ++ ([(q12, aI cI 6 f19)] ++ (XW cI cZ d σ κx338)))) := hD
              have hp9 : ([(q461, aI cI 8 (fu (fu (fu (fu (fun _ => 0) 0 (σ 9 0)) 1 (σ 8 0)) 2 (σ 8 1)) 3 (a)))] ++ ([(q12, aI cI 6 f19)] ++ ((XW cI cZ d σ κx338) ++ (SW cI cT cU ds σ (z1 2)))) : va_W).Perm ((SW cI cT cU ds σ (z1 2)) ++ ([(q461, aI cI 8 (fu (fu (fu (fu (fun _ => 0) 0 (σ 9 0)) 1 (σ 8 0)) 2 (σ 8 1)) 3 (a)))] ++ ([(q12, aI cI 6 f19)] ++ (XW cI cZ d σ κx338))) : va_W) := ((List.Perm.append_left _ (List.Perm.append_left _ List.perm_append_comm))).trans (((List.Perm.append_left _ (List.perm_append_comm_assoc _ _ _))).trans ((List.perm_append_comm_assoc _ _ _)))
              have hP : va_P D vwCl ([(q461, aI cI 8 (fu (fu (fu (fu (fun _ => 0) 0 (σ 9 0)) 1 (σ 8 0)) 2 (σ 8 1)) 3 (a)))] ++ ([(q12, aI cI 6 f19)] ++ ((XW cI cZ d σ κx338) ++ (SW cI cT cU ds σ (z1 2))))) H := va_mem hP (fun q9 hq9 => hp9.mem_iff.mp hq9)
              have hD : va_D A ([(q461, aI cI 8 (fu (fu (fu (fu (fun _ => 0) 0 (σ 9 0)) 1 (σ 8 0)) 2 (σ 8 1)) 3 (a)))] ++ ([(q12, aI cI 6 f19)] ++ ((XW cI cZ d σ κx338) ++ (SW cI cT cU ds σ (z1 2))))) := va_Dp hD hp9
              show W p l e ({ frames := 7, cells := 326, slots := 1940, locals := 116 } : Room) s m args below meth c H locs (cl338 + 1) (sl338 + 8) (MQ below (gQ D (tyA cI cZ cT cU cQ) (fun κ' => (XW cI cZ d σ κ') ++ (SW cI cT cU ds σ (κ' 2))) A (fun _ => some (.int (iI (1)))) (fun κ' => True)) args s 326 1940 A) (F0 m 498 ls [.int (iI (isumI (sT σ) 40)), .int (iI (4)), .ref (q461), .ref (q461)])
              refine gi_iast (a := q461) (n := 8) (f := fu (fu (fu (fu (fun _ => 0) 0 (σ 9 0)) 1 (σ 8 0)) 2 (σ 8 1)) 3 (a)) hx hb hK hP hD hS 0 0 rfl rfl (by omega) (by omega) (by decide) dX2_isSame_498 (fun H locs hP hD hS => ?_)
              have hP : va_P D vwCl ([(q461, aI cI 8 (fu (fu (fu (fu (fu (fun _ => 0) 0 (σ 9 0)) 1 (σ 8 0)) 2 (σ 8 1)) 3 (a)) 4 (isumI (sT σ) 40)))] ++ ([(q12, aI cI 6 f19)] ++ ((XW cI cZ d σ κx338) ++ (SW cI cT cU ds σ (z1 2))))) H := hP
              have hD : va_D A ([(q461, aI cI 8 (fu (fu (fu (fu (fu (fun _ => 0) 0 (σ 9 0)) 1 (σ 8 0)) 2 (σ 8 1)) 3 (a)) 4 (isumI (sT σ) 40)))] ++ ([(q12, aI cI 6 f19)] ++ ((XW cI cZ d σ κx338) ++ (SW cI cT cU ds σ (z1 2))))) := hD
              refine lv_dup hx hb dX2_isSame_499 rfl ?_
              refine lv_iconst (v := iI (5)) hx hb dX2_isSame_500 rfl ?_
              refine lv_iload hx hb dX2_isSame_501 (lv_at hl 1 rfl) ?_
              refine gi_iast (a := q461) (n := 8) (f := fu (fu (fu (fu (fu (fun _ => 0) 0 (σ 9 0)) 1 (σ 8 0)) 2 (σ 8 1)) 3 (a)) 4 (isumI (sT σ) 40)) hx hb hK hP hD hS 0 0 rfl rfl (by omega) (by omega) (by decide) dX2_isSame_503 (fun H locs hP hD hS => ?_)
              have hP : va_P D vwCl ([(q461, aI cI 8 (fu (fu (fu (fu (fu (fu (fun _ => 0) 0 (σ 9 0)) 1 (σ 8 0)) 2 (σ 8 1)) 3 (a)) 4 (isumI (sT σ) 40)) 5 (u)))] ++ ([(q12, aI cI 6 f19)] ++ ((XW cI cZ d σ κx338) ++ (SW cI cT cU ds σ (z1 2))))) H := hP
              have hD : va_D A ([(q461, aI cI 8 (fu (fu (fu (fu (fu (fu (fun _ => 0) 0 (σ 9 0)) 1 (σ 8 0)) 2 (σ 8 1)) 3 (a)) 4 (isumI (sT σ) 40)) 5 (u)))] ++ ([(q12, aI cI 6 f19)] ++ ((XW cI cZ d σ κx338) ++ (SW cI cT cU ds σ (z1 2))))) := hD
              refine lv_dup hx hb dX2_isSame_504 rfl ?_
              refine lv_bipush (v := iI (6)) hx hb dX2_isSame_505 rfl ?_
              refine lv_iload hx hb dX2_isSame_507 (lv_at hl 2 rfl) ?_
              refine gi_iast (a := q461) (n := 8) (f := fu (fu (fu (fu (fu (fu (fun _ => 0) 0 (σ 9 0)) 1 (σ 8 0)) 2 (σ 8 1)) 3 (a)) 4 (isumI (sT σ) 40)) 5 (u)) hx hb hK hP hD hS 0 0 rfl rfl (by omega) (by omega) (by decide) dX2_isSame_509 (fun H locs hP hD hS => ?_)
              have hP : va_P D vwCl ([(q461, aI cI 8 (fu (fu (fu (fu (fu (fu (fu (fun _ => 0) 0 (σ 9 0)) 1 (σ 8 0)) 2 (σ 8 1)) 3 (a)) 4 (isumI (sT σ) 40)) 5 (u)) 6 (h)))] ++ ([(q12, aI cI 6 f19)] ++ ((XW cI cZ d σ κx338) ++ (SW cI cT cU ds σ (z1 2))))) H := hP
              have hD : va_D A ([(q461, aI cI 8 (fu (fu (fu (fu (fu (fu (fu (fun _ => 0) 0 (σ 9 0)) 1 (σ 8 0)) 2 (σ 8 1)) 3 (a)) 4 (isumI (sT σ) 40)) 5 (u)) 6 (h)))] ++ ([(q12, aI cI 6 f19)] ++ ((XW cI cZ d σ κx338) ++ (SW cI cT cU ds σ (z1 2))))) := hD
              refine lv_dup hx hb dX2_isSame_510 rfl ?_
              refine lv_bipush (v := iI (7)) hx hb dX2_isSame_511 rfl ?_
              refine lv_iload_n hx hb dX2_isSame_513 rfl (lv_at hl 4 rfl) ?_
              refine gi_iast (a := q461) (n := 8) (f := fu (fu (fu (fu (fu (fu (fu (fun _ => 0) 0 (σ 9 0)) 1 (σ 8 0)) 2 (σ 8 1)) 3 (a)) 4 (isumI (sT σ) 40)) 5 (u)) 6 (h)) hx hb hK hP hD hS 0 0 rfl rfl (by omega) (by omega) (by decide) dX2_isSame_514 (fun H locs hP hD hS => ?_)
              have hP : va_P D vwCl ([(q461, aI cI 8 (fu (fu (fu (fu (fu (fu (fu (fu (fun _ => 0) 0 (σ 9 0)) 1 (σ 8 0)) 2 (σ 8 1)) 3 (a)) 4 (isumI (sT σ) 40)) 5 (u)) 6 (h)) 7 (b)))] ++ ([(q12, aI cI 6 f19)] ++ ((XW cI cZ d σ κx338) ++ (SW cI cT cU ds σ (z1 2))))) H := hP
              have hD : va_D A ([(q461, aI cI 8 (fu (fu (fu (fu (fu (fu (fu (fu (fun _ => 0) 0 (σ 9 0)) 1 (σ 8 0)) 2 (σ 8 1)) 3 (a)) 4 (isumI (sT σ) 40)) 5 (u)) 6 (h)) 7 (b)))] ++ ([(q12, aI cI 6 f19)] ++ ((XW cI cZ d σ κx338) ++ (SW cI cT cU ds σ (z1 2))))) := hD
              refine lv_astore (lv' := [(7, .ref (q461)), (4, .int (iI (u))), (5, .int (iI (h))), (2, .int (iI (a))), (3, .int (iI (b))), (6, .ref (q12)), (0, .ref (ds 0)), (1, .ref (d 0))]) hx hb dX2_isSame_515 hl (by decide) rfl (fun ls hl => ?_)
              have e40 : r * 8 = 40 := by omega
              have hf7 : ∀ w9 : Int, 0 ≤ w9 → w9 < 8 → (fu (fu (fu (fu (fu (fu (fu (fu (fun _ => 0) 0 (σ 9 0)) 1 (σ 8 0)) 2 (σ 8 1)) 3 (a)) 4 (isumI (sT σ) 40)) 5 (u)) 6 (h)) 7 (b)) w9 = xCount σ w9 := by intro w9 h0 h1; rcases (show w9 = 0 ∨ w9 = 1 ∨ w9 = 2 ∨ w9 = 3 ∨ w9 = 4 ∨ w9 = 5 ∨ w9 = 6 ∨ w9 = 7 by omega) with rfl | rfl | rfl | rfl | rfl | rfl | rfl | rfl; rfl; rfl; rfl; exact ia19.trans (by rw [e40]; rfl); exact sT_e hz; exact iu338.trans (by rw [show s0 = 6 by omega]; rfl); exact iy338.trans (by rw [show s0 = 6 by omega]; rfl); exact ib19.trans (by rw [show r = 5 by omega]; rfl)
              refine lv_iconst (v := iI (0)) hx hb dX2_isSame_517 rfl ?_
              refine lv_istore (lv' := [(8, .int (iI (0))), (7, .ref (q461)), (4, .int (iI (u))), (5, .int (iI (h))), (2, .int (iI (a))), (3, .int (iI (b))), (6, .ref (q12)), (0, .ref (ds 0)), (1, .ref (d 0))]) hx hb dX2_isSame_518 hl (by decide) rfl (fun ls hl => ?_)
              have loop520 : ∀ (n520 : Nat) (w3 : Int) (κx520 : St) (cl520 sl520 : Nat), (0 ≤ w3) → (w3 ≤ 8) → (8 - w3 < (n520 : Int)) → ((cl520 : Int) ≤ 317 + w3) → ((sl520 : Int) ≤ 1892 + 6 * w3) → ∀ (H : Heap) (locs : List Loc) (ls : Array Slot), va_P D vwCl ([(q461, aI cI 8 (fu (fu (fu (fu (fu (fu (fu (fu (fun _ => 0) 0 (σ 9 0)) 1 (σ 8 0)) 2 (σ 8 1)) 3 (a)) 4 (isumI (sT σ) 40)) 5 (u)) 6 (h)) 7 (b)))] ++ ([(q12, aI cI 6 f19)] ++ ((XW cI cZ d σ κx520) ++ (SW cI cT cU ds σ (z1 2))))) H → va_D A ([(q461, aI cI 8 (fu (fu (fu (fu (fu (fu (fu (fu (fun _ => 0) 0 (σ 9 0)) 1 (σ 8 0)) 2 (σ 8 1)) 3 (a)) 4 (isumI (sT σ) 40)) 5 (u)) 6 (h)) 7 (b)))] ++ ([(q12, aI cI 6 f19)] ++ ((XW cI cZ d σ κx520) ++ (SW cI cT cU ds σ (z1 2))))) → va_S A s.heap H locs → lv_has ls 13 [(8, .int (iI (w3))), (7, .ref (q461)), (4, .int (iI (u))), (5, .int (iI (h))), (2, .int (iI (a))), (3, .int (iI (b))), (6, .ref (q12)), (0, .ref (ds 0)), (1, .ref (d 0))] → W p l e ({ frames := 7, cells := 326, slots := 1940, locals := 116 } : Room) s m args below meth c H locs cl520 sl520 (MQ below (gQ D (tyA cI cZ cT cU cQ) (fun κ' => (XW cI cZ d σ κ') ++ (SW cI cT cU ds σ (κ' 2))) A (fun _ => some (.int (iI (1)))) (fun κ' => True)) args s 326 1940 A) (F0 m 520 ls []) := by
                intro n520
                induction n520 with
                | zero =>
                  intro w3 κx520 cl520 sl520 hlo520 hhi520 hm520
                  omega
                | succ n520 ih520 =>
                  intro w3 κx520 cl520 sl520 hlo520 hhi520 hm520 hcl520 hsl520 H locs ls hP hD hS hl
                  refine lv_iload hx hb dX2_isSame_520 (lv_at hl 0 rfl) ?_
                  refine lv_bipush (v := iI (8)) hx hb dX2_isSame_522 rfl ?_
                  refine gi_icmp_ge (tgt := 549) hx hb dX2_isSame_524 (by decide) ⟨by omega, by omega⟩ ⟨by decide, by decide⟩ (fun c524 => ?_) (fun c524 => ?_)
                  · skip
                    have ia40 : a = xTrees σ := ia19.trans (by rw [e40]; rfl)
                    have kT := xTrees_in σ
                    refine lv_aload_n hx hb dX2_isSame_549 rfl (lv_at hl 8 rfl) ?_
                    have hp9 : ((XW cI cZ d σ κx520) ++ ([(q461, aI cI 8 (fu (fu (fu (fu (fu (fu (fu (fu (fun _ => 0) 0 (σ 9 0)) 1 (σ 8 0)) 2 (σ 8 1)) 3 (a)) 4 (isumI (sT σ) 40)) 5 (u)) 6 (h)) 7 (b)))] ++ ([(q12, aI cI 6 f19)] ++ (SW cI cT cU ds σ (z1 2)))) : va_W).Perm ([(q461, aI cI 8 (fu (fu (fu (fu (fu (fu (fu (fu (fun _ => 0) 0 (σ 9 0)) 1 (σ 8 0)) 2 (σ 8 1)) 3 (a)) 4 (isumI (sT σ) 40)) 5 (u)) 6 (h)) 7 (b)))] ++ ([(q12, aI cI 6 f19)] ++ ((XW cI cZ d σ κx520) ++ (SW cI cT cU ds σ (z1 2)))) : va_W) := ((List.perm_append_comm_assoc _ _ _)).trans ((List.Perm.append_left _ (List.perm_append_comm_assoc _ _ _)))
                    have hPc : va_P D vwCl ((XW cI cZ d σ κx520) ++ ([(q461, aI cI 8 (fu (fu (fu (fu (fu (fu (fu (fu (fun _ => 0) 0 (σ 9 0)) 1 (σ 8 0)) 2 (σ 8 1)) 3 (a)) 4 (isumI (sT σ) 40)) 5 (u)) 6 (h)) 7 (b)))] ++ ([(q12, aI cI 6 f19)] ++ (SW cI cT cU ds σ (z1 2))))) H := va_mem hP (fun q9 hq9 => hp9.mem_iff.mp hq9)
                    have hDc : va_D A ((XW cI cZ d σ κx520) ++ ([(q461, aI cI 8 (fu (fu (fu (fu (fu (fu (fu (fu (fun _ => 0) 0 (σ 9 0)) 1 (σ 8 0)) 2 (σ 8 1)) 3 (a)) 4 (isumI (sT σ) 40)) 5 (u)) 6 (h)) 7 (b)))] ++ ([(q12, aI cI 6 f19)] ++ (SW cI cT cU ds σ (z1 2))))) := va_Dp hD hp9
                    refine g_call (va_runV (As := []) (rest := []) S ((kX1_tilt l D cI cZ d σ κx520  ) H.size) (cwV 0 hts gX2_isSame_X1_tilt rfl rfl rfl (by decide +kernel) ⟨Nat.le_of_ble_eq_true rfl, Nat.le_of_ble_eq_true rfl⟩) (g_preV xEx_g hK [0, 1] rfl hPc hDc (fun U _ hW => xEx_w hW hE) (q0 := 0) (ci := 1) rfl rfl rfl) rfl rfl hl.1 rfl (lv_room (Nat.le_of_ble_eq_true rfl)) dX2_isSame_550 ⟨by show cl520 + 0 ≤ 326; omega, by show sl520 + 0 ≤ 1940; omega⟩) hPc hDc hS hA (fun κ9 H locs hk hP hD hS => ?_)
                    obtain ⟨z2, ezz2⟩ : ∃ z, z = κ9 := ⟨_, rfl⟩
                    subst ezz2
                    have hP : va_P D vwCl ((XW cI cZ d σ z2) ++ ([(q461, aI cI 8 (fu (fu (fu (fu (fu (fu (fu (fu (fun _ => 0) 0 (σ 9 0)) 1 (σ 8 0)) 2 (σ 8 1)) 3 (a)) 4 (isumI (sT σ) 40)) 5 (u)) 6 (h)) 7 (b)))] ++ ([(q12, aI cI 6 f19)] ++ (SW cI cT cU ds σ (z1 2))))) H := hP
                    have hD : va_D A ((XW cI cZ d σ z2) ++ ([(q461, aI cI 8 (fu (fu (fu (fu (fu (fu (fu (fu (fun _ => 0) 0 (σ 9 0)) 1 (σ 8 0)) 2 (σ 8 1)) 3 (a)) 4 (isumI (sT σ) 40)) 5 (u)) 6 (h)) 7 (b)))] ++ ([(q12, aI cI 6 f19)] ++ (SW cI cT cU ds σ (z1 2))))) := hD
                    have hp9 : ([(q461, aI cI 8 (fu (fu (fu (fu (fu (fu (fu (fu (fun _ => 0) 0 (σ 9 0)) 1 (σ 8 0)) 2 (σ 8 1)) 3 (a)) 4 (isumI (sT σ) 40)) 5 (u)) 6 (h)) 7 (b)))] ++ ([(q12, aI cI 6 f19)] ++ ((XW cI cZ d σ z2) ++ (SW cI cT cU ds σ (z1 2)))) : va_W).Perm ((XW cI cZ d σ z2) ++ ([(q461, aI cI 8 (fu (fu (fu (fu (fu (fu (fu (fu (fun _ => 0) 0 (σ 9 0)) 1 (σ 8 0)) 2 (σ 8 1)) 3 (a)) 4 (isumI (sT σ) 40)) 5 (u)) 6 (h)) 7 (b)))] ++ ([(q12, aI cI 6 f19)] ++ (SW cI cT cU ds σ (z1 2)))) : va_W) := ((List.Perm.append_left _ (List.perm_append_comm_assoc _ _ _))).trans ((List.perm_append_comm_assoc _ _ _))
                    have hP : va_P D vwCl ([(q461, aI cI 8 (fu (fu (fu (fu (fu (fu (fu (fu (fun _ => 0) 0 (σ 9 0)) 1 (σ 8 0)) 2 (σ 8 1)) 3 (a)) 4 (isumI (sT σ) 40)) 5 (u)) 6 (h)) 7 (b)))] ++ ([(q12, aI cI 6 f19)] ++ ((XW cI cZ d σ z2) ++ (SW cI cT cU ds σ (z1 2))))) H := va_mem hP (fun q9 hq9 => hp9.mem_iff.mp hq9)
                    have hD : va_D A ([(q461, aI cI 8 (fu (fu (fu (fu (fu (fu (fu (fu (fun _ => 0) 0 (σ 9 0)) 1 (σ 8 0)) 2 (σ 8 1)) 3 (a)) 4 (isumI (sT σ) 40)) 5 (u)) 6 (h)) 7 (b)))] ++ ([(q12, aI cI 6 f19)] ++ ((XW cI cZ d σ z2) ++ (SW cI cT cU ds σ (z1 2))))) := va_Dp hD hp9
                    show W p l e ({ frames := 7, cells := 326, slots := 1940, locals := 116 } : Room) s m args below meth c H locs cl520 sl520 (MQ below (gQ D (tyA cI cZ cT cU cQ) (fun κ' => (XW cI cZ d σ κ') ++ (SW cI cT cU ds σ (κ' 2))) A (fun _ => some (.int (iI (1)))) (fun κ' => True)) args s 326 1940 A) (F0 m 553 ls [.int (iI (σ 9 1))])
                    refine lv_aload_n hx hb dX2_isSame_553 rfl (lv_at hl 7 rfl) ?_
                    refine va_get (D := D) (ci := 2) (v := .int (iI (σ 9 1))) (C := RX2) (T := TX2) (N := 8) hx hb hts hinX2 hown hK (g_right (g_right (g_right hP))) 0 rfl rfl 7 (by decide) (hts (.fieldLink RX2 83 "TwinOrchardLaw$Sim" "tilt" "I") (List.mem_of_getElem? (i := 12) rfl)) (fun _ h9 => h9) rfl dX2_isSame_554 ?_
                    refine lv_icmp_ne (tgt := 588) hx hb dX2_isSame_557 (by decide) (fun h9 => absurd rfl h9) (fun _ => ?_)
                    refine lv_aload_n hx hb dX2_isSame_560 rfl (lv_at hl 8 rfl) ?_
                    have hp9 : ((XW cI cZ d σ z2) ++ ([(q461, aI cI 8 (fu (fu (fu (fu (fu (fu (fu (fu (fun _ => 0) 0 (σ 9 0)) 1 (σ 8 0)) 2 (σ 8 1)) 3 (a)) 4 (isumI (sT σ) 40)) 5 (u)) 6 (h)) 7 (b)))] ++ ([(q12, aI cI 6 f19)] ++ (SW cI cT cU ds σ (z1 2)))) : va_W).Perm ([(q461, aI cI 8 (fu (fu (fu (fu (fu (fu (fu (fu (fun _ => 0) 0 (σ 9 0)) 1 (σ 8 0)) 2 (σ 8 1)) 3 (a)) 4 (isumI (sT σ) 40)) 5 (u)) 6 (h)) 7 (b)))] ++ ([(q12, aI cI 6 f19)] ++ ((XW cI cZ d σ z2) ++ (SW cI cT cU ds σ (z1 2)))) : va_W) := ((List.perm_append_comm_assoc _ _ _)).trans ((List.Perm.append_left _ (List.perm_append_comm_assoc _ _ _)))
                    have hPc : va_P D vwCl ((XW cI cZ d σ z2) ++ ([(q461, aI cI 8 (fu (fu (fu (fu (fu (fu (fu (fu (fun _ => 0) 0 (σ 9 0)) 1 (σ 8 0)) 2 (σ 8 1)) 3 (a)) 4 (isumI (sT σ) 40)) 5 (u)) 6 (h)) 7 (b)))] ++ ([(q12, aI cI 6 f19)] ++ (SW cI cT cU ds σ (z1 2))))) H := va_mem hP (fun q9 hq9 => hp9.mem_iff.mp hq9)
                    have hDc : va_D A ((XW cI cZ d σ z2) ++ ([(q461, aI cI 8 (fu (fu (fu (fu (fu (fu (fu (fu (fun _ => 0) 0 (σ 9 0)) 1 (σ 8 0)) 2 (σ 8 1)) 3 (a)) 4 (isumI (sT σ) 40)) 5 (u)) 6 (h)) 7 (b)))] ++ ([(q12, aI cI 6 f19)] ++ (SW cI cT cU ds σ (z1 2))))) := va_Dp hD hp9
                    refine g_call (va_runV (As := []) (rest := []) S ((kX1_mean l D cI cZ d σ z2  (by first | assumption | omega)) H.size) (cwV 0 hts gX2_isSame_X1_mean rfl rfl rfl (by decide +kernel) ⟨Nat.le_of_ble_eq_true rfl, Nat.le_of_ble_eq_true rfl⟩) (g_preV xEx_g hK [0, 1] rfl hPc hDc (fun U _ hW => xEx_w hW hE) (q0 := 0) (ci := 1) rfl rfl rfl) rfl rfl hl.1 rfl (lv_room (Nat.le_of_ble_eq_true rfl)) dX2_isSame_561 ⟨by show cl520 + 0 ≤ 326; omega, by show sl520 + 0 ≤ 1940; omega⟩) hPc hDc hS hA (fun κ9 H locs hk hP hD hS => ?_)
                    obtain ⟨z3, ezz3⟩ : ∃ z, z = κ9 := ⟨_, rfl⟩
                    subst ezz3
                    have hP : va_P D vwCl ((XW cI cZ d σ z3) ++ ([(q461, aI cI 8 (fu (fu (fu (fu (fu (fu (fu (fu (fun _ => 0) 0 (σ 9 0)) 1 (σ 8 0)) 2 (σ 8 1)) 3 (a)) 4 (isumI (sT σ) 40)) 5 (u)) 6 (h)) 7 (b)))] ++ ([(q12, aI cI 6 f19)] ++ (SW cI cT cU ds σ (z1 2))))) H := hP
                    have hD : va_D A ((XW cI cZ d σ z3) ++ ([(q461, aI cI 8 (fu (fu (fu (fu (fu (fu (fu (fu (fun _ => 0) 0 (σ 9 0)) 1 (σ 8 0)) 2 (σ 8 1)) 3 (a)) 4 (isumI (sT σ) 40)) 5 (u)) 6 (h)) 7 (b)))] ++ ([(q12, aI cI 6 f19)] ++ (SW cI cT cU ds σ (z1 2))))) := hD
                    have hp9 : ([(q461, aI cI 8 (fu (fu (fu (fu (fu (fu (fu (fu (fun _ => 0) 0 (σ 9 0)) 1 (σ 8 0)) 2 (σ 8 1)) 3 (a)) 4 (isumI (sT σ) 40)) 5 (u)) 6 (h)) 7 (b)))] ++ ([(q12, aI cI 6 f19)] ++ ((XW cI cZ d σ z3) ++ (SW cI cT cU ds σ (z1 2)))) : va_W).Perm ((XW cI cZ d σ z3) ++ ([(q461, aI cI 8 (fu (fu (fu (fu (fu (fu (fu (fu (fun _ => 0) 0 (σ 9 0)) 1 (σ 8 0)) 2 (σ 8 1)) 3 (a)) 4 (isumI (sT σ) 40)) 5 (u)) 6 (h)) 7 (b)))] ++ ([(q12, aI cI 6 f19)] ++ (SW cI cT cU ds σ (z1 2)))) : va_W) := ((List.Perm.append_left _ (List.perm_append_comm_assoc _ _ _))).trans ((List.perm_append_comm_assoc _ _ _))
                    have hP : va_P D vwCl ([(q461, aI cI 8 (fu (fu (fu (fu (fu (fu (fu (fu (fun _ => 0) 0 (σ 9 0)) 1 (σ 8 0)) 2 (σ 8 1)) 3 (a)) 4 (isumI (sT σ) 40)) 5 (u)) 6 (h)) 7 (b)))] ++ ([(q12, aI cI 6 f19)] ++ ((XW cI cZ d σ z3) ++ (SW cI cT cU ds σ (z1 2))))) H := va_mem hP (fun q9 hq9 => hp9.mem_iff.mp hq9)
                    have hD : va_D A ([(q461, aI cI 8 (fu (fu (fu (fu (fu (fu (fu (fu (fun _ => 0) 0 (σ 9 0)) 1 (σ 8 0)) 2 (σ 8 1)) 3 (a)) 4 (isumI (sT σ) 40)) 5 (u)) 6 (h)) 7 (b)))] ++ ([(q12, aI cI 6 f19)] ++ ((XW cI cZ d σ z3) ++ (SW cI cT cU ds σ (z1 2))))) := va_Dp hD hp9
                    show W p l e ({ frames := 7, cells := 326, slots := 1940, locals := 116 } : Room) s m args below meth c H locs cl520 sl520 (MQ below (gQ D (tyA cI cZ cT cU cQ) (fun κ' => (XW cI cZ d σ κ') ++ (SW cI cT cU ds σ (κ' 2))) A (fun _ => some (.int (iI (1)))) (fun κ' => True)) args s 326 1940 A) (F0 m 564 ls [.double (xMean σ)])
                    refine lv_iload_n hx hb dX2_isSame_564 rfl (lv_at hl 4 rfl) ?_
                    refine gi_if_ne (tgt := 572) hx hb dX2_isSame_565 (by decide) ⟨by omega, by omega⟩ (fun c565 => ?_) (fun c565 => ?_)
                    · skip
                      refine lv_aload_n hx hb dX2_isSame_572 rfl (lv_at hl 7 rfl) ?_
                      have hp9 : ((SW cI cT cU ds σ (z1 2)) ++ ([(q461, aI cI 8 (fu (fu (fu (fu (fu (fu (fu (fu (fun _ => 0) 0 (σ 9 0)) 1 (σ 8 0)) 2 (σ 8 1)) 3 (a)) 4 (isumI (sT σ) 40)) 5 (u)) 6 (h)) 7 (b)))] ++ ([(q12, aI cI 6 f19)] ++ (XW cI cZ d σ z3))) : va_W).Perm ([(q461, aI cI 8 (fu (fu (fu (fu (fu (fu (fu (fu (fun _ => 0) 0 (σ 9 0)) 1 (σ 8 0)) 2 (σ 8 1)) 3 (a)) 4 (isumI (sT σ) 40)) 5 (u)) 6 (h)) 7 (b)))] ++ ([(q12, aI cI 6 f19)] ++ ((XW cI cZ d σ z3) ++ (SW cI cT cU ds σ (z1 2)))) : va_W) := ((List.perm_append_comm_assoc _ _ _)).trans (((List.Perm.append_left _ (List.perm_append_comm_assoc _ _ _))).trans ((List.Perm.append_left _ (List.Perm.append_left _ List.perm_append_comm))))
                      have hPc : va_P D vwCl ((SW cI cT cU ds σ (z1 2)) ++ ([(q461, aI cI 8 (fu (fu (fu (fu (fu (fu (fu (fu (fun _ => 0) 0 (σ 9 0)) 1 (σ 8 0)) 2 (σ 8 1)) 3 (a)) 4 (isumI (sT σ) 40)) 5 (u)) 6 (h)) 7 (b)))] ++ ([(q12, aI cI 6 f19)] ++ (XW cI cZ d σ z3)))) H := va_mem hP (fun q9 hq9 => hp9.mem_iff.mp hq9)
                      have hDc : va_D A ((SW cI cT cU ds σ (z1 2)) ++ ([(q461, aI cI 8 (fu (fu (fu (fu (fu (fu (fu (fu (fun _ => 0) 0 (σ 9 0)) 1 (σ 8 0)) 2 (σ 8 1)) 3 (a)) 4 (isumI (sT σ) 40)) 5 (u)) 6 (h)) 7 (b)))] ++ ([(q12, aI cI 6 f19)] ++ (XW cI cZ d σ z3)))) := va_Dp hD hp9
                      refine g_call (va_runV (As := []) (rest := [.double (xMean σ)]) S ((kX2_branches l D cI cZ cT cU cQ ds σ (z1 2)  (by first | assumption | omega)) H.size) (cwV 0 hts gX2_isSame_X2_branches rfl rfl rfl (by decide +kernel) ⟨Nat.le_of_ble_eq_true rfl, Nat.le_of_ble_eq_true rfl⟩) (g_preV gEx_t hK [0, 1, 2, 3, 4] rfl hPc hDc (fun _ _ _ => trivial) (q0 := 0) (ci := 2) rfl rfl rfl) rfl rfl hl.1 rfl (lv_room (Nat.le_of_ble_eq_true rfl)) dX2_isSame_573 ⟨by show cl520 + 0 ≤ 326; omega, by show sl520 + 0 ≤ 1940; omega⟩) hPc hDc hS hA (fun κ9 H locs hk hP hD hS => ?_)
                      obtain ⟨z4, ezz4⟩ : ∃ z, z = κ9 := ⟨_, rfl⟩
                      subst ezz4
                      have hP : va_P D vwCl ((SW cI cT cU ds σ (z4 2)) ++ ([(q461, aI cI 8 (fu (fu (fu (fu (fu (fu (fu (fu (fun _ => 0) 0 (σ 9 0)) 1 (σ 8 0)) 2 (σ 8 1)) 3 (a)) 4 (isumI (sT σ) 40)) 5 (u)) 6 (h)) 7 (b)))] ++ ([(q12, aI cI 6 f19)] ++ (XW cI cZ d σ z3)))) H := hP
                      have hD : va_D A ((SW cI cT cU ds σ (z4 2)) ++ ([(q461, aI cI 8 (fu (fu (fu (fu (fu (fu (fu (fu (fun _ => 0) 0 (σ 9 0)) 1 (σ 8 0)) 2 (σ 8 1)) 3 (a)) 4 (isumI (sT σ) 40)) 5 (u)) 6 (h)) 7 (b)))] ++ ([(q12, aI cI 6 f19)] ++ (XW cI cZ d σ z3)))) := hD
                      have hp9 : ([(q461, aI cI 8 (fu (fu (fu (fu (fu (fu (fu (fu (fun _ => 0) 0 (σ 9 0)) 1 (σ 8 0)) 2 (σ 8 1)) 3 (a)) 4 (isumI (sT σ) 40)) 5 (u)) 6 (h)) 7 (b)))] ++ ([(q12, aI cI 6 f19)] ++ ((XW cI cZ d σ z3) ++ (SW cI cT cU ds σ (z4 2)))) : va_W).Perm ((SW cI cT cU ds σ (z4 2)) ++ ([(q461, aI cI 8 (fu (fu (fu (fu (fu (fu (fu (fu (fun _ => 0) 0 (σ 9 0)) 1 (σ 8 0)) 2 (σ 8 1)) 3 (a)) 4 (isumI (sT σ) 40)) 5 (u)) 6 (h)) 7 (b)))] ++ ([(q12, aI cI 6 f19)] ++ (XW cI cZ d σ z3))) : va_W) := ((List.Perm.append_left _ (List.Perm.append_left _ List.perm_append_comm))).trans (((List.Perm.append_left _ (List.perm_append_comm_assoc _ _ _))).trans ((List.perm_append_comm_assoc _ _ _)))
                      have hP : va_P D vwCl ([(q461, aI cI 8 (fu (fu (fu (fu (fu (fu (fu (fu (fun _ => 0) 0 (σ 9 0)) 1 (σ 8 0)) 2 (σ 8 1)) 3 (a)) 4 (isumI (sT σ) 40)) 5 (u)) 6 (h)) 7 (b)))] ++ ([(q12, aI cI 6 f19)] ++ ((XW cI cZ d σ z3) ++ (SW cI cT cU ds σ (z4 2))))) H := va_mem hP (fun q9 hq9 => hp9.mem_iff.mp hq9)
                      have hD : va_D A ([(q461, aI cI 8 (fu (fu (fu (fu (fu (fu (fu (fu (fun _ => 0) 0 (σ 9 0)) 1 (σ 8 0)) 2 (σ 8 1)) 3 (a)) 4 (isumI (sT σ) 40)) 5 (u)) 6 (h)) 7 (b)))] ++ ([(q12, aI cI 6 f19)] ++ ((XW cI cZ d σ z3) ++ (SW cI cT cU ds σ (z4 2))))) := va_Dp hD hp9
                      show W p l e ({ frames := 7, cells := 326, slots := 1940, locals := 116 } : Room) s m args below meth c H locs cl520 sl520 (MQ below (gQ D (tyA cI cZ cT cU cQ) (fun κ' => (XW cI cZ d σ κ') ++ (SW cI cT cU ds σ (κ' 2))) A (fun _ => some (.int (iI (1)))) (fun κ' => True)) args s 326 1940 A) (F0 m 576 ls [.int (iI (isumI (sB σ) 40)), .double (xMean σ)])
                      refine lv_i2d hx hb dX2_isSame_576 ?_
                      refine lv_iload_n hx hb dX2_isSame_577 rfl (lv_at hl 4 rfl) ?_
                      refine lv_i2d hx hb dX2_isSame_578 ?_
                      refine lv_ddiv hx hb dX2_isSame_579 (by rw [sB_e hz, ia19, show r * 8 = 40 by omega]; exact mn_ok (xBran_in hwf) (by have h9 := xTrees_in σ; have h8 : a = xTrees σ := ia19.trans (by rw [show r * 8 = 40 by omega]; rfl); show 1 ≤ xTrees σ ∧ xTrees σ ≤ 40; omega)) ?_
                      refine lv_dcmp hx hb dX2_isSame_580 ?_
                      have em9 : xMean σ = FP.ddiv (FP.i2d (iI (isumI (sB σ) 40))) (FP.i2d (iI (a))) := by unfold xMean; rw [if_neg (by omega), sB_e hz, ia40]
                      rw [show FP.dcmp (xMean σ) (FP.ddiv (FP.i2d (iI (isumI (sB σ) 40))) (FP.i2d (iI (a)))) = some .eq from by rw [em9, sB_e hz, ia40]; exact md_ok (xBran_in hwf) (by omega)]
                      show W p l e ({ frames := 7, cells := 326, slots := 1940, locals := 116 } : Room) s m args below meth c H locs cl520 sl520 (MQ below (gQ D (tyA cI cZ cT cU cQ) (fun κ' => (XW cI cZ d σ κ') ++ (SW cI cT cU ds σ (κ' 2))) A (fun _ => some (.int (iI (1)))) (fun κ' => True)) args s 326 1940 A) (F0 m 581 ls [.int (iI (0))])
                      refine gi_if_ne (tgt := 588) hx hb dX2_isSame_581 (by decide) ⟨by decide, by decide⟩ (fun c581 => ?_) (fun c581 => ?_)
                      · skip
                        exact absurd rfl c581
                      · skip
                        refine lv_iconst (v := iI (1)) hx hb dX2_isSame_584 rfl ?_
                        refine lv_goto (tgt := 589) hx hb dX2_isSame_585 (by decide) ?_
                        have hP := g_right hP
                        have hD := g_Dright hD
                        have hP : va_P D vwCl ([(q12, aI cI 6 f19)] ++ ((XW cI cZ d σ z3) ++ (SW cI cT cU ds σ (z4 2)))) H := hP
                        have hD : va_D A ([(q12, aI cI 6 f19)] ++ ((XW cI cZ d σ z3) ++ (SW cI cT cU ds σ (z4 2)))) := hD
                        have hP := g_right hP
                        have hD := g_Dright hD
                        have hP : va_P D vwCl ((XW cI cZ d σ z3) ++ (SW cI cT cU ds σ (z4 2))) H := hP
                        have hD : va_D A ((XW cI cZ d σ z3) ++ (SW cI cT cU ds σ (z4 2))) := hD
                        exact g_iret (wo := (fun κ' => (XW cI cZ d σ κ') ++ (SW cI cT cU ds σ (κ' 2)))) (kr := (fun κ' => True)) (rv := (fun _ => some (.int (iI (1))))) hx hb hr hlocks (fun a => if a = 2 then z4 2 else z3 a) (nar_z (Or.inr rfl)) hP hK hD hS trivial rfl (by show cl520 ≤ 326; omega) (by show sl520 ≤ 1940; omega) dX2_isSame_589
                    · skip
                      refine lv_dconst0 hx hb dX2_isSame_568 ?_
                      refine lv_goto (tgt := 580) hx hb dX2_isSame_569 (by decide) ?_
                      refine lv_dcmp hx hb dX2_isSame_580 ?_
                      have em9 : xMean σ = FP.dconst0 := by unfold xMean; rw [if_pos (by omega)]
                      rw [show FP.dcmp (xMean σ) (FP.dconst0) = some .eq from by rw [em9]; exact md_0]
                      show W p l e ({ frames := 7, cells := 326, slots := 1940, locals := 116 } : Room) s m args below meth c H locs cl520 sl520 (MQ below (gQ D (tyA cI cZ cT cU cQ) (fun κ' => (XW cI cZ d σ κ') ++ (SW cI cT cU ds σ (κ' 2))) A (fun _ => some (.int (iI (1)))) (fun κ' => True)) args s 326 1940 A) (F0 m 581 ls [.int (iI (0))])
                      refine gi_if_ne (tgt := 588) hx hb dX2_isSame_581 (by decide) ⟨by decide, by decide⟩ (fun c581 => ?_) (fun c581 => ?_)
                      · skip
                        exact absurd rfl c581
                      · skip
                        refine lv_iconst (v := iI (1)) hx hb dX2_isSame_584 rfl ?_
                        refine lv_goto (tgt := 589) hx hb dX2_isSame_585 (by decide) ?_
                        have hP := g_right hP
                        have hD := g_Dright hD
                        have hP : va_P D vwCl ([(q12, aI cI 6 f19)] ++ ((XW cI cZ d σ z3) ++ (SW cI cT cU ds σ (z1 2)))) H := hP
                        have hD : va_D A ([(q12, aI cI 6 f19)] ++ ((XW cI cZ d σ z3) ++ (SW cI cT cU ds σ (z1 2)))) := hD
                        have hP := g_right hP
                        have hD := g_Dright hD
                        have hP : va_P D vwCl ((XW cI cZ d σ z3) ++ (SW cI cT cU ds σ (z1 2))) H := hP
                        have hD : va_D A ((XW cI cZ d σ z3) ++ (SW cI cT cU ds σ (z1 2))) := hD
                        exact g_iret (wo := (fun κ' => (XW cI cZ d σ κ') ++ (SW cI cT cU ds σ (κ' 2)))) (kr := (fun κ' => True)) (rv := (fun _ => some (.int (iI (1))))) hx hb hr hlocks (fun a => if a = 2 then z1 2 else z3 a) (nar_z (Or.inr rfl)) hP hK hD hS trivial rfl (by show cl520 ≤ 326; omega) (by show sl520 ≤ 1940; omega) dX2_isSame_589
                  · skip
                    refine lv_aload_n hx hb dX2_isSame_527 rfl (lv_at hl 8 rfl) ?_
                    refine lv_iload hx hb dX2_isSame_528 (lv_at hl 0 rfl) ?_
                    have hp9 : ((XW cI cZ d σ κx520) ++ ([(q461, aI cI 8 (fu (fu (fu (fu (fu (fu (fu (fu (fun _ => 0) 0 (σ 9 0)) 1 (σ 8 0)) 2 (σ 8 1)) 3 (a)) 4 (isumI (sT σ) 40)) 5 (u)) 6 (h)) 7 (b)))] ++ ([(q12, aI cI 6 f19)] ++ (SW cI cT cU ds σ (z1 2)))) : va_W).Perm ([(q461, aI cI 8 (fu (fu (fu (fu (fu (fu (fu (fu (fun _ => 0) 0 (σ 9 0)) 1 (σ 8 0)) 2 (σ 8 1)) 3 (a)) 4 (isumI (sT σ) 40)) 5 (u)) 6 (h)) 7 (b)))] ++ ([(q12, aI cI 6 f19)] ++ ((XW cI cZ d σ κx520) ++ (SW cI cT cU ds σ (z1 2)))) : va_W) := ((List.perm_append_comm_assoc _ _ _)).trans ((List.Perm.append_left _ (List.perm_append_comm_assoc _ _ _)))
                    have hPc : va_P D vwCl ((XW cI cZ d σ κx520) ++ ([(q461, aI cI 8 (fu (fu (fu (fu (fu (fu (fu (fu (fun _ => 0) 0 (σ 9 0)) 1 (σ 8 0)) 2 (σ 8 1)) 3 (a)) 4 (isumI (sT σ) 40)) 5 (u)) 6 (h)) 7 (b)))] ++ ([(q12, aI cI 6 f19)] ++ (SW cI cT cU ds σ (z1 2))))) H := va_mem hP (fun q9 hq9 => hp9.mem_iff.mp hq9)
                    have hDc : va_D A ((XW cI cZ d σ κx520) ++ ([(q461, aI cI 8 (fu (fu (fu (fu (fu (fu (fu (fu (fun _ => 0) 0 (σ 9 0)) 1 (σ 8 0)) 2 (σ 8 1)) 3 (a)) 4 (isumI (sT σ) 40)) 5 (u)) 6 (h)) 7 (b)))] ++ ([(q12, aI cI 6 f19)] ++ (SW cI cT cU ds σ (z1 2))))) := va_Dp hD hp9
                    refine h_call0 (vx_runV (As := [.int (iI (w3))]) (rest := []) S ((kX1_count l hfl D cI cZ d σ κx520 w3 (by first | assumption | omega) (by first | assumption | omega) (by first | assumption | omega)) H.size) (cwV 1 hts gX2_isSame_X1_count rfl rfl rfl (by decide +kernel) ⟨Nat.le_of_ble_eq_true rfl, Nat.le_of_ble_eq_true rfl⟩) (h_preV hK [0, 1] rfl hPc hDc hS hA hTE (q0 := 0) (ci := 1) rfl rfl rfl) rfl rfl hl.1 rfl (lv_room (Nat.le_of_ble_eq_true rfl)) dX2_isSame_530 ⟨by show cl520 + 1 ≤ 326; omega, by show sl520 + 6 ≤ 1940; omega⟩) hPc hDc hS hA (fun E h => (by have h0 : (tCount w3) = 0 := (by unfold tCount; rw [if_neg (by omega)]); rcases h with ⟨_, h⟩ <;> omega)) (fun κ9 H locs hk hP hD hS => ?_)
                    obtain ⟨z5, ezz5⟩ : ∃ z, z = κ9 := ⟨_, rfl⟩
                    subst ezz5
                    have hP : va_P D vwCl ((XW cI cZ d σ z5) ++ ([(q461, aI cI 8 (fu (fu (fu (fu (fu (fu (fu (fu (fun _ => 0) 0 (σ 9 0)) 1 (σ 8 0)) 2 (σ 8 1)) 3 (a)) 4 (isumI (sT σ) 40)) 5 (u)) 6 (h)) 7 (b)))] ++ ([(q12, aI cI 6 f19)] ++ (SW cI cT cU ds σ (z1 2))))) H := hP
                    have hD : va_D A ((XW cI cZ d σ z5) ++ ([(q461, aI cI 8 (fu (fu (fu (fu (fu (fu (fu (fu (fun _ => 0) 0 (σ 9 0)) 1 (σ 8 0)) 2 (σ 8 1)) 3 (a)) 4 (isumI (sT σ) 40)) 5 (u)) 6 (h)) 7 (b)))] ++ ([(q12, aI cI 6 f19)] ++ (SW cI cT cU ds σ (z1 2))))) := hD
                    have hp9 : ([(q461, aI cI 8 (fu (fu (fu (fu (fu (fu (fu (fu (fun _ => 0) 0 (σ 9 0)) 1 (σ 8 0)) 2 (σ 8 1)) 3 (a)) 4 (isumI (sT σ) 40)) 5 (u)) 6 (h)) 7 (b)))] ++ ([(q12, aI cI 6 f19)] ++ ((XW cI cZ d σ z5) ++ (SW cI cT cU ds σ (z1 2)))) : va_W).Perm ((XW cI cZ d σ z5) ++ ([(q461, aI cI 8 (fu (fu (fu (fu (fu (fu (fu (fu (fun _ => 0) 0 (σ 9 0)) 1 (σ 8 0)) 2 (σ 8 1)) 3 (a)) 4 (isumI (sT σ) 40)) 5 (u)) 6 (h)) 7 (b)))] ++ ([(q12, aI cI 6 f19)] ++ (SW cI cT cU ds σ (z1 2)))) : va_W) := ((List.Perm.append_left _ (List.perm_append_comm_assoc _ _ _))).trans ((List.perm_append_comm_assoc _ _ _))
                    have hP : va_P D vwCl ([(q461, aI cI 8 (fu (fu (fu (fu (fu (fu (fu (fu (fun _ => 0) 0 (σ 9 0)) 1 (σ 8 0)) 2 (σ 8 1)) 3 (a)) 4 (isumI (sT σ) 40)) 5 (u)) 6 (h)) 7 (b)))] ++ ([(q12, aI cI 6 f19)] ++ ((XW cI cZ d σ z5) ++ (SW cI cT cU ds σ (z1 2))))) H := va_mem hP (fun q9 hq9 => hp9.mem_iff.mp hq9)
                    have hD : va_D A ([(q461, aI cI 8 (fu (fu (fu (fu (fu (fu (fu (fu (fun _ => 0) 0 (σ 9 0)) 1 (σ 8 0)) 2 (σ 8 1)) 3 (a)) 4 (isumI (sT σ) 40)) 5 (u)) 6 (h)) 7 (b)))] ++ ([(q12, aI cI 6 f19)] ++ ((XW cI cZ d σ z5) ++ (SW cI cT cU ds σ (z1 2))))) := va_Dp hD hp9
                    show W p l e ({ frames := 7, cells := 326, slots := 1940, locals := 116 } : Room) s m args below meth c H locs (cl520 + 1) (sl520 + 6) (MQ below (gQ D (tyA cI cZ cT cU cQ) (fun κ' => (XW cI cZ d σ κ') ++ (SW cI cT cU ds σ (κ' 2))) A (fun _ => some (.int (iI (1)))) (fun κ' => True)) args s 326 1940 A) (F0 m 533 ls [.int (iI (xCount σ w3))])
                    refine lv_aload hx hb dX2_isSame_533 (lv_at hl 1 rfl) ?_
                    refine lv_iload hx hb dX2_isSame_535 (lv_at hl 0 rfl) ?_
                    refine gi_iald (a := (q461)) (n := 8) (f := fu (fu (fu (fu (fu (fu (fu (fu (fun _ => 0) 0 (σ 9 0)) 1 (σ 8 0)) 2 (σ 8 1)) 3 (a)) 4 (isumI (sT σ) 40)) 5 (u)) 6 (h)) 7 (b)) hx hb hK (g_left hP) 0 0 rfl rfl (by omega) (by omega) (by decide) dX2_isSame_537 ?_
                    rw [show ((fu (fu (fu (fu (fu (fu (fu (fu (fun _ => 0) 0 (σ 9 0)) 1 (σ 8 0)) 2 (σ 8 1)) 3 (a)) 4 (isumI (sT σ) 40)) 5 (u)) 6 (h)) 7 (b)) w3 : Int) = (xCount σ w3) from by exact hf7 w3 (by omega) (by omega)]
                    refine gi_icmp_eq (tgt := 543) hx hb dX2_isSame_538 (by decide) (xCountR hwf hbn _) (xCountR hwf hbn _) (fun c538 => ?_) (fun c538 => ?_)
                    · skip
                      refine lv_iinc (v := iI (w3 + 1)) (lv' := [(8, .int (iI (w3 + 1))), (7, .ref (q461)), (4, .int (iI (u))), (5, .int (iI (h))), (2, .int (iI (a))), (3, .int (iI (b))), (6, .ref (q12)), (0, .ref (ds 0)), (1, .ref (d 0))]) hx hb dX2_isSame_543 hl (k := 0) rfl (iI_add _ _) (by decide) rfl (fun ls hl => ?_)
                      refine lv_goto (tgt := 520) hx hb dX2_isSame_546 (by decide) ?_
                      exact ih520 (w3 + 1) z5 (cl520 + 1) (sl520 + 6) (by omega) (by omega) (by omega) (by omega) (by omega) H locs ls hP hD hS (lv_sub hl [0, 1, 2, 3, 4, 5, 6, 7, 8] rfl)
                    · skip
                      exact absurd rfl c538
              exact loop520 (((8 - (0) + 1 : Int)).toNat) 0 κx338 (cl338 + 1) (sl338 + 8) (by omega) (by omega) (by omega) (by omega) (by omega) H locs ls hP hD hS (lv_sub hl [0, 1, 2, 3, 4, 5, 6, 7, 8] rfl)
            · skip
              refine lv_iload hx hb dX2_isSame_345 (lv_at hl 1 rfl) ?_
              refine lv_aload_n hx hb dX2_isSame_347 rfl (lv_at hl 6 rfl) ?_
              refine va_get (D := D) (ci := 2) (v := .ref (ds 5)) (C := RX2) (T := TX2) (N := 8) hx hb hts hinX2 hown hK (g_right (g_right hP)) 0 rfl rfl 4 (by decide) (hts (.fieldLink RX2 24 "TwinOrchardLaw$Sim" "barn" "[I") (List.mem_of_getElem? (i := 7) rfl)) (fun _ h9 => h9) rfl dX2_isSame_348 ?_
              refine lv_iload hx hb dX2_isSame_351 (lv_at hl 0 rfl) ?_
              refine gi_iald (a := (ds 5)) (n := 6) (f := σ 2) hx hb hK (g_right (g_right hP)) 5 0 rfl rfl (by omega) (by omega) (by decide) dX2_isSame_353 ?_
              refine gi_add hx hb dX2_isSame_354 ?_
              refine lv_istore (lv' := [(4, .int (iI (u + (σ 2 s0)))), (7, .int (iI (s0))), (5, .int (iI (h))), (2, .int (iI (a))), (3, .int (iI (b))), (6, .ref (q12)), (0, .ref (ds 0)), (1, .ref (d 0))]) hx hb dX2_isSame_355 hl (by decide) rfl (fun ls hl => ?_)
              refine lv_iload hx hb dX2_isSame_357 (lv_at hl 2 rfl) ?_
              refine lv_aload_n hx hb dX2_isSame_359 rfl (lv_at hl 6 rfl) ?_
              refine va_get (D := D) (ci := 2) (v := .ref (ds 5)) (C := RX2) (T := TX2) (N := 8) hx hb hts hinX2 hown hK (g_right (g_right hP)) 0 rfl rfl 4 (by decide) (hts (.fieldLink RX2 24 "TwinOrchardLaw$Sim" "barn" "[I") (List.mem_of_getElem? (i := 7) rfl)) (fun _ h9 => h9) rfl dX2_isSame_360 ?_
              refine lv_iload hx hb dX2_isSame_363 (lv_at hl 1 rfl) ?_
              refine gi_iald (a := (ds 5)) (n := 6) (f := σ 2) hx hb hK (g_right (g_right hP)) 5 0 rfl rfl (by omega) (by omega) (by decide) dX2_isSame_365 ?_
              refine lv_aload_n hx hb dX2_isSame_366 rfl (lv_at hl 6 rfl) ?_
              refine va_get (D := D) (ci := 2) (v := .ref (ds 2)) (C := RX2) (T := TX2) (N := 8) hx hb hts hinX2 hown hK (g_right (g_right hP)) 0 rfl rfl 1 (by decide) (hts (.fieldLink RX2 14 "TwinOrchardLaw$Sim" "weight" "[I") (List.mem_of_getElem? (i := 8) rfl)) (fun _ h9 => h9) rfl dX2_isSame_367 ?_
              refine lv_iload hx hb dX2_isSame_370 (lv_at hl 1 rfl) ?_
              refine gi_iald (a := (ds 2)) (n := 6) (f := σ 0) hx hb hK (g_right (g_right hP)) 2 0 rfl rfl (by omega) (by omega) (by decide) dX2_isSame_372 ?_
              refine gi_mul hx hb dX2_isSame_373 ?_
              refine gi_add hx hb dX2_isSame_374 ?_
              refine lv_istore (lv' := [(5, .int (iI (h + ((σ 2 s0) * (σ 0 s0))))), (4, .int (iI (u + (σ 2 s0)))), (7, .int (iI (s0))), (2, .int (iI (a))), (3, .int (iI (b))), (6, .ref (q12)), (0, .ref (ds 0)), (1, .ref (d 0))]) hx hb dX2_isSame_375 hl (by decide) rfl (fun ls hl => ?_)
              refine lv_iconst (v := iI (4)) hx hb dX2_isSame_377 rfl ?_
              refine va_newa (atype := .int) (ty := .int) (N' := 4) (a0 := (4, .inl (fun j : Nat => iI ((fun _ => 0 : Int → Int) (j : Int))))) hx hb (hts _ (List.mem_of_getElem? (i := 1) rfl)) rfl hK hP hD hS hA (fun _ => rfl) (by decide) rfl (Nat.le_of_ble_eq_true rfl) (by show cl338 + 1 ≤ 326; omega) (by show sl338 + 4 ≤ 1940; omega) dX2_isSame_378 (fun q378 cA H hK hP hD hS => ?_)
              have e9 : cI = cA := g_clsI hK 0 5 rfl rfl
              subst e9
              have hK : va_K D vwCl (tyA cI cZ cT cU cQ) s := hK.sub [0, 1, 2, 3, 4] rfl
              obtain ⟨hP, hD⟩ := g_swap hP hD
              have hP : va_P D vwCl ([(q378, aI cI 4 (fun _ => 0))] ++ ([(q12, aI cI 6 f19)] ++ ((XW cI cZ d σ κx338) ++ (SW cI cT cU ds σ ι)))) H := hP
              have hD : va_D A ([(q378, aI cI 4 (fun _ => 0))] ++ ([(q12, aI cI 6 f19)] ++ ((XW cI cZ d σ κx338) ++ (SW cI cT cU ds σ ι)))) := hD
              show W p l e ({ frames := 7, cells := 326, slots := 1940, locals := 116 } : Room) s m args below meth c H locs (cl338 + 1) (sl338 + 4) (MQ below (gQ D (tyA cI cZ cT cU cQ) (fun κ' => (XW cI cZ d σ κ') ++ (SW cI cT cU ds σ (κ' 2))) A (fun _ => some (.int (iI (1)))) (fun κ' => True)) args s 326 1940 A) (F0 m 380 ls [.ref (q378)])
              refine lv_dup hx hb dX2_isSame_380 rfl ?_
              refine lv_iconst (v := iI (0)) hx hb dX2_isSame_381 rfl ?_
              refine lv_aload_n hx hb dX2_isSame_382 rfl (lv_at hl 6 rfl) ?_
              refine va_get (D := D) (ci := 2) (v := .ref (ds 2)) (C := RX2) (T := TX2) (N := 8) hx hb hts hinX2 hown hK (g_right (g_right (g_right hP))) 0 rfl rfl 1 (by decide) (hts (.fieldLink RX2 14 "TwinOrchardLaw$Sim" "weight" "[I") (List.mem_of_getElem? (i := 8) rfl)) (fun _ h9 => h9) rfl dX2_isSame_383 ?_
              refine lv_iload hx hb dX2_isSame_386 (lv_at hl 2 rfl) ?_
              refine gi_iald (a := (ds 2)) (n := 6) (f := σ 0) hx hb hK (g_right (g_right (g_right hP))) 2 0 rfl rfl (by omega) (by omega) (by decide) dX2_isSame_388 ?_
              refine gi_iast (a := q378) (n := 4) (f := fun _ => 0) hx hb hK hP hD hS 0 0 rfl rfl (by omega) (by omega) (by decide) dX2_isSame_389 (fun H locs hP hD hS => ?_)
              have hP : va_P D vwCl ([(q378, aI cI 4 (fu (fun _ => 0) 0 (σ 0 s0)))] ++ ([(q12, aI cI 6 f19)] ++ ((XW cI cZ d σ κx338) ++ (SW cI cT cU ds σ ι)))) H := hP
              have hD : va_D A ([(q378, aI cI 4 (fu (fun _ => 0) 0 (σ 0 s0)))] ++ ([(q12, aI cI 6 f19)] ++ ((XW cI cZ d σ κx338) ++ (SW cI cT cU ds σ ι)))) := hD
              refine lv_dup hx hb dX2_isSame_390 rfl ?_
              refine lv_iconst (v := iI (1)) hx hb dX2_isSame_391 rfl ?_
              refine lv_aload_n hx hb dX2_isSame_392 rfl (lv_at hl 6 rfl) ?_
              refine va_get (D := D) (ci := 2) (v := .ref (ds 3)) (C := RX2) (T := TX2) (N := 8) hx hb hts hinX2 hown hK (g_right (g_right (g_right hP))) 0 rfl rfl 2 (by decide) (hts (.fieldLink RX2 18 "TwinOrchardLaw$Sim" "bears" "[I") (List.mem_of_getElem? (i := 9) rfl)) (fun _ h9 => h9) rfl dX2_isSame_393 ?_
              refine lv_iload hx hb dX2_isSame_396 (lv_at hl 2 rfl) ?_
              refine gi_iald (a := (ds 3)) (n := 6) (f := σ 1) hx hb hK (g_right (g_right (g_right hP))) 3 0 rfl rfl (by omega) (by omega) (by decide) dX2_isSame_398 ?_
              refine gi_iast (a := q378) (n := 4) (f := fu (fun _ => 0) 0 (σ 0 s0)) hx hb hK hP hD hS 0 0 rfl rfl (by omega) (by omega) (by decide) dX2_isSame_399 (fun H locs hP hD hS => ?_)
              have hP : va_P D vwCl ([(q378, aI cI 4 (fu (fu (fun _ => 0) 0 (σ 0 s0)) 1 (σ 1 s0)))] ++ ([(q12, aI cI 6 f19)] ++ ((XW cI cZ d σ κx338) ++ (SW cI cT cU ds σ ι)))) H := hP
              have hD : va_D A ([(q378, aI cI 4 (fu (fu (fun _ => 0) 0 (σ 0 s0)) 1 (σ 1 s0)))] ++ ([(q12, aI cI 6 f19)] ++ ((XW cI cZ d σ κx338) ++ (SW cI cT cU ds σ ι)))) := hD
              refine lv_dup hx hb dX2_isSame_400 rfl ?_
              refine lv_iconst (v := iI (2)) hx hb dX2_isSame_401 rfl ?_
              refine lv_aload_n hx hb dX2_isSame_402 rfl (lv_at hl 6 rfl) ?_
              refine va_get (D := D) (ci := 2) (v := .ref (ds 5)) (C := RX2) (T := TX2) (N := 8) hx hb hts hinX2 hown hK (g_right (g_right (g_right hP))) 0 rfl rfl 4 (by decide) (hts (.fieldLink RX2 24 "TwinOrchardLaw$Sim" "barn" "[I") (List.mem_of_getElem? (i := 7) rfl)) (fun _ h9 => h9) rfl dX2_isSame_403 ?_
              refine lv_iload hx hb dX2_isSame_406 (lv_at hl 2 rfl) ?_
              refine gi_iald (a := (ds 5)) (n := 6) (f := σ 2) hx hb hK (g_right (g_right (g_right hP))) 5 0 rfl rfl (by omega) (by omega) (by decide) dX2_isSame_408 ?_
              refine gi_iast (a := q378) (n := 4) (f := fu (fu (fun _ => 0) 0 (σ 0 s0)) 1 (σ 1 s0)) hx hb hK hP hD hS 0 0 rfl rfl (by omega) (by omega) (by decide) dX2_isSame_409 (fun H locs hP hD hS => ?_)
              have hP : va_P D vwCl ([(q378, aI cI 4 (fu (fu (fu (fun _ => 0) 0 (σ 0 s0)) 1 (σ 1 s0)) 2 (σ 2 s0)))] ++ ([(q12, aI cI 6 f19)] ++ ((XW cI cZ d σ κx338) ++ (SW cI cT cU ds σ ι)))) H := hP
              have hD : va_D A ([(q378, aI cI 4 (fu (fu (fu (fun _ => 0) 0 (σ 0 s0)) 1 (σ 1 s0)) 2 (σ 2 s0)))] ++ ([(q12, aI cI 6 f19)] ++ ((XW cI cZ d σ κx338) ++ (SW cI cT cU ds σ ι)))) := hD
              refine lv_dup hx hb dX2_isSame_410 rfl ?_
              refine lv_iconst (v := iI (3)) hx hb dX2_isSame_411 rfl ?_
              refine lv_aload hx hb dX2_isSame_412 (lv_at hl 5 rfl) ?_
              refine lv_iload hx hb dX2_isSame_414 (lv_at hl 2 rfl) ?_
              refine gi_iald (a := (q12)) (n := 6) (f := f19) hx hb hK (g_left (g_right hP)) 0 0 rfl rfl (by omega) (by omega) (by decide) dX2_isSame_416 ?_
              refine gi_iast (a := q378) (n := 4) (f := fu (fu (fu (fun _ => 0) 0 (σ 0 s0)) 1 (σ 1 s0)) 2 (σ 2 s0)) hx hb hK hP hD hS 0 0 rfl rfl (by omega) (by omega) (by decide) dX2_isSame_417 (fun H locs hP hD hS => ?_)
              have hP : va_P D vwCl ([(q378, aI cI 4 (fu (fu (fu (fu (fun _ => 0) 0 (σ 0 s0)) 1 (σ 1 s0)) 2 (σ 2 s0)) 3 (f19 s0)))] ++ ([(q12, aI cI 6 f19)] ++ ((XW cI cZ d σ κx338) ++ (SW cI cT cU ds σ ι)))) H := hP
              have hD : va_D A ([(q378, aI cI 4 (fu (fu (fu (fu (fun _ => 0) 0 (σ 0 s0)) 1 (σ 1 s0)) 2 (σ 2 s0)) 3 (f19 s0)))] ++ ([(q12, aI cI 6 f19)] ++ ((XW cI cZ d σ κx338) ++ (SW cI cT cU ds σ ι)))) := hD
              refine lv_astore (lv' := [(8, .ref (q378)), (5, .int (iI (h + ((σ 2 s0) * (σ 0 s0))))), (4, .int (iI (u + (σ 2 s0)))), (7, .int (iI (s0))), (2, .int (iI (a))), (3, .int (iI (b))), (6, .ref (q12)), (0, .ref (ds 0)), (1, .ref (d 0))]) hx hb dX2_isSame_418 hl (by decide) rfl (fun ls hl => ?_)
              have hf8 : ∀ w9 : Int, 0 ≤ w9 → w9 < 4 → (fu (fu (fu (fu (fun _ => 0) 0 (σ 0 s0)) 1 (σ 1 s0)) 2 (σ 2 s0)) 3 (f19 s0)) w9 = xSort σ s0 w9 := by intro w9 h0 h1; rcases (show w9 = 0 ∨ w9 = 1 ∨ w9 = 2 ∨ w9 = 3 by omega) with rfl | rfl | rfl | rfl; rfl; rfl; rfl; exact (if19 s0 (by omega) (by omega)).trans (by rw [show r * 8 = 40 by omega]; rfl)
              refine lv_iconst (v := iI (0)) hx hb dX2_isSame_420 rfl ?_
              refine lv_istore (lv' := [(9, .int (iI (0))), (8, .ref (q378)), (5, .int (iI (h + ((σ 2 s0) * (σ 0 s0))))), (4, .int (iI (u + (σ 2 s0)))), (7, .int (iI (s0))), (2, .int (iI (a))), (3, .int (iI (b))), (6, .ref (q12)), (0, .ref (ds 0)), (1, .ref (d 0))]) hx hb dX2_isSame_421 hl (by decide) rfl (fun ls hl => ?_)
              have loop423 : ∀ (n423 : Nat) (w2 : Int) (κx423 : St) (cl423 sl423 : Nat), (0 ≤ w2) → (w2 ≤ 4) → (4 - w2 < (n423 : Int)) → ((cl423 : Int) ≤ 286 + 5 * s0 + 1 + w2) → ((sl423 : Int) ≤ 1716 + 28 * s0 + 4 + 6 * w2) → ∀ (H : Heap) (locs : List Loc) (ls : Array Slot), va_P D vwCl ([(q378, aI cI 4 (fu (fu (fu (fu (fun _ => 0) 0 (σ 0 s0)) 1 (σ 1 s0)) 2 (σ 2 s0)) 3 (f19 s0)))] ++ ([(q12, aI cI 6 f19)] ++ ((XW cI cZ d σ κx423) ++ (SW cI cT cU ds σ ι)))) H → va_D A ([(q378, aI cI 4 (fu (fu (fu (fu (fun _ => 0) 0 (σ 0 s0)) 1 (σ 1 s0)) 2 (σ 2 s0)) 3 (f19 s0)))] ++ ([(q12, aI cI 6 f19)] ++ ((XW cI cZ d σ κx423) ++ (SW cI cT cU ds σ ι)))) → va_S A s.heap H locs → lv_has ls 13 [(9, .int (iI (w2))), (8, .ref (q378)), (5, .int (iI (h + ((σ 2 s0) * (σ 0 s0))))), (4, .int (iI (u + (σ 2 s0)))), (7, .int (iI (s0))), (2, .int (iI (a))), (3, .int (iI (b))), (6, .ref (q12)), (0, .ref (ds 0)), (1, .ref (d 0))] → W p l e ({ frames := 7, cells := 326, slots := 1940, locals := 116 } : Room) s m args below meth c H locs cl423 sl423 (MQ below (gQ D (tyA cI cZ cT cU cQ) (fun κ' => (XW cI cZ d σ κ') ++ (SW cI cT cU ds σ (κ' 2))) A (fun _ => some (.int (iI (1)))) (fun κ' => True)) args s 326 1940 A) (F0 m 423 ls []) := by
                intro n423
                induction n423 with
                | zero =>
                  intro w2 κx423 cl423 sl423 hlo423 hhi423 hm423
                  omega
                | succ n423 ih423 =>
                  intro w2 κx423 cl423 sl423 hlo423 hhi423 hm423 hcl423 hsl423 H locs ls hP hD hS hl
                  refine lv_iload hx hb dX2_isSame_423 (lv_at hl 0 rfl) ?_
                  refine lv_iconst (v := iI (4)) hx hb dX2_isSame_425 rfl ?_
                  refine gi_icmp_ge (tgt := 453) hx hb dX2_isSame_426 (by decide) ⟨by omega, by omega⟩ ⟨by decide, by decide⟩ (fun c426 => ?_) (fun c426 => ?_)
                  · skip
                    refine lv_iinc (v := iI (s0 + 1)) (lv' := [(7, .int (iI (s0 + 1))), (9, .int (iI (w2))), (8, .ref (q378)), (5, .int (iI (h + ((σ 2 s0) * (σ 0 s0))))), (4, .int (iI (u + (σ 2 s0)))), (2, .int (iI (a))), (3, .int (iI (b))), (6, .ref (q12)), (0, .ref (ds 0)), (1, .ref (d 0))]) hx hb dX2_isSame_453 hl (k := 4) rfl (iI_add _ _) (by decide) rfl (fun ls hl => ?_)
                    refine lv_goto (tgt := 338) hx hb dX2_isSame_456 (by decide) ?_
                    have hP := g_right hP
                    have hD := g_Dright hD
                    have hP : va_P D vwCl ([(q12, aI cI 6 f19)] ++ ((XW cI cZ d σ κx423) ++ (SW cI cT cU ds σ ι))) H := hP
                    have hD : va_D A ([(q12, aI cI 6 f19)] ++ ((XW cI cZ d σ κx423) ++ (SW cI cT cU ds σ ι))) := hD
                    exact ih338 (s0 + 1) (u + (σ 2 s0)) (h + ((σ 2 s0) * (σ 0 s0))) κx423 cl423 sl423 (by omega) (by omega) (by omega) (by rw [isumI_s _ hlo338, ← iu338]) (by rw [isumI_s _ hlo338, ← iy338]) (by omega) (by omega) H locs ls hP hD hS (lv_sub hl [0, 4, 3, 5, 6, 7, 8, 9] rfl)
                  · skip
                    refine lv_aload_n hx hb dX2_isSame_429 rfl (lv_at hl 9 rfl) ?_
                    refine lv_iload hx hb dX2_isSame_430 (lv_at hl 4 rfl) ?_
                    refine lv_iload hx hb dX2_isSame_432 (lv_at hl 0 rfl) ?_
                    have hp9 : ((XW cI cZ d σ κx423) ++ ([(q378, aI cI 4 (fu (fu (fu (fu (fun _ => 0) 0 (σ 0 s0)) 1 (σ 1 s0)) 2 (σ 2 s0)) 3 (f19 s0)))] ++ ([(q12, aI cI 6 f19)] ++ (SW cI cT cU ds σ ι))) : va_W).Perm ([(q378, aI cI 4 (fu (fu (fu (fu (fun _ => 0) 0 (σ 0 s0)) 1 (σ 1 s0)) 2 (σ 2 s0)) 3 (f19 s0)))] ++ ([(q12, aI cI 6 f19)] ++ ((XW cI cZ d σ κx423) ++ (SW cI cT cU ds σ ι))) : va_W) := ((List.perm_append_comm_assoc _ _ _)).trans ((List.Perm.append_left _ (List.perm_append_comm_assoc _ _ _)))
                    have hPc : va_P D vwCl ((XW cI cZ d σ κx423) ++ ([(q378, aI cI 4 (fu (fu (fu (fu (fun _ => 0) 0 (σ 0 s0)) 1 (σ 1 s0)) 2 (σ 2 s0)) 3 (f19 s0)))] ++ ([(q12, aI cI 6 f19)] ++ (SW cI cT cU ds σ ι)))) H := va_mem hP (fun q9 hq9 => hp9.mem_iff.mp hq9)
                    have hDc : va_D A ((XW cI cZ d σ κx423) ++ ([(q378, aI cI 4 (fu (fu (fu (fu (fun _ => 0) 0 (σ 0 s0)) 1 (σ 1 s0)) 2 (σ 2 s0)) 3 (f19 s0)))] ++ ([(q12, aI cI 6 f19)] ++ (SW cI cT cU ds σ ι)))) := va_Dp hD hp9
                    refine h_call0 (vx_runV (As := [.int (iI (s0)), .int (iI (w2))]) (rest := []) S ((kX1_sort l hfl D cI cZ d σ κx423 s0 w2 (by first | assumption | omega) (by first | assumption | omega) (by first | assumption | omega) (by first | assumption | omega) (by first | assumption | omega)) H.size) (cwV 2 hts gX2_isSame_X1_sort rfl rfl rfl (by decide +kernel) ⟨Nat.le_of_ble_eq_true rfl, Nat.le_of_ble_eq_true rfl⟩) (h_preV hK [0, 1] rfl hPc hDc hS hA hTE (q0 := 0) (ci := 1) rfl rfl rfl) rfl rfl hl.1 rfl (lv_room (Nat.le_of_ble_eq_true rfl)) dX2_isSame_434 ⟨by show cl423 + 1 ≤ 326; omega, by show sl423 + 6 ≤ 1940; omega⟩) hPc hDc hS hA (fun E h => (by have h0 : (tSort s0 w2) = 0 := (by unfold tSort; rw [if_neg (by omega)]); rcases h with ⟨_, h⟩ <;> omega)) (fun κ9 H locs hk hP hD hS => ?_)
                    obtain ⟨z6, ezz6⟩ : ∃ z, z = κ9 := ⟨_, rfl⟩
                    subst ezz6
                    have hP : va_P D vwCl ((XW cI cZ d σ z6) ++ ([(q378, aI cI 4 (fu (fu (fu (fu (fun _ => 0) 0 (σ 0 s0)) 1 (σ 1 s0)) 2 (σ 2 s0)) 3 (f19 s0)))] ++ ([(q12, aI cI 6 f19)] ++ (SW cI cT cU ds σ ι)))) H := hP
                    have hD : va_D A ((XW cI cZ d σ z6) ++ ([(q378, aI cI 4 (fu (fu (fu (fu (fun _ => 0) 0 (σ 0 s0)) 1 (σ 1 s0)) 2 (σ 2 s0)) 3 (f19 s0)))] ++ ([(q12, aI cI 6 f19)] ++ (SW cI cT cU ds σ ι)))) := hD
                    have hp9 : ([(q378, aI cI 4 (fu (fu (fu (fu (fun _ => 0) 0 (σ 0 s0)) 1 (σ 1 s0)) 2 (σ 2 s0)) 3 (f19 s0)))] ++ ([(q12, aI cI 6 f19)] ++ ((XW cI cZ d σ z6) ++ (SW cI cT cU ds σ ι))) : va_W).Perm ((XW cI cZ d σ z6) ++ ([(q378, aI cI 4 (fu (fu (fu (fu (fun _ => 0) 0 (σ 0 s0)) 1 (σ 1 s0)) 2 (σ 2 s0)) 3 (f19 s0)))] ++ ([(q12, aI cI 6 f19)] ++ (SW cI cT cU ds σ ι))) : va_W) := ((List.Perm.append_left _ (List.perm_append_comm_assoc _ _ _))).trans ((List.perm_append_comm_assoc _ _ _))
                    have hP : va_P D vwCl ([(q378, aI cI 4 (fu (fu (fu (fu (fun _ => 0) 0 (σ 0 s0)) 1 (σ 1 s0)) 2 (σ 2 s0)) 3 (f19 s0)))] ++ ([(q12, aI cI 6 f19)] ++ ((XW cI cZ d σ z6) ++ (SW cI cT cU ds σ ι)))) H := va_mem hP (fun q9 hq9 => hp9.mem_iff.mp hq9)
                    have hD : va_D A ([(q378, aI cI 4 (fu (fu (fu (fu (fun _ => 0) 0 (σ 0 s0)) 1 (σ 1 s0)) 2 (σ 2 s0)) 3 (f19 s0)))] ++ ([(q12, aI cI 6 f19)] ++ ((XW cI cZ d σ z6) ++ (SW cI cT cU ds σ ι)))) := va_Dp hD hp9
                    show W p l e ({ frames := 7, cells := 326, slots := 1940, locals := 116 } : Room) s m args below meth c H locs (cl423 + 1) (sl423 + 6) (MQ below (gQ D (tyA cI cZ cT cU cQ) (fun κ' => (XW cI cZ d σ κ') ++ (SW cI cT cU ds σ (κ' 2))) A (fun _ => some (.int (iI (1)))) (fun κ' => True)) args s 326 1940 A) (F0 m 437 ls [.int (iI (xSort σ s0 w2))])
                    refine lv_aload hx hb dX2_isSame_437 (lv_at hl 1 rfl) ?_
                    refine lv_iload hx hb dX2_isSame_439 (lv_at hl 0 rfl) ?_
                    refine gi_iald (a := (q378)) (n := 4) (f := fu (fu (fu (fu (fun _ => 0) 0 (σ 0 s0)) 1 (σ 1 s0)) 2 (σ 2 s0)) 3 (f19 s0)) hx hb hK (g_left hP) 0 0 rfl rfl (by omega) (by omega) (by decide) dX2_isSame_441 ?_
                    rw [show ((fu (fu (fu (fu (fun _ => 0) 0 (σ 0 s0)) 1 (σ 1 s0)) 2 (σ 2 s0)) 3 (f19 s0)) w2 : Int) = (xSort σ s0 w2) from by exact hf8 w2 (by omega) (by omega)]
                    refine gi_icmp_eq (tgt := 447) hx hb dX2_isSame_442 (by decide) (xSortR hwf _ _) (xSortR hwf _ _) (fun c442 => ?_) (fun c442 => ?_)
                    · skip
                      refine lv_iinc (v := iI (w2 + 1)) (lv' := [(9, .int (iI (w2 + 1))), (8, .ref (q378)), (5, .int (iI (h + ((σ 2 s0) * (σ 0 s0))))), (4, .int (iI (u + (σ 2 s0)))), (7, .int (iI (s0))), (2, .int (iI (a))), (3, .int (iI (b))), (6, .ref (q12)), (0, .ref (ds 0)), (1, .ref (d 0))]) hx hb dX2_isSame_447 hl (k := 0) rfl (iI_add _ _) (by decide) rfl (fun ls hl => ?_)
                      refine lv_goto (tgt := 423) hx hb dX2_isSame_450 (by decide) ?_
                      exact ih423 (w2 + 1) z6 (cl423 + 1) (sl423 + 6) (by omega) (by omega) (by omega) (by omega) (by omega) H locs ls hP hD hS (lv_sub hl [0, 1, 2, 3, 4, 5, 6, 7, 8, 9] rfl)
                    · skip
                      exact absurd rfl c442
              exact loop423 (((4 - (0) + 1 : Int)).toNat) 0 κx338 (cl338 + 1) (sl338 + 4) (by omega) (by omega) (by omega) (by omega) (by omega) H locs ls hP hD hS (lv_sub hl [0, 1, 2, 3, 4, 5, 6, 7, 8, 9] rfl)
        exact loop338 (((6 - (0) + 1 : Int)).toNat) 0 0 0 κx19 cl19 sl19 (by omega) (by omega) (by omega) (by rfl) (by rfl) (by omega) (by omega) H locs ls hP hD hS (lv_sub hl [0, 5, 4, 1, 2, 3, 6, 7] rfl)
      · skip
        refine lv_iconst (v := iI (0)) hx hb dX2_isSame_25 rfl ?_
        refine lv_istore (lv' := [(8, .int (iI (0))), (7, .int (iI (r))), (2, .int (iI (a))), (3, .int (iI (b))), (6, .ref (q12)), (5, .int (iI (0))), (4, .int (iI (0))), (0, .ref (ds 0)), (1, .ref (d 0))]) hx hb dX2_isSame_26 hl (by decide) rfl (fun ls hl => ?_)
        refine lv_iconst (v := iI (0)) hx hb dX2_isSame_28 rfl ?_
        refine lv_istore (lv' := [(9, .int (iI (0))), (8, .int (iI (0))), (7, .int (iI (r))), (2, .int (iI (a))), (3, .int (iI (b))), (6, .ref (q12)), (5, .int (iI (0))), (4, .int (iI (0))), (0, .ref (ds 0)), (1, .ref (d 0))]) hx hb dX2_isSame_29 hl (by decide) rfl (fun ls hl => ?_)
        have loop31 : ∀ (n31 : Nat) (pl a2 c2 b2 : Int) (κx31 : St) (f31 : Int → Int) (cl31 sl31 : Nat), (0 ≤ pl) → (pl ≤ 8) → (8 - pl < (n31 : Int)) → (a2 = isumI (fun j => bI (¬ σ 4 j = -1)) (r * 8 + pl)) → (c2 = isumI (lnF σ r) pl) → (b2 = isumI (UP σ) r + isumI (upr σ r) (min pl 4)) → (∀ s9 : Int, 0 ≤ s9 → s9 < 6 → f31 s9 = isumI (fun j => bI (σ 4 j = s9)) (r * 8 + pl)) → ((cl31 : Int) ≤ 1 + 57 * r + 7 * pl) → ((sl31 : Int) ≤ 6 + 342 * r + 42 * pl) → ∀ (H : Heap) (locs : List Loc) (ls : Array Slot), va_P D vwCl ([(q12, aI cI 6 f31)] ++ ((XW cI cZ d σ κx31) ++ (SW cI cT cU ds σ ι))) H → va_D A ([(q12, aI cI 6 f31)] ++ ((XW cI cZ d σ κx31) ++ (SW cI cT cU ds σ ι))) → va_S A s.heap H locs → lv_has ls 13 [(9, .int (iI (pl))), (2, .int (iI (a2))), (8, .int (iI (c2))), (3, .int (iI (b2))), (7, .int (iI (r))), (6, .ref (q12)), (5, .int (iI (0))), (4, .int (iI (0))), (0, .ref (ds 0)), (1, .ref (d 0))] → W p l e ({ frames := 7, cells := 326, slots := 1940, locals := 116 } : Room) s m args below meth c H locs cl31 sl31 (MQ below (gQ D (tyA cI cZ cT cU cQ) (fun κ' => (XW cI cZ d σ κ') ++ (SW cI cT cU ds σ (κ' 2))) A (fun _ => some (.int (iI (1)))) (fun κ' => True)) args s 326 1940 A) (F0 m 31 ls []) := by
          intro n31
          induction n31 with
          | zero =>
            intro pl a2 c2 b2 κx31 f31 cl31 sl31 hlo31 hhi31 hm31
            omega
          | succ n31 ih31 =>
            intro pl a2 c2 b2 κx31 f31 cl31 sl31 hlo31 hhi31 hm31 ia31 ic31 ib31 if31 hcl31 hsl31 H locs ls hP hD hS hl
            have z1 := hz (r * 8 + pl)
            have z2 := hz (r * 8 + (7 - pl))
            have k4 := xWF_4 hwf (r * 8 + pl)
            have k5 := xWF_5 hwf (r * 8 + pl)
            have k6 := xWF_6 hwf (r * 8 + pl)
            have k7 := xWF_7 hwf (r * 8 + pl)
            have m4 := xWF_4 hwf (r * 8 + (7 - pl))
            have m5 := xWF_5 hwf (r * 8 + (7 - pl))
            refine lv_iload hx hb dX2_isSame_31 (lv_at hl 0 rfl) ?_
            refine lv_bipush (v := iI (8)) hx hb dX2_isSame_33 rfl ?_
            refine gi_icmp_ge (tgt := 316) hx hb dX2_isSame_35 (by decide) ⟨by omega, by omega⟩ ⟨by decide, by decide⟩ (fun c35 => ?_) (fun c35 => ?_)
            · skip
              refine lv_aload_n hx hb dX2_isSame_316 rfl (lv_at hl 9 rfl) ?_
              refine lv_iload hx hb dX2_isSame_317 (lv_at hl 4 rfl) ?_
              have hp9 : ((XW cI cZ d σ κx31) ++ ([(q12, aI cI 6 f31)] ++ (SW cI cT cU ds σ ι)) : va_W).Perm ([(q12, aI cI 6 f31)] ++ ((XW cI cZ d σ κx31) ++ (SW cI cT cU ds σ ι)) : va_W) := (List.perm_append_comm_assoc _ _ _)
              have hPc : va_P D vwCl ((XW cI cZ d σ κx31) ++ ([(q12, aI cI 6 f31)] ++ (SW cI cT cU ds σ ι))) H := va_mem hP (fun q9 hq9 => hp9.mem_iff.mp hq9)
              have hDc : va_D A ((XW cI cZ d σ κx31) ++ ([(q12, aI cI 6 f31)] ++ (SW cI cT cU ds σ ι))) := va_Dp hD hp9
              refine h_call0 (vx_runV (As := [.int (iI (r))]) (rest := []) S ((kX1_leans l hfl D cI cZ d σ κx31 r (by first | assumption | omega) (by first | assumption | omega) (by first | assumption | omega)) H.size) (cwV 1 hts gX2_isSame_X1_leans rfl rfl rfl (by decide +kernel) ⟨Nat.le_of_ble_eq_true rfl, Nat.le_of_ble_eq_true rfl⟩) (h_preV hK [0, 1] rfl hPc hDc hS hA hTE (q0 := 0) (ci := 1) rfl rfl rfl) rfl rfl hl.1 rfl (lv_room (Nat.le_of_ble_eq_true rfl)) dX2_isSame_319 ⟨by show cl31 + 1 ≤ 326; omega, by show sl31 + 6 ≤ 1940; omega⟩) hPc hDc hS hA (fun E h => (by have h0 : (tLeans r) = 0 := (by unfold tLeans; rw [if_neg (by omega)]); rcases h with ⟨_, h⟩ <;> omega)) (fun κ9 H locs hk hP hD hS => ?_)
              obtain ⟨z7, ezz7⟩ : ∃ z, z = κ9 := ⟨_, rfl⟩
              subst ezz7
              have hP : va_P D vwCl ((XW cI cZ d σ z7) ++ ([(q12, aI cI 6 f31)] ++ (SW cI cT cU ds σ ι))) H := hP
              have hD : va_D A ((XW cI cZ d σ z7) ++ ([(q12, aI cI 6 f31)] ++ (SW cI cT cU ds σ ι))) := hD
              have hp9 : ([(q12, aI cI 6 f31)] ++ ((XW cI cZ d σ z7) ++ (SW cI cT cU ds σ ι)) : va_W).Perm ((XW cI cZ d σ z7) ++ ([(q12, aI cI 6 f31)] ++ (SW cI cT cU ds σ ι)) : va_W) := (List.perm_append_comm_assoc _ _ _)
              have hP : va_P D vwCl ([(q12, aI cI 6 f31)] ++ ((XW cI cZ d σ z7) ++ (SW cI cT cU ds σ ι))) H := va_mem hP (fun q9 hq9 => hp9.mem_iff.mp hq9)
              have hD : va_D A ([(q12, aI cI 6 f31)] ++ ((XW cI cZ d σ z7) ++ (SW cI cT cU ds σ ι))) := va_Dp hD hp9
              show W p l e ({ frames := 7, cells := 326, slots := 1940, locals := 116 } : Room) s m args below meth c H locs (cl31 + 1) (sl31 + 6) (MQ below (gQ D (tyA cI cZ cT cU cQ) (fun κ' => (XW cI cZ d σ κ') ++ (SW cI cT cU ds σ (κ' 2))) A (fun _ => some (.int (iI (1)))) (fun κ' => True)) args s 326 1940 A) (F0 m 322 ls [.int (iI (xLeans σ r))])
              refine lv_iload hx hb dX2_isSame_322 (lv_at hl 2 rfl) ?_
              have el : xLeans σ r = c2 := by rw [ic31, show pl = 8 by omega]; exact (ln_e σ r).symm
              rw [show (c2 : Int) = (xLeans σ r) from by exact el.symm]
              refine gi_icmp_eq (tgt := 329) hx hb dX2_isSame_324 (by decide) (xLeansR hwf _) (xLeansR hwf _) (fun c324 => ?_) (fun c324 => ?_)
              · skip
                refine lv_iinc (v := iI (r + 1)) (lv' := [(7, .int (iI (r + 1))), (9, .int (iI (pl))), (2, .int (iI (a2))), (8, .int (iI (c2))), (3, .int (iI (b2))), (6, .ref (q12)), (5, .int (iI (0))), (4, .int (iI (0))), (0, .ref (ds 0)), (1, .ref (d 0))]) hx hb dX2_isSame_329 hl (k := 4) rfl (iI_add _ _) (by decide) rfl (fun ls hl => ?_)
                refine lv_goto (tgt := 19) hx hb dX2_isSame_332 (by decide) ?_
                exact ih19 (r + 1) a2 b2 z7 f31 (cl31 + 1) (sl31 + 6) (by omega) (by omega) (by omega) (by rw [ia31, show r * 8 + pl = (r + 1) * 8 by omega]) (by rw [isumI_s _ hlo19, ib31, show min pl 4 = 4 by omega]; rfl) (by intro s9 h0 h1; rw [if31 s9 h0 h1, show r * 8 + pl = (r + 1) * 8 by omega]) (by omega) (by omega) H locs ls hP hD hS (lv_sub hl [0, 2, 4, 5, 6, 7, 8, 9] rfl)
              · skip
                exact absurd rfl c324
            · skip
              have em : mir (r * 8 + pl) = r * 8 + (7 - pl) := by unfold mir; omega
              refine lv_aload_n hx hb dX2_isSame_38 rfl (lv_at hl 8 rfl) ?_
              refine va_get (D := D) (ci := 2) (v := .ref (ds 1)) (C := RX2) (T := TX2) (N := 8) hx hb hts hinX2 hown hK (g_right (g_right hP)) 0 rfl rfl 0 (by decide) (hts (.fieldLink RX2 9 "TwinOrchardLaw$Sim" "trees" "[[LTwinOrchardLaw$Tree;") (List.mem_of_getElem? (i := 2) rfl)) (fun _ h9 => h9) rfl dX2_isSame_39 ?_
              refine lv_iload hx hb dX2_isSame_42 (lv_at hl 4 rfl) ?_
              refine s_row (f := srt ds) hx hb hK (g_right (g_right hP)) 1 3 rfl rfl (by omega) (by omega) (by decide) (v := ds (r.toNat + 7)) (if_pos (by omega)) dX2_isSame_44 ?_
              refine lv_iload hx hb dX2_isSame_45 (lv_at hl 0 rfl) ?_
              refine s_tree (σ := σ) (ι := ι) (r := r) (i := pl) hx hb hK (g_right (g_right hP)) (r.toNat + 7) 2 (sw_row (by omega) (by omega)) rfl (by omega) (by omega) dX2_isSame_47 (fun ct47 => ?_) (fun ct47 => ?_)
              · skip
                refine lv_astoreN (lv' := [(10, .null), (9, .int (iI (pl))), (2, .int (iI (a2))), (8, .int (iI (c2))), (3, .int (iI (b2))), (7, .int (iI (r))), (6, .ref (q12)), (5, .int (iI (0))), (4, .int (iI (0))), (0, .ref (ds 0)), (1, .ref (d 0))]) hx hb dX2_isSame_48 hl (by decide) rfl (fun ls hl => ?_)
                refine lv_aloadN hx hb dX2_isSame_50 (lv_at hl 0 rfl) ?_
                refine lv_ifnonnullN hx hb dX2_isSame_52 ?_
                refine lv_bipush (v := iI (6)) hx hb dX2_isSame_55 rfl ?_
                refine va_newa (atype := .int) (ty := .int) (N' := 6) (a0 := (6, .inl (fun j : Nat => iI ((fun _ => 0 : Int → Int) (j : Int))))) hx hb (hts _ (List.mem_of_getElem? (i := 1) rfl)) rfl hK hP hD hS hA (fun _ => rfl) (by decide) rfl (Nat.le_of_ble_eq_true rfl) (by show cl31 + 1 ≤ 326; omega) (by show sl31 + 6 ≤ 1940; omega) dX2_isSame_57 (fun q57 cA H hK hP hD hS => ?_)
                have e9 : cI = cA := g_clsI hK 0 5 rfl rfl
                subst e9
                have hK : va_K D vwCl (tyA cI cZ cT cU cQ) s := hK.sub [0, 1, 2, 3, 4] rfl
                obtain ⟨hP, hD⟩ := g_swap hP hD
                have hP : va_P D vwCl ([(q57, aI cI 6 (fun _ => 0))] ++ ([(q12, aI cI 6 f31)] ++ ((XW cI cZ d σ κx31) ++ (SW cI cT cU ds σ ι)))) H := hP
                have hD : va_D A ([(q57, aI cI 6 (fun _ => 0))] ++ ([(q12, aI cI 6 f31)] ++ ((XW cI cZ d σ κx31) ++ (SW cI cT cU ds σ ι)))) := hD
                show W p l e ({ frames := 7, cells := 326, slots := 1940, locals := 116 } : Room) s m args below meth c H locs (cl31 + 1) (sl31 + 6) (MQ below (gQ D (tyA cI cZ cT cU cQ) (fun κ' => (XW cI cZ d σ κ') ++ (SW cI cT cU ds σ (κ' 2))) A (fun _ => some (.int (iI (1)))) (fun κ' => True)) args s 326 1940 A) (F0 m 59 ls [.ref (q57)])
                refine lv_dup hx hb dX2_isSame_59 rfl ?_
                refine lv_iconst (v := iI (0)) hx hb dX2_isSame_60 rfl ?_
                refine lv_iconst (v := iI (0)) hx hb dX2_isSame_61 rfl ?_
                refine gi_iast (a := q57) (n := 6) (f := fun _ => 0) hx hb hK hP hD hS 0 0 rfl rfl (by omega) (by omega) (by decide) dX2_isSame_62 (fun H locs hP hD hS => ?_)
                have hP : va_P D vwCl ([(q57, aI cI 6 (fu (fun _ => 0) 0 (0)))] ++ ([(q12, aI cI 6 f31)] ++ ((XW cI cZ d σ κx31) ++ (SW cI cT cU ds σ ι)))) H := hP
                have hD : va_D A ([(q57, aI cI 6 (fu (fun _ => 0) 0 (0)))] ++ ([(q12, aI cI 6 f31)] ++ ((XW cI cZ d σ κx31) ++ (SW cI cT cU ds σ ι)))) := hD
                refine lv_dup hx hb dX2_isSame_63 rfl ?_
                refine lv_iconst (v := iI (1)) hx hb dX2_isSame_64 rfl ?_
                refine lv_iconst (v := iI (0)) hx hb dX2_isSame_65 rfl ?_
                refine gi_iast (a := q57) (n := 6) (f := fu (fun _ => 0) 0 (0)) hx hb hK hP hD hS 0 0 rfl rfl (by omega) (by omega) (by decide) dX2_isSame_66 (fun H locs hP hD hS => ?_)
                have hP : va_P D vwCl ([(q57, aI cI 6 (fu (fu (fun _ => 0) 0 (0)) 1 (0)))] ++ ([(q12, aI cI 6 f31)] ++ ((XW cI cZ d σ κx31) ++ (SW cI cT cU ds σ ι)))) H := hP
                have hD : va_D A ([(q57, aI cI 6 (fu (fu (fun _ => 0) 0 (0)) 1 (0)))] ++ ([(q12, aI cI 6 f31)] ++ ((XW cI cZ d σ κx31) ++ (SW cI cT cU ds σ ι)))) := hD
                refine lv_dup hx hb dX2_isSame_67 rfl ?_
                refine lv_iconst (v := iI (2)) hx hb dX2_isSame_68 rfl ?_
                refine lv_iconst (v := iI (0)) hx hb dX2_isSame_69 rfl ?_
                refine gi_iast (a := q57) (n := 6) (f := fu (fu (fun _ => 0) 0 (0)) 1 (0)) hx hb hK hP hD hS 0 0 rfl rfl (by omega) (by omega) (by decide) dX2_isSame_70 (fun H locs hP hD hS => ?_)
                have hP : va_P D vwCl ([(q57, aI cI 6 (fu (fu (fu (fun _ => 0) 0 (0)) 1 (0)) 2 (0)))] ++ ([(q12, aI cI 6 f31)] ++ ((XW cI cZ d σ κx31) ++ (SW cI cT cU ds σ ι)))) H := hP
                have hD : va_D A ([(q57, aI cI 6 (fu (fu (fu (fun _ => 0) 0 (0)) 1 (0)) 2 (0)))] ++ ([(q12, aI cI 6 f31)] ++ ((XW cI cZ d σ κx31) ++ (SW cI cT cU ds σ ι)))) := hD
                refine lv_dup hx hb dX2_isSame_71 rfl ?_
                refine lv_iconst (v := iI (3)) hx hb dX2_isSame_72 rfl ?_
                refine lv_iconst (v := iI (-1)) hx hb dX2_isSame_73 rfl ?_
                refine gi_iast (a := q57) (n := 6) (f := fu (fu (fu (fun _ => 0) 0 (0)) 1 (0)) 2 (0)) hx hb hK hP hD hS 0 0 rfl rfl (by omega) (by omega) (by decide) dX2_isSame_74 (fun H locs hP hD hS => ?_)
                have hP : va_P D vwCl ([(q57, aI cI 6 (fu (fu (fu (fu (fun _ => 0) 0 (0)) 1 (0)) 2 (0)) 3 (-1)))] ++ ([(q12, aI cI 6 f31)] ++ ((XW cI cZ d σ κx31) ++ (SW cI cT cU ds σ ι)))) H := hP
                have hD : va_D A ([(q57, aI cI 6 (fu (fu (fu (fu (fun _ => 0) 0 (0)) 1 (0)) 2 (0)) 3 (-1)))] ++ ([(q12, aI cI 6 f31)] ++ ((XW cI cZ d σ κx31) ++ (SW cI cT cU ds σ ι)))) := hD
                refine lv_dup hx hb dX2_isSame_75 rfl ?_
                refine lv_iconst (v := iI (4)) hx hb dX2_isSame_76 rfl ?_
                refine lv_iconst (v := iI (0)) hx hb dX2_isSame_77 rfl ?_
                refine gi_iast (a := q57) (n := 6) (f := fu (fu (fu (fu (fun _ => 0) 0 (0)) 1 (0)) 2 (0)) 3 (-1)) hx hb hK hP hD hS 0 0 rfl rfl (by omega) (by omega) (by decide) dX2_isSame_78 (fun H locs hP hD hS => ?_)
                have hP : va_P D vwCl ([(q57, aI cI 6 (fu (fu (fu (fu (fu (fun _ => 0) 0 (0)) 1 (0)) 2 (0)) 3 (-1)) 4 (0)))] ++ ([(q12, aI cI 6 f31)] ++ ((XW cI cZ d σ κx31) ++ (SW cI cT cU ds σ ι)))) H := hP
                have hD : va_D A ([(q57, aI cI 6 (fu (fu (fu (fu (fu (fun _ => 0) 0 (0)) 1 (0)) 2 (0)) 3 (-1)) 4 (0)))] ++ ([(q12, aI cI 6 f31)] ++ ((XW cI cZ d σ κx31) ++ (SW cI cT cU ds σ ι)))) := hD
                refine lv_dup hx hb dX2_isSame_79 rfl ?_
                refine lv_iconst (v := iI (5)) hx hb dX2_isSame_80 rfl ?_
                refine lv_iconst (v := iI (0)) hx hb dX2_isSame_81 rfl ?_
                refine gi_iast (a := q57) (n := 6) (f := fu (fu (fu (fu (fu (fun _ => 0) 0 (0)) 1 (0)) 2 (0)) 3 (-1)) 4 (0)) hx hb hK hP hD hS 0 0 rfl rfl (by omega) (by omega) (by decide) dX2_isSame_82 (fun H locs hP hD hS => ?_)
                have hP : va_P D vwCl ([(q57, aI cI 6 (fu (fu (fu (fu (fu (fu (fun _ => 0) 0 (0)) 1 (0)) 2 (0)) 3 (-1)) 4 (0)) 5 (0)))] ++ ([(q12, aI cI 6 f31)] ++ ((XW cI cZ d σ κx31) ++ (SW cI cT cU ds σ ι)))) H := hP
                have hD : va_D A ([(q57, aI cI 6 (fu (fu (fu (fu (fu (fu (fun _ => 0) 0 (0)) 1 (0)) 2 (0)) 3 (-1)) 4 (0)) 5 (0)))] ++ ([(q12, aI cI 6 f31)] ++ ((XW cI cZ d σ κx31) ++ (SW cI cT cU ds σ ι)))) := hD
                refine lv_goto (tgt := 142) hx hb dX2_isSame_83 (by decide) ?_
                refine lv_astore (lv' := [(11, .ref (q57)), (10, .null), (9, .int (iI (pl))), (2, .int (iI (a2))), (8, .int (iI (c2))), (3, .int (iI (b2))), (7, .int (iI (r))), (6, .ref (q12)), (5, .int (iI (0))), (4, .int (iI (0))), (0, .ref (ds 0)), (1, .ref (d 0))]) hx hb dX2_isSame_142 hl (by decide) rfl (fun ls hl => ?_)
                obtain ⟨t0, t1, t2, t3, t4, t5⟩ := told_n ct47 hz
                have hf9 : ∀ w9 : Int, 0 ≤ w9 → w9 < 6 → (fu (fu (fu (fu (fu (fu (fun _ => 0) 0 (0)) 1 (0)) 2 (0)) 3 (-1)) 4 (0)) 5 (0)) w9 = xTree σ (r * 8 + pl) w9 := by intro w9 h0 h1; rcases (show w9 = 0 ∨ w9 = 1 ∨ w9 = 2 ∨ w9 = 3 ∨ w9 = 4 ∨ w9 = 5 by omega) with rfl | rfl | rfl | rfl | rfl | rfl; exact t0.symm; exact t1.symm; exact t2.symm; exact t3.symm; exact t4.symm; exact t5.symm
                have e5 : apx σ (r * 8 + pl) = 0 := t5
                refine lv_iconst (v := iI (0)) hx hb dX2_isSame_144 rfl ?_
                refine lv_istore (lv' := [(12, .int (iI (0))), (11, .ref (q57)), (10, .null), (9, .int (iI (pl))), (2, .int (iI (a2))), (8, .int (iI (c2))), (3, .int (iI (b2))), (7, .int (iI (r))), (6, .ref (q12)), (5, .int (iI (0))), (4, .int (iI (0))), (0, .ref (ds 0)), (1, .ref (d 0))]) hx hb dX2_isSame_145 hl (by decide) rfl (fun ls hl => ?_)
                have loop147 : ∀ (n147 : Nat) (w1 : Int) (κx147 : St) (cl147 sl147 : Nat), (0 ≤ w1) → (w1 ≤ 6) → (6 - w1 < (n147 : Int)) → ((cl147 : Int) ≤ 1 + 57 * r + 7 * pl + 1 + w1) → ((sl147 : Int) ≤ 6 + 342 * r + 42 * pl + 6 + 6 * w1) → ∀ (H : Heap) (locs : List Loc) (ls : Array Slot), va_P D vwCl ([(q57, aI cI 6 (fu (fu (fu (fu (fu (fu (fun _ => 0) 0 (0)) 1 (0)) 2 (0)) 3 (-1)) 4 (0)) 5 (0)))] ++ ([(q12, aI cI 6 f31)] ++ ((XW cI cZ d σ κx147) ++ (SW cI cT cU ds σ ι)))) H → va_D A ([(q57, aI cI 6 (fu (fu (fu (fu (fu (fu (fun _ => 0) 0 (0)) 1 (0)) 2 (0)) 3 (-1)) 4 (0)) 5 (0)))] ++ ([(q12, aI cI 6 f31)] ++ ((XW cI cZ d σ κx147) ++ (SW cI cT cU ds σ ι)))) → va_S A s.heap H locs → lv_has ls 13 [(12, .int (iI (w1))), (11, .ref (q57)), (10, .null), (9, .int (iI (pl))), (2, .int (iI (a2))), (8, .int (iI (c2))), (3, .int (iI (b2))), (7, .int (iI (r))), (6, .ref (q12)), (5, .int (iI (0))), (4, .int (iI (0))), (0, .ref (ds 0)), (1, .ref (d 0))] → W p l e ({ frames := 7, cells := 326, slots := 1940, locals := 116 } : Room) s m args below meth c H locs cl147 sl147 (MQ below (gQ D (tyA cI cZ cT cU cQ) (fun κ' => (XW cI cZ d σ κ') ++ (SW cI cT cU ds σ (κ' 2))) A (fun _ => some (.int (iI (1)))) (fun κ' => True)) args s 326 1940 A) (F0 m 147 ls []) := by
                  intro n147
                  induction n147 with
                  | zero =>
                    intro w1 κx147 cl147 sl147 hlo147 hhi147 hm147
                    omega
                  | succ n147 ih147 =>
                    intro w1 κx147 cl147 sl147 hlo147 hhi147 hm147 hcl147 hsl147 H locs ls hP hD hS hl
                    refine lv_iload hx hb dX2_isSame_147 (lv_at hl 0 rfl) ?_
                    refine lv_bipush (v := iI (6)) hx hb dX2_isSame_149 rfl ?_
                    refine gi_icmp_ge (tgt := 180) hx hb dX2_isSame_151 (by decide) ⟨by omega, by omega⟩ ⟨by decide, by decide⟩ (fun c151 => ?_) (fun c151 => ?_)
                    · skip
                      refine lv_iload_n hx hb dX2_isSame_180 rfl (lv_at hl 4 rfl) ?_
                      refine lv_aload hx hb dX2_isSame_181 (lv_at hl 1 rfl) ?_
                      refine lv_iconst (v := iI (0)) hx hb dX2_isSame_183 rfl ?_
                      refine gi_iald (a := (q57)) (n := 6) (f := fu (fu (fu (fu (fu (fu (fun _ => 0) 0 (0)) 1 (0)) 2 (0)) 3 (-1)) 4 (0)) 5 (0)) hx hb hK (g_left hP) 0 0 rfl rfl (by omega) (by omega) (by decide) dX2_isSame_184 ?_
                      rw [show ((fu (fu (fu (fu (fu (fu (fun _ => 0) 0 (0)) 1 (0)) 2 (0)) 3 (-1)) 4 (0)) 5 (0)) 0) = (0) from by simp [fu]]
                      refine gi_add hx hb dX2_isSame_185 ?_
                      refine lv_istore_n (lv' := [(2, .int (iI (a2 + 0))), (12, .int (iI (w1))), (11, .ref (q57)), (10, .null), (9, .int (iI (pl))), (8, .int (iI (c2))), (3, .int (iI (b2))), (7, .int (iI (r))), (6, .ref (q12)), (5, .int (iI (0))), (4, .int (iI (0))), (0, .ref (ds 0)), (1, .ref (d 0))]) hx hb dX2_isSame_186 rfl hl (by decide) rfl (fun ls hl => ?_)
                      refine lv_iload hx hb dX2_isSame_187 (lv_at hl 5 rfl) ?_
                      refine lv_iload hx hb dX2_isSame_189 (lv_at hl 4 rfl) ?_
                      refine lv_iconst (v := iI (4)) hx hb dX2_isSame_191 rfl ?_
                      refine gi_icmp_ge (tgt := 202) hx hb dX2_isSame_192 (by decide) ⟨by omega, by omega⟩ ⟨by decide, by decide⟩ (fun c192 => ?_) (fun c192 => ?_)
                      · skip
                        refine lv_aload hx hb dX2_isSame_202 (lv_at hl 2 rfl) ?_
                        refine lv_iconst (v := iI (5)) hx hb dX2_isSame_204 rfl ?_
                        refine gi_iald (a := (q57)) (n := 6) (f := fu (fu (fu (fu (fu (fu (fun _ => 0) 0 (0)) 1 (0)) 2 (0)) 3 (-1)) 4 (0)) 5 (0)) hx hb hK (g_left hP) 0 0 rfl rfl (by omega) (by omega) (by decide) dX2_isSame_205 ?_
                        rw [show ((fu (fu (fu (fu (fu (fu (fun _ => 0) 0 (0)) 1 (0)) 2 (0)) 3 (-1)) 4 (0)) 5 (0)) 5) = (0) from by simp [fu]]
                        refine gi_neg hx hb dX2_isSame_206 ?_
                        refine gi_add hx hb dX2_isSame_207 ?_
                        refine lv_istore (lv' := [(8, .int (iI (c2 + (-0)))), (2, .int (iI (a2 + 0))), (12, .int (iI (w1))), (11, .ref (q57)), (10, .null), (9, .int (iI (pl))), (3, .int (iI (b2))), (7, .int (iI (r))), (6, .ref (q12)), (5, .int (iI (0))), (4, .int (iI (0))), (0, .ref (ds 0)), (1, .ref (d 0))]) hx hb dX2_isSame_208 hl (by decide) rfl (fun ls hl => ?_)
                        refine lv_aloadN hx hb dX2_isSame_210 (lv_at hl 4 rfl) ?_
                        refine lv_ifnullN (tgt := 227) hx hb dX2_isSame_212 (by decide) ?_
                        refine lv_iload hx hb dX2_isSame_227 (lv_at hl 5 rfl) ?_
                        refine lv_iconst (v := iI (3)) hx hb dX2_isSame_229 rfl ?_
                        refine gi_icmp_le (tgt := 236) hx hb dX2_isSame_230 (by decide) ⟨by omega, by omega⟩ ⟨by decide, by decide⟩ (fun c230 => ?_) (fun c230 => ?_)
                        · skip
                          exfalso
                          omega
                        · skip
                          refine lv_goto (tgt := 310) hx hb dX2_isSame_233 (by decide) ?_
                          refine lv_iinc (v := iI (pl + 1)) (lv' := [(9, .int (iI (pl + 1))), (8, .int (iI (c2 + (-0)))), (2, .int (iI (a2 + 0))), (12, .int (iI (w1))), (11, .ref (q57)), (10, .null), (3, .int (iI (b2))), (7, .int (iI (r))), (6, .ref (q12)), (5, .int (iI (0))), (4, .int (iI (0))), (0, .ref (ds 0)), (1, .ref (d 0))]) hx hb dX2_isSame_310 hl (k := 5) rfl (iI_add _ _) (by decide) rfl (fun ls hl => ?_)
                          refine lv_goto (tgt := 31) hx hb dX2_isSame_313 (by decide) ?_
                          have hP := g_right hP
                          have hD := g_Dright hD
                          have hP : va_P D vwCl ([(q12, aI cI 6 f31)] ++ ((XW cI cZ d σ κx147) ++ (SW cI cT cU ds σ ι))) H := hP
                          have hD : va_D A ([(q12, aI cI 6 f31)] ++ ((XW cI cZ d σ κx147) ++ (SW cI cT cU ds σ ι))) := hD
                          exact ih31 (pl + 1) (a2 + 0) (c2 + (-0)) b2 κx147 f31 cl147 sl147 (by omega) (by omega) (by omega) (by rw [← Int.add_assoc, isumI_s _ (by omega), ← ia31]; show _ = _ + bI (¬ σ 4 (r * 8 + pl) = -1); first | (rw [bI_t ct47]; done) | (rw [bI_f (fun q => q ct47)]; done)) (by rw [isumI_s _ hlo31, ← ic31]; unfold lnF; first | (rw [if_pos (by omega), e5]; done) | (rw [if_neg (by omega), e5]; done)) (by first | (rw [show min (pl + 1) 4 = pl + 1 by omega, isumI_s _ hlo31, ib31, show min pl 4 = pl by omega, eu]; omega) | (rw [show min (pl + 1) 4 = min pl 4 by omega]; exact ib31)) (by intro s9 h0 h1; rw [← Int.add_assoc, isumI_s _ (by omega), ← if31 s9 h0 h1]; show _ = _ + bI (σ 4 (r * 8 + pl) = s9); first | (rw [bI_f (by omega)]; omega) | (unfold fu; by_cases e9 : s9 = σ 4 (r * 8 + pl); rw [if_pos e9, bI_t e9.symm, e9]; (rw [if_neg e9, bI_f (fun q => e9 q.symm)]; omega))) (by omega) (by omega) H locs ls hP hD hS (lv_sub hl [0, 2, 1, 6, 7, 8, 9, 10, 11, 12] rfl)
                      · skip
                        refine lv_aload hx hb dX2_isSame_195 (lv_at hl 2 rfl) ?_
                        refine lv_iconst (v := iI (5)) hx hb dX2_isSame_197 rfl ?_
                        refine gi_iald (a := (q57)) (n := 6) (f := fu (fu (fu (fu (fu (fu (fun _ => 0) 0 (0)) 1 (0)) 2 (0)) 3 (-1)) 4 (0)) 5 (0)) hx hb hK (g_left hP) 0 0 rfl rfl (by omega) (by omega) (by decide) dX2_isSame_198 ?_
                        rw [show ((fu (fu (fu (fu (fu (fu (fun _ => 0) 0 (0)) 1 (0)) 2 (0)) 3 (-1)) 4 (0)) 5 (0)) 5) = (0) from by simp [fu]]
                        refine lv_goto (tgt := 207) hx hb dX2_isSame_199 (by decide) ?_
                        refine gi_add hx hb dX2_isSame_207 ?_
                        refine lv_istore (lv' := [(8, .int (iI (c2 + 0))), (2, .int (iI (a2 + 0))), (12, .int (iI (w1))), (11, .ref (q57)), (10, .null), (9, .int (iI (pl))), (3, .int (iI (b2))), (7, .int (iI (r))), (6, .ref (q12)), (5, .int (iI (0))), (4, .int (iI (0))), (0, .ref (ds 0)), (1, .ref (d 0))]) hx hb dX2_isSame_208 hl (by decide) rfl (fun ls hl => ?_)
                        refine lv_aloadN hx hb dX2_isSame_210 (lv_at hl 4 rfl) ?_
                        refine lv_ifnullN (tgt := 227) hx hb dX2_isSame_212 (by decide) ?_
                        refine lv_iload hx hb dX2_isSame_227 (lv_at hl 5 rfl) ?_
                        refine lv_iconst (v := iI (3)) hx hb dX2_isSame_229 rfl ?_
                        refine gi_icmp_le (tgt := 236) hx hb dX2_isSame_230 (by decide) ⟨by omega, by omega⟩ ⟨by decide, by decide⟩ (fun c230 => ?_) (fun c230 => ?_)
                        · skip
                          refine lv_aload_n hx hb dX2_isSame_236 rfl (lv_at hl 11 rfl) ?_
                          refine va_get (D := D) (ci := 2) (v := .ref (ds 1)) (C := RX2) (T := TX2) (N := 8) hx hb hts hinX2 hown hK (g_right (g_right (g_right hP))) 0 rfl rfl 0 (by decide) (hts (.fieldLink RX2 9 "TwinOrchardLaw$Sim" "trees" "[[LTwinOrchardLaw$Tree;") (List.mem_of_getElem? (i := 2) rfl)) (fun _ h9 => h9) rfl dX2_isSame_237 ?_
                          refine lv_iload hx hb dX2_isSame_240 (lv_at hl 7 rfl) ?_
                          refine s_row (f := srt ds) hx hb hK (g_right (g_right (g_right hP))) 1 3 rfl rfl (by omega) (by omega) (by decide) (v := ds (r.toNat + 7)) (if_pos (by omega)) dX2_isSame_242 ?_
                          refine lv_bipush (v := iI (7)) hx hb dX2_isSame_243 rfl ?_
                          refine lv_iload hx hb dX2_isSame_245 (lv_at hl 5 rfl) ?_
                          refine gi_sub hx hb dX2_isSame_247 ?_
                          refine s_tree (σ := σ) (ι := ι) (r := r) (i := 7 - pl) hx hb hK (g_right (g_right (g_right hP))) (r.toNat + 7) 2 (sw_row (by omega) (by omega)) rfl (by omega) (by omega) dX2_isSame_248 (fun ct248 => ?_) (fun ct248 => ?_)
                          · skip
                            refine lv_astoreN (lv' := [(12, .null), (8, .int (iI (c2 + 0))), (2, .int (iI (a2 + 0))), (11, .ref (q57)), (10, .null), (9, .int (iI (pl))), (3, .int (iI (b2))), (7, .int (iI (r))), (6, .ref (q12)), (5, .int (iI (0))), (4, .int (iI (0))), (0, .ref (ds 0)), (1, .ref (d 0))]) hx hb dX2_isSame_249 hl (by decide) rfl (fun ls hl => ?_)
                            refine lv_iload_n hx hb dX2_isSame_251 rfl (lv_at hl 6 rfl) ?_
                            refine lv_aloadN hx hb dX2_isSame_252 (lv_at hl 4 rfl) ?_
                            refine lv_ifnullN (tgt := 262) hx hb dX2_isSame_254 (by decide) ?_
                            refine lv_aloadN hx hb dX2_isSame_262 (lv_at hl 4 rfl) ?_
                            refine lv_aloadN hx hb dX2_isSame_264 (lv_at hl 0 rfl) ?_
                            refine lv_acmp_ne (rx := none) (ry := none) (tgt := 273) hx hb dX2_isSame_266 (by decide) (fun c266 => ?_) (fun c266 => ?_)
                            · skip
                              exact absurd rfl c266
                            · skip
                              refine lv_iconst (v := iI (0)) hx hb dX2_isSame_269 rfl ?_
                              refine lv_goto (tgt := 308) hx hb dX2_isSame_270 (by decide) ?_
                              have eu : upr σ r pl = 0 := by unfold upr; rw [em]; first | exact bI_t (by omega) | exact bI_f (by omega)
                              refine gi_add hx hb dX2_isSame_308 ?_
                              refine lv_istore_n (lv' := [(3, .int (iI (b2 + 0))), (12, .null), (8, .int (iI (c2 + 0))), (2, .int (iI (a2 + 0))), (11, .ref (q57)), (10, .null), (9, .int (iI (pl))), (7, .int (iI (r))), (6, .ref (q12)), (5, .int (iI (0))), (4, .int (iI (0))), (0, .ref (ds 0)), (1, .ref (d 0))]) hx hb dX2_isSame_309 rfl hl (by decide) rfl (fun ls hl => ?_)
                              refine lv_iinc (v := iI (pl + 1)) (lv' := [(9, .int (iI (pl + 1))), (3, .int (iI (b2 + 0))), (12, .null), (8, .int (iI (c2 + 0))), (2, .int (iI (a2 + 0))), (11, .ref (q57)), (10, .null), (7, .int (iI (r))), (6, .ref (q12)), (5, .int (iI (0))), (4, .int (iI (0))), (0, .ref (ds 0)), (1, .ref (d 0))]) hx hb dX2_isSame_310 hl (k := 6) rfl (iI_add _ _) (by decide) rfl (fun ls hl => ?_)
                              refine lv_goto (tgt := 31) hx hb dX2_isSame_313 (by decide) ?_
                              have hP := g_right hP
                              have hD := g_Dright hD
                              have hP : va_P D vwCl ([(q12, aI cI 6 f31)] ++ ((XW cI cZ d σ κx147) ++ (SW cI cT cU ds σ ι))) H := hP
                              have hD : va_D A ([(q12, aI cI 6 f31)] ++ ((XW cI cZ d σ κx147) ++ (SW cI cT cU ds σ ι))) := hD
                              exact ih31 (pl + 1) (a2 + 0) (c2 + 0) (b2 + 0) κx147 f31 cl147 sl147 (by omega) (by omega) (by omega) (by rw [← Int.add_assoc, isumI_s _ (by omega), ← ia31]; show _ = _ + bI (¬ σ 4 (r * 8 + pl) = -1); first | (rw [bI_t ct47]; done) | (rw [bI_f (fun q => q ct47)]; done)) (by rw [isumI_s _ hlo31, ← ic31]; unfold lnF; first | (rw [if_pos (by omega), e5]; done) | (rw [if_neg (by omega), e5]; done)) (by first | (rw [show min (pl + 1) 4 = pl + 1 by omega, isumI_s _ hlo31, ib31, show min pl 4 = pl by omega, eu]; omega) | (rw [show min (pl + 1) 4 = min pl 4 by omega]; exact ib31)) (by intro s9 h0 h1; rw [← Int.add_assoc, isumI_s _ (by omega), ← if31 s9 h0 h1]; show _ = _ + bI (σ 4 (r * 8 + pl) = s9); first | (rw [bI_f (by omega)]; omega) | (unfold fu; by_cases e9 : s9 = σ 4 (r * 8 + pl); rw [if_pos e9, bI_t e9.symm, e9]; (rw [if_neg e9, bI_f (fun q => e9 q.symm)]; omega))) (by omega) (by omega) H locs ls hP hD hS (lv_sub hl [0, 4, 3, 1, 7, 8, 9, 10, 11, 12] rfl)
                          · skip
                            refine lv_astore (lv' := [(12, .ref (ι (r * 8 + (7 - pl))).toNat), (8, .int (iI (c2 + 0))), (2, .int (iI (a2 + 0))), (11, .ref (q57)), (10, .null), (9, .int (iI (pl))), (3, .int (iI (b2))), (7, .int (iI (r))), (6, .ref (q12)), (5, .int (iI (0))), (4, .int (iI (0))), (0, .ref (ds 0)), (1, .ref (d 0))]) hx hb dX2_isSame_249 hl (by decide) rfl (fun ls hl => ?_)
                            refine lv_iload_n hx hb dX2_isSame_251 rfl (lv_at hl 6 rfl) ?_
                            refine lv_aloadN hx hb dX2_isSame_252 (lv_at hl 4 rfl) ?_
                            refine lv_ifnullN (tgt := 262) hx hb dX2_isSame_254 (by decide) ?_
                            refine lv_aloadN hx hb dX2_isSame_262 (lv_at hl 4 rfl) ?_
                            refine lv_aload hx hb dX2_isSame_264 (lv_at hl 0 rfl) ?_
                            refine lv_acmp_ne (rx := none) (ry := (some (ι (r * 8 + (7 - pl))).toNat)) (tgt := 273) hx hb dX2_isSame_266 (by decide) (fun c266 => ?_) (fun c266 => ?_)
                            · skip
                              refine lv_iconst (v := iI (1)) hx hb dX2_isSame_273 rfl ?_
                              refine lv_goto (tgt := 308) hx hb dX2_isSame_274 (by decide) ?_
                              have eu : upr σ r pl = 1 := by unfold upr; rw [em]; first | exact bI_t (by omega) | exact bI_f (by omega)
                              refine gi_add hx hb dX2_isSame_308 ?_
                              refine lv_istore_n (lv' := [(3, .int (iI (b2 + 1))), (12, .ref (ι (r * 8 + (7 - pl))).toNat), (8, .int (iI (c2 + 0))), (2, .int (iI (a2 + 0))), (11, .ref (q57)), (10, .null), (9, .int (iI (pl))), (7, .int (iI (r))), (6, .ref (q12)), (5, .int (iI (0))), (4, .int (iI (0))), (0, .ref (ds 0)), (1, .ref (d 0))]) hx hb dX2_isSame_309 rfl hl (by decide) rfl (fun ls hl => ?_)
                              refine lv_iinc (v := iI (pl + 1)) (lv' := [(9, .int (iI (pl + 1))), (3, .int (iI (b2 + 1))), (12, .ref (ι (r * 8 + (7 - pl))).toNat), (8, .int (iI (c2 + 0))), (2, .int (iI (a2 + 0))), (11, .ref (q57)), (10, .null), (7, .int (iI (r))), (6, .ref (q12)), (5, .int (iI (0))), (4, .int (iI (0))), (0, .ref (ds 0)), (1, .ref (d 0))]) hx hb dX2_isSame_310 hl (k := 6) rfl (iI_add _ _) (by decide) rfl (fun ls hl => ?_)
                              refine lv_goto (tgt := 31) hx hb dX2_isSame_313 (by decide) ?_
                              have hP := g_right hP
                              have hD := g_Dright hD
                              have hP : va_P D vwCl ([(q12, aI cI 6 f31)] ++ ((XW cI cZ d σ κx147) ++ (SW cI cT cU ds σ ι))) H := hP
                              have hD : va_D A ([(q12, aI cI 6 f31)] ++ ((XW cI cZ d σ κx147) ++ (SW cI cT cU ds σ ι))) := hD
                              exact ih31 (pl + 1) (a2 + 0) (c2 + 0) (b2 + 1) κx147 f31 cl147 sl147 (by omega) (by omega) (by omega) (by rw [← Int.add_assoc, isumI_s _ (by omega), ← ia31]; show _ = _ + bI (¬ σ 4 (r * 8 + pl) = -1); first | (rw [bI_t ct47]; done) | (rw [bI_f (fun q => q ct47)]; done)) (by rw [isumI_s _ hlo31, ← ic31]; unfold lnF; first | (rw [if_pos (by omega), e5]; done) | (rw [if_neg (by omega), e5]; done)) (by first | (rw [show min (pl + 1) 4 = pl + 1 by omega, isumI_s _ hlo31, ib31, show min pl 4 = pl by omega, eu]; omega) | (rw [show min (pl + 1) 4 = min pl 4 by omega]; exact ib31)) (by intro s9 h0 h1; rw [← Int.add_assoc, isumI_s _ (by omega), ← if31 s9 h0 h1]; show _ = _ + bI (σ 4 (r * 8 + pl) = s9); first | (rw [bI_f (by omega)]; omega) | (unfold fu; by_cases e9 : s9 = σ 4 (r * 8 + pl); rw [if_pos e9, bI_t e9.symm, e9]; (rw [if_neg e9, bI_f (fun q => e9 q.symm)]; omega))) (by omega) (by omega) H locs ls hP hD hS (lv_sub hl [0, 4, 3, 1, 7, 8, 9, 10, 11, 12] rfl)
                            · skip
                              exact absurd c266 (by intro h9; cases h9)
                        · skip
                          exfalso
                          omega
                    · skip
                      refine lv_aload_n hx hb dX2_isSame_154 rfl (lv_at hl 12 rfl) ?_
                      refine lv_iload hx hb dX2_isSame_155 (lv_at hl 7 rfl) ?_
                      refine lv_iload hx hb dX2_isSame_157 (lv_at hl 3 rfl) ?_
                      refine lv_iload hx hb dX2_isSame_159 (lv_at hl 0 rfl) ?_
                      have hp9 : ((XW cI cZ d σ κx147) ++ ([(q57, aI cI 6 (fu (fu (fu (fu (fu (fu (fun _ => 0) 0 (0)) 1 (0)) 2 (0)) 3 (-1)) 4 (0)) 5 (0)))] ++ ([(q12, aI cI 6 f31)] ++ (SW cI cT cU ds σ ι))) : va_W).Perm ([(q57, aI cI 6 (fu (fu (fu (fu (fu (fu (fun _ => 0) 0 (0)) 1 (0)) 2 (0)) 3 (-1)) 4 (0)) 5 (0)))] ++ ([(q12, aI cI 6 f31)] ++ ((XW cI cZ d σ κx147) ++ (SW cI cT cU ds σ ι))) : va_W) := ((List.perm_append_comm_assoc _ _ _)).trans ((List.Perm.append_left _ (List.perm_append_comm_assoc _ _ _)))
                      have hPc : va_P D vwCl ((XW cI cZ d σ κx147) ++ ([(q57, aI cI 6 (fu (fu (fu (fu (fu (fu (fun _ => 0) 0 (0)) 1 (0)) 2 (0)) 3 (-1)) 4 (0)) 5 (0)))] ++ ([(q12, aI cI 6 f31)] ++ (SW cI cT cU ds σ ι)))) H := va_mem hP (fun q9 hq9 => hp9.mem_iff.mp hq9)
                      have hDc : va_D A ((XW cI cZ d σ κx147) ++ ([(q57, aI cI 6 (fu (fu (fu (fu (fu (fu (fun _ => 0) 0 (0)) 1 (0)) 2 (0)) 3 (-1)) 4 (0)) 5 (0)))] ++ ([(q12, aI cI 6 f31)] ++ (SW cI cT cU ds σ ι)))) := va_Dp hD hp9
                      refine h_call0 (vx_runV (As := [.int (iI (r)), .int (iI (pl)), .int (iI (w1))]) (rest := []) S ((kX1_tree l hfl D cI cZ d σ κx147 r pl w1 (by first | assumption | omega) (by first | assumption | omega) (by first | assumption | omega) (by first | assumption | omega) (by first | assumption | omega) (by first | assumption | omega) (by first | assumption | omega)) H.size) (cwV 3 hts gX2_isSame_X1_tree rfl rfl rfl (by decide +kernel) ⟨Nat.le_of_ble_eq_true rfl, Nat.le_of_ble_eq_true rfl⟩) (h_preV hK [0, 1] rfl hPc hDc hS hA hTE (q0 := 0) (ci := 1) rfl rfl rfl) rfl rfl hl.1 rfl (lv_room (Nat.le_of_ble_eq_true rfl)) dX2_isSame_161 ⟨by show cl147 + 1 ≤ 326; omega, by show sl147 + 6 ≤ 1940; omega⟩) hPc hDc hS hA (fun E h => (by have h0 : (tTree r pl w1) = 0 := (by unfold tTree; rw [if_neg (by omega)]); rcases h with ⟨_, h⟩ <;> omega)) (fun κ9 H locs hk hP hD hS => ?_)
                      obtain ⟨z8, ezz8⟩ : ∃ z, z = κ9 := ⟨_, rfl⟩
                      subst ezz8
                      have hP : va_P D vwCl ((XW cI cZ d σ z8) ++ ([(q57, aI cI 6 (fu (fu (fu (fu (fu (fu (fun _ => 0) 0 (0)) 1 (0)) 2 (0)) 3 (-1)) 4 (0)) 5 (0)))] ++ ([(q12, aI cI 6 f31)] ++ (SW cI cT cU ds σ ι)))) H := hP
                      have hD : va_D A ((XW cI cZ d σ z8) ++ ([(q57, aI cI 6 (fu (fu (fu (fu (fu (fu (fun _ => 0) 0 (0)) 1 (0)) 2 (0)) 3 (-1)) 4 (0)) 5 (0)))] ++ ([(q12, aI cI 6 f31)] ++ (SW cI cT cU ds σ ι)))) := hD
                      have hp9 : ([(q57, aI cI 6 (fu (fu (fu (fu (fu (fu (fun _ => 0) 0 (0)) 1 (0)) 2 (0)) 3 (-1)) 4 (0)) 5 (0)))] ++ ([(q12, aI cI 6 f31)] ++ ((XW cI cZ d σ z8) ++ (SW cI cT cU ds σ ι))) : va_W).Perm ((XW cI cZ d σ z8) ++ ([(q57, aI cI 6 (fu (fu (fu (fu (fu (fu (fun _ => 0) 0 (0)) 1 (0)) 2 (0)) 3 (-1)) 4 (0)) 5 (0)))] ++ ([(q12, aI cI 6 f31)] ++ (SW cI cT cU ds σ ι))) : va_W) := ((List.Perm.append_left _ (List.perm_append_comm_assoc _ _ _))).trans ((List.perm_append_comm_assoc _ _ _))
                      have hP : va_P D vwCl ([(q57, aI cI 6 (fu (fu (fu (fu (fu (fu (fun _ => 0) 0 (0)) 1 (0)) 2 (0)) 3 (-1)) 4 (0)) 5 (0)))] ++ ([(q12, aI cI 6 f31)] ++ ((XW cI cZ d σ z8) ++ (SW cI cT cU ds σ ι)))) H := va_mem hP (fun q9 hq9 => hp9.mem_iff.mp hq9)
                      have hD : va_D A ([(q57, aI cI 6 (fu (fu (fu (fu (fu (fu (fun _ => 0) 0 (0)) 1 (0)) 2 (0)) 3 (-1)) 4 (0)) 5 (0)))] ++ ([(q12, aI cI 6 f31)] ++ ((XW cI cZ d σ z8) ++ (SW cI cT cU ds σ ι)))) := va_Dp hD hp9
                      show W p l e ({ frames := 7, cells := 326, slots := 1940, locals := 116 } : Room) s m args below meth c H locs (cl147 + 1) (sl147 + 6) (MQ below (gQ D (tyA cI cZ cT cU cQ) (fun κ' => (XW cI cZ d σ κ') ++ (SW cI cT cU ds σ (κ' 2))) A (fun _ => some (.int (iI (1)))) (fun κ' => True)) args s 326 1940 A) (F0 m 164 ls [.int (iI (xTree σ (r * 8 + pl) w1))])
                      refine lv_aload hx hb dX2_isSame_164 (lv_at hl 1 rfl) ?_
                      refine lv_iload hx hb dX2_isSame_166 (lv_at hl 0 rfl) ?_
                      refine gi_iald (a := (q57)) (n := 6) (f := fu (fu (fu (fu (fu (fu (fun _ => 0) 0 (0)) 1 (0)) 2 (0)) 3 (-1)) 4 (0)) 5 (0)) hx hb hK (g_left hP) 0 0 rfl rfl (by omega) (by omega) (by decide) dX2_isSame_168 ?_
                      rw [show ((fu (fu (fu (fu (fu (fu (fun _ => 0) 0 (0)) 1 (0)) 2 (0)) 3 (-1)) 4 (0)) 5 (0)) w1 : Int) = (xTree σ (r * 8 + pl) w1) from by exact hf9 w1 (by omega) (by omega)]
                      refine gi_icmp_eq (tgt := 174) hx hb dX2_isSame_169 (by decide) (xTreeR hwf _ _) (xTreeR hwf _ _) (fun c169 => ?_) (fun c169 => ?_)
                      · skip
                        refine lv_iinc (v := iI (w1 + 1)) (lv' := [(12, .int (iI (w1 + 1))), (11, .ref (q57)), (10, .null), (9, .int (iI (pl))), (2, .int (iI (a2))), (8, .int (iI (c2))), (3, .int (iI (b2))), (7, .int (iI (r))), (6, .ref (q12)), (5, .int (iI (0))), (4, .int (iI (0))), (0, .ref (ds 0)), (1, .ref (d 0))]) hx hb dX2_isSame_174 hl (k := 0) rfl (iI_add _ _) (by decide) rfl (fun ls hl => ?_)
                        refine lv_goto (tgt := 147) hx hb dX2_isSame_177 (by decide) ?_
                        exact ih147 (w1 + 1) z8 (cl147 + 1) (sl147 + 6) (by omega) (by omega) (by omega) (by omega) (by omega) H locs ls hP hD hS (lv_sub hl [0, 1, 2, 3, 4, 5, 6, 7, 8, 9, 10, 11, 12] rfl)
                      · skip
                        exact absurd rfl c169
                exact loop147 (((6 - (0) + 1 : Int)).toNat) 0 κx31 (cl31 + 1) (sl31 + 6) (by omega) (by omega) (by omega) (by omega) (by omega) H locs ls hP hD hS (lv_sub hl [0, 1, 2, 3, 4, 5, 6, 7, 8, 9, 10, 11, 12] rfl)
              · skip
                refine lv_astore (lv' := [(10, .ref (ι (r * 8 + pl)).toNat), (9, .int (iI (pl))), (2, .int (iI (a2))), (8, .int (iI (c2))), (3, .int (iI (b2))), (7, .int (iI (r))), (6, .ref (q12)), (5, .int (iI (0))), (4, .int (iI (0))), (0, .ref (ds 0)), (1, .ref (d 0))]) hx hb dX2_isSame_48 hl (by decide) rfl (fun ls hl => ?_)
                refine lv_aload hx hb dX2_isSame_50 (lv_at hl 0 rfl) ?_
                refine lv_ifnonnull (tgt := 86) hx hb dX2_isSame_52 (by decide) ?_
                refine lv_bipush (v := iI (6)) hx hb dX2_isSame_86 rfl ?_
                refine va_newa (atype := .int) (ty := .int) (N' := 6) (a0 := (6, .inl (fun j : Nat => iI ((fun _ => 0 : Int → Int) (j : Int))))) hx hb (hts _ (List.mem_of_getElem? (i := 1) rfl)) rfl hK hP hD hS hA (fun _ => rfl) (by decide) rfl (Nat.le_of_ble_eq_true rfl) (by show cl31 + 1 ≤ 326; omega) (by show sl31 + 6 ≤ 1940; omega) dX2_isSame_88 (fun q88 cA H hK hP hD hS => ?_)
                have e9 : cI = cA := g_clsI hK 0 5 rfl rfl
                subst e9
                have hK : va_K D vwCl (tyA cI cZ cT cU cQ) s := hK.sub [0, 1, 2, 3, 4] rfl
                obtain ⟨hP, hD⟩ := g_swap hP hD
                have hP : va_P D vwCl ([(q88, aI cI 6 (fun _ => 0))] ++ ([(q12, aI cI 6 f31)] ++ ((XW cI cZ d σ κx31) ++ (SW cI cT cU ds σ ι)))) H := hP
                have hD : va_D A ([(q88, aI cI 6 (fun _ => 0))] ++ ([(q12, aI cI 6 f31)] ++ ((XW cI cZ d σ κx31) ++ (SW cI cT cU ds σ ι)))) := hD
                show W p l e ({ frames := 7, cells := 326, slots := 1940, locals := 116 } : Room) s m args below meth c H locs (cl31 + 1) (sl31 + 6) (MQ below (gQ D (tyA cI cZ cT cU cQ) (fun κ' => (XW cI cZ d σ κ') ++ (SW cI cT cU ds σ (κ' 2))) A (fun _ => some (.int (iI (1)))) (fun κ' => True)) args s 326 1940 A) (F0 m 90 ls [.ref (q88)])
                refine lv_dup hx hb dX2_isSame_90 rfl ?_
                refine lv_iconst (v := iI (0)) hx hb dX2_isSame_91 rfl ?_
                refine lv_iconst (v := iI (1)) hx hb dX2_isSame_92 rfl ?_
                refine gi_iast (a := q88) (n := 6) (f := fun _ => 0) hx hb hK hP hD hS 0 0 rfl rfl (by omega) (by omega) (by decide) dX2_isSame_93 (fun H locs hP hD hS => ?_)
                have hP : va_P D vwCl ([(q88, aI cI 6 (fu (fun _ => 0) 0 (1)))] ++ ([(q12, aI cI 6 f31)] ++ ((XW cI cZ d σ κx31) ++ (SW cI cT cU ds σ ι)))) H := hP
                have hD : va_D A ([(q88, aI cI 6 (fu (fun _ => 0) 0 (1)))] ++ ([(q12, aI cI 6 f31)] ++ ((XW cI cZ d σ κx31) ++ (SW cI cT cU ds σ ι)))) := hD
                refine lv_dup hx hb dX2_isSame_94 rfl ?_
                refine lv_iconst (v := iI (1)) hx hb dX2_isSame_95 rfl ?_
                refine lv_aload hx hb dX2_isSame_96 (lv_at hl 0 rfl) ?_
                refine va_get (D := D) (ci := 3) (v := .int (iI (σ 5 (r * 8 + pl)))) (C := RX3) (T := TX3) (N := 4) hx hb hts hinX3 hown hK (g_right (g_right (g_right hP))) (spos σ ι (r * 8 + pl)) (sw_at ct47 (by omega) (by omega)) rfl 0 (by decide) (hts (.fieldLink RX2 41 "TwinOrchardLaw$Tree" "branches" "I") (List.mem_of_getElem? (i := 3) rfl)) (fun _ h9 => h9) rfl dX2_isSame_98 ?_
                refine gi_iast (a := q88) (n := 6) (f := fu (fun _ => 0) 0 (1)) hx hb hK hP hD hS 0 0 rfl rfl (by omega) (by omega) (by decide) dX2_isSame_101 (fun H locs hP hD hS => ?_)
                have hP : va_P D vwCl ([(q88, aI cI 6 (fu (fu (fun _ => 0) 0 (1)) 1 (σ 5 (r * 8 + pl))))] ++ ([(q12, aI cI 6 f31)] ++ ((XW cI cZ d σ κx31) ++ (SW cI cT cU ds σ ι)))) H := hP
                have hD : va_D A ([(q88, aI cI 6 (fu (fu (fun _ => 0) 0 (1)) 1 (σ 5 (r * 8 + pl))))] ++ ([(q12, aI cI 6 f31)] ++ ((XW cI cZ d σ κx31) ++ (SW cI cT cU ds σ ι)))) := hD
                refine lv_dup hx hb dX2_isSame_102 rfl ?_
                refine lv_iconst (v := iI (2)) hx hb dX2_isSame_103 rfl ?_
                refine lv_aload hx hb dX2_isSame_104 (lv_at hl 0 rfl) ?_
                refine va_get (D := D) (ci := 3) (v := .int (iI (σ 6 (r * 8 + pl)))) (C := RX3) (T := TX3) (N := 4) hx hb hts hinX3 hown hK (g_right (g_right (g_right hP))) (spos σ ι (r * 8 + pl)) (sw_at ct47 (by omega) (by omega)) rfl 1 (by decide) (hts (.fieldLink RX2 48 "TwinOrchardLaw$Tree" "vigour" "I") (List.mem_of_getElem? (i := 4) rfl)) (fun _ h9 => h9) rfl dX2_isSame_106 ?_
                refine gi_iast (a := q88) (n := 6) (f := fu (fu (fun _ => 0) 0 (1)) 1 (σ 5 (r * 8 + pl))) hx hb hK hP hD hS 0 0 rfl rfl (by omega) (by omega) (by decide) dX2_isSame_109 (fun H locs hP hD hS => ?_)
                have hP : va_P D vwCl ([(q88, aI cI 6 (fu (fu (fu (fun _ => 0) 0 (1)) 1 (σ 5 (r * 8 + pl))) 2 (σ 6 (r * 8 + pl))))] ++ ([(q12, aI cI 6 f31)] ++ ((XW cI cZ d σ κx31) ++ (SW cI cT cU ds σ ι)))) H := hP
                have hD : va_D A ([(q88, aI cI 6 (fu (fu (fu (fun _ => 0) 0 (1)) 1 (σ 5 (r * 8 + pl))) 2 (σ 6 (r * 8 + pl))))] ++ ([(q12, aI cI 6 f31)] ++ ((XW cI cZ d σ κx31) ++ (SW cI cT cU ds σ ι)))) := hD
                refine lv_dup hx hb dX2_isSame_110 rfl ?_
                refine lv_iconst (v := iI (3)) hx hb dX2_isSame_111 rfl ?_
                refine lv_aload hx hb dX2_isSame_112 (lv_at hl 0 rfl) ?_
                refine va_get (D := D) (ci := 3) (v := .int (iI (σ 4 (r * 8 + pl)))) (C := RX3) (T := TX3) (N := 4) hx hb hts hinX3 hown hK (g_right (g_right (g_right hP))) (spos σ ι (r * 8 + pl)) (sw_at ct47 (by omega) (by omega)) rfl 2 (by decide) (hts (.fieldLink RX2 44 "TwinOrchardLaw$Tree" "sort" "I") (List.mem_of_getElem? (i := 5) rfl)) (fun _ h9 => h9) rfl dX2_isSame_114 ?_
                refine gi_iast (a := q88) (n := 6) (f := fu (fu (fu (fun _ => 0) 0 (1)) 1 (σ 5 (r * 8 + pl))) 2 (σ 6 (r * 8 + pl))) hx hb hK hP hD hS 0 0 rfl rfl (by omega) (by omega) (by decide) dX2_isSame_117 (fun H locs hP hD hS => ?_)
                have hP : va_P D vwCl ([(q88, aI cI 6 (fu (fu (fu (fu (fun _ => 0) 0 (1)) 1 (σ 5 (r * 8 + pl))) 2 (σ 6 (r * 8 + pl))) 3 (σ 4 (r * 8 + pl))))] ++ ([(q12, aI cI 6 f31)] ++ ((XW cI cZ d σ κx31) ++ (SW cI cT cU ds σ ι)))) H := hP
                have hD : va_D A ([(q88, aI cI 6 (fu (fu (fu (fu (fun _ => 0) 0 (1)) 1 (σ 5 (r * 8 + pl))) 2 (σ 6 (r * 8 + pl))) 3 (σ 4 (r * 8 + pl))))] ++ ([(q12, aI cI 6 f31)] ++ ((XW cI cZ d σ κx31) ++ (SW cI cT cU ds σ ι)))) := hD
                refine lv_dup hx hb dX2_isSame_118 rfl ?_
                refine lv_iconst (v := iI (4)) hx hb dX2_isSame_119 rfl ?_
                refine lv_aload hx hb dX2_isSame_120 (lv_at hl 0 rfl) ?_
                refine va_get (D := D) (ci := 3) (v := .int (iI (σ 7 (r * 8 + pl)))) (C := RX3) (T := TX3) (N := 4) hx hb hts hinX3 hown hK (g_right (g_right (g_right hP))) (spos σ ι (r * 8 + pl)) (sw_at ct47 (by omega) (by omega)) rfl 3 (by decide) (hts (.fieldLink RX2 51 "TwinOrchardLaw$Tree" "tired" "Z") (List.mem_of_getElem? (i := 6) rfl)) (fun _ h9 => h9) rfl dX2_isSame_122 ?_
                refine gi_if_eq (tgt := 132) hx hb dX2_isSame_125 (by decide) ⟨by omega, by omega⟩ (fun c125 => ?_) (fun c125 => ?_)
                · skip
                  refine lv_iconst (v := iI (0)) hx hb dX2_isSame_132 rfl ?_
                  refine gi_iast (a := q88) (n := 6) (f := fu (fu (fu (fu (fun _ => 0) 0 (1)) 1 (σ 5 (r * 8 + pl))) 2 (σ 6 (r * 8 + pl))) 3 (σ 4 (r * 8 + pl))) hx hb hK hP hD hS 0 0 rfl rfl (by omega) (by omega) (by decide) dX2_isSame_133 (fun H locs hP hD hS => ?_)
                  have hP : va_P D vwCl ([(q88, aI cI 6 (fu (fu (fu (fu (fu (fun _ => 0) 0 (1)) 1 (σ 5 (r * 8 + pl))) 2 (σ 6 (r * 8 + pl))) 3 (σ 4 (r * 8 + pl))) 4 (0)))] ++ ([(q12, aI cI 6 f31)] ++ ((XW cI cZ d σ κx31) ++ (SW cI cT cU ds σ ι)))) H := hP
                  have hD : va_D A ([(q88, aI cI 6 (fu (fu (fu (fu (fu (fun _ => 0) 0 (1)) 1 (σ 5 (r * 8 + pl))) 2 (σ 6 (r * 8 + pl))) 3 (σ 4 (r * 8 + pl))) 4 (0)))] ++ ([(q12, aI cI 6 f31)] ++ ((XW cI cZ d σ κx31) ++ (SW cI cT cU ds σ ι)))) := hD
                  refine lv_dup hx hb dX2_isSame_134 rfl ?_
                  refine lv_iconst (v := iI (5)) hx hb dX2_isSame_135 rfl ?_
                  refine lv_aload hx hb dX2_isSame_136 (lv_at hl 0 rfl) ?_
                  have hw9 := sw_at (cI := cI) (cT := cT) (cU := cU) (d := ds) (σ := σ) (ι := ι) (k := r * 8 + pl) ct47 (by omega) (by omega)
                  have hPc : va_P D vwCl ([((ι (r * 8 + pl)).toNat, .inr (3, [.int (iI (σ 5 (r * 8 + pl))), .int (iI (σ 6 (r * 8 + pl))), .int (iI (σ 4 (r * 8 + pl))), .int (iI (σ 7 (r * 8 + pl)))]))] ++ []) H := g_one ((g_right (g_right (g_right hP))) _ _ hw9)
                  have hDc : va_D A ([((ι (r * 8 + pl)).toNat, .inr (3, [.int (iI (σ 5 (r * 8 + pl))), .int (iI (σ 6 (r * 8 + pl))), .int (iI (σ 4 (r * 8 + pl))), .int (iI (σ 7 (r * 8 + pl)))]))] ++ []) := g_oneD (g_Dright (g_Dright (g_Dright hD))) hw9
                  refine g_callR (va_runV (As := []) (rest := [.int (iI (5)), .ref (q88), .ref (q88)]) S ((kX3_apples l D cI cZ cT cU cQ (ι (r * 8 + pl)).toNat (σ 5 (r * 8 + pl)) (σ 6 (r * 8 + pl)) (σ 4 (r * 8 + pl)) (σ 7 (r * 8 + pl)) (by omega) (by omega) (by omega)) H.size) (cwV 0 hts gX2_isSame_X3_apples rfl rfl rfl (by decide +kernel) ⟨Nat.le_of_ble_eq_true rfl, Nat.le_of_ble_eq_true rfl⟩) (g_preV (As := []) gEx_t hK [0, 1, 2, 3, 4] rfl hPc hDc (fun _ _ _ => trivial) (q0 := 0) (ci := 3) rfl rfl rfl) rfl rfl hl.1 rfl (lv_room (Nat.le_of_ble_eq_true rfl)) dX2_isSame_138 ⟨by show (cl31 + 1) + 0 ≤ 326; omega, by show (sl31 + 6) + 0 ≤ 1940; omega⟩) (fun x9 hx9 => by rw [List.mem_singleton] at hx9; rw [hx9]; exact List.mem_append_right _ (List.mem_append_right _ (List.mem_append_right _ (List.mem_of_getElem? hw9)))) hP hD hS hA (fun κ9 H locs hk hP hS => ?_)
                  show W p l e ({ frames := 7, cells := 326, slots := 1940, locals := 116 } : Room) s m args below meth c H locs (cl31 + 1) (sl31 + 6) (MQ below (gQ D (tyA cI cZ cT cU cQ) (fun κ' => (XW cI cZ d σ κ') ++ (SW cI cT cU ds σ (κ' 2))) A (fun _ => some (.int (iI (1)))) (fun κ' => True)) args s 326 1940 A) (F0 m 141 ls [.int (iI (apl (σ 6 (r * 8 + pl)) (σ 5 (r * 8 + pl)) (σ 7 (r * 8 + pl)))), .int (iI (5)), .ref (q88), .ref (q88)])
                  refine gi_iast (a := q88) (n := 6) (f := fu (fu (fu (fu (fu (fun _ => 0) 0 (1)) 1 (σ 5 (r * 8 + pl))) 2 (σ 6 (r * 8 + pl))) 3 (σ 4 (r * 8 + pl))) 4 (0)) hx hb hK hP hD hS 0 0 rfl rfl (by omega) (by omega) (by decide) dX2_isSame_141 (fun H locs hP hD hS => ?_)
                  have hP : va_P D vwCl ([(q88, aI cI 6 (fu (fu (fu (fu (fu (fu (fun _ => 0) 0 (1)) 1 (σ 5 (r * 8 + pl))) 2 (σ 6 (r * 8 + pl))) 3 (σ 4 (r * 8 + pl))) 4 (0)) 5 (apl (σ 6 (r * 8 + pl)) (σ 5 (r * 8 + pl)) (σ 7 (r * 8 + pl)))))] ++ ([(q12, aI cI 6 f31)] ++ ((XW cI cZ d σ κx31) ++ (SW cI cT cU ds σ ι)))) H := hP
                  have hD : va_D A ([(q88, aI cI 6 (fu (fu (fu (fu (fu (fu (fun _ => 0) 0 (1)) 1 (σ 5 (r * 8 + pl))) 2 (σ 6 (r * 8 + pl))) 3 (σ 4 (r * 8 + pl))) 4 (0)) 5 (apl (σ 6 (r * 8 + pl)) (σ 5 (r * 8 + pl)) (σ 7 (r * 8 + pl)))))] ++ ([(q12, aI cI 6 f31)] ++ ((XW cI cZ d σ κx31) ++ (SW cI cT cU ds σ ι)))) := hD
                  refine lv_astore (lv' := [(11, .ref (q88)), (10, .ref (ι (r * 8 + pl)).toNat), (9, .int (iI (pl))), (2, .int (iI (a2))), (8, .int (iI (c2))), (3, .int (iI (b2))), (7, .int (iI (r))), (6, .ref (q12)), (5, .int (iI (0))), (4, .int (iI (0))), (0, .ref (ds 0)), (1, .ref (d 0))]) hx hb dX2_isSame_142 hl (by decide) rfl (fun ls hl => ?_)
                  obtain ⟨t0, t1, t2, t3, t4, t5⟩ := told_y (t := 0) ct47 (by first | exact bI_t (by omega) | exact bI_f (by omega))
                  have hf9 : ∀ w9 : Int, 0 ≤ w9 → w9 < 6 → (fu (fu (fu (fu (fu (fu (fun _ => 0) 0 (1)) 1 (σ 5 (r * 8 + pl))) 2 (σ 6 (r * 8 + pl))) 3 (σ 4 (r * 8 + pl))) 4 (0)) 5 (apl (σ 6 (r * 8 + pl)) (σ 5 (r * 8 + pl)) (σ 7 (r * 8 + pl)))) w9 = xTree σ (r * 8 + pl) w9 := by intro w9 h0 h1; rcases (show w9 = 0 ∨ w9 = 1 ∨ w9 = 2 ∨ w9 = 3 ∨ w9 = 4 ∨ w9 = 5 by omega) with rfl | rfl | rfl | rfl | rfl | rfl; exact t0.symm; exact t1.symm; exact t2.symm; exact t3.symm; exact t4.symm; exact t5.symm
                  have e5 : apx σ (r * 8 + pl) = apl (σ 6 (r * 8 + pl)) (σ 5 (r * 8 + pl)) (σ 7 (r * 8 + pl)) := t5
                  refine lv_iconst (v := iI (0)) hx hb dX2_isSame_144 rfl ?_
                  refine lv_istore (lv' := [(12, .int (iI (0))), (11, .ref (q88)), (10, .ref (ι (r * 8 + pl)).toNat), (9, .int (iI (pl))), (2, .int (iI (a2))), (8, .int (iI (c2))), (3, .int (iI (b2))), (7, .int (iI (r))), (6, .ref (q12)), (5, .int (iI (0))), (4, .int (iI (0))), (0, .ref (ds 0)), (1, .ref (d 0))]) hx hb dX2_isSame_145 hl (by decide) rfl (fun ls hl => ?_)
                  have loop147 : ∀ (n147 : Nat) (w1 : Int) (κx147 : St) (cl147 sl147 : Nat), (0 ≤ w1) → (w1 ≤ 6) → (6 - w1 < (n147 : Int)) → ((cl147 : Int) ≤ 1 + 57 * r + 7 * pl + 1 + w1) → ((sl147 : Int) ≤ 6 + 342 * r + 42 * pl + 6 + 6 * w1) → ∀ (H : Heap) (locs : List Loc) (ls : Array Slot), va_P D vwCl ([(q88, aI cI 6 (fu (fu (fu (fu (fu (fu (fun _ => 0) 0 (1)) 1 (σ 5 (r * 8 + pl))) 2 (σ 6 (r * 8 + pl))) 3 (σ 4 (r * 8 + pl))) 4 (0)) 5 (apl (σ 6 (r * 8 + pl)) (σ 5 (r * 8 + pl)) (σ 7 (r * 8 + pl)))))] ++ ([(q12, aI cI 6 f31)] ++ ((XW cI cZ d σ κx147) ++ (SW cI cT cU ds σ ι)))) H → va_D A ([(q88, aI cI 6 (fu (fu (fu (fu (fu (fu (fun _ => 0) 0 (1)) 1 (σ 5 (r * 8 + pl))) 2 (σ 6 (r * 8 + pl))) 3 (σ 4 (r * 8 + pl))) 4 (0)) 5 (apl (σ 6 (r * 8 + pl)) (σ 5 (r * 8 + pl)) (σ 7 (r * 8 + pl)))))] ++ ([(q12, aI cI 6 f31)] ++ ((XW cI cZ d σ κx147) ++ (SW cI cT cU ds σ ι)))) → va_S A s.heap H locs → lv_has ls 13 [(12, .int (iI (w1))), (11, .ref (q88)), (10, .ref (ι (r * 8 + pl)).toNat), (9, .int (iI (pl))), (2, .int (iI (a2))), (8, .int (iI (c2))), (3, .int (iI (b2))), (7, .int (iI (r))), (6, .ref (q12)), (5, .int (iI (0))), (4, .int (iI (0))), (0, .ref (ds 0)), (1, .ref (d 0))] → W p l e ({ frames := 7, cells := 326, slots := 1940, locals := 116 } : Room) s m args below meth c H locs cl147 sl147 (MQ below (gQ D (tyA cI cZ cT cU cQ) (fun κ' => (XW cI cZ d σ κ') ++ (SW cI cT cU ds σ (κ' 2))) A (fun _ => some (.int (iI (1)))) (fun κ' => True)) args s 326 1940 A) (F0 m 147 ls []) := by
                    intro n147
                    induction n147 with
                    | zero =>
                      intro w1 κx147 cl147 sl147 hlo147 hhi147 hm147
                      omega
                    | succ n147 ih147 =>
                      intro w1 κx147 cl147 sl147 hlo147 hhi147 hm147 hcl147 hsl147 H locs ls hP hD hS hl
                      refine lv_iload hx hb dX2_isSame_147 (lv_at hl 0 rfl) ?_
                      refine lv_bipush (v := iI (6)) hx hb dX2_isSame_149 rfl ?_
                      refine gi_icmp_ge (tgt := 180) hx hb dX2_isSame_151 (by decide) ⟨by omega, by omega⟩ ⟨by decide, by decide⟩ (fun c151 => ?_) (fun c151 => ?_)
                      · skip
                        refine lv_iload_n hx hb dX2_isSame_180 rfl (lv_at hl 4 rfl) ?_
                        refine lv_aload hx hb dX2_isSame_181 (lv_at hl 1 rfl) ?_
                        refine lv_iconst (v := iI (0)) hx hb dX2_isSame_183 rfl ?_
                        refine gi_iald (a := (q88)) (n := 6) (f := fu (fu (fu (fu (fu (fu (fun _ => 0) 0 (1)) 1 (σ 5 (r * 8 + pl))) 2 (σ 6 (r * 8 + pl))) 3 (σ 4 (r * 8 + pl))) 4 (0)) 5 (apl (σ 6 (r * 8 + pl)) (σ 5 (r * 8 + pl)) (σ 7 (r * 8 + pl)))) hx hb hK (g_left hP) 0 0 rfl rfl (by omega) (by omega) (by decide) dX2_isSame_184 ?_
                        rw [show ((fu (fu (fu (fu (fu (fu (fun _ => 0) 0 (1)) 1 (σ 5 (r * 8 + pl))) 2 (σ 6 (r * 8 + pl))) 3 (σ 4 (r * 8 + pl))) 4 (0)) 5 (apl (σ 6 (r * 8 + pl)) (σ 5 (r * 8 + pl)) (σ 7 (r * 8 + pl)))) 0) = (1) from by simp [fu]]
                        refine gi_add hx hb dX2_isSame_185 ?_
                        refine lv_istore_n (lv' := [(2, .int (iI (a2 + 1))), (12, .int (iI (w1))), (11, .ref (q88)), (10, .ref (ι (r * 8 + pl)).toNat), (9, .int (iI (pl))), (8, .int (iI (c2))), (3, .int (iI (b2))), (7, .int (iI (r))), (6, .ref (q12)), (5, .int (iI (0))), (4, .int (iI (0))), (0, .ref (ds 0)), (1, .ref (d 0))]) hx hb dX2_isSame_186 rfl hl (by decide) rfl (fun ls hl => ?_)
                        refine lv_iload hx hb dX2_isSame_187 (lv_at hl 5 rfl) ?_
                        refine lv_iload hx hb dX2_isSame_189 (lv_at hl 4 rfl) ?_
                        refine lv_iconst (v := iI (4)) hx hb dX2_isSame_191 rfl ?_
                        refine gi_icmp_ge (tgt := 202) hx hb dX2_isSame_192 (by decide) ⟨by omega, by omega⟩ ⟨by decide, by decide⟩ (fun c192 => ?_) (fun c192 => ?_)
                        · skip
                          refine lv_aload hx hb dX2_isSame_202 (lv_at hl 2 rfl) ?_
                          refine lv_iconst (v := iI (5)) hx hb dX2_isSame_204 rfl ?_
                          refine gi_iald (a := (q88)) (n := 6) (f := fu (fu (fu (fu (fu (fu (fun _ => 0) 0 (1)) 1 (σ 5 (r * 8 + pl))) 2 (σ 6 (r * 8 + pl))) 3 (σ 4 (r * 8 + pl))) 4 (0)) 5 (apl (σ 6 (r * 8 + pl)) (σ 5 (r * 8 + pl)) (σ 7 (r * 8 + pl)))) hx hb hK (g_left hP) 0 0 rfl rfl (by omega) (by omega) (by decide) dX2_isSame_205 ?_
                          rw [show ((fu (fu (fu (fu (fu (fu (fun _ => 0) 0 (1)) 1 (σ 5 (r * 8 + pl))) 2 (σ 6 (r * 8 + pl))) 3 (σ 4 (r * 8 + pl))) 4 (0)) 5 (apl (σ 6 (r * 8 + pl)) (σ 5 (r * 8 + pl)) (σ 7 (r * 8 + pl)))) 5) = (apl (σ 6 (r * 8 + pl)) (σ 5 (r * 8 + pl)) (σ 7 (r * 8 + pl))) from by simp [fu]]
                          refine gi_neg hx hb dX2_isSame_206 ?_
                          refine gi_add hx hb dX2_isSame_207 ?_
                          refine lv_istore (lv' := [(8, .int (iI (c2 + (-(apl (σ 6 (r * 8 + pl)) (σ 5 (r * 8 + pl)) (σ 7 (r * 8 + pl))))))), (2, .int (iI (a2 + 1))), (12, .int (iI (w1))), (11, .ref (q88)), (10, .ref (ι (r * 8 + pl)).toNat), (9, .int (iI (pl))), (3, .int (iI (b2))), (7, .int (iI (r))), (6, .ref (q12)), (5, .int (iI (0))), (4, .int (iI (0))), (0, .ref (ds 0)), (1, .ref (d 0))]) hx hb dX2_isSame_208 hl (by decide) rfl (fun ls hl => ?_)
                          refine lv_aload hx hb dX2_isSame_210 (lv_at hl 4 rfl) ?_
                          refine lv_ifnull hx hb dX2_isSame_212 ?_
                          refine lv_aload hx hb dX2_isSame_215 (lv_at hl 8 rfl) ?_
                          refine lv_aload hx hb dX2_isSame_217 (lv_at hl 4 rfl) ?_
                          refine va_get (D := D) (ci := 3) (v := .int (iI (σ 4 (r * 8 + pl)))) (C := RX3) (T := TX3) (N := 4) hx hb hts hinX3 hown hK (g_right (g_right (g_right hP))) (spos σ ι (r * 8 + pl)) (sw_at ct47 (by omega) (by omega)) rfl 2 (by decide) (hts (.fieldLink RX2 44 "TwinOrchardLaw$Tree" "sort" "I") (List.mem_of_getElem? (i := 5) rfl)) (fun _ h9 => h9) rfl dX2_isSame_219 ?_
                          refine lv_dup2_11 hx hb dX2_isSame_222 rfl rfl ?_
                          refine gi_iald (a := (q12)) (n := 6) (f := f31) hx hb hK (g_left (g_right hP)) 0 0 rfl rfl (by omega) (by omega) (by decide) dX2_isSame_223 ?_
                          refine lv_iconst (v := iI (1)) hx hb dX2_isSame_224 rfl ?_
                          refine gi_add hx hb dX2_isSame_225 ?_
                          refine gi_iast (a := q12) (n := 6) (f := f31) hx hb hK hP hD hS 1 0 rfl rfl (by omega) (by omega) (by decide) dX2_isSame_226 (fun H locs hP hD hS => ?_)
                          have hP : va_P D vwCl ([(q88, aI cI 6 (fu (fu (fu (fu (fu (fu (fun _ => 0) 0 (1)) 1 (σ 5 (r * 8 + pl))) 2 (σ 6 (r * 8 + pl))) 3 (σ 4 (r * 8 + pl))) 4 (0)) 5 (apl (σ 6 (r * 8 + pl)) (σ 5 (r * 8 + pl)) (σ 7 (r * 8 + pl)))))] ++ ([(q12, aI cI 6 (fu f31 (σ 4 (r * 8 + pl)) ((f31 (σ 4 (r * 8 + pl))) + 1)))] ++ ((XW cI cZ d σ κx147) ++ (SW cI cT cU ds σ ι)))) H := hP
                          have hD : va_D A ([(q88, aI cI 6 (fu (fu (fu (fu (fu (fu (fun _ => 0) 0 (1)) 1 (σ 5 (r * 8 + pl))) 2 (σ 6 (r * 8 + pl))) 3 (σ 4 (r * 8 + pl))) 4 (0)) 5 (apl (σ 6 (r * 8 + pl)) (σ 5 (r * 8 + pl)) (σ 7 (r * 8 + pl)))))] ++ ([(q12, aI cI 6 (fu f31 (σ 4 (r * 8 + pl)) ((f31 (σ 4 (r * 8 + pl))) + 1)))] ++ ((XW cI cZ d σ κx147) ++ (SW cI cT cU ds σ ι)))) := hD
                          refine lv_iload hx hb dX2_isSame_227 (lv_at hl 5 rfl) ?_
                          refine lv_iconst (v := iI (3)) hx hb dX2_isSame_229 rfl ?_
                          refine gi_icmp_le (tgt := 236) hx hb dX2_isSame_230 (by decide) ⟨by omega, by omega⟩ ⟨by decide, by decide⟩ (fun c230 => ?_) (fun c230 => ?_)
                          · skip
                            exfalso
                            omega
                          · skip
                            refine lv_goto (tgt := 310) hx hb dX2_isSame_233 (by decide) ?_
                            refine lv_iinc (v := iI (pl + 1)) (lv' := [(9, .int (iI (pl + 1))), (8, .int (iI (c2 + (-(apl (σ 6 (r * 8 + pl)) (σ 5 (r * 8 + pl)) (σ 7 (r * 8 + pl))))))), (2, .int (iI (a2 + 1))), (12, .int (iI (w1))), (11, .ref (q88)), (10, .ref (ι (r * 8 + pl)).toNat), (3, .int (iI (b2))), (7, .int (iI (r))), (6, .ref (q12)), (5, .int (iI (0))), (4, .int (iI (0))), (0, .ref (ds 0)), (1, .ref (d 0))]) hx hb dX2_isSame_310 hl (k := 5) rfl (iI_add _ _) (by decide) rfl (fun ls hl => ?_)
                            refine lv_goto (tgt := 31) hx hb dX2_isSame_313 (by decide) ?_
                            have hP := g_right hP
                            have hD := g_Dright hD
                            have hP : va_P D vwCl ([(q12, aI cI 6 (fu f31 (σ 4 (r * 8 + pl)) ((f31 (σ 4 (r * 8 + pl))) + 1)))] ++ ((XW cI cZ d σ κx147) ++ (SW cI cT cU ds σ ι))) H := hP
                            have hD : va_D A ([(q12, aI cI 6 (fu f31 (σ 4 (r * 8 + pl)) ((f31 (σ 4 (r * 8 + pl))) + 1)))] ++ ((XW cI cZ d σ κx147) ++ (SW cI cT cU ds σ ι))) := hD
                            exact ih31 (pl + 1) (a2 + 1) (c2 + (-(apl (σ 6 (r * 8 + pl)) (σ 5 (r * 8 + pl)) (σ 7 (r * 8 + pl))))) b2 κx147 (fu f31 (σ 4 (r * 8 + pl)) ((f31 (σ 4 (r * 8 + pl))) + 1)) cl147 sl147 (by omega) (by omega) (by omega) (by rw [← Int.add_assoc, isumI_s _ (by omega), ← ia31]; show _ = _ + bI (¬ σ 4 (r * 8 + pl) = -1); first | (rw [bI_t ct47]; done) | (rw [bI_f (fun q => q ct47)]; done)) (by rw [isumI_s _ hlo31, ← ic31]; unfold lnF; first | (rw [if_pos (by omega), e5]; done) | (rw [if_neg (by omega), e5]; done)) (by first | (rw [show min (pl + 1) 4 = pl + 1 by omega, isumI_s _ hlo31, ib31, show min pl 4 = pl by omega, eu]; omega) | (rw [show min (pl + 1) 4 = min pl 4 by omega]; exact ib31)) (by intro s9 h0 h1; rw [← Int.add_assoc, isumI_s _ (by omega), ← if31 s9 h0 h1]; show _ = _ + bI (σ 4 (r * 8 + pl) = s9); first | (rw [bI_f (by omega)]; omega) | (unfold fu; by_cases e9 : s9 = σ 4 (r * 8 + pl); rw [if_pos e9, bI_t e9.symm, e9]; (rw [if_neg e9, bI_f (fun q => e9 q.symm)]; omega))) (by omega) (by omega) H locs ls hP hD hS (lv_sub hl [0, 2, 1, 6, 7, 8, 9, 10, 11, 12] rfl)
                        · skip
                          refine lv_aload hx hb dX2_isSame_195 (lv_at hl 2 rfl) ?_
                          refine lv_iconst (v := iI (5)) hx hb dX2_isSame_197 rfl ?_
                          refine gi_iald (a := (q88)) (n := 6) (f := fu (fu (fu (fu (fu (fu (fun _ => 0) 0 (1)) 1 (σ 5 (r * 8 + pl))) 2 (σ 6 (r * 8 + pl))) 3 (σ 4 (r * 8 + pl))) 4 (0)) 5 (apl (σ 6 (r * 8 + pl)) (σ 5 (r * 8 + pl)) (σ 7 (r * 8 + pl)))) hx hb hK (g_left hP) 0 0 rfl rfl (by omega) (by omega) (by decide) dX2_isSame_198 ?_
                          rw [show ((fu (fu (fu (fu (fu (fu (fun _ => 0) 0 (1)) 1 (σ 5 (r * 8 + pl))) 2 (σ 6 (r * 8 + pl))) 3 (σ 4 (r * 8 + pl))) 4 (0)) 5 (apl (σ 6 (r * 8 + pl)) (σ 5 (r * 8 + pl)) (σ 7 (r * 8 + pl)))) 5) = (apl (σ 6 (r * 8 + pl)) (σ 5 (r * 8 + pl)) (σ 7 (r * 8 + pl))) from by simp [fu]]
                          refine lv_goto (tgt := 207) hx hb dX2_isSame_199 (by decide) ?_
                          refine gi_add hx hb dX2_isSame_207 ?_
                          refine lv_istore (lv' := [(8, .int (iI (c2 + (apl (σ 6 (r * 8 + pl)) (σ 5 (r * 8 + pl)) (σ 7 (r * 8 + pl)))))), (2, .int (iI (a2 + 1))), (12, .int (iI (w1))), (11, .ref (q88)), (10, .ref (ι (r * 8 + pl)).toNat), (9, .int (iI (pl))), (3, .int (iI (b2))), (7, .int (iI (r))), (6, .ref (q12)), (5, .int (iI (0))), (4, .int (iI (0))), (0, .ref (ds 0)), (1, .ref (d 0))]) hx hb dX2_isSame_208 hl (by decide) rfl (fun ls hl => ?_)
                          refine lv_aload hx hb dX2_isSame_210 (lv_at hl 4 rfl) ?_
                          refine lv_ifnull hx hb dX2_isSame_212 ?_
                          refine lv_aload hx hb dX2_isSame_215 (lv_at hl 8 rfl) ?_
                          refine lv_aload hx hb dX2_isSame_217 (lv_at hl 4 rfl) ?_
                          refine va_get (D := D) (ci := 3) (v := .int (iI (σ 4 (r * 8 + pl)))) (C := RX3) (T := TX3) (N := 4) hx hb hts hinX3 hown hK (g_right (g_right (g_right hP))) (spos σ ι (r * 8 + pl)) (sw_at ct47 (by omega) (by omega)) rfl 2 (by decide) (hts (.fieldLink RX2 44 "TwinOrchardLaw$Tree" "sort" "I") (List.mem_of_getElem? (i := 5) rfl)) (fun _ h9 => h9) rfl dX2_isSame_219 ?_
                          refine lv_dup2_11 hx hb dX2_isSame_222 rfl rfl ?_
                          refine gi_iald (a := (q12)) (n := 6) (f := f31) hx hb hK (g_left (g_right hP)) 0 0 rfl rfl (by omega) (by omega) (by decide) dX2_isSame_223 ?_
                          refine lv_iconst (v := iI (1)) hx hb dX2_isSame_224 rfl ?_
                          refine gi_add hx hb dX2_isSame_225 ?_
                          refine gi_iast (a := q12) (n := 6) (f := f31) hx hb hK hP hD hS 1 0 rfl rfl (by omega) (by omega) (by decide) dX2_isSame_226 (fun H locs hP hD hS => ?_)
                          have hP : va_P D vwCl ([(q88, aI cI 6 (fu (fu (fu (fu (fu (fu (fun _ => 0) 0 (1)) 1 (σ 5 (r * 8 + pl))) 2 (σ 6 (r * 8 + pl))) 3 (σ 4 (r * 8 + pl))) 4 (0)) 5 (apl (σ 6 (r * 8 + pl)) (σ 5 (r * 8 + pl)) (σ 7 (r * 8 + pl)))))] ++ ([(q12, aI cI 6 (fu f31 (σ 4 (r * 8 + pl)) ((f31 (σ 4 (r * 8 + pl))) + 1)))] ++ ((XW cI cZ d σ κx147) ++ (SW cI cT cU ds σ ι)))) H := hP
                          have hD : va_D A ([(q88, aI cI 6 (fu (fu (fu (fu (fu (fu (fun _ => 0) 0 (1)) 1 (σ 5 (r * 8 + pl))) 2 (σ 6 (r * 8 + pl))) 3 (σ 4 (r * 8 + pl))) 4 (0)) 5 (apl (σ 6 (r * 8 + pl)) (σ 5 (r * 8 + pl)) (σ 7 (r * 8 + pl)))))] ++ ([(q12, aI cI 6 (fu f31 (σ 4 (r * 8 + pl)) ((f31 (σ 4 (r * 8 + pl))) + 1)))] ++ ((XW cI cZ d σ κx147) ++ (SW cI cT cU ds σ ι)))) := hD
                          refine lv_iload hx hb dX2_isSame_227 (lv_at hl 5 rfl) ?_
                          refine lv_iconst (v := iI (3)) hx hb dX2_isSame_229 rfl ?_
                          refine gi_icmp_le (tgt := 236) hx hb dX2_isSame_230 (by decide) ⟨by omega, by omega⟩ ⟨by decide, by decide⟩ (fun c230 => ?_) (fun c230 => ?_)
                          · skip
                            refine lv_aload_n hx hb dX2_isSame_236 rfl (lv_at hl 11 rfl) ?_
                            refine va_get (D := D) (ci := 2) (v := .ref (ds 1)) (C := RX2) (T := TX2) (N := 8) hx hb hts hinX2 hown hK (g_right (g_right (g_right hP))) 0 rfl rfl 0 (by decide) (hts (.fieldLink RX2 9 "TwinOrchardLaw$Sim" "trees" "[[LTwinOrchardLaw$Tree;") (List.mem_of_getElem? (i := 2) rfl)) (fun _ h9 => h9) rfl dX2_isSame_237 ?_
                            refine lv_iload hx hb dX2_isSame_240 (lv_at hl 7 rfl) ?_
                            refine s_row (f := srt ds) hx hb hK (g_right (g_right (g_right hP))) 1 3 rfl rfl (by omega) (by omega) (by decide) (v := ds (r.toNat + 7)) (if_pos (by omega)) dX2_isSame_242 ?_
                            refine lv_bipush (v := iI (7)) hx hb dX2_isSame_243 rfl ?_
                            refine lv_iload hx hb dX2_isSame_245 (lv_at hl 5 rfl) ?_
                            refine gi_sub hx hb dX2_isSame_247 ?_
                            refine s_tree (σ := σ) (ι := ι) (r := r) (i := 7 - pl) hx hb hK (g_right (g_right (g_right hP))) (r.toNat + 7) 2 (sw_row (by omega) (by omega)) rfl (by omega) (by omega) dX2_isSame_248 (fun ct248 => ?_) (fun ct248 => ?_)
                            · skip
                              refine lv_astoreN (lv' := [(12, .null), (8, .int (iI (c2 + (apl (σ 6 (r * 8 + pl)) (σ 5 (r * 8 + pl)) (σ 7 (r * 8 + pl)))))), (2, .int (iI (a2 + 1))), (11, .ref (q88)), (10, .ref (ι (r * 8 + pl)).toNat), (9, .int (iI (pl))), (3, .int (iI (b2))), (7, .int (iI (r))), (6, .ref (q12)), (5, .int (iI (0))), (4, .int (iI (0))), (0, .ref (ds 0)), (1, .ref (d 0))]) hx hb dX2_isSame_249 hl (by decide) rfl (fun ls hl => ?_)
                              refine lv_iload_n hx hb dX2_isSame_251 rfl (lv_at hl 6 rfl) ?_
                              refine lv_aload hx hb dX2_isSame_252 (lv_at hl 4 rfl) ?_
                              refine lv_ifnull hx hb dX2_isSame_254 ?_
                              refine lv_aloadN hx hb dX2_isSame_257 (lv_at hl 0 rfl) ?_
                              refine lv_ifnonnullN hx hb dX2_isSame_259 ?_
                              refine lv_aload hx hb dX2_isSame_262 (lv_at hl 4 rfl) ?_
                              refine lv_aloadN hx hb dX2_isSame_264 (lv_at hl 0 rfl) ?_
                              refine lv_acmp_ne (rx := (some (ι (r * 8 + pl)).toNat)) (ry := none) (tgt := 273) hx hb dX2_isSame_266 (by decide) (fun c266 => ?_) (fun c266 => ?_)
                              · skip
                                refine lv_iconst (v := iI (1)) hx hb dX2_isSame_273 rfl ?_
                                refine lv_goto (tgt := 308) hx hb dX2_isSame_274 (by decide) ?_
                                have eu : upr σ r pl = 1 := by unfold upr; rw [em]; first | exact bI_t (by omega) | exact bI_f (by omega)
                                refine gi_add hx hb dX2_isSame_308 ?_
                                refine lv_istore_n (lv' := [(3, .int (iI (b2 + 1))), (12, .null), (8, .int (iI (c2 + (apl (σ 6 (r * 8 + pl)) (σ 5 (r * 8 + pl)) (σ 7 (r * 8 + pl)))))), (2, .int (iI (a2 + 1))), (11, .ref (q88)), (10, .ref (ι (r * 8 + pl)).toNat), (9, .int (iI (pl))), (7, .int (iI (r))), (6, .ref (q12)), (5, .int (iI (0))), (4, .int (iI (0))), (0, .ref (ds 0)), (1, .ref (d 0))]) hx hb dX2_isSame_309 rfl hl (by decide) rfl (fun ls hl => ?_)
                                refine lv_iinc (v := iI (pl + 1)) (lv' := [(9, .int (iI (pl + 1))), (3, .int (iI (b2 + 1))), (12, .null), (8, .int (iI (c2 + (apl (σ 6 (r * 8 + pl)) (σ 5 (r * 8 + pl)) (σ 7 (r * 8 + pl)))))), (2, .int (iI (a2 + 1))), (11, .ref (q88)), (10, .ref (ι (r * 8 + pl)).toNat), (7, .int (iI (r))), (6, .ref (q12)), (5, .int (iI (0))), (4, .int (iI (0))), (0, .ref (ds 0)), (1, .ref (d 0))]) hx hb dX2_isSame_310 hl (k := 6) rfl (iI_add _ _) (by decide) rfl (fun ls hl => ?_)
                                refine lv_goto (tgt := 31) hx hb dX2_isSame_313 (by decide) ?_
                                have hP := g_right hP
                                have hD := g_Dright hD
                                have hP : va_P D vwCl ([(q12, aI cI 6 (fu f31 (σ 4 (r * 8 + pl)) ((f31 (σ 4 (r * 8 + pl))) + 1)))] ++ ((XW cI cZ d σ κx147) ++ (SW cI cT cU ds σ ι))) H := hP
                                have hD : va_D A ([(q12, aI cI 6 (fu f31 (σ 4 (r * 8 + pl)) ((f31 (σ 4 (r * 8 + pl))) + 1)))] ++ ((XW cI cZ d σ κx147) ++ (SW cI cT cU ds σ ι))) := hD
                                exact ih31 (pl + 1) (a2 + 1) (c2 + (apl (σ 6 (r * 8 + pl)) (σ 5 (r * 8 + pl)) (σ 7 (r * 8 + pl)))) (b2 + 1) κx147 (fu f31 (σ 4 (r * 8 + pl)) ((f31 (σ 4 (r * 8 + pl))) + 1)) cl147 sl147 (by omega) (by omega) (by omega) (by rw [← Int.add_assoc, isumI_s _ (by omega), ← ia31]; show _ = _ + bI (¬ σ 4 (r * 8 + pl) = -1); first | (rw [bI_t ct47]; done) | (rw [bI_f (fun q => q ct47)]; done)) (by rw [isumI_s _ hlo31, ← ic31]; unfold lnF; first | (rw [if_pos (by omega), e5]; done) | (rw [if_neg (by omega), e5]; done)) (by first | (rw [show min (pl + 1) 4 = pl + 1 by omega, isumI_s _ hlo31, ib31, show min pl 4 = pl by omega, eu]; omega) | (rw [show min (pl + 1) 4 = min pl 4 by omega]; exact ib31)) (by intro s9 h0 h1; rw [← Int.add_assoc, isumI_s _ (by omega), ← if31 s9 h0 h1]; show _ = _ + bI (σ 4 (r * 8 + pl) = s9); first | (rw [bI_f (by omega)]; omega) | (unfold fu; by_cases e9 : s9 = σ 4 (r * 8 + pl); rw [if_pos e9, bI_t e9.symm, e9]; (rw [if_neg e9, bI_f (fun q => e9 q.symm)]; omega))) (by omega) (by omega) H locs ls hP hD hS (lv_sub hl [0, 4, 3, 1, 7, 8, 9, 10, 11, 12] rfl)
                              · skip
                                exact absurd c266 (by intro h9; cases h9)
                            · skip
                              refine lv_astore (lv' := [(12, .ref (ι (r * 8 + (7 - pl))).toNat), (8, .int (iI (c2 + (apl (σ 6 (r * 8 + pl)) (σ 5 (r * 8 + pl)) (σ 7 (r * 8 + pl)))))), (2, .int (iI (a2 + 1))), (11, .ref (q88)), (10, .ref (ι (r * 8 + pl)).toNat), (9, .int (iI (pl))), (3, .int (iI (b2))), (7, .int (iI (r))), (6, .ref (q12)), (5, .int (iI (0))), (4, .int (iI (0))), (0, .ref (ds 0)), (1, .ref (d 0))]) hx hb dX2_isSame_249 hl (by decide) rfl (fun ls hl => ?_)
                              refine lv_iload_n hx hb dX2_isSame_251 rfl (lv_at hl 6 rfl) ?_
                              refine lv_aload hx hb dX2_isSame_252 (lv_at hl 4 rfl) ?_
                              refine lv_ifnull hx hb dX2_isSame_254 ?_
                              refine lv_aload hx hb dX2_isSame_257 (lv_at hl 0 rfl) ?_
                              refine lv_ifnonnull (tgt := 277) hx hb dX2_isSame_259 (by decide) ?_
                              refine lv_aload hx hb dX2_isSame_277 (lv_at hl 4 rfl) ?_
                              refine va_get (D := D) (ci := 3) (v := .int (iI (σ 4 (r * 8 + pl)))) (C := RX3) (T := TX3) (N := 4) hx hb hts hinX3 hown hK (g_right (g_right (g_right hP))) (spos σ ι (r * 8 + pl)) (sw_at ct47 (by omega) (by omega)) rfl 2 (by decide) (hts (.fieldLink RX2 44 "TwinOrchardLaw$Tree" "sort" "I") (List.mem_of_getElem? (i := 5) rfl)) (fun _ h9 => h9) rfl dX2_isSame_279 ?_
                              refine lv_aload hx hb dX2_isSame_282 (lv_at hl 0 rfl) ?_
                              refine va_get (D := D) (ci := 3) (v := .int (iI (σ 4 (r * 8 + (7 - pl))))) (C := RX3) (T := TX3) (N := 4) hx hb hts hinX3 hown hK (g_right (g_right (g_right hP))) (spos σ ι (r * 8 + (7 - pl))) (sw_at ct248 (by omega) (by omega)) rfl 2 (by decide) (hts (.fieldLink RX2 44 "TwinOrchardLaw$Tree" "sort" "I") (List.mem_of_getElem? (i := 5) rfl)) (fun _ h9 => h9) rfl dX2_isSame_284 ?_
                              refine gi_icmp_ne (tgt := 303) hx hb dX2_isSame_287 (by decide) ⟨by omega, by omega⟩ ⟨by omega, by omega⟩ (fun c287 => ?_) (fun c287 => ?_)
                              · skip
                                refine lv_iconst (v := iI (1)) hx hb dX2_isSame_303 rfl ?_
                                refine lv_goto (tgt := 308) hx hb dX2_isSame_304 (by decide) ?_
                                have eu : upr σ r pl = 1 := by unfold upr; rw [em]; first | exact bI_t (by omega) | exact bI_f (by omega)
                                refine gi_add hx hb dX2_isSame_308 ?_
                                refine lv_istore_n (lv' := [(3, .int (iI (b2 + 1))), (12, .ref (ι (r * 8 + (7 - pl))).toNat), (8, .int (iI (c2 + (apl (σ 6 (r * 8 + pl)) (σ 5 (r * 8 + pl)) (σ 7 (r * 8 + pl)))))), (2, .int (iI (a2 + 1))), (11, .ref (q88)), (10, .ref (ι (r * 8 + pl)).toNat), (9, .int (iI (pl))), (7, .int (iI (r))), (6, .ref (q12)), (5, .int (iI (0))), (4, .int (iI (0))), (0, .ref (ds 0)), (1, .ref (d 0))]) hx hb dX2_isSame_309 rfl hl (by decide) rfl (fun ls hl => ?_)
                                refine lv_iinc (v := iI (pl + 1)) (lv' := [(9, .int (iI (pl + 1))), (3, .int (iI (b2 + 1))), (12, .ref (ι (r * 8 + (7 - pl))).toNat), (8, .int (iI (c2 + (apl (σ 6 (r * 8 + pl)) (σ 5 (r * 8 + pl)) (σ 7 (r * 8 + pl)))))), (2, .int (iI (a2 + 1))), (11, .ref (q88)), (10, .ref (ι (r * 8 + pl)).toNat), (7, .int (iI (r))), (6, .ref (q12)), (5, .int (iI (0))), (4, .int (iI (0))), (0, .ref (ds 0)), (1, .ref (d 0))]) hx hb dX2_isSame_310 hl (k := 6) rfl (iI_add _ _) (by decide) rfl (fun ls hl => ?_)
                                refine lv_goto (tgt := 31) hx hb dX2_isSame_313 (by decide) ?_
                                have hP := g_right hP
                                have hD := g_Dright hD
                                have hP : va_P D vwCl ([(q12, aI cI 6 (fu f31 (σ 4 (r * 8 + pl)) ((f31 (σ 4 (r * 8 + pl))) + 1)))] ++ ((XW cI cZ d σ κx147) ++ (SW cI cT cU ds σ ι))) H := hP
                                have hD : va_D A ([(q12, aI cI 6 (fu f31 (σ 4 (r * 8 + pl)) ((f31 (σ 4 (r * 8 + pl))) + 1)))] ++ ((XW cI cZ d σ κx147) ++ (SW cI cT cU ds σ ι))) := hD
                                exact ih31 (pl + 1) (a2 + 1) (c2 + (apl (σ 6 (r * 8 + pl)) (σ 5 (r * 8 + pl)) (σ 7 (r * 8 + pl)))) (b2 + 1) κx147 (fu f31 (σ 4 (r * 8 + pl)) ((f31 (σ 4 (r * 8 + pl))) + 1)) cl147 sl147 (by omega) (by omega) (by omega) (by rw [← Int.add_assoc, isumI_s _ (by omega), ← ia31]; show _ = _ + bI (¬ σ 4 (r * 8 + pl) = -1); first | (rw [bI_t ct47]; done) | (rw [bI_f (fun q => q ct47)]; done)) (by rw [isumI_s _ hlo31, ← ic31]; unfold lnF; first | (rw [if_pos (by omega), e5]; done) | (rw [if_neg (by omega), e5]; done)) (by first | (rw [show min (pl + 1) 4 = pl + 1 by omega, isumI_s _ hlo31, ib31, show min pl 4 = pl by omega, eu]; omega) | (rw [show min (pl + 1) 4 = min pl 4 by omega]; exact ib31)) (by intro s9 h0 h1; rw [← Int.add_assoc, isumI_s _ (by omega), ← if31 s9 h0 h1]; show _ = _ + bI (σ 4 (r * 8 + pl) = s9); first | (rw [bI_f (by omega)]; omega) | (unfold fu; by_cases e9 : s9 = σ 4 (r * 8 + pl); rw [if_pos e9, bI_t e9.symm, e9]; (rw [if_neg e9, bI_f (fun q => e9 q.symm)]; omega))) (by omega) (by omega) H locs ls hP hD hS (lv_sub hl [0, 4, 3, 1, 7, 8, 9, 10, 11, 12] rfl)
                              · skip
                                refine lv_aload hx hb dX2_isSame_290 (lv_at hl 4 rfl) ?_
                                refine va_get (D := D) (ci := 3) (v := .int (iI (σ 5 (r * 8 + pl)))) (C := RX3) (T := TX3) (N := 4) hx hb hts hinX3 hown hK (g_right (g_right (g_right hP))) (spos σ ι (r * 8 + pl)) (sw_at ct47 (by omega) (by omega)) rfl 0 (by decide) (hts (.fieldLink RX2 41 "TwinOrchardLaw$Tree" "branches" "I") (List.mem_of_getElem? (i := 3) rfl)) (fun _ h9 => h9) rfl dX2_isSame_292 ?_
                                refine lv_aload hx hb dX2_isSame_295 (lv_at hl 0 rfl) ?_
                                refine va_get (D := D) (ci := 3) (v := .int (iI (σ 5 (r * 8 + (7 - pl))))) (C := RX3) (T := TX3) (N := 4) hx hb hts hinX3 hown hK (g_right (g_right (g_right hP))) (spos σ ι (r * 8 + (7 - pl))) (sw_at ct248 (by omega) (by omega)) rfl 0 (by decide) (hts (.fieldLink RX2 41 "TwinOrchardLaw$Tree" "branches" "I") (List.mem_of_getElem? (i := 3) rfl)) (fun _ h9 => h9) rfl dX2_isSame_297 ?_
                                refine gi_icmp_eq (tgt := 307) hx hb dX2_isSame_300 (by decide) ⟨by omega, by omega⟩ ⟨by omega, by omega⟩ (fun c300 => ?_) (fun c300 => ?_)
                                · skip
                                  refine lv_iconst (v := iI (0)) hx hb dX2_isSame_307 rfl ?_
                                  have eu : upr σ r pl = 0 := by unfold upr; rw [em]; first | exact bI_t (by omega) | exact bI_f (by omega)
                                  refine gi_add hx hb dX2_isSame_308 ?_
                                  refine lv_istore_n (lv' := [(3, .int (iI (b2 + 0))), (12, .ref (ι (r * 8 + (7 - pl))).toNat), (8, .int (iI (c2 + (apl (σ 6 (r * 8 + pl)) (σ 5 (r * 8 + pl)) (σ 7 (r * 8 + pl)))))), (2, .int (iI (a2 + 1))), (11, .ref (q88)), (10, .ref (ι (r * 8 + pl)).toNat), (9, .int (iI (pl))), (7, .int (iI (r))), (6, .ref (q12)), (5, .int (iI (0))), (4, .int (iI (0))), (0, .ref (ds 0)), (1, .ref (d 0))]) hx hb dX2_isSame_309 rfl hl (by decide) rfl (fun ls hl => ?_)
                                  refine lv_iinc (v := iI (pl + 1)) (lv' := [(9, .int (iI (pl + 1))), (3, .int (iI (b2 + 0))), (12, .ref (ι (r * 8 + (7 - pl))).toNat), (8, .int (iI (c2 + (apl (σ 6 (r * 8 + pl)) (σ 5 (r * 8 + pl)) (σ 7 (r * 8 + pl)))))), (2, .int (iI (a2 + 1))), (11, .ref (q88)), (10, .ref (ι (r * 8 + pl)).toNat), (7, .int (iI (r))), (6, .ref (q12)), (5, .int (iI (0))), (4, .int (iI (0))), (0, .ref (ds 0)), (1, .ref (d 0))]) hx hb dX2_isSame_310 hl (k := 6) rfl (iI_add _ _) (by decide) rfl (fun ls hl => ?_)
                                  refine lv_goto (tgt := 31) hx hb dX2_isSame_313 (by decide) ?_
                                  have hP := g_right hP
                                  have hD := g_Dright hD
                                  have hP : va_P D vwCl ([(q12, aI cI 6 (fu f31 (σ 4 (r * 8 + pl)) ((f31 (σ 4 (r * 8 + pl))) + 1)))] ++ ((XW cI cZ d σ κx147) ++ (SW cI cT cU ds σ ι))) H := hP
                                  have hD : va_D A ([(q12, aI cI 6 (fu f31 (σ 4 (r * 8 + pl)) ((f31 (σ 4 (r * 8 + pl))) + 1)))] ++ ((XW cI cZ d σ κx147) ++ (SW cI cT cU ds σ ι))) := hD
                                  exact ih31 (pl + 1) (a2 + 1) (c2 + (apl (σ 6 (r * 8 + pl)) (σ 5 (r * 8 + pl)) (σ 7 (r * 8 + pl)))) (b2 + 0) κx147 (fu f31 (σ 4 (r * 8 + pl)) ((f31 (σ 4 (r * 8 + pl))) + 1)) cl147 sl147 (by omega) (by omega) (by omega) (by rw [← Int.add_assoc, isumI_s _ (by omega), ← ia31]; show _ = _ + bI (¬ σ 4 (r * 8 + pl) = -1); first | (rw [bI_t ct47]; done) | (rw [bI_f (fun q => q ct47)]; done)) (by rw [isumI_s _ hlo31, ← ic31]; unfold lnF; first | (rw [if_pos (by omega), e5]; done) | (rw [if_neg (by omega), e5]; done)) (by first | (rw [show min (pl + 1) 4 = pl + 1 by omega, isumI_s _ hlo31, ib31, show min pl 4 = pl by omega, eu]; omega) | (rw [show min (pl + 1) 4 = min pl 4 by omega]; exact ib31)) (by intro s9 h0 h1; rw [← Int.add_assoc, isumI_s _ (by omega), ← if31 s9 h0 h1]; show _ = _ + bI (σ 4 (r * 8 + pl) = s9); first | (rw [bI_f (by omega)]; omega) | (unfold fu; by_cases e9 : s9 = σ 4 (r * 8 + pl); rw [if_pos e9, bI_t e9.symm, e9]; (rw [if_neg e9, bI_f (fun q => e9 q.symm)]; omega))) (by omega) (by omega) H locs ls hP hD hS (lv_sub hl [0, 4, 3, 1, 7, 8, 9, 10, 11, 12] rfl)
                                · skip
                                  refine lv_iconst (v := iI (1)) hx hb dX2_isSame_303 rfl ?_
                                  refine lv_goto (tgt := 308) hx hb dX2_isSame_304 (by decide) ?_
                                  have eu : upr σ r pl = 1 := by unfold upr; rw [em]; first | exact bI_t (by omega) | exact bI_f (by omega)
                                  refine gi_add hx hb dX2_isSame_308 ?_
                                  refine lv_istore_n (lv' := [(3, .int (iI (b2 + 1))), (12, .ref (ι (r * 8 + (7 - pl))).toNat), (8, .int (iI (c2 + (apl (σ 6 (r * 8 + pl)) (σ 5 (r * 8 + pl)) (σ 7 (r * 8 + pl)))))), (2, .int (iI (a2 + 1))), (11, .ref (q88)), (10, .ref (ι (r * 8 + pl)).toNat), (9, .int (iI (pl))), (7, .int (iI (r))), (6, .ref (q12)), (5, .int (iI (0))), (4, .int (iI (0))), (0, .ref (ds 0)), (1, .ref (d 0))]) hx hb dX2_isSame_309 rfl hl (by decide) rfl (fun ls hl => ?_)
                                  refine lv_iinc (v := iI (pl + 1)) (lv' := [(9, .int (iI (pl + 1))), (3, .int (iI (b2 + 1))), (12, .ref (ι (r * 8 + (7 - pl))).toNat), (8, .int (iI (c2 + (apl (σ 6 (r * 8 + pl)) (σ 5 (r * 8 + pl)) (σ 7 (r * 8 + pl)))))), (2, .int (iI (a2 + 1))), (11, .ref (q88)), (10, .ref (ι (r * 8 + pl)).toNat), (7, .int (iI (r))), (6, .ref (q12)), (5, .int (iI (0))), (4, .int (iI (0))), (0, .ref (ds 0)), (1, .ref (d 0))]) hx hb dX2_isSame_310 hl (k := 6) rfl (iI_add _ _) (by decide) rfl (fun ls hl => ?_)
                                  refine lv_goto (tgt := 31) hx hb dX2_isSame_313 (by decide) ?_
                                  have hP := g_right hP
                                  have hD := g_Dright hD
                                  have hP : va_P D vwCl ([(q12, aI cI 6 (fu f31 (σ 4 (r * 8 + pl)) ((f31 (σ 4 (r * 8 + pl))) + 1)))] ++ ((XW cI cZ d σ κx147) ++ (SW cI cT cU ds σ ι))) H := hP
                                  have hD : va_D A ([(q12, aI cI 6 (fu f31 (σ 4 (r * 8 + pl)) ((f31 (σ 4 (r * 8 + pl))) + 1)))] ++ ((XW cI cZ d σ κx147) ++ (SW cI cT cU ds σ ι))) := hD
                                  exact ih31 (pl + 1) (a2 + 1) (c2 + (apl (σ 6 (r * 8 + pl)) (σ 5 (r * 8 + pl)) (σ 7 (r * 8 + pl)))) (b2 + 1) κx147 (fu f31 (σ 4 (r * 8 + pl)) ((f31 (σ 4 (r * 8 + pl))) + 1)) cl147 sl147 (by omega) (by omega) (by omega) (by rw [← Int.add_assoc, isumI_s _ (by omega), ← ia31]; show _ = _ + bI (¬ σ 4 (r * 8 + pl) = -1); first | (rw [bI_t ct47]; done) | (rw [bI_f (fun q => q ct47)]; done)) (by rw [isumI_s _ hlo31, ← ic31]; unfold lnF; first | (rw [if_pos (by omega), e5]; done) | (rw [if_neg (by omega), e5]; done)) (by first | (rw [show min (pl + 1) 4 = pl + 1 by omega, isumI_s _ hlo31, ib31, show min pl 4 = pl by omega, eu]; omega) | (rw [show min (pl + 1) 4 = min pl 4 by omega]; exact ib31)) (by intro s9 h0 h1; rw [← Int.add_assoc, isumI_s _ (by omega), ← if31 s9 h0 h1]; show _ = _ + bI (σ 4 (r * 8 + pl) = s9); first | (rw [bI_f (by omega)]; omega) | (unfold fu; by_cases e9 : s9 = σ 4 (r * 8 + pl); rw [if_pos e9, bI_t e9.symm, e9]; (rw [if_neg e9, bI_f (fun q => e9 q.symm)]; omega))) (by omega) (by omega) H locs ls hP hD hS (lv_sub hl [0, 4, 3, 1, 7, 8, 9, 10, 11, 12] rfl)
                          · skip
                            exfalso
                            omega
                      · skip
                        refine lv_aload_n hx hb dX2_isSame_154 rfl (lv_at hl 12 rfl) ?_
                        refine lv_iload hx hb dX2_isSame_155 (lv_at hl 7 rfl) ?_
                        refine lv_iload hx hb dX2_isSame_157 (lv_at hl 3 rfl) ?_
                        refine lv_iload hx hb dX2_isSame_159 (lv_at hl 0 rfl) ?_
                        have hp9 : ((XW cI cZ d σ κx147) ++ ([(q88, aI cI 6 (fu (fu (fu (fu (fu (fu (fun _ => 0) 0 (1)) 1 (σ 5 (r * 8 + pl))) 2 (σ 6 (r * 8 + pl))) 3 (σ 4 (r * 8 + pl))) 4 (0)) 5 (apl (σ 6 (r * 8 + pl)) (σ 5 (r * 8 + pl)) (σ 7 (r * 8 + pl)))))] ++ ([(q12, aI cI 6 f31)] ++ (SW cI cT cU ds σ ι))) : va_W).Perm ([(q88, aI cI 6 (fu (fu (fu (fu (fu (fu (fun _ => 0) 0 (1)) 1 (σ 5 (r * 8 + pl))) 2 (σ 6 (r * 8 + pl))) 3 (σ 4 (r * 8 + pl))) 4 (0)) 5 (apl (σ 6 (r * 8 + pl)) (σ 5 (r * 8 + pl)) (σ 7 (r * 8 + pl)))))] ++ ([(q12, aI cI 6 f31)] ++ ((XW cI cZ d σ κx147) ++ (SW cI cT cU ds σ ι))) : va_W) := ((List.perm_append_comm_assoc _ _ _)).trans ((List.Perm.append_left _ (List.perm_append_comm_assoc _ _ _)))
                        have hPc : va_P D vwCl ((XW cI cZ d σ κx147) ++ ([(q88, aI cI 6 (fu (fu (fu (fu (fu (fu (fun _ => 0) 0 (1)) 1 (σ 5 (r * 8 + pl))) 2 (σ 6 (r * 8 + pl))) 3 (σ 4 (r * 8 + pl))) 4 (0)) 5 (apl (σ 6 (r * 8 + pl)) (σ 5 (r * 8 + pl)) (σ 7 (r * 8 + pl)))))] ++ ([(q12, aI cI 6 f31)] ++ (SW cI cT cU ds σ ι)))) H := va_mem hP (fun q9 hq9 => hp9.mem_iff.mp hq9)
                        have hDc : va_D A ((XW cI cZ d σ κx147) ++ ([(q88, aI cI 6 (fu (fu (fu (fu (fu (fu (fun _ => 0) 0 (1)) 1 (σ 5 (r * 8 + pl))) 2 (σ 6 (r * 8 + pl))) 3 (σ 4 (r * 8 + pl))) 4 (0)) 5 (apl (σ 6 (r * 8 + pl)) (σ 5 (r * 8 + pl)) (σ 7 (r * 8 + pl)))))] ++ ([(q12, aI cI 6 f31)] ++ (SW cI cT cU ds σ ι)))) := va_Dp hD hp9
                        refine h_call0 (vx_runV (As := [.int (iI (r)), .int (iI (pl)), .int (iI (w1))]) (rest := []) S ((kX1_tree l hfl D cI cZ d σ κx147 r pl w1 (by first | assumption | omega) (by first | assumption | omega) (by first | assumption | omega) (by first | assumption | omega) (by first | assumption | omega) (by first | assumption | omega) (by first | assumption | omega)) H.size) (cwV 3 hts gX2_isSame_X1_tree rfl rfl rfl (by decide +kernel) ⟨Nat.le_of_ble_eq_true rfl, Nat.le_of_ble_eq_true rfl⟩) (h_preV hK [0, 1] rfl hPc hDc hS hA hTE (q0 := 0) (ci := 1) rfl rfl rfl) rfl rfl hl.1 rfl (lv_room (Nat.le_of_ble_eq_true rfl)) dX2_isSame_161 ⟨by show cl147 + 1 ≤ 326; omega, by show sl147 + 6 ≤ 1940; omega⟩) hPc hDc hS hA (fun E h => (by have h0 : (tTree r pl w1) = 0 := (by unfold tTree; rw [if_neg (by omega)]); rcases h with ⟨_, h⟩ <;> omega)) (fun κ9 H locs hk hP hD hS => ?_)
                        obtain ⟨z9, ezz9⟩ : ∃ z, z = κ9 := ⟨_, rfl⟩
                        subst ezz9
                        have hP : va_P D vwCl ((XW cI cZ d σ z9) ++ ([(q88, aI cI 6 (fu (fu (fu (fu (fu (fu (fun _ => 0) 0 (1)) 1 (σ 5 (r * 8 + pl))) 2 (σ 6 (r * 8 + pl))) 3 (σ 4 (r * 8 + pl))) 4 (0)) 5 (apl (σ 6 (r * 8 + pl)) (σ 5 (r * 8 + pl)) (σ 7 (r * 8 + pl)))))] ++ ([(q12, aI cI 6 f31)] ++ (SW cI cT cU ds σ ι)))) H := hP
                        have hD : va_D A ((XW cI cZ d σ z9) ++ ([(q88, aI cI 6 (fu (fu (fu (fu (fu (fu (fun _ => 0) 0 (1)) 1 (σ 5 (r * 8 + pl))) 2 (σ 6 (r * 8 + pl))) 3 (σ 4 (r * 8 + pl))) 4 (0)) 5 (apl (σ 6 (r * 8 + pl)) (σ 5 (r * 8 + pl)) (σ 7 (r * 8 + pl)))))] ++ ([(q12, aI cI 6 f31)] ++ (SW cI cT cU ds σ ι)))) := hD
                        have hp9 : ([(q88, aI cI 6 (fu (fu (fu (fu (fu (fu (fun _ => 0) 0 (1)) 1 (σ 5 (r * 8 + pl))) 2 (σ 6 (r * 8 + pl))) 3 (σ 4 (r * 8 + pl))) 4 (0)) 5 (apl (σ 6 (r * 8 + pl)) (σ 5 (r * 8 + pl)) (σ 7 (r * 8 + pl)))))] ++ ([(q12, aI cI 6 f31)] ++ ((XW cI cZ d σ z9) ++ (SW cI cT cU ds σ ι))) : va_W).Perm ((XW cI cZ d σ z9) ++ ([(q88, aI cI 6 (fu (fu (fu (fu (fu (fu (fun _ => 0) 0 (1)) 1 (σ 5 (r * 8 + pl))) 2 (σ 6 (r * 8 + pl))) 3 (σ 4 (r * 8 + pl))) 4 (0)) 5 (apl (σ 6 (r * 8 + pl)) (σ 5 (r * 8 + pl)) (σ 7 (r * 8 + pl)))))] ++ ([(q12, aI cI 6 f31)] ++ (SW cI cT cU ds σ ι))) : va_W) := ((List.Perm.append_left _ (List.perm_append_comm_assoc _ _ _))).trans ((List.perm_append_comm_assoc _ _ _))
                        have hP : va_P D vwCl ([(q88, aI cI 6 (fu (fu (fu (fu (fu (fu (fun _ => 0) 0 (1)) 1 (σ 5 (r * 8 + pl))) 2 (σ 6 (r * 8 + pl))) 3 (σ 4 (r * 8 + pl))) 4 (0)) 5 (apl (σ 6 (r * 8 + pl)) (σ 5 (r * 8 + pl)) (σ 7 (r * 8 + pl)))))] ++ ([(q12, aI cI 6 f31)] ++ ((XW cI cZ d σ z9) ++ (SW cI cT cU ds σ ι)))) H := va_mem hP (fun q9 hq9 => hp9.mem_iff.mp hq9)
                        have hD : va_D A ([(q88, aI cI 6 (fu (fu (fu (fu (fu (fu (fun _ => 0) 0 (1)) 1 (σ 5 (r * 8 + pl))) 2 (σ 6 (r * 8 + pl))) 3 (σ 4 (r * 8 + pl))) 4 (0)) 5 (apl (σ 6 (r * 8 + pl)) (σ 5 (r * 8 + pl)) (σ 7 (r * 8 + pl)))))] ++ ([(q12, aI cI 6 f31)] ++ ((XW cI cZ d σ z9) ++ (SW cI cT cU ds σ ι)))) := va_Dp hD hp9
                        show W p l e ({ frames := 7, cells := 326, slots := 1940, locals := 116 } : Room) s m args below meth c H locs (cl147 + 1) (sl147 + 6) (MQ below (gQ D (tyA cI cZ cT cU cQ) (fun κ' => (XW cI cZ d σ κ') ++ (SW cI cT cU ds σ (κ' 2))) A (fun _ => some (.int (iI (1)))) (fun κ' => True)) args s 326 1940 A) (F0 m 164 ls [.int (iI (xTree σ (r * 8 + pl) w1))])
                        refine lv_aload hx hb dX2_isSame_164 (lv_at hl 1 rfl) ?_
                        refine lv_iload hx hb dX2_isSame_166 (lv_at hl 0 rfl) ?_
                        refine gi_iald (a := (q88)) (n := 6) (f := fu (fu (fu (fu (fu (fu (fun _ => 0) 0 (1)) 1 (σ 5 (r * 8 + pl))) 2 (σ 6 (r * 8 + pl))) 3 (σ 4 (r * 8 + pl))) 4 (0)) 5 (apl (σ 6 (r * 8 + pl)) (σ 5 (r * 8 + pl)) (σ 7 (r * 8 + pl)))) hx hb hK (g_left hP) 0 0 rfl rfl (by omega) (by omega) (by decide) dX2_isSame_168 ?_
                        rw [show ((fu (fu (fu (fu (fu (fu (fun _ => 0) 0 (1)) 1 (σ 5 (r * 8 + pl))) 2 (σ 6 (r * 8 + pl))) 3 (σ 4 (r * 8 + pl))) 4 (0)) 5 (apl (σ 6 (r * 8 + pl)) (σ 5 (r * 8 + pl)) (σ 7 (r * 8 + pl)))) w1 : Int) = (xTree σ (r * 8 + pl) w1) from by exact hf9 w1 (by omega) (by omega)]
                        refine gi_icmp_eq (tgt := 174) hx hb dX2_isSame_169 (by decide) (xTreeR hwf _ _) (xTreeR hwf _ _) (fun c169 => ?_) (fun c169 => ?_)
                        · skip
                          refine lv_iinc (v := iI (w1 + 1)) (lv' := [(12, .int (iI (w1 + 1))), (11, .ref (q88)), (10, .ref (ι (r * 8 + pl)).toNat), (9, .int (iI (pl))), (2, .int (iI (a2))), (8, .int (iI (c2))), (3, .int (iI (b2))), (7, .int (iI (r))), (6, .ref (q12)), (5, .int (iI (0))), (4, .int (iI (0))), (0, .ref (ds 0)), (1, .ref (d 0))]) hx hb dX2_isSame_174 hl (k := 0) rfl (iI_add _ _) (by decide) rfl (fun ls hl => ?_)
                          refine lv_goto (tgt := 147) hx hb dX2_isSame_177 (by decide) ?_
                          exact ih147 (w1 + 1) z9 (cl147 + 1) (sl147 + 6) (by omega) (by omega) (by omega) (by omega) (by omega) H locs ls hP hD hS (lv_sub hl [0, 1, 2, 3, 4, 5, 6, 7, 8, 9, 10, 11, 12] rfl)
                        · skip
                          exact absurd rfl c169
                  exact loop147 (((6 - (0) + 1 : Int)).toNat) 0 κx31 (cl31 + 1) (sl31 + 6) (by omega) (by omega) (by omega) (by omega) (by omega) H locs ls hP hD hS (lv_sub hl [0, 1, 2, 3, 4, 5, 6, 7, 8, 9, 10, 11, 12] rfl)
                · skip
                  refine lv_iconst (v := iI (1)) hx hb dX2_isSame_128 rfl ?_
                  refine lv_goto (tgt := 133) hx hb dX2_isSame_129 (by decide) ?_
                  refine gi_iast (a := q88) (n := 6) (f := fu (fu (fu (fu (fun _ => 0) 0 (1)) 1 (σ 5 (r * 8 + pl))) 2 (σ 6 (r * 8 + pl))) 3 (σ 4 (r * 8 + pl))) hx hb hK hP hD hS 0 0 rfl rfl (by omega) (by omega) (by decide) dX2_isSame_133 (fun H locs hP hD hS => ?_)
                  have hP : va_P D vwCl ([(q88, aI cI 6 (fu (fu (fu (fu (fu (fun _ => 0) 0 (1)) 1 (σ 5 (r * 8 + pl))) 2 (σ 6 (r * 8 + pl))) 3 (σ 4 (r * 8 + pl))) 4 (1)))] ++ ([(q12, aI cI 6 f31)] ++ ((XW cI cZ d σ κx31) ++ (SW cI cT cU ds σ ι)))) H := hP
                  have hD : va_D A ([(q88, aI cI 6 (fu (fu (fu (fu (fu (fun _ => 0) 0 (1)) 1 (σ 5 (r * 8 + pl))) 2 (σ 6 (r * 8 + pl))) 3 (σ 4 (r * 8 + pl))) 4 (1)))] ++ ([(q12, aI cI 6 f31)] ++ ((XW cI cZ d σ κx31) ++ (SW cI cT cU ds σ ι)))) := hD
                  refine lv_dup hx hb dX2_isSame_134 rfl ?_
                  refine lv_iconst (v := iI (5)) hx hb dX2_isSame_135 rfl ?_
                  refine lv_aload hx hb dX2_isSame_136 (lv_at hl 0 rfl) ?_
                  have hw9 := sw_at (cI := cI) (cT := cT) (cU := cU) (d := ds) (σ := σ) (ι := ι) (k := r * 8 + pl) ct47 (by omega) (by omega)
                  have hPc : va_P D vwCl ([((ι (r * 8 + pl)).toNat, .inr (3, [.int (iI (σ 5 (r * 8 + pl))), .int (iI (σ 6 (r * 8 + pl))), .int (iI (σ 4 (r * 8 + pl))), .int (iI (σ 7 (r * 8 + pl)))]))] ++ []) H := g_one ((g_right (g_right (g_right hP))) _ _ hw9)
                  have hDc : va_D A ([((ι (r * 8 + pl)).toNat, .inr (3, [.int (iI (σ 5 (r * 8 + pl))), .int (iI (σ 6 (r * 8 + pl))), .int (iI (σ 4 (r * 8 + pl))), .int (iI (σ 7 (r * 8 + pl)))]))] ++ []) := g_oneD (g_Dright (g_Dright (g_Dright hD))) hw9
                  refine g_callR (va_runV (As := []) (rest := [.int (iI (5)), .ref (q88), .ref (q88)]) S ((kX3_apples l D cI cZ cT cU cQ (ι (r * 8 + pl)).toNat (σ 5 (r * 8 + pl)) (σ 6 (r * 8 + pl)) (σ 4 (r * 8 + pl)) (σ 7 (r * 8 + pl)) (by omega) (by omega) (by omega)) H.size) (cwV 0 hts gX2_isSame_X3_apples rfl rfl rfl (by decide +kernel) ⟨Nat.le_of_ble_eq_true rfl, Nat.le_of_ble_eq_true rfl⟩) (g_preV (As := []) gEx_t hK [0, 1, 2, 3, 4] rfl hPc hDc (fun _ _ _ => trivial) (q0 := 0) (ci := 3) rfl rfl rfl) rfl rfl hl.1 rfl (lv_room (Nat.le_of_ble_eq_true rfl)) dX2_isSame_138 ⟨by show (cl31 + 1) + 0 ≤ 326; omega, by show (sl31 + 6) + 0 ≤ 1940; omega⟩) (fun x9 hx9 => by rw [List.mem_singleton] at hx9; rw [hx9]; exact List.mem_append_right _ (List.mem_append_right _ (List.mem_append_right _ (List.mem_of_getElem? hw9)))) hP hD hS hA (fun κ9 H locs hk hP hS => ?_)
                  show W p l e ({ frames := 7, cells := 326, slots := 1940, locals := 116 } : Room) s m args below meth c H locs (cl31 + 1) (sl31 + 6) (MQ below (gQ D (tyA cI cZ cT cU cQ) (fun κ' => (XW cI cZ d σ κ') ++ (SW cI cT cU ds σ (κ' 2))) A (fun _ => some (.int (iI (1)))) (fun κ' => True)) args s 326 1940 A) (F0 m 141 ls [.int (iI (apl (σ 6 (r * 8 + pl)) (σ 5 (r * 8 + pl)) (σ 7 (r * 8 + pl)))), .int (iI (5)), .ref (q88), .ref (q88)])
                  refine gi_iast (a := q88) (n := 6) (f := fu (fu (fu (fu (fu (fun _ => 0) 0 (1)) 1 (σ 5 (r * 8 + pl))) 2 (σ 6 (r * 8 + pl))) 3 (σ 4 (r * 8 + pl))) 4 (1)) hx hb hK hP hD hS 0 0 rfl rfl (by omega) (by omega) (by decide) dX2_isSame_141 (fun H locs hP hD hS => ?_)
                  have hP : va_P D vwCl ([(q88, aI cI 6 (fu (fu (fu (fu (fu (fu (fun _ => 0) 0 (1)) 1 (σ 5 (r * 8 + pl))) 2 (σ 6 (r * 8 + pl))) 3 (σ 4 (r * 8 + pl))) 4 (1)) 5 (apl (σ 6 (r * 8 + pl)) (σ 5 (r * 8 + pl)) (σ 7 (r * 8 + pl)))))] ++ ([(q12, aI cI 6 f31)] ++ ((XW cI cZ d σ κx31) ++ (SW cI cT cU ds σ ι)))) H := hP
                  have hD : va_D A ([(q88, aI cI 6 (fu (fu (fu (fu (fu (fu (fun _ => 0) 0 (1)) 1 (σ 5 (r * 8 + pl))) 2 (σ 6 (r * 8 + pl))) 3 (σ 4 (r * 8 + pl))) 4 (1)) 5 (apl (σ 6 (r * 8 + pl)) (σ 5 (r * 8 + pl)) (σ 7 (r * 8 + pl)))))] ++ ([(q12, aI cI 6 f31)] ++ ((XW cI cZ d σ κx31) ++ (SW cI cT cU ds σ ι)))) := hD
                  refine lv_astore (lv' := [(11, .ref (q88)), (10, .ref (ι (r * 8 + pl)).toNat), (9, .int (iI (pl))), (2, .int (iI (a2))), (8, .int (iI (c2))), (3, .int (iI (b2))), (7, .int (iI (r))), (6, .ref (q12)), (5, .int (iI (0))), (4, .int (iI (0))), (0, .ref (ds 0)), (1, .ref (d 0))]) hx hb dX2_isSame_142 hl (by decide) rfl (fun ls hl => ?_)
                  obtain ⟨t0, t1, t2, t3, t4, t5⟩ := told_y (t := 1) ct47 (by first | exact bI_t (by omega) | exact bI_f (by omega))
                  have hf9 : ∀ w9 : Int, 0 ≤ w9 → w9 < 6 → (fu (fu (fu (fu (fu (fu (fun _ => 0) 0 (1)) 1 (σ 5 (r * 8 + pl))) 2 (σ 6 (r * 8 + pl))) 3 (σ 4 (r * 8 + pl))) 4 (1)) 5 (apl (σ 6 (r * 8 + pl)) (σ 5 (r * 8 + pl)) (σ 7 (r * 8 + pl)))) w9 = xTree σ (r * 8 + pl) w9 := by intro w9 h0 h1; rcases (show w9 = 0 ∨ w9 = 1 ∨ w9 = 2 ∨ w9 = 3 ∨ w9 = 4 ∨ w9 = 5 by omega) with rfl | rfl | rfl | rfl | rfl | rfl; exact t0.symm; exact t1.symm; exact t2.symm; exact t3.symm; exact t4.symm; exact t5.symm
                  have e5 : apx σ (r * 8 + pl) = apl (σ 6 (r * 8 + pl)) (σ 5 (r * 8 + pl)) (σ 7 (r * 8 + pl)) := t5
                  refine lv_iconst (v := iI (0)) hx hb dX2_isSame_144 rfl ?_
                  refine lv_istore (lv' := [(12, .int (iI (0))), (11, .ref (q88)), (10, .ref (ι (r * 8 + pl)).toNat), (9, .int (iI (pl))), (2, .int (iI (a2))), (8, .int (iI (c2))), (3, .int (iI (b2))), (7, .int (iI (r))), (6, .ref (q12)), (5, .int (iI (0))), (4, .int (iI (0))), (0, .ref (ds 0)), (1, .ref (d 0))]) hx hb dX2_isSame_145 hl (by decide) rfl (fun ls hl => ?_)
                  have loop147 : ∀ (n147 : Nat) (w1 : Int) (κx147 : St) (cl147 sl147 : Nat), (0 ≤ w1) → (w1 ≤ 6) → (6 - w1 < (n147 : Int)) → ((cl147 : Int) ≤ 1 + 57 * r + 7 * pl + 1 + w1) → ((sl147 : Int) ≤ 6 + 342 * r + 42 * pl + 6 + 6 * w1) → ∀ (H : Heap) (locs : List Loc) (ls : Array Slot), va_P D vwCl ([(q88, aI cI 6 (fu (fu (fu (fu (fu (fu (fun _ => 0) 0 (1)) 1 (σ 5 (r * 8 + pl))) 2 (σ 6 (r * 8 + pl))) 3 (σ 4 (r * 8 + pl))) 4 (1)) 5 (apl (σ 6 (r * 8 + pl)) (σ 5 (r * 8 + pl)) (σ 7 (r * 8 + pl)))))] ++ ([(q12, aI cI 6 f31)] ++ ((XW cI cZ d σ κx147) ++ (SW cI cT cU ds σ ι)))) H → va_D A ([(q88, aI cI 6 (fu (fu (fu (fu (fu (fu (fun _ => 0) 0 (1)) 1 (σ 5 (r * 8 + pl))) 2 (σ 6 (r * 8 + pl))) 3 (σ 4 (r * 8 + pl))) 4 (1)) 5 (apl (σ 6 (r * 8 + pl)) (σ 5 (r * 8 + pl)) (σ 7 (r * 8 + pl)))))] ++ ([(q12, aI cI 6 f31)] ++ ((XW cI cZ d σ κx147) ++ (SW cI cT cU ds σ ι)))) → va_S A s.heap H locs → lv_has ls 13 [(12, .int (iI (w1))), (11, .ref (q88)), (10, .ref (ι (r * 8 + pl)).toNat), (9, .int (iI (pl))), (2, .int (iI (a2))), (8, .int (iI (c2))), (3, .int (iI (b2))), (7, .int (iI (r))), (6, .ref (q12)), (5, .int (iI (0))), (4, .int (iI (0))), (0, .ref (ds 0)), (1, .ref (d 0))] → W p l e ({ frames := 7, cells := 326, slots := 1940, locals := 116 } : Room) s m args below meth c H locs cl147 sl147 (MQ below (gQ D (tyA cI cZ cT cU cQ) (fun κ' => (XW cI cZ d σ κ') ++ (SW cI cT cU ds σ (κ' 2))) A (fun _ => some (.int (iI (1)))) (fun κ' => True)) args s 326 1940 A) (F0 m 147 ls []) := by
                    intro n147
                    induction n147 with
                    | zero =>
                      intro w1 κx147 cl147 sl147 hlo147 hhi147 hm147
                      omega
                    | succ n147 ih147 =>
                      intro w1 κx147 cl147 sl147 hlo147 hhi147 hm147 hcl147 hsl147 H locs ls hP hD hS hl
                      refine lv_iload hx hb dX2_isSame_147 (lv_at hl 0 rfl) ?_
                      refine lv_bipush (v := iI (6)) hx hb dX2_isSame_149 rfl ?_
                      refine gi_icmp_ge (tgt := 180) hx hb dX2_isSame_151 (by decide) ⟨by omega, by omega⟩ ⟨by decide, by decide⟩ (fun c151 => ?_) (fun c151 => ?_)
                      · skip
                        refine lv_iload_n hx hb dX2_isSame_180 rfl (lv_at hl 4 rfl) ?_
                        refine lv_aload hx hb dX2_isSame_181 (lv_at hl 1 rfl) ?_
                        refine lv_iconst (v := iI (0)) hx hb dX2_isSame_183 rfl ?_
                        refine gi_iald (a := (q88)) (n := 6) (f := fu (fu (fu (fu (fu (fu (fun _ => 0) 0 (1)) 1 (σ 5 (r * 8 + pl))) 2 (σ 6 (r * 8 + pl))) 3 (σ 4 (r * 8 + pl))) 4 (1)) 5 (apl (σ 6 (r * 8 + pl)) (σ 5 (r * 8 + pl)) (σ 7 (r * 8 + pl)))) hx hb hK (g_left hP) 0 0 rfl rfl (by omega) (by omega) (by decide) dX2_isSame_184 ?_
                        rw [show ((fu (fu (fu (fu (fu (fu (fun _ => 0) 0 (1)) 1 (σ 5 (r * 8 + pl))) 2 (σ 6 (r * 8 + pl))) 3 (σ 4 (r * 8 + pl))) 4 (1)) 5 (apl (σ 6 (r * 8 + pl)) (σ 5 (r * 8 + pl)) (σ 7 (r * 8 + pl)))) 0) = (1) from by simp [fu]]
                        refine gi_add hx hb dX2_isSame_185 ?_
                        refine lv_istore_n (lv' := [(2, .int (iI (a2 + 1))), (12, .int (iI (w1))), (11, .ref (q88)), (10, .ref (ι (r * 8 + pl)).toNat), (9, .int (iI (pl))), (8, .int (iI (c2))), (3, .int (iI (b2))), (7, .int (iI (r))), (6, .ref (q12)), (5, .int (iI (0))), (4, .int (iI (0))), (0, .ref (ds 0)), (1, .ref (d 0))]) hx hb dX2_isSame_186 rfl hl (by decide) rfl (fun ls hl => ?_)
                        refine lv_iload hx hb dX2_isSame_187 (lv_at hl 5 rfl) ?_
                        refine lv_iload hx hb dX2_isSame_189 (lv_at hl 4 rfl) ?_
                        refine lv_iconst (v := iI (4)) hx hb dX2_isSame_191 rfl ?_
                        refine gi_icmp_ge (tgt := 202) hx hb dX2_isSame_192 (by decide) ⟨by omega, by omega⟩ ⟨by decide, by decide⟩ (fun c192 => ?_) (fun c192 => ?_)
                        · skip
                          refine lv_aload hx hb dX2_isSame_202 (lv_at hl 2 rfl) ?_
                          refine lv_iconst (v := iI (5)) hx hb dX2_isSame_204 rfl ?_
                          refine gi_iald (a := (q88)) (n := 6) (f := fu (fu (fu (fu (fu (fu (fun _ => 0) 0 (1)) 1 (σ 5 (r * 8 + pl))) 2 (σ 6 (r * 8 + pl))) 3 (σ 4 (r * 8 + pl))) 4 (1)) 5 (apl (σ 6 (r * 8 + pl)) (σ 5 (r * 8 + pl)) (σ 7 (r * 8 + pl)))) hx hb hK (g_left hP) 0 0 rfl rfl (by omega) (by omega) (by decide) dX2_isSame_205 ?_
                          rw [show ((fu (fu (fu (fu (fu (fu (fun _ => 0) 0 (1)) 1 (σ 5 (r * 8 + pl))) 2 (σ 6 (r * 8 + pl))) 3 (σ 4 (r * 8 + pl))) 4 (1)) 5 (apl (σ 6 (r * 8 + pl)) (σ 5 (r * 8 + pl)) (σ 7 (r * 8 + pl)))) 5) = (apl (σ 6 (r * 8 + pl)) (σ 5 (r * 8 + pl)) (σ 7 (r * 8 + pl))) from by simp [fu]]
                          refine gi_neg hx hb dX2_isSame_206 ?_
                          refine gi_add hx hb dX2_isSame_207 ?_
                          refine lv_istore (lv' := [(8, .int (iI (c2 + (-(apl (σ 6 (r * 8 + pl)) (σ 5 (r * 8 + pl)) (σ 7 (r * 8 + pl))))))), (2, .int (iI (a2 + 1))), (12, .int (iI (w1))), (11, .ref (q88)), (10, .ref (ι (r * 8 + pl)).toNat), (9, .int (iI (pl))), (3, .int (iI (b2))), (7, .int (iI (r))), (6, .ref (q12)), (5, .int (iI (0))), (4, .int (iI (0))), (0, .ref (ds 0)), (1, .ref (d 0))]) hx hb dX2_isSame_208 hl (by decide) rfl (fun ls hl => ?_)
                          refine lv_aload hx hb dX2_isSame_210 (lv_at hl 4 rfl) ?_
                          refine lv_ifnull hx hb dX2_isSame_212 ?_
                          refine lv_aload hx hb dX2_isSame_215 (lv_at hl 8 rfl) ?_
                          refine lv_aload hx hb dX2_isSame_217 (lv_at hl 4 rfl) ?_
                          refine va_get (D := D) (ci := 3) (v := .int (iI (σ 4 (r * 8 + pl)))) (C := RX3) (T := TX3) (N := 4) hx hb hts hinX3 hown hK (g_right (g_right (g_right hP))) (spos σ ι (r * 8 + pl)) (sw_at ct47 (by omega) (by omega)) rfl 2 (by decide) (hts (.fieldLink RX2 44 "TwinOrchardLaw$Tree" "sort" "I") (List.mem_of_getElem? (i := 5) rfl)) (fun _ h9 => h9) rfl dX2_isSame_219 ?_
                          refine lv_dup2_11 hx hb dX2_isSame_222 rfl rfl ?_
                          refine gi_iald (a := (q12)) (n := 6) (f := f31) hx hb hK (g_left (g_right hP)) 0 0 rfl rfl (by omega) (by omega) (by decide) dX2_isSame_223 ?_
                          refine lv_iconst (v := iI (1)) hx hb dX2_isSame_224 rfl ?_
                          refine gi_add hx hb dX2_isSame_225 ?_
                          refine gi_iast (a := q12) (n := 6) (f := f31) hx hb hK hP hD hS 1 0 rfl rfl (by omega) (by omega) (by decide) dX2_isSame_226 (fun H locs hP hD hS => ?_)
                          have hP : va_P D vwCl ([(q88, aI cI 6 (fu (fu (fu (fu (fu (fu (fun _ => 0) 0 (1)) 1 (σ 5 (r * 8 + pl))) 2 (σ 6 (r * 8 + pl))) 3 (σ 4 (r * 8 + pl))) 4 (1)) 5 (apl (σ 6 (r * 8 + pl)) (σ 5 (r * 8 + pl)) (σ 7 (r * 8 + pl)))))] ++ ([(q12, aI cI 6 (fu f31 (σ 4 (r * 8 + pl)) ((f31 (σ 4 (r * 8 + pl))) + 1)))] ++ ((XW cI cZ d σ κx147) ++ (SW cI cT cU ds σ ι)))) H := hP
                          have hD : va_D A ([(q88, aI cI 6 (fu (fu (fu (fu (fu (fu (fun _ => 0) 0 (1)) 1 (σ 5 (r * 8 + pl))) 2 (σ 6 (r * 8 + pl))) 3 (σ 4 (r * 8 + pl))) 4 (1)) 5 (apl (σ 6 (r * 8 + pl)) (σ 5 (r * 8 + pl)) (σ 7 (r * 8 + pl)))))] ++ ([(q12, aI cI 6 (fu f31 (σ 4 (r * 8 + pl)) ((f31 (σ 4 (r * 8 + pl))) + 1)))] ++ ((XW cI cZ d σ κx147) ++ (SW cI cT cU ds σ ι)))) := hD
                          refine lv_iload hx hb dX2_isSame_227 (lv_at hl 5 rfl) ?_
                          refine lv_iconst (v := iI (3)) hx hb dX2_isSame_229 rfl ?_
                          refine gi_icmp_le (tgt := 236) hx hb dX2_isSame_230 (by decide) ⟨by omega, by omega⟩ ⟨by decide, by decide⟩ (fun c230 => ?_) (fun c230 => ?_)
                          · skip
                            exfalso
                            omega
                          · skip
                            refine lv_goto (tgt := 310) hx hb dX2_isSame_233 (by decide) ?_
                            refine lv_iinc (v := iI (pl + 1)) (lv' := [(9, .int (iI (pl + 1))), (8, .int (iI (c2 + (-(apl (σ 6 (r * 8 + pl)) (σ 5 (r * 8 + pl)) (σ 7 (r * 8 + pl))))))), (2, .int (iI (a2 + 1))), (12, .int (iI (w1))), (11, .ref (q88)), (10, .ref (ι (r * 8 + pl)).toNat), (3, .int (iI (b2))), (7, .int (iI (r))), (6, .ref (q12)), (5, .int (iI (0))), (4, .int (iI (0))), (0, .ref (ds 0)), (1, .ref (d 0))]) hx hb dX2_isSame_310 hl (k := 5) rfl (iI_add _ _) (by decide) rfl (fun ls hl => ?_)
                            refine lv_goto (tgt := 31) hx hb dX2_isSame_313 (by decide) ?_
                            have hP := g_right hP
                            have hD := g_Dright hD
                            have hP : va_P D vwCl ([(q12, aI cI 6 (fu f31 (σ 4 (r * 8 + pl)) ((f31 (σ 4 (r * 8 + pl))) + 1)))] ++ ((XW cI cZ d σ κx147) ++ (SW cI cT cU ds σ ι))) H := hP
                            have hD : va_D A ([(q12, aI cI 6 (fu f31 (σ 4 (r * 8 + pl)) ((f31 (σ 4 (r * 8 + pl))) + 1)))] ++ ((XW cI cZ d σ κx147) ++ (SW cI cT cU ds σ ι))) := hD
                            exact ih31 (pl + 1) (a2 + 1) (c2 + (-(apl (σ 6 (r * 8 + pl)) (σ 5 (r * 8 + pl)) (σ 7 (r * 8 + pl))))) b2 κx147 (fu f31 (σ 4 (r * 8 + pl)) ((f31 (σ 4 (r * 8 + pl))) + 1)) cl147 sl147 (by omega) (by omega) (by omega) (by rw [← Int.add_assoc, isumI_s _ (by omega), ← ia31]; show _ = _ + bI (¬ σ 4 (r * 8 + pl) = -1); first | (rw [bI_t ct47]; done) | (rw [bI_f (fun q => q ct47)]; done)) (by rw [isumI_s _ hlo31, ← ic31]; unfold lnF; first | (rw [if_pos (by omega), e5]; done) | (rw [if_neg (by omega), e5]; done)) (by first | (rw [show min (pl + 1) 4 = pl + 1 by omega, isumI_s _ hlo31, ib31, show min pl 4 = pl by omega, eu]; omega) | (rw [show min (pl + 1) 4 = min pl 4 by omega]; exact ib31)) (by intro s9 h0 h1; rw [← Int.add_assoc, isumI_s _ (by omega), ← if31 s9 h0 h1]; show _ = _ + bI (σ 4 (r * 8 + pl) = s9); first | (rw [bI_f (by omega)]; omega) | (unfold fu; by_cases e9 : s9 = σ 4 (r * 8 + pl); rw [if_pos e9, bI_t e9.symm, e9]; (rw [if_neg e9, bI_f (fun q => e9 q.symm)]; omega))) (by omega) (by omega) H locs ls hP hD hS (lv_sub hl [0, 2, 1, 6, 7, 8, 9, 10, 11, 12] rfl)
                        · skip
                          refine lv_aload hx hb dX2_isSame_195 (lv_at hl 2 rfl) ?_
                          refine lv_iconst (v := iI (5)) hx hb dX2_isSame_197 rfl ?_
                          refine gi_iald (a := (q88)) (n := 6) (f := fu (fu (fu (fu (fu (fu (fun _ => 0) 0 (1)) 1 (σ 5 (r * 8 + pl))) 2 (σ 6 (r * 8 + pl))) 3 (σ 4 (r * 8 + pl))) 4 (1)) 5 (apl (σ 6 (r * 8 + pl)) (σ 5 (r * 8 + pl)) (σ 7 (r * 8 + pl)))) hx hb hK (g_left hP) 0 0 rfl rfl (by omega) (by omega) (by decide) dX2_isSame_198 ?_
                          rw [show ((fu (fu (fu (fu (fu (fu (fun _ => 0) 0 (1)) 1 (σ 5 (r * 8 + pl))) 2 (σ 6 (r * 8 + pl))) 3 (σ 4 (r * 8 + pl))) 4 (1)) 5 (apl (σ 6 (r * 8 + pl)) (σ 5 (r * 8 + pl)) (σ 7 (r * 8 + pl)))) 5) = (apl (σ 6 (r * 8 + pl)) (σ 5 (r * 8 + pl)) (σ 7 (r * 8 + pl))) from by simp [fu]]
                          refine lv_goto (tgt := 207) hx hb dX2_isSame_199 (by decide) ?_
                          refine gi_add hx hb dX2_isSame_207 ?_
                          refine lv_istore (lv' := [(8, .int (iI (c2 + (apl (σ 6 (r * 8 + pl)) (σ 5 (r * 8 + pl)) (σ 7 (r * 8 + pl)))))), (2, .int (iI (a2 + 1))), (12, .int (iI (w1))), (11, .ref (q88)), (10, .ref (ι (r * 8 + pl)).toNat), (9, .int (iI (pl))), (3, .int (iI (b2))), (7, .int (iI (r))), (6, .ref (q12)), (5, .int (iI (0))), (4, .int (iI (0))), (0, .ref (ds 0)), (1, .ref (d 0))]) hx hb dX2_isSame_208 hl (by decide) rfl (fun ls hl => ?_)
                          refine lv_aload hx hb dX2_isSame_210 (lv_at hl 4 rfl) ?_
                          refine lv_ifnull hx hb dX2_isSame_212 ?_
                          refine lv_aload hx hb dX2_isSame_215 (lv_at hl 8 rfl) ?_
                          refine lv_aload hx hb dX2_isSame_217 (lv_at hl 4 rfl) ?_
                          refine va_get (D := D) (ci := 3) (v := .int (iI (σ 4 (r * 8 + pl)))) (C := RX3) (T := TX3) (N := 4) hx hb hts hinX3 hown hK (g_right (g_right (g_right hP))) (spos σ ι (r * 8 + pl)) (sw_at ct47 (by omega) (by omega)) rfl 2 (by decide) (hts (.fieldLink RX2 44 "TwinOrchardLaw$Tree" "sort" "I") (List.mem_of_getElem? (i := 5) rfl)) (fun _ h9 => h9) rfl dX2_isSame_219 ?_
                          refine lv_dup2_11 hx hb dX2_isSame_222 rfl rfl ?_
                          refine gi_iald (a := (q12)) (n := 6) (f := f31) hx hb hK (g_left (g_right hP)) 0 0 rfl rfl (by omega) (by omega) (by decide) dX2_isSame_223 ?_
                          refine lv_iconst (v := iI (1)) hx hb dX2_isSame_224 rfl ?_
                          refine gi_add hx hb dX2_isSame_225 ?_
                          refine gi_iast (a := q12) (n := 6) (f := f31) hx hb hK hP hD hS 1 0 rfl rfl (by omega) (by omega) (by decide) dX2_isSame_226 (fun H locs hP hD hS => ?_)
                          have hP : va_P D vwCl ([(q88, aI cI 6 (fu (fu (fu (fu (fu (fu (fun _ => 0) 0 (1)) 1 (σ 5 (r * 8 + pl))) 2 (σ 6 (r * 8 + pl))) 3 (σ 4 (r * 8 + pl))) 4 (1)) 5 (apl (σ 6 (r * 8 + pl)) (σ 5 (r * 8 + pl)) (σ 7 (r * 8 + pl)))))] ++ ([(q12, aI cI 6 (fu f31 (σ 4 (r * 8 + pl)) ((f31 (σ 4 (r * 8 + pl))) + 1)))] ++ ((XW cI cZ d σ κx147) ++ (SW cI cT cU ds σ ι)))) H := hP
                          have hD : va_D A ([(q88, aI cI 6 (fu (fu (fu (fu (fu (fu (fun _ => 0) 0 (1)) 1 (σ 5 (r * 8 + pl))) 2 (σ 6 (r * 8 + pl))) 3 (σ 4 (r * 8 + pl))) 4 (1)) 5 (apl (σ 6 (r * 8 + pl)) (σ 5 (r * 8 + pl)) (σ 7 (r * 8 + pl)))))] ++ ([(q12, aI cI 6 (fu f31 (σ 4 (r * 8 + pl)) ((f31 (σ 4 (r * 8 + pl))) + 1)))] ++ ((XW cI cZ d σ κx147) ++ (SW cI cT cU ds σ ι)))) := hD
                          refine lv_iload hx hb dX2_isSame_227 (lv_at hl 5 rfl) ?_
                          refine lv_iconst (v := iI (3)) hx hb dX2_isSame_229 rfl ?_
                          refine gi_icmp_le (tgt := 236) hx hb dX2_isSame_230 (by decide) ⟨by omega, by omega⟩ ⟨by decide, by decide⟩ (fun c230 => ?_) (fun c230 => ?_)
                          · skip
                            refine lv_aload_n hx hb dX2_isSame_236 rfl (lv_at hl 11 rfl) ?_
                            refine va_get (D := D) (ci := 2) (v := .ref (ds 1)) (C := RX2) (T := TX2) (N := 8) hx hb hts hinX2 hown hK (g_right (g_right (g_right hP))) 0 rfl rfl 0 (by decide) (hts (.fieldLink RX2 9 "TwinOrchardLaw$Sim" "trees" "[[LTwinOrchardLaw$Tree;") (List.mem_of_getElem? (i := 2) rfl)) (fun _ h9 => h9) rfl dX2_isSame_237 ?_
                            refine lv_iload hx hb dX2_isSame_240 (lv_at hl 7 rfl) ?_
                            refine s_row (f := srt ds) hx hb hK (g_right (g_right (g_right hP))) 1 3 rfl rfl (by omega) (by omega) (by decide) (v := ds (r.toNat + 7)) (if_pos (by omega)) dX2_isSame_242 ?_
                            refine lv_bipush (v := iI (7)) hx hb dX2_isSame_243 rfl ?_
                            refine lv_iload hx hb dX2_isSame_245 (lv_at hl 5 rfl) ?_
                            refine gi_sub hx hb dX2_isSame_247 ?_
                            refine s_tree (σ := σ) (ι := ι) (r := r) (i := 7 - pl) hx hb hK (g_right (g_right (g_right hP))) (r.toNat + 7) 2 (sw_row (by omega) (by omega)) rfl (by omega) (by omega) dX2_isSame_248 (fun ct248 => ?_) (fun ct248 => ?_)
                            · skip
                              refine lv_astoreN (lv' := [(12, .null), (8, .int (iI (c2 + (apl (σ 6 (r * 8 + pl)) (σ 5 (r * 8 + pl)) (σ 7 (r * 8 + pl)))))), (2, .int (iI (a2 + 1))), (11, .ref (q88)), (10, .ref (ι (r * 8 + pl)).toNat), (9, .int (iI (pl))), (3, .int (iI (b2))), (7, .int (iI (r))), (6, .ref (q12)), (5, .int (iI (0))), (4, .int (iI (0))), (0, .ref (ds 0)), (1, .ref (d 0))]) hx hb dX2_isSame_249 hl (by decide) rfl (fun ls hl => ?_)
                              refine lv_iload_n hx hb dX2_isSame_251 rfl (lv_at hl 6 rfl) ?_
                              refine lv_aload hx hb dX2_isSame_252 (lv_at hl 4 rfl) ?_
                              refine lv_ifnull hx hb dX2_isSame_254 ?_
                              refine lv_aloadN hx hb dX2_isSame_257 (lv_at hl 0 rfl) ?_
                              refine lv_ifnonnullN hx hb dX2_isSame_259 ?_
                              refine lv_aload hx hb dX2_isSame_262 (lv_at hl 4 rfl) ?_
                              refine lv_aloadN hx hb dX2_isSame_264 (lv_at hl 0 rfl) ?_
                              refine lv_acmp_ne (rx := (some (ι (r * 8 + pl)).toNat)) (ry := none) (tgt := 273) hx hb dX2_isSame_266 (by decide) (fun c266 => ?_) (fun c266 => ?_)
                              · skip
                                refine lv_iconst (v := iI (1)) hx hb dX2_isSame_273 rfl ?_
                                refine lv_goto (tgt := 308) hx hb dX2_isSame_274 (by decide) ?_
                                have eu : upr σ r pl = 1 := by unfold upr; rw [em]; first | exact bI_t (by omega) | exact bI_f (by omega)
                                refine gi_add hx hb dX2_isSame_308 ?_
                                refine lv_istore_n (lv' := [(3, .int (iI (b2 + 1))), (12, .null), (8, .int (iI (c2 + (apl (σ 6 (r * 8 + pl)) (σ 5 (r * 8 + pl)) (σ 7 (r * 8 + pl)))))), (2, .int (iI (a2 + 1))), (11, .ref (q88)), (10, .ref (ι (r * 8 + pl)).toNat), (9, .int (iI (pl))), (7, .int (iI (r))), (6, .ref (q12)), (5, .int (iI (0))), (4, .int (iI (0))), (0, .ref (ds 0)), (1, .ref (d 0))]) hx hb dX2_isSame_309 rfl hl (by decide) rfl (fun ls hl => ?_)
                                refine lv_iinc (v := iI (pl + 1)) (lv' := [(9, .int (iI (pl + 1))), (3, .int (iI (b2 + 1))), (12, .null), (8, .int (iI (c2 + (apl (σ 6 (r * 8 + pl)) (σ 5 (r * 8 + pl)) (σ 7 (r * 8 + pl)))))), (2, .int (iI (a2 + 1))), (11, .ref (q88)), (10, .ref (ι (r * 8 + pl)).toNat), (7, .int (iI (r))), (6, .ref (q12)), (5, .int (iI (0))), (4, .int (iI (0))), (0, .ref (ds 0)), (1, .ref (d 0))]) hx hb dX2_isSame_310 hl (k := 6) rfl (iI_add _ _) (by decide) rfl (fun ls hl => ?_)
                                refine lv_goto (tgt := 31) hx hb dX2_isSame_313 (by decide) ?_
                                have hP := g_right hP
                                have hD := g_Dright hD
                                have hP : va_P D vwCl ([(q12, aI cI 6 (fu f31 (σ 4 (r * 8 + pl)) ((f31 (σ 4 (r * 8 + pl))) + 1)))] ++ ((XW cI cZ d σ κx147) ++ (SW cI cT cU ds σ ι))) H := hP
                                have hD : va_D A ([(q12, aI cI 6 (fu f31 (σ 4 (r * 8 + pl)) ((f31 (σ 4 (r * 8 + pl))) + 1)))] ++ ((XW cI cZ d σ κx147) ++ (SW cI cT cU ds σ ι))) := hD
                                exact ih31 (pl + 1) (a2 + 1) (c2 + (apl (σ 6 (r * 8 + pl)) (σ 5 (r * 8 + pl)) (σ 7 (r * 8 + pl)))) (b2 + 1) κx147 (fu f31 (σ 4 (r * 8 + pl)) ((f31 (σ 4 (r * 8 + pl))) + 1)) cl147 sl147 (by omega) (by omega) (by omega) (by rw [← Int.add_assoc, isumI_s _ (by omega), ← ia31]; show _ = _ + bI (¬ σ 4 (r * 8 + pl) = -1); first | (rw [bI_t ct47]; done) | (rw [bI_f (fun q => q ct47)]; done)) (by rw [isumI_s _ hlo31, ← ic31]; unfold lnF; first | (rw [if_pos (by omega), e5]; done) | (rw [if_neg (by omega), e5]; done)) (by first | (rw [show min (pl + 1) 4 = pl + 1 by omega, isumI_s _ hlo31, ib31, show min pl 4 = pl by omega, eu]; omega) | (rw [show min (pl + 1) 4 = min pl 4 by omega]; exact ib31)) (by intro s9 h0 h1; rw [← Int.add_assoc, isumI_s _ (by omega), ← if31 s9 h0 h1]; show _ = _ + bI (σ 4 (r * 8 + pl) = s9); first | (rw [bI_f (by omega)]; omega) | (unfold fu; by_cases e9 : s9 = σ 4 (r * 8 + pl); rw [if_pos e9, bI_t e9.symm, e9]; (rw [if_neg e9, bI_f (fun q => e9 q.symm)]; omega))) (by omega) (by omega) H locs ls hP hD hS (lv_sub hl [0, 4, 3, 1, 7, 8, 9, 10, 11, 12] rfl)
                              · skip
                                exact absurd c266 (by intro h9; cases h9)
                            · skip
                              refine lv_astore (lv' := [(12, .ref (ι (r * 8 + (7 - pl))).toNat), (8, .int (iI (c2 + (apl (σ 6 (r * 8 + pl)) (σ 5 (r * 8 + pl)) (σ 7 (r * 8 + pl)))))), (2, .int (iI (a2 + 1))), (11, .ref (q88)), (10, .ref (ι (r * 8 + pl)).toNat), (9, .int (iI (pl))), (3, .int (iI (b2))), (7, .int (iI (r))), (6, .ref (q12)), (5, .int (iI (0))), (4, .int (iI (0))), (0, .ref (ds 0)), (1, .ref (d 0))]) hx hb dX2_isSame_249 hl (by decide) rfl (fun ls hl => ?_)
                              refine lv_iload_n hx hb dX2_isSame_251 rfl (lv_at hl 6 rfl) ?_
                              refine lv_aload hx hb dX2_isSame_252 (lv_at hl 4 rfl) ?_
                              refine lv_ifnull hx hb dX2_isSame_254 ?_
                              refine lv_aload hx hb dX2_isSame_257 (lv_at hl 0 rfl) ?_
                              refine lv_ifnonnull (tgt := 277) hx hb dX2_isSame_259 (by decide) ?_
                              refine lv_aload hx hb dX2_isSame_277 (lv_at hl 4 rfl) ?_
                              refine va_get (D := D) (ci := 3) (v := .int (iI (σ 4 (r * 8 + pl)))) (C := RX3) (T := TX3) (N := 4) hx hb hts hinX3 hown hK (g_right (g_right (g_right hP))) (spos σ ι (r * 8 + pl)) (sw_at ct47 (by omega) (by omega)) rfl 2 (by decide) (hts (.fieldLink RX2 44 "TwinOrchardLaw$Tree" "sort" "I") (List.mem_of_getElem? (i := 5) rfl)) (fun _ h9 => h9) rfl dX2_isSame_279 ?_
                              refine lv_aload hx hb dX2_isSame_282 (lv_at hl 0 rfl) ?_
                              refine va_get (D := D) (ci := 3) (v := .int (iI (σ 4 (r * 8 + (7 - pl))))) (C := RX3) (T := TX3) (N := 4) hx hb hts hinX3 hown hK (g_right (g_right (g_right hP))) (spos σ ι (r * 8 + (7 - pl))) (sw_at ct248 (by omega) (by omega)) rfl 2 (by decide) (hts (.fieldLink RX2 44 "TwinOrchardLaw$Tree" "sort" "I") (List.mem_of_getElem? (i := 5) rfl)) (fun _ h9 => h9) rfl dX2_isSame_284 ?_
                              refine gi_icmp_ne (tgt := 303) hx hb dX2_isSame_287 (by decide) ⟨by omega, by omega⟩ ⟨by omega, by omega⟩ (fun c287 => ?_) (fun c287 => ?_)
                              · skip
                                refine lv_iconst (v := iI (1)) hx hb dX2_isSame_303 rfl ?_
                                refine lv_goto (tgt := 308) hx hb dX2_isSame_304 (by decide) ?_
                                have eu : upr σ r pl = 1 := by unfold upr; rw [em]; first | exact bI_t (by omega) | exact bI_f (by omega)
                                refine gi_add hx hb dX2_isSame_308 ?_
                                refine lv_istore_n (lv' := [(3, .int (iI (b2 + 1))), (12, .ref (ι (r * 8 + (7 - pl))).toNat), (8, .int (iI (c2 + (apl (σ 6 (r * 8 + pl)) (σ 5 (r * 8 + pl)) (σ 7 (r * 8 + pl)))))), (2, .int (iI (a2 + 1))), (11, .ref (q88)), (10, .ref (ι (r * 8 + pl)).toNat), (9, .int (iI (pl))), (7, .int (iI (r))), (6, .ref (q12)), (5, .int (iI (0))), (4, .int (iI (0))), (0, .ref (ds 0)), (1, .ref (d 0))]) hx hb dX2_isSame_309 rfl hl (by decide) rfl (fun ls hl => ?_)
                                refine lv_iinc (v := iI (pl + 1)) (lv' := [(9, .int (iI (pl + 1))), (3, .int (iI (b2 + 1))), (12, .ref (ι (r * 8 + (7 - pl))).toNat), (8, .int (iI (c2 + (apl (σ 6 (r * 8 + pl)) (σ 5 (r * 8 + pl)) (σ 7 (r * 8 + pl)))))), (2, .int (iI (a2 + 1))), (11, .ref (q88)), (10, .ref (ι (r * 8 + pl)).toNat), (7, .int (iI (r))), (6, .ref (q12)), (5, .int (iI (0))), (4, .int (iI (0))), (0, .ref (ds 0)), (1, .ref (d 0))]) hx hb dX2_isSame_310 hl (k := 6) rfl (iI_add _ _) (by decide) rfl (fun ls hl => ?_)
                                refine lv_goto (tgt := 31) hx hb dX2_isSame_313 (by decide) ?_
                                have hP := g_right hP
                                have hD := g_Dright hD
                                have hP : va_P D vwCl ([(q12, aI cI 6 (fu f31 (σ 4 (r * 8 + pl)) ((f31 (σ 4 (r * 8 + pl))) + 1)))] ++ ((XW cI cZ d σ κx147) ++ (SW cI cT cU ds σ ι))) H := hP
                                have hD : va_D A ([(q12, aI cI 6 (fu f31 (σ 4 (r * 8 + pl)) ((f31 (σ 4 (r * 8 + pl))) + 1)))] ++ ((XW cI cZ d σ κx147) ++ (SW cI cT cU ds σ ι))) := hD
                                exact ih31 (pl + 1) (a2 + 1) (c2 + (apl (σ 6 (r * 8 + pl)) (σ 5 (r * 8 + pl)) (σ 7 (r * 8 + pl)))) (b2 + 1) κx147 (fu f31 (σ 4 (r * 8 + pl)) ((f31 (σ 4 (r * 8 + pl))) + 1)) cl147 sl147 (by omega) (by omega) (by omega) (by rw [← Int.add_assoc, isumI_s _ (by omega), ← ia31]; show _ = _ + bI (¬ σ 4 (r * 8 + pl) = -1); first | (rw [bI_t ct47]; done) | (rw [bI_f (fun q => q ct47)]; done)) (by rw [isumI_s _ hlo31, ← ic31]; unfold lnF; first | (rw [if_pos (by omega), e5]; done) | (rw [if_neg (by omega), e5]; done)) (by first | (rw [show min (pl + 1) 4 = pl + 1 by omega, isumI_s _ hlo31, ib31, show min pl 4 = pl by omega, eu]; omega) | (rw [show min (pl + 1) 4 = min pl 4 by omega]; exact ib31)) (by intro s9 h0 h1; rw [← Int.add_assoc, isumI_s _ (by omega), ← if31 s9 h0 h1]; show _ = _ + bI (σ 4 (r * 8 + pl) = s9); first | (rw [bI_f (by omega)]; omega) | (unfold fu; by_cases e9 : s9 = σ 4 (r * 8 + pl); rw [if_pos e9, bI_t e9.symm, e9]; (rw [if_neg e9, bI_f (fun q => e9 q.symm)]; omega))) (by omega) (by omega) H locs ls hP hD hS (lv_sub hl [0, 4, 3, 1, 7, 8, 9, 10, 11, 12] rfl)
                              · skip
                                refine lv_aload hx hb dX2_isSame_290 (lv_at hl 4 rfl) ?_
                                refine va_get (D := D) (ci := 3) (v := .int (iI (σ 5 (r * 8 + pl)))) (C := RX3) (T := TX3) (N := 4) hx hb hts hinX3 hown hK (g_right (g_right (g_right hP))) (spos σ ι (r * 8 + pl)) (sw_at ct47 (by omega) (by omega)) rfl 0 (by decide) (hts (.fieldLink RX2 41 "TwinOrchardLaw$Tree" "branches" "I") (List.mem_of_getElem? (i := 3) rfl)) (fun _ h9 => h9) rfl dX2_isSame_292 ?_
                                refine lv_aload hx hb dX2_isSame_295 (lv_at hl 0 rfl) ?_
                                refine va_get (D := D) (ci := 3) (v := .int (iI (σ 5 (r * 8 + (7 - pl))))) (C := RX3) (T := TX3) (N := 4) hx hb hts hinX3 hown hK (g_right (g_right (g_right hP))) (spos σ ι (r * 8 + (7 - pl))) (sw_at ct248 (by omega) (by omega)) rfl 0 (by decide) (hts (.fieldLink RX2 41 "TwinOrchardLaw$Tree" "branches" "I") (List.mem_of_getElem? (i := 3) rfl)) (fun _ h9 => h9) rfl dX2_isSame_297 ?_
                                refine gi_icmp_eq (tgt := 307) hx hb dX2_isSame_300 (by decide) ⟨by omega, by omega⟩ ⟨by omega, by omega⟩ (fun c300 => ?_) (fun c300 => ?_)
                                · skip
                                  refine lv_iconst (v := iI (0)) hx hb dX2_isSame_307 rfl ?_
                                  have eu : upr σ r pl = 0 := by unfold upr; rw [em]; first | exact bI_t (by omega) | exact bI_f (by omega)
                                  refine gi_add hx hb dX2_isSame_308 ?_
                                  refine lv_istore_n (lv' := [(3, .int (iI (b2 + 0))), (12, .ref (ι (r * 8 + (7 - pl))).toNat), (8, .int (iI (c2 + (apl (σ 6 (r * 8 + pl)) (σ 5 (r * 8 + pl)) (σ 7 (r * 8 + pl)))))), (2, .int (iI (a2 + 1))), (11, .ref (q88)), (10, .ref (ι (r * 8 + pl)).toNat), (9, .int (iI (pl))), (7, .int (iI (r))), (6, .ref (q12)), (5, .int (iI (0))), (4, .int (iI (0))), (0, .ref (ds 0)), (1, .ref (d 0))]) hx hb dX2_isSame_309 rfl hl (by decide) rfl (fun ls hl => ?_)
                                  refine lv_iinc (v := iI (pl + 1)) (lv' := [(9, .int (iI (pl + 1))), (3, .int (iI (b2 + 0))), (12, .ref (ι (r * 8 + (7 - pl))).toNat), (8, .int (iI (c2 + (apl (σ 6 (r * 8 + pl)) (σ 5 (r * 8 + pl)) (σ 7 (r * 8 + pl)))))), (2, .int (iI (a2 + 1))), (11, .ref (q88)), (10, .ref (ι (r * 8 + pl)).toNat), (7, .int (iI (r))), (6, .ref (q12)), (5, .int (iI (0))), (4, .int (iI (0))), (0, .ref (ds 0)), (1, .ref (d 0))]) hx hb dX2_isSame_310 hl (k := 6) rfl (iI_add _ _) (by decide) rfl (fun ls hl => ?_)
                                  refine lv_goto (tgt := 31) hx hb dX2_isSame_313 (by decide) ?_
                                  have hP := g_right hP
                                  have hD := g_Dright hD
                                  have hP : va_P D vwCl ([(q12, aI cI 6 (fu f31 (σ 4 (r * 8 + pl)) ((f31 (σ 4 (r * 8 + pl))) + 1)))] ++ ((XW cI cZ d σ κx147) ++ (SW cI cT cU ds σ ι))) H := hP
                                  have hD : va_D A ([(q12, aI cI 6 (fu f31 (σ 4 (r * 8 + pl)) ((f31 (σ 4 (r * 8 + pl))) + 1)))] ++ ((XW cI cZ d σ κx147) ++ (SW cI cT cU ds σ ι))) := hD
                                  exact ih31 (pl + 1) (a2 + 1) (c2 + (apl (σ 6 (r * 8 + pl)) (σ 5 (r * 8 + pl)) (σ 7 (r * 8 + pl)))) (b2 + 0) κx147 (fu f31 (σ 4 (r * 8 + pl)) ((f31 (σ 4 (r * 8 + pl))) + 1)) cl147 sl147 (by omega) (by omega) (by omega) (by rw [← Int.add_assoc, isumI_s _ (by omega), ← ia31]; show _ = _ + bI (¬ σ 4 (r * 8 + pl) = -1); first | (rw [bI_t ct47]; done) | (rw [bI_f (fun q => q ct47)]; done)) (by rw [isumI_s _ hlo31, ← ic31]; unfold lnF; first | (rw [if_pos (by omega), e5]; done) | (rw [if_neg (by omega), e5]; done)) (by first | (rw [show min (pl + 1) 4 = pl + 1 by omega, isumI_s _ hlo31, ib31, show min pl 4 = pl by omega, eu]; omega) | (rw [show min (pl + 1) 4 = min pl 4 by omega]; exact ib31)) (by intro s9 h0 h1; rw [← Int.add_assoc, isumI_s _ (by omega), ← if31 s9 h0 h1]; show _ = _ + bI (σ 4 (r * 8 + pl) = s9); first | (rw [bI_f (by omega)]; omega) | (unfold fu; by_cases e9 : s9 = σ 4 (r * 8 + pl); rw [if_pos e9, bI_t e9.symm, e9]; (rw [if_neg e9, bI_f (fun q => e9 q.symm)]; omega))) (by omega) (by omega) H locs ls hP hD hS (lv_sub hl [0, 4, 3, 1, 7, 8, 9, 10, 11, 12] rfl)
                                · skip
                                  refine lv_iconst (v := iI (1)) hx hb dX2_isSame_303 rfl ?_
                                  refine lv_goto (tgt := 308) hx hb dX2_isSame_304 (by decide) ?_
                                  have eu : upr σ r pl = 1 := by unfold upr; rw [em]; first | exact bI_t (by omega) | exact bI_f (by omega)
                                  refine gi_add hx hb dX2_isSame_308 ?_
                                  refine lv_istore_n (lv' := [(3, .int (iI (b2 + 1))), (12, .ref (ι (r * 8 + (7 - pl))).toNat), (8, .int (iI (c2 + (apl (σ 6 (r * 8 + pl)) (σ 5 (r * 8 + pl)) (σ 7 (r * 8 + pl)))))), (2, .int (iI (a2 + 1))), (11, .ref (q88)), (10, .ref (ι (r * 8 + pl)).toNat), (9, .int (iI (pl))), (7, .int (iI (r))), (6, .ref (q12)), (5, .int (iI (0))), (4, .int (iI (0))), (0, .ref (ds 0)), (1, .ref (d 0))]) hx hb dX2_isSame_309 rfl hl (by decide) rfl (fun ls hl => ?_)
                                  refine lv_iinc (v := iI (pl + 1)) (lv' := [(9, .int (iI (pl + 1))), (3, .int (iI (b2 + 1))), (12, .ref (ι (r * 8 + (7 - pl))).toNat), (8, .int (iI (c2 + (apl (σ 6 (r * 8 + pl)) (σ 5 (r * 8 + pl)) (σ 7 (r * 8 + pl)))))), (2, .int (iI (a2 + 1))), (11, .ref (q88)), (10, .ref (ι (r * 8 + pl)).toNat), (7, .int (iI (r))), (6, .ref (q12)), (5, .int (iI (0))), (4, .int (iI (0))), (0, .ref (ds 0)), (1, .ref (d 0))]) hx hb dX2_isSame_310 hl (k := 6) rfl (iI_add _ _) (by decide) rfl (fun ls hl => ?_)
                                  refine lv_goto (tgt := 31) hx hb dX2_isSame_313 (by decide) ?_
                                  have hP := g_right hP
                                  have hD := g_Dright hD
                                  have hP : va_P D vwCl ([(q12, aI cI 6 (fu f31 (σ 4 (r * 8 + pl)) ((f31 (σ 4 (r * 8 + pl))) + 1)))] ++ ((XW cI cZ d σ κx147) ++ (SW cI cT cU ds σ ι))) H := hP
                                  have hD : va_D A ([(q12, aI cI 6 (fu f31 (σ 4 (r * 8 + pl)) ((f31 (σ 4 (r * 8 + pl))) + 1)))] ++ ((XW cI cZ d σ κx147) ++ (SW cI cT cU ds σ ι))) := hD
                                  exact ih31 (pl + 1) (a2 + 1) (c2 + (apl (σ 6 (r * 8 + pl)) (σ 5 (r * 8 + pl)) (σ 7 (r * 8 + pl)))) (b2 + 1) κx147 (fu f31 (σ 4 (r * 8 + pl)) ((f31 (σ 4 (r * 8 + pl))) + 1)) cl147 sl147 (by omega) (by omega) (by omega) (by rw [← Int.add_assoc, isumI_s _ (by omega), ← ia31]; show _ = _ + bI (¬ σ 4 (r * 8 + pl) = -1); first | (rw [bI_t ct47]; done) | (rw [bI_f (fun q => q ct47)]; done)) (by rw [isumI_s _ hlo31, ← ic31]; unfold lnF; first | (rw [if_pos (by omega), e5]; done) | (rw [if_neg (by omega), e5]; done)) (by first | (rw [show min (pl + 1) 4 = pl + 1 by omega, isumI_s _ hlo31, ib31, show min pl 4 = pl by omega, eu]; omega) | (rw [show min (pl + 1) 4 = min pl 4 by omega]; exact ib31)) (by intro s9 h0 h1; rw [← Int.add_assoc, isumI_s _ (by omega), ← if31 s9 h0 h1]; show _ = _ + bI (σ 4 (r * 8 + pl) = s9); first | (rw [bI_f (by omega)]; omega) | (unfold fu; by_cases e9 : s9 = σ 4 (r * 8 + pl); rw [if_pos e9, bI_t e9.symm, e9]; (rw [if_neg e9, bI_f (fun q => e9 q.symm)]; omega))) (by omega) (by omega) H locs ls hP hD hS (lv_sub hl [0, 4, 3, 1, 7, 8, 9, 10, 11, 12] rfl)
                          · skip
                            exfalso
                            omega
                      · skip
                        refine lv_aload_n hx hb dX2_isSame_154 rfl (lv_at hl 12 rfl) ?_
                        refine lv_iload hx hb dX2_isSame_155 (lv_at hl 7 rfl) ?_
                        refine lv_iload hx hb dX2_isSame_157 (lv_at hl 3 rfl) ?_
                        refine lv_iload hx hb dX2_isSame_159 (lv_at hl 0 rfl) ?_
                        have hp9 : ((XW cI cZ d σ κx147) ++ ([(q88, aI cI 6 (fu (fu (fu (fu (fu (fu (fun _ => 0) 0 (1)) 1 (σ 5 (r * 8 + pl))) 2 (σ 6 (r * 8 + pl))) 3 (σ 4 (r * 8 + pl))) 4 (1)) 5 (apl (σ 6 (r * 8 + pl)) (σ 5 (r * 8 + pl)) (σ 7 (r * 8 + pl)))))] ++ ([(q12, aI cI 6 f31)] ++ (SW cI cT cU ds σ ι))) : va_W).Perm ([(q88, aI cI 6 (fu (fu (fu (fu (fu (fu (fun _ => 0) 0 (1)) 1 (σ 5 (r * 8 + pl))) 2 (σ 6 (r * 8 + pl))) 3 (σ 4 (r * 8 + pl))) 4 (1)) 5 (apl (σ 6 (r * 8 + pl)) (σ 5 (r * 8 + pl)) (σ 7 (r * 8 + pl)))))] ++ ([(q12, aI cI 6 f31)] ++ ((XW cI cZ d σ κx147) ++ (SW cI cT cU ds σ ι))) : va_W) := ((List.perm_append_comm_assoc _ _ _)).trans ((List.Perm.append_left _ (List.perm_append_comm_assoc _ _ _)))
                        have hPc : va_P D vwCl ((XW cI cZ d σ κx147) ++ ([(q88, aI cI 6 (fu (fu (fu (fu (fu (fu (fun _ => 0) 0 (1)) 1 (σ 5 (r * 8 + pl))) 2 (σ 6 (r * 8 + pl))) 3 (σ 4 (r * 8 + pl))) 4 (1)) 5 (apl (σ 6 (r * 8 + pl)) (σ 5 (r * 8 + pl)) (σ 7 (r * 8 + pl)))))] ++ ([(q12, aI cI 6 f31)] ++ (SW cI cT cU ds σ ι)))) H := va_mem hP (fun q9 hq9 => hp9.mem_iff.mp hq9)
                        have hDc : va_D A ((XW cI cZ d σ κx147) ++ ([(q88, aI cI 6 (fu (fu (fu (fu (fu (fu (fun _ => 0) 0 (1)) 1 (σ 5 (r * 8 + pl))) 2 (σ 6 (r * 8 + pl))) 3 (σ 4 (r * 8 + pl))) 4 (1)) 5 (apl (σ 6 (r * 8 + pl)) (σ 5 (r * 8 + pl)) (σ 7 (r * 8 + pl)))))] ++ ([(q12, aI cI 6 f31)] ++ (SW cI cT cU ds σ ι)))) := va_Dp hD hp9
                        refine h_call0 (vx_runV (As := [.int (iI (r)), .int (iI (pl)), .int (iI (w1))]) (rest := []) S ((kX1_tree l hfl D cI cZ d σ κx147 r pl w1 (by first | assumption | omega) (by first | assumption | omega) (by first | assumption | omega) (by first | assumption | omega) (by first | assumption | omega) (by first | assumption | omega) (by first | assumption | omega)) H.size) (cwV 3 hts gX2_isSame_X1_tree rfl rfl rfl (by decide +kernel) ⟨Nat.le_of_ble_eq_true rfl, Nat.le_of_ble_eq_true rfl⟩) (h_preV hK [0, 1] rfl hPc hDc hS hA hTE (q0 := 0) (ci := 1) rfl rfl rfl) rfl rfl hl.1 rfl (lv_room (Nat.le_of_ble_eq_true rfl)) dX2_isSame_161 ⟨by show cl147 + 1 ≤ 326; omega, by show sl147 + 6 ≤ 1940; omega⟩) hPc hDc hS hA (fun E h => (by have h0 : (tTree r pl w1) = 0 := (by unfold tTree; rw [if_neg (by omega)]); rcases h with ⟨_, h⟩ <;> omega)) (fun κ9 H locs hk hP hD hS => ?_)
                        obtain ⟨z10, ezz10⟩ : ∃ z, z = κ9 := ⟨_, rfl⟩
                        subst ezz10
                        have hP : va_P D vwCl ((XW cI cZ d σ z10) ++ ([(q88, aI cI 6 (fu (fu (fu (fu (fu (fu (fun _ => 0) 0 (1)) 1 (σ 5 (r * 8 + pl))) 2 (σ 6 (r * 8 + pl))) 3 (σ 4 (r * 8 + pl))) 4 (1)) 5 (apl (σ 6 (r * 8 + pl)) (σ 5 (r * 8 + pl)) (σ 7 (r * 8 + pl)))))] ++ ([(q12, aI cI 6 f31)] ++ (SW cI cT cU ds σ ι)))) H := hP
                        have hD : va_D A ((XW cI cZ d σ z10) ++ ([(q88, aI cI 6 (fu (fu (fu (fu (fu (fu (fun _ => 0) 0 (1)) 1 (σ 5 (r * 8 + pl))) 2 (σ 6 (r * 8 + pl))) 3 (σ 4 (r * 8 + pl))) 4 (1)) 5 (apl (σ 6 (r * 8 + pl)) (σ 5 (r * 8 + pl)) (σ 7 (r * 8 + pl)))))] ++ ([(q12, aI cI 6 f31)] ++ (SW cI cT cU ds σ ι)))) := hD
                        have hp9 : ([(q88, aI cI 6 (fu (fu (fu (fu (fu (fu (fun _ => 0) 0 (1)) 1 (σ 5 (r * 8 + pl))) 2 (σ 6 (r * 8 + pl))) 3 (σ 4 (r * 8 + pl))) 4 (1)) 5 (apl (σ 6 (r * 8 + pl)) (σ 5 (r * 8 + pl)) (σ 7 (r * 8 + pl)))))] ++ ([(q12, aI cI 6 f31)] ++ ((XW cI cZ d σ z10) ++ (SW cI cT cU ds σ ι))) : va_W).Perm ((XW cI cZ d σ z10) ++ ([(q88, aI cI 6 (fu (fu (fu (fu (fu (fu (fun _ => 0) 0 (1)) 1 (σ 5 (r * 8 + pl))) 2 (σ 6 (r * 8 + pl))) 3 (σ 4 (r * 8 + pl))) 4 (1)) 5 (apl (σ 6 (r * 8 + pl)) (σ 5 (r * 8 + pl)) (σ 7 (r * 8 + pl)))))] ++ ([(q12, aI cI 6 f31)] ++ (SW cI cT cU ds σ ι))) : va_W) := ((List.Perm.append_left _ (List.perm_append_comm_assoc _ _ _))).trans ((List.perm_append_comm_assoc _ _ _))
                        have hP : va_P D vwCl ([(q88, aI cI 6 (fu (fu (fu (fu (fu (fu (fun _ => 0) 0 (1)) 1 (σ 5 (r * 8 + pl))) 2 (σ 6 (r * 8 + pl))) 3 (σ 4 (r * 8 + pl))) 4 (1)) 5 (apl (σ 6 (r * 8 + pl)) (σ 5 (r * 8 + pl)) (σ 7 (r * 8 + pl)))))] ++ ([(q12, aI cI 6 f31)] ++ ((XW cI cZ d σ z10) ++ (SW cI cT cU ds σ ι)))) H := va_mem hP (fun q9 hq9 => hp9.mem_iff.mp hq9)
                        have hD : va_D A ([(q88, aI cI 6 (fu (fu (fu (fu (fu (fu (fun _ => 0) 0 (1)) 1 (σ 5 (r * 8 + pl))) 2 (σ 6 (r * 8 + pl))) 3 (σ 4 (r * 8 + pl))) 4 (1)) 5 (apl (σ 6 (r * 8 + pl)) (σ 5 (r * 8 + pl)) (σ 7 (r * 8 + pl)))))] ++ ([(q12, aI cI 6 f31)] ++ ((XW cI cZ d σ z10) ++ (SW cI cT cU ds σ ι)))) := va_Dp hD hp9
                        show W p l e ({ frames := 7, cells := 326, slots := 1940, locals := 116 } : Room) s m args below meth c H locs (cl147 + 1) (sl147 + 6) (MQ below (gQ D (tyA cI cZ cT cU cQ) (fun κ' => (XW cI cZ d σ κ') ++ (SW cI cT cU ds σ (κ' 2))) A (fun _ => some (.int (iI (1)))) (fun κ' => True)) args s 326 1940 A) (F0 m 164 ls [.int (iI (xTree σ (r * 8 + pl) w1))])
                        refine lv_aload hx hb dX2_isSame_164 (lv_at hl 1 rfl) ?_
                        refine lv_iload hx hb dX2_isSame_166 (lv_at hl 0 rfl) ?_
                        refine gi_iald (a := (q88)) (n := 6) (f := fu (fu (fu (fu (fu (fu (fun _ => 0) 0 (1)) 1 (σ 5 (r * 8 + pl))) 2 (σ 6 (r * 8 + pl))) 3 (σ 4 (r * 8 + pl))) 4 (1)) 5 (apl (σ 6 (r * 8 + pl)) (σ 5 (r * 8 + pl)) (σ 7 (r * 8 + pl)))) hx hb hK (g_left hP) 0 0 rfl rfl (by omega) (by omega) (by decide) dX2_isSame_168 ?_
                        rw [show ((fu (fu (fu (fu (fu (fu (fun _ => 0) 0 (1)) 1 (σ 5 (r * 8 + pl))) 2 (σ 6 (r * 8 + pl))) 3 (σ 4 (r * 8 + pl))) 4 (1)) 5 (apl (σ 6 (r * 8 + pl)) (σ 5 (r * 8 + pl)) (σ 7 (r * 8 + pl)))) w1 : Int) = (xTree σ (r * 8 + pl) w1) from by exact hf9 w1 (by omega) (by omega)]
                        refine gi_icmp_eq (tgt := 174) hx hb dX2_isSame_169 (by decide) (xTreeR hwf _ _) (xTreeR hwf _ _) (fun c169 => ?_) (fun c169 => ?_)
                        · skip
                          refine lv_iinc (v := iI (w1 + 1)) (lv' := [(12, .int (iI (w1 + 1))), (11, .ref (q88)), (10, .ref (ι (r * 8 + pl)).toNat), (9, .int (iI (pl))), (2, .int (iI (a2))), (8, .int (iI (c2))), (3, .int (iI (b2))), (7, .int (iI (r))), (6, .ref (q12)), (5, .int (iI (0))), (4, .int (iI (0))), (0, .ref (ds 0)), (1, .ref (d 0))]) hx hb dX2_isSame_174 hl (k := 0) rfl (iI_add _ _) (by decide) rfl (fun ls hl => ?_)
                          refine lv_goto (tgt := 147) hx hb dX2_isSame_177 (by decide) ?_
                          exact ih147 (w1 + 1) z10 (cl147 + 1) (sl147 + 6) (by omega) (by omega) (by omega) (by omega) (by omega) H locs ls hP hD hS (lv_sub hl [0, 1, 2, 3, 4, 5, 6, 7, 8, 9, 10, 11, 12] rfl)
                        · skip
                          exact absurd rfl c169
                  exact loop147 (((6 - (0) + 1 : Int)).toNat) 0 κx31 (cl31 + 1) (sl31 + 6) (by omega) (by omega) (by omega) (by omega) (by omega) H locs ls hP hD hS (lv_sub hl [0, 1, 2, 3, 4, 5, 6, 7, 8, 9, 10, 11, 12] rfl)
        exact loop31 (((8 - (0) + 1 : Int)).toNat) 0 a 0 b κx19 f19 cl19 sl19 (by omega) (by omega) (by omega) (by rw [Int.add_zero]; exact ia19) (by rfl) (by rw [show min (0 : Int) 4 = 0 by decide, isumI_0]; omega) (by intro s9 h0 h1; rw [Int.add_zero]; exact if19 s9 h0 h1) (by omega) (by omega) H locs ls hP hD hS (lv_sub hl [0, 3, 1, 4, 2, 5, 6, 7, 8, 9] rfl)
  exact loop19 (((5 - (0) + 1 : Int)).toNat) 0 0 0 κ (fun _ => 0) 1 6 (by omega) (by omega) (by omega) (by rfl) (by rfl) (by intro s9 h0 h1; rfl) (by omega) (by omega) H locs ls hP hD hS (lv_sub hl [0, 5, 4, 1, 2, 3, 6, 7] rfl)
