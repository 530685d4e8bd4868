set_option maxHeartbeats 4000000 in
set_option maxRecDepth 100000 in
theorem kX2_kept (l : Launch) (D : va_G) (cI cZ cQ : ClassId) (d : Nat → Nat) (σ : St)    : gMet l yX2_kept wsX2_kept ({ frames := 1, cells := 4, slots := 212, locals := 24 } : Room) D (tyMs cI cZ cQ) (MW cI d σ) [.ref (d 0)] (mEx (MW cI d σ)) (fun κ' => some (.ref (κ' 0 0).toNat)) (fun _ => True) (fun κ' => MW cI d σ ++ KW cI cQ (κ' 0 0).toNat (κ' 0 1).toNat (κ' 0 2).toNat (κ' 0 3).toNat σ) := by
  refine g_startM (cc := cX2_kept) (maxL := 1) (ret := (some (.array (.array .int)))) (by decide) rfl (Nat.le_of_ble_eq_true rfl) ?_
  intro p e s m args below meth c A ls H locs S hr hlocks hname hP hK hD hA hS hE hl
  have S0 := S
  obtain ⟨hx, hb, hml, hown, hts⟩ := S0
  have hl : lv_has ls 1 [(0, .ref (d 0))] := hl
  have hinX2 : ∀ w ∈ wsX20, w ∈ wsX2_kept := by decide +kernel
  obtain ⟨⟨t9, hZ9, hT9⟩, hAO9, hCl9⟩ := id hE
  refine lv_iconst (v := iI (3)) hx hb dX2_kept_0 rfl ?_
  refine g_newA hx hb hown (hts _ (List.mem_of_getElem? (i := 1) rfl)) hE.2.1 hK hP hD hS hA (Nat.le_of_ble_eq_true rfl) (Nat.le_of_ble_eq_true rfl) dX2_kept_1 (fun q1 cA H hQ hK hP hD hS => ?_)
  have e9 : cQ = cA := g_clsQ hK 2 3 rfl rfl
  subst e9
  have hK : va_K D vwCl (tyMs cI cZ cQ) s := hK.sub [0, 1, 2] rfl
  have hP : va_P D vwCl (MW cI d σ ++ [(q1, .inl (cQ, (3, .inr (.inr (.inr (.inr (fun _ => none)))))))]) H := hP
  have hD : va_D A (MW cI d σ ++ [(q1, .inl (cQ, (3, .inr (.inr (.inr (.inr (fun _ => none)))))))]) := hD
  refine lv_dup hx hb dX2_kept_4 rfl ?_
  refine lv_iconst (v := iI (0)) hx hb dX2_kept_5 rfl ?_
  refine lv_aload_n hx hb dX2_kept_6 rfl (lv_at hl 0 rfl) ?_
  refine va_get (D := D) (ci := 2) (v := .ref (d 4)) (C := RX2) (T := TX2) (N := 8) hx hb hts hinX2 hown hK hP 0 rfl rfl 4 (by decide) (hts (.fieldLink RX2 19 "TwinOrchardModel" "trees" "[I") (List.mem_of_getElem? (i := 2) rfl)) (fun _ h9 => h9) rfl dX2_kept_7 ?_
  refine va_clone (x := (200, .inl (fun j : Nat => iI ((σ 3) (j : Int))))) hx hb (hml.trans hl.1.symm) hown (hts _ (List.mem_of_getElem? (i := 3) rfl)) (hts _ (List.mem_of_getElem? (i := 4) rfl)) (hts _ (List.mem_of_getElem? (i := 5) rfl)) (hts _ (List.mem_of_getElem? (i := 6) rfl)) (hts _ (List.mem_of_getElem? (i := 7) rfl)) hE.2.2 hK hP hD hS hA 4 0 rfl rfl (va_nm_int (hK.2 0 _ rfl).2) (fun i v hv => va_fit (F := fun j : Nat => .int (iI ((σ 3) (j : Int)))) (fun _ _ => rfl) i v hv) (Nat.le_of_ble_eq_true rfl) (Nat.le_of_ble_eq_true rfl) (Nat.le_of_ble_eq_true rfl) (Nat.le_of_ble_eq_true rfl) dX2_kept_10 (fun q10 H hK hP hD hS => ?_)
  have hK : va_K D vwCl (tyMs cI cZ cQ) s := hK.sub [0, 1, 2] rfl
  have hP : va_P D vwCl (MW cI d σ ++ [(q1, .inl (cQ, (3, .inr (.inr (.inr (.inr (fun _ => none))))))), (q10, aI cI 200 (σ 3))]) H := hP
  have hD : va_D A (MW cI d σ ++ [(q1, .inl (cQ, (3, .inr (.inr (.inr (.inr (fun _ => none))))))), (q10, aI cI 200 (σ 3))]) := hD
  refine va_castA hx hb hown (hts _ (List.mem_of_getElem? (i := 1) rfl)) hP 8 rfl (va_nm_int (hK.2 0 _ rfl).2) dX2_kept_13 ?_
  refine g_aast (fk := σ 3) (nk := 200) hx hb hK hP hD hS 7 8 0 hQ rfl rfl rfl 0 rfl (by decide) dX2_kept_16 (fun H locs hP hD hS => ?_)
  have hP : va_P D vwCl (MW cI d σ ++ [(q1, .inl (cQ, (3, .inr (.inr (.inr (.inr (va_up (fun _ => none) 0 (some q10)))))))), (q10, aI cI 200 (σ 3))]) H := hP
  have hD : va_D A (MW cI d σ ++ [(q1, .inl (cQ, (3, .inr (.inr (.inr (.inr (va_up (fun _ => none) 0 (some q10)))))))), (q10, aI cI 200 (σ 3))]) := hD
  refine lv_dup hx hb dX2_kept_17 rfl ?_
  refine lv_iconst (v := iI (1)) hx hb dX2_kept_18 rfl ?_
  refine lv_aload_n hx hb dX2_kept_19 rfl (lv_at hl 0 rfl) ?_
  refine va_get (D := D) (ci := 2) (v := .ref (d 5)) (C := RX2) (T := TX2) (N := 8) hx hb hts hinX2 hown hK hP 0 rfl rfl 5 (by decide) (hts (.fieldLink RX2 22 "TwinOrchardModel" "barn" "[I") (List.mem_of_getElem? (i := 8) rfl)) (fun _ h9 => h9) rfl dX2_kept_20 ?_
  refine va_clone (x := (6, .inl (fun j : Nat => iI ((σ 4) (j : Int))))) hx hb (hml.trans hl.1.symm) hown (hts _ (List.mem_of_getElem? (i := 3) rfl)) (hts _ (List.mem_of_getElem? (i := 4) rfl)) (hts _ (List.mem_of_getElem? (i := 5) rfl)) (hts _ (List.mem_of_getElem? (i := 6) rfl)) (hts _ (List.mem_of_getElem? (i := 7) rfl)) hE.2.2 hK hP hD hS hA 5 0 rfl rfl (va_nm_int (hK.2 0 _ rfl).2) (fun i v hv => va_fit (F := fun j : Nat => .int (iI ((σ 4) (j : Int)))) (fun _ _ => rfl) i v hv) (Nat.le_of_ble_eq_true rfl) (Nat.le_of_ble_eq_true rfl) (Nat.le_of_ble_eq_true rfl) (Nat.le_of_ble_eq_true rfl) dX2_kept_23 (fun q23 H hK hP hD hS => ?_)
  have hK : va_K D vwCl (tyMs cI cZ cQ) s := hK.sub [0, 1, 2] rfl
  have hP : va_P D vwCl (MW cI d σ ++ [(q1, .inl (cQ, (3, .inr (.inr (.inr (.inr (va_up (fun _ => none) 0 (some q10)))))))), (q10, aI cI 200 (σ 3)), (q23, aI cI 6 (σ 4))]) H := hP
  have hD : va_D A (MW cI d σ ++ [(q1, .inl (cQ, (3, .inr (.inr (.inr (.inr (va_up (fun _ => none) 0 (some q10)))))))), (q10, aI cI 200 (σ 3)), (q23, aI cI 6 (σ 4))]) := hD
  refine va_castA hx hb hown (hts _ (List.mem_of_getElem? (i := 1) rfl)) hP 9 rfl (va_nm_int (hK.2 0 _ rfl).2) dX2_kept_26 ?_
  refine g_aast (fk := σ 4) (nk := 6) hx hb hK hP hD hS 7 9 0 hQ rfl rfl rfl 1 rfl (by decide) dX2_kept_29 (fun H locs hP hD hS => ?_)
  have hP : va_P D vwCl (MW cI d σ ++ [(q1, .inl (cQ, (3, .inr (.inr (.inr (.inr (va_up (va_up (fun _ => none) 0 (some q10)) 1 (some q23)))))))), (q10, aI cI 200 (σ 3)), (q23, aI cI 6 (σ 4))]) H := hP
  have hD : va_D A (MW cI d σ ++ [(q1, .inl (cQ, (3, .inr (.inr (.inr (.inr (va_up (va_up (fun _ => none) 0 (some q10)) 1 (some q23)))))))), (q10, aI cI 200 (σ 3)), (q23, aI cI 6 (σ 4))]) := hD
  refine lv_dup hx hb dX2_kept_30 rfl ?_
  refine lv_iconst (v := iI (2)) hx hb dX2_kept_31 rfl ?_
  refine lv_aload_n hx hb dX2_kept_32 rfl (lv_at hl 0 rfl) ?_
  refine va_get (D := D) (ci := 2) (v := .ref (d 6)) (C := RX2) (T := TX2) (N := 8) hx hb hts hinX2 hown hK hP 0 rfl rfl 6 (by decide) (hts (.fieldLink RX2 25 "TwinOrchardModel" "numbers" "[I") (List.mem_of_getElem? (i := 9) rfl)) (fun _ h9 => h9) rfl dX2_kept_33 ?_
  refine va_clone (x := (3, .inl (fun j : Nat => iI ((σ 5) (j : Int))))) hx hb (hml.trans hl.1.symm) hown (hts _ (List.mem_of_getElem? (i := 3) rfl)) (hts _ (List.mem_of_getElem? (i := 4) rfl)) (hts _ (List.mem_of_getElem? (i := 5) rfl)) (hts _ (List.mem_of_getElem? (i := 6) rfl)) (hts _ (List.mem_of_getElem? (i := 7) rfl)) hE.2.2 hK hP hD hS hA 6 0 rfl rfl (va_nm_int (hK.2 0 _ rfl).2) (fun i v hv => va_fit (F := fun j : Nat => .int (iI ((σ 5) (j : Int)))) (fun _ _ => rfl) i v hv) (Nat.le_of_ble_eq_true rfl) (Nat.le_of_ble_eq_true rfl) (Nat.le_of_ble_eq_true rfl) (Nat.le_of_ble_eq_true rfl) dX2_kept_36 (fun q36 H hK hP hD hS => ?_)
  have hK : va_K D vwCl (tyMs cI cZ cQ) s := hK.sub [0, 1, 2] rfl
  have hP : va_P D vwCl (MW cI d σ ++ [(q1, .inl (cQ, (3, .inr (.inr (.inr (.inr (va_up (va_up (fun _ => none) 0 (some q10)) 1 (some q23)))))))), (q10, aI cI 200 (σ 3)), (q23, aI cI 6 (σ 4)), (q36, aI cI 3 (σ 5))]) H := hP
  have hD : va_D A (MW cI d σ ++ [(q1, .inl (cQ, (3, .inr (.inr (.inr (.inr (va_up (va_up (fun _ => none) 0 (some q10)) 1 (some q23)))))))), (q10, aI cI 200 (σ 3)), (q23, aI cI 6 (σ 4)), (q36, aI cI 3 (σ 5))]) := hD
  refine va_castA hx hb hown (hts _ (List.mem_of_getElem? (i := 1) rfl)) hP 10 rfl (va_nm_int (hK.2 0 _ rfl).2) dX2_kept_39 ?_
  refine g_aast (fk := σ 5) (nk := 3) hx hb hK hP hD hS 7 10 0 hQ rfl rfl rfl 2 rfl (by decide) dX2_kept_42 (fun H locs hP hD hS => ?_)
  have hP : va_P D vwCl (MW cI d σ ++ [(q1, .inl (cQ, (3, .inr (.inr (.inr (.inr (va_up (va_up (va_up (fun _ => none) 0 (some q10)) 1 (some q23)) 2 (some q36)))))))), (q10, aI cI 200 (σ 3)), (q23, aI cI 6 (σ 4)), (q36, aI cI 3 (σ 5))]) H := hP
  have hD : va_D A (MW cI d σ ++ [(q1, .inl (cQ, (3, .inr (.inr (.inr (.inr (va_up (va_up (va_up (fun _ => none) 0 (some q10)) 1 (some q23)) 2 (some q36)))))))), (q10, aI cI 200 (σ 3)), (q23, aI cI 6 (σ 4)), (q36, aI cI 3 (σ 5))]) := hD
  exact g_aret (wo := (fun κ' => MW cI d σ ++ KW cI cQ (κ' 0 0).toNat (κ' 0 1).toNat (κ' 0 2).toNat (κ' 0 3).toNat σ)) (kr := (fun _ => True)) (rv := (fun κ' => some (.ref (κ' 0 0).toNat))) hx hb hr hlocks (fun _ i => if i = 0 then ((q1 : Nat) : Int) else if i = 1 then ((q10 : Nat) : Int) else if i = 2 then ((q23 : Nat) : Int) else ((q36 : Nat) : Int)) (show va_P D vwCl (MW cI d σ ++ [(q1, .inl (cQ, (3, .inr (.inr (.inr (.inr (va_up (va_up (va_up (fun _ => none) 0 (some q10)) 1 (some q23)) 2 (some q36)))))))), (q10, aI cI 200 (σ 3)), (q23, aI cI 6 (σ 4)), (q36, aI cI 3 (σ 5))]) H from hP) hK (show va_D A (MW cI d σ ++ [(q1, .inl (cQ, (3, .inr (.inr (.inr (.inr (va_up (va_up (va_up (fun _ => none) 0 (some q10)) 1 (some q23)) 2 (some q36)))))))), (q10, aI cI 200 (σ 3)), (q23, aI cI 6 (σ 4)), (q36, aI cI 3 (σ 5))]) from hD) hS trivial rfl (Nat.le_of_ble_eq_true rfl) (Nat.le_of_ble_eq_true rfl) dX2_kept_43
set_option maxHeartbeats 4000000 in
set_option maxRecDepth 100000 in
theorem kX2_bringBack (l : Launch) (D : va_G) (cI cZ cQ : ClassId) (d : Nat → Nat) (σ : St) (o0 a9 b9 c9 : Nat) (ν : St)   : gMet l yX2_bringBack wsX2_bringBack ({ frames := 1, cells := 1, slots := 3, locals := 40 } : Room) D (tyMs cI cZ cQ) ((MW cI d σ ++ KW cI cQ o0 a9 b9 c9 ν)) [.ref (d 0), .ref o0] (mEx (MW cI d σ ++ KW cI cQ o0 a9 b9 c9 ν)) (fun _ => none) (fun _ => True) (fun κ' => MW cI d (bbS σ ν) ++ KW cI cQ o0 a9 b9 c9 ν) := by
  refine g_startM (cc := cX2_bringBack) (maxL := 4) (ret := none) (by decide) rfl (Nat.le_of_ble_eq_true rfl) ?_
  intro p e s m args below meth c A ls H locs S hr hlocks hname hP hK hD hA hS hE hl
  have S0 := S
  obtain ⟨hx, hb, hml, hown, hts⟩ := S0
  have hl : lv_has ls 4 [(0, .ref (d 0)), (1, .ref (o0))] := hl
  have hinX2 : ∀ w ∈ wsX20, w ∈ wsX2_bringBack := by decide +kernel
  refine lv_iconst (v := iI (3)) hx hb dX2_bringBack_0 rfl ?_
  refine g_newA hx hb hown (hts _ (List.mem_of_getElem? (i := 1) rfl)) hE.2.1 hK hP hD hS hA (Nat.le_of_ble_eq_true rfl) (Nat.le_of_ble_eq_true rfl) dX2_bringBack_1 (fun q1 cA H hQ hK hP hD hS => ?_)
  have e9 : cQ = cA := g_clsQ hK 2 3 rfl rfl
  subst e9
  have hK : va_K D vwCl (tyMs cI cZ cQ) s := hK.sub [0, 1, 2] rfl
  have hP : va_P D vwCl (MW cI d σ ++ [(o0, .inl (cQ, (3, .inr (.inr (.inr (.inr (kq a9 b9 c9))))))), (a9, aI cI 200 (ν 3)), (b9, aI cI 6 (ν 4)), (c9, aI cI 3 (ν 5)), (q1, .inl (cQ, (3, .inr (.inr (.inr (.inr (fun _ => none)))))))]) H := hP
  have hD : va_D A (MW cI d σ ++ [(o0, .inl (cQ, (3, .inr (.inr (.inr (.inr (kq a9 b9 c9))))))), (a9, aI cI 200 (ν 3)), (b9, aI cI 6 (ν 4)), (c9, aI cI 3 (ν 5)), (q1, .inl (cQ, (3, .inr (.inr (.inr (.inr (fun _ => none)))))))]) := hD
  refine lv_dup hx hb dX2_bringBack_4 rfl ?_
  refine lv_iconst (v := iI (0)) hx hb dX2_bringBack_5 rfl ?_
  refine lv_aload_n hx hb dX2_bringBack_6 rfl (lv_at hl 0 rfl) ?_
  refine va_get (D := D) (ci := 2) (v := .ref (d 4)) (C := RX2) (T := TX2) (N := 8) hx hb hts hinX2 hown hK hP 0 rfl rfl 4 (by decide) (hts (.fieldLink RX2 19 "TwinOrchardModel" "trees" "[I") (List.mem_of_getElem? (i := 2) rfl)) (fun _ h9 => h9) rfl dX2_bringBack_7 ?_
  refine g_aast (fk := σ 3) (nk := 200) hx hb hK hP hD hS 11 4 0 hQ rfl rfl rfl 0 rfl (by decide) dX2_bringBack_10 (fun H locs hP hD hS => ?_)
  have hP : va_P D vwCl (MW cI d σ ++ [(o0, .inl (cQ, (3, .inr (.inr (.inr (.inr (kq a9 b9 c9))))))), (a9, aI cI 200 (ν 3)), (b9, aI cI 6 (ν 4)), (c9, aI cI 3 (ν 5)), (q1, .inl (cQ, (3, .inr (.inr (.inr (.inr (va_up (fun _ => none) 0 (some (d 4)))))))))]) H := hP
  have hD : va_D A (MW cI d σ ++ [(o0, .inl (cQ, (3, .inr (.inr (.inr (.inr (kq a9 b9 c9))))))), (a9, aI cI 200 (ν 3)), (b9, aI cI 6 (ν 4)), (c9, aI cI 3 (ν 5)), (q1, .inl (cQ, (3, .inr (.inr (.inr (.inr (va_up (fun _ => none) 0 (some (d 4)))))))))]) := hD
  refine lv_dup hx hb dX2_bringBack_11 rfl ?_
  refine lv_iconst (v := iI (1)) hx hb dX2_bringBack_12 rfl ?_
  refine lv_aload_n hx hb dX2_bringBack_13 rfl (lv_at hl 0 rfl) ?_
  refine va_get (D := D) (ci := 2) (v := .ref (d 5)) (C := RX2) (T := TX2) (N := 8) hx hb hts hinX2 hown hK hP 0 rfl rfl 5 (by decide) (hts (.fieldLink RX2 22 "TwinOrchardModel" "barn" "[I") (List.mem_of_getElem? (i := 3) rfl)) (fun _ h9 => h9) rfl dX2_bringBack_14 ?_
  refine g_aast (fk := σ 4) (nk := 6) hx hb hK hP hD hS 11 5 0 hQ rfl rfl rfl 1 rfl (by decide) dX2_bringBack_17 (fun H locs hP hD hS => ?_)
  have hP : va_P D vwCl (MW cI d σ ++ [(o0, .inl (cQ, (3, .inr (.inr (.inr (.inr (kq a9 b9 c9))))))), (a9, aI cI 200 (ν 3)), (b9, aI cI 6 (ν 4)), (c9, aI cI 3 (ν 5)), (q1, .inl (cQ, (3, .inr (.inr (.inr (.inr (va_up (va_up (fun _ => none) 0 (some (d 4))) 1 (some (d 5)))))))))]) H := hP
  have hD : va_D A (MW cI d σ ++ [(o0, .inl (cQ, (3, .inr (.inr (.inr (.inr (kq a9 b9 c9))))))), (a9, aI cI 200 (ν 3)), (b9, aI cI 6 (ν 4)), (c9, aI cI 3 (ν 5)), (q1, .inl (cQ, (3, .inr (.inr (.inr (.inr (va_up (va_up (fun _ => none) 0 (some (d 4))) 1 (some (d 5)))))))))]) := hD
  refine lv_dup hx hb dX2_bringBack_18 rfl ?_
  refine lv_iconst (v := iI (2)) hx hb dX2_bringBack_19 rfl ?_
  refine lv_aload_n hx hb dX2_bringBack_20 rfl (lv_at hl 0 rfl) ?_
  refine va_get (D := D) (ci := 2) (v := .ref (d 6)) (C := RX2) (T := TX2) (N := 8) hx hb hts hinX2 hown hK hP 0 rfl rfl 6 (by decide) (hts (.fieldLink RX2 25 "TwinOrchardModel" "numbers" "[I") (List.mem_of_getElem? (i := 4) rfl)) (fun _ h9 => h9) rfl dX2_bringBack_21 ?_
  refine g_aast (fk := σ 5) (nk := 3) hx hb hK hP hD hS 11 6 0 hQ rfl rfl rfl 2 rfl (by decide) dX2_bringBack_24 (fun H locs hP hD hS => ?_)
  have hP : va_P D vwCl (MW cI d σ ++ [(o0, .inl (cQ, (3, .inr (.inr (.inr (.inr (kq a9 b9 c9))))))), (a9, aI cI 200 (ν 3)), (b9, aI cI 6 (ν 4)), (c9, aI cI 3 (ν 5)), (q1, .inl (cQ, (3, .inr (.inr (.inr (.inr (va_up (va_up (va_up (fun _ => none) 0 (some (d 4))) 1 (some (d 5))) 2 (some (d 6)))))))))]) H := hP
  have hD : va_D A (MW cI d σ ++ [(o0, .inl (cQ, (3, .inr (.inr (.inr (.inr (kq a9 b9 c9))))))), (a9, aI cI 200 (ν 3)), (b9, aI cI 6 (ν 4)), (c9, aI cI 3 (ν 5)), (q1, .inl (cQ, (3, .inr (.inr (.inr (.inr (va_up (va_up (va_up (fun _ => none) 0 (some (d 4))) 1 (some (d 5))) 2 (some (d 6)))))))))]) := hD
  refine lv_astore_n (lv' := [(2, .ref (q1)), (0, .ref (d 0)), (1, .ref (o0))]) hx hb dX2_bringBack_25 rfl hl (by decide) rfl (fun ls hl => ?_)
  refine lv_iconst (v := iI (0)) hx hb dX2_bringBack_26 rfl ?_
  refine lv_istore_n (lv' := [(3, .int (iI (0))), (2, .ref (q1)), (0, .ref (d 0)), (1, .ref (o0))]) hx hb dX2_bringBack_27 rfl hl (by decide) rfl (fun ls hl => ?_)
  refine lv_iload_n hx hb dX2_bringBack_28 rfl (lv_at hl 0 rfl) ?_
  refine lv_aload_n hx hb dX2_bringBack_29 rfl (lv_at hl 1 rfl) ?_
  refine va_alen (v := iI 3) hx hb hK hP 11 2 rfl rfl rfl dX2_bringBack_30 ?_
  refine gi_icmp_ge (tgt := 55) hx hb dX2_bringBack_31 (by decide) ⟨by decide, by decide⟩ ⟨by decide, by decide⟩ (fun c31 => ?_) (fun c31 => ?_)
  · skip
    exact absurd c31 (by decide)
  · skip
    refine lv_aload_n hx hb dX2_bringBack_34 rfl (lv_at hl 3 rfl) ?_
    refine lv_iload_n hx hb dX2_bringBack_35 rfl (lv_at hl 0 rfl) ?_
    refine g_aald hx hb hK hP 7 2 rfl rfl 0 rfl (by decide) (v := a9) rfl dX2_bringBack_36 ?_
    refine lv_iconst (v := iI (0)) hx hb dX2_bringBack_37 rfl ?_
    refine lv_aload_n hx hb dX2_bringBack_38 rfl (lv_at hl 1 rfl) ?_
    refine lv_iload_n hx hb dX2_bringBack_39 rfl (lv_at hl 0 rfl) ?_
    refine g_aald hx hb hK hP 11 2 rfl rfl 0 rfl (by decide) (v := d 4) rfl dX2_bringBack_40 ?_
    refine lv_iconst (v := iI (0)) hx hb dX2_bringBack_41 rfl ?_
    refine lv_aload_n hx hb dX2_bringBack_42 rfl (lv_at hl 1 rfl) ?_
    refine lv_iload_n hx hb dX2_bringBack_43 rfl (lv_at hl 0 rfl) ?_
    refine g_aald hx hb hK hP 11 2 rfl rfl 0 rfl (by decide) (v := d 4) rfl dX2_bringBack_44 ?_
    refine va_alen (v := iI 200) hx hb hK hP 4 0 rfl rfl rfl dX2_bringBack_45 ?_
    refine gi_copyi (f := ν 3) (g := σ 3) (n0 := 200) (n1 := 200) hx hb (hml.trans hl.1.symm) hown (hts _ (List.mem_of_getElem? (i := 5) rfl)) (hts _ (List.mem_of_getElem? (i := 6) rfl)) (hts _ (List.mem_of_getElem? (i := 7) rfl)) (hts _ (List.mem_of_getElem? (i := 8) rfl)) hK hP hD hS 8 4 0 0 rfl rfl rfl rfl (by omega) (by omega) (by omega) (by omega) (by omega) (by decide) (Nat.le_of_ble_eq_true rfl) (Nat.le_of_ble_eq_true rfl) dX2_bringBack_46 (fun H locs hP hD hS => ?_)
    obtain ⟨hP, hD⟩ := g_row (g := ν 3) 4 rfl (fun j h0 h1 => icpy_all (n := 200) _ _ h0 h1) hP hD
    have hP : va_P D vwCl (MW cI d (sr σ 3 (ν 3)) ++ [(o0, .inl (cQ, (3, .inr (.inr (.inr (.inr (kq a9 b9 c9))))))), (a9, aI cI 200 (ν 3)), (b9, aI cI 6 (ν 4)), (c9, aI cI 3 (ν 5)), (q1, .inl (cQ, (3, .inr (.inr (.inr (.inr (va_up (va_up (va_up (fun _ => none) 0 (some (d 4))) 1 (some (d 5))) 2 (some (d 6)))))))))]) H := hP
    have hD : va_D A (MW cI d (sr σ 3 (ν 3)) ++ [(o0, .inl (cQ, (3, .inr (.inr (.inr (.inr (kq a9 b9 c9))))))), (a9, aI cI 200 (ν 3)), (b9, aI cI 6 (ν 4)), (c9, aI cI 3 (ν 5)), (q1, .inl (cQ, (3, .inr (.inr (.inr (.inr (va_up (va_up (va_up (fun _ => none) 0 (some (d 4))) 1 (some (d 5))) 2 (some (d 6)))))))))]) := hD
    refine lv_iinc (v := iI (1)) (lv' := [(3, .int (iI (1))), (2, .ref (q1)), (0, .ref (d 0)), (1, .ref (o0))]) hx hb dX2_bringBack_49 hl (k := 0) rfl rfl (by decide) rfl (fun ls hl => ?_)
    refine lv_goto (tgt := 28) hx hb dX2_bringBack_52 (by decide) ?_
    refine lv_iload_n hx hb dX2_bringBack_28 rfl (lv_at hl 0 rfl) ?_
    refine lv_aload_n hx hb dX2_bringBack_29 rfl (lv_at hl 1 rfl) ?_
    refine va_alen (v := iI 3) hx hb hK hP 11 2 rfl rfl rfl dX2_bringBack_30 ?_
    refine gi_icmp_ge (tgt := 55) hx hb dX2_bringBack_31 (by decide) ⟨by decide, by decide⟩ ⟨by decide, by decide⟩ (fun c31 => ?_) (fun c31 => ?_)
    · skip
      exact absurd c31 (by decide)
    · skip
      refine lv_aload_n hx hb dX2_bringBack_34 rfl (lv_at hl 3 rfl) ?_
      refine lv_iload_n hx hb dX2_bringBack_35 rfl (lv_at hl 0 rfl) ?_
      refine g_aald hx hb hK hP 7 2 rfl rfl 1 rfl (by decide) (v := b9) rfl dX2_bringBack_36 ?_
      refine lv_iconst (v := iI (0)) hx hb dX2_bringBack_37 rfl ?_
      refine lv_aload_n hx hb dX2_bringBack_38 rfl (lv_at hl 1 rfl) ?_
      refine lv_iload_n hx hb dX2_bringBack_39 rfl (lv_at hl 0 rfl) ?_
      refine g_aald hx hb hK hP 11 2 rfl rfl 1 rfl (by decide) (v := d 5) rfl dX2_bringBack_40 ?_
      refine lv_iconst (v := iI (0)) hx hb dX2_bringBack_41 rfl ?_
      refine lv_aload_n hx hb dX2_bringBack_42 rfl (lv_at hl 1 rfl) ?_
      refine lv_iload_n hx hb dX2_bringBack_43 rfl (lv_at hl 0 rfl) ?_
      refine g_aald hx hb hK hP 11 2 rfl rfl 1 rfl (by decide) (v := d 5) rfl dX2_bringBack_44 ?_
      refine va_alen (v := iI 6) hx hb hK hP 5 0 rfl rfl rfl dX2_bringBack_45 ?_
      refine gi_copyi (f := ν 4) (g := (sr σ 3 (ν 3)) 4) (n0 := 6) (n1 := 6) hx hb (hml.trans hl.1.symm) hown (hts _ (List.mem_of_getElem? (i := 5) rfl)) (hts _ (List.mem_of_getElem? (i := 6) rfl)) (hts _ (List.mem_of_getElem? (i := 7) rfl)) (hts _ (List.mem_of_getElem? (i := 8) rfl)) hK hP hD hS 9 5 0 0 rfl rfl rfl rfl (by omega) (by omega) (by omega) (by omega) (by omega) (by decide) (Nat.le_of_ble_eq_true rfl) (Nat.le_of_ble_eq_true rfl) dX2_bringBack_46 (fun H locs hP hD hS => ?_)
      obtain ⟨hP, hD⟩ := g_row (g := ν 4) 5 rfl (fun j h0 h1 => icpy_all (n := 6) _ _ h0 h1) hP hD
      have hP : va_P D vwCl (MW cI d (sr (sr σ 3 (ν 3)) 4 (ν 4)) ++ [(o0, .inl (cQ, (3, .inr (.inr (.inr (.inr (kq a9 b9 c9))))))), (a9, aI cI 200 (ν 3)), (b9, aI cI 6 (ν 4)), (c9, aI cI 3 (ν 5)), (q1, .inl (cQ, (3, .inr (.inr (.inr (.inr (va_up (va_up (va_up (fun _ => none) 0 (some (d 4))) 1 (some (d 5))) 2 (some (d 6)))))))))]) H := hP
      have hD : va_D A (MW cI d (sr (sr σ 3 (ν 3)) 4 (ν 4)) ++ [(o0, .inl (cQ, (3, .inr (.inr (.inr (.inr (kq a9 b9 c9))))))), (a9, aI cI 200 (ν 3)), (b9, aI cI 6 (ν 4)), (c9, aI cI 3 (ν 5)), (q1, .inl (cQ, (3, .inr (.inr (.inr (.inr (va_up (va_up (va_up (fun _ => none) 0 (some (d 4))) 1 (some (d 5))) 2 (some (d 6)))))))))]) := hD
      refine lv_iinc (v := iI (2)) (lv' := [(3, .int (iI (2))), (2, .ref (q1)), (0, .ref (d 0)), (1, .ref (o0))]) hx hb dX2_bringBack_49 hl (k := 0) rfl rfl (by decide) rfl (fun ls hl => ?_)
      refine lv_goto (tgt := 28) hx hb dX2_bringBack_52 (by decide) ?_
      refine lv_iload_n hx hb dX2_bringBack_28 rfl (lv_at hl 0 rfl) ?_
      refine lv_aload_n hx hb dX2_bringBack_29 rfl (lv_at hl 1 rfl) ?_
      refine va_alen (v := iI 3) hx hb hK hP 11 2 rfl rfl rfl dX2_bringBack_30 ?_
      refine gi_icmp_ge (tgt := 55) hx hb dX2_bringBack_31 (by decide) ⟨by decide, by decide⟩ ⟨by decide, by decide⟩ (fun c31 => ?_) (fun c31 => ?_)
      · skip
        exact absurd c31 (by decide)
      · skip
        refine lv_aload_n hx hb dX2_bringBack_34 rfl (lv_at hl 3 rfl) ?_
        refine lv_iload_n hx hb dX2_bringBack_35 rfl (lv_at hl 0 rfl) ?_
        refine g_aald hx hb hK hP 7 2 rfl rfl 2 rfl (by decide) (v := c9) rfl dX2_bringBack_36 ?_
        refine lv_iconst (v := iI (0)) hx hb dX2_bringBack_37 rfl ?_
        refine lv_aload_n hx hb dX2_bringBack_38 rfl (lv_at hl 1 rfl) ?_
        refine lv_iload_n hx hb dX2_bringBack_39 rfl (lv_at hl 0 rfl) ?_
        refine g_aald hx hb hK hP 11 2 rfl rfl 2 rfl (by decide) (v := d 6) rfl dX2_bringBack_40 ?_
        refine lv_iconst (v := iI (0)) hx hb dX2_bringBack_41 rfl ?_
        refine lv_aload_n hx hb dX2_bringBack_42 rfl (lv_at hl 1 rfl) ?_
        refine lv_iload_n hx hb dX2_bringBack_43 rfl (lv_at hl 0 rfl) ?_
        refine g_aald hx hb hK hP 11 2 rfl rfl 2 rfl (by decide) (v := d 6) rfl dX2_bringBack_44 ?_
        refine va_alen (v := iI 3) hx hb hK hP 6 0 rfl rfl rfl dX2_bringBack_45 ?_
        refine gi_copyi (f := ν 5) (g := (sr (sr σ 3 (ν 3)) 4 (ν 4)) 5) (n0 := 3) (n1 := 3) hx hb (hml.trans hl.1.symm) hown (hts _ (List.mem_of_getElem? (i := 5) rfl)) (hts _ (List.mem_of_getElem? (i := 6) rfl)) (hts _ (List.mem_of_getElem? (i := 7) rfl)) (hts _ (List.mem_of_getElem? (i := 8) rfl)) hK hP hD hS 10 6 0 0 rfl rfl rfl rfl (by omega) (by omega) (by omega) (by omega) (by omega) (by decide) (Nat.le_of_ble_eq_true rfl) (Nat.le_of_ble_eq_true rfl) dX2_bringBack_46 (fun H locs hP hD hS => ?_)
        obtain ⟨hP, hD⟩ := g_row (g := ν 5) 6 rfl (fun j h0 h1 => icpy_all (n := 3) _ _ h0 h1) hP hD
        have hP : va_P D vwCl (MW cI d (sr (sr (sr σ 3 (ν 3)) 4 (ν 4)) 5 (ν 5)) ++ [(o0, .inl (cQ, (3, .inr (.inr (.inr (.inr (kq a9 b9 c9))))))), (a9, aI cI 200 (ν 3)), (b9, aI cI 6 (ν 4)), (c9, aI cI 3 (ν 5)), (q1, .inl (cQ, (3, .inr (.inr (.inr (.inr (va_up (va_up (va_up (fun _ => none) 0 (some (d 4))) 1 (some (d 5))) 2 (some (d 6)))))))))]) H := hP
        have hD : va_D A (MW cI d (sr (sr (sr σ 3 (ν 3)) 4 (ν 4)) 5 (ν 5)) ++ [(o0, .inl (cQ, (3, .inr (.inr (.inr (.inr (kq a9 b9 c9))))))), (a9, aI cI 200 (ν 3)), (b9, aI cI 6 (ν 4)), (c9, aI cI 3 (ν 5)), (q1, .inl (cQ, (3, .inr (.inr (.inr (.inr (va_up (va_up (va_up (fun _ => none) 0 (some (d 4))) 1 (some (d 5))) 2 (some (d 6)))))))))]) := hD
        refine lv_iinc (v := iI (3)) (lv' := [(3, .int (iI (3))), (2, .ref (q1)), (0, .ref (d 0)), (1, .ref (o0))]) hx hb dX2_bringBack_49 hl (k := 0) rfl rfl (by decide) rfl (fun ls hl => ?_)
        refine lv_goto (tgt := 28) hx hb dX2_bringBack_52 (by decide) ?_
        refine lv_iload_n hx hb dX2_bringBack_28 rfl (lv_at hl 0 rfl) ?_
        refine lv_aload_n hx hb dX2_bringBack_29 rfl (lv_at hl 1 rfl) ?_
        refine va_alen (v := iI 3) hx hb hK hP 11 2 rfl rfl rfl dX2_bringBack_30 ?_
        refine gi_icmp_ge (tgt := 55) hx hb dX2_bringBack_31 (by decide) ⟨by decide, by decide⟩ ⟨by decide, by decide⟩ (fun c31 => ?_) (fun c31 => ?_)
        · skip
          have es : (bbS σ ν) = (sr (sr (sr σ 3 (ν 3)) 4 (ν 4)) 5 (ν 5)) := by rfl
          exact g_vret (wo := (fun κ' => MW cI d (bbS σ ν) ++ KW cI cQ o0 a9 b9 c9 ν)) (kr := (fun _ => True)) (rv := (fun _ => none)) hx hb hr hlocks (fun _ _ => 0) (by rw [es]; exact g_left (b := [(q1, .inl (cQ, (3, .inr (.inr (.inr (.inr (va_up (va_up (va_up (fun _ => none) 0 (some (d 4))) 1 (some (d 5))) 2 (some (d 6)))))))))]) (show va_P D vwCl ((MW cI d (sr (sr (sr σ 3 (ν 3)) 4 (ν 4)) 5 (ν 5)) ++ [(o0, .inl (cQ, (3, .inr (.inr (.inr (.inr (kq a9 b9 c9))))))), (a9, aI cI 200 (ν 3)), (b9, aI cI 6 (ν 4)), (c9, aI cI 3 (ν 5))]) ++ [(q1, .inl (cQ, (3, .inr (.inr (.inr (.inr (va_up (va_up (va_up (fun _ => none) 0 (some (d 4))) 1 (some (d 5))) 2 (some (d 6)))))))))]) H from hP)) hK (by rw [es]; exact g_Dleft (b := [(q1, .inl (cQ, (3, .inr (.inr (.inr (.inr (va_up (va_up (va_up (fun _ => none) 0 (some (d 4))) 1 (some (d 5))) 2 (some (d 6)))))))))]) (show va_D A ((MW cI d (sr (sr (sr σ 3 (ν 3)) 4 (ν 4)) 5 (ν 5)) ++ [(o0, .inl (cQ, (3, .inr (.inr (.inr (.inr (kq a9 b9 c9))))))), (a9, aI cI 200 (ν 3)), (b9, aI cI 6 (ν 4)), (c9, aI cI 3 (ν 5))]) ++ [(q1, .inl (cQ, (3, .inr (.inr (.inr (.inr (va_up (va_up (va_up (fun _ => none) 0 (some (d 4))) 1 (some (d 5))) 2 (some (d 6)))))))))]) from hD)) hS trivial rfl (Nat.le_of_ble_eq_true rfl) (Nat.le_of_ble_eq_true rfl) dX2_bringBack_55
        · skip
          exact absurd (by decide) c31
