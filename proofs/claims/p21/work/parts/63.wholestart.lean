set_option maxHeartbeats 4000000 in
set_option maxRecDepth 100000 in
/-- from the entry, for every script of at most 260 ints, the law comes to its end with true -/
theorem whole_start {p : Program} {e : Env} {s : State} {m : MethodId} {below : List Frame} {meth : Method} {c : Code} (l : Launch) (hflags : l.flags = flags0) {b L : Nat} {xs : Nat → Int32} (hL : L ≤ 260) (C0 : lw_At p s m meth c b L xs) : W p l e room_1 s m #[Value.ref b] below meth c s.heap [] 0 0 (lw_Z below #[Value.ref b] s) (entryFrame m ([Value.ref b] : List Value).toArray 35) := by
  obtain ⟨hx, hb, hr, hml, hown, hts, hX, hbl, hlocks, hgv⟩ := id C0
  have ht : ∀ w ∈ tables_1, w.before #[Value.ref b] s = true := fun w h => hts w (List.mem_append_right _ h)
  have hs := flat_of_before _ hgv
  have hfl : l.stackTraces = false := by
    unfold Launch.stackTraces
    rw [hflags]
    decide +kernel
  have S : CallFix p m c code 35 s #[Value.ref b] wsL_law RL := ⟨hx, hb, hml, hown, fun w h => hts w (wsL_law_in w h)⟩
  have hA : ∀ q : Nat, s.heap.size ≤ q → lA s q := fun _ h => h
  have hTE := st_T ht hs
  have hE := hTE.1
  have hN := st_N ht
  have hX9 : scrA b L xs (lA s) s := ⟨hX, hbl, Nat.not_le.mpr hbl⟩
  obtain ⟨cI, cZ, cT, cU, cQ, hty⟩ := st_tys ht
  obtain ⟨c0, i0, k0⟩ := u_known (C := RX0) (T := TX0) (N := 4) (n := 4) hts inX0 (ht (.instantiable RX0 4) (by decide +kernel))
  obtain ⟨c1, i1, k1⟩ := u_known (C := RX1) (T := TX1) (N := 13) (n := 13) hts inX1 (ht (.instantiable RX1 13) (by decide +kernel))
  obtain ⟨c2, i2, k2⟩ := u_known (C := RX2) (T := TX2) (N := 8) (n := 8) hts inX2 (ht (.instantiable RX2 8) (by decide +kernel))
  obtain ⟨c3, i3, k3⟩ := u_known (C := RX3) (T := TX3) (N := 4) (n := 4) hts inX3 (ht (.instantiable RX3 4) (by decide +kernel))
  obtain ⟨D, hKn⟩ : ∃ D : va_G, ∀ (k : Nat) (q : vw_C), vwCl[k]? = some q → u_Kn s q.1 q.2.1 q.2.2 (D.1 k) (D.2 k) := by
    refine ⟨(fun k => if k = 0 then c0 else if k = 1 then c1 else if k = 2 then c2 else c3, fun k => if k = 0 then i0 else if k = 1 then i1 else if k = 2 then i2 else i3), ?_⟩
    intro k q hq
    match k, hq with
    | 0, hq => cases hq; exact k0
    | 1, hq => cases hq; exact k1
    | 2, hq => cases hq; exact k2
    | 3, hq => cases hq; exact k3
    | k + 4, hq => simp [vwCl] at hq
  have hK : va_K D vwCl (tyA cI cZ cT cU cQ) s := ⟨hKn, hty⟩
  have hP : va_P D vwCl [] s.heap := fun k q h => by simp at h
  have hD : va_D (lA s) [] := ⟨fun i j p q h => by simp at h, fun k q h => by simp at h⟩
  have hS : va_S (lA s) s.heap s.heap [] := va_S.rf
  have hl := lv_entry ([.ref b]) (n := 35) (Nat.le_of_ble_eq_true rfl)
  rw [lg_entry_eq]
  generalize (lg_sl ([.ref b]) ++ List.replicate (35 - (lg_sl ([.ref b])).length) Slot.unset).toArray = ls at hl ⊢
  have hl : lv_has ls 35 [(0, .ref b)] := hl
  refine va_new (ci := 1) (fs := [.null, .null, .null, .null, .null, .null, .null, .null, .null, .int 0, .int 0, .null, .null]) (C := RX1) (T := TX1) (N := 13) hx hb hts inX1 tyX1 tyX1_ok hown (ht (.classLink RL 30 RX1) (by decide +kernel)) (ht (.instantiable RX1 13) (by decide +kernel)) (ht (.initialized RX1) (by decide +kernel)) hK hP hD hS hA rfl dfX1 (Nat.le_of_ble_eq_true rfl) (Nat.le_of_ble_eq_true rfl) dL_law_0 (fun qX H hP hD hS => ?_)
  have hP : va_P D vwCl ([(qX, .inr (1, [.null, .null, .null, .null, .null, .null, .null, .null, .null, .int 0, .int 0, .null, .null]))] ++ []) H := hP
  have hD : va_D (lA s) ([(qX, .inr (1, [.null, .null, .null, .null, .null, .null, .null, .null, .null, .int 0, .int 0, .null, .null]))] ++ []) := hD
  refine lv_dup hx hb dL_law_3 rfl ?_
  refine g_call (mc := 11) (ms := 735) (va_runI (As := []) (rest := [.ref qX]) S (kX1_init l D cI cZ (fun _ => qX) H.size) (cwI 0 S.2.2.2.2 gL_law_X1_init rfl rfl rfl (ht (.initialized RX1) (by decide +kernel)) (ht (.methodLink RL 84 yX1_init) (by decide +kernel)) (ht (.instanceMethod yX1_init) (by decide +kernel)) rfl (by decide +kernel) ⟨Nat.le_of_ble_eq_true rfl, Nat.le_of_ble_eq_true rfl⟩) (g_preS (As := [.ref qX]) xEx_g hK [0, 1] rfl hP hD (fun U hU hW => xEx_w hW hE)) rfl rfl hl.1 rfl (lv_room (Nat.le_of_ble_eq_true rfl)) dL_law_4 ⟨Nat.le_of_ble_eq_true rfl, Nat.le_of_ble_eq_true rfl⟩) hP hD hS hA (fun κX H locs hk hP hD hS => ?_)
  obtain ⟨d, hdX⟩ : ∃ d : Nat → Nat, d = dK qX κX := ⟨_, rfl⟩
  have eX : d 0 = qX := by rw [hdX]; rfl
  have hP : va_P D vwCl (XW cI cZ d σI zS ++ []) H := by rw [hdX]; exact hP
  have hD : va_D (lA s) (XW cI cZ d σI zS ++ []) := by rw [hdX]; exact hD
  show W p l e room_1 s m #[Value.ref b] below meth c H locs 12 748 (lw_Z below #[Value.ref b] s) (F0 m 7 ls [.ref qX])
  rw [← eX]
  refine lv_astore_n (lv' := [(1, .ref (d 0)), (0, .ref b)]) hx hb dL_law_7 rfl hl (by decide) rfl (fun ls hl => ?_)
  refine lv_aload_n hx hb dL_law_8 rfl (lv_at hl 0 rfl) ?_
  refine lv_aload_n hx hb dL_law_9 rfl (lv_at hl 1 rfl) ?_
  refine g_call (mc := 92) (ms := 499) (va_runS (As := [.ref (d 0), .ref b]) (rest := []) S (kL_build l hfl D cI cZ cT cU cQ b L xs hL d zS H.size) (va_cwS 2 S.2.2.2.2 gL_law_L_build rfl rfl rfl (by decide +kernel) ⟨Nat.le_of_ble_eq_true rfl, Nat.le_of_ble_eq_true rfl⟩) (g_preS (As := [.ref (d 0), .ref b]) (bEx_g _ _ _ _) hK [0, 1, 2, 3, 4] rfl hP hD (fun U hU hW => bEx_w hTE hN hX9 hD hS hA hU hW)) rfl rfl hl.1 rfl (lv_room (Nat.le_of_ble_eq_true rfl)) dL_law_10 ⟨Nat.le_of_ble_eq_true rfl, Nat.le_of_ble_eq_true rfl⟩) hP hD hS hA (fun κ H locs hk hP hD hS => ?_)
  obtain ⟨ds, hds⟩ : ∃ ds : Nat → Nat, ds = fun i : Nat => (κ 3 (i : Int)).toNat := ⟨_, rfl⟩
  obtain ⟨σ, hσ⟩ : ∃ σ : St, σ = fun a => κ (a + 10) := ⟨_, rfl⟩
  have hk : bLv σ := by rw [hσ]; exact hk
  have hP : va_P D vwCl ((XW cI cZ d σ κ ++ SW cI cT cU ds σ (κ 2)) ++ []) H := by rw [hσ, hds]; exact hP
  have hD : va_D (lA s) ((XW cI cZ d σ κ ++ SW cI cT cU ds σ (κ 2)) ++ []) := by rw [hσ, hds]; exact hD
  rw [List.append_nil] at hP hD
  have eS : ds 0 = (κ 3 0).toNat := by rw [hds]; rfl
  show W p l e room_1 s m #[Value.ref b] below meth c H locs 104 1247 (lw_Z below #[Value.ref b] s) (F0 m 13 ls [.ref (κ 3 0).toNat])
  rw [← eS]
  refine lv_astore_n (lv' := [(2, .ref (ds 0)), (1, .ref (d 0)), (0, .ref b)]) hx hb dL_law_13 rfl hl (by decide) rfl (fun ls hl => ?_)
  refine lv_aload_n hx hb dL_law_14 rfl (lv_at hl 0 rfl) ?_
  refine lv_ifnonnull (tgt := 20) hx hb dL_law_15 (by decide) ?_
  refine lv_iconst (v := iI 4) hx hb dL_law_20 rfl ?_
  refine va_newa (atype := .int) (ty := .int) (N' := 4) (a0 := (4, .inl (fun j : Nat => iI ((fun _ => 0 : Int → Int) (j : Int))))) hx hb (ht (.arrayClass .int) (by decide +kernel)) rfl hK hP hD hS hA (fun _ => rfl) (by decide) rfl (Nat.le_of_ble_eq_true rfl) (Nat.le_of_ble_eq_true rfl) (Nat.le_of_ble_eq_true rfl) dL_law_21 (fun w4 cA H hK hP hD hS => ?_)
  have e9 : cI = cA := g_clsI hK 0 5 rfl rfl
  subst e9
  have hK : va_K D vwCl (tyA cI cZ cT cU cQ) s := hK.sub [0, 1, 2, 3, 4] rfl
  obtain ⟨hP, hD⟩ := g_swap hP hD
  have hP : va_P D vwCl ([(w4, aI cI 4 (fun _ => 0))] ++ (XW cI cZ d σ κ ++ SW cI cT cU ds σ (κ 2))) H := hP
  have hD : va_D (lA s) ([(w4, aI cI 4 (fun _ => 0))] ++ (XW cI cZ d σ κ ++ SW cI cT cU ds σ (κ 2))) := hD
  refine lv_dup hx hb dL_law_23 rfl ?_
  refine lv_iconst (v := iI 0) hx hb dL_law_24 rfl ?_
  refine lv_iconst (v := iI 5) hx hb dL_law_25 rfl ?_
  refine gi_iast (a := w4) (n := 4) (f := fun _ => 0) hx hb hK hP hD hS 0 0 rfl rfl (by omega) (by omega) (by decide) dL_law_26 (fun H locs hP hD hS => ?_)
  refine lv_dup hx hb dL_law_27 rfl ?_
  refine lv_iconst (v := iI 1) hx hb dL_law_28 rfl ?_
  refine lv_iconst (v := iI 2) hx hb dL_law_29 rfl ?_
  refine gi_iast (a := w4) (n := 4) (f := fu (fun _ => 0) 0 5) hx hb hK hP hD hS 0 0 rfl rfl (by omega) (by omega) (by decide) dL_law_30 (fun H locs hP hD hS => ?_)
  refine lv_dup hx hb dL_law_31 rfl ?_
  refine lv_iconst (v := iI 2) hx hb dL_law_32 rfl ?_
  refine lv_iconst (v := iI 4) hx hb dL_law_33 rfl ?_
  refine gi_iast (a := w4) (n := 4) (f := fu (fu (fun _ => 0) 0 5) 1 2) hx hb hK hP hD hS 0 0 rfl rfl (by omega) (by omega) (by decide) dL_law_34 (fun H locs hP hD hS => ?_)
  refine lv_dup hx hb dL_law_35 rfl ?_
  refine lv_iconst (v := iI 3) hx hb dL_law_36 rfl ?_
  refine lv_bipush (v := iI 6) hx hb dL_law_37 rfl ?_
  refine gi_iast (a := w4) (n := 4) (f := fu (fu (fu (fun _ => 0) 0 5) 1 2) 2 4) hx hb hK hP hD hS 0 0 rfl rfl (by omega) (by omega) (by decide) dL_law_39 (fun H locs hP hD hS => ?_)
  obtain ⟨hP, hD⟩ := g_row (g := cst) 0 (a := w4) (n := 4) (f := fu (fu (fu (fu (fun _ => 0) 0 5) 1 2) 2 4) 3 6) rfl (fun j h0 h4 => by
    rcases (show j = 0 ∨ j = 1 ∨ j = 2 ∨ j = 3 by omega) with rfl | rfl | rfl | rfl <;> rfl) hP hD
  have hP : va_P D vwCl ([(w4, aI cI 4 cst)] ++ (XW cI cZ d σ κ ++ SW cI cT cU ds σ (κ 2))) H := hP
  have hD : va_D (lA s) ([(w4, aI cI 4 cst)] ++ (XW cI cZ d σ κ ++ SW cI cT cU ds σ (κ 2))) := hD
  refine lv_astore_n (lv' := [(3, .ref w4), (2, .ref (ds 0)), (1, .ref (d 0)), (0, .ref b)]) hx hb dL_law_40 rfl hl (by decide) rfl (fun ls hl => ?_)
  refine lv_iconst (v := iI 0) hx hb dL_law_41 rfl ?_
  refine lv_istore (lv' := [(4, .int (iI 0)), (3, .ref w4), (2, .ref (ds 0)), (1, .ref (d 0)), (0, .ref b)]) hx hb dL_law_42 hl (by decide) rfl (fun ls hl => ?_)
  have G : lG p l s m c #[Value.ref b] (lA s) D cI cZ cT cU cQ b L xs := ⟨S, hfl, hK, hA, hTE, hN, hX9, hL⟩
  have hin : lLv 0 σ := ⟨hk.1, hk.2.1, fun j => by have := hk.2.2.1 j; omega, by have := hk.2.2.2; omega⟩
  refine lq_loop G hin (by decide) (by decide) hP hD hS hl (fun σ1 κ1 ι1 H locs cells1 slots1 ls hin hc1 hs1 hP hD hS hl => ?_)
  obtain ⟨wwf, wz, wb, wy⟩ := hin
  obtain ⟨hP, hD⟩ := g_swap hP hD
  refine lv_aload_n hx hb dL_law_1215 rfl (lv_at hl 2 rfl) ?_
  refine lv_aload_n hx hb dL_law_1216 rfl (lv_at hl 3 rfl) ?_
  refine g_call (va_runV (As := [.ref (d 0)]) (rest := []) S (kX2_isSame l hfl D cI cZ cT cU cQ d σ1 κ1 ds ι1 wwf wz (fun j => by have := wb j; omega) H.size) (cwV 1 S.2.2.2.2 gL_law_X2_isSame rfl rfl rfl (by decide +kernel) ⟨Nat.le_of_ble_eq_true rfl, Nat.le_of_ble_eq_true rfl⟩) (g_preV (lEx_g _) hK [0, 1, 2, 3, 4] rfl hP hD (fun U hU hW => lEx_w hTE hN hD hS hA hU hW) (q0 := 12) (ci := 2) rfl rfl rfl) rfl rfl hl.1 rfl (lv_room (Nat.le_of_ble_eq_true rfl)) dL_law_1217 ⟨by show cells1 + 326 ≤ 600104; omega, by show slots1 + 1940 ≤ 7301314; omega⟩) hP hD hS hA (fun κ2 H locs hk2 hP hD hS => ?_)
  show W p l e room_1 s m #[Value.ref b] below meth c H locs (cells1 + 326) (slots1 + 1940) (lw_Z below #[Value.ref b] s) (F0 m 1220 ls [.int 1])
  refine va_forget (fun q hq => hS.2.2 q hq) ?_
  refine W.widen (k := 600104) (n := 7301314) (by omega) (by omega) ?_
  exact W.base (lw_ret (Drawn.sameBut.refl s.drawn lw_cs) hx hb hr hlocks dL_law_1220)
