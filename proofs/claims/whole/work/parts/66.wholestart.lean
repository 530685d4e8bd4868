set_option maxHeartbeats 4000000 in
set_option maxRecDepth 100000 in
/-- from the entry, for every script of at most 2560 ints, the law comes to its end with true -/
theorem whole_start {p : Program} {e : Env} {s : State} {m : MethodId} {below : List Frame} {meth : Method} {c : Code} (l : Launch) (hflags : l.flags = flags0) {b L : Nat} {xs : Nat → Int32} (hL : L ≤ 2560) (C0 : lw_At p s m meth c b L xs) : W p l e room_1 s m #[Value.ref b] below meth c s.heap [] 0 0 (lw_Z below #[Value.ref b] s) (entryFrame m ([Value.ref b] : List Value).toArray 9) := by
  obtain ⟨hx, hb, hr, hml, hown, hts, hX, hbl, hlocks, hgv⟩ := id C0
  have ht : ∀ w ∈ tables_1, w.before #[Value.ref b] s = true := fun w h => hts w (List.mem_append_right _ h)
  have hs := flat_of_before _ hgv
  have hfl : l.stackTraces = false := by
    unfold Launch.stackTraces
    rw [hflags]
    decide +kernel
  have S : CallFix p m c code 9 s #[Value.ref b] wsL_law RL := ⟨hx, hb, hml, hown, fun w h => hts w (wsL_law_in w h)⟩
  have hA : ∀ q : Nat, s.heap.size ≤ q → lA s q := fun _ h => h
  have hTE := st_T ht hs
  have hN := st_N hs
  have hME := st_M ht hs
  obtain ⟨cI, cZ, cQ, hty⟩ := st_tys ht
  obtain ⟨c0, i0, k0⟩ := u_known (C := RX0) (T := TX0) (N := 4) (n := 4) hts inX0 (ht (.instantiable RX0 4) (by decide +kernel))
  obtain ⟨c1, i1, k1⟩ := u_known (C := RX1) (T := TX1) (N := 13) (n := 13) hts inX1 (ht (.instantiable RX1 13) (by decide +kernel))
  obtain ⟨c2, i2, k2⟩ := u_known (C := RX2) (T := TX2) (N := 8) (n := 8) hts inX2 (ht (.instantiable RX2 8) (by decide +kernel))
  obtain ⟨D, hKn⟩ : ∃ D : va_G, ∀ (k : Nat) (q : vw_C), vwCl[k]? = some q → u_Kn s q.1 q.2.1 q.2.2 (D.1 k) (D.2 k) := by
    refine ⟨(fun k => if k = 0 then c0 else if k = 1 then c1 else c2, fun k => if k = 0 then i0 else if k = 1 then i1 else i2), ?_⟩
    intro k q hq
    match k, hq with
    | 0, hq => cases hq; exact k0
    | 1, hq => cases hq; exact k1
    | 2, hq => cases hq; exact k2
    | k + 3, hq => simp [vwCl] at hq
  have hK : va_K D vwCl (tyMs cI cZ cQ) s := ⟨hKn, hty⟩
  have hP : va_P D vwCl [] s.heap := fun k q h => by simp at h
  have hD : va_D (lA s) [] := ⟨fun i j p q h => by simp at h, fun k q h => by simp at h⟩
  have hS : va_S (lA s) s.heap s.heap [] := va_S.rf
  have hl := lv_entry ([.ref b]) (n := 9) (Nat.le_of_ble_eq_true rfl)
  rw [lg_entry_eq]
  generalize (lg_sl ([.ref b]) ++ List.replicate (9 - (lg_sl ([.ref b])).length) Slot.unset).toArray = ls at hl ⊢
  have hl : lv_has ls 9 [(0, .ref b)] := hl
  refine va_new (ci := 1) (fs := [.null, .null, .null, .null, .null, .null, .null, .null, .null, .int 0, .int 0, .null, .null]) (C := RX1) (T := TX1) (N := 13) hx hb hts inX1 tyX1 tyX1_ok hown (ht (.classLink RL 8 RX1) (by decide +kernel)) (ht (.instantiable RX1 13) (by decide +kernel)) (ht (.initialized RX1) (by decide +kernel)) hK hP hD hS hA rfl dfX1 (Nat.le_of_ble_eq_true rfl) (Nat.le_of_ble_eq_true rfl) dL_law_0 (fun qX H hP hD hS => ?_)
  have hP : va_P D vwCl ([(qX, .inr (1, [.null, .null, .null, .null, .null, .null, .null, .null, .null, .int 0, .int 0, .null, .null]))] ++ []) H := hP
  have hD : va_D (lA s) ([(qX, .inr (1, [.null, .null, .null, .null, .null, .null, .null, .null, .null, .int 0, .int 0, .null, .null]))] ++ []) := hD
  refine lv_dup hx hb dL_law_3 rfl ?_
  refine g_call (mc := 11) (ms := 735) (va_runI (As := []) (rest := [.ref qX]) S (kX1_init l D cI cZ (fun _ => qX) H.size) (cwI 0 S.2.2.2.2 gL_law_X1_init rfl rfl rfl (ht (.initialized RX1) (by decide +kernel)) (ht (.methodLink RL 61 yX1_init) (by decide +kernel)) (ht (.instanceMethod yX1_init) (by decide +kernel)) rfl (by decide +kernel) ⟨Nat.le_of_ble_eq_true rfl, Nat.le_of_ble_eq_true rfl⟩) (g_preS (As := [.ref qX]) xEx_g hK [0, 1] rfl hP hD (fun U hU hW => xEx_w hW hTE.1)) rfl rfl hl.1 rfl (lv_room (Nat.le_of_ble_eq_true rfl)) dL_law_4 ⟨Nat.le_of_ble_eq_true rfl, Nat.le_of_ble_eq_true rfl⟩) hP hD hS hA (fun κX H locs hk hP hD hS => ?_)
  obtain ⟨dX, hdX⟩ : ∃ d : Nat → Nat, d = dK qX κX := ⟨_, rfl⟩
  have eX : dX 0 = qX := by rw [hdX]; rfl
  have hP : va_P D vwCl (XW cI cZ dX σI zS ++ []) H := by rw [hdX]; exact hP
  have hD : va_D (lA s) (XW cI cZ dX σI zS ++ []) := by rw [hdX]; exact hD
  rw [List.append_nil] at hP hD
  show W p l e room_1 s m #[Value.ref b] below meth c H locs 12 748 (lw_Z below #[Value.ref b] s) (F0 m 7 ls [.ref qX])
  refine lv_astore_n (lv' := [(1, .ref qX), (0, .ref b)]) hx hb dL_law_7 rfl hl (by decide) rfl (fun ls hl => ?_)
  refine va_new (ci := 2) (fs := [.int 0, .null, .null, .null, .null, .null, .null, .int 0]) (C := RX2) (T := TX2) (N := 8) hx hb hts inX2 tyX2 tyX2_ok hown (ht (.classLink RL 62 RX2) (by decide +kernel)) (ht (.instantiable RX2 8) (by decide +kernel)) (ht (.initialized RX2) (by decide +kernel)) hK hP hD hS hA rfl dfX2 (Nat.le_of_ble_eq_true rfl) (Nat.le_of_ble_eq_true rfl) dL_law_8 (fun qM H hP hD hS => ?_)
  obtain ⟨hP, hD⟩ := g_swap hP hD
  refine lv_dup hx hb dL_law_11 rfl ?_
  refine g_call (mc := 6) (ms := 231) (va_runI (As := []) (rest := [.ref qM]) S (kX2_init l D cI cZ cQ (fun _ => qM) H.size) (cwI 0 S.2.2.2.2 gL_law_X2_init rfl rfl rfl (ht (.initialized RX2) (by decide +kernel)) (ht (.methodLink RL 64 yX2_init) (by decide +kernel)) (ht (.instanceMethod yX2_init) (by decide +kernel)) rfl (by decide +kernel) ⟨Nat.le_of_ble_eq_true rfl, Nat.le_of_ble_eq_true rfl⟩) (g_preS (As := [.ref qM]) gEx_t hK [0, 1, 2] rfl hP hD (fun _ _ _ => trivial)) rfl rfl hl.1 rfl (lv_room (Nat.le_of_ble_eq_true rfl)) dL_law_12 ⟨Nat.le_of_ble_eq_true rfl, Nat.le_of_ble_eq_true rfl⟩) hP hD hS hA (fun κM H locs hk hP hD hS => ?_)
  obtain ⟨dM, hdM⟩ : ∃ d : Nat → Nat, d = dK qM κM := ⟨_, rfl⟩
  have eM : dM 0 = qM := by rw [hdM]; rfl
  have hP : va_P D vwCl (MW cI dM μI ++ XW cI cZ dX σI zS) H := by rw [hdM]; exact hP
  have hD : va_D (lA s) (MW cI dM μI ++ XW cI cZ dX σI zS) := by rw [hdM]; exact hD
  show W p l e room_1 s m #[Value.ref b] below meth c H locs 19 987 (lw_Z below #[Value.ref b] s) (F0 m 15 ls [.ref qM])
  refine lv_astore_n (lv' := [(2, .ref qM), (1, .ref qX), (0, .ref b)]) hx hb dL_law_15 rfl hl (by decide) rfl (fun ls hl => ?_)
  refine lv_iconst (v := iI 1) hx hb dL_law_16 rfl ?_
  refine va_newa (atype := .long) (ty := .long) (N' := 1) (a0 := (1, .inr (.inl (fun _ => 0)))) hx hb (ht (.arrayClass .long) (by decide +kernel)) rfl hK hP hD hS hA (fun _ => rfl) (by decide) rfl (Nat.le_of_ble_eq_true rfl) (Nat.le_of_ble_eq_true rfl) (Nat.le_of_ble_eq_true rfl) dL_law_17 (fun w9 cJ H hK hP hD hS => ?_)
  have hK : va_K D vwCl (tyL4 cI cZ cQ cJ) s := hK
  have hP : va_P D vwCl (MW cI dM μI ++ (XW cI cZ dX σI zS ++ [(w9, LJ cJ (fun _ => 0))])) H := by rw [← List.append_assoc]; exact hP
  have hD : va_D (lA s) (MW cI dM μI ++ (XW cI cZ dX σI zS ++ [(w9, LJ cJ (fun _ => 0))])) := by rw [← List.append_assoc]; exact hD
  obtain ⟨hP, hD⟩ := g_swap hP hD
  refine lv_astore_n (lv' := [(3, .ref w9), (2, .ref qM), (1, .ref qX), (0, .ref b)]) hx hb dL_law_19 rfl hl (by decide) rfl (fun ls hl => ?_)
  refine lv_iconst (v := iI 0) hx hb dL_law_20 rfl ?_
  refine lv_istore (lv' := [(4, .int (iI 0)), (3, .ref w9), (2, .ref qM), (1, .ref qX), (0, .ref b)]) hx hb dL_law_21 hl (by decide) rfl (fun ls hl => ?_)
  have hl : lv_has ls 9 (lLs b (dX 0) (dM 0) w9 0) := by rw [eX, eM]; exact hl
  have G : lG p l s m meth c b L xs D cI cZ cQ cJ := ⟨S, hfl, hr, hlocks, hX, hbl, hL, hK, hTE, hN, hME⟩
  refine lLoop G (fun H locs cells slots ls hS hc hs => ?_) 513 0 σI zS μI (fun _ => 0) H locs (19 + 1) (987 + 1) ls (Nat.zero_le _) (by omega) Lv_I (by omega) (by omega) hP hD hS hl
  refine lv_iconst (v := 1) hx hb dL_law_1199 (by decide) ?_
  refine va_forget (fun q hq => hS.2.2 q hq) ?_
  refine W.widen (k := 601024) (n := 7293034) hc hs ?_
  exact W.base (lw_ret (Drawn.sameBut.refl s.drawn lw_cs) hx hb hr hlocks dL_law_1200)
