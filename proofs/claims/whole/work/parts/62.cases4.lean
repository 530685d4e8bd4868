/-! the law, case by case: tilt balance mean digest -/
section LC
variable {p : Program} {l : Launch} {e : Env} {s : State} {m : MethodId} {below : List Frame} {meth : Method} {c : Code} {H : Heap} {locs : List Loc} {cells slots : Nat} {Q : State → Prop}
variable {ls : Array Slot} {D : va_G} {cI cZ cQ cJ : ClassId} {b L : Nat} {xs : Nat → Int32} {dX dM : Nat → Nat} {w9 n : Nat} {σ κ μ : St} {g : Nat → Int64}
set_option maxHeartbeats 4000000 in
set_option maxRecDepth 100000 in
theorem lC_tilt (G : lG p l s m meth c b L xs D cI cZ cQ cJ) (hn : 5 * n + 5 ≤ L) (h : Lv n σ μ) (hcc : cells + 1090 ≤ 601024) (hss : slots + 4905 ≤ 7293034) (hP : va_P D vwCl (lWx cI cZ cJ dX dM w9 σ κ μ g) H) (hD : va_D (lA s) (lWx cI cZ cJ dX dM w9 σ κ μ g)) (hS : va_S (lA s) s.heap H locs) (hl : lv_has ls 9 (lLs b (dX 0) (dM 0) w9 n)) (K : lK p l e s m below meth c D cI cZ cJ b dX dM w9 n (cells + 1090) (slots + 4905) Q) : W p l e room_1 s m #[Value.ref b] below meth c H locs cells slots Q (F0 m 932 ls []) := by
  obtain ⟨S, hfl, hr, hlocks, hX, hbl, hL, hK, hTE, hN, hME⟩ := id G
  have S0 := S
  obtain ⟨hx, hb, hml, hown, hts⟩ := S0
  have hA : ∀ q : Nat, s.heap.size ≤ q → lA s q := fun _ h => h
  have hby := Lv_b h (by omega)
  refine lv_aload_n hx hb dL_law_932 rfl (lv_at hl 3 rfl) ?_
  have hP : va_P D vwCl (XW cI cZ dX σ κ ++ ([(w9, LJ cJ g)] ++ MW cI dM μ)) H := by rw [← List.append_assoc]; exact hP
  have hD : va_D (lA s) (XW cI cZ dX σ κ ++ ([(w9, LJ cJ g)] ++ MW cI dM μ)) := by rw [← List.append_assoc]; exact hD
  refine g_call (mc := 0) (ms := 0) (va_runV (As := []) (rest := []) S (kX1_tilt l D cI cZ dX σ κ H.size) (cwV 0 hts gL_law_X1_tilt rfl rfl rfl (by decide +kernel) ⟨Nat.le_of_ble_eq_true rfl, Nat.le_of_ble_eq_true rfl⟩) (g_preV xEx_g hK [0, 1] rfl hP hD (fun U hU hW => xEx_w hW hTE.1) (q0 := 0) (ci := 1) rfl rfl rfl) rfl rfl hl.1 rfl (lv_room (Nat.le_of_ble_eq_true rfl)) dL_law_933 ⟨lRc (by omega), lRs (by omega)⟩) hP hD hS hA (fun κ9 H locs hk hP hD hS => ?_)
  show W p l e room_1 s m #[Value.ref b] below meth c H locs cells slots Q (F0 m 936 ls [.int (iI (σ 9 1))])
  have hP : va_P D vwCl ((XW cI cZ dX σ κ9 ++ [(w9, LJ cJ g)]) ++ MW cI dM μ) H := by rw [List.append_assoc]; exact hP
  have hD : va_D (lA s) ((XW cI cZ dX σ κ9 ++ [(w9, LJ cJ g)]) ++ MW cI dM μ) := by rw [List.append_assoc]; exact hD
  obtain ⟨hP, hD⟩ := g_swap hP hD
  refine lv_aload_n hx hb dL_law_936 rfl (lv_at hl 2 rfl) ?_
  refine g_call (mc := 0) (ms := 0) (va_runV (As := []) (rest := [.int (iI (σ 9 1))]) S (kX2_tilt l D cI cZ cQ dM μ H.size) (cwV 0 hts gL_law_X2_tilt rfl rfl rfl (by decide +kernel) ⟨Nat.le_of_ble_eq_true rfl, Nat.le_of_ble_eq_true rfl⟩) (g_preV gEx_t hK [0, 1, 2] rfl hP hD (fun _ _ _ => trivial) (q0 := 0) (ci := 2) rfl rfl rfl) rfl rfl hl.1 rfl (lv_room (Nat.le_of_ble_eq_true rfl)) dL_law_937 ⟨lRc (by omega), lRs (by omega)⟩) hP hD hS hA (fun κ8 H locs hk8 hP hD hS => ?_)
  obtain ⟨hP, hD⟩ := g_swap hP hD
  show W p l e room_1 s m #[Value.ref b] below meth c H locs cells slots Q (F0 m 940 ls [.int (iI (μ 6 1)), .int (iI (σ 9 1))])
  rw [show μ 6 1 = σ 9 1 from h.2.2.1.2.1.2.2.2]
  refine lv_icmp_eq (tgt := 1193) hx hb dL_law_940 (by decide) (fun _ => ?_) (fun h => absurd rfl h)
  exact K σ κ9 (mZ μ) g H locs _ _ ls (Lv_z h 0) (by omega) (by omega) hP hD hS hl
set_option maxHeartbeats 4000000 in
set_option maxRecDepth 100000 in
theorem lC_balance (G : lG p l s m meth c b L xs D cI cZ cQ cJ) (hn : 5 * n + 5 ≤ L) (h : Lv n σ μ) (hcc : cells + 1090 ≤ 601024) (hss : slots + 4905 ≤ 7293034) (hP : va_P D vwCl (lWx cI cZ cJ dX dM w9 σ κ μ g) H) (hD : va_D (lA s) (lWx cI cZ cJ dX dM w9 σ κ μ g)) (hS : va_S (lA s) s.heap H locs) (hl : lv_has ls 9 (lLs b (dX 0) (dM 0) w9 n)) (K : lK p l e s m below meth c D cI cZ cJ b dX dM w9 n (cells + 1090) (slots + 4905) Q) : W p l e room_1 s m #[Value.ref b] below meth c H locs cells slots Q (F0 m 945 ls []) := by
  obtain ⟨S, hfl, hr, hlocks, hX, hbl, hL, hK, hTE, hN, hME⟩ := id G
  have S0 := S
  obtain ⟨hx, hb, hml, hown, hts⟩ := S0
  have hA : ∀ q : Nat, s.heap.size ≤ q → lA s q := fun _ h => h
  have hby := Lv_b h (by omega)
  refine lv_aload_n hx hb dL_law_945 rfl (lv_at hl 3 rfl) ?_
  have hP : va_P D vwCl (XW cI cZ dX σ κ ++ ([(w9, LJ cJ g)] ++ MW cI dM μ)) H := by rw [← List.append_assoc]; exact hP
  have hD : va_D (lA s) (XW cI cZ dX σ κ ++ ([(w9, LJ cJ g)] ++ MW cI dM μ)) := by rw [← List.append_assoc]; exact hD
  refine g_call (mc := 0) (ms := 0) (va_runV (As := []) (rest := []) S (kX1_balance l D cI cZ dX σ κ h.1 H.size) (cwV 0 hts gL_law_X1_balance rfl rfl rfl (by decide +kernel) ⟨Nat.le_of_ble_eq_true rfl, Nat.le_of_ble_eq_true rfl⟩) (g_preV xEx_g hK [0, 1] rfl hP hD (fun U hU hW => xEx_w hW hTE.1) (q0 := 0) (ci := 1) rfl rfl rfl) rfl rfl hl.1 rfl (lv_room (Nat.le_of_ble_eq_true rfl)) dL_law_946 ⟨lRc (by omega), lRs (by omega)⟩) hP hD hS hA (fun κ9 H locs hk hP hD hS => ?_)
  show W p l e room_1 s m #[Value.ref b] below meth c H locs cells slots Q (F0 m 949 ls [.int (iI (xBal σ))])
  have hP : va_P D vwCl ((XW cI cZ dX σ κ9 ++ [(w9, LJ cJ g)]) ++ MW cI dM μ) H := by rw [List.append_assoc]; exact hP
  have hD : va_D (lA s) ((XW cI cZ dX σ κ9 ++ [(w9, LJ cJ g)]) ++ MW cI dM μ) := by rw [List.append_assoc]; exact hD
  obtain ⟨hP, hD⟩ := g_swap hP hD
  refine lv_aload_n hx hb dL_law_949 rfl (lv_at hl 2 rfl) ?_
  refine g_call (mc := 1) (ms := 1081) (va_runV (As := []) (rest := [.int (iI (xBal σ))]) S (kX2_balance l D cI cZ cQ dM μ h.2.1 H.size) (cwV 0 hts gL_law_X2_balance rfl rfl rfl (by decide +kernel) ⟨Nat.le_of_ble_eq_true rfl, Nat.le_of_ble_eq_true rfl⟩) (g_preV gEx_t hK [0, 1, 2] rfl hP hD (fun _ _ _ => trivial) (q0 := 0) (ci := 2) rfl rfl rfl) rfl rfl hl.1 rfl (lv_room (Nat.le_of_ble_eq_true rfl)) dL_law_950 ⟨lRc (by omega), lRs (by omega)⟩) hP hD hS hA (fun κ8 H locs hk8 hP hD hS => ?_)
  obtain ⟨hP, hD⟩ := g_swap hP hD
  show W p l e room_1 s m #[Value.ref b] below meth c H locs (cells + 1) (slots + 1081) Q (F0 m 953 ls [.int (iI (mBal μ)), .int (iI (xBal σ))])
  rw [show mBal μ = xBal σ from (ask_balance h.1 h.2.1 h.2.2.1)]
  refine lv_icmp_eq (tgt := 1193) hx hb dL_law_953 (by decide) (fun _ => ?_) (fun h => absurd rfl h)
  exact K σ κ9 (mZ μ) g H locs _ _ ls (Lv_z h 0) (by omega) (by omega) hP hD hS hl
set_option maxHeartbeats 4000000 in
set_option maxRecDepth 100000 in
theorem lC_mean (G : lG p l s m meth c b L xs D cI cZ cQ cJ) (hn : 5 * n + 5 ≤ L) (h : Lv n σ μ) (hcc : cells + 1090 ≤ 601024) (hss : slots + 4905 ≤ 7293034) (hP : va_P D vwCl (lWx cI cZ cJ dX dM w9 σ κ μ g) H) (hD : va_D (lA s) (lWx cI cZ cJ dX dM w9 σ κ μ g)) (hS : va_S (lA s) s.heap H locs) (hl : lv_has ls 9 (lLs b (dX 0) (dM 0) w9 n)) (K : lK p l e s m below meth c D cI cZ cJ b dX dM w9 n (cells + 1090) (slots + 4905) Q) : W p l e room_1 s m #[Value.ref b] below meth c H locs cells slots Q (F0 m 1138 ls []) := by
  obtain ⟨S, hfl, hr, hlocks, hX, hbl, hL, hK, hTE, hN, hME⟩ := id G
  have S0 := S
  obtain ⟨hx, hb, hml, hown, hts⟩ := S0
  have hA : ∀ q : Nat, s.heap.size ≤ q → lA s q := fun _ h => h
  have hby := Lv_b h (by omega)
  refine lv_aload_n hx hb dL_law_1138 rfl (lv_at hl 3 rfl) ?_
  have hP : va_P D vwCl (XW cI cZ dX σ κ ++ ([(w9, LJ cJ g)] ++ MW cI dM μ)) H := by rw [← List.append_assoc]; exact hP
  have hD : va_D (lA s) (XW cI cZ dX σ κ ++ ([(w9, LJ cJ g)] ++ MW cI dM μ)) := by rw [← List.append_assoc]; exact hD
  refine g_call (mc := 0) (ms := 0) (va_runV (As := []) (rest := []) S (kX1_mean l D cI cZ dX σ κ h.1 H.size) (cwV 0 hts gL_law_X1_mean rfl rfl rfl (by decide +kernel) ⟨Nat.le_of_ble_eq_true rfl, Nat.le_of_ble_eq_true rfl⟩) (g_preV xEx_g hK [0, 1] rfl hP hD (fun U hU hW => xEx_w hW hTE.1) (q0 := 0) (ci := 1) rfl rfl rfl) rfl rfl hl.1 rfl (lv_room (Nat.le_of_ble_eq_true rfl)) dL_law_1139 ⟨lRc (by omega), lRs (by omega)⟩) hP hD hS hA (fun κ9 H locs hk hP hD hS => ?_)
  show W p l e room_1 s m #[Value.ref b] below meth c H locs cells slots Q (F0 m 1142 ls [.double (xMean σ)])
  have hP : va_P D vwCl ((XW cI cZ dX σ κ9 ++ [(w9, LJ cJ g)]) ++ MW cI dM μ) H := by rw [List.append_assoc]; exact hP
  have hD : va_D (lA s) ((XW cI cZ dX σ κ9 ++ [(w9, LJ cJ g)]) ++ MW cI dM μ) := by rw [List.append_assoc]; exact hD
  obtain ⟨hP, hD⟩ := g_swap hP hD
  refine lv_dstore (lv' := (5, .double (xMean σ)) :: lLs b (dX 0) (dM 0) w9 n) hx hb dL_law_1142 hl (by decide) rfl (fun ls hl => ?_)
  refine lv_aload_n hx hb dL_law_1144 rfl (lv_at hl 3 rfl) ?_
  refine g_call (mc := 0) (ms := 0) (va_runV (As := []) (rest := []) S (kX2_mean l D cI cZ cQ dM μ h.2.1 H.size) (cwV 0 hts gL_law_X2_mean rfl rfl rfl (by decide +kernel) ⟨Nat.le_of_ble_eq_true rfl, Nat.le_of_ble_eq_true rfl⟩) (g_preV gEx_t hK [0, 1, 2] rfl hP hD (fun _ _ _ => trivial) (q0 := 0) (ci := 2) rfl rfl rfl) rfl rfl hl.1 rfl (lv_room (Nat.le_of_ble_eq_true rfl)) dL_law_1145 ⟨lRc (by omega), lRs (by omega)⟩) hP hD hS hA (fun κ8 H locs hk8 hP hD hS => ?_)
  obtain ⟨hP, hD⟩ := g_swap hP hD
  show W p l e room_1 s m #[Value.ref b] below meth c H locs cells slots Q (F0 m 1148 ls [.double (mMean μ)])
  rw [show mMean μ = xMean σ from (ask_mean h.2.2.1)]
  refine lv_dstore (lv' := (7, .double (xMean σ)) :: (5, .double (xMean σ)) :: lLs b (dX 0) (dM 0) w9 n) hx hb dL_law_1148 hl (by decide) rfl (fun ls hl => ?_)
  obtain ⟨v, hv⟩ : ∃ v : Int32, v = Op.cmpValue (FP.dcmp (xMean σ) (xMean σ)) .l := ⟨_, rfl⟩
  have kN : W p l e room_1 s m #[Value.ref b] below meth c H locs cells slots Q (F0 m 1176 ls []) := by
    refine lv_goto (tgt := 1193) hx hb dL_law_1176 (by decide) ?_
    exact K σ κ9 (mZ μ) g H locs _ _ ls (Lv_z h 0) (by omega) (by omega) hP hD hS (lv_sub hl [2, 3, 4, 5, 6] rfl)
  refine lv_dload hx hb dL_law_1150 (lv_at hl 1 rfl) ?_
  refine lv_dload hx hb dL_law_1152 (lv_at hl 0 rfl) ?_
  refine lv_dcmp hx hb dL_law_1154 ?_
  rw [← hv]
  refine lv_if_eq (tgt := 1176) hx hb dL_law_1155 (by decide) (fun _ => kN) (fun c0 => ?_)
  refine lv_dload hx hb dL_law_1158 (lv_at hl 1 rfl) ?_
  refine lv_dload hx hb dL_law_1160 (lv_at hl 1 rfl) ?_
  refine lv_dcmp hx hb dL_law_1162 ?_
  rw [← hv]
  refine lv_if_eq (tgt := 1174) hx hb dL_law_1163 (by decide) (fun h => absurd h c0) (fun _ => ?_)
  refine lv_dload hx hb dL_law_1166 (lv_at hl 0 rfl) ?_
  refine lv_dload hx hb dL_law_1168 (lv_at hl 0 rfl) ?_
  refine lv_dcmp hx hb dL_law_1170 ?_
  rw [← hv]
  exact lv_if_ne (tgt := 1176) hx hb dL_law_1171 (by decide) (fun _ => kN) (fun h => absurd h c0)
set_option maxHeartbeats 4000000 in
set_option maxRecDepth 100000 in
theorem lC_digest (G : lG p l s m meth c b L xs D cI cZ cQ cJ) (hn : 5 * n + 5 ≤ L) (h : Lv n σ μ) (hcc : cells + 1090 ≤ 601024) (hss : slots + 4905 ≤ 7293034) (hP : va_P D vwCl (lWx cI cZ cJ dX dM w9 σ κ μ g) H) (hD : va_D (lA s) (lWx cI cZ cJ dX dM w9 σ κ μ g)) (hS : va_S (lA s) s.heap H locs) (hl : lv_has ls 9 (lLs b (dX 0) (dM 0) w9 n)) (K : lK p l e s m below meth c D cI cZ cJ b dX dM w9 n (cells + 1090) (slots + 4905) Q) : W p l e room_1 s m #[Value.ref b] below meth c H locs cells slots Q (F0 m 1179 ls []) := by
  obtain ⟨S, hfl, hr, hlocks, hX, hbl, hL, hK, hTE, hN, hME⟩ := id G
  have S0 := S
  obtain ⟨hx, hb, hml, hown, hts⟩ := S0
  have hA : ∀ q : Nat, s.heap.size ≤ q → lA s q := fun _ h => h
  have hby := Lv_b h (by omega)
  refine lv_aload_n hx hb dL_law_1179 rfl (lv_at hl 3 rfl) ?_
  have hP : va_P D vwCl (XW cI cZ dX σ κ ++ ([(w9, LJ cJ g)] ++ MW cI dM μ)) H := by rw [← List.append_assoc]; exact hP
  have hD : va_D (lA s) (XW cI cZ dX σ κ ++ ([(w9, LJ cJ g)] ++ MW cI dM μ)) := by rw [← List.append_assoc]; exact hD
  refine g_call (mc := 0) (ms := 0) (va_runV (As := []) (rest := []) S (kX1_digest l D cI cZ dX σ κ h.1 H.size) (cwV 0 hts gL_law_X1_digest rfl rfl rfl (by decide +kernel) ⟨Nat.le_of_ble_eq_true rfl, Nat.le_of_ble_eq_true rfl⟩) (g_preV xEx_g hK [0, 1] rfl hP hD (fun U hU hW => xEx_w hW hTE.1) (q0 := 0) (ci := 1) rfl rfl rfl) rfl rfl hl.1 rfl (lv_room (Nat.le_of_ble_eq_true rfl)) dL_law_1180 ⟨lRc (by omega), lRs (by omega)⟩) hP hD hS hA (fun κ9 H locs hk hP hD hS => ?_)
  show W p l e room_1 s m #[Value.ref b] below meth c H locs cells slots Q (F0 m 1183 ls [.long (xDig σ)])
  have hP : va_P D vwCl ((XW cI cZ dX σ κ9 ++ [(w9, LJ cJ g)]) ++ MW cI dM μ) H := by rw [List.append_assoc]; exact hP
  have hD : va_D (lA s) ((XW cI cZ dX σ κ9 ++ [(w9, LJ cJ g)]) ++ MW cI dM μ) := by rw [List.append_assoc]; exact hD
  obtain ⟨hP, hD⟩ := g_swap hP hD
  refine lv_aload_n hx hb dL_law_1183 rfl (lv_at hl 2 rfl) ?_
  refine g_call (mc := 0) (ms := 0) (va_runV (As := []) (rest := [.long (xDig σ)]) S (kX2_digest l D cI cZ cQ dM μ h.2.1 H.size) (cwV 0 hts gL_law_X2_digest rfl rfl rfl (by decide +kernel) ⟨Nat.le_of_ble_eq_true rfl, Nat.le_of_ble_eq_true rfl⟩) (g_preV gEx_t hK [0, 1, 2] rfl hP hD (fun _ _ _ => trivial) (q0 := 0) (ci := 2) rfl rfl rfl) rfl rfl hl.1 rfl (lv_room (Nat.le_of_ble_eq_true rfl)) dL_law_1184 ⟨lRc (by omega), lRs (by omega)⟩) hP hD hS hA (fun κ8 H locs hk8 hP hD hS => ?_)
  obtain ⟨hP, hD⟩ := g_swap hP hD
  show W p l e room_1 s m #[Value.ref b] below meth c H locs cells slots Q (F0 m 1187 ls [.long (mDig μ), .long (xDig σ)])
  rw [show mDig μ = xDig σ from (ask_digest h.2.2.1 h.1)]
  refine W.lcmp hx hb dL_law_1187 ?_
  rw [lcmp_s]
  refine lv_if_eq (tgt := 1193) hx hb dL_law_1188 (by decide) (fun _ => ?_) (fun h => absurd rfl h)
  exact K σ κ9 (mZ μ) g H locs _ _ ls (Lv_z h 0) (by omega) (by omega) hP hD hS hl
end LC
