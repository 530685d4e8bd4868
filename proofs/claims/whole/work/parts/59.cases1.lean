/-! the law, case by case: setSort -/
section LC
variable {p : Program} {l : Launch} {e : Env} {s : State} {m : MethodId} {below : List Frame} {meth : Method} {c : Code} {H : Heap} {locs : List Loc} {cells slots : Nat} {Q : State → Prop}
variable {ls : Array Slot} {D : va_G} {cI cZ cQ cJ : ClassId} {b L : Nat} {xs : Nat → Int32} {dX dM : Nat → Nat} {w9 n : Nat} {σ κ μ : St} {g : Nat → Int64}
set_option maxHeartbeats 4000000 in
set_option maxRecDepth 100000 in
theorem lC_setSort (G : lG p l s m meth c b L xs D cI cZ cQ cJ) (hn : 5 * n + 5 ≤ L) (h : Lv n σ μ) (hcc : cells + 1090 ≤ 601024) (hss : slots + 4905 ≤ 7293034) (hP : va_P D vwCl (lWx cI cZ cJ dX dM w9 σ κ μ g) H) (hD : va_D (lA s) (lWx cI cZ cJ dX dM w9 σ κ μ g)) (hS : va_S (lA s) s.heap H locs) (hl : lv_has ls 9 (lLs b (dX 0) (dM 0) w9 n)) (K : lK p l e s m below meth c D cI cZ cJ b dX dM w9 n (cells + 1090) (slots + 4905) Q) : W p l e room_1 s m #[Value.ref b] below meth c H locs cells slots Q (F0 m 124 ls []) := by
  obtain ⟨S, hfl, hr, hlocks, hX, hbl, hL, hK, hTE, hN, hME⟩ := id G
  have S0 := S
  obtain ⟨hx, hb, hml, hown, hts⟩ := S0
  have hA : ∀ q : Nat, s.heap.size ≤ q → lA s q := fun _ h => h
  have hby := Lv_b h (by omega)
  have b1 := lx_b xs n 1
  have b2 := lx_b xs n 2
  have b3 := lx_b xs n 3
  refine lv_aload_n hx hb dL_law_124 rfl (lv_at hl 3 rfl) ?_
  refine lArg hx hb hX hbl hS hL 1 hn (by decide) hl 0 4 rfl rfl dL_law_125 dL_law_126 dL_law_128 dL_law_129 dL_law_130 ?_
  refine lArg hx hb hX hbl hS hL 2 hn (by decide) hl 0 4 rfl rfl dL_law_131 dL_law_132 dL_law_134 dL_law_135 dL_law_136 ?_
  refine lArg hx hb hX hbl hS hL 3 hn (by decide) hl 0 4 rfl rfl dL_law_137 dL_law_138 dL_law_140 dL_law_141 dL_law_142 ?_
  refine lv_aload_n hx hb dL_law_143 rfl (lv_at hl 1 rfl) ?_
  have hP : va_P D vwCl ((XW cI cZ dX σ κ ++ [(w9, LJ cJ g)]) ++ MW cI dM μ) H := hP
  have hD : va_D (lA s) ((XW cI cZ dX σ κ ++ [(w9, LJ cJ g)]) ++ MW cI dM μ) := hD
  refine g_call (mc := 1) (ms := 6) (vx_runSW (As := [.ref (dX 0), .int (iI (lx xs n 1)), .int (iI (lx xs n 2)), .int (iI (lx xs n 3)), .ref w9]) (rest := []) S (kL_setSort l hfl D cI cZ cJ dX σ κ w9 g (lx xs n 1) (lx xs n 2) (lx xs n 3) h.1 b1.1 b1.2 b2.1 b2.2 b3.1 b3.2 H.size) (vx_cwSW 5 hts gL_law_L_setSort rfl rfl rfl (by decide +kernel) ⟨Nat.le_of_ble_eq_true rfl, Nat.le_of_ble_eq_true rfl⟩) (g_preS (lEx_g _) hK [0, 1, 3] rfl hP hD (fun U hU hW => ⟨tEx_w hTE hD hS hA hU hW, nCa_m hW.alike hN⟩)) rfl rfl hl.1 rfl (lv_room (Nat.le_of_ble_eq_true rfl)) dL_law_144 ⟨lRc (by omega), lRs (by omega)⟩) hP hD hS hA (fun κ9 H locs hk hP hD hS => ?_)
  show W p l e room_1 s m #[Value.ref b] below meth c H locs (cells + 1) (slots + 6) Q (F0 m 147 ls [.int (iI (tSetSort (lx xs n 1) (lx xs n 2) (lx xs n 3)))])
  obtain ⟨hP, hD⟩ := g_swap hP hD
  refine lv_istore (lv' := (5, .int (iI (tSetSort (lx xs n 1) (lx xs n 2) (lx xs n 3)))) :: lLs b (dX 0) (dM 0) w9 n) hx hb dL_law_147 hl (by decide) rfl (fun ls hl => ?_)
  refine lv_aload_n hx hb dL_law_149 rfl (lv_at hl 3 rfl) ?_
  refine lArg hx hb hX hbl hS hL 1 hn (by decide) hl 1 5 rfl rfl dL_law_150 dL_law_151 dL_law_153 dL_law_154 dL_law_155 ?_
  refine lArg hx hb hX hbl hS hL 2 hn (by decide) hl 1 5 rfl rfl dL_law_156 dL_law_157 dL_law_159 dL_law_160 dL_law_161 ?_
  refine lArg hx hb hX hbl hS hL 3 hn (by decide) hl 1 5 rfl rfl dL_law_162 dL_law_163 dL_law_165 dL_law_166 dL_law_167 ?_
  refine g_call (mc := 0) (ms := 0) (va_runV (As := [.int (iI (lx xs n 1)), .int (iI (lx xs n 2)), .int (iI (lx xs n 3))]) (rest := []) S (kX2_setSort l D cI cZ cQ dM μ (lx xs n 1) (lx xs n 2) (lx xs n 3) b1.1 b1.2 b2.1 b2.2 b3.1 b3.2 H.size) (cwV 3 hts gL_law_X2_setSort rfl rfl rfl (by decide +kernel) ⟨Nat.le_of_ble_eq_true rfl, Nat.le_of_ble_eq_true rfl⟩) (g_preV gEx_t hK [0, 1, 2] rfl hP hD (fun _ _ _ => trivial) (q0 := 0) (ci := 2) rfl rfl rfl) rfl rfl hl.1 rfl (lv_room (Nat.le_of_ble_eq_true rfl)) dL_law_168 ⟨lRc (by omega), lRs (by omega)⟩) hP hD hS hA (fun κ8 H locs hk8 hP hD hS => ?_)
  refine lv_istore (lv' := (6, .int (iI _)) :: (5, .int (iI (tSetSort (lx xs n 1) (lx xs n 2) (lx xs n 3)))) :: lLs b (dX 0) (dM 0) w9 n) hx hb dL_law_171 hl (by decide) rfl (fun ls hl => ?_)
  exact lTail (t := (tSetSort (lx xs n 1) (lx xs n 2) (lx xs n 3))) G hP hD hS hl (Lv_setSort h (lx xs n 1) (lx xs n 2) (lx xs n 3)) (mRes_6 rfl) (tR_setSort (lx xs n 1) (lx xs n 2) (lx xs n 3)) (hv_L (fun _ => eq_setSort h (lx xs n 1) (lx xs n 2) (lx xs n 3))) (by omega) (by omega) hcc hss K (by decide) dL_law_173 dL_law_174 dL_law_177 dL_law_179 dL_law_184 dL_law_186 dL_law_189 dL_law_190 dL_law_191 dL_law_192 dL_law_194 dL_law_195 dL_law_196 dL_law_201
end LC
