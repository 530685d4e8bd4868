/-! the law: what its walk carries; arguments out of the script; the tail of a case -/
abbrev tyL4 (cI cZ cQ cJ : ClassId) : List (ClassId × FieldType) := [(cI, .int), (cZ, .boolean), (cQ, .array .int), (cJ, .long)]
abbrev lA (s : State) : Nat → Prop := fun q => s.heap.size ≤ q
def lG (p : Program) (l : Launch) (s : State) (m : MethodId) (meth : Method) (c : Code) (b L : Nat) (xs : Nat → Int32) (D : va_G) (cI cZ cQ cJ : ClassId) : Prop :=
  CallFix p m c code 9 s #[Value.ref b] wsL_law RL ∧ l.stackTraces = false ∧ meth.sig.returnType = ret ∧ meth.locks = false ∧ va_X b L xs s s.heap ∧ b < s.heap.size ∧ L ≤ 2560 ∧ va_K D vwCl (tyL4 cI cZ cQ cJ) s ∧ tExA (lA s) s ∧ nCa s ∧ mExA (lA s) s
abbrev lx (xs : Nat → Int32) (n j : Nat) : Int := (xs (5 * n + j)).toInt
theorem lx_b (xs : Nat → Int32) (n j : Nat) : -2147483648 ≤ lx xs n j ∧ lx xs n j ≤ 2147483647 := ⟨iI_lo _, iI_hi _⟩
abbrev lLs (b dx dm w9 n : Nat) : List (Nat × Value) := [(4, .int (iI (5 * (n : Int)))), (3, .ref w9), (2, .ref dm), (1, .ref dx), (0, .ref b)]
abbrev lWx (cI cZ cJ : ClassId) (dX dM : Nat → Nat) (w9 : Nat) (σ κ μ : St) (g : Nat → Int64) : va_W := (XW cI cZ dX σ κ ++ [(w9, LJ cJ g)]) ++ MW cI dM μ
theorem lRc {k : Nat} (h : k ≤ 601024) : k ≤ room_1.cells := h
theorem lRs {k : Nat} (h : k ≤ 7293034) : k ≤ room_1.slots := h
theorem mRes_6 {t : Int} {ok μ : St} (h : ok 6 0 = 0) : mRes t ok μ 6 0 = t := by
  by_cases g : t = 0
  · rw [show mRes t ok μ = ok from if_pos g, h, g]
  · rw [show mRes t ok μ = mFail μ t from if_neg g]
    rfl
theorem hv_L {t : Int} {g : Nat → Int64} {a v : Int} (h : t = 0 → a = v) (h0 : t = 0) : (pk t (vp_updL g 0 ((iI a).toInt64)) g) 0 = (iI (mVal t v)).toInt64 := by
  rw [pk_y h0, show mVal t v = v from if_pos h0, ← h h0]
  rfl
theorem lcmp_s (x : Int64) : lg_cmp x x = 0 := by
  unfold lg_cmp
  simp
section LB
variable {p : Program} {l : Launch} {e : Env} {s : State} {m : MethodId} {below : List Frame} {meth : Method} {c : Code} {H : Heap} {locs : List Loc} {cells slots : Nat} {Q : State → Prop}
variable {ls : Array Slot} {rest : List Value} {D : va_G} {cI cZ cQ cJ : ClassId} {b L : Nat} {xs : Nat → Int32} {dX dM : Nat → Nat} {w9 n : Nat} {σ κ μ : St} {g : Nat → Int64}
/-- where the walk goes on: behind the switch, one call more -/
def lK (p : Program) (l : Launch) (e : Env) (s : State) (m : MethodId) (below : List Frame) (meth : Method) (c : Code) (D : va_G) (cI cZ cJ : ClassId) (b : Nat) (dX dM : Nat → Nat) (w9 n c1 s1 : Nat) (Q : State → Prop) : Prop :=
  ∀ (σ κ μ : St) (g : Nat → Int64) (H : Heap) (locs : List Loc) (cells slots : Nat) (ls : Array Slot), Lv (n + 1) σ μ → cells ≤ c1 → slots ≤ s1 → va_P D vwCl (lWx cI cZ cJ dX dM w9 σ κ μ g) H → va_D (lA s) (lWx cI cZ cJ dX dM w9 σ κ μ g) → va_S (lA s) s.heap H locs → lv_has ls 9 (lLs b (dX 0) (dM 0) w9 n) → W p l e room_1 s m #[Value.ref b] below meth c H locs cells slots Q (F0 m 1193 ls [])
theorem lArg (hx : p.tables.exec = Jvm.exec) (hb : c.code = code) (hX : va_X b L xs s s.heap) (hbl : b < s.heap.size) (hS : va_S (lA s) s.heap H locs) (hL : L ≤ 2560) (j : Nat) (hn : 5 * n + 5 ≤ L) (hj : j < 5) {lv : List (Nat × Value)} (hl : lv_has ls 9 lv) (k4 k0 : Nat) (h4 : lv[k4]? = some (4, .int (iI (5 * (n : Int))))) (h0 : lv[k0]? = some (0, .ref b)) {pc : Nat}
    (d0 : decode code pc = .ok (.aload_n 0, 1)) (d1 : decode code (pc + 1) = .ok (.iload 4, 2)) (d3 : decode code (pc + 3) = .ok (.iconst (j : Int), 1)) (d4 : decode code (pc + 4) = .ok (.iadd, 1)) (d5 : decode code (pc + 5) = .ok (.iaload, 1))
    (k : W p l e room_1 s m #[Value.ref b] below meth c H locs cells slots Q (F0 m (pc + 6) ls (.int (iI (lx xs n j)) :: rest))) : W p l e room_1 s m #[Value.ref b] below meth c H locs cells slots Q (F0 m pc ls rest) := by
  refine lv_aload_n hx hb d0 rfl (lv_at hl k0 h0) ?_
  refine lv_iload hx hb d1 (lv_at hl k4 h4) ?_
  refine lv_iconst (v := iI (j : Int)) hx hb d3 rfl ?_
  refine gi_add hx hb d4 ?_
  have e1 := iI_in (z := 5 * (n : Int) + (j : Int)) (n := L) (by omega) (by omega) (by omega)
  refine va_sld hx hb hX hbl (Nat.not_le.mpr hbl) hS e1.1 d5 ?_
  rw [show (iI (5 * (n : Int) + (j : Int))).toNatClampNeg = 5 * n + j by omega, iI_of (xs (5 * n + j))]
  exact k
set_option maxHeartbeats 4000000 in
/-- the end of a case: what was thrown is the same, and where nothing was, the answer -/
theorem lTail (G : lG p l s m meth c b L xs D cI cZ cQ cJ) {c1 s1 : Nat} {t v : Int} (hP : va_P D vwCl (MW cI dM μ ++ (XW cI cZ dX σ κ ++ [(w9, LJ cJ g)])) H) (hD : va_D (lA s) (MW cI dM μ ++ (XW cI cZ dX σ κ ++ [(w9, LJ cJ g)]))) (hS : va_S (lA s) s.heap H locs) (hl : lv_has ls 9 ((6, .int (iI v)) :: (5, .int (iI t)) :: lLs b (dX 0) (dM 0) w9 n)) (hLv : Lv (n + 1) σ μ) (h6 : μ 6 0 = t) (ht : inR t) (hv : t = 0 → g 0 = (iI v).toInt64) (hc1 : cells ≤ c1) (hs1 : slots ≤ s1) (hcc : c1 ≤ 601024) (hss : s1 ≤ 7293034) (K : lK p l e s m below meth c D cI cZ cJ b dX dM w9 n c1 s1 Q) {q : Nat} {off : Int} (hoff : (q : Int) + 28 + off = 1193)
    (d0 : decode code q = .ok (.aload_n 2, 1)) (d1 : decode code (q + 1) = .ok (.invokevirtual 71, 3)) (d4 : decode code (q + 4) = .ok (.iload 5, 2)) (d6 : decode code (q + 6) = .ok (.if_icmp .eq 5, 3)) (d11 : decode code (q + 11) = .ok (.iload 5, 2)) (d13 : decode code (q + 13) = .ok (.ifCond .ne 15, 3)) (d16 : decode code (q + 16) = .ok (.aload_n 3, 1)) (d17 : decode code (q + 17) = .ok (.iconst 0, 1)) (d18 : decode code (q + 18) = .ok (.laload, 1)) (d19 : decode code (q + 19) = .ok (.iload 6, 2)) (d21 : decode code (q + 21) = .ok (.i2l, 1)) (d22 : decode code (q + 22) = .ok (.lcmp, 1)) (d23 : decode code (q + 23) = .ok (.ifCond .eq 5, 3)) (d28 : decode code (q + 28) = .ok (.goto off, 3)) :
    W p l e room_1 s m #[Value.ref b] below meth c H locs cells slots Q (F0 m q ls []) := by
  obtain ⟨S, hfl, hr, hlocks, hX, hbl, hL, hK, hTE, hN, hME⟩ := G
  have S0 := S
  obtain ⟨hx, hb, hml, hown, hts⟩ := S0
  have hA : ∀ q : Nat, s.heap.size ≤ q → lA s q := fun _ h => h
  refine lv_aload_n hx hb d0 rfl (lv_at hl 4 rfl) ?_
  refine g_call (mc := 0) (ms := 0) (va_runV (As := []) (rest := []) S (kX2_thrown l D cI cZ cQ dM μ H.size) (cwV 0 hts gL_law_X2_thrown rfl rfl rfl (by decide +kernel) ⟨Nat.le_of_ble_eq_true rfl, Nat.le_of_ble_eq_true rfl⟩) (g_preV gEx_t hK [0, 1, 2] rfl hP hD (fun _ _ _ => trivial) (q0 := 0) (ci := 2) rfl rfl rfl) rfl rfl hl.1 rfl (lv_room (Nat.le_of_ble_eq_true rfl)) d1 ⟨lRc (by omega), lRs (by omega)⟩) hP hD hS hA (fun κ9 H locs hk hP hD hS => ?_)
  have hP : va_P D vwCl (MW cI dM μ ++ (XW cI cZ dX σ κ ++ [(w9, LJ cJ g)])) H := hP
  have hD : va_D (lA s) (MW cI dM μ ++ (XW cI cZ dX σ κ ++ [(w9, LJ cJ g)])) := hD
  show W p l e room_1 s m #[Value.ref b] below meth c H locs cells slots Q (F0 m (q + 4) ls [.int (iI (μ 6 0))])
  obtain ⟨hP2, hD2⟩ := g_swap hP hD
  refine lv_iload hx hb d4 (lv_at hl 1 rfl) ?_
  refine gi_icmp_eq (tgt := q + 11) hx hb d6 (by omega) (by rw [h6]; exact ht) ht (fun c6 => ?_) (fun c6 => absurd h6 c6)
  refine lv_iload hx hb d11 (lv_at hl 1 rfl) ?_
  refine gi_if_ne (tgt := q + 28) hx hb d13 (by omega) ht (fun c13 => ?_) (fun c13 => ?_)
  · refine lv_goto (tgt := 1193) hx hb d28 (by omega) ?_
    exact K σ κ μ g H locs cells slots ls hLv hc1 hs1 hP2 hD2 hS (lv_sub hl [2, 3, 4, 5, 6] rfl)
  · refine lv_aload_n hx hb d16 rfl (lv_at hl 3 rfl) ?_
    refine lv_iconst (v := iI 0) hx hb d17 rfl ?_
    refine va_lald hx hb hK hP 19 3 rfl rfl vp0 d18 ?_
    refine lv_iload hx hb d19 (lv_at hl 0 rfl) ?_
    refine lv_i2l (v := (iI v).toInt64) hx hb d21 rfl ?_
    rw [show g (iI 0).toNatClampNeg = (iI v).toInt64 from (congrArg g (show (iI 0).toNatClampNeg = 0 by decide)).trans (hv c13)]
    refine W.lcmp hx hb d22 ?_
    rw [lcmp_s]
    refine lv_if_eq (tgt := q + 28) hx hb d23 (by omega) (fun _ => ?_) (fun h => absurd rfl h)
    refine lv_goto (tgt := 1193) hx hb d28 (by omega) ?_
    exact K σ κ μ g H locs cells slots ls hLv hc1 hs1 hP2 hD2 hS (lv_sub hl [2, 3, 4, 5, 6] rfl)
end LB
