/-! the law's loop -/
theorem Lv_d {n : Nat} {σ μ : St} (h : Lv n σ μ) : Lv (n + 1) σ μ := Lv_k h h.2.2.1 h.1 h.2.1 (fun _ => Int.le_refl _) rfl
section LL
variable {p : Program} {l : Launch} {e : Env} {s : State} {m : MethodId} {below : List Frame} {meth : Method} {c : Code} {Q : State → Prop}
variable {D : va_G} {cI cZ cQ cJ : ClassId} {b L : Nat} {xs : Nat → Int32} {dX dM : Nat → Nat} {w9 : Nat}
set_option maxHeartbeats 4000000 in
set_option maxRecDepth 100000 in
theorem lSwitch (G : lG p l s m meth c b L xs D cI cZ cQ cJ) {n : Nat} {σ κ μ : St} {g : Nat → Int64} {H : Heap} {locs : List Loc} {cells slots : Nat} {ls : Array Slot} (w : Int32) (hn : 5 * n + 5 ≤ L) (h : Lv n σ μ) (hcc : cells + 1090 ≤ 601024) (hss : slots + 4905 ≤ 7293034) (hP : va_P D vwCl (lWx cI cZ cJ dX dM w9 σ κ μ g) H) (hD : va_D (lA s) (lWx cI cZ cJ dX dM w9 σ κ μ g)) (hS : va_S (lA s) s.heap H locs) (hl : lv_has ls 9 (lLs b (dX 0) (dM 0) w9 n)) (K : lK p l e s m below meth c D cI cZ cJ b dX dM w9 n (cells + 1090) (slots + 4905) Q) : W p l e room_1 s m #[Value.ref b] below meth c H locs cells slots Q (F0 m 39 ls [.int w]) := by
  obtain ⟨S, -⟩ := id G
  obtain ⟨hx, hb, hml, hown, hts⟩ := S
  by_cases hw : w.toInt < 0 ∨ 17 < w.toInt
  · refine lv_tableOut (tgt := 1193) hx hb dL_law_39 hw (by decide) ?_
    exact K σ κ μ g H locs cells slots ls (Lv_d h) (by omega) (by omega) hP hD hS hl
  · have h1 : ¬ w.toInt < 0 := fun q => hw (Or.inl q)
    have h2 : ¬ 17 < w.toInt := fun q => hw (Or.inr q)
    rcases (show w.toInt = 0 ∨ w.toInt = 1 ∨ w.toInt = 2 ∨ w.toInt = 3 ∨ w.toInt = 4 ∨ w.toInt = 5 ∨ w.toInt = 6 ∨ w.toInt = 7 ∨ w.toInt = 8 ∨ w.toInt = 9 ∨ w.toInt = 10 ∨ w.toInt = 11 ∨ w.toInt = 12 ∨ w.toInt = 13 ∨ w.toInt = 14 ∨ w.toInt = 15 ∨ w.toInt = 16 ∨ w.toInt = 17 by omega) with q | q | q | q | q | q | q | q | q | q | q | q | q | q | q | q | q | q
    · exact lv_tableIn (off := 85) (tgt := 124) hx hb dL_law_39 h1 h2 (by rw [q]; rfl) (by decide) (lC_setSort G hn h hcc hss hP hD hS hl K)
    · exact lv_tableIn (off := 165) (tgt := 204) hx hb dL_law_39 h1 h2 (by rw [q]; rfl) (by decide) (lC_setFrost G hn h hcc hss hP hD hS hl K)
    · exact lv_tableIn (off := 233) (tgt := 272) hx hb dL_law_39 h1 h2 (by rw [q]; rfl) (by decide) (lC_plant G hn h hcc hss hP hD hS hl K)
    · exact lv_tableIn (off := 325) (tgt := 364) hx hb dL_law_39 h1 h2 (by rw [q]; rfl) (by decide) (lC_prune G hn h hcc hss hP hD hS hl K)
    · exact lv_tableIn (off := 405) (tgt := 444) hx hb dL_law_39 h1 h2 (by rw [q]; rfl) (by decide) (lC_graft G hn h hcc hss hP hD hS hl K)
    · exact lv_tableIn (off := 485) (tgt := 524) hx hb dL_law_39 h1 h2 (by rw [q]; rfl) (by decide) (lC_fell G hn h hcc hss hP hD hS hl K)
    · exact lv_tableIn (off := 553) (tgt := 592) hx hb dL_law_39 h1 h2 (by rw [q]; rfl) (by decide) (lC_tree G hn h hcc hss hP hD hS hl K)
    · exact lv_tableIn (off := 633) (tgt := 672) hx hb dL_law_39 h1 h2 (by rw [q]; rfl) (by decide) (lC_sort G hn h hcc hss hP hD hS hl K)
    · exact lv_tableIn (off := 701) (tgt := 740) hx hb dL_law_39 h1 h2 (by rw [q]; rfl) (by decide) (lC_count G hn h hcc hss hP hD hS hl K)
    · exact lv_tableIn (off := 757) (tgt := 796) hx hb dL_law_39 h1 h2 (by rw [q]; rfl) (by decide) (lC_leans G hn h hcc hss hP hD hS hl K)
    · exact lv_tableIn (off := 813) (tgt := 852) hx hb dL_law_39 h1 h2 (by rw [q]; rfl) (by decide) (lC_carry G hn h hcc hss hP hD hS hl K)
    · exact lv_tableIn (off := 893) (tgt := 932) hx hb dL_law_39 h1 h2 (by rw [q]; rfl) (by decide) (lC_tilt G hn h hcc hss hP hD hS hl K)
    · exact lv_tableIn (off := 906) (tgt := 945) hx hb dL_law_39 h1 h2 (by rw [q]; rfl) (by decide) (lC_balance G hn h hcc hss hP hD hS hl K)
    · exact lv_tableIn (off := 919) (tgt := 958) hx hb dL_law_39 h1 h2 (by rw [q]; rfl) (by decide) (lC_pass G hn h hcc hss hP hD hS hl K)
    · exact lv_tableIn (off := 975) (tgt := 1014) hx hb dL_law_39 h1 h2 (by rw [q]; rfl) (by decide) (lC_foresee G hn h hcc hss hP hD hS hl K)
    · exact lv_tableIn (off := 1043) (tgt := 1082) hx hb dL_law_39 h1 h2 (by rw [q]; rfl) (by decide) (lC_advise G hn h hcc hss hP hD hS hl K)
    · exact lv_tableIn (off := 1099) (tgt := 1138) hx hb dL_law_39 h1 h2 (by rw [q]; rfl) (by decide) (lC_mean G hn h hcc hss hP hD hS hl K)
    · exact lv_tableIn (off := 1140) (tgt := 1179) hx hb dL_law_39 h1 h2 (by rw [q]; rfl) (by decide) (lC_digest G hn h hcc hss hP hD hS hl K)
set_option maxHeartbeats 4000000 in
set_option maxRecDepth 100000 in
/-- at its head, n calls made -/
theorem lLoop (G : lG p l s m meth c b L xs D cI cZ cQ cJ) (hQ : ∀ (H : Heap) (locs : List Loc) (cells slots : Nat) (ls : Array Slot), va_S (lA s) s.heap H locs → cells ≤ 601024 → slots ≤ 7293034 → W p l e room_1 s m #[Value.ref b] below meth c H locs cells slots Q (F0 m 1199 ls [])) :
    ∀ (k n : Nat) (σ κ μ : St) (g : Nat → Int64) (H : Heap) (locs : List Loc) (cells slots : Nat) (ls : Array Slot), 5 * n ≤ L → L < 5 * (n + k) → Lv n σ μ → cells ≤ 20 + 1090 * n → slots ≤ 1000 + 4905 * n → va_P D vwCl (lWx cI cZ cJ dX dM w9 σ κ μ g) H → va_D (lA s) (lWx cI cZ cJ dX dM w9 σ κ μ g) → va_S (lA s) s.heap H locs → lv_has ls 9 (lLs b (dX 0) (dM 0) w9 n) → W p l e room_1 s m #[Value.ref b] below meth c H locs cells slots Q (F0 m 23 ls []) := by
  obtain ⟨S, hfl, hr, hlocks, hX, hbl, hL, hK, hTE, hN, hME⟩ := id G
  have S0 := S
  obtain ⟨hx, hb, hml, hown, hts⟩ := S0
  intro k
  induction k with
  | zero =>
    intro n σ κ μ g H locs cells slots ls h1 h2
    exact absurd h2 (by omega)
  | succ k ih =>
    intro n σ κ μ g H locs cells slots ls hi hk h hc hs hP hD hS hl
    refine lv_iload hx hb dL_law_23 (lv_at hl 0 rfl) ?_
    refine lv_aload_n hx hb dL_law_25 rfl (lv_at hl 4 rfl) ?_
    refine va_slen hx hb hX hbl (Nat.not_le.mpr hbl) hS dL_law_26 ?_
    rw [iI_ofNat]
    refine lv_iconst (v := iI 5) hx hb dL_law_27 rfl ?_
    refine gi_sub hx hb dL_law_28 ?_
    refine gi_icmp_gt (tgt := 1199) hx hb dL_law_29 (by decide) ⟨by omega, by omega⟩ ⟨by omega, by omega⟩ (fun c1 => ?_) (fun c1 => ?_)
    · exact hQ H locs cells slots ls hS (by omega) (by omega)
    · have hn : 5 * n + 5 ≤ L := by omega
      have e1 := iI_in (z := 5 * (n : Int)) (n := L) (by omega) (by omega) (by omega)
      refine lv_aload_n hx hb dL_law_32 rfl (lv_at hl 4 rfl) ?_
      refine lv_iload hx hb dL_law_33 (lv_at hl 0 rfl) ?_
      refine va_sld hx hb hX hbl (Nat.not_le.mpr hbl) hS e1.1 dL_law_35 ?_
      refine lv_bipush (v := iI 31) hx hb dL_law_36 rfl ?_
      refine lv_iand hx hb dL_law_38 ?_
      refine lSwitch G _ hn h (by omega) (by omega) hP hD hS hl ?_
      intro σ κ μ g H locs c2 s2 ls h hc2 hs2 hP hD hS hl
      refine lv_iinc (v := iI (5 * ((n + 1 : Nat) : Int))) (lv' := lLs b (dX 0) (dM 0) w9 (n + 1)) hx hb dL_law_1193 hl (k := 0) rfl (by show iI (5 * (n : Int)) + iI 5 = _; rw [iI_add]; congr 1) (by decide) rfl (fun ls hl => ?_)
      refine lv_goto (tgt := 23) hx hb dL_law_1196 (by decide) ?_
      exact ih (n + 1) σ κ μ g H locs c2 s2 ls (by omega) (by omega) h (by omega) (by omega) hP hD hS hl
end LL
