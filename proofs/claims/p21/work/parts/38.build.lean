set_option maxHeartbeats 4000000 in
set_option maxRecDepth 100000 in
theorem kL_build (l : Launch) (hfl : l.stackTraces = false) (D : va_G) (cI cZ cT cU cQ : ClassId) (b L : Nat) (xs : Nat → Int32) (hL : L ≤ 260) (d : Nat → Nat) (κ : St)   : gMet l yL_build wsL_build ({ frames := 8, cells := 92, slots := 499, locals := 149 } : Room) D (tyA cI cZ cT cU cQ) (XW cI cZ d σI κ) [.ref (d 0), .ref (b)] (bEx b L xs (XW cI cZ d σI κ)) (fun κ' => some (.ref (κ' 3 0).toNat)) (fun κ' => bLv (fun a => κ' (a + 10))) (fun κ' => XW cI cZ d (fun a => κ' (a + 10)) κ' ++ SW cI cT cU (fun i => (κ' 3 i).toNat) (fun a => κ' (a + 10)) (κ' 2)) := by
  refine g_startB (cc := cL_build) (maxL := 5) (ret := (some (.object "TwinOrchardLaw$Sim"))) (by decide) rfl (Nat.le_of_ble_eq_true rfl) ?_
  intro p e s m args below meth c A ls H locs S hr hlocks hP hK hD hA hS hTE hN hX9 hl
  have hE := hTE.1
  have S0 := S
  obtain ⟨hx, hb, hml, hown, hts⟩ := S0
  have hl : lv_has ls 5 [(0, .ref (d 0)), (1, .ref (b))] := hl
  have hinX0 : ∀ w ∈ wsX00, w ∈ wsL_build := by decide +kernel
  have hinX1 : ∀ w ∈ wsX10, w ∈ wsL_build := by decide +kernel
  have hinX2 : ∀ w ∈ wsX20, w ∈ wsL_build := by decide +kernel
  have hinX3 : ∀ w ∈ wsX30, w ∈ wsL_build := by decide +kernel
  refine va_new (ci := 2) (fs := [.null, .null, .null, .null, .null, .null, .int 0, .int 0]) (C := RX2) (T := TX2) (N := 8) hx hb hts hinX2 tyX2 tyX2_ok hown (hts _ (List.mem_of_getElem? (i := 1) rfl)) (hts _ (List.mem_of_getElem? (i := 2) rfl)) (hts _ (List.mem_of_getElem? (i := 3) rfl)) hK hP hD hS hA rfl dfX2 (Nat.le_of_ble_eq_true rfl) (Nat.le_of_ble_eq_true rfl) dL_build_0 (fun q0_1 H hP hD hS => ?_)
  obtain ⟨hP, hD⟩ := g_swap hP hD
  have hP : va_P D vwCl ([(q0_1, .inr (2, [.null, .null, .null, .null, .null, .null, .int (iI (0)), .int (iI (0))]))] ++ (XW cI cZ d σI κ)) H := hP
  have hD : va_D A ([(q0_1, .inr (2, [.null, .null, .null, .null, .null, .null, .int (iI (0)), .int (iI (0))]))] ++ (XW cI cZ d σI κ)) := hD
  refine lv_dup hx hb dL_build_3 rfl ?_
  have hPc : va_P D vwCl ([(q0_1, .inr (2, [.null, .null, .null, .null, .null, .null, .int (iI (0)), .int (iI (0))]))] ++ (XW cI cZ d σI κ)) H := hP
  have hDc : va_D A ([(q0_1, .inr (2, [.null, .null, .null, .null, .null, .null, .int (iI (0)), .int (iI (0))]))] ++ (XW cI cZ d σI κ)) := hD
  refine g_call (va_runIN (As := []) (rest := [.ref (q0_1)]) S ((kX2_init l D cI cZ cT cU cQ (fun _ => q0_1)) H.size) ⟨va_cnB 0 hts gL_build_X2_init_n11 rfl rfl rfl hN.1 (hts (.initialized RX2) (List.mem_of_getElem? (i := 3) rfl)) (by decide +kernel) ⟨Nat.le_of_ble_eq_true rfl, Nat.le_of_ble_eq_true rfl⟩, rfl, (hts _ (List.mem_of_getElem? (i := 7) rfl))⟩ (g_preS (As := [.ref q0_1]) nst_g hK [0, 1, 2, 3, 4] rfl hPc hDc (fun U _ hW => nst_w hW hN)) rfl rfl hl.1 rfl (lv_room (Nat.le_of_ble_eq_true rfl)) dL_build_4 ⟨Nat.le_of_ble_eq_true rfl, Nat.le_of_ble_eq_true rfl⟩) hPc hDc hS hA (fun κ9 H locs hk hP hD hS => ?_)
  obtain ⟨z2, ezz2⟩ : ∃ z, z = κ9 := ⟨_, rfl⟩
  subst ezz2
  have hP : va_P D vwCl (SW cI cT cU (dK q0_1 z2) σI (z2 2) ++ (XW cI cZ d σI κ)) H := hP
  have hD : va_D A (SW cI cT cU (dK q0_1 z2) σI (z2 2) ++ (XW cI cZ d σI κ)) := hD
  obtain ⟨ds, hds⟩ : ∃ z, z = dK q0_1 z2 := ⟨_, rfl⟩
  have eds : q0_1 = ds 0 := by rw [hds]; rfl
  rw [← hds] at hP hD
  obtain ⟨hP, hD⟩ := g_swap hP hD
  have hP : va_P D vwCl ((XW cI cZ d σI κ) ++ (SW cI cT cU ds σI (z2 2))) H := hP
  have hD : va_D A ((XW cI cZ d σI κ) ++ (SW cI cT cU ds σI (z2 2))) := hD
  show W p l e ({ frames := 8, cells := 92, slots := 499, locals := 149 } : Room) s m args below meth c H locs 12 83 (MQ below (gQ D (tyA cI cZ cT cU cQ) (fun κ' => XW cI cZ d (fun a => κ' (a + 10)) κ' ++ SW cI cT cU (fun i => (κ' 3 i).toNat) (fun a => κ' (a + 10)) (κ' 2)) A (fun κ' => some (.ref (κ' 3 0).toNat)) (fun κ' => bLv (fun a => κ' (a + 10)))) args s 92 499 A) (F0 m 7 ls [.ref (q0_1)])
  rw [eds]
  refine lv_astore_n (lv' := [(2, .ref (ds 0)), (0, .ref (d 0)), (1, .ref (b))]) hx hb dL_build_7 rfl hl (by decide) rfl (fun ls hl => ?_)
  refine lv_iconst (v := iI (0)) hx hb dL_build_8 rfl ?_
  refine lv_istore_n (lv' := [(3, .int (iI (0))), (2, .ref (ds 0)), (0, .ref (d 0)), (1, .ref (b))]) hx hb dL_build_9 rfl hl (by decide) rfl (fun ls hl => ?_)
  have loop10 : ∀ (n10 : Nat) (k : Int) (σx10 : St) (κx10 : St) (cl10 sl10 : Nat), (0 ≤ k) → (k ≤ 6) → (6 - k < (n10 : Int)) → (xWF σx10) → (zWF σx10) → (∀ j, k ≤ j → σx10 0 j = 3 ∧ σx10 1 j = 4) → (∀ j, σx10 3 j = 0) → (∀ j, σx10 2 j = 0) → (σx10 9 0 = 0) → ((cl10 : Int) ≤ 12 + k) → ((sl10 : Int) ≤ 83 + 6 * k) → ∀ (H : Heap) (locs : List Loc) (ls : Array Slot), va_P D vwCl ((XW cI cZ d σx10 κx10) ++ (SW cI cT cU ds σx10 (z2 2))) H → va_D A ((XW cI cZ d σx10 κx10) ++ (SW cI cT cU ds σx10 (z2 2))) → va_S A s.heap H locs → lv_has ls 5 [(3, .int (iI (k))), (2, .ref (ds 0)), (0, .ref (d 0)), (1, .ref (b))] → W p l e ({ frames := 8, cells := 92, slots := 499, locals := 149 } : Room) s m args below meth c H locs cl10 sl10 (MQ below (gQ D (tyA cI cZ cT cU cQ) (fun κ' => XW cI cZ d (fun a => κ' (a + 10)) κ' ++ SW cI cT cU (fun i => (κ' 3 i).toNat) (fun a => κ' (a + 10)) (κ' 2)) A (fun κ' => some (.ref (κ' 3 0).toNat)) (fun κ' => bLv (fun a => κ' (a + 10)))) args s 92 499 A) (F0 m 10 ls []) := by
    intro n10
    induction n10 with
    | zero =>
      intro k σx10 κx10 cl10 sl10 hlo10 hhi10 hm10
      omega
    | succ n10 ih10 =>
      intro k σx10 κx10 cl10 sl10 hlo10 hhi10 hm10 iw10 iz10 i10 if10 ib10 iy10 hcl10 hsl10 H locs ls hP hD hS hl
      have ik := i10 k (by omega)
      refine lv_iload_n hx hb dL_build_10 rfl (lv_at hl 0 rfl) ?_
      refine lv_bipush (v := iI (6)) hx hb dL_build_11 rfl ?_
      refine gi_icmp_ge (tgt := 105) hx hb dL_build_13 (by decide) ⟨by omega, by omega⟩ ⟨by decide, by decide⟩ (fun c13 => ?_) (fun c13 => ?_)
      · skip
        refine lv_iconst (v := iI (0)) hx hb dL_build_105 rfl ?_
        refine lv_istore_n (lv' := [(3, .int (iI (0))), (2, .ref (ds 0)), (0, .ref (d 0)), (1, .ref (b))]) hx hb dL_build_106 rfl hl (by decide) rfl (fun ls hl => ?_)
        have loop107 : ∀ (n107 : Nat) (k : Int) (σx107 : St) (κx107 : St) (cl107 sl107 : Nat), (0 ≤ k) → (k ≤ 10) → (10 - k < (n107 : Int)) → (xWF σx107) → (zWF σx107) → (∀ j, k ≤ j → σx107 3 j = 0) → (∀ j, σx107 2 j = 0) → (σx107 9 0 = 0) → ((cl107 : Int) ≤ 18 + k) → ((sl107 : Int) ≤ 119 + 6 * k) → ∀ (H : Heap) (locs : List Loc) (ls : Array Slot), va_P D vwCl ((XW cI cZ d σx107 κx107) ++ (SW cI cT cU ds σx107 (z2 2))) H → va_D A ((XW cI cZ d σx107 κx107) ++ (SW cI cT cU ds σx107 (z2 2))) → va_S A s.heap H locs → lv_has ls 5 [(3, .int (iI (k))), (2, .ref (ds 0)), (0, .ref (d 0)), (1, .ref (b))] → W p l e ({ frames := 8, cells := 92, slots := 499, locals := 149 } : Room) s m args below meth c H locs cl107 sl107 (MQ below (gQ D (tyA cI cZ cT cU cQ) (fun κ' => XW cI cZ d (fun a => κ' (a + 10)) κ' ++ SW cI cT cU (fun i => (κ' 3 i).toNat) (fun a => κ' (a + 10)) (κ' 2)) A (fun κ' => some (.ref (κ' 3 0).toNat)) (fun κ' => bLv (fun a => κ' (a + 10)))) args s 92 499 A) (F0 m 107 ls []) := by
          intro n107
          induction n107 with
          | zero =>
            intro k σx107 κx107 cl107 sl107 hlo107 hhi107 hm107
            omega
          | succ n107 ih107 =>
            intro k σx107 κx107 cl107 sl107 hlo107 hhi107 hm107 iw107 iz107 if107 ib107 iy107 hcl107 hsl107 H locs ls hP hD hS hl
            have ik := if107 k (by omega)
            refine lv_iload_n hx hb dL_build_107 rfl (lv_at hl 0 rfl) ?_
            refine lv_bipush (v := iI (10)) hx hb dL_build_108 rfl ?_
            refine gi_icmp_ge (tgt := 171) hx hb dL_build_110 (by decide) ⟨by omega, by omega⟩ ⟨by decide, by decide⟩ (fun c110 => ?_) (fun c110 => ?_)
            · skip
              refine lv_iconst (v := iI (0)) hx hb dL_build_171 rfl ?_
              refine lv_istore_n (lv' := [(3, .int (iI (0))), (2, .ref (ds 0)), (0, .ref (d 0)), (1, .ref (b))]) hx hb dL_build_172 rfl hl (by decide) rfl (fun ls hl => ?_)
              have loop173 : ∀ (n173 : Nat) (k : Int) (σx173 : St) (κx173 : St) (ιx173 : Int → Int) (cl173 sl173 : Nat), (0 ≤ k) → (k ≤ 16) → (16 - k < (n173 : Int)) → (xWF σx173) → (zWF σx173) → (∀ j, σx173 2 j ≤ 3240 * k) → (σx173 9 0 ≤ k) → ((cl173 : Int) ≤ 28 + 4 * k) → ((sl173 : Int) ≤ 179 + 20 * k) → ∀ (H : Heap) (locs : List Loc) (ls : Array Slot), va_P D vwCl ((XW cI cZ d σx173 κx173) ++ (SW cI cT cU ds σx173 ιx173)) H → va_D A ((XW cI cZ d σx173 κx173) ++ (SW cI cT cU ds σx173 ιx173)) → va_S A s.heap H locs → lv_has ls 5 [(3, .int (iI (k))), (2, .ref (ds 0)), (0, .ref (d 0)), (1, .ref (b))] → W p l e ({ frames := 8, cells := 92, slots := 499, locals := 149 } : Room) s m args below meth c H locs cl173 sl173 (MQ below (gQ D (tyA cI cZ cT cU cQ) (fun κ' => XW cI cZ d (fun a => κ' (a + 10)) κ' ++ SW cI cT cU (fun i => (κ' 3 i).toNat) (fun a => κ' (a + 10)) (κ' 2)) A (fun κ' => some (.ref (κ' 3 0).toNat)) (fun κ' => bLv (fun a => κ' (a + 10)))) args s 92 499 A) (F0 m 173 ls []) := by
                intro n173
                induction n173 with
                | zero =>
                  intro k σx173 κx173 ιx173 cl173 sl173 hlo173 hhi173 hm173
                  omega
                | succ n173 ih173 =>
                  intro k σx173 κx173 ιx173 cl173 sl173 hlo173 hhi173 hm173 iw173 iz173 ib173 iy173 hcl173 hsl173 H locs ls hP hD hS hl
                  refine lv_iload_n hx hb dL_build_173 rfl (lv_at hl 0 rfl) ?_
                  refine lv_bipush (v := iI (16)) hx hb dL_build_174 rfl ?_
                  refine gi_icmp_ge (tgt := 240) hx hb dL_build_176 (by decide) ⟨by omega, by omega⟩ ⟨by decide, by decide⟩ (fun c176 => ?_) (fun c176 => ?_)
                  · skip
                    refine lv_aload_n hx hb dL_build_240 rfl (lv_at hl 1 rfl) ?_
                    obtain ⟨K, hK9⟩ : ∃ z : St, z = bK σx173 κx173 (ιx173) ds := ⟨_, rfl⟩
                    have ek : (fun a => K (a + 10)) = σx173 := by rw [hK9]; exact bK_σ _ _ _ _
                    have ed : (fun i : Nat => (K 3 (i : Int)).toNat) = ds := by rw [hK9]; exact bK_d _ _ _ _
                    have e0 : K 0 = κx173 0 := by rw [hK9]; rfl
                    have e1 : K 1 = κx173 1 := by rw [hK9]; rfl
                    have e2 : K 2 = ιx173 := by rw [hK9]; rfl
                    have hP : va_P D vwCl (XW cI cZ d (fun a => K (a + 10)) K ++ SW cI cT cU (fun i => (K 3 i).toNat) (fun a => K (a + 10)) (K 2)) H := by rw [ek, ed, e2, XW_k e0 e1]; exact hP
                    have hD : va_D A (XW cI cZ d (fun a => K (a + 10)) K ++ SW cI cT cU (fun i => (K 3 i).toNat) (fun a => K (a + 10)) (K 2)) := by rw [ek, ed, e2, XW_k e0 e1]; exact hD
                    have hkr : bLv (fun a => K (a + 10)) := by rw [ek]; exact ⟨iw173, iz173, fun j => by have := ib173 j; omega, by omega⟩
                    exact g_oret (wo := (fun κ' => XW cI cZ d (fun a => κ' (a + 10)) κ' ++ SW cI cT cU (fun i => (κ' 3 i).toNat) (fun a => κ' (a + 10)) (κ' 2))) (kr := (fun κ' => bLv (fun a => κ' (a + 10)))) (rv := (fun κ' => some (.ref (κ' 3 0).toNat))) hx hb hr hlocks K hP hK hD hS hkr (by show some (Value.ref (K 3 0).toNat) = some (Value.ref (ds 0)); rw [show (K 3 0).toNat = ds 0 from congrFun ed 0]) (by show cl173 ≤ 92; omega) (by show sl173 ≤ 499; omega) dL_build_241
                  · skip
                    refine lv_aload_n hx hb dL_build_179 rfl (lv_at hl 3 rfl) ?_
                    refine lv_iconst (v := iI (5)) hx hb dL_build_180 rfl ?_
                    refine lv_iload_n hx hb dL_build_181 rfl (lv_at hl 0 rfl) ?_
                    refine lv_iconst (v := iI (4)) hx hb dL_build_182 rfl ?_
                    refine gi_rem hx hb ⟨by omega, by omega⟩ ⟨by omega, by omega⟩ dL_build_183 ?_
                    refine gi_add hx hb dL_build_184 ?_
                    have hPc : va_P D vwCl ((XW cI cZ d σx173 κx173) ++ (SW cI cT cU ds σx173 ιx173)) H := hP
                    have hDc : va_D A ((XW cI cZ d σx173 κx173) ++ (SW cI cT cU ds σx173 ιx173)) := hD
                    have hPc : va_P D vwCl ([] ++ ((XW cI cZ d σx173 κx173) ++ (SW cI cT cU ds σx173 ιx173))) H := hPc
                    have hDc : va_D A ([] ++ ((XW cI cZ d σx173 κx173) ++ (SW cI cT cU ds σx173 ιx173))) := hDc
                    refine g_call (va_runS (As := [.ref (b), .int (iI (5 + (k % 4)))]) (rest := []) S ((kL_cell l D cI cZ cT cU cQ b L xs hL (5 + (k % 4)) (by first | assumption | omega)) H.size) (va_cwS 2 hts gL_build_L_cell rfl rfl rfl (by decide +kernel) ⟨Nat.le_of_ble_eq_true rfl, Nat.le_of_ble_eq_true rfl⟩) (g_preS (As := [.ref (b), .int (iI (5 + (k % 4)))]) (sEx_g _ _ _ _) hK [0, 1, 2, 3, 4] rfl hPc hDc (fun U hU hW => sEx_w hX9 hS hU hW)) rfl rfl hl.1 rfl (lv_room (Nat.le_of_ble_eq_true rfl)) dL_build_185 ⟨by show cl173 + 0 ≤ 92; omega, by show sl173 + 0 ≤ 499; omega⟩) hPc hDc hS hA (fun κ9 H locs hk hP hD hS => ?_)
                    obtain ⟨z3, ezz3⟩ : ∃ z, z = κ9 := ⟨_, rfl⟩
                    subst ezz3
                    have hP : va_P D vwCl ((XW cI cZ d σx173 κx173) ++ (SW cI cT cU ds σx173 ιx173)) H := hP
                    have hD : va_D A ((XW cI cZ d σx173 κx173) ++ (SW cI cT cU ds σx173 ιx173)) := hD
                    show W p l e ({ frames := 8, cells := 92, slots := 499, locals := 149 } : Room) s m args below meth c H locs cl173 sl173 (MQ below (gQ D (tyA cI cZ cT cU cQ) (fun κ' => XW cI cZ d (fun a => κ' (a + 10)) κ' ++ SW cI cT cU (fun i => (κ' 3 i).toNat) (fun a => κ' (a + 10)) (κ' 2)) A (fun κ' => some (.ref (κ' 3 0).toNat)) (fun κ' => bLv (fun a => κ' (a + 10)))) args s 92 499 A) (F0 m 188 ls [.int (iI (cel L xs (5 + (k % 4))))])
                    refine lv_iload_n hx hb dL_build_188 rfl (lv_at hl 0 rfl) ?_
                    refine lv_iconst (v := iI (4)) hx hb dL_build_189 rfl ?_
                    refine gi_div hx hb ⟨by omega, by omega⟩ ⟨by omega, by omega⟩ dL_build_190 ?_
                    refine lv_iconst (v := iI (5)) hx hb dL_build_191 rfl ?_
                    refine gi_mul hx hb dL_build_192 ?_
                    refine gi_shr hx hb dL_build_193 ?_
                    refine lv_bipush (v := iI (41)) hx hb dL_build_194 rfl ?_
                    refine lv_iload_n hx hb dL_build_196 rfl (lv_at hl 0 rfl) ?_
                    refine gi_mul hx hb dL_build_197 ?_
                    refine gi_add hx hb dL_build_198 ?_
                    refine lv_istore (lv' := [(4, .int (iI ((shr (cel L xs (5 + (k % 4))) ((k / 4) * 5)) + (41 * k)))), (3, .int (iI (k))), (2, .ref (ds 0)), (0, .ref (d 0)), (1, .ref (b))]) hx hb dL_build_199 hl (by decide) rfl (fun ls hl => ?_)
                    refine lv_aload_n hx hb dL_build_201 rfl (lv_at hl 3 rfl) ?_
                    refine lv_aload_n hx hb dL_build_202 rfl (lv_at hl 2 rfl) ?_
                    refine lv_iload hx hb dL_build_203 (lv_at hl 0 rfl) ?_
                    have hPc : va_P D vwCl ((XW cI cZ d σx173 κx173) ++ (SW cI cT cU ds σx173 ιx173)) H := hP
                    have hDc : va_D A ((XW cI cZ d σx173 κx173) ++ (SW cI cT cU ds σx173 ιx173)) := hD
                    have hPc : va_P D vwCl (((XW cI cZ d σx173 κx173) ++ (SW cI cT cU ds σx173 ιx173)) ++ []) H := by rw [List.append_nil]; exact hPc
                    have hDc : va_D A (((XW cI cZ d σx173 κx173) ++ (SW cI cT cU ds σx173 ιx173)) ++ []) := by rw [List.append_nil]; exact hDc
                    refine g_call (va_runS (As := [.ref (d 0), .ref (ds 0), .int (iI ((shr (cel L xs (5 + (k % 4))) ((k / 4) * 5)) + (41 * k)))]) (rest := []) S ((kL_act l hfl D cI cZ cT cU cQ d σx173 κx173 ds ιx173 ((shr (cel L xs (5 + (k % 4))) ((k / 4) * 5)) + (41 * k)) iw173) H.size) (va_cwS 3 hts gL_build_L_act rfl rfl rfl (by decide +kernel) ⟨Nat.le_of_ble_eq_true rfl, Nat.le_of_ble_eq_true rfl⟩) (g_preS (As := [.ref (d 0), .ref (ds 0), .int (iI ((shr (cel L xs (5 + (k % 4))) ((k / 4) * 5)) + (41 * k)))]) (lEx_g _) hK [0, 1, 2, 3, 4] rfl hPc hDc (fun U hU hW => lEx_w hTE hN hDc hS hA hU hW)) rfl rfl hl.1 rfl (lv_room (Nat.le_of_ble_eq_true rfl)) dL_build_205 ⟨by show cl173 + 3 ≤ 92; omega, by show sl173 + 14 ≤ 499; omega⟩) hPc hDc hS hA (fun κ9 H locs hk hP hD hS => ?_)
                    obtain ⟨z4, ezz4⟩ : ∃ z, z = κ9 := ⟨_, rfl⟩
                    subst ezz4
                    have hP : va_P D vwCl ((XW cI cZ d (actS σx173 ((shr (cel L xs (5 + (k % 4))) ((k / 4) * 5)) + (41 * k))) z4) ++ (SW cI cT cU ds (actS σx173 ((shr (cel L xs (5 + (k % 4))) ((k / 4) * 5)) + (41 * k))) (z4 2))) H := by have h9 : va_P D vwCl (((XW cI cZ d (actS σx173 ((shr (cel L xs (5 + (k % 4))) ((k / 4) * 5)) + (41 * k))) z4) ++ (SW cI cT cU ds (actS σx173 ((shr (cel L xs (5 + (k % 4))) ((k / 4) * 5)) + (41 * k))) (z4 2))) ++ []) H := hP; rw [List.append_nil] at h9; exact h9
                    have hD : va_D A ((XW cI cZ d (actS σx173 ((shr (cel L xs (5 + (k % 4))) ((k / 4) * 5)) + (41 * k))) z4) ++ (SW cI cT cU ds (actS σx173 ((shr (cel L xs (5 + (k % 4))) ((k / 4) * 5)) + (41 * k))) (z4 2))) := by have h9 : va_D A (((XW cI cZ d (actS σx173 ((shr (cel L xs (5 + (k % 4))) ((k / 4) * 5)) + (41 * k))) z4) ++ (SW cI cT cU ds (actS σx173 ((shr (cel L xs (5 + (k % 4))) ((k / 4) * 5)) + (41 * k))) (z4 2))) ++ []) := hD; rw [List.append_nil] at h9; exact h9
                    show W p l e ({ frames := 8, cells := 92, slots := 499, locals := 149 } : Room) s m args below meth c H locs (cl173 + 3) (sl173 + 14) (MQ below (gQ D (tyA cI cZ cT cU cQ) (fun κ' => XW cI cZ d (fun a => κ' (a + 10)) κ' ++ SW cI cT cU (fun i => (κ' 3 i).toNat) (fun a => κ' (a + 10)) (κ' 2)) A (fun κ' => some (.ref (κ' 3 0).toNat)) (fun κ' => bLv (fun a => κ' (a + 10)))) args s 92 499 A) (F0 m 208 ls [.int (iI (1))])
                    refine gi_if_ne (tgt := 213) hx hb dL_build_208 (by decide) ⟨by decide, by decide⟩ (fun c208 => ?_) (fun c208 => ?_)
                    · skip
                      obtain ⟨aw, az, a2, a9, -⟩ := act_ok iw173 iz173 ((shr (cel L xs (5 + (k % 4))) ((k / 4) * 5)) + (41 * k))
                      refine lv_iload_n hx hb dL_build_213 rfl (lv_at hl 1 rfl) ?_
                      refine lv_iconst (v := iI (3)) hx hb dL_build_214 rfl ?_
                      refine gi_rem hx hb ⟨by omega, by omega⟩ ⟨by omega, by omega⟩ dL_build_215 ?_
                      refine lv_iconst (v := iI (2)) hx hb dL_build_216 rfl ?_
                      refine gi_icmp_ne (tgt := 234) hx hb dL_build_217 (by decide) ⟨by omega, by omega⟩ ⟨by decide, by decide⟩ (fun c217 => ?_) (fun c217 => ?_)
                      · skip
                        refine lv_iinc (v := iI (k + 1)) (lv' := [(3, .int (iI (k + 1))), (4, .int (iI ((shr (cel L xs (5 + (k % 4))) ((k / 4) * 5)) + (41 * k)))), (2, .ref (ds 0)), (0, .ref (d 0)), (1, .ref (b))]) hx hb dL_build_234 hl (k := 1) rfl (iI_add _ _) (by decide) rfl (fun ls hl => ?_)
                        refine lv_goto (tgt := 173) hx hb dL_build_237 (by decide) ?_
                        exact ih173 (k + 1) (actS σx173 ((shr (cel L xs (5 + (k % 4))) ((k / 4) * 5)) + (41 * k))) z4 (z4 2) (cl173 + 3) (sl173 + 14) (by omega) (by omega) (by omega) (by first | exact aw | exact pR.1) (by first | exact az | exact pR.2.1) (by intro j; first | (have h1 := a2 j; have h2 := ib173 j; omega) | (have h0 := pR.2.2.1 j; have h1 := a2 j; have h2 := ib173 j; omega)) (by first | (rw [a9]; omega) | (rw [pR.2.2.2.1, a9]; omega)) (by omega) (by omega) H locs ls hP hD hS (lv_sub hl [0, 2, 3, 4] rfl)
                      · skip
                        have pR := pass_ok aw az (fun j => by have h1 := a2 j; have h2 := ib173 j; omega) (by rw [a9]; omega)
                        refine lv_aload_n hx hb dL_build_220 rfl (lv_at hl 3 rfl) ?_
                        refine lv_iconst (v := iI (1)) hx hb dL_build_221 rfl ?_
                        have hPc : va_P D vwCl ((XW cI cZ d (actS σx173 ((shr (cel L xs (5 + (k % 4))) ((k / 4) * 5)) + (41 * k))) z4) ++ (SW cI cT cU ds (actS σx173 ((shr (cel L xs (5 + (k % 4))) ((k / 4) * 5)) + (41 * k))) (z4 2))) H := hP
                        have hDc : va_D A ((XW cI cZ d (actS σx173 ((shr (cel L xs (5 + (k % 4))) ((k / 4) * 5)) + (41 * k))) z4) ++ (SW cI cT cU ds (actS σx173 ((shr (cel L xs (5 + (k % 4))) ((k / 4) * 5)) + (41 * k))) (z4 2))) := hD
                        refine h_call0 (vx_runV (As := [.int (iI (1))]) (rest := []) S ((kX1_pass l hfl D cI cZ d (actS σx173 ((shr (cel L xs (5 + (k % 4))) ((k / 4) * 5)) + (41 * k))) z4 1 aw (by first | assumption | omega) (by first | assumption | omega) (fun j => by have h1 := a2 j; have h2 := ib173 j; omega) (by rw [a9]; omega)) H.size) (cwV 1 hts gL_build_X1_pass rfl rfl rfl (by decide +kernel) ⟨Nat.le_of_ble_eq_true rfl, Nat.le_of_ble_eq_true rfl⟩) (h_preV hK [0, 1] rfl hPc hDc hS hA hTE (q0 := 0) (ci := 1) rfl rfl rfl) rfl rfl hl.1 rfl (lv_room (Nat.le_of_ble_eq_true rfl)) dL_build_222 ⟨by show (cl173 + 3) + 1 ≤ 92; omega, by show (sl173 + 14) + 6 ≤ 499; omega⟩) hPc hDc hS hA (fun E h => (by have h0 : (tPass 1) = 0 := (by unfold tPass; rw [if_neg (by omega)]); rcases h with ⟨_, h⟩ <;> omega)) (fun κ9 H locs hk hP hD hS => ?_)
                        obtain ⟨z5, ezz5⟩ : ∃ z, z = κ9 := ⟨_, rfl⟩
                        subst ezz5
                        have hP : va_P D vwCl ((XW cI cZ d (xPass (actS σx173 ((shr (cel L xs (5 + (k % 4))) ((k / 4) * 5)) + (41 * k))) 1) z5) ++ (SW cI cT cU ds (actS σx173 ((shr (cel L xs (5 + (k % 4))) ((k / 4) * 5)) + (41 * k))) (z4 2))) H := hP
                        have hD : va_D A ((XW cI cZ d (xPass (actS σx173 ((shr (cel L xs (5 + (k % 4))) ((k / 4) * 5)) + (41 * k))) 1) z5) ++ (SW cI cT cU ds (actS σx173 ((shr (cel L xs (5 + (k % 4))) ((k / 4) * 5)) + (41 * k))) (z4 2))) := hD
                        show W p l e ({ frames := 8, cells := 92, slots := 499, locals := 149 } : Room) s m args below meth c H locs (cl173 + 4) (sl173 + 20) (MQ below (gQ D (tyA cI cZ cT cU cQ) (fun κ' => XW cI cZ d (fun a => κ' (a + 10)) κ' ++ SW cI cT cU (fun i => (κ' 3 i).toNat) (fun a => κ' (a + 10)) (κ' 2)) A (fun κ' => some (.ref (κ' 3 0).toNat)) (fun κ' => bLv (fun a => κ' (a + 10)))) args s 92 499 A) (F0 m 225 ls [.int (iI ((xPs (actS σx173 ((shr (cel L xs (5 + (k % 4))) ((k / 4) * 5)) + (41 * k))) 1 40).2))])
                        refine lv_aload_n hx hb dL_build_225 rfl (lv_at hl 2 rfl) ?_
                        have hp9 : ((SW cI cT cU ds (actS σx173 ((shr (cel L xs (5 + (k % 4))) ((k / 4) * 5)) + (41 * k))) (z4 2)) ++ (XW cI cZ d (xPass (actS σx173 ((shr (cel L xs (5 + (k % 4))) ((k / 4) * 5)) + (41 * k))) 1) z5) : va_W).Perm ((XW cI cZ d (xPass (actS σx173 ((shr (cel L xs (5 + (k % 4))) ((k / 4) * 5)) + (41 * k))) 1) z5) ++ (SW cI cT cU ds (actS σx173 ((shr (cel L xs (5 + (k % 4))) ((k / 4) * 5)) + (41 * k))) (z4 2)) : va_W) := List.perm_append_comm
                        have hPc : va_P D vwCl ((SW cI cT cU ds (actS σx173 ((shr (cel L xs (5 + (k % 4))) ((k / 4) * 5)) + (41 * k))) (z4 2)) ++ (XW cI cZ d (xPass (actS σx173 ((shr (cel L xs (5 + (k % 4))) ((k / 4) * 5)) + (41 * k))) 1) z5)) H := va_mem hP (fun q9 hq9 => hp9.mem_iff.mp hq9)
                        have hDc : va_D A ((SW cI cT cU ds (actS σx173 ((shr (cel L xs (5 + (k % 4))) ((k / 4) * 5)) + (41 * k))) (z4 2)) ++ (XW cI cZ d (xPass (actS σx173 ((shr (cel L xs (5 + (k % 4))) ((k / 4) * 5)) + (41 * k))) 1) z5)) := va_Dp hD hp9
                        refine g_call (va_runV (As := []) (rest := [.int (iI ((xPs (actS σx173 ((shr (cel L xs (5 + (k % 4))) ((k / 4) * 5)) + (41 * k))) 1 40).2))]) S ((kX2_pass l D cI cZ cT cU cQ ds (actS σx173 ((shr (cel L xs (5 + (k % 4))) ((k / 4) * 5)) + (41 * k))) (z4 2)  aw (fun j => by have h1 := a2 j; have h2 := ib173 j; omega)) H.size) (cwV 0 hts gL_build_X2_pass rfl rfl rfl (by decide +kernel) ⟨Nat.le_of_ble_eq_true rfl, Nat.le_of_ble_eq_true rfl⟩) (g_preV gEx_t hK [0, 1, 2, 3, 4] rfl hPc hDc (fun _ _ _ => trivial) (q0 := 0) (ci := 2) rfl rfl rfl) rfl rfl hl.1 rfl (lv_room (Nat.le_of_ble_eq_true rfl)) dL_build_226 ⟨by show (cl173 + 4) + 0 ≤ 92; omega, by show (sl173 + 20) + 0 ≤ 499; omega⟩) hPc hDc hS hA (fun κ9 H locs hk hP hD hS => ?_)
                        obtain ⟨z6, ezz6⟩ : ∃ z, z = κ9 := ⟨_, rfl⟩
                        subst ezz6
                        have hP : va_P D vwCl ((SW cI cT cU ds (xPass (actS σx173 ((shr (cel L xs (5 + (k % 4))) ((k / 4) * 5)) + (41 * k))) 1) (z6 2)) ++ (XW cI cZ d (xPass (actS σx173 ((shr (cel L xs (5 + (k % 4))) ((k / 4) * 5)) + (41 * k))) 1) z5)) H := hP
                        have hD : va_D A ((SW cI cT cU ds (xPass (actS σx173 ((shr (cel L xs (5 + (k % 4))) ((k / 4) * 5)) + (41 * k))) 1) (z6 2)) ++ (XW cI cZ d (xPass (actS σx173 ((shr (cel L xs (5 + (k % 4))) ((k / 4) * 5)) + (41 * k))) 1) z5)) := hD
                        have hp9 : ((XW cI cZ d (xPass (actS σx173 ((shr (cel L xs (5 + (k % 4))) ((k / 4) * 5)) + (41 * k))) 1) z5) ++ (SW cI cT cU ds (xPass (actS σx173 ((shr (cel L xs (5 + (k % 4))) ((k / 4) * 5)) + (41 * k))) 1) (z6 2)) : va_W).Perm ((SW cI cT cU ds (xPass (actS σx173 ((shr (cel L xs (5 + (k % 4))) ((k / 4) * 5)) + (41 * k))) 1) (z6 2)) ++ (XW cI cZ d (xPass (actS σx173 ((shr (cel L xs (5 + (k % 4))) ((k / 4) * 5)) + (41 * k))) 1) z5) : va_W) := List.perm_append_comm
                        have hP : va_P D vwCl ((XW cI cZ d (xPass (actS σx173 ((shr (cel L xs (5 + (k % 4))) ((k / 4) * 5)) + (41 * k))) 1) z5) ++ (SW cI cT cU ds (xPass (actS σx173 ((shr (cel L xs (5 + (k % 4))) ((k / 4) * 5)) + (41 * k))) 1) (z6 2))) H := va_mem hP (fun q9 hq9 => hp9.mem_iff.mp hq9)
                        have hD : va_D A ((XW cI cZ d (xPass (actS σx173 ((shr (cel L xs (5 + (k % 4))) ((k / 4) * 5)) + (41 * k))) 1) z5) ++ (SW cI cT cU ds (xPass (actS σx173 ((shr (cel L xs (5 + (k % 4))) ((k / 4) * 5)) + (41 * k))) 1) (z6 2))) := va_Dp hD hp9
                        show W p l e ({ frames := 8, cells := 92, slots := 499, locals := 149 } : Room) s m args below meth c H locs (cl173 + 4) (sl173 + 20) (MQ below (gQ D (tyA cI cZ cT cU cQ) (fun κ' => XW cI cZ d (fun a => κ' (a + 10)) κ' ++ SW cI cT cU (fun i => (κ' 3 i).toNat) (fun a => κ' (a + 10)) (κ' 2)) A (fun κ' => some (.ref (κ' 3 0).toNat)) (fun κ' => bLv (fun a => κ' (a + 10)))) args s 92 499 A) (F0 m 229 ls [.int (iI ((xPs (actS σx173 ((shr (cel L xs (5 + (k % 4))) ((k / 4) * 5)) + (41 * k))) 1 40).2)), .int (iI ((xPs (actS σx173 ((shr (cel L xs (5 + (k % 4))) ((k / 4) * 5)) + (41 * k))) 1 40).2))])
                        refine gi_icmp_eq (tgt := 234) hx hb dL_build_229 (by decide) pR.2.2.2.2 pR.2.2.2.2 (fun c229 => ?_) (fun c229 => ?_)
                        · skip
                          refine lv_iinc (v := iI (k + 1)) (lv' := [(3, .int (iI (k + 1))), (4, .int (iI ((shr (cel L xs (5 + (k % 4))) ((k / 4) * 5)) + (41 * k)))), (2, .ref (ds 0)), (0, .ref (d 0)), (1, .ref (b))]) hx hb dL_build_234 hl (k := 1) rfl (iI_add _ _) (by decide) rfl (fun ls hl => ?_)
                          refine lv_goto (tgt := 173) hx hb dL_build_237 (by decide) ?_
                          exact ih173 (k + 1) (xPass (actS σx173 ((shr (cel L xs (5 + (k % 4))) ((k / 4) * 5)) + (41 * k))) 1) z5 (z6 2) (cl173 + 4) (sl173 + 20) (by omega) (by omega) (by omega) (by first | exact aw | exact pR.1) (by first | exact az | exact pR.2.1) (by intro j; first | (have h1 := a2 j; have h2 := ib173 j; omega) | (have h0 := pR.2.2.1 j; have h1 := a2 j; have h2 := ib173 j; omega)) (by first | (rw [a9]; omega) | (rw [pR.2.2.2.1, a9]; omega)) (by omega) (by omega) H locs ls hP hD hS (lv_sub hl [0, 2, 3, 4] rfl)
                        · skip
                          exact absurd rfl c229
                    · skip
                      exact absurd c208 (by decide)
              exact loop173 (((16 - (0) + 1 : Int)).toNat) 0 σx107 κx107 (z2 2) cl107 sl107 (by omega) (by omega) (by omega) (by exact iw107) (by exact iz107) (by intro j; have := ib107 j; omega) (by omega) (by omega) (by omega) H locs ls hP hD hS (lv_sub hl [0, 1, 2, 3] rfl)
            · skip
              refine lv_aload_n hx hb dL_build_113 rfl (lv_at hl 1 rfl) ?_
              refine va_get (D := D) (ci := 2) (v := .ref (ds 4)) (C := RX2) (T := TX2) (N := 8) hx hb hts hinX2 hown hK (g_right hP) 0 rfl rfl 3 (by decide) (hts (.fieldLink RL 35 "TwinOrchardLaw$Sim" "frost" "[I") (List.mem_of_getElem? (i := 6) rfl)) (fun _ h9 => h9) rfl dL_build_114 ?_
              refine lv_iload_n hx hb dL_build_117 rfl (lv_at hl 0 rfl) ?_
              refine lv_aload_n hx hb dL_build_118 rfl (lv_at hl 3 rfl) ?_
              refine lv_iconst (v := iI (3)) hx hb dL_build_119 rfl ?_
              have hPc : va_P D vwCl ((XW cI cZ d σx107 κx107) ++ (SW cI cT cU ds σx107 (z2 2))) H := hP
              have hDc : va_D A ((XW cI cZ d σx107 κx107) ++ (SW cI cT cU ds σx107 (z2 2))) := hD
              have hPc : va_P D vwCl ([] ++ ((XW cI cZ d σx107 κx107) ++ (SW cI cT cU ds σx107 (z2 2)))) H := hPc
              have hDc : va_D A ([] ++ ((XW cI cZ d σx107 κx107) ++ (SW cI cT cU ds σx107 (z2 2)))) := hDc
              refine g_call (va_runS (As := [.ref (b), .int (iI (3))]) (rest := [.int (iI (k)), .ref (ds 4)]) S ((kL_cell l D cI cZ cT cU cQ b L xs hL 3 (by first | assumption | omega)) H.size) (va_cwS 2 hts gL_build_L_cell rfl rfl rfl (by decide +kernel) ⟨Nat.le_of_ble_eq_true rfl, Nat.le_of_ble_eq_true rfl⟩) (g_preS (As := [.ref (b), .int (iI (3))]) (sEx_g _ _ _ _) hK [0, 1, 2, 3, 4] rfl hPc hDc (fun U hU hW => sEx_w hX9 hS hU hW)) rfl rfl hl.1 rfl (lv_room (Nat.le_of_ble_eq_true rfl)) dL_build_120 ⟨by show cl107 + 0 ≤ 92; omega, by show sl107 + 0 ≤ 499; omega⟩) hPc hDc hS hA (fun κ9 H locs hk hP hD hS => ?_)
              obtain ⟨z7, ezz7⟩ : ∃ z, z = κ9 := ⟨_, rfl⟩
              subst ezz7
              have hP : va_P D vwCl ((XW cI cZ d σx107 κx107) ++ (SW cI cT cU ds σx107 (z2 2))) H := hP
              have hD : va_D A ((XW cI cZ d σx107 κx107) ++ (SW cI cT cU ds σx107 (z2 2))) := hD
              show W p l e ({ frames := 8, cells := 92, slots := 499, locals := 149 } : Room) s m args below meth c H locs cl107 sl107 (MQ below (gQ D (tyA cI cZ cT cU cQ) (fun κ' => XW cI cZ d (fun a => κ' (a + 10)) κ' ++ SW cI cT cU (fun i => (κ' 3 i).toNat) (fun a => κ' (a + 10)) (κ' 2)) A (fun κ' => some (.ref (κ' 3 0).toNat)) (fun κ' => bLv (fun a => κ' (a + 10)))) args s 92 499 A) (F0 m 123 ls [.int (iI (cel L xs 3)), .int (iI (k)), .ref (ds 4)])
              refine lv_iload_n hx hb dL_build_123 rfl (lv_at hl 0 rfl) ?_
              refine gi_shr hx hb dL_build_124 ?_
              refine lv_iconst (v := iI (3)) hx hb dL_build_125 rfl ?_
              have hPc : va_P D vwCl ((XW cI cZ d σx107 κx107) ++ (SW cI cT cU ds σx107 (z2 2))) H := hP
              have hDc : va_D A ((XW cI cZ d σx107 κx107) ++ (SW cI cT cU ds σx107 (z2 2))) := hD
              have hPc : va_P D vwCl ([] ++ ((XW cI cZ d σx107 κx107) ++ (SW cI cT cU ds σx107 (z2 2)))) H := hPc
              have hDc : va_D A ([] ++ ((XW cI cZ d σx107 κx107) ++ (SW cI cT cU ds σx107 (z2 2)))) := hDc
              refine g_call (va_runS (As := [.int (iI (shr (cel L xs 3) k)), .int (iI (3))]) (rest := [.int (iI (k)), .ref (ds 4)]) S ((kL_below l D cI cZ cT cU cQ (shr (cel L xs 3) k) 3 (by first | assumption | omega)) H.size) (va_cwS 2 hts gL_build_L_below rfl rfl rfl (by decide +kernel) ⟨Nat.le_of_ble_eq_true rfl, Nat.le_of_ble_eq_true rfl⟩) (g_preS (As := [.int (iI (shr (cel L xs 3) k)), .int (iI (3))]) gEx_t hK [0, 1, 2, 3, 4] rfl hPc hDc (fun _ _ _ => trivial)) rfl rfl hl.1 rfl (lv_room (Nat.le_of_ble_eq_true rfl)) dL_build_126 ⟨by show cl107 + 0 ≤ 92; omega, by show sl107 + 0 ≤ 499; omega⟩) hPc hDc hS hA (fun κ9 H locs hk hP hD hS => ?_)
              obtain ⟨z8, ezz8⟩ : ∃ z, z = κ9 := ⟨_, rfl⟩
              subst ezz8
              have hP : va_P D vwCl ((XW cI cZ d σx107 κx107) ++ (SW cI cT cU ds σx107 (z2 2))) H := hP
              have hD : va_D A ((XW cI cZ d σx107 κx107) ++ (SW cI cT cU ds σx107 (z2 2))) := hD
              show W p l e ({ frames := 8, cells := 92, slots := 499, locals := 149 } : Room) s m args below meth c H locs cl107 sl107 (MQ below (gQ D (tyA cI cZ cT cU cQ) (fun κ' => XW cI cZ d (fun a => κ' (a + 10)) κ' ++ SW cI cT cU (fun i => (κ' 3 i).toNat) (fun a => κ' (a + 10)) (κ' 2)) A (fun κ' => some (.ref (κ' 3 0).toNat)) (fun κ' => bLv (fun a => κ' (a + 10)))) args s 92 499 A) (F0 m 129 ls [.int (iI (blw (shr (cel L xs 3) k) 3)), .int (iI (k)), .ref (ds 4)])
              have kb3 := blw_in (shr (cel L xs 3) k) (n := 3) (by decide)
              have kb10 := blw_in (shr (cel L xs 4) k) (n := 10) (by decide)
              refine gi_if_ne (tgt := 147) hx hb dL_build_129 (by decide) ⟨by omega, by omega⟩ (fun c129 => ?_) (fun c129 => ?_)
              · skip
                refine lv_iconst (v := iI (0)) hx hb dL_build_147 rfl ?_
                refine gi_iast (a := ds 4) (n := 10) (f := σx107 3) hx hb hK hP hD hS 16 0 rfl rfl (by omega) (by omega) (by decide) dL_build_148 (fun H locs hP hD hS => ?_)
                have hP : va_P D vwCl ((XW cI cZ d σx107 κx107) ++ (SW cI cT cU ds (su σx107 3 k (0)) (z2 2))) H := hP
                have hD : va_D A ((XW cI cZ d σx107 κx107) ++ (SW cI cT cU ds (su σx107 3 k (0)) (z2 2))) := hD
                refine lv_aload_n hx hb dL_build_149 rfl (lv_at hl 2 rfl) ?_
                refine lv_iload_n hx hb dL_build_150 rfl (lv_at hl 0 rfl) ?_
                refine lv_aload_n hx hb dL_build_151 rfl (lv_at hl 1 rfl) ?_
                refine va_get (D := D) (ci := 2) (v := .ref (ds 4)) (C := RX2) (T := TX2) (N := 8) hx hb hts hinX2 hown hK (g_right hP) 0 rfl rfl 3 (by decide) (hts (.fieldLink RL 35 "TwinOrchardLaw$Sim" "frost" "[I") (List.mem_of_getElem? (i := 6) rfl)) (fun _ h9 => h9) rfl dL_build_152 ?_
                refine lv_iload_n hx hb dL_build_155 rfl (lv_at hl 0 rfl) ?_
                refine gi_iald (a := (ds 4)) (n := 10) (f := (su σx107 3 k (0)) 3) hx hb hK (g_right hP) 4 0 rfl rfl (by omega) (by omega) (by decide) dL_build_156 ?_
                rw [show ((su σx107 3 k (0)) 3 k) = (0) from by simp [su, fu]]
                have hPc : va_P D vwCl ((XW cI cZ d σx107 κx107) ++ (SW cI cT cU ds (su σx107 3 k (0)) (z2 2))) H := hP
                have hDc : va_D A ((XW cI cZ d σx107 κx107) ++ (SW cI cT cU ds (su σx107 3 k (0)) (z2 2))) := hD
                refine h_call0 (vx_runV (As := [.int (iI (k)), .int (iI (0))]) (rest := []) S ((kX1_setFrost l hfl D cI cZ d σx107 κx107 k 0 (by first | assumption | omega) (by first | assumption | omega) (by first | assumption | omega) (by first | assumption | omega) (by first | assumption | omega)) H.size) (cwV 2 hts gL_build_X1_setFrost rfl rfl rfl (by decide +kernel) ⟨Nat.le_of_ble_eq_true rfl, Nat.le_of_ble_eq_true rfl⟩) (h_preV hK [0, 1] rfl hPc hDc hS hA hTE (q0 := 0) (ci := 1) rfl rfl rfl) rfl rfl hl.1 rfl (lv_room (Nat.le_of_ble_eq_true rfl)) dL_build_157 ⟨by show cl107 + 1 ≤ 92; omega, by show sl107 + 6 ≤ 499; omega⟩) hPc hDc hS hA (fun E h => (by have h0 : (tSetFrost k 0) = 0 := (by unfold tSetFrost; rw [if_neg (by omega), if_neg (by omega)]); rcases h with ⟨_, h⟩ | ⟨_, h⟩ <;> omega)) (fun κ9 H locs hk hP hD hS => ?_)
                obtain ⟨z9, ezz9⟩ : ∃ z, z = κ9 := ⟨_, rfl⟩
                subst ezz9
                have hP : va_P D vwCl ((XW cI cZ d (su σx107 3 k 0) z9) ++ (SW cI cT cU ds (su σx107 3 k (0)) (z2 2))) H := hP
                have hD : va_D A ((XW cI cZ d (su σx107 3 k 0) z9) ++ (SW cI cT cU ds (su σx107 3 k (0)) (z2 2))) := hD
                show W p l e ({ frames := 8, cells := 92, slots := 499, locals := 149 } : Room) s m args below meth c H locs (cl107 + 1) (sl107 + 6) (MQ below (gQ D (tyA cI cZ cT cU cQ) (fun κ' => XW cI cZ d (fun a => κ' (a + 10)) κ' ++ SW cI cT cU (fun i => (κ' 3 i).toNat) (fun a => κ' (a + 10)) (κ' 2)) A (fun κ' => some (.ref (κ' 3 0).toNat)) (fun κ' => bLv (fun a => κ' (a + 10)))) args s 92 499 A) (F0 m 160 ls [.int (iI (σx107 3 k))])
                refine gi_if_eq (tgt := 165) hx hb dL_build_160 (by decide) ⟨by omega, by omega⟩ (fun c160 => ?_) (fun c160 => ?_)
                · skip
                  refine lv_iinc (v := iI (k + 1)) (lv' := [(3, .int (iI (k + 1))), (2, .ref (ds 0)), (0, .ref (d 0)), (1, .ref (b))]) hx hb dL_build_165 hl (k := 0) rfl (iI_add _ _) (by decide) rfl (fun ls hl => ?_)
                  refine lv_goto (tgt := 107) hx hb dL_build_168 (by decide) ?_
                  have e8 : (su σx107 3 k (0)) = (su σx107 3 k 0) := rfl
                  rw [e8] at hP hD
                  have hP : va_P D vwCl ((XW cI cZ d (su σx107 3 k 0) z9) ++ (SW cI cT cU ds (su σx107 3 k 0) (z2 2))) H := hP
                  have hD : va_D A ((XW cI cZ d (su σx107 3 k 0) z9) ++ (SW cI cT cU ds (su σx107 3 k 0) (z2 2))) := hD
                  exact ih107 (k + 1) (su σx107 3 k 0) z9 (cl107 + 1) (sl107 + 6) (by omega) (by omega) (by omega) (by exact xWF_s3 iw107 (by omega)) (by exact iz107) (by intro j hj; show fu (σx107 3) k _ j = 0; rw [fu_n _ _ (by omega)]; exact if107 j (by omega)) (by exact ib107) (by exact iy107) (by omega) (by omega) H locs ls hP hD hS (lv_sub hl [0, 1, 2, 3] rfl)
                · skip
                  omega
              · skip
                refine lv_aload_n hx hb dL_build_132 rfl (lv_at hl 3 rfl) ?_
                refine lv_iconst (v := iI (4)) hx hb dL_build_133 rfl ?_
                have hPc : va_P D vwCl ((XW cI cZ d σx107 κx107) ++ (SW cI cT cU ds σx107 (z2 2))) H := hP
                have hDc : va_D A ((XW cI cZ d σx107 κx107) ++ (SW cI cT cU ds σx107 (z2 2))) := hD
                have hPc : va_P D vwCl ([] ++ ((XW cI cZ d σx107 κx107) ++ (SW cI cT cU ds σx107 (z2 2)))) H := hPc
                have hDc : va_D A ([] ++ ((XW cI cZ d σx107 κx107) ++ (SW cI cT cU ds σx107 (z2 2)))) := hDc
                refine g_call (va_runS (As := [.ref (b), .int (iI (4))]) (rest := [.int (iI (k)), .ref (ds 4)]) S ((kL_cell l D cI cZ cT cU cQ b L xs hL 4 (by first | assumption | omega)) H.size) (va_cwS 2 hts gL_build_L_cell rfl rfl rfl (by decide +kernel) ⟨Nat.le_of_ble_eq_true rfl, Nat.le_of_ble_eq_true rfl⟩) (g_preS (As := [.ref (b), .int (iI (4))]) (sEx_g _ _ _ _) hK [0, 1, 2, 3, 4] rfl hPc hDc (fun U hU hW => sEx_w hX9 hS hU hW)) rfl rfl hl.1 rfl (lv_room (Nat.le_of_ble_eq_true rfl)) dL_build_134 ⟨by show cl107 + 0 ≤ 92; omega, by show sl107 + 0 ≤ 499; omega⟩) hPc hDc hS hA (fun κ9 H locs hk hP hD hS => ?_)
                obtain ⟨z10, ezz10⟩ : ∃ z, z = κ9 := ⟨_, rfl⟩
                subst ezz10
                have hP : va_P D vwCl ((XW cI cZ d σx107 κx107) ++ (SW cI cT cU ds σx107 (z2 2))) H := hP
                have hD : va_D A ((XW cI cZ d σx107 κx107) ++ (SW cI cT cU ds σx107 (z2 2))) := hD
                show W p l e ({ frames := 8, cells := 92, slots := 499, locals := 149 } : Room) s m args below meth c H locs cl107 sl107 (MQ below (gQ D (tyA cI cZ cT cU cQ) (fun κ' => XW cI cZ d (fun a => κ' (a + 10)) κ' ++ SW cI cT cU (fun i => (κ' 3 i).toNat) (fun a => κ' (a + 10)) (κ' 2)) A (fun κ' => some (.ref (κ' 3 0).toNat)) (fun κ' => bLv (fun a => κ' (a + 10)))) args s 92 499 A) (F0 m 137 ls [.int (iI (cel L xs 4)), .int (iI (k)), .ref (ds 4)])
                refine lv_iload_n hx hb dL_build_137 rfl (lv_at hl 0 rfl) ?_
                refine gi_shr hx hb dL_build_138 ?_
                refine lv_bipush (v := iI (10)) hx hb dL_build_139 rfl ?_
                have hPc : va_P D vwCl ((XW cI cZ d σx107 κx107) ++ (SW cI cT cU ds σx107 (z2 2))) H := hP
                have hDc : va_D A ((XW cI cZ d σx107 κx107) ++ (SW cI cT cU ds σx107 (z2 2))) := hD
                have hPc : va_P D vwCl ([] ++ ((XW cI cZ d σx107 κx107) ++ (SW cI cT cU ds σx107 (z2 2)))) H := hPc
                have hDc : va_D A ([] ++ ((XW cI cZ d σx107 κx107) ++ (SW cI cT cU ds σx107 (z2 2)))) := hDc
                refine g_call (va_runS (As := [.int (iI (shr (cel L xs 4) k)), .int (iI (10))]) (rest := [.int (iI (k)), .ref (ds 4)]) S ((kL_below l D cI cZ cT cU cQ (shr (cel L xs 4) k) 10 (by first | assumption | omega)) H.size) (va_cwS 2 hts gL_build_L_below rfl rfl rfl (by decide +kernel) ⟨Nat.le_of_ble_eq_true rfl, Nat.le_of_ble_eq_true rfl⟩) (g_preS (As := [.int (iI (shr (cel L xs 4) k)), .int (iI (10))]) gEx_t hK [0, 1, 2, 3, 4] rfl hPc hDc (fun _ _ _ => trivial)) rfl rfl hl.1 rfl (lv_room (Nat.le_of_ble_eq_true rfl)) dL_build_141 ⟨by show cl107 + 0 ≤ 92; omega, by show sl107 + 0 ≤ 499; omega⟩) hPc hDc hS hA (fun κ9 H locs hk hP hD hS => ?_)
                obtain ⟨z11, ezz11⟩ : ∃ z, z = κ9 := ⟨_, rfl⟩
                subst ezz11
                have hP : va_P D vwCl ((XW cI cZ d σx107 κx107) ++ (SW cI cT cU ds σx107 (z2 2))) H := hP
                have hD : va_D A ((XW cI cZ d σx107 κx107) ++ (SW cI cT cU ds σx107 (z2 2))) := hD
                show W p l e ({ frames := 8, cells := 92, slots := 499, locals := 149 } : Room) s m args below meth c H locs cl107 sl107 (MQ below (gQ D (tyA cI cZ cT cU cQ) (fun κ' => XW cI cZ d (fun a => κ' (a + 10)) κ' ++ SW cI cT cU (fun i => (κ' 3 i).toNat) (fun a => κ' (a + 10)) (κ' 2)) A (fun κ' => some (.ref (κ' 3 0).toNat)) (fun κ' => bLv (fun a => κ' (a + 10)))) args s 92 499 A) (F0 m 144 ls [.int (iI (blw (shr (cel L xs 4) k) 10)), .int (iI (k)), .ref (ds 4)])
                refine lv_goto (tgt := 148) hx hb dL_build_144 (by decide) ?_
                refine gi_iast (a := ds 4) (n := 10) (f := σx107 3) hx hb hK hP hD hS 16 0 rfl rfl (by omega) (by omega) (by decide) dL_build_148 (fun H locs hP hD hS => ?_)
                have hP : va_P D vwCl ((XW cI cZ d σx107 κx107) ++ (SW cI cT cU ds (su σx107 3 k (blw (shr (cel L xs 4) k) 10)) (z2 2))) H := hP
                have hD : va_D A ((XW cI cZ d σx107 κx107) ++ (SW cI cT cU ds (su σx107 3 k (blw (shr (cel L xs 4) k) 10)) (z2 2))) := hD
                refine lv_aload_n hx hb dL_build_149 rfl (lv_at hl 2 rfl) ?_
                refine lv_iload_n hx hb dL_build_150 rfl (lv_at hl 0 rfl) ?_
                refine lv_aload_n hx hb dL_build_151 rfl (lv_at hl 1 rfl) ?_
                refine va_get (D := D) (ci := 2) (v := .ref (ds 4)) (C := RX2) (T := TX2) (N := 8) hx hb hts hinX2 hown hK (g_right hP) 0 rfl rfl 3 (by decide) (hts (.fieldLink RL 35 "TwinOrchardLaw$Sim" "frost" "[I") (List.mem_of_getElem? (i := 6) rfl)) (fun _ h9 => h9) rfl dL_build_152 ?_
                refine lv_iload_n hx hb dL_build_155 rfl (lv_at hl 0 rfl) ?_
                refine gi_iald (a := (ds 4)) (n := 10) (f := (su σx107 3 k (blw (shr (cel L xs 4) k) 10)) 3) hx hb hK (g_right hP) 4 0 rfl rfl (by omega) (by omega) (by decide) dL_build_156 ?_
                rw [show ((su σx107 3 k (blw (shr (cel L xs 4) k) 10)) 3 k) = (blw (shr (cel L xs 4) k) 10) from by simp [su, fu]]
                have hPc : va_P D vwCl ((XW cI cZ d σx107 κx107) ++ (SW cI cT cU ds (su σx107 3 k (blw (shr (cel L xs 4) k) 10)) (z2 2))) H := hP
                have hDc : va_D A ((XW cI cZ d σx107 κx107) ++ (SW cI cT cU ds (su σx107 3 k (blw (shr (cel L xs 4) k) 10)) (z2 2))) := hD
                refine h_call0 (vx_runV (As := [.int (iI (k)), .int (iI (blw (shr (cel L xs 4) k) 10))]) (rest := []) S ((kX1_setFrost l hfl D cI cZ d σx107 κx107 k (blw (shr (cel L xs 4) k) 10) (by first | assumption | omega) (by first | assumption | omega) (by first | assumption | omega) (by first | assumption | omega) (by first | assumption | omega)) H.size) (cwV 2 hts gL_build_X1_setFrost rfl rfl rfl (by decide +kernel) ⟨Nat.le_of_ble_eq_true rfl, Nat.le_of_ble_eq_true rfl⟩) (h_preV hK [0, 1] rfl hPc hDc hS hA hTE (q0 := 0) (ci := 1) rfl rfl rfl) rfl rfl hl.1 rfl (lv_room (Nat.le_of_ble_eq_true rfl)) dL_build_157 ⟨by show cl107 + 1 ≤ 92; omega, by show sl107 + 6 ≤ 499; omega⟩) hPc hDc hS hA (fun E h => (by have h0 : (tSetFrost k (blw (shr (cel L xs 4) k) 10)) = 0 := (by unfold tSetFrost; rw [if_neg (by omega), if_neg (by omega)]); rcases h with ⟨_, h⟩ | ⟨_, h⟩ <;> omega)) (fun κ9 H locs hk hP hD hS => ?_)
                obtain ⟨z12, ezz12⟩ : ∃ z, z = κ9 := ⟨_, rfl⟩
                subst ezz12
                have hP : va_P D vwCl ((XW cI cZ d (su σx107 3 k (blw (shr (cel L xs 4) k) 10)) z12) ++ (SW cI cT cU ds (su σx107 3 k (blw (shr (cel L xs 4) k) 10)) (z2 2))) H := hP
                have hD : va_D A ((XW cI cZ d (su σx107 3 k (blw (shr (cel L xs 4) k) 10)) z12) ++ (SW cI cT cU ds (su σx107 3 k (blw (shr (cel L xs 4) k) 10)) (z2 2))) := hD
                show W p l e ({ frames := 8, cells := 92, slots := 499, locals := 149 } : Room) s m args below meth c H locs (cl107 + 1) (sl107 + 6) (MQ below (gQ D (tyA cI cZ cT cU cQ) (fun κ' => XW cI cZ d (fun a => κ' (a + 10)) κ' ++ SW cI cT cU (fun i => (κ' 3 i).toNat) (fun a => κ' (a + 10)) (κ' 2)) A (fun κ' => some (.ref (κ' 3 0).toNat)) (fun κ' => bLv (fun a => κ' (a + 10)))) args s 92 499 A) (F0 m 160 ls [.int (iI (σx107 3 k))])
                refine gi_if_eq (tgt := 165) hx hb dL_build_160 (by decide) ⟨by omega, by omega⟩ (fun c160 => ?_) (fun c160 => ?_)
                · skip
                  refine lv_iinc (v := iI (k + 1)) (lv' := [(3, .int (iI (k + 1))), (2, .ref (ds 0)), (0, .ref (d 0)), (1, .ref (b))]) hx hb dL_build_165 hl (k := 0) rfl (iI_add _ _) (by decide) rfl (fun ls hl => ?_)
                  refine lv_goto (tgt := 107) hx hb dL_build_168 (by decide) ?_
                  exact ih107 (k + 1) (su σx107 3 k (blw (shr (cel L xs 4) k) 10)) z12 (cl107 + 1) (sl107 + 6) (by omega) (by omega) (by omega) (by exact xWF_s3 iw107 (by omega)) (by exact iz107) (by intro j hj; show fu (σx107 3) k _ j = 0; rw [fu_n _ _ (by omega)]; exact if107 j (by omega)) (by exact ib107) (by exact iy107) (by omega) (by omega) H locs ls hP hD hS (lv_sub hl [0, 1, 2, 3] rfl)
                · skip
                  omega
        exact loop107 (((10 - (0) + 1 : Int)).toNat) 0 σx10 κx10 cl10 sl10 (by omega) (by omega) (by omega) (by exact iw10) (by exact iz10) (by intro j _; exact if10 j) (by exact ib10) (by exact iy10) (by omega) (by omega) H locs ls hP hD hS (lv_sub hl [0, 1, 2, 3] rfl)
      · skip
        refine lv_aload_n hx hb dL_build_16 rfl (lv_at hl 3 rfl) ?_
        refine lv_iconst (v := iI (0)) hx hb dL_build_17 rfl ?_
        have hPc : va_P D vwCl ((XW cI cZ d σx10 κx10) ++ (SW cI cT cU ds σx10 (z2 2))) H := hP
        have hDc : va_D A ((XW cI cZ d σx10 κx10) ++ (SW cI cT cU ds σx10 (z2 2))) := hD
        have hPc : va_P D vwCl ([] ++ ((XW cI cZ d σx10 κx10) ++ (SW cI cT cU ds σx10 (z2 2)))) H := hPc
        have hDc : va_D A ([] ++ ((XW cI cZ d σx10 κx10) ++ (SW cI cT cU ds σx10 (z2 2)))) := hDc
        refine g_call (va_runS (As := [.ref (b), .int (iI (0))]) (rest := []) S ((kL_cell l D cI cZ cT cU cQ b L xs hL 0 (by first | assumption | omega)) H.size) (va_cwS 2 hts gL_build_L_cell rfl rfl rfl (by decide +kernel) ⟨Nat.le_of_ble_eq_true rfl, Nat.le_of_ble_eq_true rfl⟩) (g_preS (As := [.ref (b), .int (iI (0))]) (sEx_g _ _ _ _) hK [0, 1, 2, 3, 4] rfl hPc hDc (fun U hU hW => sEx_w hX9 hS hU hW)) rfl rfl hl.1 rfl (lv_room (Nat.le_of_ble_eq_true rfl)) dL_build_18 ⟨by show cl10 + 0 ≤ 92; omega, by show sl10 + 0 ≤ 499; omega⟩) hPc hDc hS hA (fun κ9 H locs hk hP hD hS => ?_)
        obtain ⟨z13, ezz13⟩ : ∃ z, z = κ9 := ⟨_, rfl⟩
        subst ezz13
        have hP : va_P D vwCl ((XW cI cZ d σx10 κx10) ++ (SW cI cT cU ds σx10 (z2 2))) H := hP
        have hD : va_D A ((XW cI cZ d σx10 κx10) ++ (SW cI cT cU ds σx10 (z2 2))) := hD
        show W p l e ({ frames := 8, cells := 92, slots := 499, locals := 149 } : Room) s m args below meth c H locs cl10 sl10 (MQ below (gQ D (tyA cI cZ cT cU cQ) (fun κ' => XW cI cZ d (fun a => κ' (a + 10)) κ' ++ SW cI cT cU (fun i => (κ' 3 i).toNat) (fun a => κ' (a + 10)) (κ' 2)) A (fun κ' => some (.ref (κ' 3 0).toNat)) (fun κ' => bLv (fun a => κ' (a + 10)))) args s 92 499 A) (F0 m 21 ls [.int (iI (cel L xs 0))])
        refine lv_iload_n hx hb dL_build_21 rfl (lv_at hl 0 rfl) ?_
        refine gi_shr hx hb dL_build_22 ?_
        refine lv_iconst (v := iI (3)) hx hb dL_build_23 rfl ?_
        have hPc : va_P D vwCl ((XW cI cZ d σx10 κx10) ++ (SW cI cT cU ds σx10 (z2 2))) H := hP
        have hDc : va_D A ((XW cI cZ d σx10 κx10) ++ (SW cI cT cU ds σx10 (z2 2))) := hD
        have hPc : va_P D vwCl ([] ++ ((XW cI cZ d σx10 κx10) ++ (SW cI cT cU ds σx10 (z2 2)))) H := hPc
        have hDc : va_D A ([] ++ ((XW cI cZ d σx10 κx10) ++ (SW cI cT cU ds σx10 (z2 2)))) := hDc
        refine g_call (va_runS (As := [.int (iI (shr (cel L xs 0) k)), .int (iI (3))]) (rest := []) S ((kL_below l D cI cZ cT cU cQ (shr (cel L xs 0) k) 3 (by first | assumption | omega)) H.size) (va_cwS 2 hts gL_build_L_below rfl rfl rfl (by decide +kernel) ⟨Nat.le_of_ble_eq_true rfl, Nat.le_of_ble_eq_true rfl⟩) (g_preS (As := [.int (iI (shr (cel L xs 0) k)), .int (iI (3))]) gEx_t hK [0, 1, 2, 3, 4] rfl hPc hDc (fun _ _ _ => trivial)) rfl rfl hl.1 rfl (lv_room (Nat.le_of_ble_eq_true rfl)) dL_build_24 ⟨by show cl10 + 0 ≤ 92; omega, by show sl10 + 0 ≤ 499; omega⟩) hPc hDc hS hA (fun κ9 H locs hk hP hD hS => ?_)
        obtain ⟨z14, ezz14⟩ : ∃ z, z = κ9 := ⟨_, rfl⟩
        subst ezz14
        have hP : va_P D vwCl ((XW cI cZ d σx10 κx10) ++ (SW cI cT cU ds σx10 (z2 2))) H := hP
        have hD : va_D A ((XW cI cZ d σx10 κx10) ++ (SW cI cT cU ds σx10 (z2 2))) := hD
        show W p l e ({ frames := 8, cells := 92, slots := 499, locals := 149 } : Room) s m args below meth c H locs cl10 sl10 (MQ below (gQ D (tyA cI cZ cT cU cQ) (fun κ' => XW cI cZ d (fun a => κ' (a + 10)) κ' ++ SW cI cT cU (fun i => (κ' 3 i).toNat) (fun a => κ' (a + 10)) (κ' 2)) A (fun κ' => some (.ref (κ' 3 0).toNat)) (fun κ' => bLv (fun a => κ' (a + 10)))) args s 92 499 A) (F0 m 27 ls [.int (iI (blw (shr (cel L xs 0) k) 3))])
        have kb3 := blw_in (shr (cel L xs 0) k) (n := 3) (by decide)
        refine gi_if_ne (tgt := 33) hx hb dL_build_27 (by decide) ⟨by omega, by omega⟩ (fun c27 => ?_) (fun c27 => ?_)
        · skip
          have kb9 := blw_in (shr (cel L xs 1) (2 * k)) (n := 9) (by decide)
          have kb10 := blw_in (shr (cel L xs 2) (2 * k)) (n := 10) (by decide)
          refine lv_aload_n hx hb dL_build_33 rfl (lv_at hl 1 rfl) ?_
          refine va_get (D := D) (ci := 2) (v := .ref (ds 2)) (C := RX2) (T := TX2) (N := 8) hx hb hts hinX2 hown hK (g_right hP) 0 rfl rfl 1 (by decide) (hts (.fieldLink RL 22 "TwinOrchardLaw$Sim" "weight" "[I") (List.mem_of_getElem? (i := 4) rfl)) (fun _ h9 => h9) rfl dL_build_34 ?_
          refine lv_iload_n hx hb dL_build_37 rfl (lv_at hl 0 rfl) ?_
          refine lv_iconst (v := iI (1)) hx hb dL_build_38 rfl ?_
          refine lv_aload_n hx hb dL_build_39 rfl (lv_at hl 3 rfl) ?_
          refine lv_iconst (v := iI (1)) hx hb dL_build_40 rfl ?_
          have hPc : va_P D vwCl ((XW cI cZ d σx10 κx10) ++ (SW cI cT cU ds σx10 (z2 2))) H := hP
          have hDc : va_D A ((XW cI cZ d σx10 κx10) ++ (SW cI cT cU ds σx10 (z2 2))) := hD
          have hPc : va_P D vwCl ([] ++ ((XW cI cZ d σx10 κx10) ++ (SW cI cT cU ds σx10 (z2 2)))) H := hPc
          have hDc : va_D A ([] ++ ((XW cI cZ d σx10 κx10) ++ (SW cI cT cU ds σx10 (z2 2)))) := hDc
          refine g_call (va_runS (As := [.ref (b), .int (iI (1))]) (rest := [.int (iI (1)), .int (iI (k)), .ref (ds 2)]) S ((kL_cell l D cI cZ cT cU cQ b L xs hL 1 (by first | assumption | omega)) H.size) (va_cwS 2 hts gL_build_L_cell rfl rfl rfl (by decide +kernel) ⟨Nat.le_of_ble_eq_true rfl, Nat.le_of_ble_eq_true rfl⟩) (g_preS (As := [.ref (b), .int (iI (1))]) (sEx_g _ _ _ _) hK [0, 1, 2, 3, 4] rfl hPc hDc (fun U hU hW => sEx_w hX9 hS hU hW)) rfl rfl hl.1 rfl (lv_room (Nat.le_of_ble_eq_true rfl)) dL_build_41 ⟨by show cl10 + 0 ≤ 92; omega, by show sl10 + 0 ≤ 499; omega⟩) hPc hDc hS hA (fun κ9 H locs hk hP hD hS => ?_)
          obtain ⟨z15, ezz15⟩ : ∃ z, z = κ9 := ⟨_, rfl⟩
          subst ezz15
          have hP : va_P D vwCl ((XW cI cZ d σx10 κx10) ++ (SW cI cT cU ds σx10 (z2 2))) H := hP
          have hD : va_D A ((XW cI cZ d σx10 κx10) ++ (SW cI cT cU ds σx10 (z2 2))) := hD
          show W p l e ({ frames := 8, cells := 92, slots := 499, locals := 149 } : Room) s m args below meth c H locs cl10 sl10 (MQ below (gQ D (tyA cI cZ cT cU cQ) (fun κ' => XW cI cZ d (fun a => κ' (a + 10)) κ' ++ SW cI cT cU (fun i => (κ' 3 i).toNat) (fun a => κ' (a + 10)) (κ' 2)) A (fun κ' => some (.ref (κ' 3 0).toNat)) (fun κ' => bLv (fun a => κ' (a + 10)))) args s 92 499 A) (F0 m 44 ls [.int (iI (cel L xs 1)), .int (iI (1)), .int (iI (k)), .ref (ds 2)])
          refine lv_iconst (v := iI (2)) hx hb dL_build_44 rfl ?_
          refine lv_iload_n hx hb dL_build_45 rfl (lv_at hl 0 rfl) ?_
          refine gi_mul hx hb dL_build_46 ?_
          refine gi_shr hx hb dL_build_47 ?_
          refine lv_bipush (v := iI (9)) hx hb dL_build_48 rfl ?_
          have hPc : va_P D vwCl ((XW cI cZ d σx10 κx10) ++ (SW cI cT cU ds σx10 (z2 2))) H := hP
          have hDc : va_D A ((XW cI cZ d σx10 κx10) ++ (SW cI cT cU ds σx10 (z2 2))) := hD
          have hPc : va_P D vwCl ([] ++ ((XW cI cZ d σx10 κx10) ++ (SW cI cT cU ds σx10 (z2 2)))) H := hPc
          have hDc : va_D A ([] ++ ((XW cI cZ d σx10 κx10) ++ (SW cI cT cU ds σx10 (z2 2)))) := hDc
          refine g_call (va_runS (As := [.int (iI (shr (cel L xs 1) (2 * k))), .int (iI (9))]) (rest := [.int (iI (1)), .int (iI (k)), .ref (ds 2)]) S ((kL_below l D cI cZ cT cU cQ (shr (cel L xs 1) (2 * k)) 9 (by first | assumption | omega)) H.size) (va_cwS 2 hts gL_build_L_below rfl rfl rfl (by decide +kernel) ⟨Nat.le_of_ble_eq_true rfl, Nat.le_of_ble_eq_true rfl⟩) (g_preS (As := [.int (iI (shr (cel L xs 1) (2 * k))), .int (iI (9))]) gEx_t hK [0, 1, 2, 3, 4] rfl hPc hDc (fun _ _ _ => trivial)) rfl rfl hl.1 rfl (lv_room (Nat.le_of_ble_eq_true rfl)) dL_build_50 ⟨by show cl10 + 0 ≤ 92; omega, by show sl10 + 0 ≤ 499; omega⟩) hPc hDc hS hA (fun κ9 H locs hk hP hD hS => ?_)
          obtain ⟨z16, ezz16⟩ : ∃ z, z = κ9 := ⟨_, rfl⟩
          subst ezz16
          have hP : va_P D vwCl ((XW cI cZ d σx10 κx10) ++ (SW cI cT cU ds σx10 (z2 2))) H := hP
          have hD : va_D A ((XW cI cZ d σx10 κx10) ++ (SW cI cT cU ds σx10 (z2 2))) := hD
          show W p l e ({ frames := 8, cells := 92, slots := 499, locals := 149 } : Room) s m args below meth c H locs cl10 sl10 (MQ below (gQ D (tyA cI cZ cT cU cQ) (fun κ' => XW cI cZ d (fun a => κ' (a + 10)) κ' ++ SW cI cT cU (fun i => (κ' 3 i).toNat) (fun a => κ' (a + 10)) (κ' 2)) A (fun κ' => some (.ref (κ' 3 0).toNat)) (fun κ' => bLv (fun a => κ' (a + 10)))) args s 92 499 A) (F0 m 53 ls [.int (iI (blw (shr (cel L xs 1) (2 * k)) 9)), .int (iI (1)), .int (iI (k)), .ref (ds 2)])
          refine gi_add hx hb dL_build_53 ?_
          refine gi_iast (a := ds 2) (n := 6) (f := σx10 0) hx hb hK hP hD hS 14 0 rfl rfl (by omega) (by omega) (by decide) dL_build_54 (fun H locs hP hD hS => ?_)
          have hP : va_P D vwCl ((XW cI cZ d σx10 κx10) ++ (SW cI cT cU ds (su σx10 0 k (1 + (blw (shr (cel L xs 1) (2 * k)) 9))) (z2 2))) H := hP
          have hD : va_D A ((XW cI cZ d σx10 κx10) ++ (SW cI cT cU ds (su σx10 0 k (1 + (blw (shr (cel L xs 1) (2 * k)) 9))) (z2 2))) := hD
          refine lv_aload_n hx hb dL_build_55 rfl (lv_at hl 1 rfl) ?_
          refine va_get (D := D) (ci := 2) (v := .ref (ds 3)) (C := RX2) (T := TX2) (N := 8) hx hb hts hinX2 hown hK (g_right hP) 0 rfl rfl 2 (by decide) (hts (.fieldLink RL 26 "TwinOrchardLaw$Sim" "bears" "[I") (List.mem_of_getElem? (i := 5) rfl)) (fun _ h9 => h9) rfl dL_build_56 ?_
          refine lv_iload_n hx hb dL_build_59 rfl (lv_at hl 0 rfl) ?_
          refine lv_aload_n hx hb dL_build_60 rfl (lv_at hl 3 rfl) ?_
          refine lv_iconst (v := iI (2)) hx hb dL_build_61 rfl ?_
          have hPc : va_P D vwCl ((XW cI cZ d σx10 κx10) ++ (SW cI cT cU ds (su σx10 0 k (1 + (blw (shr (cel L xs 1) (2 * k)) 9))) (z2 2))) H := hP
          have hDc : va_D A ((XW cI cZ d σx10 κx10) ++ (SW cI cT cU ds (su σx10 0 k (1 + (blw (shr (cel L xs 1) (2 * k)) 9))) (z2 2))) := hD
          have hPc : va_P D vwCl ([] ++ ((XW cI cZ d σx10 κx10) ++ (SW cI cT cU ds (su σx10 0 k (1 + (blw (shr (cel L xs 1) (2 * k)) 9))) (z2 2)))) H := hPc
          have hDc : va_D A ([] ++ ((XW cI cZ d σx10 κx10) ++ (SW cI cT cU ds (su σx10 0 k (1 + (blw (shr (cel L xs 1) (2 * k)) 9))) (z2 2)))) := hDc
          refine g_call (va_runS (As := [.ref (b), .int (iI (2))]) (rest := [.int (iI (k)), .ref (ds 3)]) S ((kL_cell l D cI cZ cT cU cQ b L xs hL 2 (by first | assumption | omega)) H.size) (va_cwS 2 hts gL_build_L_cell rfl rfl rfl (by decide +kernel) ⟨Nat.le_of_ble_eq_true rfl, Nat.le_of_ble_eq_true rfl⟩) (g_preS (As := [.ref (b), .int (iI (2))]) (sEx_g _ _ _ _) hK [0, 1, 2, 3, 4] rfl hPc hDc (fun U hU hW => sEx_w hX9 hS hU hW)) rfl rfl hl.1 rfl (lv_room (Nat.le_of_ble_eq_true rfl)) dL_build_62 ⟨by show cl10 + 0 ≤ 92; omega, by show sl10 + 0 ≤ 499; omega⟩) hPc hDc hS hA (fun κ9 H locs hk hP hD hS => ?_)
          obtain ⟨z17, ezz17⟩ : ∃ z, z = κ9 := ⟨_, rfl⟩
          subst ezz17
          have hP : va_P D vwCl ((XW cI cZ d σx10 κx10) ++ (SW cI cT cU ds (su σx10 0 k (1 + (blw (shr (cel L xs 1) (2 * k)) 9))) (z2 2))) H := hP
          have hD : va_D A ((XW cI cZ d σx10 κx10) ++ (SW cI cT cU ds (su σx10 0 k (1 + (blw (shr (cel L xs 1) (2 * k)) 9))) (z2 2))) := hD
          show W p l e ({ frames := 8, cells := 92, slots := 499, locals := 149 } : Room) s m args below meth c H locs cl10 sl10 (MQ below (gQ D (tyA cI cZ cT cU cQ) (fun κ' => XW cI cZ d (fun a => κ' (a + 10)) κ' ++ SW cI cT cU (fun i => (κ' 3 i).toNat) (fun a => κ' (a + 10)) (κ' 2)) A (fun κ' => some (.ref (κ' 3 0).toNat)) (fun κ' => bLv (fun a => κ' (a + 10)))) args s 92 499 A) (F0 m 65 ls [.int (iI (cel L xs 2)), .int (iI (k)), .ref (ds 3)])
          refine lv_iconst (v := iI (2)) hx hb dL_build_65 rfl ?_
          refine lv_iload_n hx hb dL_build_66 rfl (lv_at hl 0 rfl) ?_
          refine gi_mul hx hb dL_build_67 ?_
          refine gi_shr hx hb dL_build_68 ?_
          refine lv_bipush (v := iI (10)) hx hb dL_build_69 rfl ?_
          have hPc : va_P D vwCl ((XW cI cZ d σx10 κx10) ++ (SW cI cT cU ds (su σx10 0 k (1 + (blw (shr (cel L xs 1) (2 * k)) 9))) (z2 2))) H := hP
          have hDc : va_D A ((XW cI cZ d σx10 κx10) ++ (SW cI cT cU ds (su σx10 0 k (1 + (blw (shr (cel L xs 1) (2 * k)) 9))) (z2 2))) := hD
          have hPc : va_P D vwCl ([] ++ ((XW cI cZ d σx10 κx10) ++ (SW cI cT cU ds (su σx10 0 k (1 + (blw (shr (cel L xs 1) (2 * k)) 9))) (z2 2)))) H := hPc
          have hDc : va_D A ([] ++ ((XW cI cZ d σx10 κx10) ++ (SW cI cT cU ds (su σx10 0 k (1 + (blw (shr (cel L xs 1) (2 * k)) 9))) (z2 2)))) := hDc
          refine g_call (va_runS (As := [.int (iI (shr (cel L xs 2) (2 * k))), .int (iI (10))]) (rest := [.int (iI (k)), .ref (ds 3)]) S ((kL_below l D cI cZ cT cU cQ (shr (cel L xs 2) (2 * k)) 10 (by first | assumption | omega)) H.size) (va_cwS 2 hts gL_build_L_below rfl rfl rfl (by decide +kernel) ⟨Nat.le_of_ble_eq_true rfl, Nat.le_of_ble_eq_true rfl⟩) (g_preS (As := [.int (iI (shr (cel L xs 2) (2 * k))), .int (iI (10))]) gEx_t hK [0, 1, 2, 3, 4] rfl hPc hDc (fun _ _ _ => trivial)) rfl rfl hl.1 rfl (lv_room (Nat.le_of_ble_eq_true rfl)) dL_build_71 ⟨by show cl10 + 0 ≤ 92; omega, by show sl10 + 0 ≤ 499; omega⟩) hPc hDc hS hA (fun κ9 H locs hk hP hD hS => ?_)
          obtain ⟨z18, ezz18⟩ : ∃ z, z = κ9 := ⟨_, rfl⟩
          subst ezz18
          have hP : va_P D vwCl ((XW cI cZ d σx10 κx10) ++ (SW cI cT cU ds (su σx10 0 k (1 + (blw (shr (cel L xs 1) (2 * k)) 9))) (z2 2))) H := hP
          have hD : va_D A ((XW cI cZ d σx10 κx10) ++ (SW cI cT cU ds (su σx10 0 k (1 + (blw (shr (cel L xs 1) (2 * k)) 9))) (z2 2))) := hD
          show W p l e ({ frames := 8, cells := 92, slots := 499, locals := 149 } : Room) s m args below meth c H locs cl10 sl10 (MQ below (gQ D (tyA cI cZ cT cU cQ) (fun κ' => XW cI cZ d (fun a => κ' (a + 10)) κ' ++ SW cI cT cU (fun i => (κ' 3 i).toNat) (fun a => κ' (a + 10)) (κ' 2)) A (fun κ' => some (.ref (κ' 3 0).toNat)) (fun κ' => bLv (fun a => κ' (a + 10)))) args s 92 499 A) (F0 m 74 ls [.int (iI (blw (shr (cel L xs 2) (2 * k)) 10)), .int (iI (k)), .ref (ds 3)])
          refine gi_iast (a := ds 3) (n := 6) (f := (su σx10 0 k (1 + (blw (shr (cel L xs 1) (2 * k)) 9))) 1) hx hb hK hP hD hS 15 0 rfl rfl (by omega) (by omega) (by decide) dL_build_74 (fun H locs hP hD hS => ?_)
          have hP : va_P D vwCl ((XW cI cZ d σx10 κx10) ++ (SW cI cT cU ds (su (su σx10 0 k (1 + (blw (shr (cel L xs 1) (2 * k)) 9))) 1 k (blw (shr (cel L xs 2) (2 * k)) 10)) (z2 2))) H := hP
          have hD : va_D A ((XW cI cZ d σx10 κx10) ++ (SW cI cT cU ds (su (su σx10 0 k (1 + (blw (shr (cel L xs 1) (2 * k)) 9))) 1 k (blw (shr (cel L xs 2) (2 * k)) 10)) (z2 2))) := hD
          refine lv_aload_n hx hb dL_build_75 rfl (lv_at hl 2 rfl) ?_
          refine lv_iload_n hx hb dL_build_76 rfl (lv_at hl 0 rfl) ?_
          refine lv_aload_n hx hb dL_build_77 rfl (lv_at hl 1 rfl) ?_
          refine va_get (D := D) (ci := 2) (v := .ref (ds 2)) (C := RX2) (T := TX2) (N := 8) hx hb hts hinX2 hown hK (g_right hP) 0 rfl rfl 1 (by decide) (hts (.fieldLink RL 22 "TwinOrchardLaw$Sim" "weight" "[I") (List.mem_of_getElem? (i := 4) rfl)) (fun _ h9 => h9) rfl dL_build_78 ?_
          refine lv_iload_n hx hb dL_build_81 rfl (lv_at hl 0 rfl) ?_
          refine gi_iald (a := (ds 2)) (n := 6) (f := (su (su σx10 0 k (1 + (blw (shr (cel L xs 1) (2 * k)) 9))) 1 k (blw (shr (cel L xs 2) (2 * k)) 10)) 0) hx hb hK (g_right hP) 2 0 rfl rfl (by omega) (by omega) (by decide) dL_build_82 ?_
          rw [show ((su (su σx10 0 k (1 + (blw (shr (cel L xs 1) (2 * k)) 9))) 1 k (blw (shr (cel L xs 2) (2 * k)) 10)) 0 k) = (1 + (blw (shr (cel L xs 1) (2 * k)) 9)) from by simp [su, fu]]
          refine lv_aload_n hx hb dL_build_83 rfl (lv_at hl 1 rfl) ?_
          refine va_get (D := D) (ci := 2) (v := .ref (ds 3)) (C := RX2) (T := TX2) (N := 8) hx hb hts hinX2 hown hK (g_right hP) 0 rfl rfl 2 (by decide) (hts (.fieldLink RL 26 "TwinOrchardLaw$Sim" "bears" "[I") (List.mem_of_getElem? (i := 5) rfl)) (fun _ h9 => h9) rfl dL_build_84 ?_
          refine lv_iload_n hx hb dL_build_87 rfl (lv_at hl 0 rfl) ?_
          refine gi_iald (a := (ds 3)) (n := 6) (f := (su (su σx10 0 k (1 + (blw (shr (cel L xs 1) (2 * k)) 9))) 1 k (blw (shr (cel L xs 2) (2 * k)) 10)) 1) hx hb hK (g_right hP) 3 0 rfl rfl (by omega) (by omega) (by decide) dL_build_88 ?_
          rw [show ((su (su σx10 0 k (1 + (blw (shr (cel L xs 1) (2 * k)) 9))) 1 k (blw (shr (cel L xs 2) (2 * k)) 10)) 1 k) = (blw (shr (cel L xs 2) (2 * k)) 10) from by simp [su, fu]]
          have hPc : va_P D vwCl ((XW cI cZ d σx10 κx10) ++ (SW cI cT cU ds (su (su σx10 0 k (1 + (blw (shr (cel L xs 1) (2 * k)) 9))) 1 k (blw (shr (cel L xs 2) (2 * k)) 10)) (z2 2))) H := hP
          have hDc : va_D A ((XW cI cZ d σx10 κx10) ++ (SW cI cT cU ds (su (su σx10 0 k (1 + (blw (shr (cel L xs 1) (2 * k)) 9))) 1 k (blw (shr (cel L xs 2) (2 * k)) 10)) (z2 2))) := hD
          refine h_call0 (vx_runV (As := [.int (iI (k)), .int (iI (1 + (blw (shr (cel L xs 1) (2 * k)) 9))), .int (iI (blw (shr (cel L xs 2) (2 * k)) 10))]) (rest := []) S ((kX1_setSort l hfl D cI cZ d σx10 κx10 k (1 + (blw (shr (cel L xs 1) (2 * k)) 9)) (blw (shr (cel L xs 2) (2 * k)) 10) (by first | assumption | omega) (by first | assumption | omega) (by first | assumption | omega) (by first | assumption | omega) (by first | assumption | omega) (by first | assumption | omega) (by first | assumption | omega)) H.size) (cwV 3 hts gL_build_X1_setSort rfl rfl rfl (by decide +kernel) ⟨Nat.le_of_ble_eq_true rfl, Nat.le_of_ble_eq_true rfl⟩) (h_preV hK [0, 1] rfl hPc hDc hS hA hTE (q0 := 0) (ci := 1) rfl rfl rfl) rfl rfl hl.1 rfl (lv_room (Nat.le_of_ble_eq_true rfl)) dL_build_89 ⟨by show cl10 + 1 ≤ 92; omega, by show sl10 + 6 ≤ 499; omega⟩) hPc hDc hS hA (fun E h => (by have h0 : (tSetSort k (1 + (blw (shr (cel L xs 1) (2 * k)) 9)) (blw (shr (cel L xs 2) (2 * k)) 10)) = 0 := (by unfold tSetSort; rw [if_neg (by omega), if_neg (by omega)]); rcases h with ⟨_, h⟩ | ⟨_, h⟩ <;> omega)) (fun κ9 H locs hk hP hD hS => ?_)
          obtain ⟨z19, ezz19⟩ : ∃ z, z = κ9 := ⟨_, rfl⟩
          subst ezz19
          have hP : va_P D vwCl ((XW cI cZ d (xSetSort σx10 k (1 + (blw (shr (cel L xs 1) (2 * k)) 9)) (blw (shr (cel L xs 2) (2 * k)) 10)) z19) ++ (SW cI cT cU ds (su (su σx10 0 k (1 + (blw (shr (cel L xs 1) (2 * k)) 9))) 1 k (blw (shr (cel L xs 2) (2 * k)) 10)) (z2 2))) H := hP
          have hD : va_D A ((XW cI cZ d (xSetSort σx10 k (1 + (blw (shr (cel L xs 1) (2 * k)) 9)) (blw (shr (cel L xs 2) (2 * k)) 10)) z19) ++ (SW cI cT cU ds (su (su σx10 0 k (1 + (blw (shr (cel L xs 1) (2 * k)) 9))) 1 k (blw (shr (cel L xs 2) (2 * k)) 10)) (z2 2))) := hD
          show W p l e ({ frames := 8, cells := 92, slots := 499, locals := 149 } : Room) s m args below meth c H locs (cl10 + 1) (sl10 + 6) (MQ below (gQ D (tyA cI cZ cT cU cQ) (fun κ' => XW cI cZ d (fun a => κ' (a + 10)) κ' ++ SW cI cT cU (fun i => (κ' 3 i).toNat) (fun a => κ' (a + 10)) (κ' 2)) A (fun κ' => some (.ref (κ' 3 0).toNat)) (fun κ' => bLv (fun a => κ' (a + 10)))) args s 92 499 A) (F0 m 92 ls [.int (iI (10 * σx10 0 k + σx10 1 k))])
          refine lv_bipush (v := iI (34)) hx hb dL_build_92 rfl ?_
          refine gi_icmp_eq (tgt := 99) hx hb dL_build_94 (by decide) ⟨by omega, by omega⟩ ⟨by decide, by decide⟩ (fun c94 => ?_) (fun c94 => ?_)
          · skip
            refine lv_iinc (v := iI (k + 1)) (lv' := [(3, .int (iI (k + 1))), (2, .ref (ds 0)), (0, .ref (d 0)), (1, .ref (b))]) hx hb dL_build_99 hl (k := 0) rfl (iI_add _ _) (by decide) rfl (fun ls hl => ?_)
            refine lv_goto (tgt := 10) hx hb dL_build_102 (by decide) ?_
            have e8 : (su (su σx10 0 k (1 + (blw (shr (cel L xs 1) (2 * k)) 9))) 1 k (blw (shr (cel L xs 2) (2 * k)) 10)) = (xSetSort σx10 k (1 + (blw (shr (cel L xs 1) (2 * k)) 9)) (blw (shr (cel L xs 2) (2 * k)) 10)) := rfl
            rw [e8] at hP hD
            have hP : va_P D vwCl ((XW cI cZ d (xSetSort σx10 k (1 + (blw (shr (cel L xs 1) (2 * k)) 9)) (blw (shr (cel L xs 2) (2 * k)) 10)) z19) ++ (SW cI cT cU ds (xSetSort σx10 k (1 + (blw (shr (cel L xs 1) (2 * k)) 9)) (blw (shr (cel L xs 2) (2 * k)) 10)) (z2 2))) H := hP
            have hD : va_D A ((XW cI cZ d (xSetSort σx10 k (1 + (blw (shr (cel L xs 1) (2 * k)) 9)) (blw (shr (cel L xs 2) (2 * k)) 10)) z19) ++ (SW cI cT cU ds (xSetSort σx10 k (1 + (blw (shr (cel L xs 1) (2 * k)) 9)) (blw (shr (cel L xs 2) (2 * k)) 10)) (z2 2))) := hD
            exact ih10 (k + 1) (xSetSort σx10 k (1 + (blw (shr (cel L xs 1) (2 * k)) 9)) (blw (shr (cel L xs 2) (2 * k)) 10)) z19 (cl10 + 1) (sl10 + 6) (by omega) (by omega) (by omega) (by first | exact iw10 | exact xWF_s1 (xWF_s0 iw10 (by omega)) (by omega)) (by exact iz10) (by intro j hj; first | exact i10 j (by omega) | (show fu (σx10 0) k _ j = 3 ∧ fu (σx10 1) k _ j = 4; rw [fu_n _ _ (by omega), fu_n _ _ (by omega)]; exact i10 j (by omega))) (by exact if10) (by exact ib10) (by exact iy10) (by omega) (by omega) H locs ls hP hD hS (lv_sub hl [0, 1, 2, 3] rfl)
          · skip
            omega
        · skip
          refine lv_goto (tgt := 99) hx hb dL_build_30 (by decide) ?_
          refine lv_iinc (v := iI (k + 1)) (lv' := [(3, .int (iI (k + 1))), (2, .ref (ds 0)), (0, .ref (d 0)), (1, .ref (b))]) hx hb dL_build_99 hl (k := 0) rfl (iI_add _ _) (by decide) rfl (fun ls hl => ?_)
          refine lv_goto (tgt := 10) hx hb dL_build_102 (by decide) ?_
          exact ih10 (k + 1) σx10 κx10 cl10 sl10 (by omega) (by omega) (by omega) (by first | exact iw10 | exact xWF_s1 (xWF_s0 iw10 (by omega)) (by omega)) (by exact iz10) (by intro j hj; first | exact i10 j (by omega) | (show fu (σx10 0) k _ j = 3 ∧ fu (σx10 1) k _ j = 4; rw [fu_n _ _ (by omega), fu_n _ _ (by omega)]; exact i10 j (by omega))) (by exact if10) (by exact ib10) (by exact iy10) (by omega) (by omega) H locs ls hP hD hS (lv_sub hl [0, 1, 2, 3] rfl)
  exact loop10 (((6 - (0) + 1 : Int)).toNat) 0 σI κ 12 83 (by omega) (by omega) (by omega) (by exact xWF_I) (by exact zWF_I) (by intro j _; exact ⟨rfl, rfl⟩) (by intro j; rfl) (by intro j; rfl) (by rfl) (by omega) (by omega) H locs ls hP hD hS (lv_sub hl [0, 1, 2, 3] rfl)
