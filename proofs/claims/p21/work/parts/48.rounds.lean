/-! the rounds of the law's loop -/
set_option maxHeartbeats 4000000 in
set_option maxRecDepth 100000 in
theorem lq_l378 {p : Program} {l : Launch} {e : Env} {s : State} {m : MethodId} {args : Array Value} {below : List Frame} {meth : Method} {c : Code} {H : Heap} {locs : List Loc} {cells slots : Nat} {Q : State → Prop} {ls : Array Slot} {D : va_G} {A : Nat → Prop} {cI cZ cT cU cQ : ClassId} {b L : Nat} {xs : Nat → Int32} {d ds : Nat → Nat} {σ κ : St} {ι : Int → Int} {w4 : Nat} {t : Int} {x : Int} {w : Int} {r : Int} {pl : Int} {hw : Int} {c1 : Int} {c2 : Int} {c5 : Int} {tl : Int} {al : Int} {df : Int} {sl : Int} {sr : Int} {h : Int} {tt : Int} {Wx : va_W} {w6 w17 : Nat} {a6 a17 : Nat → Nat} {τ : St} (G : lG p l s m c args A D cI cZ cT cU cQ b L xs) (hwf : xWF σ) (hwt : xWF τ) (hr : 0 ≤ r ∧ r < 5) (hp : 0 ≤ pl ∧ pl < 8) (hw9 : -1 ≤ w ∧ w ≤ 3) (hAF : AF σ τ r pl w h tt) (hcc : cells + 0 ≤ 600104) (hss : slots + 0 ≤ 7301314) (hP : va_P D vwCl (Wx ++ ((QW cI cQ w6 a6 (tG σ)) ++ (QW cI cQ w17 a17 (tG τ)))) H) (hD : va_D A (Wx ++ ((QW cI cQ w6 a6 (tG σ)) ++ (QW cI cQ w17 a17 (tG τ))))) (hS : va_S A s.heap H locs) (hl : lv_has ls 35 [(21, .int (iI (tt))), (20, .int (iI (h))), (19, .int (iI (sr))), (18, .int (iI (sl))), (17, .ref (w17)), (16, .int (iI (al))), (15, .int (iI (df))), (14, .int (iI (w))), (13, .int (iI (hw))), (12, .int (iI (pl))), (11, .int (iI (r))), (10, .int (iI (tl))), (9, .int (iI (c5))), (8, .int (iI (c2))), (7, .int (iI (c1))), (6, .ref (w6)), (5, .int (iI (x))), (4, .int (iI (t))), (3, .ref (w4)), (2, .ref (ds 0)), (1, .ref (d 0)), (0, .ref (b))]) (K : ∀ (H : Heap) (locs : List Loc) (cells1 slots1 : Nat) (ls : Array Slot), cells1 ≤ cells + 0 → slots1 ≤ slots + 0 → va_P D vwCl (Wx ++ ((QW cI cQ w6 a6 (tG σ)) ++ (QW cI cQ w17 a17 (tG τ)))) H → va_D A (Wx ++ ((QW cI cQ w6 a6 (tG σ)) ++ (QW cI cQ w17 a17 (tG τ)))) → va_S A s.heap H locs → lv_has ls 35 [(21, .int (iI (tt))), (20, .int (iI (h))), (19, .int (iI (sr))), (18, .int (iI (sl))), (17, .ref (w17)), (16, .int (iI (al))), (15, .int (iI (df))), (14, .int (iI (w))), (13, .int (iI (hw))), (12, .int (iI (pl))), (11, .int (iI (r))), (10, .int (iI (tl))), (9, .int (iI (c5))), (8, .int (iI (c2))), (7, .int (iI (c1))), (6, .ref (w6)), (5, .int (iI (x))), (4, .int (iI (t))), (3, .ref (w4)), (2, .ref (ds 0)), (1, .ref (d 0)), (0, .ref (b))] → W p l e room_1 s m args below meth c H locs cells1 slots1 Q (F0 m 675 ls [])) : W p l e room_1 s m args below meth c H locs cells slots Q (F0 m 375 ls []) := by
  obtain ⟨S, hfl, hK, hA, hTE, hN, hX9, hL⟩ := id G
  have hE := hTE.1
  have S0 := S
  obtain ⟨hx, hb, hml, hown, hts⟩ := S0
  obtain ⟨hh0, ht0, hw1, hks, hkd, -, -⟩ := hAF
  refine lv_iconst (v := iI (0)) hx hb dL_law_375 rfl ?_
  refine lv_istore (lv' := [(22, .int (iI (0))), (21, .int (iI (tt))), (20, .int (iI (h))), (19, .int (iI (sr))), (18, .int (iI (sl))), (17, .ref (w17)), (16, .int (iI (al))), (15, .int (iI (df))), (14, .int (iI (w))), (13, .int (iI (hw))), (12, .int (iI (pl))), (11, .int (iI (r))), (10, .int (iI (tl))), (9, .int (iI (c5))), (8, .int (iI (c2))), (7, .int (iI (c1))), (6, .ref (w6)), (5, .int (iI (x))), (4, .int (iI (t))), (3, .ref (w4)), (2, .ref (ds 0)), (1, .ref (d 0)), (0, .ref (b))]) hx hb dL_law_376 hl (by decide) rfl (fun ls hl => ?_)
  have loop : ∀ (n9 : Nat) (k : Int) (cl9 sl9 : Nat), 0 ≤ k → k ≤ 40 → 40 - k < (n9 : Int) → cl9 ≤ cells → sl9 ≤ slots → ∀ (H : Heap) (locs : List Loc) (ls : Array Slot), va_P D vwCl (Wx ++ ((QW cI cQ w6 a6 (tG σ)) ++ (QW cI cQ w17 a17 (tG τ)))) H → va_D A (Wx ++ ((QW cI cQ w6 a6 (tG σ)) ++ (QW cI cQ w17 a17 (tG τ)))) → va_S A s.heap H locs → lv_has ls 35 [(22, .int (iI (k))), (21, .int (iI (tt))), (20, .int (iI (h))), (19, .int (iI (sr))), (18, .int (iI (sl))), (17, .ref (w17)), (16, .int (iI (al))), (15, .int (iI (df))), (14, .int (iI (w))), (13, .int (iI (hw))), (12, .int (iI (pl))), (11, .int (iI (r))), (10, .int (iI (tl))), (9, .int (iI (c5))), (8, .int (iI (c2))), (7, .int (iI (c1))), (6, .ref (w6)), (5, .int (iI (x))), (4, .int (iI (t))), (3, .ref (w4)), (2, .ref (ds 0)), (1, .ref (d 0)), (0, .ref (b))] → W p l e room_1 s m args below meth c H locs cl9 sl9 Q (F0 m 378 ls []) := by
    intro n9
    induction n9 with
    | zero =>
      intro k cl9 sl9 h0 h40 hm9
      omega
    | succ n9 ih9 =>
      intro k cl9 sl9 h0 h40 hm9 hcl hsl H locs ls hP hD hS hl
      refine lv_iload hx hb dL_law_378 (lv_at hl 0 rfl) ?_
      refine lv_bipush (v := iI (40)) hx hb dL_law_380 rfl ?_
      refine gi_icmp_ge (tgt := 675) hx hb dL_law_382 (by decide) ⟨by omega, by omega⟩ ⟨by decide, by decide⟩ (fun c9 => ?_) (fun c9 => ?_)
      · exact K H locs cl9 sl9 ls (by omega) (by omega) hP hD hS (lv_sub hl [1, 2, 3, 4, 5, 6, 7, 8, 9, 10, 11, 12, 13, 14, 15, 16, 17, 18, 19, 20, 21, 22] rfl)
      · refine lq_asked (σ := σ) (κ := κ) (ι := ι) (Wx := Wx ++ ((QW cI cQ w6 a6 (tG σ)) ++ (QW cI cQ w17 a17 (tG τ)))) G ⟨h0, by omega⟩ hr hp hw9 hh0 ht0 hw1 (by omega) (by omega) hP hD hS hl (fun q H locs cl2 sl2 ls hq hc2 hs2 hP hD hS hl => ?_)
        have hq01 : q = 0 ∨ q = 1 := by rcases hq with hq | hq; exact Or.inl hq.1; exact Or.inr hq.1
        refine lq_unch (κ := κ) (ι := ι) G hwf hwt ⟨h0, by omega⟩ hq01 (fun e9 => ?_) (by omega) (by omega) hP hD hS hl (fun H locs cl3 sl3 ls hc3 hs3 hP hD hS hl => ?_)
        · rcases hq with ⟨-, n1, n2⟩ | ⟨n0, -⟩
          · exact hks k n1 n2
          · omega
        · refine lq_chk (κ := κ) (ι := ι) G hwf hwt ⟨h0, by omega⟩ hq01 hw9 (fun e9 => ?_) (by omega) (by omega) hP hD hS hl (fun H locs cl4 sl4 ls hc4 hs4 hP hD hS hl => ?_)
          · rcases hq with ⟨n0, -⟩ | ⟨-, n1⟩
            · omega
            · exact WB_of (hkd k n1)
          · refine lv_iinc (v := iI (k + 1)) (lv' := [(22, .int (iI (k + 1))), (23, .int (iI (q))), (21, .int (iI (tt))), (20, .int (iI (h))), (19, .int (iI (sr))), (18, .int (iI (sl))), (17, .ref (w17)), (16, .int (iI (al))), (15, .int (iI (df))), (14, .int (iI (w))), (13, .int (iI (hw))), (12, .int (iI (pl))), (11, .int (iI (r))), (10, .int (iI (tl))), (9, .int (iI (c5))), (8, .int (iI (c2))), (7, .int (iI (c1))), (6, .ref (w6)), (5, .int (iI (x))), (4, .int (iI (t))), (3, .ref (w4)), (2, .ref (ds 0)), (1, .ref (d 0)), (0, .ref (b))]) hx hb dL_law_669 hl (k := 1) rfl (iI_add _ _) (by decide) rfl (fun ls hl => ?_)
            refine lv_goto (tgt := 378) hx hb dL_law_672 (by decide) ?_
            exact ih9 (k + 1) cl4 sl4 (by omega) (by omega) (by omega) (by omega) (by omega) H locs ls hP hD hS (lv_sub hl [0, 2, 3, 4, 5, 6, 7, 8, 9, 10, 11, 12, 13, 14, 15, 16, 17, 18, 19, 20, 21, 22, 23] rfl)
  exact loop 41 0 cells slots (by omega) (by omega) (by omega) (by omega) (by omega) H locs ls hP hD hS hl
set_option maxHeartbeats 4000000 in
set_option maxRecDepth 100000 in
theorem lq_l965 {p : Program} {l : Launch} {e : Env} {s : State} {m : MethodId} {args : Array Value} {below : List Frame} {meth : Method} {c : Code} {H : Heap} {locs : List Loc} {cells slots : Nat} {Q : State → Prop} {ls : Array Slot} {D : va_G} {A : Nat → Prop} {cI cZ cT cU cQ : ClassId} {b L : Nat} {xs : Nat → Int32} {d ds : Nat → Nat} {σ κ : St} {ι : Int → Int} {w4 : Nat} {t : Int} {x : Int} {fa : Int} {fb : Int} {Wy : va_W} {w17 w29 : Nat} {a17 a29 : Nat → Nat} {τ : St} (G : lG p l s m c args A D cI cZ cT cU cQ b L xs) (hwf : xWF τ) (hz : zWF τ) (hbn : ∀ j, τ 2 j ≤ 90000000) (hyr : τ 9 0 ≤ 1000) (hcc : cells + 40 ≤ 600104) (hss : slots + 240 ≤ 7301314) (hP : va_P D vwCl ([(w4, aI cI 4 cst)] ++ ((XW cI cZ d (xPass τ 1) κ) ++ ((SW cI cT cU ds (xPass τ 1) ι) ++ (Wy ++ ((QW cI cQ w17 a17 (tG τ)) ++ (QW cI cQ w29 a29 (tG (xPass τ 1)))))))) H) (hD : va_D A ([(w4, aI cI 4 cst)] ++ ((XW cI cZ d (xPass τ 1) κ) ++ ((SW cI cT cU ds (xPass τ 1) ι) ++ (Wy ++ ((QW cI cQ w17 a17 (tG τ)) ++ (QW cI cQ w29 a29 (tG (xPass τ 1))))))))) (hS : va_S A s.heap H locs) (hl : lv_has ls 35 [(32, .int (iI (0))), (31, .int (iI (0))), (30, .int (iI (0))), (29, .ref (w29)), (27, .int (iI (yF τ))), (24, .int (iI (fb))), (23, .int (iI (fa))), (17, .ref (w17)), (5, .int (iI (x))), (4, .int (iI (t))), (3, .ref (w4)), (2, .ref (ds 0)), (1, .ref (d 0)), (0, .ref (b))]) (K : ∀ (κ1 : St) (H : Heap) (locs : List Loc) (cells1 slots1 : Nat) (ls : Array Slot), cells1 ≤ cells + 40 → slots1 ≤ slots + 240 → va_P D vwCl ([(w4, aI cI 4 cst)] ++ ((XW cI cZ d (xPass τ 1) κ1) ++ ((SW cI cT cU ds (xPass τ 1) ι) ++ (Wy ++ ((QW cI cQ w17 a17 (tG τ)) ++ (QW cI cQ w29 a29 (tG (xPass τ 1)))))))) H → va_D A ([(w4, aI cI 4 cst)] ++ ((XW cI cZ d (xPass τ 1) κ1) ++ ((SW cI cT cU ds (xPass τ 1) ι) ++ (Wy ++ ((QW cI cQ w17 a17 (tG τ)) ++ (QW cI cQ w29 a29 (tG (xPass τ 1)))))))) → va_S A s.heap H locs → lv_has ls 35 [(32, .int (iI (40))), (31, .int (iI (isumI (fsA τ 1) 40))), (30, .int (iI (isumI (fsB τ 1) 40))), (29, .ref (w29)), (27, .int (iI (yF τ))), (24, .int (iI (fb))), (23, .int (iI (fa))), (17, .ref (w17)), (5, .int (iI (x))), (4, .int (iI (t))), (3, .ref (w4)), (2, .ref (ds 0)), (1, .ref (d 0)), (0, .ref (b))] → W p l e room_1 s m args below meth c H locs cells1 slots1 Q (F0 m 1193 ls [])) : W p l e room_1 s m args below meth c H locs cells slots Q (F0 m 965 ls []) := by
  obtain ⟨S, hfl, hK, hA, hTE, hN, hX9, hL⟩ := id G
  have hE := hTE.1
  have S0 := S
  obtain ⟨hx, hb, hml, hown, hts⟩ := S0
  have loop : ∀ (n9 : Nat) (k : Int) (su al : Int) (κ9 : St) (cl9 sl9 : Nat), 0 ≤ k → k ≤ 40 → 40 - k < (n9 : Int) → su = isumI (fsA τ 1) k → al = isumI (fsB τ 1) k → ((cl9 : Int) ≤ cells + k) → ((sl9 : Int) ≤ slots + 6 * k) → ∀ (H : Heap) (locs : List Loc) (ls : Array Slot), va_P D vwCl ([(w4, aI cI 4 cst)] ++ ((XW cI cZ d (xPass τ 1) κ9) ++ ((SW cI cT cU ds (xPass τ 1) ι) ++ (Wy ++ ((QW cI cQ w17 a17 (tG τ)) ++ (QW cI cQ w29 a29 (tG (xPass τ 1)))))))) H → va_D A ([(w4, aI cI 4 cst)] ++ ((XW cI cZ d (xPass τ 1) κ9) ++ ((SW cI cT cU ds (xPass τ 1) ι) ++ (Wy ++ ((QW cI cQ w17 a17 (tG τ)) ++ (QW cI cQ w29 a29 (tG (xPass τ 1)))))))) → va_S A s.heap H locs → lv_has ls 35 [(32, .int (iI (k))), (31, .int (iI (su))), (30, .int (iI (al))), (29, .ref (w29)), (27, .int (iI (yF τ))), (24, .int (iI (fb))), (23, .int (iI (fa))), (17, .ref (w17)), (5, .int (iI (x))), (4, .int (iI (t))), (3, .ref (w4)), (2, .ref (ds 0)), (1, .ref (d 0)), (0, .ref (b))] → W p l e room_1 s m args below meth c H locs cl9 sl9 Q (F0 m 965 ls []) := by
    intro n9
    induction n9 with
    | zero =>
      intro k su al κ9 cl9 sl9 h0 h40 hm9
      omega
    | succ n9 ih9 =>
      intro k su al κ9 cl9 sl9 h0 h40 hm9 esu eal hcl hsl H locs ls hP hD hS hl
      refine lv_iload hx hb dL_law_965 (lv_at hl 0 rfl) ?_
      refine lv_bipush (v := iI (40)) hx hb dL_law_967 rfl ?_
      refine gi_icmp_ge (tgt := 1193) hx hb dL_law_969 (by decide) ⟨by omega, by omega⟩ ⟨by decide, by decide⟩ (fun c9 => ?_) (fun c9 => ?_)
      · have ek : k = 40 := by omega
        subst ek
        rw [esu, eal] at hl
        exact K κ9 H locs cl9 sl9 ls (by omega) (by omega) hP hD hS hl
      · refine lq_tree (σ := σ) G hwf hz hbn hyr ⟨h0, by omega⟩ (by omega) (by omega) hP hD hS hl (fun κ1 su1 al1 H locs cl2 sl2 ls e1 e2 hc2 hs2 hP hD hS hl => ?_)
        refine lv_iinc (v := iI (k + 1)) (lv' := [(32, .int (iI (k + 1))), (31, .int (iI (su1))), (30, .int (iI (al1))), (29, .ref (w29)), (27, .int (iI (yF τ))), (24, .int (iI (fb))), (23, .int (iI (fa))), (17, .ref (w17)), (5, .int (iI (x))), (4, .int (iI (t))), (3, .ref (w4)), (2, .ref (ds 0)), (1, .ref (d 0)), (0, .ref (b))]) hx hb dL_law_1187 hl (k := 0) rfl (iI_add _ _) (by decide) rfl (fun ls hl => ?_)
        refine lv_goto (tgt := 965) hx hb dL_law_1190 (by decide) ?_
        exact ih9 (k + 1) su1 al1 κ1 cl2 sl2 (by omega) (by omega) (by omega) (by rw [e1, esu, isumI_s _ h0]) (by rw [e2, eal, isumI_s _ h0]) (by omega) (by omega) H locs ls hP hD hS hl
  exact loop 41 0 0 0 κ cells slots (by omega) (by omega) (by omega) rfl rfl (by omega) (by omega) H locs ls hP hD hS hl
theorem foR {σ : St} (h : xWF σ) : inR (xFore σ 1 1) := by
  have := isumI_in (f := fsB σ 1) (lo := 0) (hi := 9) (fun j => by
    unfold fsB
    split
    · omega
    · exact lvB_in σ _ _ _ (xWF_5 h j)) (i := 40) (by decide)
  show inR (isumI (fsB σ 1) 40)
  unfold inR
  omega
theorem va_as4 (a b c r : va_W) : a ++ (b ++ (c ++ r)) = (a ++ (b ++ c)) ++ r := by simp only [List.append_assoc]
theorem va_as6 (a b c q r z : va_W) : a ++ (b ++ (c ++ ((q ++ r) ++ z))) = a ++ (b ++ (c ++ (q ++ (r ++ z)))) := by simp only [List.append_assoc]
set_option maxHeartbeats 4000000 in
set_option maxRecDepth 100000 in
theorem lq_round {p : Program} {l : Launch} {e : Env} {s : State} {m : MethodId} {args : Array Value} {below : List Frame} {meth : Method} {c : Code} {H : Heap} {locs : List Loc} {cells slots : Nat} {Q : State → Prop} {ls : Array Slot} {D : va_G} {A : Nat → Prop} {cI cZ cT cU cQ : ClassId} {b L : Nat} {xs : Nat → Int32} {d ds : Nat → Nat} {σ κ : St} {ι : Int → Int} {w4 : Nat} {t : Int} (G : lG p l s m c args A D cI cZ cT cU cQ b L xs) (hin : lLv t σ) (ht : 0 ≤ t ∧ t < 28) (hcc : cells + 811 ≤ 600104) (hss : slots + 4844 ≤ 7301314) (hP : va_P D vwCl ([(w4, aI cI 4 cst)] ++ ((XW cI cZ d σ κ) ++ (SW cI cT cU ds σ ι))) H) (hD : va_D A ([(w4, aI cI 4 cst)] ++ ((XW cI cZ d σ κ) ++ (SW cI cT cU ds σ ι)))) (hS : va_S A s.heap H locs) (hl : lv_has ls 35 [(4, .int (iI (t))), (3, .ref (w4)), (2, .ref (ds 0)), (1, .ref (d 0)), (0, .ref (b))]) (K : ∀ (σ1 κ1 : St) (ι1 : Int → Int) (H : Heap) (locs : List Loc) (cells1 slots1 : Nat) (ls : Array Slot), lLv (t + 1) σ1 → cells1 ≤ cells + 811 → slots1 ≤ slots + 4844 → va_P D vwCl ([(w4, aI cI 4 cst)] ++ ((XW cI cZ d σ1 κ1) ++ (SW cI cT cU ds σ1 ι1))) H → va_D A ([(w4, aI cI 4 cst)] ++ ((XW cI cZ d σ1 κ1) ++ (SW cI cT cU ds σ1 ι1))) → va_S A s.heap H locs → lv_has ls 35 [(4, .int (iI (t))), (3, .ref (w4)), (2, .ref (ds 0)), (1, .ref (d 0)), (0, .ref (b))] → W p l e room_1 s m args below meth c H locs cells1 slots1 Q (F0 m 1209 ls [])) : W p l e room_1 s m args below meth c H locs cells slots Q (F0 m 51 ls []) := by
  obtain ⟨hwf, hz, hbn, hyr⟩ := hin
  have hbx : ∀ j, σ 2 j ≤ 200000 := fun j => by have := hbn j; omega
  refine lq_look G hwf ht (by omega) (by omega) hP hD hS hl (fun κ1 w6 a6 H locs c1 s1 ls hc1 hs1 hP hD hS hl => ?_)
  obtain ⟨X, hX⟩ : ∃ X, X = lwX L xs t := ⟨_, rfl⟩
  rw [← hX] at hl ⊢
  have hp := acP_in X
  have hr := acR_in X
  have hw9 := wkF_in X
  obtain ⟨hh, tt, hAF⟩ := act_AF hwf X
  obtain ⟨wwf, wz, wb, w9, w3⟩ := act_ok hwf hz X
  have hkeep := act_keep σ X
  obtain ⟨p1, p2, p3, p4, p5, p6, p7⟩ := AF_sp hAF
  have hh01 : hh = 0 ∨ hh = 1 := hAF.1
  have tt01 : tt = 0 ∨ tt = 1 := hAF.2.1
  refine lq_both G hwf hz hr hp (by omega) (by omega) hP hD hS hl (fun κ2 ι2 w17 a17 H locs c2 s2 ls hc2 hs2 hP hD hS hl => ?_)
  obtain ⟨τ, hτ⟩ : ∃ τ, τ = actS σ X := ⟨_, rfl⟩
  rw [← hτ] at hP hD hl hAF wwf wz wb w9 w3 hkeep p1 p2 p3 p4 p5 p6 p7
  have hb2 : ∀ j, τ 2 j ≤ 200000 := fun j => by have := hbx j; have := wb j; omega
  have hb9 : ∀ j, τ 2 j ≤ 90000000 := fun j => by have := hb2 j; omega
  refine lq_spent (σ := σ) (κ := κ) (ι := ι) G hw9 p1 p2 p3 (by omega) (by omega) hP hD hS hl (fun H locs c3 s3 ls hc3 hs3 hP hD hS hl => ?_)
  refine lq_here (h := hh) (σ := σ) (κ := κ) (ι := ι) G hp hh01 (fun q => (p4 q).1) (fun q => (p5 q).1) p6 p7 (by omega) (by omega) hP hD hS hl (fun H locs c4 s4 ls hc4 hs4 hP hD hS hl => ?_)
  refine lq_there (tt := tt) (σ := σ) (κ := κ) (ι := ι) G hp tt01 (fun q => (p4 q).2) (fun q => (p5 q).2) p6 p7 (by omega) (by omega) hP hD hS hl (fun H locs c5 s5 ls hc5 hs5 hP hD hS hl => ?_)
  rw [va_as4] at hP hD
  refine lq_l378 (κ := κ) (ι := ι) G hwf wwf hr hp hw9 hAF (by omega) (by omega) hP hD hS hl (fun H locs c6 s6 ls hc6 hs6 hP hD hS hl => ?_)
  rw [← va_as4] at hP hD
  refine lq_dif (σ := σ) G wwf hb2 hh01 tt01 (alB01 σ _ _) (xCountR hwf hbx 7) (fun e1 e2 e3 => AF_differ hp hAF e1 e2 (alB_1 e3).1 (alB_1 e3).2) (by omega) (by omega) hP hD hS (lv_sub hl [0, 1, 4, 5, 6, 7, 8, 9, 10, 11, 12, 13, 14, 15, 16, 17, 18, 19, 20, 21] rfl) (fun κ3 H locs c7 s7 ls hc7 hs7 hP hD hS hl => ?_)
  refine lq_barn (σ := σ) G wwf hb2 hw9 (xCountR hwf hbx 5) (barn_le wb) (fun q => barn_e (hkeep q).1) (fun q => by rw [(hkeep q).2]) (by omega) (by omega) hP hD hS hl (fun κ4 H locs c8 s8 ls hc8 hs8 hP hD hS hl => ?_)
  refine lq_heavy (σ := σ) G wwf hb2 (by omega) (by omega) hP hD hS hl (fun κ5 H locs c9 s9 ls hc9 hs9 hP hD hS hl => ?_)
  refine lq_go (σ := σ) (κ := κ) (ι := ι) G (by omega) (by omega) hP hD hS hl (fun H locs c10 s10 ls hc10 hs10 hP hD hS hl => ?_) (fun H locs c10 s10 ls hc10 hs10 hP hD hS hl => ?_)
  · obtain ⟨pw, pz, p2b, p9, pR⟩ := pass_ok wwf wz hb9 (by omega)
    refine lq_year1 (σ := σ) G wwf wz hb2 (by omega) (by omega) (by omega) hP hD hS hl (fun κ6 H locs c11 s11 ls hc11 hs11 hP hD hS hl => ?_)
    refine lq_year2 (σ := σ) G wwf hb9 pw (by omega) (by omega) hP hD hS hl (fun κ7 ι7 w29 a29 H locs c12 s12 ls hc12 hs12 hP hD hS hl => ?_)
    rw [va_as6] at hP hD
    refine lq_l965 (σ := σ) G wwf wz hb9 (by omega) (by omega) (by omega) hP hD hS hl (fun κ8 H locs c13 s13 ls hc13 hs13 hP hD hS hl => ?_)
    refine lq_sum (σ := σ) (κ := κ) (ι := ι) (fa := xFore τ 1 0) (fb := xFore τ 1 1) G rfl rfl (by rw [(yr_ok wwf wz hb9).1]; exact pR) (foR wwf) (by omega) (by omega) hP hD hS hl (fun H locs c14 s14 ls hc14 hs14 hP hD hS hl => ?_)
    obtain ⟨hP, hD⟩ := drop4 hP hD
    exact K (xPass τ 1) κ8 ι7 H locs c14 s14 ls ⟨pw, pz, fun j => by have := p2b j; have := wb j; have := hbn j; omega, by rw [p9, w9]; omega⟩ (by omega) (by omega) hP hD hS hl
  · obtain ⟨hP, hD⟩ := drop4 hP hD
    exact K τ κ5 ι2 H locs c10 s10 ls ⟨wwf, wz, fun j => by have := wb j; have := hbn j; omega, by rw [w9]; omega⟩ (by omega) (by omega) hP hD hS hl
set_option maxHeartbeats 4000000 in
set_option maxRecDepth 100000 in
theorem lq_loop {p : Program} {l : Launch} {e : Env} {s : State} {m : MethodId} {args : Array Value} {below : List Frame} {meth : Method} {c : Code} {H : Heap} {locs : List Loc} {cells slots : Nat} {Q : State → Prop} {ls : Array Slot} {D : va_G} {A : Nat → Prop} {cI cZ cT cU cQ : ClassId} {b L : Nat} {xs : Nat → Int32} {d ds : Nat → Nat} {σ κ : St} {ι : Int → Int} {w4 : Nat} (G : lG p l s m c args A D cI cZ cT cU cQ b L xs) (hin : lLv 0 σ) (hcc : cells ≤ 120) (hss : slots ≤ 1300) (hP : va_P D vwCl ([(w4, aI cI 4 cst)] ++ ((XW cI cZ d σ κ) ++ (SW cI cT cU ds σ ι))) H) (hD : va_D A ([(w4, aI cI 4 cst)] ++ ((XW cI cZ d σ κ) ++ (SW cI cT cU ds σ ι)))) (hS : va_S A s.heap H locs) (hl : lv_has ls 35 [(4, .int (iI (0))), (3, .ref (w4)), (2, .ref (ds 0)), (1, .ref (d 0)), (0, .ref (b))]) (K : ∀ (σ1 κ1 : St) (ι1 : Int → Int) (H : Heap) (locs : List Loc) (cells1 slots1 : Nat) (ls : Array Slot), lLv 28 σ1 → cells1 ≤ 23080 → slots1 ≤ 138500 → va_P D vwCl ([(w4, aI cI 4 cst)] ++ ((XW cI cZ d σ1 κ1) ++ (SW cI cT cU ds σ1 ι1))) H → va_D A ([(w4, aI cI 4 cst)] ++ ((XW cI cZ d σ1 κ1) ++ (SW cI cT cU ds σ1 ι1))) → va_S A s.heap H locs → lv_has ls 35 [(4, .int (iI (28))), (3, .ref (w4)), (2, .ref (ds 0)), (1, .ref (d 0)), (0, .ref (b))] → W p l e room_1 s m args below meth c H locs cells1 slots1 Q (F0 m 1215 ls [])) : W p l e room_1 s m args below meth c H locs cells slots Q (F0 m 44 ls []) := by
  obtain ⟨S, hfl, hK, hA, hTE, hN, hX9, hL⟩ := id G
  have hE := hTE.1
  have S0 := S
  obtain ⟨hx, hb, hml, hown, hts⟩ := S0
  have loop : ∀ (n9 : Nat) (t : Int) (σ9 κ9 : St) (ι9 : Int → Int) (cl9 sl9 : Nat), 0 ≤ t → t ≤ 28 → 28 - t < (n9 : Int) → lLv t σ9 → ((cl9 : Int) ≤ 120 + 820 * t) → ((sl9 : Int) ≤ 1300 + 4900 * t) → ∀ (H : Heap) (locs : List Loc) (ls : Array Slot), va_P D vwCl ([(w4, aI cI 4 cst)] ++ ((XW cI cZ d σ9 κ9) ++ (SW cI cT cU ds σ9 ι9))) H → va_D A ([(w4, aI cI 4 cst)] ++ ((XW cI cZ d σ9 κ9) ++ (SW cI cT cU ds σ9 ι9))) → va_S A s.heap H locs → lv_has ls 35 [(4, .int (iI (t))), (3, .ref (w4)), (2, .ref (ds 0)), (1, .ref (d 0)), (0, .ref (b))] → W p l e room_1 s m args below meth c H locs cl9 sl9 Q (F0 m 44 ls []) := by
    intro n9
    induction n9 with
    | zero =>
      intro t σ9 κ9 ι9 cl9 sl9 h0 h28 hm9
      omega
    | succ n9 ih9 =>
      intro t σ9 κ9 ι9 cl9 sl9 h0 h28 hm9 hin hcl hsl H locs ls hP hD hS hl
      refine lv_iload hx hb dL_law_44 (lv_at hl 0 rfl) ?_
      refine lv_bipush (v := iI (28)) hx hb dL_law_46 rfl ?_
      refine gi_icmp_ge (tgt := 1215) hx hb dL_law_48 (by decide) ⟨by omega, by omega⟩ ⟨by decide, by decide⟩ (fun c9 => ?_) (fun c9 => ?_)
      · have et : t = 28 := by omega
        subst et
        exact K σ9 κ9 ι9 H locs cl9 sl9 ls hin (by omega) (by omega) hP hD hS hl
      · refine lq_round G hin ⟨h0, by omega⟩ (by omega) (by omega) hP hD hS hl (fun σ1 κ1 ι1 H locs cl2 sl2 ls hin hc2 hs2 hP hD hS hl => ?_)
        refine lv_iinc (v := iI (t + 1)) (lv' := [(4, .int (iI (t + 1))), (3, .ref (w4)), (2, .ref (ds 0)), (1, .ref (d 0)), (0, .ref (b))]) hx hb dL_law_1209 hl (k := 0) rfl (iI_add _ _) (by decide) rfl (fun ls hl => ?_)
        refine lv_goto (tgt := 44) hx hb dL_law_1212 (by decide) ?_
        exact ih9 (t + 1) σ1 κ1 ι1 cl2 sl2 (by omega) (by omega) (by omega) hin (by omega) (by omega) H locs ls hP hD hS hl
  exact loop 29 0 σ κ ι cells slots (by omega) (by omega) (by omega) hin (by omega) (by omega) H locs ls hP hD hS hl
