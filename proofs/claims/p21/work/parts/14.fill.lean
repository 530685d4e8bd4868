/-! Arrays.fill; the words of balance, pass, foresee, advise -/
theorem g_one {D : va_G} {cl : List vw_C} {q : Nat × va_E} {H : Heap} (h : va_at D cl q H) : va_P D cl [q] H := by
  intro k x hk
  cases k with
  | zero => cases hk; exact h
  | succ k => simp at hk
set_option maxHeartbeats 4000000 in
set_option maxRecDepth 100000 in
theorem kJ7_fill_53178 (l : Launch) (D : va_G) (cI : ClassId) (a n : Nat) (f : Int → Int) (v : Int) (hn : n ≤ 100000) : gMet l yJ7_fill_53178 wsJ7_fill_53178 ({ frames := 0, cells := 0, slots := 0, locals := 0 } : Room) D [(cI, .int)] [(a, aI cI n f)] [.ref a, .int (iI v)] (fun _ => True) (fun _ => none) (fun _ => True) (fun _ => [(a, aI cI n (fun _ => v))]) := by
  refine g_start (cc := cJ7_fill_53178) (maxL := 4) (ret := none) (by decide) rfl (Nat.le_of_ble_eq_true rfl) ?_
  intro p e s m args below meth c A ls H locs S hr hlocks hname hP hK hD hA hS hE hl
  have S0 := S
  obtain ⟨hx, hb, hml, hown, hts⟩ := S0
  have hl : lv_has ls 4 [(0, .ref a), (1, .int (iI v))] := hl
  refine lv_iconst (v := iI 0) hx hb dJ7_fill_53178_0 rfl ?_
  refine lv_istore_n (lv' := [(2, .int (iI 0)), (0, .ref a), (1, .int (iI v))]) hx hb dJ7_fill_53178_1 rfl hl (by decide) rfl (fun ls hl => ?_)
  refine lv_aload_n hx hb dJ7_fill_53178_2 rfl (lv_at hl 1 rfl) ?_
  refine va_alen (a := a) (cA := cI) (x := (n, .inl (fun j : Nat => iI (f (j : Int))))) hx hb hK hP 0 0 rfl rfl (iI_ofNat n) dJ7_fill_53178_3 ?_
  refine lv_istore_n (lv' := [(3, .int (iI (n : Int))), (2, .int (iI 0)), (0, .ref a), (1, .int (iI v))]) hx hb dJ7_fill_53178_4 rfl hl (by decide) rfl (fun ls hl => ?_)
  have loop : ∀ (k : Nat) (i : Int) (g : Int → Int), 0 ≤ i → i ≤ (n : Int) → (n : Int) - i < (k : Int) → (∀ j : Int, 0 ≤ j → j < i → g j = v) → ∀ (H : Heap) (locs : List Loc) (ls : Array Slot), va_P D vwCl [(a, aI cI n g)] H → va_D A [(a, aI cI n g)] → va_S A s.heap H locs → lv_has ls 4 [(2, .int (iI i)), (3, .int (iI (n : Int))), (0, .ref a), (1, .int (iI v))] → W p l e ({ frames := 0, cells := 0, slots := 0, locals := 0 } : Room) s m args below meth c H locs 0 0 (MQ below (gQ D [(cI, .int)] (fun _ => [(a, aI cI n (fun _ => v))]) A (fun _ => none) (fun _ => True)) args s 0 0 A) (F0 m 5 ls []) := by
    intro k
    induction k with
    | zero =>
      intro i g h1 h2 h3
      omega
    | succ k ih =>
      intro i g h1 h2 h3 h4 H locs ls hP hD hS hl
      refine lv_iload_n hx hb dJ7_fill_53178_5 rfl (lv_at hl 0 rfl) ?_
      refine lv_iload_n hx hb dJ7_fill_53178_6 rfl (lv_at hl 1 rfl) ?_
      refine gi_icmp_ge (tgt := 20) hx hb dJ7_fill_53178_7 (by decide) ⟨by omega, by omega⟩ ⟨by omega, by omega⟩ (fun c7 => ?_) (fun c7 => ?_)
      · have hi : i = n := by omega
        have hP1 : va_P D vwCl [(a, aI cI n (fun _ => v))] H := g_one (aI_congr cI (fun j g1 g2 => h4 j g1 (by omega)) D vwCl a H (hP 0 _ rfl))
        have hD1 : va_D A [(a, aI cI n (fun _ => v))] := hD.set (p := 0) (e := aI cI n (fun _ => v)) rfl
        exact g_vret (wo := (fun _ => [(a, aI cI n (fun _ => v))])) (kr := (fun _ => True)) (rv := (fun _ => none)) hx hb hr hlocks (fun _ _ => 0) hP1 hK hD1 hS trivial rfl (Nat.le_of_ble_eq_true rfl) (Nat.le_of_ble_eq_true rfl) dJ7_fill_53178_20
      · refine lv_aload_n hx hb dJ7_fill_53178_10 rfl (lv_at hl 2 rfl) ?_
        refine lv_iload_n hx hb dJ7_fill_53178_11 rfl (lv_at hl 0 rfl) ?_
        refine lv_iload_n hx hb dJ7_fill_53178_12 rfl (lv_at hl 3 rfl) ?_
        refine gi_iast (a := a) (n := n) (f := g) hx hb hK hP hD hS 0 0 rfl rfl h1 (by omega) (by omega) dJ7_fill_53178_13 (fun H locs hP hD hS => ?_)
        refine lv_iinc (v := iI (i + 1)) (lv' := [(2, .int (iI (i + 1))), (3, .int (iI (n : Int))), (0, .ref a), (1, .int (iI v))]) hx hb dJ7_fill_53178_14 hl (k := 0) rfl (iI_add _ _) (by decide) rfl (fun ls hl => ?_)
        refine lv_goto (tgt := 5) hx hb dJ7_fill_53178_17 (by decide) ?_
        refine ih (i + 1) (fu g i v) (by omega) (by omega) (by omega) (fun j g1 g2 => ?_) H locs ls hP hD hS hl
        unfold fu
        split
        · rfl
        · exact h4 j g1 (by omega)
  exact loop (n + 1) 0 f (by omega) (by omega) (by omega) (fun j g1 g2 => by omega) H locs ls hP hD hS (lv_sub hl [1, 0, 2, 3] rfl)
def sr (σ : St) (i : Nat) (f : Int → Int) : St := fun a => if a = i then f else σ a
theorem xWF_r8 {σ : St} (h : xWF σ) {v : Int} (hv : 0 ≤ v ∧ v ≤ 20) : xWF (sr σ 8 (fun _ => v)) := ⟨xWF_0 (σ := σ) h, xWF_1 (σ := σ) h, xWF_2 (σ := σ) h, xWF_3 (σ := σ) h, xWF_4 (σ := σ) h, xWF_5 (σ := σ) h, xWF_6 (σ := σ) h, xWF_7 (σ := σ) h, fun _ => hv, xWF_9 (σ := σ) h⟩
theorem xWF_s9 {σ : St} (h : xWF σ) {v : Int} (hv : 0 ≤ v ∧ v ≤ 100000000) : xWF (su σ 9 0 v) := ⟨xWF_0 (σ := σ) h, xWF_1 (σ := σ) h, xWF_2 (σ := σ) h, xWF_3 (σ := σ) h, xWF_4 (σ := σ) h, xWF_5 (σ := σ) h, xWF_6 (σ := σ) h, xWF_7 (σ := σ) h, xWF_8 (σ := σ) h, hv⟩
theorem xWF_s91 {σ : St} (h : xWF σ) {v : Int} : xWF (su σ 9 1 v) := ⟨xWF_0 (σ := σ) h, xWF_1 (σ := σ) h, xWF_2 (σ := σ) h, xWF_3 (σ := σ) h, xWF_4 (σ := σ) h, xWF_5 (σ := σ) h, xWF_6 (σ := σ) h, xWF_7 (σ := σ) h, xWF_8 (σ := σ) h, xWF_9 (σ := σ) h⟩
-- balance
theorem bal_in {σ : St} (s : Int) : 0 ≤ bal σ s ∧ bal σ s ≤ 20 := by
  unfold bal
  omega
def rwS (w n : Int) (f : Int → Int) (i : Int) : Int → Int := if ¬ f i = -1 then fu f i 0 else if w ≤ i ∧ ¬ f (i - w) = -1 ∧ f (i - w) < n then fu f i (f (i - w) + 1) else f
def rwF (w n : Int) (f : Int → Int) : Nat → Int → Int
  | 0 => f
  | k + 1 => rwS w n (rwF w n f k) k
def rwFI (w n : Int) (f : Int → Int) (i : Int) : Int → Int := rwF w n f i.toNat
theorem rwFI_s (w n : Int) (f : Int → Int) {i : Int} (h : 0 ≤ i) : rwFI w n f (i + 1) = rwS w n (rwFI w n f i) i := by
  unfold rwFI
  rw [show (i + 1).toNat = i.toNat + 1 by omega]
  show rwS w n (rwF w n f i.toNat) (i.toNat : Int) = _
  rw [show ((i.toNat : Nat) : Int) = i by omega]
def hvF (σ : St) : Nat → Int → Int
  | 0 => fu (fun _ => -1) 0 0
  | k + 1 => rwFI (σ 0 k) (bal σ k) (hvF σ k) 541
def hvFI (σ : St) (i : Int) : Int → Int := hvF σ i.toNat
theorem hvFI_s (σ : St) {i : Int} (h : 0 ≤ i) : hvFI σ (i + 1) = rwFI (σ 0 i) (bal σ i) (hvFI σ i) 541 := by
  unfold hvFI
  rw [show (i + 1).toNat = i.toNat + 1 by omega]
  show rwFI (σ 0 (i.toNat : Int)) (bal σ (i.toNat : Int)) (hvF σ i.toNat) 541 = _
  rw [show ((i.toNat : Nat) : Int) = i by omega]
def hvy (F : Int → Int) : Nat → Int
  | 0 => 0
  | n + 1 => if F (n + 1) = -1 then hvy F n else n + 1
def hvyI (F : Int → Int) (h : Int) : Int := hvy F h.toNat
theorem hvyI_0 (F : Int → Int) {h : Int} (h0 : h ≤ 0) (h1 : 0 ≤ h) : hvyI F h = h := by
  unfold hvyI
  rw [show h.toNat = 0 by omega]
  show (0 : Int) = h
  omega
theorem hvyI_n (F : Int → Int) {h : Int} (h0 : 0 < h) (hF : F h = -1) : hvyI F h = hvyI F (h + (-1)) := by
  unfold hvyI
  rw [show h.toNat = (h + (-1)).toNat + 1 by omega]
  show (if F (((h + (-1)).toNat : Nat) + 1) = -1 then _ else _) = _
  rw [show (((h + (-1)).toNat : Nat) : Int) + 1 = h by omega, if_pos hF]
theorem hvyI_y (F : Int → Int) {h : Int} (h0 : 0 < h) (hF : ¬ F h = -1) : hvyI F h = h := by
  unfold hvyI
  rw [show h.toNat = (h + (-1)).toNat + 1 by omega]
  show (if F (((h + (-1)).toNat : Nat) + 1) = -1 then _ else (((h + (-1)).toNat : Nat) : Int) + 1) = _
  rw [show (((h + (-1)).toNat : Nat) : Int) + 1 = h by omega, if_neg hF]
def xBalT (σ : St) : Int := isumI (fun s => bal σ s * σ 0 s) 6
def xBal (σ : St) : Int := xBalT σ - 2 * hvyI (hvFI σ 6) (min (xBalT σ / 2) 540)
-- pass
def xPs (σ : St) (y : Int) : Nat → St × Int
  | 0 => (σ, 0)
  | n + 1 => if (xPs σ y n).1 4 n = -1 then xPs σ y n else (xPassA (xPs σ y n).1 n y, (xPs σ y n).2 + lvS (xPs σ y n).1 ((xPs σ y n).1 6 n) (lkh (xPs σ y n).1 n) ((xPs σ y n).1 5 n) ((xPs σ y n).1 7 n) y)
theorem xPs_s (σ : St) (y : Int) {i : Int} (h : 0 ≤ i) : xPs σ y (i + 1).toNat = if (xPs σ y i.toNat).1 4 i = -1 then xPs σ y i.toNat else (xPassA (xPs σ y i.toNat).1 i y, (xPs σ y i.toNat).2 + lvS (xPs σ y i.toNat).1 ((xPs σ y i.toNat).1 6 i) (lkh (xPs σ y i.toNat).1 i) ((xPs σ y i.toNat).1 5 i) ((xPs σ y i.toNat).1 7 i) y) := by
  rw [show (i + 1).toNat = i.toNat + 1 by omega]
  simp only [xPs]
  rw [show ((i.toNat : Nat) : Int) = i by omega]
def xPass (σ : St) (y : Int) : St := sr (su (xPs σ y 40).1 9 0 ((xPs σ y 40).1 9 0 + y)) 8 (fun _ => 20)
theorem xWF_passA {σ : St} (h : xWF σ) {s y : Int} (hy : 0 ≤ y ∧ y ≤ 30) (hb : σ 2 (σ 4 s) ≤ 99000000) : xWF (xPassA σ s y) := by
  have k := lvS_in σ (lkh σ s) (σ 7 s) (xWF_6 h s) (xWF_5 h s) hy.1
  have k2 := xWF_2 h (σ 4 s)
  exact xWF_s2 (xWF_s7 (xWF_s5 h (lvB_in σ _ _ _ (xWF_5 h s))) (lvT_in σ _ _ _ _ (xWF_7 h s))) (by omega)
-- foresee
def fsA (σ : St) (y j : Int) : Int := if σ 4 j = -1 then 0 else lvS σ (σ 6 j) (lkh σ j) (σ 5 j) (σ 7 j) y
def fsB (σ : St) (y j : Int) : Int := if σ 4 j = -1 then 0 else lvB σ (σ 6 j) (lkh σ j) (σ 5 j) (σ 7 j) y
def fsT (σ : St) (y j : Int) : Int := if σ 4 j = -1 then 0 else bI (¬ lvT σ (σ 6 j) (lkh σ j) (σ 5 j) (σ 7 j) y = 0)
def xFore (σ : St) (y w : Int) : Int := if w = 0 then isumI (fsA σ y) 40 else if w = 1 then isumI (fsB σ y) 40 else isumI (fsT σ y) 40
-- advise
theorem gnP_in {σ : St} (h : xWF σ) (s : Int) {c y : Int} (hc : 1 ≤ c) (hy : 0 ≤ y ∧ y ≤ 30) : -2430 ≤ gnP σ s c y ∧ gnP σ s c y ≤ 2430 := by
  unfold gnP
  split
  · rename_i g
    have k5 := xWF_5 h s
    have k1 := lvS_in σ (lkh σ s) (σ 7 s) (xWF_6 h s) k5 hy.1
    have k2 := lvS_in σ (lkh σ s) 0 (b := σ 5 s - c) (xWF_6 h s) (by omega) hy.1
    omega
  · omega
def advS (σ : St) (y i c : Int) (q : Int × Int) : Int × Int := if q.2 < gnP σ i c y + gnP σ (mir i) c y then (100 * (i / 8) + 10 * (i % 8) + c, gnP σ i c y + gnP σ (mir i) c y) else q
def advC (σ : St) (y i : Int) (q : Int × Int) : Nat → Int × Int
  | 0 => q
  | n + 1 => advS σ y i (n + 1) (advC σ y i q n)
def advO (σ : St) (y : Int) : Nat → Int × Int
  | 0 => (-1, 0)
  | n + 1 => advC σ y n (advO σ y n) 9
theorem advC_s (σ : St) (y i : Int) (q : Int × Int) {c : Int} (h : 1 ≤ c) : advC σ y i q (c + 1 - 1).toNat = advS σ y i c (advC σ y i q (c - 1).toNat) := by
  rw [show (c + 1 - 1).toNat = (c - 1).toNat + 1 by omega]
  show advS σ y i (((c - 1).toNat : Nat) + 1) _ = _
  rw [show (((c - 1).toNat : Nat) : Int) + 1 = c by omega]
theorem advO_s (σ : St) (y : Int) {i : Int} (h : 0 ≤ i) : advO σ y (i + 1).toNat = advC σ y i (advO σ y i.toNat) 9 := by
  rw [show (i + 1).toNat = i.toNat + 1 by omega]
  show advC σ y (i.toNat : Int) _ 9 = _
  rw [show ((i.toNat : Nat) : Int) = i by omega]
