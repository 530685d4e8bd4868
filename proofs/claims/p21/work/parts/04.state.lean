/-! what a state of the class is: σ (0 weights, 1 hardiness, 2 barn, 3 frosts, 4 kinds, 5 branches, 6 vigours, 7 tired, 8 strength, 9 year and what was carried), κ (0 the tree looked at, 1 fewest) -/
def bI (P : Prop) [Decidable P] : Int := if P then 1 else 0
theorem bI_t {P : Prop} [Decidable P] (h : P) : bI P = 1 := if_pos h
theorem bI_f {P : Prop} [Decidable P] (h : ¬ P) : bI P = 0 := if_neg h
theorem bI01 (P : Prop) [Decidable P] : bI P = 0 ∨ bI P = 1 := by
  by_cases h : P
  · exact Or.inr (bI_t h)
  · exact Or.inl (bI_f h)
theorem bI_1 {P : Prop} [Decidable P] (h : bI P = 1) : P := by
  by_cases g : P
  · exact g
  · rw [bI_f g] at h; exact absurd h (by decide)
theorem bI_0 {P : Prop} [Decidable P] (h : bI P = 0) : ¬ P := by
  intro g
  rw [bI_t g] at h; exact absurd h (by decide)
theorem bI_R (P : Prop) [Decidable P] : inR (bI P) := by
  rcases bI01 P with h | h <;> rw [h] <;> exact ⟨by decide, by decide⟩
def isum (f : Int → Int) : Nat → Int
  | 0 => 0
  | n + 1 => isum f n + f n
def isumI (f : Int → Int) (i : Int) : Int := isum f i.toNat
theorem isumI_0 (f : Int → Int) : isumI f 0 = 0 := rfl
theorem isumI_s (f : Int → Int) {i : Int} (h : 0 ≤ i) : isumI f (i + 1) = isumI f i + f i := by
  unfold isumI
  have h1 : (i + 1).toNat = i.toNat + 1 := by omega
  rw [h1]
  show isum f i.toNat + f (i.toNat : Int) = _
  rw [show ((i.toNat : Nat) : Int) = i by omega]
def XO (d : Nat → Nat) (σ : St) : List Value := [.ref (d 1), .ref (d 2), .ref (d 3), .ref (d 4), .ref (d 5), .ref (d 6), .ref (d 7), .ref (d 8), .ref (d 9), .int (iI (σ 9 0)), .int (iI (σ 9 1)), .ref (d 10), .ref (d 11)]
def aI (cI : ClassId) (n : Nat) (f : Int → Int) : va_E := .inl (cI, (n, .inl (fun j : Nat => iI (f (j : Int)))))
def XW (cI cZ : ClassId) (d : Nat → Nat) (σ κ : St) : va_W := [(d 0, .inr (1, XO d σ)), (d 1, aI cI 6 (σ 0)), (d 2, aI cI 6 (σ 1)), (d 3, aI cI 6 (σ 2)), (d 4, aI cI 10 (σ 3)), (d 5, aI cI 40 (σ 4)), (d 6, aI cI 40 (σ 5)), (d 7, aI cI 40 (σ 6)), (d 8, aI cZ 40 (σ 7)), (d 9, aI cI 2 (σ 8)), (d 10, .inr (0, [.int (iI (κ 0 0)), .int (iI (κ 0 1)), .int (iI (κ 0 2)), .int (iI (κ 0 3))])), (d 11, aI cI 541 (κ 1))]
abbrev tyXs (cI cZ : ClassId) : List (ClassId × FieldType) := [(cI, .int), (cZ, .boolean)]
/-- the reference: 0 weights, 1 bears, 2 frosts, 3 trees, 4 barn, 5 numbers, 6 thrown and tilt -/
def MO (d : Nat → Nat) (μ : St) : List Value := [.int (iI (μ 6 0)), .ref (d 1), .ref (d 2), .ref (d 3), .ref (d 4), .ref (d 5), .ref (d 6), .int (iI (μ 6 1))]
def MW (cI : ClassId) (d : Nat → Nat) (μ : St) : va_W := [(d 0, .inr (2, MO d μ)), (d 1, aI cI 6 (μ 0)), (d 2, aI cI 6 (μ 1)), (d 3, aI cI 10 (μ 2)), (d 4, aI cI 200 (μ 3)), (d 5, aI cI 6 (μ 4)), (d 6, aI cI 3 (μ 5))]
/-- what the tables say of the private members of the nest mate -/
def xNest : List Cond := [.methodLinkNest "TwinOrchard" 47 yX0_init "TwinOrchard", .methodLinkNest "TwinOrchard" 215 yX0_shorten "TwinOrchard", .methodLinkNest "TwinOrchard" 237 yX0_apples "TwinOrchard", .methodLinkNest "TwinOrchard" 243 yX0_liveYear "TwinOrchard", .fieldLinkNest "TwinOrchard" 177 "TwinOrchard$Tree" "branches" "I" "TwinOrchard", .fieldLinkNest "TwinOrchard" 179 "TwinOrchard$Tree" "tired" "Z" "TwinOrchard", .fieldLinkNest "TwinOrchard" 232 "TwinOrchard$Tree" "vigour" "I" "TwinOrchard", .fieldLinkNest "TwinOrchard" 235 "TwinOrchard$Tree" "hardiness" "I" "TwinOrchard"]
def xEx (U : State) : Prop := ∀ w ∈ xNest, va_Nw w U
theorem xEx_g : gEx xEx := by
  intro a U g mk h w hw
  have h1 := h w hw
  simp only [xNest, List.mem_cons, List.not_mem_nil, or_false] at hw
  rcases hw with rfl | rfl | rfl | rfl | rfl | rfl | rfl | rfl <;> exact va_Nw.same rfl rfl h1
theorem xEx_w {s U : State} (hW : s.WarmedH U.vm) (h : xEx s) : xEx U := by
  intro w hw
  have h1 := h w hw
  simp only [xNest, List.mem_cons, List.not_mem_nil, or_false] at hw
  rcases hw with rfl | rfl | rfl | rfl | rfl | rfl | rfl | rfl
  · exact va_Nw.warmM hW h1
  · exact va_Nw.warmM hW h1
  · exact va_Nw.warmM hW h1
  · exact va_Nw.warmM hW h1
  · exact va_Nw.warmF hW h1
  · exact va_Nw.warmF hW h1
  · exact va_Nw.warmF hW h1
  · exact va_Nw.warmF hW h1
theorem xEx_u {s : State} {args : Array Value} (h : xEx s) (k : Nat) {w : Cond} (hk : xNest[k]? = some w) (hw : w.onTables = true) : w.before args s = true := va_Nw.use hw (h w (List.mem_of_getElem? hk))
section GX
variable {p : Program} {l : Launch} {e : Env} {R : Room} {s : State} {m : MethodId} {args : Array Value} {below : List Frame} {meth : Method} {c : Code} {H : Heap} {locs : List Loc} {cells slots : Nat} {Q : State → Prop}
variable {cc : ByteArray} {pc : Nat} {ls : Array Slot} {rest : List Value}
theorem gb_if_eq (hx : p.tables.exec = Jvm.exec) (hb : c.code = cc) {P : Prop} [Decidable P] {off : Int} {tgt : Nat} (hdg : decode cc pc = .ok (.ifCond .eq off, 3)) (ht : (pc : Int) + off = (tgt : Int))
    (kt : ¬ P → W p l e R s m args below meth c H locs cells slots Q (F0 m tgt ls rest)) (kf : P → W p l e R s m args below meth c H locs cells slots Q (F0 m (pc + 3) ls rest)) : W p l e R s m args below meth c H locs cells slots Q (F0 m pc ls (.int (iI (bI P)) :: rest)) := gi_if_eq hx hb hdg ht (bI_R P) (fun h => kt (bI_0 h)) (fun h => kf (by rcases bI01 P with g | g; exact absurd g h; exact bI_1 g))
theorem gb_if_ne (hx : p.tables.exec = Jvm.exec) (hb : c.code = cc) {P : Prop} [Decidable P] {off : Int} {tgt : Nat} (hdg : decode cc pc = .ok (.ifCond .ne off, 3)) (ht : (pc : Int) + off = (tgt : Int))
    (kt : P → W p l e R s m args below meth c H locs cells slots Q (F0 m tgt ls rest)) (kf : ¬ P → W p l e R s m args below meth c H locs cells slots Q (F0 m (pc + 3) ls rest)) : W p l e R s m args below meth c H locs cells slots Q (F0 m pc ls (.int (iI (bI P)) :: rest)) := gi_if_ne hx hb hdg ht (bI_R P) (fun h => kt (by rcases bI01 P with g | g; exact absurd g h; exact bI_1 g)) (fun h => kf (bI_0 h))
end GX
