/-! pure words of what the class's calls answer -/
def plA (σ : St) (s : Int) : Int := bI (σ 4 s = -1 ∧ 5 ≤ σ 8 (tw s))
def feA (σ : St) (s : Int) : Int := bI (¬ σ 4 s = -1 ∧ 6 ≤ σ 8 (tw s))
def grA (σ : St) (s so : Int) : Int := bI (¬ σ 4 s = -1 ∧ ¬ σ 4 s = so ∧ 1 ≤ σ 5 s ∧ 4 ≤ σ 8 (tw s))
def prA (σ : St) (s c : Int) : Int := bI (¬ σ 4 s = -1 ∧ c ≤ σ 5 s ∧ 2 ≤ σ 8 (tw s))
def who (a b : Int) : Int := (if a = 0 then 0 else 1) + (if b = 0 then 0 else 2)
theorem bIr {P : Prop} [Decidable P] : -2147483648 ≤ bI P ∧ bI P ≤ 2147483647 := bI_R P
theorem plA_r (σ : St) (s : Int) : -2147483648 ≤ plA σ s ∧ plA σ s ≤ 2147483647 := bI_R _
theorem feA_r (σ : St) (s : Int) : -2147483648 ≤ feA σ s ∧ feA σ s ≤ 2147483647 := bI_R _
theorem grA_r (σ : St) (s so : Int) : -2147483648 ≤ grA σ s so ∧ grA σ s so ≤ 2147483647 := bI_R _
theorem prA_r (σ : St) (s c : Int) : -2147483648 ≤ prA σ s c ∧ prA σ s c ≤ 2147483647 := bI_R _
theorem xWF_plant {σ : St} (h : xWF σ) {s so v : Int} (hs : 0 ≤ so ∧ so ≤ 5) (hv : 1 ≤ v ∧ v ≤ 9) : xWF (xPlant σ s so v) := by
  unfold xPlant
  split
  · rename_i g
    exact xWF_s7 (xWF_s6 (xWF_s5 (xWF_s4 (xWF_sp h (by decide) g.2) (by omega)) (by decide)) (by omega)) (by decide)
  · exact h
theorem xWF_prune {σ : St} (h : xWF σ) {s c : Int} (hc : 1 ≤ c) : xWF (xPrune σ s c) := by
  unfold xPrune
  split
  · rename_i g
    have k5 := xWF_5 h s
    exact xWF_s7 (xWF_s5 (xWF_sp h (by decide) g.2.2) (by omega)) (by decide)
  · exact h
theorem xWF_graft {σ : St} (h : xWF σ) {s so : Int} (hs : 0 ≤ so ∧ so ≤ 5) : xWF (xGraft σ s so) := by
  unfold xGraft
  split
  · rename_i g
    have k5 := xWF_5 h s
    exact xWF_s5 (xWF_s4 (xWF_sp h (by decide) g.2.2.2) (by omega)) (by omega)
  · exact h
theorem xWF_fell {σ : St} (h : xWF σ) {s : Int} : xWF (xFell σ s) := by
  unfold xFell
  split
  · rename_i g
    exact xWF_s7 (xWF_s6 (xWF_s5 (xWF_s4 (xWF_sp h (by decide) g.2) (by decide)) (by decide)) (by decide)) (by decide)
  · exact h
-- what is thrown: 0 nothing, else the number of the exception that comes first
def tSetSort (a w b : Int) : Int := if ¬ (0 ≤ a ∧ a ≤ 5) then 1 else if ¬ ((1 ≤ w ∧ w ≤ 9) ∧ 0 ≤ b ∧ b ≤ 9) then 2 else 0
def tSetFrost (a b : Int) : Int := if ¬ (0 ≤ a ∧ a ≤ 9) then 1 else if ¬ (0 ≤ b ∧ b ≤ 9) then 2 else 0
def tPlant (r p so v : Int) : Int := if ¬ ((0 ≤ r ∧ r ≤ 4) ∧ 0 ≤ p ∧ p ≤ 7) then 1 else if ¬ ((0 ≤ so ∧ so ≤ 5) ∧ 1 ≤ v ∧ v ≤ 9) then 2 else 0
def tPrune (r p c : Int) : Int := if ¬ ((0 ≤ r ∧ r ≤ 4) ∧ 0 ≤ p ∧ p ≤ 7) then 1 else if ¬ (1 ≤ c ∧ c ≤ 9) then 2 else 0
def tGraft (r p so : Int) : Int := if ¬ ((0 ≤ r ∧ r ≤ 4) ∧ 0 ≤ p ∧ p ≤ 7) then 1 else if ¬ (0 ≤ so ∧ so ≤ 5) then 2 else 0
def tFell (r p : Int) : Int := if ¬ ((0 ≤ r ∧ r ≤ 4) ∧ 0 ≤ p ∧ p ≤ 7) then 1 else 0
def tTree (r p w : Int) : Int := if ¬ (((0 ≤ r ∧ r ≤ 4) ∧ 0 ≤ p ∧ p ≤ 7) ∧ 0 ≤ w ∧ w ≤ 5) then 1 else 0
def tSort (a w : Int) : Int := if ¬ ((0 ≤ a ∧ a ≤ 5) ∧ 0 ≤ w ∧ w ≤ 3) then 1 else 0
def tCount (w : Int) : Int := if ¬ (0 ≤ w ∧ w ≤ 7) then 1 else 0
def tLeans (r : Int) : Int := if ¬ (0 ≤ r ∧ r ≤ 4) then 1 else 0
def tCarry (σ : St) (a x y : Int) : Int := if ¬ (0 ≤ a ∧ a ≤ 5) then 1 else if ¬ ((0 ≤ x ∧ x ≤ 200) ∧ (0 ≤ y ∧ y ≤ 200) ∧ ¬ x + y = 0) then 2 else if ¬ (x + y ≤ σ 2 a) then 3 else 0
def tPass (y : Int) : Int := if ¬ (1 ≤ y ∧ y ≤ 30) then 1 else 0
def tForesee (y w : Int) : Int := if ¬ (1 ≤ y ∧ y ≤ 30) then 1 else if ¬ (0 ≤ w ∧ w ≤ 2) then 2 else 0
def tAdvise (y : Int) : Int := if ¬ (1 ≤ y ∧ y ≤ 6) then 1 else 0
def xSetSort (σ : St) (a w b : Int) : St := su (su σ 0 a w) 1 a b
def xTree (σ : St) (s w : Int) : Int := if w = 0 then bI (¬ σ 4 s = -1) else if w = 1 then σ 5 s else if w = 2 then σ 6 s else if w = 3 then σ 4 s else if w = 4 then bI (¬ σ 7 s = 0) else apx σ s
def xSort (σ : St) (a w : Int) : Int := if w = 0 then σ 0 a else if w = 1 then σ 1 a else if w = 2 then σ 2 a else isumI (fun j => bI (σ 4 j = a)) 40
def xCount (σ : St) (w : Int) : Int := if w = 0 then σ 9 0 else if w = 1 then σ 8 0 else if w = 2 then σ 8 1 else if w = 3 then isumI (fun j => bI (¬ σ 4 j = -1)) 40 else if w = 4 then isumI (fun j => bI (¬ σ 7 j = 0)) 40 else if w = 5 then isumI (σ 2) 6 else if w = 6 then isumI (fun j => σ 2 j * σ 0 j) 6 else isumI (fun r => isumI (fun q => upr σ r q) 4) 5
def xLeans (σ : St) (r : Int) : Int := isumI (fun q => apx σ (r * 8 + q) - apx σ (mir (r * 8 + q))) 4
def xCarry (σ : St) (a x y : Int) : St := su (su σ 2 a (σ 2 a - (x + y))) 9 1 (σ 9 1 + (x - y) * σ 0 a)
section TS
variable {p : Program} {l : Launch} {e : Env} {R : Room} {s : State} {m : MethodId} {args : Array Value} {below : List Frame} {meth : Method} {c : Code} {H : Heap} {locs : List Loc} {cells slots : Nat} {Q : State → Prop}
variable {cc : ByteArray} {pc : Nat} {ls : Array Slot} {rest : List Value}
theorem gi_tableIn (hx : p.tables.exec = Jvm.exec) (hb : c.code = cc) {dflt lo hi : Int} {offs : Array Int} {len : Nat} {z off : Int} {tgt : Nat} (hdg : decode cc pc = .ok (.tableswitch dflt lo hi offs, len)) (rz : inR z) (k : Int) (hz : z = k) (h1 : lo ≤ k) (h2 : k ≤ hi) (ho : offs[(k - lo).toNat]? = some off) (ht : (pc : Int) + off = (tgt : Int))
    (kk : W p l e R s m args below meth c H locs cells slots Q (F0 m tgt ls rest)) : W p l e R s m args below meth c H locs cells slots Q (F0 m pc ls (.int (iI z) :: rest)) := by
  have h3 : (iI z).toInt = k := by rw [iI_toInt rz.1 rz.2, hz]
  exact lv_tableIn hx hb hdg (by rw [h3]; omega) (by rw [h3]; omega) (by rw [h3]; exact ho) ht kk
theorem gi_tableOut (hx : p.tables.exec = Jvm.exec) (hb : c.code = cc) {dflt lo hi : Int} {offs : Array Int} {len : Nat} {z : Int} {tgt : Nat} (hdg : decode cc pc = .ok (.tableswitch dflt lo hi offs, len)) (rz : inR z) (hz : z < lo ∨ hi < z) (ht : (pc : Int) + dflt = (tgt : Int))
    (kk : W p l e R s m args below meth c H locs cells slots Q (F0 m tgt ls rest)) : W p l e R s m args below meth c H locs cells slots Q (F0 m pc ls (.int (iI z) :: rest)) :=
  lv_tableOut hx hb hdg (by rw [iI_toInt rz.1 rz.2]; exact hz) ht kk
end TS
