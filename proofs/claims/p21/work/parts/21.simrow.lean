/-! rows for the law's own orchard: reading a row of places, a place, planting and felling -/
section SWM
variable {cI cT cU : ClassId} {d : Nat → Nat} {σ : St} {ι : Int → Int}
theorem tw_k {r p r' : Int} {j : Nat} (hp : 0 ≤ p ∧ p < 8) (hj : j < 8) : r' * 8 + (j : Int) = r * 8 + p ↔ r' = r ∧ (j : Int) = p := by omega
theorem trow_up {σ' : St} {ι' : Int → Int} {r p : Int} {x : Option Nat} (hp : 0 ≤ p ∧ p < 8) (hx : tref σ' ι' (r * 8 + p) = x) (ho : ∀ j : Int, j ≠ r * 8 + p → tref σ' ι' j = tref σ ι j) (r' : Int) : trow σ' ι' r' = if r' = r then va_up (trow σ ι r) p.toNat x else trow σ ι r' := by
  funext j
  unfold trow
  by_cases hj : j < 8
  · rw [if_pos hj]
    by_cases e : r' * 8 + (j : Int) = r * 8 + p
    · obtain ⟨e1, e2⟩ := (tw_k hp hj).mp e
      rw [e, hx, if_pos e1]
      have e3 : j = p.toNat := by omega
      rw [e3]
      simp [va_up]
    · rw [ho _ e]
      by_cases e1 : r' = r
      · rw [if_pos e1]
        have e3 : j ≠ p.toNat := by
          intro q
          exact e (by subst e1; omega)
        simp [va_up, e3, hj, e1]
      · rw [if_neg e1]
        simp [hj]
  · rw [if_neg hj]
    by_cases e1 : r' = r
    · rw [if_pos e1]
      have e3 : j ≠ p.toNat := by omega
      simp [va_up, e3, hj]
    · rw [if_neg e1]
      simp [hj]
theorem sb_up {σ' : St} {ι' : Int → Int} {r p : Int} {x : Option Nat} (hr : 0 ≤ r ∧ r < 5) (hp : 0 ≤ p ∧ p < 8) (hx : tref σ' ι' (r * 8 + p) = x) (ho : ∀ j : Int, j ≠ r * 8 + p → tref σ' ι' j = tref σ ι j) (hb : SO d σ' = SO d σ ∧ σ' 0 = σ 0 ∧ σ' 1 = σ 1 ∧ σ' 3 = σ 3 ∧ σ' 2 = σ 2 ∧ σ' 8 = σ 8) : (SW cI cT cU d σ ι).set (r.toNat + 7) (d (r.toNat + 7), rQ cT 8 (va_up (trow σ ι r) p.toNat x)) = SB cI cT cU d σ' ι' ++ ST σ ι 40 := by
  obtain ⟨b0, b1, b2, b3, b4, b5⟩ := hb
  have h := trow_up (σ := σ) (ι := ι) hp hx ho
  unfold SB
  rw [h 0, h 1, h 2, h 3, h 4, b0, b1, b2, b3, b4, b5]
  rcases (show r = 0 ∨ r = 1 ∨ r = 2 ∨ r = 3 ∨ r = 4 by omega) with rfl | rfl | rfl | rfl | rfl <;> rfl
theorem ST_fell {σ' : St} {k : Int} (hk : σ' 4 k = -1) (ho : ∀ j : Int, j ≠ k → σ' 4 j = σ 4 j ∧ tfs σ' j = tfs σ j) : ∀ n : Nat, (ST σ' ι n).Sublist (ST σ ι n)
  | 0 => List.Sublist.refl _
  | n + 1 => by
    refine (ST_fell hk ho n).append ?_
    by_cases e : (n : Int) = k
    · rw [e, if_pos hk]
      exact List.nil_sublist _
    · rw [(ho _ e).1, (ho _ e).2]
      exact List.Sublist.refl _
theorem ST_plant {σ' : St} {ι' : Int → Int} {k : Nat} (h : σ 4 (k : Int) = -1) (h' : ¬ σ' 4 (k : Int) = -1) (ho : ∀ j : Int, j ≠ (k : Int) → σ' 4 j = σ 4 j ∧ tfs σ' j = tfs σ j ∧ ι' j = ι j) : ∀ n : Nat, k < n → (ST σ' ι' n).Perm (((ι' (k : Int)).toNat, .inr (3, tfs σ' (k : Int))) :: ST σ ι n)
  | 0, hk => absurd hk (Nat.not_lt_zero _)
  | n + 1, hk => by
    show (ST σ' ι' n ++ _).Perm (_ :: (ST σ ι n ++ _))
    by_cases e : k = n
    · subst e
      rw [if_neg h', if_pos h, List.append_nil, ST_congr (σ := σ) (σ' := σ') (ι := ι) (ι' := ι') k (fun j hj => by
        obtain ⟨a1, a2, a3⟩ := ho (j : Int) (by omega)
        exact ⟨a1, a2, fun _ => a3⟩)]
      exact List.perm_append_singleton _ _
    · obtain ⟨a1, a2, a3⟩ := ho (n : Int) (by omega)
      rw [a1, a2, a3]
      exact (ST_plant h h' ho n (by omega)).append_right _
def felS (σ : St) (k : Int) : St := su (su (su (su σ 4 k (-1)) 5 k 0) 6 k 0) 7 k 0
def plaS (σ : St) (k so v : Int) : St := su (su (su (su σ 4 k so) 5 k 1) 6 k v) 7 k 0
theorem felS_o (k : Int) {j : Int} (h : j ≠ k) : felS σ k 4 j = σ 4 j ∧ tfs (felS σ k) j = tfs σ j := by
  refine ⟨fu_n _ _ h, ?_⟩
  show [Value.int (iI (fu (σ 5) k 0 j)), Value.int (iI (fu (σ 6) k 0 j)), Value.int (iI (fu (σ 4) k (-1) j)), Value.int (iI (fu (σ 7) k 0 j))] = _
  rw [fu_n _ _ h, fu_n _ _ h, fu_n _ _ h, fu_n _ _ h]
  rfl
theorem plaS_o (k so v : Int) {j : Int} (h : j ≠ k) : plaS σ k so v 4 j = σ 4 j ∧ tfs (plaS σ k so v) j = tfs σ j := by
  refine ⟨fu_n _ _ h, ?_⟩
  show [Value.int (iI (fu (σ 5) k 1 j)), Value.int (iI (fu (σ 6) k v j)), Value.int (iI (fu (σ 4) k so j)), Value.int (iI (fu (σ 7) k 0 j))] = _
  rw [fu_n _ _ h, fu_n _ _ h, fu_n _ _ h, fu_n _ _ h]
  rfl
theorem felS_4 (k : Int) : felS σ k 4 k = -1 := fu_s _ _ _
theorem plaS_4 (k so v : Int) : plaS σ k so v 4 k = so := fu_s _ _ _
theorem plaS_t (k so v : Int) : tfs (plaS σ k so v) k = [.int (iI 1), .int (iI v), .int (iI so), .int (iI 0)] := by
  show [Value.int (iI (fu (σ 5) k 1 k)), Value.int (iI (fu (σ 6) k v k)), Value.int (iI (fu (σ 4) k so k)), Value.int (iI (fu (σ 7) k 0 k))] = _
  rw [fu_s, fu_s, fu_s, fu_s]
theorem sw_fell {D : va_G} {cl : List vw_C} {H : Heap} {A : Nat → Prop} {r p : Int} (hr : 0 ≤ r ∧ r < 5) (hp : 0 ≤ p ∧ p < 8) (hP : va_P D cl ((SW cI cT cU d σ ι).set (r.toNat + 7) (d (r.toNat + 7), rQ cT 8 (va_up (trow σ ι r) p.toNat none))) H) (hD : va_D A ((SW cI cT cU d σ ι).set (r.toNat + 7) (d (r.toNat + 7), rQ cT 8 (va_up (trow σ ι r) p.toNat none)))) : va_P D cl (SW cI cT cU d (felS σ (r * 8 + p)) ι) H ∧ va_D A (SW cI cT cU d (felS σ (r * 8 + p)) ι) := by
  have e := sb_up (cI := cI) (cT := cT) (cU := cU) (d := d) (σ := σ) (ι := ι) (σ' := felS σ (r * 8 + p)) (ι' := ι) (x := none) hr hp (if_pos (felS_4 _)) (fun j hj => by unfold tref; rw [(felS_o _ hj).1]) ⟨rfl, rfl, rfl, rfl, rfl, rfl⟩
  have hs : (SW cI cT cU d (felS σ (r * 8 + p)) ι).Sublist (SB cI cT cU d (felS σ (r * 8 + p)) ι ++ ST σ ι 40) := (List.Sublist.refl _).append (ST_fell (felS_4 _) (fun j hj => felS_o _ hj) 40)
  exact ⟨va_mem (va_Pe e hP) (fun q hq => List.Sublist.mem hq hs), va_Ds (va_De e hD) hs⟩
theorem sw_plant {D : va_G} {cl : List vw_C} {H : Heap} {A : Nat → Prop} {r p so v : Int} {q : Nat} (hr : 0 ≤ r ∧ r < 5) (hp : 0 ≤ p ∧ p < 8) (h4 : σ 4 (r * 8 + p) = -1) (hso : ¬ so = -1) (hP : va_P D cl ((q, .inr (3, [.int (iI 1), .int (iI v), .int (iI so), .int (iI 0)])) :: (SW cI cT cU d σ ι).set (r.toNat + 7) (d (r.toNat + 7), rQ cT 8 (va_up (trow σ ι r) p.toNat (some q)))) H) (hD : va_D A ((q, .inr (3, [.int (iI 1), .int (iI v), .int (iI so), .int (iI 0)])) :: (SW cI cT cU d σ ι).set (r.toNat + 7) (d (r.toNat + 7), rQ cT 8 (va_up (trow σ ι r) p.toNat (some q))))) : va_P D cl (SW cI cT cU d (plaS σ (r * 8 + p) so v) (fu ι (r * 8 + p) (q : Int))) H ∧ va_D A (SW cI cT cU d (plaS σ (r * 8 + p) so v) (fu ι (r * 8 + p) (q : Int))) := by
  have e9 : (fu ι (r * 8 + p) (q : Int)) (r * 8 + p) = (q : Int) := fu_s _ _ _
  have hx : tref (plaS σ (r * 8 + p) so v) (fu ι (r * 8 + p) (q : Int)) (r * 8 + p) = some q := by
    unfold tref
    rw [plaS_4, if_neg hso, e9]
    rfl
  have e := sb_up (cI := cI) (cT := cT) (cU := cU) (d := d) (σ := σ) (ι := ι) (σ' := plaS σ (r * 8 + p) so v) (ι' := fu ι (r * 8 + p) (q : Int)) (x := some q) hr hp hx (fun j hj => by
    unfold tref
    rw [(plaS_o _ _ _ hj).1, show (fu ι (r * 8 + p) (q : Int)) j = ι j from fu_n _ _ hj]) ⟨rfl, rfl, rfl, rfl, rfl, rfl⟩
  have ek : (((r * 8 + p).toNat : Nat) : Int) = r * 8 + p := by omega
  have hp2 := ST_plant (σ := σ) (ι := ι) (σ' := plaS σ (r * 8 + p) so v) (ι' := fu ι (r * 8 + p) (q : Int)) (k := (r * 8 + p).toNat) (by rw [ek]; exact h4) (by rw [ek, plaS_4]; exact hso) (fun j hj => by
    rw [ek] at hj
    exact ⟨(plaS_o _ _ _ hj).1, (plaS_o _ _ _ hj).2, fu_n _ _ hj⟩) 40 (by omega)
  rw [ek, e9, plaS_t] at hp2
  have hs : (SW cI cT cU d (plaS σ (r * 8 + p) so v) (fu ι (r * 8 + p) (q : Int))).Perm ((q, .inr (3, [.int (iI 1), .int (iI v), .int (iI so), .int (iI 0)])) :: (SB cI cT cU d (plaS σ (r * 8 + p) so v) (fu ι (r * 8 + p) (q : Int)) ++ ST σ ι 40)) := (hp2.append_left (SB cI cT cU d (plaS σ (r * 8 + p) so v) (fu ι (r * 8 + p) (q : Int)))).trans List.perm_middle
  exact ⟨va_mem (va_Pe (congrArg (fun w => _ :: w) e) hP) (fun x hx => hs.mem_iff.mp hx), va_Dp (va_De (congrArg (fun w => _ :: w) e) hD) hs⟩
end SWM
section SWR
variable {p : Program} {l : Launch} {e : Env} {R : Room} {s : State} {m : MethodId} {args : Array Value} {below : List Frame} {meth : Method} {c : Code} {H : Heap} {locs : List Loc} {cells slots : Nat} {Q : State → Prop}
variable {cc : ByteArray} {pc : Nat} {ls : Array Slot} {rest : List Value} {D : va_G} {cl : List vw_C} {A : Nat → Prop} {a : Nat} {tys : List (ClassId × FieldType)} {ws : va_W} {H0 : Heap}
/-- an array of arrays is read -/
theorem s_row (hexec : p.tables.exec = Jvm.exec) (hb : c.code = cc) (hK : va_K D cl tys s) (hP : va_P D cl ws H) (q0 t0 : Nat) {cU : ClassId} {t : FieldType} {n : Nat} {f : Nat → Option Nat} (ha : ws[q0]? = some (a, rQ cU n f)) (ht : tys[t0]? = some (cU, .array t)) {i : Int} (h0 : 0 ≤ i) (hi : i < (n : Int)) (hn : n ≤ 2147483647) {v : Nat} (hv : f i.toNat = some v) (hdg : decode cc pc = .ok (.aaload, 1))
    (kk : W p l e R s m args below meth c H locs cells slots Q (F0 m (pc + 1) ls (.ref v :: rest))) : W p l e R s m args below meth c H locs cells slots Q (F0 m pc ls (.int (iI i) :: .ref a :: rest)) := by
  obtain ⟨e1, e2⟩ := iI_in h0 hi hn
  have e3 : (iI i).toNatClampNeg = i.toNat := by omega
  have hl : (iI i).toNatClampNeg < n := by omega
  exact W.aald (v := .ref v) (ty := .array t) hexec hb (hP q0 _ ha) ((hK.2 t0 _ ht).1 n (fun j => va_rf (f j))) rfl (fun q => by cases q) (by show ¬ (iI i < 0 ∨ (arrV _ _ _).slots.size ≤ _); rw [arrV_size]; exact e1) (by show (arrV _ _ _).slots[_]? = _; rw [arrV_read _ _ hl, e3, hv]; rfl) rfl rfl hdg kk
theorem s_tree (hexec : p.tables.exec = Jvm.exec) (hb : c.code = cc) (hK : va_K D cl tys s) (hP : va_P D cl ws H) (q0 t0 : Nat) {cT : ClassId} {C : String} {σ : St} {ι : Int → Int} {r i : Int} (ha : ws[q0]? = some (a, rQ cT 8 (trow σ ι r))) (ht : tys[t0]? = some (cT, .object C)) (h0 : 0 ≤ i) (hi : i < 8) (hdg : decode cc pc = .ok (.aaload, 1))
    (kn : σ 4 (r * 8 + i) = -1 → W p l e R s m args below meth c H locs cells slots Q (F0 m (pc + 1) ls (.null :: rest)))
    (ky : ¬ σ 4 (r * 8 + i) = -1 → W p l e R s m args below meth c H locs cells slots Q (F0 m (pc + 1) ls (.ref (ι (r * 8 + i)).toNat :: rest))) : W p l e R s m args below meth c H locs cells slots Q (F0 m pc ls (.int (iI i) :: .ref a :: rest)) := by
  obtain ⟨e1, e2⟩ := iI_in (n := 8) h0 hi (by decide)
  refine va_aldq hexec hb hK hP q0 t0 ha ht e1 hdg ?_
  have e3 : trow σ ι r (iI i).toNatClampNeg = tref σ ι (r * 8 + i) := by
    unfold trow
    rw [if_pos (by omega), e2]
  rw [e3]
  unfold tref
  by_cases g : σ 4 (r * 8 + i) = -1
  · rw [if_pos g]
    exact kn g
  · rw [if_neg g]
    exact ky g
theorem s_storeN (hexec : p.tables.exec = Jvm.exec) (hb : c.code = cc) (hK : va_K D cl tys s) (hP : va_P D cl ws H) (hD : va_D A ws) (hS : va_S A H0 H locs) (q0 t0 : Nat) {cT : ClassId} {C : String} {f : Nat → Option Nat} {i : Int} (ha : ws[q0]? = some (a, rQ cT 8 f)) (ht : tys[t0]? = some (cT, .object C)) (h0 : 0 ≤ i) (hi : i < 8) (hdg : decode cc pc = .ok (.aastore, 1))
    (kk : ∀ (H1 : Heap) (locs1 : List Loc), va_P D cl (ws.set q0 (a, rQ cT 8 (va_up f i.toNat none))) H1 → va_D A (ws.set q0 (a, rQ cT 8 (va_up f i.toNat none))) → va_S A H0 H1 locs1 → W p l e R s m args below meth c H1 locs1 cells slots Q (F0 m (pc + 1) ls rest)) : W p l e R s m args below meth c H locs cells slots Q (F0 m pc ls (.null :: .int (iI i) :: .ref a :: rest)) := by
  obtain ⟨e1, e2⟩ := iI_in (n := 8) h0 hi (by decide)
  have e3 : (iI i).toNatClampNeg = i.toNat := by omega
  refine va_astqN hexec hb hK hP hD hS q0 t0 ha ht e1 hdg (fun H1 locs1 h1 h2 h3 => ?_)
  rw [e3] at h1 h2
  exact kk H1 locs1 h1 h2 h3
theorem s_storeR (hexec : p.tables.exec = Jvm.exec) (hb : c.code = cc) (hK : va_K D cl tys s) (hP : va_P D cl ws H) (hD : va_D A ws) (hS : va_S A H0 H locs) (q0 t0 qk ci : Nat) {cT : ClassId} {r : vw_C} {v : Nat} {vs : List Value} {f : Nat → Option Nat} {i : Int} (ha : ws[q0]? = some (a, rQ cT 8 f)) (ht : tys[t0]? = some (cT, .object r.1)) (hv : ws[qk]? = some (v, .inr (ci, vs))) (hc : cl[ci]? = some r) (h0 : 0 ≤ i) (hi : i < 8) (hdg : decode cc pc = .ok (.aastore, 1))
    (kk : ∀ (H1 : Heap) (locs1 : List Loc), va_P D cl (ws.set q0 (a, rQ cT 8 (va_up f i.toNat (some v)))) H1 → va_D A (ws.set q0 (a, rQ cT 8 (va_up f i.toNat (some v)))) → va_S A H0 H1 locs1 → W p l e R s m args below meth c H1 locs1 cells slots Q (F0 m (pc + 1) ls rest)) : W p l e R s m args below meth c H locs cells slots Q (F0 m pc ls (.ref v :: .int (iI i) :: .ref a :: rest)) := by
  obtain ⟨e1, e2⟩ := iI_in (n := 8) h0 hi (by decide)
  have e3 : (iI i).toNatClampNeg = i.toNat := by omega
  refine va_astq hexec hb hK hP hD hS q0 t0 qk ci ha ht hv hc e1 hdg (fun H1 locs1 h1 h2 h3 => ?_)
  rw [e3] at h1 h2
  exact kk H1 locs1 h1 h2 h3
/-- x < y ? a : b, as it is compiled with a jump on ≥ -/
theorem g_selGe (hx : p.tables.exec = Jvm.exec) (hb : c.code = cc) {x y : Int} {off : Int} {t1 t2 : Nat} {u v : Int} (rx : inR x) (ry : inR y) (d0 : decode cc pc = .ok (.if_icmp .ge off, 3)) (ht : (pc : Int) + off = (t1 : Int)) (d1 : ∀ st : List Value, W p l e R s m args below meth c H locs cells slots Q (F0 m t2 ls (.int (iI u) :: st)) → W p l e R s m args below meth c H locs cells slots Q (F0 m (pc + 3) ls st)) (d2 : ∀ st : List Value, W p l e R s m args below meth c H locs cells slots Q (F0 m t2 ls (.int (iI v) :: st)) → W p l e R s m args below meth c H locs cells slots Q (F0 m t1 ls st))
    (kk : W p l e R s m args below meth c H locs cells slots Q (F0 m t2 ls (.int (iI (if x < y then u else v)) :: rest))) : W p l e R s m args below meth c H locs cells slots Q (F0 m pc ls (.int (iI y) :: .int (iI x) :: rest)) := by
  refine gi_icmp_ge (tgt := t1) hx hb d0 ht rx ry (fun g => d2 _ ?_) (fun g => d1 _ ?_)
  · rw [if_neg (by omega)] at kk
    exact kk
  · rw [if_pos (by omega)] at kk
    exact kk
end SWR
