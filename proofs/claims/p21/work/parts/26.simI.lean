/-! a new orchard of the law's -/
def TRr (cT : ClassId) (r : Nat → Nat) : va_W := [(r 0, rQ cT 8 (fun _ => none)), (r 1, rQ cT 8 (fun _ => none)), (r 2, rQ cT 8 (fun _ => none)), (r 3, rQ cT 8 (fun _ => none)), (r 4, rQ cT 8 (fun _ => none))]
theorem mna_tr {X : va_W} {f : Nat → va_E} {o : Nat × va_E} {cT : ClassId} {r : Nat → Nat} : ((X ++ [o]) ++ va_pl ([] ++ (List.range 5).map r) (vr_up f ((List.range 5).map r) (rQ cT 8 (fun _ => none)))) = X ++ ([o] ++ TRr cT r) := by
  rw [← vr_rows (L := []) (f := f) (l := (List.range 5).map r) (e := rQ cT 8 (fun _ => none)) (fun _ _ h => absurd h List.not_mem_nil), List.append_assoc]
  rfl
theorem ac_of {D : va_G} {cl : List vw_C} {tys : List (ClassId × FieldType)} {s : State} {A : Array Value} (hK : va_K D cl tys s) (i : Nat) {c : ClassId} {C : String} (h : tys[i]? = some (c, .object C)) : (Cond.arrayClass (.object C)).before A s = true := by
  obtain ⟨kA, comp, k1, k2, k3, k4⟩ := (hK.2 i _ h).2
  simp [Cond.before, Cond.holds, Cond.value, k4, k1, k2]
theorem cy_of {D : va_G} {cl : List vw_C} {tys : List (ClassId × FieldType)} {s : State} (hK : va_K D cl tys s) (i : Nat) {c : ClassId} {C : String} (h : tys[i]? = some (c, .object C)) : s.vm.findClass (FieldType.array (.object C)).toString = some c := by
  obtain ⟨kA, comp, k1, k2, k3, k4⟩ := (hK.2 i _ h).2
  exact k4
theorem g_clsU {D : va_G} {cl : List vw_C} {tys : List (ClassId × FieldType)} {s : State} (hK : va_K D cl tys s) (i j : Nat) {t : FieldType} {c1 c2 : ClassId} (h1 : tys[i]? = some (c1, .array t)) (h2 : tys[j]? = some (c2, .array t)) : c1 = c2 :=
  Option.some.inj ((hK.2 i _ h1).2.symm.trans (hK.2 j _ h2).2)
theorem inner_n (c : ClassId) (C : String) : Jvm.Free.Multi.innerC c 8 (defaultValue (.object C)) = vp_cell c (8, .inr (.inr (.inr (.inr (fun _ => none))))) := by
  rw [vp_cell_q]
  show ({ cls := c, slots := Array.replicate 8 .null, vm := .none } : Cell) = _
  rw [arrV_new]
  rfl
def kS (q1 q2 q3 q4 q5 q6 : Nat) (r : Nat → Nat) : St := fun i _ => if i = 1 then (q1 : Int) else if i = 2 then (q2 : Int) else if i = 3 then (q3 : Int) else if i = 4 then (q4 : Int) else if i = 5 then (q5 : Int) else if i = 6 then (q6 : Int) else ((r (i - 7) : Nat) : Int)
theorem kS_r (a q1 q2 q3 q4 q5 q6 : Nat) (r : Nat → Nat) (i : Nat) : dK a (kS q1 q2 q3 q4 q5 q6 r) (i + 7) = r i := by
  unfold dK kS
  rw [if_neg (by omega), if_neg (by omega), if_neg (by omega), if_neg (by omega), if_neg (by omega), if_neg (by omega), if_neg (by omega), Nat.add_sub_cancel]
  exact Int.toNat_natCast _
theorem ST_none {σ : St} {ι : Int → Int} (h : ∀ j, σ 4 j = -1) : ∀ n : Nat, ST σ ι n = []
  | 0 => rfl
  | n + 1 => by
    show ST σ ι n ++ _ = []
    rw [ST_none h n, if_pos (h _)]
    rfl
theorem sw_I {cI cT cU : ClassId} {a q1 q2 q3 q4 q5 q6 : Nat} {r : Nat → Nat} {ι : Int → Int} : [(a, .inr (2, [.ref q1, .ref q2, .ref q3, .ref q4, .ref q5, .ref q6, .int (iI (0)), .int (iI (0))]))] ++ ([(q1, rQ cU 5 (fun i => if i < 5 then some (r i) else none))] ++ ([(q2, aI cI 6 (fun _ => 3))] ++ ([(q3, aI cI 6 (fun _ => 4))] ++ ([(q4, aI cI 10 (fun _ => 0))] ++ ([(q5, aI cI 6 (fun _ => 0))] ++ ([(q6, aI cI 2 (fun _ => 20))] ++ TRr cT r)))))) = SW cI cT cU (dK a (kS q1 q2 q3 q4 q5 q6 r)) σI ι := by
  have h4 : ∀ j, σI 4 j = -1 := fun _ => rfl
  unfold SW
  rw [ST_none h4 40, List.append_nil]
  have e1 : ∀ k : Int, trow σI ι k = fun _ => none := fun k => funext fun j => by
    unfold trow tref
    rw [if_pos (h4 _)]
    exact ite_self _
  have e2 : srt (dK a (kS q1 q2 q3 q4 q5 q6 r)) = fun i => if i < 5 then some (r i) else none := funext fun i => by
    unfold srt
    rw [kS_r]
  unfold SB
  rw [e1 0, e1 1, e1 2, e1 3, e1 4, e2, kS_r a q1 q2 q3 q4 q5 q6 r 0, kS_r a q1 q2 q3 q4 q5 q6 r 1, kS_r a q1 q2 q3 q4 q5 q6 r 2, kS_r a q1 q2 q3 q4 q5 q6 r 3, kS_r a q1 q2 q3 q4 q5 q6 r 4]
  rfl
