/-! new objects -/
def zS : St := fun _ _ => 0
def dK (a : Nat) (κ : St) : Nat → Nat := fun i => if i = 0 then a else (κ i 0).toNat
def σI : St := sr (sr (sr (sr zS 0 (fun _ => 3)) 1 (fun _ => 4)) 4 (fun _ => -1)) 8 (fun _ => 20)
theorem dfX0 : ∀ j, j < 4 → defaultValue (tyX0 j) = vp_V [.int (iI (zS 0 0)), .int (iI (zS 0 1)), .int (iI (zS 0 2)), .int (iI (zS 0 3))] j := by
  intro j hj
  rcases (show j = 0 ∨ j = 1 ∨ j = 2 ∨ j = 3 by omega) with rfl | rfl | rfl | rfl <;> rfl
theorem g_clsI {D : va_G} {cl : List vw_C} {tys : List (ClassId × FieldType)} {s : State} (hK : va_K D cl tys s) (i j : Nat) {c1 c2 : ClassId} (h1 : tys[i]? = some (c1, .int)) (h2 : tys[j]? = some (c2, .int)) : c1 = c2 :=
  Option.some.inj ((hK.2 i _ h1).2.symm.trans (hK.2 j _ h2).2)
theorem g_clsZ {D : va_G} {cl : List vw_C} {tys : List (ClassId × FieldType)} {s : State} (hK : va_K D cl tys s) (i j : Nat) {c1 c2 : ClassId} (h1 : tys[i]? = some (c1, .boolean)) (h2 : tys[j]? = some (c2, .boolean)) : c1 = c2 :=
  Option.some.inj ((hK.2 i _ h1).2.symm.trans (hK.2 j _ h2).2)
theorem g_clsQ {D : va_G} {cl : List vw_C} {tys : List (ClassId × FieldType)} {s : State} (hK : va_K D cl tys s) (i j : Nat) {c1 c2 : ClassId} (h1 : tys[i]? = some (c1, .array .int)) (h2 : tys[j]? = some (c2, .array .int)) : c1 = c2 :=
  Option.some.inj ((hK.2 i _ h1).2.symm.trans (hK.2 j _ h2).2)
