/-! what is kept and brought back -/
def kq (a b c : Nat) : Nat → Option Nat := va_up (va_up (va_up (fun _ => none) 0 (some a)) 1 (some b)) 2 (some c)
def KW (cI cQ : ClassId) (o a b c : Nat) (ν : St) : va_W := [(o, .inl (cQ, (3, .inr (.inr (.inr (.inr (kq a b c))))))), (a, aI cI 200 (ν 3)), (b, aI cI 6 (ν 4)), (c, aI cI 3 (ν 5))]
def bbS (μ ν : St) : St := sr (sr (sr μ 3 (ν 3)) 4 (ν 4)) 5 (ν 5)
theorem icpy_all (f g : Int → Int) {n : Nat} {j : Int} (h0 : 0 ≤ j) (h1 : j < (n : Int)) : icpy f g 0 0 n j = f j := by
  unfold icpy
  rw [if_pos ⟨h0, by omega⟩]
  congr 1
  omega
section GR
variable {p : Program} {l : Launch} {e : Env} {R : Room} {s : State} {m : MethodId} {args : Array Value} {below : List Frame} {meth : Method} {c : Code} {H : Heap} {locs : List Loc} {cells slots : Nat} {Q : State → Prop}
variable {cc : ByteArray} {pc : Nat} {ls : Array Slot} {D : va_G} {tys : List (ClassId × FieldType)} {wo : St → va_W} {rv : St → Option Value} {kr : St → Prop} {mc ms : Nat} {A : Nat → Prop}
theorem g_aret {t0 : FieldType} (hx : p.tables.exec = Jvm.exec) (hb : c.code = cc) (hr : meth.sig.returnType = some (.array t0)) (hlocks : meth.locks = false) (κ : St) {z : Nat} (hP : va_P D vwCl (wo κ) H) (hK : va_K D vwCl tys s) (hD : va_D A (wo κ)) (hS : va_S A s.heap H locs) (hk : kr κ) (hv : rv κ = some (.ref z)) (hc : cells ≤ mc) (hs : slots ≤ ms) (hdg : decode cc pc = .ok (.areturn, 1)) :
    W p l e R s m args below meth c H locs cells slots (MQ below (gQ D tys wo A rv kr) args s mc ms A) (F0 m pc ls [.ref z]) := by
  refine W.widen hc hs ?_
  exact W.aret hx hb hr (Or.inr ⟨_, rfl⟩) (Or.inr ⟨_, rfl⟩) (fun t ht hW => ⟨⟨κ, by rw [hv], hk, by rw [ht]; exact hP, va_K.moved hW.alike hK, hD⟩, hS.F ht⟩) hS.2.2 hdg hlocks
end GR
/-- a row of a world may be said otherwise outside its places -/
theorem g_row {D : va_G} {cl : List vw_C} {ws : va_W} {H : Heap} {A : Nat → Prop} (q0 : Nat) {a : Nat} {cI : ClassId} {n : Nat} {f g : Int → Int} (h0 : ws[q0]? = some (a, aI cI n f)) (hfg : ∀ j : Int, 0 ≤ j → j < (n : Int) → f j = g j) (hP : va_P D cl ws H) (hD : va_D A ws) : va_P D cl (ws.set q0 (a, aI cI n g)) H ∧ va_D A (ws.set q0 (a, aI cI n g)) :=
  ⟨hP.set hD h0 (aI_congr cI hfg D cl a H (hP q0 _ h0)) (fun _ _ => rfl), hD.set h0⟩
