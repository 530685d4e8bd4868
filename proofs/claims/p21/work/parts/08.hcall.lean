/-! a call of a method that may throw -/
section HC
variable {p : Program} {l : Launch} {e : Env} {R : Room} {s : State} {m : MethodId} {args : Array Value} {below : List Frame} {meth : Method} {c : Code} {H : Heap} {locs : List Loc} {cells slots : Nat} {Q : State → Prop}
variable {pc : Nat} {ls : Array Slot} {rest st0 : List Value} {D : va_G} {A0 : Nat → Prop} {tys tys' : List (ClassId × FieldType)} {wi wr : va_W} {H0 : Heap} {wo : St → va_W} {rv : St → Option Value} {kr : St → Prop} {xc : String → Prop} {a : Array Value} {mc ms : Nat}
theorem h_call (hr : vx_Run p l e R s m args below meth c H locs cells slots mc ms (F0 m pc ls st0) rest (gQ D tys' wo (va_A wi H.size) rv kr a) (gX D tys' wi (va_A wi H.size) xc) (va_A wi H.size)) (hP : va_P D vwCl (wi ++ wr) H) (hD : va_D A0 (wi ++ wr)) (hS : va_S A0 H0 H locs) (hA : ∀ q, H0.size ≤ q → A0 q)
    (kx : ∀ (E : String) (ce : Cell) (q9 : Addr) (H1 : Heap) (locs1 : List Loc), xc E → va_P D vwCl (wi ++ wr) H1 → va_S A0 H0 H1 locs1 → H1[q9]? = some ce → ce.vm = .none → s.vm.findClass E = some ce.cls → vx_W p l e R s m args below meth c H1 locs1 (cells + mc) (slots + ms) Q (F0 m pc ls rest) q9)
    (kk : ∀ (κ : St) (H1 : Heap) (locs1 : List Loc), kr κ → va_P D vwCl (wo κ ++ wr) H1 → va_D A0 (wo κ ++ wr) → va_S A0 H0 H1 locs1 → W p l e R s m args below meth c H1 locs1 (cells + mc) (slots + ms) Q (F0 m (pc + 3) ls ((rv κ).toList ++ rest))) : W p l e R s m args below meth c H locs cells slots Q (F0 m pc ls st0) := by
  intro T hT X
  have hF := g_free hD hS hA
  rcases hr T hT X with ⟨v, st₀, t, T', L, h0, X', hL, e1, e2, ⟨⟨κ, hv, hp, hb, hk2, hd⟩, hz, hk⟩, st⟩ | ⟨q, st₀, t, T', L, E, ce, h0, X', hL, e1, e2, ⟨hxc, hpx, -, hdx, hz, hk⟩, hce, hcv, hcl, st⟩
  · cases hv
    rw [h0] at hz hk
    obtain ⟨hP1, hD1⟩ := g_join (H1 := T'.heap) hP hD (fun q h1 h2 => by rw [e1]; exact hk q h1 h2) hF (by rw [e1]; exact hb) hd
    obtain ⟨t2, a1, b1⟩ := kk κ T'.heap (locs ++ L) hp hP1 hD1
      ⟨Nat.le_trans hS.1 (by rw [e1]; exact hz), fun q h1 h2 => by rw [e1, hk q (Nat.lt_of_lt_of_le h1 hS.1) (fun z => h2 (hF q z))]; exact hS.2.1 q h1 h2, fun q hq => by
        rcases List.mem_append.mp hq with h | h
        · exact hS.2.2 q h
        · exact hF _ (hL q h)⟩ T' rfl X'
    exact ⟨t2, st t2 a1, b1⟩
  · rw [h0] at hz hk
    obtain ⟨hP1, hD1⟩ := g_join (H1 := T'.heap) hP hD (fun q h1 h2 => by rw [e1]; exact hk q h1 h2) hF (by rw [e1]; exact hpx) hdx
    obtain ⟨t2, a1, b1⟩ := kx E ce q T'.heap (locs ++ L) hxc hP1
      ⟨Nat.le_trans hS.1 (by rw [e1]; exact hz), fun q h1 h2 => by rw [e1, hk q (Nat.lt_of_lt_of_le h1 hS.1) (fun z => h2 (hF q z))]; exact hS.2.1 q h1 h2, fun q hq => by
        rcases List.mem_append.mp hq with h | h
        · exact hS.2.2 q h
        · exact hF _ (hL q h)⟩ (by rw [e1]; exact hce) hcv hcl T' rfl X'
    exact ⟨t2, st.trans a1, b1⟩
/-- where it can't throw -/
theorem h_call0 (hr : vx_Run p l e R s m args below meth c H locs cells slots mc ms (F0 m pc ls st0) rest (gQ D tys' wo (va_A wi H.size) rv kr a) (gX D tys' wi (va_A wi H.size) xc) (va_A wi H.size)) (hP : va_P D vwCl (wi ++ wr) H) (hD : va_D A0 (wi ++ wr)) (hS : va_S A0 H0 H locs) (hA : ∀ q, H0.size ≤ q → A0 q) (hno : ∀ E, ¬ xc E)
    (kk : ∀ (κ : St) (H1 : Heap) (locs1 : List Loc), kr κ → va_P D vwCl (wo κ ++ wr) H1 → va_D A0 (wo κ ++ wr) → va_S A0 H0 H1 locs1 → W p l e R s m args below meth c H1 locs1 (cells + mc) (slots + ms) Q (F0 m (pc + 3) ls ((rv κ).toList ++ rest))) : W p l e R s m args below meth c H locs cells slots Q (F0 m pc ls st0) :=
  h_call hr hP hD hS hA (fun E _ _ _ _ h => (hno E h).elim) kk
theorem h_preV {As : List Value} {b q0 ci : Nat} {q : vw_C} {fs : List Value} {C : String} {A : Nat → Prop} (hK : va_K D vwCl tys s) (is : List Nat) (hty : is.filterMap (fun i => tys[i]?) = tys') (hP : va_P D vwCl (wi ++ wr) H) (hD : va_D A (wi ++ wr)) (hS : va_S A s.heap H locs) (hA : ∀ q, s.heap.size ≤ q → A q) (hE : tExA A s) (h0 : wi[q0]? = some (b, .inr (ci, fs))) (hc : vwCl[ci]? = some q) (hC : q.1 = C) : PreV s H C b (va_Pc (.ref b :: As) (gU D tys' wi (tEx wi) H.size)) As :=
  g_preV (tEx_g wi) hK is hty hP hD (fun U hU hW => tEx_w hE hD hS hA hU hW) h0 hc hC
end HC
