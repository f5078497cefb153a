/-! the thin layer of the law's own methods: what they call may throw, and they catch it -/
abbrev PL (D : va_G) (tys : List (ClassId × FieldType)) (As : List Value) (sz : Nat) (wc : va_W) : Array Value → State → Prop := va_Pc As (fun U => U.heap.size = sz ∧ va_P D vwCl wc U.heap ∧ va_K D vwCl tys U ∧ va_D (fun _ => True) wc ∧ XS U ∧ XZ (va_A wc sz) U U.heap ∧ va_Nc ISE IAE U)
theorem pl_blind {D : va_G} {tys : List (ClassId × FieldType)} {As : List Value} {wc : va_W} {sz : Nat} : FrameBlind (PL D tys As sz wc) := fun _ U g mk q => ⟨q.1, q.2.1, q.2.2.1, va_K.moved (u := U) (Vm.Alike.refl U.vm) q.2.2.2.1, q.2.2.2.2.1, XS.same (s := U) rfl q.2.2.2.2.2.1, XZ.moved (u := U) (Vm.Alike.refl U.vm) q.2.2.2.2.2.2.1, va_Nc.moved (u := U) (Vm.Alike.refl U.vm) q.2.2.2.2.2.2.2⟩
section LT
variable {p : Program} {l : Launch} {e : Env} {R : Room} {s : State} {m : MethodId} {args : Array Value} {below : List Frame} {meth : Method} {c : Code} {H : Heap} {locs : List Loc} {cells slots : Nat} {Q : State → Prop}
variable {cc : ByteArray} {pc : Nat} {ls : Array Slot} {rest st0 : List Value} {D : va_G} {tys : List (ClassId × FieldType)}
variable {y : MethodName} {bytes : ByteArray} {maxL nL mc ms mc1 ms1 n index : Nat} {ret : Option FieldType} {ws ws' Ts : List Cond} {rm : Room} {own C0 : String} {b : Addr} {As : List Value}
theorem bd_w {Qf : (Nat → Prop) → Array Value → State → Outcome → State → Prop} {wc : va_W} {sz : Nat} {hh : List (Nat × Nat × Nat × Nat)} (hy : plainName y.cls = true) (hw : ws = Cond.codeWith y cc maxL ret hh :: ws') (hlen : (lg_sl As).length ≤ maxL)
    (body : ∀ (p : Program) (e : Env) (s : State) (m : MethodId) (args : Array Value) (below : List Frame) (meth : Method) (c : Code) (ls : Array Slot) (A : Nat → Prop), CallFix p m c cc maxL s args ws y.cls → meth.sig.returnType = ret → meth.locks = false → c.exceptionTable.toList = tableOf hh → va_K D vwCl tys s → va_P D vwCl wc s.heap → va_D A wc → (∀ q : Nat, s.heap.size ≤ q → A q) → va_S A s.heap s.heap [] → XS s → XZ A s s.heap → va_Nc ISE IAE s → lv_has ls maxL (lv_args 0 As) →
      W p l e rm s m args below meth c s.heap [] 0 0 (MQ below (Qf A) args s mc ms A) (F0 m 0 ls [])) : Met l y ws rm (PL D tys As sz wc) (Qf (va_A wc sz)) mc ms (va_A wc sz) := by
  refine va_MetW (cc := cc) (maxL := maxL) (ret := ret) (hh := hh) hy hw ?_
  intro p e s m args below meth c s₁ B hml hv
  obtain ⟨rfl, hsz, hP, hK, hD0, hX, hZ, hN⟩ := hv
  subst hsz
  rw [lg_entry_eq]
  exact body p e s m _ below meth c _ _ ⟨B.exec, B.bytes, hml, findClass_of_methodNamed B.named, atoms_spec (ws := ws) B.pre⟩ B.returns B.notSynchronized (vx_table (x := y) B (atoms_spec (ws := ws) B.pre _ (by rw [hw]; exact List.mem_cons_self))) hK hP hD0.self (fun q h => Or.inr h) va_S.rf hX hZ hN (lv_entry As hlen)
/-- a call that leaves the heap as it was, and answers or throws -/
theorem xw_i {C2 : String → Prop} {post : Int32 → Prop} {a : Array Value} (hr : vx_Run p l e R s m args below meth c H locs cells slots mc1 ms1 (F0 m pc ls st0) rest (vp_Si post a) (xk C2) (fun _ => False))
    (kx : ∀ (E : String) (ce : Cell) (q9 : Addr) (H1 : Heap), C2 E → H.size ≤ H1.size → (∀ q : Nat, q < H.size → H1[q]? = H[q]?) → H1[q9]? = some ce → ce.vm = .none → s.vm.findClass E = some ce.cls → vx_W p l e R s m args below meth c H1 locs (cells + mc1) (slots + ms1) Q (F0 m pc ls rest) q9)
    (kk : ∀ r : Int32, post r → W p l e R s m args below meth c H locs (cells + mc1) (slots + ms1) Q (F0 m (pc + 3) ls (.int r :: rest))) : W p l e R s m args below meth c H locs cells slots Q (F0 m pc ls st0) := by
  intro T hT0 X
  rcases hr T hT0 X with ⟨v, st₀, t, T', L, h0, X', hL, e1, e2, ⟨r, hv, hp, hh⟩, st⟩ | ⟨q, st₀, t, T', L, E, ce, h0, X', hL, e1, e2, ⟨hE, hz, hk⟩, hce, hcv, hcl, st⟩
  · cases hv
    obtain ⟨t2, a1, b1⟩ := kk r hp T' (by rw [e1, hh, h0]) (Stand.forget X' (fun q h => (hL q h).elim))
    exact ⟨t2, st t2 a1, b1⟩
  · rw [h0] at hz hk
    obtain ⟨t2, a1, b1⟩ := kx E ce q T'.heap hE (by rw [e1]; exact hz) (fun q hq => by rw [e1]; exact hk q hq) (by rw [e1]; exact hce) hcv hcl T' rfl (Stand.forget X' (fun q h => (hL q h).elim))
    exact ⟨t2, st.trans a1, b1⟩
/-- a call that changes one world, and answers or throws -/
theorem xw_m {XC2 : String → State → State → Prop} {BB : Int32 → Heap → Prop} {a : Array Value} {A0 A1 : Nat → Prop} {H0 : Heap} (hr : vx_Run p l e R s m args below meth c H locs cells slots mc1 ms1 (F0 m pc ls st0) rest (qm_i BB A1 a) XC2 A1) (hS : va_S A0 H0 H locs) (hA : ∀ q, A1 q → A0 q) (hXF : ∀ (E : String) (st t : State), XC2 E st t → va_F A1 st t)
    (kx : ∀ (E : String) (ce : Cell) (q9 : Addr) (st t : State) (locs1 : List Loc), st.heap = H → XC2 E st t → H.size ≤ t.heap.size → (∀ q : Nat, q < H.size → ¬ A1 q → t.heap[q]? = H[q]?) → va_S A0 H0 t.heap locs1 → t.heap[q9]? = some ce → ce.vm = .none → s.vm.findClass E = some ce.cls → vx_W p l e R s m args below meth c t.heap locs1 (cells + mc1) (slots + ms1) Q (F0 m pc ls rest) q9)
    (kk : ∀ (r : Int32) (H1 : Heap) (locs1 : List Loc), BB r H1 → (∀ q : Nat, q < H.size → ¬ A1 q → H1[q]? = H[q]?) → va_S A0 H0 H1 locs1 → W p l e R s m args below meth c H1 locs1 (cells + mc1) (slots + ms1) Q (F0 m (pc + 3) ls (.int r :: rest))) : W p l e R s m args below meth c H locs cells slots Q (F0 m pc ls st0) := by
  intro T hT0 X
  rcases hr T hT0 X with ⟨v, st₀, t, T', L, h0, X', hL, e1, e2, ⟨⟨r, hv, hp⟩, hF⟩, st⟩ | ⟨q, st₀, t, T', L, E, ce, h0, X', hL, e1, e2, hXC, hce, hcv, hcl, st⟩
  · cases hv
    obtain ⟨-, k2, k3⟩ := fr_of h0 e1 hS hA hA hL hF
    obtain ⟨t2, a1, b1⟩ := kk r T'.heap (locs ++ L) (by rw [e1]; exact hp) k2 k3 T' rfl X'
    exact ⟨t2, st t2 a1, b1⟩
  · obtain ⟨k1, k2, k3⟩ := fr_of h0 e1 hS hA hA hL (hXF _ _ _ hXC)
    rw [e1] at k1 k2 k3
    obtain ⟨t2, a1, b1⟩ := kx E ce q st₀ t (locs ++ L) h0 hXC k1 k2 k3 hce hcv hcl T' e1 X'
    exact ⟨t2, st.trans a1, b1⟩
theorem xk_F {C2 : String → Prop} {A1 : Nat → Prop} : ∀ (E : String) (st t : State), xk C2 E st t → va_F A1 st t := fun _ _ _ h => ⟨h.2.1, fun q hq _ => h.2.2 q hq⟩
theorem px_pre {wc : va_W} (hK : va_K D vwCl tys s) (hP : va_P D vwCl wc H) (hX : XS s) (hZ : XZ (fun _ => False) s H) {ci : Nat} {fs : List Value} {q : vw_C} (hc : vwCl[ci]? = some q) (hq : q.1 = C0) (he : wc[0]? = some (b, .inr (ci, fs))) : PreV s H C0 b (PX D tys (.ref b :: As) wc) As :=
  ⟨px_blind, by rw [← hq]; exact va_recv hK hP hc he, fun U hU hW => ⟨rfl, by rw [hU]; exact hP, va_K.moved hW.alike hK, XS.warm hW hX, by rw [hU]; exact XZ.moved hW.alike hZ⟩⟩
theorem pxm_pre {wc : va_W} {A0 A : Nat → Prop} (hK : va_K D vwCl tys s) (hP : va_P D vwCl wc H) (hD : va_D A0 wc) (hX : XS s) (hZ : XZ A s H) (hs : ∀ q, va_A wc H.size q → A q) {ci : Nat} {fs : List Value} {q : vw_C} (hc : vwCl[ci]? = some q) (hq : q.1 = C0) (he : wc[0]? = some (b, .inr (ci, fs))) : PreV s H C0 b (PXM D tys (.ref b :: As) H.size wc) As :=
  ⟨pxm_blind, by rw [← hq]; exact va_recv hK hP hc he, fun U hU hW => ⟨rfl, by rw [hU], by rw [hU]; exact hP, va_K.moved hW.alike hK, hD.weaken (fun _ _ _ _ => trivial), XS.warm hW hX, by rw [hU]; exact XZ.moved hW.alike (hZ.narrow hs)⟩⟩
theorem pl_pre {wc : va_W} {A0 A : Nat → Prop} (hK : va_K D vwCl tys s) (hP : va_P D vwCl wc H) (hD : va_D A0 wc) (hX : XS s) (hZ : XZ A s H) (hs : ∀ q, va_A wc H.size q → A q) (hN : va_Nc ISE IAE s) : PreS s H (PL D tys As H.size wc) As :=
  ⟨pl_blind, fun U hU hW => ⟨rfl, by rw [hU], by rw [hU]; exact hP, va_K.moved hW.alike hK, hD.weaken (fun _ _ _ _ => trivial), XS.warm hW hX, by rw [hU]; exact XZ.moved hW.alike (hZ.narrow hs), va_Nc.moved hW.alike hN⟩⟩
/-- two longs that are the same -/
theorem lw_lcmp (hexec : p.tables.exec = Jvm.exec) (hb : c.code = cc) {x y : Int64} (h : x = y) (hdg : decode cc pc = .ok (.lcmp, 1))
    (k : W p l e R s m args below meth c H locs cells slots Q (F0 m (pc + 1) ls (.int 0 :: rest))) : W p l e R s m args below meth c H locs cells slots Q (F0 m pc ls (.long y :: .long x :: rest)) := by
  subst h
  intro T hT X
  obtain ⟨t, a, b⟩ := k T hT X
  refine ⟨t, ?_, b⟩
  have h1 : ¬ x > x := by show ¬ x < x; rw [Int64.lt_iff_toInt_lt]; omega
  jvm_step X.here [X.here.top, hexec, hb, hdg, h1]
  exact a
end LT
theorem updL0 {B : Nat → Int64} {v : Int64} : vp_updL B (nI 0).toNatClampNeg v 0 = v := by
  rw [nI_clamp (by decide)]
  exact if_pos rfl
