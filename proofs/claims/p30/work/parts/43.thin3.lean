/-! rows of boolean arrays, references answered, calls that could throw but do not -/
section T3
variable {p : Program} {l : Launch} {e : Env} {R : Room} {s : State} {m : MethodId} {args : Array Value} {below : List Frame} {meth : Method} {c : Code} {H : Heap} {locs : List Loc} {cells slots : Nat} {Q : State → Prop}
variable {cc : ByteArray} {pc : Nat} {ls : Array Slot} {rest st0 : List Value} {D : va_G} {tys : List (ClassId × FieldType)}
variable {y : MethodName} {bytes : ByteArray} {maxL nL mc ms n index : Nat} {ret : Option FieldType} {ws ws' Ts : List Cond} {rm : Room} {own C : String} {b : Addr} {As : List Value}
theorem al_z (hexec : p.tables.exec = Jvm.exec) (hb : c.code = cc) (hK : va_K D vwCl tys s) {w : va_W} (hP : va_P D vwCl w H) (q0 t0 : Nat) {a : Nat} {cA : ClassId} {n : Nat} {f : Nat → Int32} (ha : w[q0]? = some (a, .inl (cA, n, .inl f))) (ht : tys[t0]? = some (cA, .boolean)) {k : Nat} (hk : k < n) (hn : n < 2 ^ 31) (hdg : decode cc pc = .ok (.baload, 1))
    (kk : W p l e R s m args below meth c H locs cells slots Q (F0 m (pc + 1) ls (.int (f k) :: rest))) : W p l e R s m args below meth c H locs cells slots Q (F0 m pc ls (.int (nI k) :: .ref a :: rest)) := by
  refine va_zald hexec hb hK hP q0 t0 ha ht (vp_in_nI hk hn) hdg ?_
  rw [nI_clamp (by omega)]
  exact kk
theorem as_z (hexec : p.tables.exec = Jvm.exec) (hb : c.code = cc) (hK : va_K D vwCl tys s) {w : va_W} (hP : va_P D vwCl w H) {A : Nat → Prop} {H0 : Heap} (hD : va_D A w) (hS : va_S A H0 H locs) (q0 t0 : Nat) {a : Nat} {cA : ClassId} {n : Nat} {f : Nat → Int32} (ha : w[q0]? = some (a, .inl (cA, n, .inl f))) (ht : tys[t0]? = some (cA, .boolean)) {k : Nat} {x : Int32} (hx : vp_nar .boolean x = x) (hk : k < n) (hn : n < 2 ^ 31) (hdg : decode cc pc = .ok (.bastore, 1))
    (kk : ∀ (H1 : Heap) (locs1 : List Loc), va_P D vwCl (w.set q0 (a, .inl (cA, n, .inl (upd f k x)))) H1 → va_D A (w.set q0 (a, .inl (cA, n, .inl (upd f k x)))) → va_S A H0 H1 locs1 → W p l e R s m args below meth c H1 locs1 cells slots Q (F0 m (pc + 1) ls rest)) : W p l e R s m args below meth c H locs cells slots Q (F0 m pc ls (.int x :: .int (nI k) :: .ref a :: rest)) := by
  refine va_zast hexec hb hK hP hD hS q0 t0 ha ht (vp_in_nI hk hn) hdg ?_
  rw [nI_clamp (by omega), hx]
  exact kk
theorem nar_0 : vp_nar .boolean (nI 0) = nI 0 := by decide
theorem nar_1 : vp_nar .boolean (nI 1) = nI 1 := by decide
def qm_r (BB : Option Nat → Heap → Prop) (A : Nat → Prop) : Array Value → State → Outcome → State → Prop := fun _ st oc t => (∃ r : Option Nat, oc = .returned (some (va_rf r)) ∧ BB r t.heap) ∧ va_F A st t
theorem em_r {o : String} {r : Option Nat} {v : Value} {A : Nat → Prop} {BB : Option Nat → Heap → Prop} (hexec : p.tables.exec = Jvm.exec) (hb : c.code = cc) (hr : meth.sig.returnType = some (.object o)) (hlocks : meth.locks = false) (hS : va_S A s.heap H locs) (hv : v = va_rf r) (h : BB r H) (hdg : decode cc pc = .ok (.areturn, 1)) :
    W p l e R s m args below meth c H locs cells slots (MQ below (qm_r BB A) args s cells slots A) (F0 m pc ls [v]) :=
  W.aret hexec hb hr (Or.inl ⟨o, rfl⟩) (by rw [hv]; exact va_rf_or r) (fun t ht _ => ⟨⟨r, by rw [hv], by rw [ht]; exact h⟩, hS.F ht⟩) hS.2.2 hdg hlocks
theorem pq_r {BB : Option Nat → Heap → Prop} {a : Array Value} {A0 A1 : Nat → Prop} {H0 : Heap} (hr : va_Run p l e R s m args below meth c H locs cells slots mc ms (F0 m pc ls st0) rest (qm_r BB A1 a) A1) (hS : va_S A0 H0 H locs) (hA : ∀ q, A1 q → A0 q)
    (kk : ∀ (r : Option Nat) (H1 : Heap) (locs1 : List Loc), BB r H1 → (∀ q : Nat, q < H.size → ¬ A1 q → H1[q]? = H[q]?) → va_S A0 H0 H1 locs1 → W p l e R s m args below meth c H1 locs1 (cells + mc) (slots + ms) Q (F0 m (pc + 3) ls (va_rf r :: rest))) : W p l e R s m args below meth c H locs cells slots Q (F0 m pc ls st0) := by
  intro T hT X
  obtain ⟨v, st₀, t, T', L, h0, X', hL, e1, e2, ⟨⟨r, hv, hp⟩, hF⟩, st⟩ := hr T hT X
  cases hv
  obtain ⟨-, k2, k3⟩ := fr_of h0 e1 hS hA hA hL hF
  obtain ⟨t2, a1, b1⟩ := kk r T'.heap (locs ++ L) (by rw [e1]; exact hp) k2 k3 T' rfl X'
  exact ⟨t2, st t2 a1, b1⟩
/-- a call that could throw and does not, and leaves the heap as it was: nothing new is counted -/
theorem xn_i {C2 : String → Prop} {post : Int32 → Prop} {a : Array Value} {mc1 ms1 : Nat} (hr : vx_Run p l e R s m args below meth c H locs cells slots mc1 ms1 (F0 m pc ls st0) rest (vp_Si post a) (xk C2) (fun _ => False)) (hC : ∀ E, ¬ C2 E)
    (kk : ∀ r : Int32, post r → W p l e R s m args below meth c H locs cells slots Q (F0 m (pc + 3) ls (.int r :: rest))) : W p l e R s m args below meth c H locs cells slots Q (F0 m pc ls st0) := by
  intro T hT0 X
  rcases hr T hT0 X with ⟨v, st₀, t, T', L, h0, X', hL, e1, e2, ⟨r, hv, hp, hh⟩, st⟩ | ⟨q, st₀, t, T', L, E, ce, h0, X', hL, e1, e2, ⟨hE, hz, hk⟩, hce, hcv, hcl, st⟩
  · cases hv
    have eH : T'.heap = H := by rw [e1, hh, h0]
    have X2 := Stand.forget (locs := locs) X' (fun q h => (hL q h).elim)
    have z1 := X.same
    have z2 := X2.same
    have eT : (T'.setVm s.vm).heap = (T.setVm s.vm).heap := by
      show T'.heap = T.heap
      rw [eH, hT0]
    have X3 : Stand p l e R s m args below meth c T' locs cells slots :=
      { X2 with same := ⟨z2.1, z2.2.1, by rw [eT]; exact z1.2.2.1, z2.2.2.2.1, by rw [eT]; exact z1.2.2.2.2.1, z2.2.2.2.2.2⟩ }
    obtain ⟨t2, a1, b1⟩ := kk r hp T' eH X3
    exact ⟨t2, st t2 a1, b1⟩
  · exact absurd hE (hC E)
/-- a call that changes one world, could throw and does not -/
theorem xn_m {XC2 : String → State → State → Prop} {BB : Int32 → Heap → Prop} {a : Array Value} {A0 A1 : Nat → Prop} {H0 : Heap} {mc1 ms1 : Nat} (hr : vx_Run p l e R s m args below meth c H locs cells slots mc1 ms1 (F0 m pc ls st0) rest (qm_i BB A1 a) XC2 A1) (hS : va_S A0 H0 H locs) (hA : ∀ q, A1 q → A0 q) (hC : ∀ (E : String) (st t : State), ¬ XC2 E st t)
    (kk : ∀ (r : Int32) (H1 : Heap) (locs1 : List Loc), BB r H1 → (∀ q : Nat, q < H.size → ¬ A1 q → H1[q]? = H[q]?) → va_S A0 H0 H1 locs1 → W p l e R s m args below meth c H1 locs1 (cells + mc1) (slots + ms1) Q (F0 m (pc + 3) ls (.int r :: rest))) : W p l e R s m args below meth c H locs cells slots Q (F0 m pc ls st0) := by
  intro T hT0 X
  rcases hr T hT0 X with ⟨v, st₀, t, T', L, h0, X', hL, e1, e2, ⟨⟨r, hv, hp⟩, hF⟩, st⟩ | ⟨q, st₀, t, T', L, E, ce, h0, X', hL, e1, e2, hXC, hce, hcv, hcl, st⟩
  · cases hv
    obtain ⟨-, k2, k3⟩ := fr_of h0 e1 hS hA hA hL hF
    obtain ⟨t2, a1, b1⟩ := kk r T'.heap (locs ++ L) (by rw [e1]; exact hp) k2 k3 T' rfl X'
    exact ⟨t2, st t2 a1, b1⟩
  · exact absurd hXC (hC E _ _)
/-- a body that leaves the heap as it was, and calls what could throw -/
theorem bd_px {Qc : Array Value → State → Outcome → State → Prop} {wc : va_W} (hy : plainName y.cls = true) (hw : ws = Cond.code y cc maxL ret :: ws') (hlen : (lg_sl As).length ≤ maxL)
    (body : ∀ (p : Program) (e : Env) (s : State) (m : MethodId) (args : Array Value) (below : List Frame) (meth : Method) (c : Code) (ls : Array Slot), CallFix p m c cc maxL s args ws y.cls → meth.sig.returnType = ret → meth.locks = false → va_K D vwCl tys s → va_P D vwCl wc s.heap → XS s → XZ (fun _ => False) s s.heap → lv_has ls maxL (lv_args 0 As) →
      W p l e rm s m args below meth c s.heap [] 0 0 (MQ below Qc args s 0 0 (fun _ => False)) (F0 m 0 ls [])) : Met l y ws rm (PX D tys As wc) Qc 0 0 (fun _ => False) := by
  refine Met.ofW (cc := cc) (maxL := maxL) (ret := ret) hy hw ?_
  intro p e s m args below meth c s₁ B hml hv
  obtain ⟨rfl, hP, hK, hX, hZ⟩ := hv
  rw [lg_entry_eq]
  exact body p e s m _ below meth c _ ⟨B.exec, B.bytes, hml, findClass_of_methodNamed B.named, atoms_spec (ws := ws) B.pre⟩ B.returns B.notSynchronized hK hP hX hZ (lv_entry As hlen)
end T3
