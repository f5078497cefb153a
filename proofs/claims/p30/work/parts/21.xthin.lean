/-! the thin layer of methods that may throw -/
def IAE : String := "java/lang/IllegalArgumentException"
def ISE : String := "java/lang/IllegalStateException"
def IOB : String := "java/lang/IndexOutOfBoundsException"
def xs_nm : List String := ["java/lang/RuntimeException", "java/lang/Exception"]
def xs_tx : List (Nat × String) := [(140, "the number is not 0 to 9999"), (25, "the weight is not 1 to 99"), (36, "the coat hangs, or has no place"), (46, "the coat does not hang, or is not found"), (142, "the hooks are not 3 to 40"), (144, "the way is not 0 to 2"), (62, "a coat has no place"), (148, "there is no such hook"), (104, "the step is not 0 to 39"), (128, "the looks are not 0 to 400")]
def xs_w : List Cond := [.declares (Bundle.initS "java/lang/RuntimeException"), .declares (Bundle.initS "java/lang/Exception"), .declares (Bundle.initS Bundle.tN), .castable IAE IAE, .castable ISE ISE, .castable IOB IOB]
/-- what a throw needs of the tables -/
def XS (U : State) : Prop := (∀ w ∈ xs_w, va_Nw w U) ∧ ∀ q ∈ xs_tx, ∃ a : Nat, vk_R RX1 q.1 q.2 a U
/-- what it needs of the heap -/
def XZ (A : Nat → Prop) (U : State) (H : Heap) : Prop := vx_Zq Bundle.tN "UNASSIGNED_STACK" Bundle.steD A U H ∧ vx_Zq Bundle.tN "SUPPRESSED_SENTINEL" Bundle.listD A U H
theorem XS.warm {s U : State} (hW : s.WarmedH U.vm) (h : XS s) : XS U := by
  refine ⟨fun w hw => ?_, fun q hq => ?_⟩
  · have h1 := h.1 w hw
    simp only [xs_w, List.mem_cons, List.mem_nil_iff, or_false] at hw
    rcases hw with rfl | rfl | rfl | rfl | rfl | rfl
    · exact va_tabs rfl (rfl : (s.setVm U.vm).vm = U.vm) (by rw [Cond.declares_setVm hW.alike]; exact h1)
    · exact va_tabs rfl (rfl : (s.setVm U.vm).vm = U.vm) (by rw [Cond.declares_setVm hW.alike]; exact h1)
    · exact va_tabs rfl (rfl : (s.setVm U.vm).vm = U.vm) (by rw [Cond.declares_setVm hW.alike]; exact h1)
    · exact va_Nw.warmC hW h1
    · exact va_Nw.warmC hW h1
    · exact va_Nw.warmC hW h1
  · obtain ⟨a, ha⟩ := h.2 q hq
    exact ⟨a, vk_R.warm hW ha⟩
theorem XS.same {s U : State} (hv : U.vm = s.vm) (h : XS s) : XS U := by
  refine ⟨fun w hw => ?_, fun q hq => ?_⟩
  · have h1 := h.1 w hw
    refine va_Nw.same ?_ hv.symm h1
    simp only [xs_w, List.mem_cons, List.mem_nil_iff, or_false] at hw
    rcases hw with rfl | rfl | rfl | rfl | rfl | rfl <;> rfl
  · obtain ⟨a, ha⟩ := h.2 q hq
    exact ⟨a, vk_R.same hv ha⟩
theorem XZ.moved {A : Nat → Prop} {u U : State} {H : Heap} (hvm : u.vm.Alike U.vm) (h : XZ A u H) : XZ A U H := ⟨vx_Zq.moved hvm h.1, vx_Zq.moved hvm h.2⟩
theorem XZ.kept {A : Nat → Prop} {U : State} {H H1 : Heap} (h : XZ A U H) (hq : ∀ a : Nat, a < H.size → ¬ A a → H1[a]? = H[a]?) : XZ A U H1 := ⟨vx_Zq.kept h.1 hq, vx_Zq.kept h.2 hq⟩
theorem XZ.narrow {A B : Nat → Prop} {U : State} {H : Heap} (h : XZ A U H) (hAB : ∀ q, B q → A q) : XZ B U H := ⟨vx_Zq.narrow h.1 hAB, vx_Zq.narrow h.2 hAB⟩
/-- a throw that leaves the heap as it was, but for what is new -/
def xk (C : String → Prop) : String → State → State → Prop := fun E st t => C E ∧ st.heap.size ≤ t.heap.size ∧ ∀ q : Nat, q < st.heap.size → t.heap[q]? = st.heap[q]?
abbrev PX (D : va_G) (tys : List (ClassId × FieldType)) (As : List Value) (wc : va_W) : Array Value → State → Prop := va_Pc As (fun U => va_P D vwCl wc U.heap ∧ va_K D vwCl tys U ∧ XS U ∧ XZ (fun _ => False) U U.heap)
abbrev PXM (D : va_G) (tys : List (ClassId × FieldType)) (As : List Value) (sz : Nat) (wc : va_W) : Array Value → State → Prop := va_Pc As (fun U => U.heap.size = sz ∧ va_P D vwCl wc U.heap ∧ va_K D vwCl tys U ∧ va_D (fun _ => True) wc ∧ XS U ∧ XZ (va_A wc sz) U U.heap)
theorem px_blind {D : va_G} {tys : List (ClassId × FieldType)} {As : List Value} {wc : va_W} : FrameBlind (PX D tys As wc) := fun _ U g mk q => ⟨q.1, q.2.1, va_K.moved (u := U) (Vm.Alike.refl U.vm) q.2.2.1, XS.same (s := U) rfl q.2.2.2.1, XZ.moved (u := U) (Vm.Alike.refl U.vm) q.2.2.2.2⟩
theorem pxm_blind {D : va_G} {tys : List (ClassId × FieldType)} {As : List Value} {wc : va_W} {sz : Nat} : FrameBlind (PXM D tys As sz wc) := fun _ U g mk q => ⟨q.1, q.2.1, q.2.2.1, va_K.moved (u := U) (Vm.Alike.refl U.vm) q.2.2.2.1, q.2.2.2.2.1, XS.same (s := U) rfl q.2.2.2.2.2.1, XZ.moved (u := U) (Vm.Alike.refl U.vm) q.2.2.2.2.2.2⟩
section XT
variable {p : Program} {l : Launch} {e : Env} {R : Room} {s : State} {m : MethodId} {args : Array Value} {below : List Frame} {meth : Method} {c : Code} {H : Heap} {locs : List Loc} {cells slots : Nat} {Q : State → Prop}
variable {cc : ByteArray} {pc : Nat} {ls : Array Slot} {rest st0 : List Value} {D : va_G} {tys : List (ClassId × FieldType)}
variable {y : MethodName} {bytes : ByteArray} {maxL nL mc ms mc1 ms1 n index : Nat} {ret : Option FieldType} {ws ws' Ts : List Cond} {rm : Room} {own C0 : String} {b : Addr} {As : List Value}
variable {Qc : Array Value → State → Outcome → State → Prop} {XC : String → State → State → Prop} {C C2 : String → Prop} {free : Addr → Prop}
theorem bd_x {wc : va_W} (hy : plainName y.cls = true) (hw : ws = Cond.code y cc maxL ret :: ws') (hlen : (lg_sl As).length ≤ maxL)
    (body : ∀ (p : Program) (e : Env) (s : State) (m : MethodId) (args : Array Value) (below : List Frame) (meth : Method) (c : Code) (ls : Array Slot), CallFix p m c cc maxL s args ws y.cls → meth.sig.returnType = ret → meth.locks = false → (∀ x ∈ c.exceptionTable.toList, False) → va_K D vwCl tys s → va_P D vwCl wc s.heap → XS s → XZ (fun _ => False) s s.heap → lv_has ls maxL (lv_args 0 As) →
      W p l e rm s m args below meth c s.heap [] 0 0 (vx_MQ below Qc (xk C) args s mc ms (fun _ => False)) (F0 m 0 ls [])) : vx_Met l y ws rm (PX D tys As wc) Qc (xk C) mc ms (fun _ => False) := by
  refine vx_ofW (cc := cc) (maxL := maxL) (ret := ret) hy hw ?_
  intro p e s m args below meth c s₁ B hml hT hv
  obtain ⟨rfl, hP, hK, hX, hZ⟩ := hv
  rw [lg_entry_eq]
  exact body p e s m _ below meth c _ ⟨B.exec, B.bytes, hml, findClass_of_methodNamed B.named, atoms_spec (ws := ws) B.pre⟩ B.returns B.notSynchronized hT hK hP hX hZ (lv_entry As hlen)
theorem bd_xm {Qf : (Nat → Prop) → Array Value → State → Outcome → State → Prop} {XCf : (Nat → Prop) → String → State → State → Prop} {wc : va_W} {sz : Nat} (hy : plainName y.cls = true) (hw : ws = Cond.code y cc maxL ret :: ws') (hlen : (lg_sl As).length ≤ maxL)
    (body : ∀ (p : Program) (e : Env) (s : State) (m : MethodId) (args : Array Value) (below : List Frame) (meth : Method) (c : Code) (ls : Array Slot) (A : Nat → Prop), CallFix p m c cc maxL s args ws y.cls → meth.sig.returnType = ret → meth.locks = false → (∀ x ∈ c.exceptionTable.toList, False) → va_K D vwCl tys s → va_P D vwCl wc s.heap → va_D A wc → (∀ q : Nat, s.heap.size ≤ q → A q) → va_S A s.heap s.heap [] → XS s → XZ A s s.heap → lv_has ls maxL (lv_args 0 As) →
      W p l e rm s m args below meth c s.heap [] 0 0 (vx_MQ below (Qf A) (XCf A) args s mc ms A) (F0 m 0 ls [])) : vx_Met l y ws rm (PXM D tys As sz wc) (Qf (va_A wc sz)) (XCf (va_A wc sz)) mc ms (va_A wc sz) := by
  refine vx_ofW (cc := cc) (maxL := maxL) (ret := ret) hy hw ?_
  intro p e s m args below meth c s₁ B hml hT hv
  obtain ⟨rfl, hsz, hP, hK, hD0, hX, hZ⟩ := hv
  subst hsz
  rw [lg_entry_eq]
  exact body p e s m _ below meth c _ _ ⟨B.exec, B.bytes, hml, findClass_of_methodNamed B.named, atoms_spec (ws := ws) B.pre⟩ B.returns B.notSynchronized hT hK hP hD0.self (fun q h => Or.inr h) va_S.rf hX hZ (lv_entry As hlen)
/-- the end of a method that may throw: it returns -/
theorem ex_i {post : Int32 → Prop} {v : Int32} (hexec : p.tables.exec = Jvm.exec) (hb : c.code = cc) (hr : meth.sig.returnType = some .int) (hlocks : meth.locks = false) (hc : cells ≤ mc) (hs : slots ≤ ms) (h : post v) (hdg : decode cc pc = .ok (.ireturn, 1)) :
    W p l e R s m args below meth c s.heap [] cells slots (vx_MQ below (vp_Si post) XC args s mc ms free) (F0 m pc ls [.int v]) :=
  W.widen hc hs (vx_ret (W.iret hexec hb hr (fun t ht _ => ⟨v, rfl, h, ht⟩) (fun q hq => nomatch hq) hdg hlocks))
def vq_v (post : Prop) : Array Value → State → Outcome → State → Prop := fun _ st o t => o = .returned none ∧ post ∧ t.heap = st.heap
theorem ex_v {post : Prop} (hexec : p.tables.exec = Jvm.exec) (hb : c.code = cc) (hr : meth.sig.returnType = none) (hlocks : meth.locks = false) (hc : cells ≤ mc) (hs : slots ≤ ms) (h : post) (hdg : decode cc pc = .ok (.return_, 1)) :
    W p l e R s m args below meth c s.heap [] cells slots (vx_MQ below (vq_v post) XC args s mc ms free) (F0 m pc ls []) :=
  W.widen hc hs (vx_ret (W.vret hexec hb hr (fun t ht _ => ⟨rfl, h, ht⟩) (fun q hq => nomatch hq) hdg hlocks))
theorem ex_mi {BB : Int32 → Heap → Prop} {v : Int32} {A : Nat → Prop} (hexec : p.tables.exec = Jvm.exec) (hb : c.code = cc) (hr : meth.sig.returnType = some .int) (hlocks : meth.locks = false) (hc : cells ≤ mc) (hs : slots ≤ ms) (hS : va_S A s.heap H locs) (h : BB v H) (hdg : decode cc pc = .ok (.ireturn, 1)) :
    W p l e R s m args below meth c H locs cells slots (vx_MQ below (qm_i BB A) XC args s mc ms A) (F0 m pc ls [.int v]) :=
  W.widen hc hs (vx_ret (W.iret hexec hb hr (fun t ht _ => ⟨⟨v, rfl, by rw [ht]; exact h⟩, hS.F ht⟩) hS.2.2 hdg hlocks))
/-- 'throw new E("text")' over the heap of the start -/
theorem th_x {A : Nat → Prop} {cls text : String} {ik is ic : Nat} (hlt : l.stackTraces = false) (CF : CallFix p m c cc nL s args Ts RX1) (hX : XS s) (hZ : XZ A s s.heap) (hS : va_S A s.heap H locs)
    (hcls : Bundle.fit cls = true) (hk : Cond.classLink RX1 ik cls ∈ Ts) (hini : Cond.initialized cls ∈ Ts) (htx : (is, text) ∈ xs_tx) (hat : ∀ w ∈ (vx_atS RX1 ic cls xs_nm).filter goodWord, w ∈ Ts) (hbad : ∀ w ∈ (vx_atS RX1 ic cls xs_nm).filter (fun w => !goodWord w), w ∈ xs_w)
    (hgood : ∀ w ∈ Cond.classLink RX1 ik cls :: Cond.initialized cls :: vx_atS RX1 ic cls xs_nm, vx_ot w = true) (hsize : ls.size = nL)
    (d0 : decode cc pc = .ok (.new ik, 3)) (d3 : decode cc (pc + 3) = .ok (.dup, 1)) (d4 : decode cc (pc + 4) = .ok (.ldc is, 2)) (d6 : decode cc (pc + 6) = .ok (.invokespecial ic, 3)) (d9 : decode cc (pc + 9) = .ok (.athrow, 1))
    (hT : ∀ x ∈ c.exceptionTable.toList, False) (hR : 5 < R.frames ∧ (rest.map fun v => v.category).sum + 82 ≤ R.locals ∧ cells + 1 ≤ R.cells ∧ slots + 6 ≤ R.slots) (hlocks : meth.locks = false)
    (hx : ∀ t : State, H.size ≤ t.heap.size → (∀ q : Nat, q < H.size → t.heap[q]? = H[q]?) → XC cls s t) (hf : ∀ z ∈ locs, free z.base) (hc : cells + 1 ≤ mc) (hs : slots + 6 ≤ ms) :
    W p l e R s m args below meth c H locs cells slots (vx_MQ below Qc XC args s mc ms free) (F0 m pc ls rest) := by
  obtain ⟨hx0, hb, hml, hown, hts⟩ := CF
  obtain ⟨a, ha⟩ := hX.2 _ htx
  refine vx_throwS hx0 hb hlt hown hcls (by decide +kernel) (hts _ hk) (hts _ hini) ha (fun w hw => ?_) hgood hZ.1 hZ.2 hS (hsize.trans hml.symm) d0 d3 d4 d6 d9 (fun x h => (hT x h).elim) hR.1 hR.2.1 hR.2.2.1 hR.2.2.2 hlocks (fun t _ h1 h2 => hx t h1 h2) hf hc hs
  by_cases g : goodWord w = true
  · exact hts _ (hat w (List.mem_filter.mpr ⟨hw, g⟩))
  · have g2 : w ∈ xs_w := hbad w (List.mem_filter.mpr ⟨hw, by simpa using g⟩)
    have g3 := hgood w (List.mem_cons_of_mem _ (List.mem_cons_of_mem _ hw))
    refine va_Nw.use ?_ (hX.1 w g2)
    simp only [vx_ot, Bool.or_eq_true] at g3
    rcases g3 with g3 | g3
    · exact g3
    · exact absurd g3 g
/-- behind a call that leaves the heap as it was, or throws past this method -/
theorem xo_go {post : Prop} {Qa : State → Outcome → State → Prop} (hr : vx_Run p l e R s m args below meth c s.heap [] cells slots mc1 ms1 (F0 m pc ls st0) rest Qa (xk C2) (fun _ => False)) (hlocks : meth.locks = false) (hT : ∀ x ∈ c.exceptionTable.toList, False) (hC : ∀ (E : String) (t : State), C2 E → s.heap.size ≤ t.heap.size → (∀ q : Nat, q < s.heap.size → t.heap[q]? = s.heap[q]?) → XC E s t) (hc : cells + mc1 ≤ mc) (hs : slots + ms1 ≤ ms)
    (kk : ∀ (v : Option Value) (st₀ t : State), Qa st₀ (.returned v) t → t.heap = st₀.heap ∧ W p l e R s m args below meth c s.heap [] (cells + mc1) (slots + ms1) (vx_MQ below Qc XC args s mc ms free) (F0 m (pc + 3) ls (v.toList ++ rest))) :
    W p l e R s m args below meth c s.heap [] cells slots (vx_MQ below Qc XC args s mc ms free) (F0 m pc ls st0) := by
  intro T hT0 X
  rcases hr T hT0 X with ⟨v, st₀, t, T', L, h0, X', hL, e1, e2, hq, st⟩ | ⟨q, st₀, t, T', L, E, ce, h0, X', hL, e1, e2, ⟨hE, hz, hk⟩, hce, hcv, hcl, st⟩
  · obtain ⟨hh, k⟩ := kk v st₀ t hq
    obtain ⟨t2, a1, b1⟩ := k T' (by rw [e1, hh, h0]) (Stand.forget X' (fun q h => (hL q h).elim))
    exact ⟨t2, st t2 a1, b1⟩
  · rw [h0] at hz hk
    have X2 : Stand p l e R s m args below meth c T' [] (cells + mc1) (slots + ms1) := Stand.forget X' (fun q h => (hL q h).elim)
    obtain ⟨t2, a1, b1⟩ := vx_out (p := p) (l := l) (e := e) (R := R) (s := s) (m := m) (args := args) (below := below) (meth := meth) (c := c) (H := T'.heap) (locs := []) (cells := cells + mc1) (slots := slots + ms1) (ls := ls) (rest := rest) (Qc := Qc) (XC := XC) (free := free) (pc := pc) (E := E) (ce := ce) (q := q) (mc := mc) (ms := ms) (fun x h => (hT x h).elim) hlocks (by rw [e1]; exact hce) hcv hcl
      (fun t3 ht3 _ => hC E t3 hE (by rw [ht3, e1]; exact hz) (fun q hq => by rw [ht3, e1]; exact hk q hq)) (fun z hz => nomatch hz) hc hs T' rfl X2
    exact ⟨t2, st.trans a1, b1⟩
theorem px_sv {post : Prop} {wc : va_W} (CF : CallFix p m c cc nL s args Ts own) (hM : vx_Met l y ws rm (PX D tys As wc) (vq_v post) (xk C2) mc1 ms1 (fun _ => False)) (cw : CallB R s args own index y bytes maxL ret ws rm mc1 ms1 n ∧ (Cond.static y).before args s = true)
    (hK : va_K D vwCl tys s) (hP : va_P D vwCl wc s.heap) (hX : XS s) (hZ : XZ (fun _ => False) s s.heap)
    (hn : As.length = n) (hl : ls.size = nL) (hst : st0 = As.reverse ++ rest) (hW : (rest.map fun v => v.category).sum ≤ 8) (hdg : decode cc pc = .ok (.invokestatic index, 3)) (hf : cells + mc1 ≤ R.cells ∧ slots + ms1 ≤ R.slots)
    (hlocks : meth.locks = false) (hT : ∀ x ∈ c.exceptionTable.toList, False) (hC : ∀ (E : String) (t : State), C2 E → s.heap.size ≤ t.heap.size → (∀ q : Nat, q < s.heap.size → t.heap[q]? = s.heap[q]?) → XC E s t) (hc : cells + mc1 ≤ mc) (hs : slots + ms1 ≤ ms)
    (kk : post → W p l e R s m args below meth c s.heap [] (cells + mc1) (slots + ms1) (vx_MQ below Qc XC args s mc ms free) (F0 m (pc + 3) ls rest)) : W p l e R s m args below meth c s.heap [] cells slots (vx_MQ below Qc XC args s mc ms free) (F0 m pc ls st0) := by
  refine xo_go (post := post) (vx_runS CF hM cw ⟨px_blind, fun U hU hW => ⟨rfl, by rw [hU]; exact hP, va_K.moved hW.alike hK, XS.warm hW hX, by rw [hU]; exact XZ.moved hW.alike hZ⟩⟩ rfl hn hl hst (lv_room hW) hdg hf) hlocks hT hC hc hs (fun v st₀ t hq => ?_)
  obtain ⟨hv, hp, hh⟩ := hq
  cases hv
  exact ⟨hh, kk hp⟩
theorem px_vv {post : Prop} {wc : va_W} (CF : CallFix p m c cc nL s args Ts own) (hM : vx_Met l y ws rm (PX D tys (.ref b :: As) wc) (vq_v post) (xk C2) mc1 ms1 (fun _ => False)) (cw : CallW R s args own C0 index y bytes maxL ret ws rm mc1 ms1 n)
    (hK : va_K D vwCl tys s) (hP : va_P D vwCl wc s.heap) (hX : XS s) (hZ : XZ (fun _ => False) s s.heap) {ci : Nat} {fs : List Value} {q : vw_C} (hc0 : vwCl[ci]? = some q) (hq : q.1 = C0) (he : wc[0]? = some (b, .inr (ci, fs)))
    (hn : As.length = n) (hl : ls.size = nL) (hst : st0 = As.reverse ++ .ref b :: rest) (hW : (rest.map fun v => v.category).sum ≤ 8) (hdg : decode cc pc = .ok (.invokevirtual index, 3)) (hf : cells + mc1 ≤ R.cells ∧ slots + ms1 ≤ R.slots)
    (hlocks : meth.locks = false) (hT : ∀ x ∈ c.exceptionTable.toList, False) (hC : ∀ (E : String) (t : State), C2 E → s.heap.size ≤ t.heap.size → (∀ q : Nat, q < s.heap.size → t.heap[q]? = s.heap[q]?) → XC E s t) (hc : cells + mc1 ≤ mc) (hs : slots + ms1 ≤ ms)
    (kk : post → W p l e R s m args below meth c s.heap [] (cells + mc1) (slots + ms1) (vx_MQ below Qc XC args s mc ms free) (F0 m (pc + 3) ls rest)) : W p l e R s m args below meth c s.heap [] cells slots (vx_MQ below Qc XC args s mc ms free) (F0 m pc ls st0) := by
  refine xo_go (post := post) (vx_runV CF hM cw ⟨px_blind, by rw [← hq]; exact va_recv hK hP hc0 he, fun U hU hW => ⟨rfl, by rw [hU]; exact hP, va_K.moved hW.alike hK, XS.warm hW hX, by rw [hU]; exact XZ.moved hW.alike hZ⟩⟩ rfl hn hl hst (lv_room hW) hdg hf) hlocks hT hC hc hs (fun v st₀ t hq => ?_)
  obtain ⟨hv, hp, hh⟩ := hq
  cases hv
  exact ⟨hh, kk hp⟩
end XT
set_option maxRecDepth 20000 in
theorem xb_IAE : ∀ w ∈ (vx_atS RX1 27 IAE xs_nm).filter (fun w => !goodWord w), w ∈ xs_w := by decide +kernel
set_option maxRecDepth 20000 in
theorem xg_IAE : ∀ w ∈ Cond.classLink RX1 23 IAE :: Cond.initialized IAE :: vx_atS RX1 27 IAE xs_nm, vx_ot w = true := by decide +kernel
set_option maxRecDepth 20000 in
theorem xb_ISE : ∀ w ∈ (vx_atS RX1 38 ISE xs_nm).filter (fun w => !goodWord w), w ∈ xs_w := by decide +kernel
set_option maxRecDepth 20000 in
theorem xg_ISE : ∀ w ∈ Cond.classLink RX1 34 ISE :: Cond.initialized ISE :: vx_atS RX1 38 ISE xs_nm, vx_ot w = true := by decide +kernel
set_option maxRecDepth 20000 in
theorem xb_IOB : ∀ w ∈ (vx_atS RX1 150 IOB xs_nm).filter (fun w => !goodWord w), w ∈ xs_w := by decide +kernel
set_option maxRecDepth 20000 in
theorem xg_IOB : ∀ w ∈ Cond.classLink RX1 146 IOB :: Cond.initialized IOB :: vx_atS RX1 150 IOB xs_nm, vx_ot w = true := by decide +kernel
