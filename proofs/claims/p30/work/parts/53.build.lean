/-! a theatre that cells choose -/
section
variable {p : Program} {l : Launch} {e : Env} {R : Room} {s : State} {m : MethodId} {args : Array Value} {below : List Frame} {meth : Method} {c : Code} {H : Heap} {locs : List Loc} {cells slots : Nat} {Q : State → Prop}
variable {D : va_G} {tys : List (ClassId × FieldType)} {y : MethodName} {cc : ByteArray} {maxL mc ms : Nat} {ret : Option FieldType} {ws ws' : List Cond} {rm : Room} {As : List Value}
/-- a start with the script beside the world -/
abbrev PB (D : va_G) (tys : List (ClassId × FieldType)) (As : List Value) (sz : Nat) (wc : va_W) (b L : Nat) (xs : Nat → Int32) : Array Value → State → Prop := va_Pc As (fun U => U.heap.size = sz ∧ va_P D vwCl wc U.heap ∧ va_K D vwCl tys U ∧ va_D (fun _ => True) wc ∧ XS U ∧ XZ (va_A wc sz) U U.heap ∧ va_X b L xs U U.heap ∧ b < U.heap.size ∧ ¬ va_A wc sz b ∧ va_Nw (.methodLinkNest RL 64 yX2_init RL) U)
theorem pb_blind {wc : va_W} {sz b L : Nat} {xs : Nat → Int32} : FrameBlind (PB D tys As sz wc b L xs) := fun _ U g mk q => ⟨q.1, q.2.1, q.2.2.1, va_K.moved (u := U) (Vm.Alike.refl U.vm) q.2.2.2.1, q.2.2.2.2.1, XS.same (s := U) rfl q.2.2.2.2.2.1, XZ.moved (u := U) (Vm.Alike.refl U.vm) q.2.2.2.2.2.2.1, va_X.moved (u := U) (Vm.Alike.refl U.vm) q.2.2.2.2.2.2.2.1, q.2.2.2.2.2.2.2.2.1, q.2.2.2.2.2.2.2.2.2.1, va_Nw.same rfl (u := U) rfl q.2.2.2.2.2.2.2.2.2.2⟩
theorem bd_b {Qf : (Nat → Prop) → Array Value → State → Outcome → State → Prop} {wc : va_W} {sz b L : Nat} {xs : Nat → Int32} (hy : plainName y.cls = true) (hw : ws = Cond.code y cc maxL ret :: ws') (hlen : (lg_sl As).length ≤ maxL)
    (body : ∀ (p : Program) (e : Env) (s : State) (m : MethodId) (args : Array Value) (below : List Frame) (meth : Method) (c : Code) (ls : Array Slot) (A : Nat → Prop), CallFix p m c cc maxL s args ws y.cls → meth.sig.returnType = ret → meth.locks = false → va_K D vwCl tys s → va_P D vwCl wc s.heap → va_D A wc → (∀ q : Nat, s.heap.size ≤ q → A q) → va_S A s.heap s.heap [] → XS s → XZ A s s.heap → va_X b L xs s s.heap → b < s.heap.size → ¬ A b → va_Nw (.methodLinkNest RL 64 yX2_init RL) s → lv_has ls maxL (lv_args 0 As) →
      W p l e rm s m args below meth c s.heap [] 0 0 (MQ below (Qf A) args s mc ms A) (F0 m 0 ls [])) : Met l y ws rm (PB D tys As sz wc b L xs) (Qf (va_A wc sz)) mc ms (va_A wc sz) := by
  refine Met.ofW (cc := cc) (maxL := maxL) (ret := ret) hy hw ?_
  intro p e s m args below meth c s₁ B hml hv
  obtain ⟨rfl, hsz, hP, hK, hD0, hX, hZ, hXs, hbl, hbA, hNx⟩ := hv
  subst hsz
  rw [lg_entry_eq]
  exact body p e s m _ below meth c _ _ ⟨B.exec, B.bytes, hml, findClass_of_methodNamed B.named, atoms_spec (ws := ws) B.pre⟩ B.returns B.notSynchronized hK hP hD0.self (fun q h => Or.inr h) va_S.rf hX hZ hXs hbl hbA hNx (lv_entry As hlen)
theorem psc_pre {A : Nat → Prop} {b L : Nat} {xs : Nat → Int32} (hXs : va_X b L xs s s.heap) (hbl : b < s.heap.size) (hbA : ¬ A b) (hS : va_S A s.heap H locs) : PreS s H (PSc b L xs As) As :=
  ⟨psc_blind, fun U hU hW => ⟨rfl, by rw [hU]; exact va_X.moved hW.alike (hXs.kept (hS.2.1 b hbl hbA)), by rw [hU]; exact Nat.lt_of_lt_of_le hbl hS.1⟩⟩
theorem pxm_ps {wc : va_W} {A0 A : Nat → Prop} (hK : va_K D vwCl tys s) (hP : va_P D vwCl wc H) (hD : va_D A0 wc) (hX : XS s) (hZ : XZ A s H) (hs : ∀ q, va_A wc H.size q → A q) : PreS s H (PXM D tys As H.size wc) As :=
  ⟨pxm_blind, fun U hU hW => ⟨rfl, by rw [hU], by rw [hU]; exact hP, va_K.moved hW.alike hK, hD.weaken (fun _ _ _ _ => trivial), XS.warm hW hX, by rw [hU]; exact XZ.moved hW.alike (hZ.narrow hs)⟩⟩
theorem pb_pre {wc : va_W} {A0 A : Nat → Prop} {b L : Nat} {xs : Nat → Int32} (hK : va_K D vwCl tys s) (hP : va_P D vwCl wc H) (hD : va_D A0 wc) (hX : XS s) (hZ : XZ A s H) (hs : ∀ q, va_A wc H.size q → A q) (hXs : va_X b L xs s s.heap) (hbl : b < s.heap.size) (hbA : ¬ A b) (hS : va_S A s.heap H locs) (hNx : va_Nw (.methodLinkNest RL 64 yX2_init RL) s) : PreS s H (PB D tys As H.size wc b L xs) As :=
  ⟨pb_blind, fun U hU hW => ⟨rfl, by rw [hU], by rw [hU]; exact hP, va_K.moved hW.alike hK, hD.weaken (fun _ _ _ _ => trivial), XS.warm hW hX, by rw [hU]; exact XZ.moved hW.alike (hZ.narrow hs), by rw [hU]; exact va_X.moved hW.alike (hXs.kept (hS.2.1 b hbl hbA)), by rw [hU]; exact Nat.lt_of_lt_of_le hbl hS.1, fun z => hbA (hs b z), va_Nw.warmM hW hNx⟩⟩
end
theorem k_L_build : yL_build.cls = RL ∧ yL_build.cls ≠ "java/lang/invoke/MethodHandle" ∧ yL_build.cls ≠ "java/lang/invoke/VarHandle" ∧ (parseMethodDescriptor yL_build.desc).map (fun d => d.parameters.length) = some 2 := by decide +kernel
set_option maxHeartbeats 8000000 in
set_option maxRecDepth 100000 in
theorem m_L_build (l : Launch) (hlt : l.stackTraces = false) (D : va_G) (cI cZ : ClassId) (b L : Nat) (xs : Nat → Int32) (hL : L ≤ 260) (o r t a1 a2 b1 b2 : Nat) {F G : Nat → Int32} (S : RS 8 0 F G (fun _ => -1) (fun _ => nI 0)) (n2 w2 : Nat) (F2 G2 : Nat → Int32) (sz : Nat) : Met l yL_build wsL_build ({ frames := 9, cells := 391, slots := 6908, locals := 163 } : Room) (PB D [(cI, .int), (cZ, .boolean)] [.ref o, .ref b] sz (clw cI o r t a1 a2 b1 b2 8 0 F G n2 w2 F2 G2) b L xs) (qm_r ((fun (A : Nat → Prop) (rr : Option Nat) (H1 : Heap) => ∃ u : Nat, rr = some u ∧ ∃ (n w : Nat) (f g : Nat → Int32), JJ D cI cZ o r t a1 a2 b1 b2 u A H1 n w f g) (va_A (clw cI o r t a1 a2 b1 b2 8 0 F G n2 w2 F2 G2) sz)) (va_A (clw cI o r t a1 a2 b1 b2 8 0 F G n2 w2 F2 G2) sz)) 391 6908 (va_A (clw cI o r t a1 a2 b1 b2 8 0 F G n2 w2 F2 G2) sz) := by
  refine bd_b (Qf := (fun A => qm_r ((fun (A : Nat → Prop) (rr : Option Nat) (H1 : Heap) => ∃ u : Nat, rr = some u ∧ ∃ (n w : Nat) (f g : Nat → Int32), JJ D cI cZ o r t a1 a2 b1 b2 u A H1 n w f g) A) A)) (cc := cL_build) (maxL := 5) (ret := (some (.object "CoatHooksLaw$Sim"))) (by decide) rfl (Nat.le_of_ble_eq_true rfl) ?_
  intro p e s m args below meth c ls A CF hr hlocks hK hP hD hA hS hX hZ hXs hbl hbA hNx hl
  obtain ⟨hx, hb, hml, hown, hts⟩ := id CF
  have hl : lv_has ls 5 [(0, .ref o), (1, .ref b)] := hl
  have hP : va_P D vwCl [(o, .inr (1, [.ref r, .ref t])), (r, .inr (0, [.ref a1, .ref a2, .int (nI 8), .int (nI 0)])), (a1, .inl (cI, 40, .inl F)), (a2, .inl (cI, 40, .inl G)), (t, .inr (0, [.ref b1, .ref b2, .int (nI n2), .int (nI w2)])), (b1, .inl (cI, 40, .inl F2)), (b2, .inl (cI, 40, .inl G2))] s.heap := hP
  have hD : va_D A [(o, .inr (1, [.ref r, .ref t])), (r, .inr (0, [.ref a1, .ref a2, .int (nI 8), .int (nI 0)])), (a1, .inl (cI, 40, .inl F)), (a2, .inl (cI, 40, .inl G)), (t, .inr (0, [.ref b1, .ref b2, .int (nI n2), .int (nI w2)])), (b1, .inl (cI, 40, .inl F2)), (b2, .inl (cI, 40, .inl G2))] := hD
  generalize hH0 : s.heap = H at hP
  have hS : va_S A s.heap H [] := by rw [← hH0]; exact va_S.rf
  generalize hlc0 : ([] : List Loc) = locs at hS ⊢
  refine va_new (ci := 2) (fs := [.int (nI 0), .null, .null, .null]) (C := RX2) (T := TX2) (N := 4) hx hb hts (fun _ h => (List.mem_cons_of_mem _ (List.mem_append_left _ (List.mem_append_left _ (List.mem_append_left _ (List.mem_append_left _ (List.mem_append_right _ h))))))) tyX2 tyX2_ok hown (hts _ (List.mem_of_getElem? (i := 1) rfl)) (hts _ (List.mem_of_getElem? (i := 2) rfl)) (hts _ (List.mem_of_getElem? (i := 3) rfl)) hK hP hD hS hA rfl (fun j hj => by rcases (show j = 0 ∨ j = 1 ∨ j = 2 ∨ j = 3 by omega) with rfl | rfl | rfl | rfl <;> rfl) (Nat.le_of_ble_eq_true rfl) (Nat.le_of_ble_eq_true rfl) dL_build_0 (fun q0 H hP hD hS => ?_)
  have hP : va_P D vwCl [(o, .inr (1, [.ref r, .ref t])), (r, .inr (0, [.ref a1, .ref a2, .int (nI 8), .int (nI 0)])), (a1, .inl (cI, 40, .inl F)), (a2, .inl (cI, 40, .inl G)), (t, .inr (0, [.ref b1, .ref b2, .int (nI n2), .int (nI w2)])), (b1, .inl (cI, 40, .inl F2)), (b2, .inl (cI, 40, .inl G2)), (q0, .inr (2, [.int (nI 0), .null, .null, .null]))] H := hP
  have hD : va_D A [(o, .inr (1, [.ref r, .ref t])), (r, .inr (0, [.ref a1, .ref a2, .int (nI 8), .int (nI 0)])), (a1, .inl (cI, 40, .inl F)), (a2, .inl (cI, 40, .inl G)), (t, .inr (0, [.ref b1, .ref b2, .int (nI n2), .int (nI w2)])), (b1, .inl (cI, 40, .inl F2)), (b2, .inl (cI, 40, .inl G2)), (q0, .inr (2, [.int (nI 0), .null, .null, .null]))] := hD
  refine lv_dup hx hb dL_build_3 rfl ?_
  have hPc : va_P D vwCl [(q0, .inr (2, [.int (nI 0), .null, .null, .null]))] H := hP.sub [7] rfl
  have hDc : va_D A [(q0, .inr (2, [.int (nI 0), .null, .null, .null]))] := hD.sub [7] (by decide) rfl
  have hFc := va_free (wc := [(q0, .inr (2, [.int (nI 0), .null, .null, .null]))]) hD hS hA [7] rfl
  refine pq_v (va_runIN (As := []) (rest := [.ref q0]) CF (m_X2_init l D cI cZ q0 H.size) ⟨va_cnB 0 hts gL_build_X2_init_n64 rfl rfl rfl hNx (hts _ (List.mem_of_getElem? (i := 3) rfl)) k_X2_init ⟨Nat.le_of_ble_eq_true rfl, Nat.le_of_ble_eq_true rfl⟩, rfl, (hts _ (List.mem_of_getElem? (i := 4) rfl))⟩ (ms_pre hK hPc hDc) rfl rfl hl.1 rfl (lv_room (Nat.le_of_ble_eq_true rfl)) dL_build_4 ⟨Nat.le_of_ble_eq_true rfl, Nat.le_of_ble_eq_true rfl⟩) hS hFc (fun H locs hB hk1 hS => ?_)
  obtain ⟨c1, c2, c3, C, V, Z, hC0, hZ0, hP1, hD1⟩ := hB
  obtain ⟨hP, hD⟩ := va_join (wr := [(o, .inr (1, [.ref r, .ref t])), (r, .inr (0, [.ref a1, .ref a2, .int (nI 8), .int (nI 0)])), (a1, .inl (cI, 40, .inl F)), (a2, .inl (cI, 40, .inl G)), (t, .inr (0, [.ref b1, .ref b2, .int (nI n2), .int (nI w2)])), (b1, .inl (cI, 40, .inl F2)), (b2, .inl (cI, 40, .inl G2))]) (w1 := [(q0, .inr (2, [.int (nI 0), .ref c1, .ref c2, .ref c3])), (c1, .inl (cI, 8, .inl C)), (c2, .inl (cI, 8, .inl V)), (c3, .inl (cZ, 8, .inl Z))]) hP hD [7] [0, 1, 2, 3, 4, 5, 6] rfl rfl (by decide) (by decide) hk1 hFc hP1 hD1
  have hP : va_P D vwCl [(o, .inr (1, [.ref r, .ref t])), (r, .inr (0, [.ref a1, .ref a2, .int (nI 8), .int (nI 0)])), (a1, .inl (cI, 40, .inl F)), (a2, .inl (cI, 40, .inl G)), (t, .inr (0, [.ref b1, .ref b2, .int (nI n2), .int (nI w2)])), (b1, .inl (cI, 40, .inl F2)), (b2, .inl (cI, 40, .inl G2)), (q0, .inr (2, [.int (nI 0), .ref c1, .ref c2, .ref c3])), (c1, .inl (cI, 8, .inl C)), (c2, .inl (cI, 8, .inl V)), (c3, .inl (cZ, 8, .inl Z))] H := hP
  have hD : va_D A [(o, .inr (1, [.ref r, .ref t])), (r, .inr (0, [.ref a1, .ref a2, .int (nI 8), .int (nI 0)])), (a1, .inl (cI, 40, .inl F)), (a2, .inl (cI, 40, .inl G)), (t, .inr (0, [.ref b1, .ref b2, .int (nI n2), .int (nI w2)])), (b1, .inl (cI, 40, .inl F2)), (b2, .inl (cI, 40, .inl G2)), (q0, .inr (2, [.int (nI 0), .ref c1, .ref c2, .ref c3])), (c1, .inl (cI, 8, .inl C)), (c2, .inl (cI, 8, .inl V)), (c3, .inl (cZ, 8, .inl Z))] := hD
  refine lv_astore_n (lv' := [(2, .ref q0), (0, .ref o), (1, .ref b)]) hx hb dL_build_7 rfl hl (by decide) rfl (fun ls hl => ?_)
  refine lv_iconst (v := nI 3) hx hb dL_build_8 (by decide) ?_
  refine lv_aload_n hx hb dL_build_9 rfl (lv_at hl 2 rfl) ?_
  refine lv_iconst (v := nI 0) hx hb dL_build_10 (by decide) ?_
  refine ps_i (va_runS (As := [.ref b, .int (nI 0)]) (rest := [.int (nI 3)]) CF (m_L_cell l b L xs 0 (by omega) (by omega)) (va_cwS 2 hts gL_build_L_cell rfl rfl rfl k_L_cell.2 ⟨Nat.le_of_ble_eq_true rfl, Nat.le_of_ble_eq_true rfl⟩) (psc_pre hXs hbl hbA hS) rfl rfl hl.1 rfl (lv_room (Nat.le_of_ble_eq_true rfl)) dL_build_11 ⟨by show _ ≤ 391; omega, by show _ ≤ 6908; omega⟩) (fun y11 _ => ?_)
  refine lv_bipush (v := nI 40) hx hb dL_build_14 (by decide) ?_
  refine pz_p (wc := []) CF (m_L_below l D cI cZ y11 40 (by omega) (by omega)) (va_cwS 2 hts gL_build_L_below rfl rfl rfl k_L_below.2 ⟨Nat.le_of_ble_eq_true rfl, Nat.le_of_ble_eq_true rfl⟩) hK (fun k q h => by simp at h) rfl hl.1 rfl (Nat.le_of_ble_eq_true rfl) dL_build_16 ⟨by show _ ≤ 391; omega, by show _ ≤ 6908; omega⟩ (fun r1 hr1 => ?_)
  obtain ⟨j16, hj16, ej16⟩ := hr1
  refine tp_i (y := nI j16) ej16 ?_
  refine an_add hx hb dL_build_19 ?_
  refine lv_istore_n (lv' := [(3, .int (nI (3 + j16))), (2, .ref q0), (0, .ref o), (1, .ref b)]) hx hb dL_build_20 rfl hl (by decide) rfl (fun ls hl => ?_)
  refine lv_iconst (v := nI 0) hx hb dL_build_21 (by decide) ?_
  refine lv_istore (lv' := [(4, .int (nI 0)), (3, .int (nI (3 + j16))), (2, .ref q0), (0, .ref o), (1, .ref b)]) hx hb dL_build_22 hl (by decide) rfl (fun ls hl => ?_)
  have LP24 : ∀ (q i : Nat) (n w c1 c2 c3 n2 w2 : Nat) (F G f g F2 G2 C V Z : Nat → Int32), i + q = 3 + j16 → RS n w F G f g → SS n w C V Z f g → Ds n f → ∀ (H : Heap) (locs : List Loc), va_P D vwCl [(o, .inr (1, [.ref r, .ref t])), (r, .inr (0, [.ref a1, .ref a2, .int (nI n), .int (nI w)])), (a1, .inl (cI, 40, .inl F)), (a2, .inl (cI, 40, .inl G)), (t, .inr (0, [.ref b1, .ref b2, .int (nI n2), .int (nI w2)])), (b1, .inl (cI, 40, .inl F2)), (b2, .inl (cI, 40, .inl G2)), (q0, .inr (2, [.int (nI w), .ref c1, .ref c2, .ref c3])), (c1, .inl (cI, n, .inl C)), (c2, .inl (cI, n, .inl V)), (c3, .inl (cZ, n, .inl Z))] H → va_D A [(o, .inr (1, [.ref r, .ref t])), (r, .inr (0, [.ref a1, .ref a2, .int (nI n), .int (nI w)])), (a1, .inl (cI, 40, .inl F)), (a2, .inl (cI, 40, .inl G)), (t, .inr (0, [.ref b1, .ref b2, .int (nI n2), .int (nI w2)])), (b1, .inl (cI, 40, .inl F2)), (b2, .inl (cI, 40, .inl G2)), (q0, .inr (2, [.int (nI w), .ref c1, .ref c2, .ref c3])), (c1, .inl (cI, n, .inl C)), (c2, .inl (cI, n, .inl V)), (c3, .inl (cZ, n, .inl Z))] → va_S A s.heap H locs → ∀ (ls : Array Slot), lv_has ls 5 [(4, .int (nI i)), (3, .int (nI (3 + j16))), (2, .ref q0), (0, .ref o), (1, .ref b)] → W p l e ({ frames := 9, cells := 391, slots := 6908, locals := 163 } : Room) s m args below meth c H locs (4 + 9 * i) (28 + 160 * i) (MQ below (qm_r ((fun (A : Nat → Prop) (rr : Option Nat) (H1 : Heap) => ∃ u : Nat, rr = some u ∧ ∃ (n w : Nat) (f g : Nat → Int32), JJ D cI cZ o r t a1 a2 b1 b2 u A H1 n w f g) A) A) args s 391 6908 A) (F0 m 24 ls []) := by
    intro q
    induction q with
    | zero =>
      intro i n w c1 c2 c3 n2 w2 F G f g F2 G2 C V Z h1 S S2 hd H locs hP hD hS ls hl
      refine lv_iload hx hb dL_build_24 (lv_at hl 0 rfl) ?_
      refine lv_iload_n hx hb dL_build_26 rfl (lv_at hl 1 rfl) ?_
      refine bn_ge (tgt := 71) hx hb dL_build_27 (by decide) (by omega) (by omega) (fun c27 => ?_) (fun c27 => ?_)
      · skip
        refine lv_aload_n hx hb dL_build_71 rfl (lv_at hl 2 rfl) ?_
        refine w_widen (k := 391) (n := 6908) (by omega) (by omega) ?_
        exact em_r (r := some q0) hx hb hr hlocks hS rfl (⟨q0, rfl, n, w, f, g, c1, c2, c3, n2, w2, F, G, F2, G2, C, V, Z, S, S2, hd, hP, hD⟩) dL_build_72
      · skip
        omega
    | succ q ih =>
      intro i n w c1 c2 c3 n2 w2 F G f g F2 G2 C V Z h1 S S2 hd H locs hP hD hS ls hl
      refine lv_iload hx hb dL_build_24 (lv_at hl 0 rfl) ?_
      refine lv_iload_n hx hb dL_build_26 rfl (lv_at hl 1 rfl) ?_
      refine bn_ge (tgt := 71) hx hb dL_build_27 (by decide) (by omega) (by omega) (fun c27 => ?_) (fun c27 => ?_)
      · skip
        omega
      · skip
        refine lv_aload_n hx hb dL_build_30 rfl (lv_at hl 3 rfl) ?_
        refine lv_aload_n hx hb dL_build_31 rfl (lv_at hl 2 rfl) ?_
        refine lv_aload_n hx hb dL_build_32 rfl (lv_at hl 4 rfl) ?_
        refine lv_iconst (v := nI 1) hx hb dL_build_33 (by decide) ?_
        refine lv_iload hx hb dL_build_34 (lv_at hl 0 rfl) ?_
        refine lv_bipush (v := nI 15) hx hb dL_build_36 (by decide) ?_
        refine an_rem hx hb (by omega) (by omega) (by omega) dL_build_38 ?_
        refine an_add hx hb dL_build_39 ?_
        refine ps_i (va_runS (As := [.ref b, .int (nI (1 + (i % 15)))]) (rest := [.ref q0, .ref o]) CF (m_L_cell l b L xs (1 + (i % 15)) (by omega) (by omega)) (va_cwS 2 hts gL_build_L_cell rfl rfl rfl k_L_cell.2 ⟨Nat.le_of_ble_eq_true rfl, Nat.le_of_ble_eq_true rfl⟩) (psc_pre hXs hbl hbA hS) rfl rfl hl.1 rfl (lv_room (Nat.le_of_ble_eq_true rfl)) dL_build_40 ⟨by show _ ≤ 391; omega, by show _ ≤ 6908; omega⟩) (fun y40 _ => ?_)
        refine lv_iload hx hb dL_build_43 (lv_at hl 0 rfl) ?_
        refine lv_bipush (v := nI 15) hx hb dL_build_45 (by decide) ?_
        refine an_div hx hb (by omega) (by omega) (by omega) dL_build_47 ?_
        refine lv_iconst (v := nI 3) hx hb dL_build_48 (by decide) ?_
        refine an_mul hx hb dL_build_49 ?_
        refine lv_ishr hx hb dL_build_50 ?_
        refine lv_bipush (v := nI 41) hx hb dL_build_51 (by decide) ?_
        refine lv_iload hx hb dL_build_53 (lv_at hl 0 rfl) ?_
        refine an_mul hx hb dL_build_55 ?_
        refine lv_iadd hx hb dL_build_56 ?_
        have hPc : va_P D vwCl [(o, .inr (1, [.ref r, .ref t])), (r, .inr (0, [.ref a1, .ref a2, .int (nI n), .int (nI w)])), (a1, .inl (cI, 40, .inl F)), (a2, .inl (cI, 40, .inl G)), (t, .inr (0, [.ref b1, .ref b2, .int (nI n2), .int (nI w2)])), (b1, .inl (cI, 40, .inl F2)), (b2, .inl (cI, 40, .inl G2)), (q0, .inr (2, [.int (nI w), .ref c1, .ref c2, .ref c3])), (c1, .inl (cI, n, .inl C)), (c2, .inl (cI, n, .inl V)), (c3, .inl (cZ, n, .inl Z))] H := hP.sub [0, 1, 2, 3, 4, 5, 6, 7, 8, 9, 10] rfl
        have hDc : va_D A [(o, .inr (1, [.ref r, .ref t])), (r, .inr (0, [.ref a1, .ref a2, .int (nI n), .int (nI w)])), (a1, .inl (cI, 40, .inl F)), (a2, .inl (cI, 40, .inl G)), (t, .inr (0, [.ref b1, .ref b2, .int (nI n2), .int (nI w2)])), (b1, .inl (cI, 40, .inl F2)), (b2, .inl (cI, 40, .inl G2)), (q0, .inr (2, [.int (nI w), .ref c1, .ref c2, .ref c3])), (c1, .inl (cI, n, .inl C)), (c2, .inl (cI, n, .inl V)), (c3, .inl (cZ, n, .inl Z))] := hD.sub [0, 1, 2, 3, 4, 5, 6, 7, 8, 9, 10] (by decide) rfl
        have hFc := va_free (wc := [(o, .inr (1, [.ref r, .ref t])), (r, .inr (0, [.ref a1, .ref a2, .int (nI n), .int (nI w)])), (a1, .inl (cI, 40, .inl F)), (a2, .inl (cI, 40, .inl G)), (t, .inr (0, [.ref b1, .ref b2, .int (nI n2), .int (nI w2)])), (b1, .inl (cI, 40, .inl F2)), (b2, .inl (cI, 40, .inl G2)), (q0, .inr (2, [.int (nI w), .ref c1, .ref c2, .ref c3])), (c1, .inl (cI, n, .inl C)), (c2, .inl (cI, n, .inl V)), (c3, .inl (cZ, n, .inl Z))]) hD hS hA [0, 1, 2, 3, 4, 5, 6, 7, 8, 9, 10] rfl
        refine pq_i (vx_runSW (rest := []) CF (m_L_act l hlt D cI cZ q0 c1 c2 c3 o r t a1 a2 b1 b2 S n2 w2 F2 G2 S2 hd ((y40 >>> ((nI ((i / 15) * 3)) &&& 31)) + (nI (41 * i))) H.size) (vx_cwSW 3 hts gL_build_L_act rfl rfl rfl k_L_act.2 ⟨Nat.le_of_ble_eq_true rfl, Nat.le_of_ble_eq_true rfl⟩) (pxm_ps hK hPc hDc hX (hZ.kept hS.2.1) hFc) rfl rfl hl.1 rfl (lv_room (Nat.le_of_ble_eq_true rfl)) dL_build_57 ⟨by show _ ≤ 391; omega, by show _ ≤ 6908; omega⟩) hS hFc (fun r1 H locs hB hk1 hS => ?_)
        obtain ⟨ea, n, w, f, g, c1, c2, c3, n2, w2, F, G, F2, G2, C, V, Z, S, S2, hd, hP, hD1⟩ := hB
        have hP : va_P D vwCl [(o, .inr (1, [.ref r, .ref t])), (r, .inr (0, [.ref a1, .ref a2, .int (nI n), .int (nI w)])), (a1, .inl (cI, 40, .inl F)), (a2, .inl (cI, 40, .inl G)), (t, .inr (0, [.ref b1, .ref b2, .int (nI n2), .int (nI w2)])), (b1, .inl (cI, 40, .inl F2)), (b2, .inl (cI, 40, .inl G2)), (q0, .inr (2, [.int (nI w), .ref c1, .ref c2, .ref c3])), (c1, .inl (cI, n, .inl C)), (c2, .inl (cI, n, .inl V)), (c3, .inl (cZ, n, .inl Z))] H := hP
        have hD : va_D A [(o, .inr (1, [.ref r, .ref t])), (r, .inr (0, [.ref a1, .ref a2, .int (nI n), .int (nI w)])), (a1, .inl (cI, 40, .inl F)), (a2, .inl (cI, 40, .inl G)), (t, .inr (0, [.ref b1, .ref b2, .int (nI n2), .int (nI w2)])), (b1, .inl (cI, 40, .inl F2)), (b2, .inl (cI, 40, .inl G2)), (q0, .inr (2, [.int (nI w), .ref c1, .ref c2, .ref c3])), (c1, .inl (cI, n, .inl C)), (c2, .inl (cI, n, .inl V)), (c3, .inl (cZ, n, .inl Z))] := hD1.weaken (fun _ _ _ h => hFc _ h)
        refine tp_i (y := nI 1) ea ?_
        refine bz_ne (tgt := 65) hx hb dL_build_60 (by decide) (by omega) (fun c60 => ?_) (fun c60 => ?_)
        · skip
          refine lv_iinc (v := (nI (i + 1))) (lv' := [(4, .int (nI (i + 1))), (3, .int (nI (3 + j16))), (2, .ref q0), (0, .ref o), (1, .ref b)]) hx hb dL_build_65 hl (k := 0) rfl (inc1 _) (by decide) rfl (fun ls hl => ?_)
          refine lv_goto (tgt := 24) hx hb dL_build_68 (by decide) ?_
          refine w_widen (k := 4 + 9 * (i + 1)) (n := 28 + 160 * (i + 1)) (by omega) (by omega) ?_
          exact ih (i + 1) n w c1 c2 c3 n2 w2 F G f g F2 G2 C V Z (by omega) S S2 hd _ _ hP hD hS _ (lv_sub hl [0, 1, 2, 3, 4] rfl)
        · skip
          omega
  exact LP24 (3 + j16) 0 8 0 c1 c2 c3 n2 w2 F G (fun _ => -1) (fun _ => nI 0) F2 G2 C V Z (Nat.zero_add _) S (SS.clear (by decide) (by decide) (by decide) hC0 hZ0) Ds_free _ _ hP hD hS _ (lv_sub hl [0, 1, 2, 3, 4] rfl)
