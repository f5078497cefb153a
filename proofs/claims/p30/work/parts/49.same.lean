theorem hv_m {n : Nat} {f g : Nat → Int32} {a b : Int32} (h : a < 0) (hb : (a = -1 ∧ b = nI 0) ∨ ∃ k : Nat, k < n ∧ a = nI k ∧ b = g k ∧ 0 ≤ f k) (hn : n ≤ 40) : a = -1 := by
  rcases hb with ⟨h1, -⟩ | ⟨k, hk, h1, -⟩
  · exact h1
  · rw [h1] at h; exact absurd h (nI_pos (by omega))
theorem en_zm {p : Program} {l : Launch} {e : Env} {R : Room} {s : State} {m : MethodId} {args : Array Value} {below : List Frame} {meth : Method} {c : Code} {cells slots pc : Nat} {cc : ByteArray} {ls : Array Slot} {v V : Int32} (hexec : p.tables.exec = Jvm.exec) (hb : c.code = cc) (hr : meth.sig.returnType = some .boolean) (hlocks : meth.locks = false) (h01 : v = 0 ∨ v = 1) (h : v = V) (hdg : decode cc pc = .ok (.ireturn, 1)) :
    W p l e R s m args below meth c s.heap [] cells slots (MQ below (vp_Si (fun r => r = V)) args s cells slots (fun _ => False)) (F0 m pc ls [.int v]) :=
  W.zret hexec hb hr (by rcases h01 with rfl | rfl <;> rfl) (fun t ht _ => ⟨v, rfl, h, ht⟩) (fun q hq => nomatch hq) hdg hlocks
theorem bd_pxm {l : Launch} {D : va_G} {tys : List (ClassId × FieldType)} {As : List Value} {y : MethodName} {cc : ByteArray} {maxL mc ms : Nat} {ret : Option FieldType} {ws ws' : List Cond} {rm : Room} {Qc : Array Value → State → Outcome → State → Prop} {wc : va_W} (hy : plainName y.cls = true) (hw : ws = Cond.code y cc maxL ret :: ws') (hlen : (lg_sl As).length ≤ maxL)
    (body : ∀ (p : Program) (e : Env) (s : State) (m : MethodId) (args : Array Value) (below : List Frame) (meth : Method) (c : Code) (ls : Array Slot), CallFix p m c cc maxL s args ws y.cls → meth.sig.returnType = ret → meth.locks = false → va_K D vwCl tys s → va_P D vwCl wc s.heap → XS s → XZ (fun _ => False) s s.heap → lv_has ls maxL (lv_args 0 As) →
      W p l e rm s m args below meth c s.heap [] 0 0 (MQ below Qc args s mc ms (fun _ => False)) (F0 m 0 ls [])) : Met l y ws rm (PX D tys As wc) Qc mc ms (fun _ => False) := by
  refine Met.ofW (cc := cc) (maxL := maxL) (ret := ret) hy hw ?_
  intro p e s m args below meth c s₁ B hml hv
  obtain ⟨rfl, hP, hK, hX, hZ⟩ := hv
  rw [lg_entry_eq]
  exact body p e s m _ below meth c _ ⟨B.exec, B.bytes, hml, findClass_of_methodNamed B.named, atoms_spec (ws := ws) B.pre⟩ B.returns B.notSynchronized hK hP hX hZ (lv_entry As hlen)
theorem add_n0 (y : Int32) : y + nI 0 = y := Int32.add_zero y
theorem hv_q {a : Int32} (h : ¬ a < 0) : ¬ a = -1 := fun e => by rw [e] at h; exact absurd h (by decide)
theorem lt_of_nge {x : Int32} (h : ¬ 0 ≤ x) : x < 0 := by rw [Int32.le_iff_toInt_le] at h; rw [Int32.lt_iff_toInt_lt]; omega
theorem l_if {a b : Nat} : (if a < b then b else a) = (if a < b then b else a) := rfl
theorem k_X2_isSame : yX2_isSame.cls = RX2 ∧ yX2_isSame.cls ≠ "java/lang/invoke/MethodHandle" ∧ yX2_isSame.cls ≠ "java/lang/invoke/VarHandle" ∧ (parseMethodDescriptor yX2_isSame.desc).map (fun d => d.parameters.length) = some 1 := by decide +kernel
set_option maxHeartbeats 8000000 in
set_option maxRecDepth 100000 in
theorem m_X2_isSame (l : Launch) (hlt : l.stackTraces = false) (D : va_G) (cI cZ : ClassId) (u c1 c2 c3 : Nat) (o r t a1 a2 b1 b2 : Nat) {n w : Nat} {F G f g : Nat → Int32} (S : RS n w F G f g) (n2 w2 : Nat) (F2 G2 : Nat → Int32) {C V Z : Nat → Int32} (S2 : SS n w C V Z f g) (hnn : NN) : Met l yX2_isSame wsX2_isSame ({ frames := 8, cells := 2, slots := 12, locals := 132 } : Room) (PX D [(cI, .int), (cZ, .boolean)] [.ref u, .ref o] ((smw cI cZ u c1 c2 c3 n w C V Z) ++ (clw cI o r t a1 a2 b1 b2 n w F G n2 w2 F2 G2))) (vp_Si (fun r => r = nI 1)) 2 12 (fun _ => False) := by
  obtain ⟨hn3, hn, hw2, hF, hG, hO⟩ := id S
  obtain ⟨-, -, -, hC, hV, hZv, -⟩ := id S2
  refine bd_pxm (cc := cX2_isSame) (maxL := 11) (ret := (some .boolean)) (by decide) rfl (Nat.le_of_ble_eq_true rfl) ?_
  intro p e s m args below meth c ls CF hr hlocks hK hP hX hZ0 hl
  obtain ⟨hx, hb, hml, hown, hts⟩ := id CF
  have hl : lv_has ls 11 [(0, .ref u), (1, .ref o)] := hl
  have hP : va_P D vwCl [(u, .inr (2, [.int (nI w), .ref c1, .ref c2, .ref c3])), (c1, .inl (cI, n, .inl C)), (c2, .inl (cI, n, .inl V)), (c3, .inl (cZ, n, .inl Z)), (o, .inr (1, [.ref r, .ref t])), (r, .inr (0, [.ref a1, .ref a2, .int (nI n), .int (nI w)])), (a1, .inl (cI, 40, .inl F)), (a2, .inl (cI, 40, .inl G)), (t, .inr (0, [.ref b1, .ref b2, .int (nI n2), .int (nI w2)])), (b1, .inl (cI, 40, .inl F2)), (b2, .inl (cI, 40, .inl G2))] s.heap := hP
  have hK1 : va_K D vwCl [(cI, .int)] s := hK.sub [0] rfl
  refine lv_iconst (v := nI 0) hx hb dX2_isSame_0 (by decide) ?_
  refine lv_istore_n (lv' := [(2, .int (nI 0)), (0, .ref u), (1, .ref o)]) hx hb dX2_isSame_1 rfl hl (by decide) rfl (fun ls hl => ?_)
  refine lv_iconst (v := nI 0) hx hb dX2_isSame_2 (by decide) ?_
  refine lv_istore_n (lv' := [(3, .int (nI 0)), (2, .int (nI 0)), (0, .ref u), (1, .ref o)]) hx hb dX2_isSame_3 rfl hl (by decide) rfl (fun ls hl => ?_)
  refine lv_iconst (v := (-1)) hx hb dX2_isSame_4 (by decide) ?_
  refine lv_istore (lv' := [(4, .int (-1)), (3, .int (nI 0)), (2, .int (nI 0)), (0, .ref u), (1, .ref o)]) hx hb dX2_isSame_5 hl (by decide) rfl (fun ls hl => ?_)
  refine lv_iconst (v := (-1)) hx hb dX2_isSame_7 (by decide) ?_
  refine lv_istore (lv' := [(5, .int (-1)), (4, .int (-1)), (3, .int (nI 0)), (2, .int (nI 0)), (0, .ref u), (1, .ref o)]) hx hb dX2_isSame_8 hl (by decide) rfl (fun ls hl => ?_)
  refine lv_iconst (v := nI 0) hx hb dX2_isSame_10 (by decide) ?_
  refine lv_istore (lv' := [(6, .int (nI 0)), (5, .int (-1)), (4, .int (-1)), (3, .int (nI 0)), (2, .int (nI 0)), (0, .ref u), (1, .ref o)]) hx hb dX2_isSame_11 hl (by decide) rfl (fun ls hl => ?_)
  refine lv_iconst (v := nI 0) hx hb dX2_isSame_13 (by decide) ?_
  refine lv_istore (lv' := [(7, .int (nI 0)), (6, .int (nI 0)), (5, .int (-1)), (4, .int (-1)), (3, .int (nI 0)), (2, .int (nI 0)), (0, .ref u), (1, .ref o)]) hx hb dX2_isSame_14 hl (by decide) rfl (fun ls hl => ?_)
  refine lv_iconst (v := nI 0) hx hb dX2_isSame_16 (by decide) ?_
  refine lv_istore (lv' := [(8, .int (nI 0)), (7, .int (nI 0)), (6, .int (nI 0)), (5, .int (-1)), (4, .int (-1)), (3, .int (nI 0)), (2, .int (nI 0)), (0, .ref u), (1, .ref o)]) hx hb dX2_isSame_17 hl (by decide) rfl (fun ls hl => ?_)
  refine lv_iconst (v := nI 1) hx hb dX2_isSame_19 (by decide) ?_
  refine lv_istore (lv' := [(9, .int (nI 1)), (8, .int (nI 0)), (7, .int (nI 0)), (6, .int (nI 0)), (5, .int (-1)), (4, .int (-1)), (3, .int (nI 0)), (2, .int (nI 0)), (0, .ref u), (1, .ref o)]) hx hb dX2_isSame_20 hl (by decide) rfl (fun ls hl => ?_)
  refine lv_iconst (v := nI 0) hx hb dX2_isSame_22 (by decide) ?_
  refine lv_istore (lv' := [(10, .int (nI 0)), (9, .int (nI 1)), (8, .int (nI 0)), (7, .int (nI 0)), (6, .int (nI 0)), (5, .int (-1)), (4, .int (-1)), (3, .int (nI 0)), (2, .int (nI 0)), (0, .ref u), (1, .ref o)]) hx hb dX2_isSame_23 hl (by decide) rfl (fun ls hl => ?_)
  have LP25 : ∀ (q i cc : Nat) (s0 a b af : Int32) (m2 L : Nat), i + q = n → cc ≤ i → fo (fun a i => if st (f i) = nI 1 then a + 1 else a) q i cc = ct n f (nI 1) → fo (fun a i => a + g i) q i s0 = wa n g → ((a = -1 ∧ b = nI 0) ∨ ∃ k : Nat, k < n ∧ a = nI k ∧ b = g k ∧ 0 ≤ f k) → fo (fun (a : Int32 × Int32) i => if a.2 < g i then (nI i, g i) else a) q i (a, b) = hv n g → m2 ≤ 40 → fo (fun (a : Int32 × Nat) i => if a.2 < lx n w f i then (f i, lx n w f i) else a) q i (af, m2) = fa n w f → L ≤ n → fo (fun a i => if a < rl n f i then rl n f i else a) q i L = lr n f → ∀ (ls : Array Slot), lv_has ls 11 [(10, .int (nI i)), (9, .int (nI (al f i))), (8, .int (nI (bs n f i))), (7, .int (nI L)), (6, .int (nI m2)), (5, .int af), (4, .int a), (3, .int s0), (2, .int (nI cc)), (0, .ref u), (1, .ref o)] → W p l e ({ frames := 8, cells := 2, slots := 12, locals := 132 } : Room) s m args below meth c s.heap [] 0 0 (MQ below (vp_Si (fun r => r = nI 1)) args s 2 12 (fun _ => False)) (F0 m 25 ls []) := by
    intro q
    induction q with
    | zero =>
      intro i cc s0 a b af m2 L h1 hcc hc hs hb9 hh hm9 hf hL9 hL ls hl
      refine lv_iload hx hb dX2_isSame_25 (lv_at hl 0 rfl) ?_
      refine lv_aload_n hx hb dX2_isSame_27 rfl (lv_at hl 9 rfl) ?_
      refine va_get (D := D) (ci := 2) (v := .ref c1) (C := RX2) (T := TX2) (N := 4) hx hb hts (fun _ h => (List.mem_cons_of_mem _ (List.mem_append_left _ (List.mem_append_left _ (List.mem_append_left _ (List.mem_append_left _ (List.mem_append_right _ h))))))) hown hK hP 0 rfl rfl 1 (by decide) (hts _ (List.mem_of_getElem? (i := 1) rfl)) (fun _ h9 => h9) rfl dX2_isSame_28 ?_
      refine va_alen (v := nI n) hx hb hK hP 1 0 rfl rfl rfl dX2_isSame_31 ?_
      refine bn_ge (tgt := 368) hx hb dX2_isSame_32 (by decide) (by omega) (by omega) (fun c32 => ?_) (fun c32 => ?_)
      · skip
        have ei : i = n := by omega
        have ec : cc = ct n f (nI 1) := hc
        have hct : ct n f (nI 1) ≤ n := ct_le n f (nI 1) n
        refine lv_aload_n hx hb dX2_isSame_368 rfl (lv_at hl 10 rfl) ?_
        refine pv_i CF (m_X1_hooks l D cI o r t a1 a2 b1 b2 S n2 w2 F2 G2 ) (cwV 0 hts gX2_isSame_X1_hooks rfl rfl rfl k_X1_hooks ⟨Nat.le_of_ble_eq_true rfl, Nat.le_of_ble_eq_true rfl⟩) hK1 (hP.sub [4, 5, 6, 7, 8, 9, 10] rfl) rfl rfl rfl rfl hl.1 rfl (Nat.le_of_ble_eq_true rfl) dX2_isSame_369 ⟨Nat.le_of_ble_eq_true rfl, Nat.le_of_ble_eq_true rfl⟩ ?_
        refine lv_aload_n hx hb dX2_isSame_372 rfl (lv_at hl 9 rfl) ?_
        refine va_get (D := D) (ci := 2) (v := .ref c1) (C := RX2) (T := TX2) (N := 4) hx hb hts (fun _ h => (List.mem_cons_of_mem _ (List.mem_append_left _ (List.mem_append_left _ (List.mem_append_left _ (List.mem_append_left _ (List.mem_append_right _ h))))))) hown hK hP 0 rfl rfl 1 (by decide) (hts _ (List.mem_of_getElem? (i := 1) rfl)) (fun _ h9 => h9) rfl dX2_isSame_373 ?_
        refine va_alen (v := nI n) hx hb hK hP 1 0 rfl rfl rfl dX2_isSame_376 ?_
        refine lv_icmp_ne (tgt := 502) hx hb dX2_isSame_377 (by decide) (fun c377 => ?_) (fun c377 => ?_)
        · skip
          exact absurd rfl c377
        · skip
          refine lv_aload_n hx hb dX2_isSame_380 rfl (lv_at hl 10 rfl) ?_
          refine pv_i CF (m_X1_way l D cI o r t a1 a2 b1 b2 S n2 w2 F2 G2 ) (cwV 0 hts gX2_isSame_X1_way rfl rfl rfl k_X1_way ⟨Nat.le_of_ble_eq_true rfl, Nat.le_of_ble_eq_true rfl⟩) hK1 (hP.sub [4, 5, 6, 7, 8, 9, 10] rfl) rfl rfl rfl rfl hl.1 rfl (Nat.le_of_ble_eq_true rfl) dX2_isSame_381 ⟨Nat.le_of_ble_eq_true rfl, Nat.le_of_ble_eq_true rfl⟩ ?_
          refine lv_aload_n hx hb dX2_isSame_384 rfl (lv_at hl 9 rfl) ?_
          refine va_get (D := D) (ci := 2) (v := .int (nI w)) (C := RX2) (T := TX2) (N := 4) hx hb hts (fun _ h => (List.mem_cons_of_mem _ (List.mem_append_left _ (List.mem_append_left _ (List.mem_append_left _ (List.mem_append_left _ (List.mem_append_right _ h))))))) hown hK hP 0 rfl rfl 0 (by decide) (hts _ (List.mem_of_getElem? (i := 8) rfl)) (fun _ h9 => h9) rfl dX2_isSame_385 ?_
          refine lv_icmp_ne (tgt := 502) hx hb dX2_isSame_388 (by decide) (fun c388 => ?_) (fun c388 => ?_)
          · skip
            exact absurd rfl c388
          · skip
            refine lv_aload_n hx hb dX2_isSame_391 rfl (lv_at hl 10 rfl) ?_
            refine pv_i CF (m_X1_coats l D cI o r t a1 a2 b1 b2 S n2 w2 F2 G2 ) (cwV 0 hts gX2_isSame_X1_coats rfl rfl rfl k_X1_coats ⟨Nat.le_of_ble_eq_true rfl, Nat.le_of_ble_eq_true rfl⟩) hK1 (hP.sub [4, 5, 6, 7, 8, 9, 10] rfl) rfl rfl rfl rfl hl.1 rfl (Nat.le_of_ble_eq_true rfl) dX2_isSame_392 ⟨Nat.le_of_ble_eq_true rfl, Nat.le_of_ble_eq_true rfl⟩ ?_
            refine lv_iload_n hx hb dX2_isSame_395 rfl (lv_at hl 8 rfl) ?_
            refine lv_icmp_ne (tgt := 502) hx hb dX2_isSame_396 (by decide) (fun c396 => ?_) (fun c396 => ?_)
            · skip
              exact absurd (congrArg nI ec.symm) c396
            · skip
              refine lv_aload_n hx hb dX2_isSame_399 rfl (lv_at hl 10 rfl) ?_
              refine pv_i CF (m_X1_tickets l D cI o r t a1 a2 b1 b2 S n2 w2 F2 G2 ) (cwV 0 hts gX2_isSame_X1_tickets rfl rfl rfl k_X1_tickets ⟨Nat.le_of_ble_eq_true rfl, Nat.le_of_ble_eq_true rfl⟩) hK1 (hP.sub [4, 5, 6, 7, 8, 9, 10] rfl) rfl rfl rfl rfl hl.1 rfl (Nat.le_of_ble_eq_true rfl) dX2_isSame_400 ⟨Nat.le_of_ble_eq_true rfl, Nat.le_of_ble_eq_true rfl⟩ ?_
              refine lv_aload_n hx hb dX2_isSame_403 rfl (lv_at hl 9 rfl) ?_
              refine pv_i CF (m_X2_tickets l D cI cZ u c1 c2 c3 S2 ) (cwV 0 hts gX2_isSame_X2_tickets rfl rfl rfl k_X2_tickets ⟨Nat.le_of_ble_eq_true rfl, Nat.le_of_ble_eq_true rfl⟩) hK (hP.sub [0, 1, 2, 3] rfl) rfl rfl rfl rfl hl.1 rfl (Nat.le_of_ble_eq_true rfl) dX2_isSame_404 ⟨Nat.le_of_ble_eq_true rfl, Nat.le_of_ble_eq_true rfl⟩ ?_
              refine lv_icmp_ne (tgt := 502) hx hb dX2_isSame_407 (by decide) (fun c407 => ?_) (fun c407 => ?_)
              · skip
                exact absurd rfl c407
              · skip
                refine lv_aload_n hx hb dX2_isSame_410 rfl (lv_at hl 10 rfl) ?_
                refine pv_i CF (m_X1_weight l D cI o r t a1 a2 b1 b2 S n2 w2 F2 G2 ) (cwV 0 hts gX2_isSame_X1_weight rfl rfl rfl k_X1_weight ⟨Nat.le_of_ble_eq_true rfl, Nat.le_of_ble_eq_true rfl⟩) hK1 (hP.sub [4, 5, 6, 7, 8, 9, 10] rfl) rfl rfl rfl rfl hl.1 rfl (Nat.le_of_ble_eq_true rfl) dX2_isSame_411 ⟨Nat.le_of_ble_eq_true rfl, Nat.le_of_ble_eq_true rfl⟩ ?_
                refine lv_iload_n hx hb dX2_isSame_414 rfl (lv_at hl 7 rfl) ?_
                refine lv_icmp_ne (tgt := 502) hx hb dX2_isSame_415 (by decide) (fun c415 => ?_) (fun c415 => ?_)
                · skip
                  exact absurd hs.symm c415
                · skip
                  refine lv_aload_n hx hb dX2_isSame_418 rfl (lv_at hl 10 rfl) ?_
                  refine pv_i CF (m_X1_heaviestAt l D cI o r t a1 a2 b1 b2 S n2 w2 F2 G2 ) (cwV 0 hts gX2_isSame_X1_heaviestAt rfl rfl rfl k_X1_heaviestAt ⟨Nat.le_of_ble_eq_true rfl, Nat.le_of_ble_eq_true rfl⟩) hK1 (hP.sub [4, 5, 6, 7, 8, 9, 10] rfl) rfl rfl rfl rfl hl.1 rfl (Nat.le_of_ble_eq_true rfl) dX2_isSame_419 ⟨Nat.le_of_ble_eq_true rfl, Nat.le_of_ble_eq_true rfl⟩ ?_
                  refine lv_iload hx hb dX2_isSame_422 (lv_at hl 6 rfl) ?_
                  refine lv_icmp_ne (tgt := 502) hx hb dX2_isSame_424 (by decide) (fun c424 => ?_) (fun c424 => ?_)
                  · skip
                    exact absurd (congrArg Prod.fst hh).symm c424
                  · skip
                    refine lv_aload_n hx hb dX2_isSame_427 rfl (lv_at hl 10 rfl) ?_
                    refine pv_i CF (m_X1_allLooks l D cI o r t a1 a2 b1 b2 S n2 w2 F2 G2 ) (cwV 0 hts gX2_isSame_X1_allLooks rfl rfl rfl k_X1_allLooks ⟨Nat.le_of_ble_eq_true rfl, Nat.le_of_ble_eq_true rfl⟩) hK1 (hP.sub [4, 5, 6, 7, 8, 9, 10] rfl) rfl rfl rfl rfl hl.1 rfl (Nat.le_of_ble_eq_true rfl) dX2_isSame_428 ⟨Nat.le_of_ble_eq_true rfl, Nat.le_of_ble_eq_true rfl⟩ ?_
                    refine lv_aload_n hx hb dX2_isSame_431 rfl (lv_at hl 9 rfl) ?_
                    refine pv_i CF (m_X2_allLooks l D cI cZ u c1 c2 c3 S2 ) (cwV 0 hts gX2_isSame_X2_allLooks rfl rfl rfl k_X2_allLooks ⟨Nat.le_of_ble_eq_true rfl, Nat.le_of_ble_eq_true rfl⟩) hK (hP.sub [0, 1, 2, 3] rfl) rfl rfl rfl rfl hl.1 rfl (Nat.le_of_ble_eq_true rfl) dX2_isSame_432 ⟨Nat.le_of_ble_eq_true rfl, Nat.le_of_ble_eq_true rfl⟩ ?_
                    refine lv_icmp_ne (tgt := 502) hx hb dX2_isSame_435 (by decide) (fun c435 => ?_) (fun c435 => ?_)
                    · skip
                      exact absurd rfl c435
                    · skip
                      refine lv_aload_n hx hb dX2_isSame_438 rfl (lv_at hl 10 rfl) ?_
                      refine pv_i CF (m_X1_farthest l D cI o r t a1 a2 b1 b2 S n2 w2 F2 G2 ) (cwV 0 hts gX2_isSame_X1_farthest rfl rfl rfl k_X1_farthest ⟨Nat.le_of_ble_eq_true rfl, Nat.le_of_ble_eq_true rfl⟩) hK1 (hP.sub [4, 5, 6, 7, 8, 9, 10] rfl) rfl rfl rfl rfl hl.1 rfl (Nat.le_of_ble_eq_true rfl) dX2_isSame_439 ⟨Nat.le_of_ble_eq_true rfl, Nat.le_of_ble_eq_true rfl⟩ ?_
                      refine lv_iload hx hb dX2_isSame_442 (lv_at hl 5 rfl) ?_
                      refine lv_icmp_ne (tgt := 502) hx hb dX2_isSame_444 (by decide) (fun c444 => ?_) (fun c444 => ?_)
                      · skip
                        exact absurd (congrArg Prod.fst hf).symm c444
                      · skip
                        refine lv_aload_n hx hb dX2_isSame_447 rfl (lv_at hl 10 rfl) ?_
                        refine pv_i CF (m_X1_rows l D cI o r t a1 a2 b1 b2 S n2 w2 F2 G2 ) (cwV 0 hts gX2_isSame_X1_rows rfl rfl rfl k_X1_rows ⟨Nat.le_of_ble_eq_true rfl, Nat.le_of_ble_eq_true rfl⟩) hK1 (hP.sub [4, 5, 6, 7, 8, 9, 10] rfl) rfl rfl rfl rfl hl.1 rfl (Nat.le_of_ble_eq_true rfl) dX2_isSame_448 ⟨Nat.le_of_ble_eq_true rfl, Nat.le_of_ble_eq_true rfl⟩ ?_
                        refine lv_iload hx hb dX2_isSame_451 (lv_at hl 1 rfl) ?_
                        refine bz_eq (tgt := 460) hx hb dX2_isSame_453 (by decide) (Nat.lt_of_le_of_lt (al_le f i) (by omega)) (fun c453 => ?_) (fun c453 => ?_)
                        · skip
                          refine lv_iload hx hb dX2_isSame_460 (lv_at hl 2 rfl) ?_
                          refine lv_icmp_ne (tgt := 502) hx hb dX2_isSame_462 (by decide) (fun c462 => ?_) (fun c462 => ?_)
                          · skip
                            exact absurd (congrArg nI ((rc_bs (by omega) (by rw [← ei]; exact c453)).trans (by rw [ei]))) c462
                          · skip
                            refine lv_aload_n hx hb dX2_isSame_465 rfl (lv_at hl 10 rfl) ?_
                            refine pv_i CF (m_X1_longestRow l D cI o r t a1 a2 b1 b2 S n2 w2 F2 G2 ) (cwV 0 hts gX2_isSame_X1_longestRow rfl rfl rfl k_X1_longestRow ⟨Nat.le_of_ble_eq_true rfl, Nat.le_of_ble_eq_true rfl⟩) hK1 (hP.sub [4, 5, 6, 7, 8, 9, 10] rfl) rfl rfl rfl rfl hl.1 rfl (Nat.le_of_ble_eq_true rfl) dX2_isSame_466 ⟨Nat.le_of_ble_eq_true rfl, Nat.le_of_ble_eq_true rfl⟩ ?_
                            refine lv_iload hx hb dX2_isSame_469 (lv_at hl 3 rfl) ?_
                            refine lv_icmp_ne (tgt := 502) hx hb dX2_isSame_471 (by decide) (fun c471 => ?_) (fun c471 => ?_)
                            · skip
                              exact absurd (congrArg nI hL.symm) c471
                            · skip
                              refine lv_aload_n hx hb dX2_isSame_474 rfl (lv_at hl 10 rfl) ?_
                              refine pv_d CF (m_X1_meanLooks l D cI o r t a1 a2 b1 b2 S n2 w2 F2 G2 hnn) (cwV 0 hts gX2_isSame_X1_meanLooks rfl rfl rfl k_X1_meanLooks ⟨Nat.le_of_ble_eq_true rfl, Nat.le_of_ble_eq_true rfl⟩) hK1 (hP.sub [4, 5, 6, 7, 8, 9, 10] rfl) rfl rfl rfl rfl hl.1 rfl (Nat.le_of_ble_eq_true rfl) dX2_isSame_475 ⟨Nat.le_of_ble_eq_true rfl, Nat.le_of_ble_eq_true rfl⟩ ?_
                              refine lv_iload_n hx hb dX2_isSame_478 rfl (lv_at hl 8 rfl) ?_
                              refine bz_ne (tgt := 486) hx hb dX2_isSame_479 (by decide) (by omega) (fun c479 => ?_) (fun c479 => ?_)
                              · skip
                                have c9 : ¬ ct n f (nI 1) = 0 := by rw [← ec]; exact c479
                                refine lv_aload_n hx hb dX2_isSame_486 rfl (lv_at hl 9 rfl) ?_
                                refine pv_i CF (m_X2_allLooks l D cI cZ u c1 c2 c3 S2 ) (cwV 0 hts gX2_isSame_X2_allLooks rfl rfl rfl k_X2_allLooks ⟨Nat.le_of_ble_eq_true rfl, Nat.le_of_ble_eq_true rfl⟩) hK (hP.sub [0, 1, 2, 3] rfl) rfl rfl rfl rfl hl.1 rfl (Nat.le_of_ble_eq_true rfl) dX2_isSame_487 ⟨Nat.le_of_ble_eq_true rfl, Nat.le_of_ble_eq_true rfl⟩ ?_
                                refine lv_i2d hx hb dX2_isSame_490 ?_
                                refine lv_iload_n hx hb dX2_isSame_491 rfl (lv_at hl 8 rfl) ?_
                                refine lv_i2d hx hb dX2_isSame_492 ?_
                                refine lv_ddiv hx hb dX2_isSame_493 (hnn _ _ (nI_ne0 (Nat.pos_of_ne_zero c479) (by omega))) ?_
                                rw [ec]
                                refine lv_dcmp hx hb dX2_isSame_494 ?_
                                refine tp_i (y := (nI 0)) (ml_c1 hnn hn c9) ?_
                                refine bz_ne (tgt := 502) hx hb dX2_isSame_495 (by decide) (by omega) (fun c495 => ?_) (fun c495 => ?_)
                                · skip
                                  omega
                                · skip
                                  refine lv_iconst (v := nI 1) hx hb dX2_isSame_498 (by decide) ?_
                                  refine lv_goto (tgt := 503) hx hb dX2_isSame_499 (by decide) ?_
                                  refine w_widen (k := 2) (n := 12) (Nat.le_of_ble_eq_true rfl) (Nat.le_of_ble_eq_true rfl) ?_
                                  exact en_zm hx hb hr hlocks (Or.inr rfl) rfl dX2_isSame_503
                              · skip
                                have c9 : ct n f (nI 1) = 0 := by rw [← ec]; exact c479
                                refine lv_dconst0 hx hb dX2_isSame_482 ?_
                                refine lv_goto (tgt := 494) hx hb dX2_isSame_483 (by decide) ?_
                                refine lv_dcmp hx hb dX2_isSame_494 ?_
                                refine tp_i (y := (nI 0)) (ml_c0 c9) ?_
                                refine bz_ne (tgt := 502) hx hb dX2_isSame_495 (by decide) (by omega) (fun c495 => ?_) (fun c495 => ?_)
                                · skip
                                  omega
                                · skip
                                  refine lv_iconst (v := nI 1) hx hb dX2_isSame_498 (by decide) ?_
                                  refine lv_goto (tgt := 503) hx hb dX2_isSame_499 (by decide) ?_
                                  refine w_widen (k := 2) (n := 12) (Nat.le_of_ble_eq_true rfl) (Nat.le_of_ble_eq_true rfl) ?_
                                  exact en_zm hx hb hr hlocks (Or.inr rfl) rfl dX2_isSame_503
                        · skip
                          refine lv_iconst (v := nI 1) hx hb dX2_isSame_456 (by decide) ?_
                          refine lv_goto (tgt := 462) hx hb dX2_isSame_457 (by decide) ?_
                          refine lv_icmp_ne (tgt := 502) hx hb dX2_isSame_462 (by decide) (fun c462 => ?_) (fun c462 => ?_)
                          · skip
                            exact absurd (congrArg nI (rc_al (by omega) (by rw [← ei]; exact c453))) c462
                          · skip
                            refine lv_aload_n hx hb dX2_isSame_465 rfl (lv_at hl 10 rfl) ?_
                            refine pv_i CF (m_X1_longestRow l D cI o r t a1 a2 b1 b2 S n2 w2 F2 G2 ) (cwV 0 hts gX2_isSame_X1_longestRow rfl rfl rfl k_X1_longestRow ⟨Nat.le_of_ble_eq_true rfl, Nat.le_of_ble_eq_true rfl⟩) hK1 (hP.sub [4, 5, 6, 7, 8, 9, 10] rfl) rfl rfl rfl rfl hl.1 rfl (Nat.le_of_ble_eq_true rfl) dX2_isSame_466 ⟨Nat.le_of_ble_eq_true rfl, Nat.le_of_ble_eq_true rfl⟩ ?_
                            refine lv_iload hx hb dX2_isSame_469 (lv_at hl 3 rfl) ?_
                            refine lv_icmp_ne (tgt := 502) hx hb dX2_isSame_471 (by decide) (fun c471 => ?_) (fun c471 => ?_)
                            · skip
                              exact absurd (congrArg nI hL.symm) c471
                            · skip
                              refine lv_aload_n hx hb dX2_isSame_474 rfl (lv_at hl 10 rfl) ?_
                              refine pv_d CF (m_X1_meanLooks l D cI o r t a1 a2 b1 b2 S n2 w2 F2 G2 hnn) (cwV 0 hts gX2_isSame_X1_meanLooks rfl rfl rfl k_X1_meanLooks ⟨Nat.le_of_ble_eq_true rfl, Nat.le_of_ble_eq_true rfl⟩) hK1 (hP.sub [4, 5, 6, 7, 8, 9, 10] rfl) rfl rfl rfl rfl hl.1 rfl (Nat.le_of_ble_eq_true rfl) dX2_isSame_475 ⟨Nat.le_of_ble_eq_true rfl, Nat.le_of_ble_eq_true rfl⟩ ?_
                              refine lv_iload_n hx hb dX2_isSame_478 rfl (lv_at hl 8 rfl) ?_
                              refine bz_ne (tgt := 486) hx hb dX2_isSame_479 (by decide) (by omega) (fun c479 => ?_) (fun c479 => ?_)
                              · skip
                                have c9 : ¬ ct n f (nI 1) = 0 := by rw [← ec]; exact c479
                                refine lv_aload_n hx hb dX2_isSame_486 rfl (lv_at hl 9 rfl) ?_
                                refine pv_i CF (m_X2_allLooks l D cI cZ u c1 c2 c3 S2 ) (cwV 0 hts gX2_isSame_X2_allLooks rfl rfl rfl k_X2_allLooks ⟨Nat.le_of_ble_eq_true rfl, Nat.le_of_ble_eq_true rfl⟩) hK (hP.sub [0, 1, 2, 3] rfl) rfl rfl rfl rfl hl.1 rfl (Nat.le_of_ble_eq_true rfl) dX2_isSame_487 ⟨Nat.le_of_ble_eq_true rfl, Nat.le_of_ble_eq_true rfl⟩ ?_
                                refine lv_i2d hx hb dX2_isSame_490 ?_
                                refine lv_iload_n hx hb dX2_isSame_491 rfl (lv_at hl 8 rfl) ?_
                                refine lv_i2d hx hb dX2_isSame_492 ?_
                                refine lv_ddiv hx hb dX2_isSame_493 (hnn _ _ (nI_ne0 (Nat.pos_of_ne_zero c479) (by omega))) ?_
                                rw [ec]
                                refine lv_dcmp hx hb dX2_isSame_494 ?_
                                refine tp_i (y := (nI 0)) (ml_c1 hnn hn c9) ?_
                                refine bz_ne (tgt := 502) hx hb dX2_isSame_495 (by decide) (by omega) (fun c495 => ?_) (fun c495 => ?_)
                                · skip
                                  omega
                                · skip
                                  refine lv_iconst (v := nI 1) hx hb dX2_isSame_498 (by decide) ?_
                                  refine lv_goto (tgt := 503) hx hb dX2_isSame_499 (by decide) ?_
                                  refine w_widen (k := 2) (n := 12) (Nat.le_of_ble_eq_true rfl) (Nat.le_of_ble_eq_true rfl) ?_
                                  exact en_zm hx hb hr hlocks (Or.inr rfl) rfl dX2_isSame_503
                              · skip
                                have c9 : ct n f (nI 1) = 0 := by rw [← ec]; exact c479
                                refine lv_dconst0 hx hb dX2_isSame_482 ?_
                                refine lv_goto (tgt := 494) hx hb dX2_isSame_483 (by decide) ?_
                                refine lv_dcmp hx hb dX2_isSame_494 ?_
                                refine tp_i (y := (nI 0)) (ml_c0 c9) ?_
                                refine bz_ne (tgt := 502) hx hb dX2_isSame_495 (by decide) (by omega) (fun c495 => ?_) (fun c495 => ?_)
                                · skip
                                  omega
                                · skip
                                  refine lv_iconst (v := nI 1) hx hb dX2_isSame_498 (by decide) ?_
                                  refine lv_goto (tgt := 503) hx hb dX2_isSame_499 (by decide) ?_
                                  refine w_widen (k := 2) (n := 12) (Nat.le_of_ble_eq_true rfl) (Nat.le_of_ble_eq_true rfl) ?_
                                  exact en_zm hx hb hr hlocks (Or.inr rfl) rfl dX2_isSame_503
      · skip
        omega
    | succ q ih =>
      intro i cc s0 a b af m2 L h1 hcc hc hs hb9 hh hm9 hf hL9 hL ls hl
      refine lv_iload hx hb dX2_isSame_25 (lv_at hl 0 rfl) ?_
      refine lv_aload_n hx hb dX2_isSame_27 rfl (lv_at hl 9 rfl) ?_
      refine va_get (D := D) (ci := 2) (v := .ref c1) (C := RX2) (T := TX2) (N := 4) hx hb hts (fun _ h => (List.mem_cons_of_mem _ (List.mem_append_left _ (List.mem_append_left _ (List.mem_append_left _ (List.mem_append_left _ (List.mem_append_right _ h))))))) hown hK hP 0 rfl rfl 1 (by decide) (hts _ (List.mem_of_getElem? (i := 1) rfl)) (fun _ h9 => h9) rfl dX2_isSame_28 ?_
      refine va_alen (v := nI n) hx hb hK hP 1 0 rfl rfl rfl dX2_isSame_31 ?_
      refine bn_ge (tgt := 368) hx hb dX2_isSame_32 (by decide) (by omega) (by omega) (fun c32 => ?_) (fun c32 => ?_)
      · skip
        omega
      · skip
        have hrl := rl_le (show 0 < n by omega) f i
        have hct := ct_le n f (nI 1) n
        have M223 : 0 ≤ cn (f i) → ∀ (ls : Array Slot), lv_has ls 11 [(0, .ref u), (1, .ref o), (2, .int (nI cc)), (3, .int s0), (4, .int a), (5, .int af), (6, .int (nI m2)), (7, .int (nI (if L < rl n f i then rl n f i else L))), (8, .int (nI (bs n f (i + 1)))), (9, .int (nI (al f (i + 1)))), (10, .int (nI i))] → W p l e ({ frames := 8, cells := 2, slots := 12, locals := 132 } : Room) s m args below meth c s.heap [] 0 0 (MQ below (vp_Si (fun r => r = nI 1)) args s 2 12 (fun _ => False)) (F0 m 223 ls []) := by
          intro c217 ls hl
          obtain ⟨x, hx9, ex, ez⟩ := hO.num (k := i) (by omega) (cn_0 c217)
          have HL : lx n w f i = lk n w f x := lx_p (cn_0 c217) ez
          have hlk := lk_le n w f x
          have M295 : ∀ (a3 : Int32) (b3 : Int32) (a4 : Int32) (m3 : Nat), ((a3 = -1 ∧ b3 = nI 0) ∨ ∃ k : Nat, k < n ∧ a3 = nI k ∧ b3 = g k ∧ 0 ≤ f k) → fo (fun (a : Int32 × Int32) i => if a.2 < g i then (nI i, g i) else a) q (i + 1) (a3, b3) = hv n g → m3 ≤ 40 → fo (fun (a : Int32 × Nat) i => if a.2 < lx n w f i then (f i, lx n w f i) else a) q (i + 1) (a4, m3) = fa n w f → ∀ (ls : Array Slot), lv_has ls 11 [(0, .ref u), (1, .ref o), (2, .int (nI (cc + 1))), (3, .int (s0 + g i)), (4, .int a3), (5, .int a4), (6, .int (nI m3)), (7, .int (nI (if L < rl n f i then rl n f i else L))), (8, .int (nI (bs n f (i + 1)))), (9, .int (nI (al f (i + 1)))), (10, .int (nI i))] → W p l e ({ frames := 8, cells := 2, slots := 12, locals := 132 } : Room) s m args below meth c s.heap [] 0 0 (MQ below (vp_Si (fun r => r = nI 1)) args s 2 12 (fun _ => False)) (F0 m 295 ls []) := by
            intro a3 b3 a4 m3 hb3 hh3 hm3 hf3 ls hl
            refine lv_aload_n hx hb dX2_isSame_295 rfl (lv_at hl 1 rfl) ?_
            refine lv_aload_n hx hb dX2_isSame_296 rfl (lv_at hl 0 rfl) ?_
            refine va_get (D := D) (ci := 2) (v := .ref c1) (C := RX2) (T := TX2) (N := 4) hx hb hts (fun _ h => (List.mem_cons_of_mem _ (List.mem_append_left _ (List.mem_append_left _ (List.mem_append_left _ (List.mem_append_left _ (List.mem_append_right _ h))))))) hown hK hP 0 rfl rfl 1 (by decide) (hts _ (List.mem_of_getElem? (i := 1) rfl)) (fun _ h9 => h9) rfl dX2_isSame_297 ?_
            refine lv_iload hx hb dX2_isSame_300 (lv_at hl 10 rfl) ?_
            refine al_i hx hb hK hP 1 0 rfl rfl (by omega) (by omega) dX2_isSame_302 ?_
            refine tp_i (y := (nI x)) ((hC i (by omega)).trans ((cn_id (cn_0 c217)).trans ex)) ?_
            refine xn_i (vx_runV (rest := []) CF (m_X1_find l hlt D cI o r t a1 a2 b1 b2 S n2 w2 F2 G2 (nI x)) (cwV 1 hts gX2_isSame_X1_find rfl rfl rfl k_X1_find ⟨Nat.le_of_ble_eq_true rfl, Nat.le_of_ble_eq_true rfl⟩) (px_pre hK1 (hP.sub [4, 5, 6, 7, 8, 9, 10] rfl) hX hZ0 rfl rfl rfl) rfl rfl hl.1 rfl (lv_room (Nat.le_of_ble_eq_true rfl)) dX2_isSame_303 ⟨Nat.le_of_ble_eq_true rfl, Nat.le_of_ble_eq_true rfl⟩) (fun E hE => hE.2 ⟨x, Nat.zero_le _, hx9, rfl⟩) (fun r1 hr1 => ?_)
            obtain ⟨k9, hk9, e9, er⟩ := hr1
            rw [show k9 = x from nI_inj (by omega) (by omega) e9.symm] at er
            refine tp_i (y := (fd n w f x)) er ?_
            refine lv_aload_n hx hb dX2_isSame_306 rfl (lv_at hl 0 rfl) ?_
            refine lv_aload_n hx hb dX2_isSame_307 rfl (lv_at hl 0 rfl) ?_
            refine va_get (D := D) (ci := 2) (v := .ref c1) (C := RX2) (T := TX2) (N := 4) hx hb hts (fun _ h => (List.mem_cons_of_mem _ (List.mem_append_left _ (List.mem_append_left _ (List.mem_append_left _ (List.mem_append_left _ (List.mem_append_right _ h))))))) hown hK hP 0 rfl rfl 1 (by decide) (hts _ (List.mem_of_getElem? (i := 1) rfl)) (fun _ h9 => h9) rfl dX2_isSame_308 ?_
            refine lv_iload hx hb dX2_isSame_311 (lv_at hl 10 rfl) ?_
            refine al_i hx hb hK hP 1 0 rfl rfl (by omega) (by omega) dX2_isSame_313 ?_
            refine tp_i (y := (nI x)) ((hC i (by omega)).trans ((cn_id (cn_0 c217)).trans ex)) ?_
            refine pv_i CF (m_X2_find l D cI cZ u c1 c2 c3 S2 x hx9) (cwV 1 hts gX2_isSame_X2_find rfl rfl rfl k_X2_find ⟨Nat.le_of_ble_eq_true rfl, Nat.le_of_ble_eq_true rfl⟩) hK (hP.sub [0, 1, 2, 3] rfl) rfl rfl rfl rfl hl.1 rfl (Nat.le_of_ble_eq_true rfl) dX2_isSame_314 ⟨Nat.le_of_ble_eq_true rfl, Nat.le_of_ble_eq_true rfl⟩ ?_
            refine lv_icmp_ne (tgt := 360) hx hb dX2_isSame_317 (by decide) (fun c317 => ?_) (fun c317 => ?_)
            · skip
              exact absurd rfl c317
            · skip
              refine lv_aload_n hx hb dX2_isSame_320 rfl (lv_at hl 1 rfl) ?_
              refine lv_aload_n hx hb dX2_isSame_321 rfl (lv_at hl 0 rfl) ?_
              refine va_get (D := D) (ci := 2) (v := .ref c1) (C := RX2) (T := TX2) (N := 4) hx hb hts (fun _ h => (List.mem_cons_of_mem _ (List.mem_append_left _ (List.mem_append_left _ (List.mem_append_left _ (List.mem_append_left _ (List.mem_append_right _ h))))))) hown hK hP 0 rfl rfl 1 (by decide) (hts _ (List.mem_of_getElem? (i := 1) rfl)) (fun _ h9 => h9) rfl dX2_isSame_322 ?_
              refine lv_iload hx hb dX2_isSame_325 (lv_at hl 10 rfl) ?_
              refine al_i hx hb hK hP 1 0 rfl rfl (by omega) (by omega) dX2_isSame_327 ?_
              refine tp_i (y := (nI x)) ((hC i (by omega)).trans ((cn_id (cn_0 c217)).trans ex)) ?_
              refine xn_i (vx_runV (rest := []) CF (m_X1_looksFor l hlt D cI o r t a1 a2 b1 b2 S n2 w2 F2 G2 (nI x)) (cwV 1 hts gX2_isSame_X1_looksFor rfl rfl rfl k_X1_looksFor ⟨Nat.le_of_ble_eq_true rfl, Nat.le_of_ble_eq_true rfl⟩) (px_pre hK1 (hP.sub [4, 5, 6, 7, 8, 9, 10] rfl) hX hZ0 rfl rfl rfl) rfl rfl hl.1 rfl (lv_room (Nat.le_of_ble_eq_true rfl)) dX2_isSame_328 ⟨Nat.le_of_ble_eq_true rfl, Nat.le_of_ble_eq_true rfl⟩) (fun E hE => hE.2 ⟨x, Nat.zero_le _, hx9, rfl⟩) (fun r1 hr1 => ?_)
              obtain ⟨k9, hk9, e9, er⟩ := hr1
              rw [show k9 = x from nI_inj (by omega) (by omega) e9.symm] at er
              refine tp_i (y := (nI (lk n w f x))) er ?_
              refine lv_aload_n hx hb dX2_isSame_331 rfl (lv_at hl 0 rfl) ?_
              refine lv_aload_n hx hb dX2_isSame_332 rfl (lv_at hl 0 rfl) ?_
              refine va_get (D := D) (ci := 2) (v := .ref c1) (C := RX2) (T := TX2) (N := 4) hx hb hts (fun _ h => (List.mem_cons_of_mem _ (List.mem_append_left _ (List.mem_append_left _ (List.mem_append_left _ (List.mem_append_left _ (List.mem_append_right _ h))))))) hown hK hP 0 rfl rfl 1 (by decide) (hts _ (List.mem_of_getElem? (i := 1) rfl)) (fun _ h9 => h9) rfl dX2_isSame_333 ?_
              refine lv_iload hx hb dX2_isSame_336 (lv_at hl 10 rfl) ?_
              refine al_i hx hb hK hP 1 0 rfl rfl (by omega) (by omega) dX2_isSame_338 ?_
              refine tp_i (y := (nI x)) ((hC i (by omega)).trans ((cn_id (cn_0 c217)).trans ex)) ?_
              refine pv_i CF (m_X2_looks l D cI cZ u c1 c2 c3 S2 x hx9) (cwV 1 hts gX2_isSame_X2_looks rfl rfl rfl k_X2_looks ⟨Nat.le_of_ble_eq_true rfl, Nat.le_of_ble_eq_true rfl⟩) hK (hP.sub [0, 1, 2, 3] rfl) rfl rfl rfl rfl hl.1 rfl (Nat.le_of_ble_eq_true rfl) dX2_isSame_339 ⟨Nat.le_of_ble_eq_true rfl, Nat.le_of_ble_eq_true rfl⟩ ?_
              refine lv_icmp_ne (tgt := 360) hx hb dX2_isSame_342 (by decide) (fun c342 => ?_) (fun c342 => ?_)
              · skip
                exact absurd rfl c342
              · skip
                refine lv_aload_n hx hb dX2_isSame_345 rfl (lv_at hl 1 rfl) ?_
                refine lv_aload_n hx hb dX2_isSame_346 rfl (lv_at hl 0 rfl) ?_
                refine va_get (D := D) (ci := 2) (v := .ref c1) (C := RX2) (T := TX2) (N := 4) hx hb hts (fun _ h => (List.mem_cons_of_mem _ (List.mem_append_left _ (List.mem_append_left _ (List.mem_append_left _ (List.mem_append_left _ (List.mem_append_right _ h))))))) hown hK hP 0 rfl rfl 1 (by decide) (hts _ (List.mem_of_getElem? (i := 1) rfl)) (fun _ h9 => h9) rfl dX2_isSame_347 ?_
                refine lv_iload hx hb dX2_isSame_350 (lv_at hl 10 rfl) ?_
                refine al_i hx hb hK hP 1 0 rfl rfl (by omega) (by omega) dX2_isSame_352 ?_
                refine tp_i (y := (nI x)) ((hC i (by omega)).trans ((cn_id (cn_0 c217)).trans ex)) ?_
                refine xn_i (vx_runV (rest := []) CF (m_X1_placeFor l hlt D cI o r t a1 a2 b1 b2 S n2 w2 F2 G2 (nI x)) (cwV 1 hts gX2_isSame_X1_placeFor rfl rfl rfl k_X1_placeFor ⟨Nat.le_of_ble_eq_true rfl, Nat.le_of_ble_eq_true rfl⟩) (px_pre hK1 (hP.sub [4, 5, 6, 7, 8, 9, 10] rfl) hX hZ0 rfl rfl rfl) rfl rfl hl.1 rfl (lv_room (Nat.le_of_ble_eq_true rfl)) dX2_isSame_353 ⟨Nat.le_of_ble_eq_true rfl, Nat.le_of_ble_eq_true rfl⟩) (fun E hE => hE.2 ⟨x, Nat.zero_le _, hx9, rfl⟩) (fun r1 hr1 => ?_)
                obtain ⟨k9, hk9, e9, er⟩ := hr1
                rw [show k9 = x from nI_inj (by omega) (by omega) e9.symm] at er
                refine tp_i (y := (pl n w f x)) er ?_
                refine lv_iconst (v := (-1)) hx hb dX2_isSame_356 (by decide) ?_
                refine lv_icmp_eq (tgt := 362) hx hb dX2_isSame_357 (by decide) (fun c357 => ?_) (fun c357 => ?_)
                · skip
                  refine lv_iinc (v := (nI (i + 1))) (lv' := [(10, .int (nI (i + 1))), (0, .ref u), (1, .ref o), (2, .int (nI (cc + 1))), (3, .int (s0 + g i)), (4, .int a3), (5, .int a4), (6, .int (nI m3)), (7, .int (nI (if L < rl n f i then rl n f i else L))), (8, .int (nI (bs n f (i + 1)))), (9, .int (nI (al f (i + 1))))]) hx hb dX2_isSame_362 hl (k := 10) rfl (inc1 _) (by decide) rfl (fun ls hl => ?_)
                  refine lv_goto (tgt := 25) hx hb dX2_isSame_365 (by decide) ?_
                  exact ih (i + 1) (cc + 1) (s0 + g i) a3 b3 a4 m3 (if L < rl n f i then rl n f i else L) (by omega) (by omega) (by rw [fo_s, if_pos ((st_i1 hO (by omega)).mpr (cn_0 c217))] at hc; exact hc) (by rw [fo_s] at hs; exact hs) hb3 hh3 hm3 hf3 (by split <;> omega) (by rw [fo_s, l_if] at hL; exact hL) _ (lv_sub hl [0, 10, 9, 8, 7, 6, 5, 4, 3, 1, 2] rfl)
                · skip
                  exact absurd (pl_hung (by omega) ex) c357
          have M262 : ∀ (a3 b3 : Int32), ((a3 = -1 ∧ b3 = nI 0) ∨ ∃ k : Nat, k < n ∧ a3 = nI k ∧ b3 = g k ∧ 0 ≤ f k) → fo (fun (a : Int32 × Int32) i => if a.2 < g i then (nI i, g i) else a) q (i + 1) (a3, b3) = hv n g → ∀ (ls : Array Slot), lv_has ls 11 [(0, .ref u), (1, .ref o), (2, .int (nI (cc + 1))), (3, .int (s0 + g i)), (4, .int a3), (5, .int af), (6, .int (nI m2)), (7, .int (nI (if L < rl n f i then rl n f i else L))), (8, .int (nI (bs n f (i + 1)))), (9, .int (nI (al f (i + 1)))), (10, .int (nI i))] → W p l e ({ frames := 8, cells := 2, slots := 12, locals := 132 } : Room) s m args below meth c s.heap [] 0 0 (MQ below (vp_Si (fun r => r = nI 1)) args s 2 12 (fun _ => False)) (F0 m 262 ls []) := by
            intro a3 b3 hb3 hh3 ls hl
            refine lv_aload_n hx hb dX2_isSame_262 rfl (lv_at hl 0 rfl) ?_
            refine lv_aload_n hx hb dX2_isSame_263 rfl (lv_at hl 0 rfl) ?_
            refine va_get (D := D) (ci := 2) (v := .ref c1) (C := RX2) (T := TX2) (N := 4) hx hb hts (fun _ h => (List.mem_cons_of_mem _ (List.mem_append_left _ (List.mem_append_left _ (List.mem_append_left _ (List.mem_append_left _ (List.mem_append_right _ h))))))) hown hK hP 0 rfl rfl 1 (by decide) (hts _ (List.mem_of_getElem? (i := 1) rfl)) (fun _ h9 => h9) rfl dX2_isSame_264 ?_
            refine lv_iload hx hb dX2_isSame_267 (lv_at hl 10 rfl) ?_
            refine al_i hx hb hK hP 1 0 rfl rfl (by omega) (by omega) dX2_isSame_269 ?_
            refine tp_i (y := (nI x)) ((hC i (by omega)).trans ((cn_id (cn_0 c217)).trans ex)) ?_
            refine pv_i CF (m_X2_looks l D cI cZ u c1 c2 c3 S2 x hx9) (cwV 1 hts gX2_isSame_X2_looks rfl rfl rfl k_X2_looks ⟨Nat.le_of_ble_eq_true rfl, Nat.le_of_ble_eq_true rfl⟩) hK (hP.sub [0, 1, 2, 3] rfl) rfl rfl rfl rfl hl.1 rfl (Nat.le_of_ble_eq_true rfl) dX2_isSame_270 ⟨Nat.le_of_ble_eq_true rfl, Nat.le_of_ble_eq_true rfl⟩ ?_
            refine lv_iload hx hb dX2_isSame_273 (lv_at hl 6 rfl) ?_
            refine bn_le (tgt := 295) hx hb dX2_isSame_275 (by decide) (by omega) (by omega) (fun c275 => ?_) (fun c275 => ?_)
            · skip
              exact M295 a3 b3 af m2 hb3 hh3 hm9 (by rw [fo_s, if_neg (by rw [HL]; omega)] at hf; exact hf) _ (lv_sub hl [0, 1, 2, 3, 4, 5, 6, 7, 8, 9, 10] rfl)
            · skip
              refine lv_aload_n hx hb dX2_isSame_278 rfl (lv_at hl 0 rfl) ?_
              refine va_get (D := D) (ci := 2) (v := .ref c1) (C := RX2) (T := TX2) (N := 4) hx hb hts (fun _ h => (List.mem_cons_of_mem _ (List.mem_append_left _ (List.mem_append_left _ (List.mem_append_left _ (List.mem_append_left _ (List.mem_append_right _ h))))))) hown hK hP 0 rfl rfl 1 (by decide) (hts _ (List.mem_of_getElem? (i := 1) rfl)) (fun _ h9 => h9) rfl dX2_isSame_279 ?_
              refine lv_iload hx hb dX2_isSame_282 (lv_at hl 10 rfl) ?_
              refine al_i hx hb hK hP 1 0 rfl rfl (by omega) (by omega) dX2_isSame_284 ?_
              refine tp_i (y := (nI x)) ((hC i (by omega)).trans ((cn_id (cn_0 c217)).trans ex)) ?_
              refine lv_istore (lv' := [(5, .int (nI x)), (0, .ref u), (1, .ref o), (2, .int (nI (cc + 1))), (3, .int (s0 + g i)), (4, .int a3), (6, .int (nI m2)), (7, .int (nI (if L < rl n f i then rl n f i else L))), (8, .int (nI (bs n f (i + 1)))), (9, .int (nI (al f (i + 1)))), (10, .int (nI i))]) hx hb dX2_isSame_285 hl (by decide) rfl (fun ls hl => ?_)
              refine lv_aload_n hx hb dX2_isSame_287 rfl (lv_at hl 1 rfl) ?_
              refine lv_iload hx hb dX2_isSame_288 (lv_at hl 0 rfl) ?_
              refine pv_i CF (m_X2_looks l D cI cZ u c1 c2 c3 S2 x hx9) (cwV 1 hts gX2_isSame_X2_looks rfl rfl rfl k_X2_looks ⟨Nat.le_of_ble_eq_true rfl, Nat.le_of_ble_eq_true rfl⟩) hK (hP.sub [0, 1, 2, 3] rfl) rfl rfl rfl rfl hl.1 rfl (Nat.le_of_ble_eq_true rfl) dX2_isSame_290 ⟨Nat.le_of_ble_eq_true rfl, Nat.le_of_ble_eq_true rfl⟩ ?_
              refine lv_istore (lv' := [(6, .int (nI (lk n w f x))), (5, .int (nI x)), (0, .ref u), (1, .ref o), (2, .int (nI (cc + 1))), (3, .int (s0 + g i)), (4, .int a3), (7, .int (nI (if L < rl n f i then rl n f i else L))), (8, .int (nI (bs n f (i + 1)))), (9, .int (nI (al f (i + 1)))), (10, .int (nI i))]) hx hb dX2_isSame_293 hl (by decide) rfl (fun ls hl => ?_)
              exact M295 a3 b3 (nI x) (lk n w f x) hb3 hh3 (by have := lk_le n w f x; omega) (by rw [fo_s, if_pos (by rw [HL]; omega), HL, ex] at hf; exact hf) _ (lv_sub hl [2, 3, 4, 5, 6, 1, 0, 7, 8, 9, 10] rfl)
          refine lv_iinc (v := (nI (cc + 1))) (lv' := [(2, .int (nI (cc + 1))), (0, .ref u), (1, .ref o), (3, .int s0), (4, .int a), (5, .int af), (6, .int (nI m2)), (7, .int (nI (if L < rl n f i then rl n f i else L))), (8, .int (nI (bs n f (i + 1)))), (9, .int (nI (al f (i + 1)))), (10, .int (nI i))]) hx hb dX2_isSame_223 hl (k := 2) rfl (inc1 _) (by decide) rfl (fun ls hl => ?_)
          refine lv_iload_n hx hb dX2_isSame_226 rfl (lv_at hl 3 rfl) ?_
          refine lv_aload_n hx hb dX2_isSame_227 rfl (lv_at hl 1 rfl) ?_
          refine va_get (D := D) (ci := 2) (v := .ref c2) (C := RX2) (T := TX2) (N := 4) hx hb hts (fun _ h => (List.mem_cons_of_mem _ (List.mem_append_left _ (List.mem_append_left _ (List.mem_append_left _ (List.mem_append_left _ (List.mem_append_right _ h))))))) hown hK hP 0 rfl rfl 2 (by decide) (hts _ (List.mem_of_getElem? (i := 7) rfl)) (fun _ h9 => h9) rfl dX2_isSame_228 ?_
          refine lv_iload hx hb dX2_isSame_231 (lv_at hl 10 rfl) ?_
          refine al_i hx hb hK hP 2 0 rfl rfl (by omega) (by omega) dX2_isSame_233 ?_
          refine tp_i (y := (g i)) (hV i (by omega) (cn_0 c217)) ?_
          refine lv_iadd hx hb dX2_isSame_234 ?_
          refine lv_istore_n (lv' := [(3, .int (s0 + (g i))), (2, .int (nI (cc + 1))), (0, .ref u), (1, .ref o), (4, .int a), (5, .int af), (6, .int (nI m2)), (7, .int (nI (if L < rl n f i then rl n f i else L))), (8, .int (nI (bs n f (i + 1)))), (9, .int (nI (al f (i + 1)))), (10, .int (nI i))]) hx hb dX2_isSame_235 rfl hl (by decide) rfl (fun ls hl => ?_)
          refine lv_iload hx hb dX2_isSame_236 (lv_at hl 4 rfl) ?_
          refine lv_if_lt (tgt := 258) hx hb dX2_isSame_238 (by decide) (fun c238 => ?_) (fun c238 => ?_)
          · skip
            refine lv_iload hx hb dX2_isSame_258 (lv_at hl 10 rfl) ?_
            refine lv_istore (lv' := [(4, .int (nI i)), (3, .int (s0 + (g i))), (2, .int (nI (cc + 1))), (0, .ref u), (1, .ref o), (5, .int af), (6, .int (nI m2)), (7, .int (nI (if L < rl n f i then rl n f i else L))), (8, .int (nI (bs n f (i + 1)))), (9, .int (nI (al f (i + 1)))), (10, .int (nI i))]) hx hb dX2_isSame_260 hl (by decide) rfl (fun ls hl => ?_)
            exact M262 (nI i) (g i) (Or.inr ⟨i, by omega, rfl, rfl, cn_0 c217⟩) (by rw [hv_a hn hb9 (hv_m c238 hb9 hn), fo_s, if_pos (hv_first hO (by omega) (cn_0 c217))] at hh; exact hh) _ (lv_sub hl [3, 4, 2, 1, 0, 5, 6, 7, 8, 9, 10] rfl)
          · skip
            refine lv_aload_n hx hb dX2_isSame_241 rfl (lv_at hl 2 rfl) ?_
            refine va_get (D := D) (ci := 2) (v := .ref c2) (C := RX2) (T := TX2) (N := 4) hx hb hts (fun _ h => (List.mem_cons_of_mem _ (List.mem_append_left _ (List.mem_append_left _ (List.mem_append_left _ (List.mem_append_left _ (List.mem_append_right _ h))))))) hown hK hP 0 rfl rfl 2 (by decide) (hts _ (List.mem_of_getElem? (i := 7) rfl)) (fun _ h9 => h9) rfl dX2_isSame_242 ?_
            refine lv_iload hx hb dX2_isSame_245 (lv_at hl 10 rfl) ?_
            refine al_i hx hb hK hP 2 0 rfl rfl (by omega) (by omega) dX2_isSame_247 ?_
            refine tp_i (y := (g i)) (hV i (by omega) (cn_0 c217)) ?_
            refine lv_aload_n hx hb dX2_isSame_248 rfl (lv_at hl 2 rfl) ?_
            refine va_get (D := D) (ci := 2) (v := .ref c2) (C := RX2) (T := TX2) (N := 4) hx hb hts (fun _ h => (List.mem_cons_of_mem _ (List.mem_append_left _ (List.mem_append_left _ (List.mem_append_left _ (List.mem_append_left _ (List.mem_append_right _ h))))))) hown hK hP 0 rfl rfl 2 (by decide) (hts _ (List.mem_of_getElem? (i := 7) rfl)) (fun _ h9 => h9) rfl dX2_isSame_249 ?_
            obtain ⟨k, hk, rfl, rfl, h0k⟩ := hv_k hb9 (hv_q c238)
            refine lv_iload hx hb dX2_isSame_252 (lv_at hl 4 rfl) ?_
            refine al_i hx hb hK hP 2 0 rfl rfl (by omega) (by omega) dX2_isSame_254 ?_
            refine tp_i (y := (g k)) (hV k hk h0k) ?_
            refine lv_icmp_le (tgt := 262) hx hb dX2_isSame_255 (by decide) (fun c255 => ?_) (fun c255 => ?_)
            · skip
              exact M262 (nI k) (g k) (Or.inr ⟨k, hk, rfl, rfl, h0k⟩) (by rw [fo_s, if_neg (nlt_of_le c255)] at hh; exact hh) _ (lv_sub hl [2, 3, 1, 0, 4, 5, 6, 7, 8, 9, 10] rfl)
            · skip
              refine lv_iload hx hb dX2_isSame_258 (lv_at hl 10 rfl) ?_
              refine lv_istore (lv' := [(4, .int (nI i)), (3, .int (s0 + (g i))), (2, .int (nI (cc + 1))), (0, .ref u), (1, .ref o), (5, .int af), (6, .int (nI m2)), (7, .int (nI (if L < rl n f i then rl n f i else L))), (8, .int (nI (bs n f (i + 1)))), (9, .int (nI (al f (i + 1)))), (10, .int (nI i))]) hx hb dX2_isSame_260 hl (by decide) rfl (fun ls hl => ?_)
              exact M262 (nI i) (g i) (Or.inr ⟨i, by omega, rfl, rfl, cn_0 c217⟩) (by rw [fo_s, if_pos (lt_of_nle c255)] at hh; exact hh) _ (lv_sub hl [3, 4, 2, 1, 0, 5, 6, 7, 8, 9, 10] rfl)
        have M193 : ∀ (ls : Array Slot), lv_has ls 11 [(0, .ref u), (1, .ref o), (2, .int (nI cc)), (3, .int s0), (4, .int a), (5, .int af), (6, .int (nI m2)), (7, .int (nI (if L < rl n f i then rl n f i else L))), (8, .int (nI (bs n f (i + 1)))), (9, .int (nI (al f (i + 1)))), (10, .int (nI i))] → W p l e ({ frames := 8, cells := 2, slots := 12, locals := 132 } : Room) s m args below meth c s.heap [] 0 0 (MQ below (vp_Si (fun r => r = nI 1)) args s 2 12 (fun _ => False)) (F0 m 193 ls []) := by
          intro ls hl
          refine lv_aload_n hx hb dX2_isSame_193 rfl (lv_at hl 1 rfl) ?_
          refine lv_iload hx hb dX2_isSame_194 (lv_at hl 10 rfl) ?_
          refine xn_i (vx_runV (rest := []) CF (m_X1_rowAt l hlt D cI o r t a1 a2 b1 b2 S n2 w2 F2 G2 (nI i)) (cwV 1 hts gX2_isSame_X1_rowAt rfl rfl rfl k_X1_rowAt ⟨Nat.le_of_ble_eq_true rfl, Nat.le_of_ble_eq_true rfl⟩) (px_pre hK1 (hP.sub [4, 5, 6, 7, 8, 9, 10] rfl) hX hZ0 rfl rfl rfl) rfl rfl hl.1 rfl (lv_room (Nat.le_of_ble_eq_true rfl)) dX2_isSame_196 ⟨Nat.le_of_ble_eq_true rfl, Nat.le_of_ble_eq_true rfl⟩) (fun E hE => hE.2 ⟨i, (by omega), rfl⟩) (fun r1 hr1 => ?_)
          obtain ⟨k9, hk9, e9, er⟩ := hr1
          rw [show k9 = i from nI_inj (by omega) (by omega) e9.symm] at er
          refine tp_i (y := (nI (rl n f i))) er ?_
          refine lv_aload_n hx hb dX2_isSame_199 rfl (lv_at hl 0 rfl) ?_
          refine lv_iload hx hb dX2_isSame_200 (lv_at hl 10 rfl) ?_
          refine pv_i CF (m_X2_row l D cI cZ u c1 c2 c3 S2 i (by omega)) (cwV 1 hts gX2_isSame_X2_row rfl rfl rfl k_X2_row ⟨Nat.le_of_ble_eq_true rfl, Nat.le_of_ble_eq_true rfl⟩) hK (hP.sub [0, 1, 2, 3] rfl) rfl rfl rfl rfl hl.1 rfl (Nat.le_of_ble_eq_true rfl) dX2_isSame_202 ⟨Nat.le_of_ble_eq_true rfl, Nat.le_of_ble_eq_true rfl⟩ ?_
          refine lv_icmp_eq (tgt := 210) hx hb dX2_isSame_205 (by decide) (fun c205 => ?_) (fun c205 => ?_)
          · skip
            refine lv_aload_n hx hb dX2_isSame_210 rfl (lv_at hl 0 rfl) ?_
            refine va_get (D := D) (ci := 2) (v := .ref c1) (C := RX2) (T := TX2) (N := 4) hx hb hts (fun _ h => (List.mem_cons_of_mem _ (List.mem_append_left _ (List.mem_append_left _ (List.mem_append_left _ (List.mem_append_left _ (List.mem_append_right _ h))))))) hown hK hP 0 rfl rfl 1 (by decide) (hts _ (List.mem_of_getElem? (i := 1) rfl)) (fun _ h9 => h9) rfl dX2_isSame_211 ?_
            refine lv_iload hx hb dX2_isSame_214 (lv_at hl 10 rfl) ?_
            refine al_i hx hb hK hP 1 0 rfl rfl (by omega) (by omega) dX2_isSame_216 ?_
            refine tp_i (y := (cn (f i))) (hC i (by omega)) ?_
            refine lv_if_ge (tgt := 223) hx hb dX2_isSame_217 (by decide) (fun c217 => ?_) (fun c217 => ?_)
            · skip
              exact M223 c217 _ (lv_sub hl [0, 1, 2, 3, 4, 5, 6, 7, 8, 9, 10] rfl)
            · skip
              refine lv_goto (tgt := 362) hx hb dX2_isSame_220 (by decide) ?_
              refine lv_iinc (v := (nI (i + 1))) (lv' := [(10, .int (nI (i + 1))), (0, .ref u), (1, .ref o), (2, .int (nI cc)), (3, .int s0), (4, .int a), (5, .int af), (6, .int (nI m2)), (7, .int (nI (if L < rl n f i then rl n f i else L))), (8, .int (nI (bs n f (i + 1)))), (9, .int (nI (al f (i + 1))))]) hx hb dX2_isSame_362 hl (k := 10) rfl (inc1 _) (by decide) rfl (fun ls hl => ?_)
              refine lv_goto (tgt := 25) hx hb dX2_isSame_365 (by decide) ?_
              exact ih (i + 1) cc s0 a b af m2 (if L < rl n f i then rl n f i else L) (by omega) (by omega) (by rw [fo_s, if_neg (fun z => cn_n c217 ((st_i1 hO (by omega)).mp z))] at hc; exact hc) (by rw [fo_s, (hO.neg (by omega) (cn_n c217)).2, add_n0] at hs; exact hs) hb9 (by rw [fo_s, if_neg (hv_no hO (by omega) (hv_b0 hO hb9) (lt_of_nge (cn_n c217)))] at hh; exact hh) hm9 (by rw [fo_s, lx_0 (cn_n c217), if_neg (Nat.not_lt_zero _)] at hf; exact hf) (by split <;> omega) (by rw [fo_s, l_if] at hL; exact hL) _ (lv_sub hl [0, 10, 9, 8, 7, 6, 5, 4, 3, 1, 2] rfl)
          · skip
            exact absurd rfl c205
        have M147 : ∀ (ls : Array Slot), lv_has ls 11 [(0, .ref u), (1, .ref o), (2, .int (nI cc)), (3, .int s0), (4, .int a), (5, .int af), (6, .int (nI m2)), (7, .int (nI (if L < rl n f i then rl n f i else L))), (8, .int (nI (bs n f (i + 1)))), (9, .int (nI (al f (i + 1)))), (10, .int (nI i))] → W p l e ({ frames := 8, cells := 2, slots := 12, locals := 132 } : Room) s m args below meth c s.heap [] 0 0 (MQ below (vp_Si (fun r => r = nI 1)) args s 2 12 (fun _ => False)) (F0 m 147 ls []) := by
          intro ls hl
          refine lv_aload_n hx hb dX2_isSame_147 rfl (lv_at hl 1 rfl) ?_
          refine lv_iload hx hb dX2_isSame_148 (lv_at hl 10 rfl) ?_
          refine xn_i (vx_runV (rest := []) CF (m_X1_coatAt l hlt D cI o r t a1 a2 b1 b2 S n2 w2 F2 G2 (nI i)) (cwV 1 hts gX2_isSame_X1_coatAt rfl rfl rfl k_X1_coatAt ⟨Nat.le_of_ble_eq_true rfl, Nat.le_of_ble_eq_true rfl⟩) (px_pre hK1 (hP.sub [4, 5, 6, 7, 8, 9, 10] rfl) hX hZ0 rfl rfl rfl) rfl rfl hl.1 rfl (lv_room (Nat.le_of_ble_eq_true rfl)) dX2_isSame_150 ⟨Nat.le_of_ble_eq_true rfl, Nat.le_of_ble_eq_true rfl⟩) (fun E hE => hE.2 ⟨i, (by omega), rfl⟩) (fun r1 hr1 => ?_)
          obtain ⟨k9, hk9, e9, er⟩ := hr1
          rw [show k9 = i from nI_inj (by omega) (by omega) e9.symm] at er
          refine tp_i (y := (cn (f i))) er ?_
          refine lv_aload_n hx hb dX2_isSame_153 rfl (lv_at hl 0 rfl) ?_
          refine va_get (D := D) (ci := 2) (v := .ref c1) (C := RX2) (T := TX2) (N := 4) hx hb hts (fun _ h => (List.mem_cons_of_mem _ (List.mem_append_left _ (List.mem_append_left _ (List.mem_append_left _ (List.mem_append_left _ (List.mem_append_right _ h))))))) hown hK hP 0 rfl rfl 1 (by decide) (hts _ (List.mem_of_getElem? (i := 1) rfl)) (fun _ h9 => h9) rfl dX2_isSame_154 ?_
          refine lv_iload hx hb dX2_isSame_157 (lv_at hl 10 rfl) ?_
          refine al_i hx hb hK hP 1 0 rfl rfl (by omega) (by omega) dX2_isSame_159 ?_
          refine tp_i (y := (cn (f i))) (hC i (by omega)) ?_
          refine lv_icmp_ne (tgt := 208) hx hb dX2_isSame_160 (by decide) (fun c160 => ?_) (fun c160 => ?_)
          · skip
            exact absurd rfl c160
          · skip
            refine lv_aload_n hx hb dX2_isSame_163 rfl (lv_at hl 1 rfl) ?_
            refine lv_iload hx hb dX2_isSame_164 (lv_at hl 10 rfl) ?_
            refine xn_i (vx_runV (rest := []) CF (m_X1_weightAt l hlt D cI o r t a1 a2 b1 b2 S n2 w2 F2 G2 (nI i)) (cwV 1 hts gX2_isSame_X1_weightAt rfl rfl rfl k_X1_weightAt ⟨Nat.le_of_ble_eq_true rfl, Nat.le_of_ble_eq_true rfl⟩) (px_pre hK1 (hP.sub [4, 5, 6, 7, 8, 9, 10] rfl) hX hZ0 rfl rfl rfl) rfl rfl hl.1 rfl (lv_room (Nat.le_of_ble_eq_true rfl)) dX2_isSame_166 ⟨Nat.le_of_ble_eq_true rfl, Nat.le_of_ble_eq_true rfl⟩) (fun E hE => hE.2 ⟨i, (by omega), rfl⟩) (fun r1 hr1 => ?_)
            obtain ⟨k9, hk9, e9, er⟩ := hr1
            rw [show k9 = i from nI_inj (by omega) (by omega) e9.symm] at er
            refine tp_i (y := (g i)) er ?_
            refine lv_aload_n hx hb dX2_isSame_169 rfl (lv_at hl 0 rfl) ?_
            refine va_get (D := D) (ci := 2) (v := .ref c1) (C := RX2) (T := TX2) (N := 4) hx hb hts (fun _ h => (List.mem_cons_of_mem _ (List.mem_append_left _ (List.mem_append_left _ (List.mem_append_left _ (List.mem_append_left _ (List.mem_append_right _ h))))))) hown hK hP 0 rfl rfl 1 (by decide) (hts _ (List.mem_of_getElem? (i := 1) rfl)) (fun _ h9 => h9) rfl dX2_isSame_170 ?_
            refine lv_iload hx hb dX2_isSame_173 (lv_at hl 10 rfl) ?_
            refine al_i hx hb hK hP 1 0 rfl rfl (by omega) (by omega) dX2_isSame_175 ?_
            refine tp_i (y := (cn (f i))) (hC i (by omega)) ?_
            refine lv_if_ge (tgt := 183) hx hb dX2_isSame_176 (by decide) (fun c176 => ?_) (fun c176 => ?_)
            · skip
              refine lv_aload_n hx hb dX2_isSame_183 rfl (lv_at hl 0 rfl) ?_
              refine va_get (D := D) (ci := 2) (v := .ref c2) (C := RX2) (T := TX2) (N := 4) hx hb hts (fun _ h => (List.mem_cons_of_mem _ (List.mem_append_left _ (List.mem_append_left _ (List.mem_append_left _ (List.mem_append_left _ (List.mem_append_right _ h))))))) hown hK hP 0 rfl rfl 2 (by decide) (hts _ (List.mem_of_getElem? (i := 7) rfl)) (fun _ h9 => h9) rfl dX2_isSame_184 ?_
              refine lv_iload hx hb dX2_isSame_187 (lv_at hl 10 rfl) ?_
              refine al_i hx hb hK hP 2 0 rfl rfl (by omega) (by omega) dX2_isSame_189 ?_
              refine tp_i (y := (g i)) (hV i (by omega) (cn_0 c176)) ?_
              refine lv_icmp_ne (tgt := 208) hx hb dX2_isSame_190 (by decide) (fun c190 => ?_) (fun c190 => ?_)
              · skip
                exact absurd rfl c190
              · skip
                exact M193 _ (lv_sub hl [0, 1, 2, 3, 4, 5, 6, 7, 8, 9, 10] rfl)
            · skip
              refine lv_iconst (v := nI 0) hx hb dX2_isSame_179 (by decide) ?_
              refine lv_goto (tgt := 190) hx hb dX2_isSame_180 (by decide) ?_
              refine lv_icmp_ne (tgt := 208) hx hb dX2_isSame_190 (by decide) (fun c190 => ?_) (fun c190 => ?_)
              · skip
                exact absurd ((hO.neg (by omega) (cn_n c176)).2) c190
              · skip
                exact M193 _ (lv_sub hl [0, 1, 2, 3, 4, 5, 6, 7, 8, 9, 10] rfl)
        have M109 : ∀ (ls : Array Slot), lv_has ls 11 [(0, .ref u), (1, .ref o), (2, .int (nI cc)), (3, .int s0), (4, .int a), (5, .int af), (6, .int (nI m2)), (7, .int (nI (if L < rl n f i then rl n f i else L))), (8, .int (nI (bs n f (i + 1)))), (9, .int (nI (al f (i + 1)))), (10, .int (nI i))] → W p l e ({ frames := 8, cells := 2, slots := 12, locals := 132 } : Room) s m args below meth c s.heap [] 0 0 (MQ below (vp_Si (fun r => r = nI 1)) args s 2 12 (fun _ => False)) (F0 m 109 ls []) := by
          intro ls hl
          refine lv_aload_n hx hb dX2_isSame_109 rfl (lv_at hl 1 rfl) ?_
          refine lv_iload hx hb dX2_isSame_110 (lv_at hl 10 rfl) ?_
          refine xn_i (vx_runV (rest := []) CF (m_X1_stateOf l hlt D cI o r t a1 a2 b1 b2 S n2 w2 F2 G2 (nI i)) (cwV 1 hts gX2_isSame_X1_stateOf rfl rfl rfl k_X1_stateOf ⟨Nat.le_of_ble_eq_true rfl, Nat.le_of_ble_eq_true rfl⟩) (px_pre hK1 (hP.sub [4, 5, 6, 7, 8, 9, 10] rfl) hX hZ0 rfl rfl rfl) rfl rfl hl.1 rfl (lv_room (Nat.le_of_ble_eq_true rfl)) dX2_isSame_112 ⟨Nat.le_of_ble_eq_true rfl, Nat.le_of_ble_eq_true rfl⟩) (fun E hE => hE.2 ⟨i, (by omega), rfl⟩) (fun r1 hr1 => ?_)
          obtain ⟨k9, hk9, e9, er⟩ := hr1
          rw [show k9 = i from nI_inj (by omega) (by omega) e9.symm] at er
          refine tp_i (y := (st (f i))) er ?_
          refine lv_aload_n hx hb dX2_isSame_115 rfl (lv_at hl 0 rfl) ?_
          refine va_get (D := D) (ci := 2) (v := .ref c1) (C := RX2) (T := TX2) (N := 4) hx hb hts (fun _ h => (List.mem_cons_of_mem _ (List.mem_append_left _ (List.mem_append_left _ (List.mem_append_left _ (List.mem_append_left _ (List.mem_append_right _ h))))))) hown hK hP 0 rfl rfl 1 (by decide) (hts _ (List.mem_of_getElem? (i := 1) rfl)) (fun _ h9 => h9) rfl dX2_isSame_116 ?_
          refine lv_iload hx hb dX2_isSame_119 (lv_at hl 10 rfl) ?_
          refine al_i hx hb hK hP 1 0 rfl rfl (by omega) (by omega) dX2_isSame_121 ?_
          refine tp_i (y := (cn (f i))) (hC i (by omega)) ?_
          refine lv_if_lt (tgt := 129) hx hb dX2_isSame_122 (by decide) (fun c122 => ?_) (fun c122 => ?_)
          · skip
            refine lv_aload_n hx hb dX2_isSame_129 rfl (lv_at hl 0 rfl) ?_
            refine va_get (D := D) (ci := 2) (v := .ref c3) (C := RX2) (T := TX2) (N := 4) hx hb hts (fun _ h => (List.mem_cons_of_mem _ (List.mem_append_left _ (List.mem_append_left _ (List.mem_append_left _ (List.mem_append_left _ (List.mem_append_right _ h))))))) hown hK hP 0 rfl rfl 3 (by decide) (hts _ (List.mem_of_getElem? (i := 6) rfl)) (fun _ h9 => h9) rfl dX2_isSame_130 ?_
            refine lv_iload hx hb dX2_isSame_133 (lv_at hl 10 rfl) ?_
            refine al_z hx hb hK hP 3 1 rfl rfl (by omega) (by omega) dX2_isSame_135 ?_
            refine tp_i (y := (tz (f i))) (hZv i (by omega)) ?_
            refine lv_if_eq (tgt := 143) hx hb dX2_isSame_136 (by decide) (fun c136 => ?_) (fun c136 => ?_)
            · skip
              refine lv_iconst (v := nI 0) hx hb dX2_isSame_143 (by decide) ?_
              refine lv_icmp_ne (tgt := 208) hx hb dX2_isSame_144 (by decide) (fun c144 => ?_) (fun c144 => ?_)
              · skip
                exact absurd (cn_c (hO.three (by omega)) c122 c136) c144
              · skip
                exact M147 _ (lv_sub hl [0, 1, 2, 3, 4, 5, 6, 7, 8, 9, 10] rfl)
            · skip
              refine lv_iconst (v := nI 2) hx hb dX2_isSame_139 (by decide) ?_
              refine lv_goto (tgt := 144) hx hb dX2_isSame_140 (by decide) ?_
              refine lv_icmp_ne (tgt := 208) hx hb dX2_isSame_144 (by decide) (fun c144 => ?_) (fun c144 => ?_)
              · skip
                exact absurd (st_t1 c136) c144
              · skip
                exact M147 _ (lv_sub hl [0, 1, 2, 3, 4, 5, 6, 7, 8, 9, 10] rfl)
          · skip
            refine lv_iconst (v := nI 1) hx hb dX2_isSame_125 (by decide) ?_
            refine lv_goto (tgt := 144) hx hb dX2_isSame_126 (by decide) ?_
            refine lv_icmp_ne (tgt := 208) hx hb dX2_isSame_144 (by decide) (fun c144 => ?_) (fun c144 => ?_)
            · skip
              exact absurd ((st_i1 hO (by omega)).mpr (cn_d c122)) c144
            · skip
              exact M147 _ (lv_sub hl [0, 1, 2, 3, 4, 5, 6, 7, 8, 9, 10] rfl)
        have M90 : ∀ (ls : Array Slot), lv_has ls 11 [(0, .ref u), (1, .ref o), (2, .int (nI cc)), (3, .int s0), (4, .int a), (5, .int af), (6, .int (nI m2)), (7, .int (nI (if L < rl n f i then rl n f i else L))), (8, .int (nI (bs n f (i + 1)))), (9, .int (nI (al f i))), (10, .int (nI i))] → W p l e ({ frames := 8, cells := 2, slots := 12, locals := 132 } : Room) s m args below meth c s.heap [] 0 0 (MQ below (vp_Si (fun r => r = nI 1)) args s 2 12 (fun _ => False)) (F0 m 90 ls []) := by
          intro ls hl
          refine lv_iload hx hb dX2_isSame_90 (lv_at hl 9 rfl) ?_
          refine lv_aload_n hx hb dX2_isSame_92 rfl (lv_at hl 0 rfl) ?_
          refine lv_iload hx hb dX2_isSame_93 (lv_at hl 10 rfl) ?_
          refine pv_i CF (m_X2_isFree l D cI cZ u c1 c2 c3 S2 i (by omega)) (cwV 1 hts gX2_isSame_X2_isFree rfl rfl rfl k_X2_isFree ⟨Nat.le_of_ble_eq_true rfl, Nat.le_of_ble_eq_true rfl⟩) hK (hP.sub [0, 1, 2, 3] rfl) rfl rfl rfl rfl hl.1 rfl (Nat.le_of_ble_eq_true rfl) dX2_isSame_95 ⟨Nat.le_of_ble_eq_true rfl, Nat.le_of_ble_eq_true rfl⟩ ?_
          refine lv_if_ne (tgt := 105) hx hb dX2_isSame_98 (by decide) (fun c98 => ?_) (fun c98 => ?_)
          · skip
            refine lv_iconst (v := nI 0) hx hb dX2_isSame_105 (by decide) ?_
            refine lv_iand hx hb dX2_isSame_106 ?_
            refine tp_i (y := (nI (al f (i + 1)))) (al_f (fz_1 c98)) ?_
            refine lv_istore (lv' := [(9, .int (nI (al f (i + 1)))), (0, .ref u), (1, .ref o), (2, .int (nI cc)), (3, .int s0), (4, .int a), (5, .int af), (6, .int (nI m2)), (7, .int (nI (if L < rl n f i then rl n f i else L))), (8, .int (nI (bs n f (i + 1)))), (10, .int (nI i))]) hx hb dX2_isSame_107 hl (by decide) rfl (fun ls hl => ?_)
            exact M109 _ (lv_sub hl [1, 2, 3, 4, 5, 6, 7, 8, 9, 0, 10] rfl)
          · skip
            refine lv_iconst (v := nI 1) hx hb dX2_isSame_101 (by decide) ?_
            refine lv_goto (tgt := 106) hx hb dX2_isSame_102 (by decide) ?_
            refine lv_iand hx hb dX2_isSame_106 ?_
            refine tp_i (y := (nI (al f (i + 1)))) (al_t (fz_0 c98)) ?_
            refine lv_istore (lv' := [(9, .int (nI (al f (i + 1)))), (0, .ref u), (1, .ref o), (2, .int (nI cc)), (3, .int s0), (4, .int a), (5, .int af), (6, .int (nI m2)), (7, .int (nI (if L < rl n f i then rl n f i else L))), (8, .int (nI (bs n f (i + 1)))), (10, .int (nI i))]) hx hb dX2_isSame_107 hl (by decide) rfl (fun ls hl => ?_)
            exact M109 _ (lv_sub hl [1, 2, 3, 4, 5, 6, 7, 8, 9, 0, 10] rfl)
        refine lv_iload hx hb dX2_isSame_35 (lv_at hl 3 rfl) ?_
        refine lv_aload_n hx hb dX2_isSame_37 rfl (lv_at hl 9 rfl) ?_
        refine lv_iload hx hb dX2_isSame_38 (lv_at hl 0 rfl) ?_
        refine pv_i CF (m_X2_row l D cI cZ u c1 c2 c3 S2 i (by omega)) (cwV 1 hts gX2_isSame_X2_row rfl rfl rfl k_X2_row ⟨Nat.le_of_ble_eq_true rfl, Nat.le_of_ble_eq_true rfl⟩) hK (hP.sub [0, 1, 2, 3] rfl) rfl rfl rfl rfl hl.1 rfl (Nat.le_of_ble_eq_true rfl) dX2_isSame_40 ⟨Nat.le_of_ble_eq_true rfl, Nat.le_of_ble_eq_true rfl⟩ ?_
        refine va_mmax hx hb (by rw [hml]; exact hl.1.symm) hown (hts _ (List.mem_of_getElem? (i := 2) rfl)) (hts _ (List.mem_of_getElem? (i := 3) rfl)) (hts _ (List.mem_of_getElem? (i := 4) rfl)) (hts _ (List.mem_of_getElem? (i := 5) rfl)) (Nat.le_of_ble_eq_true rfl) (Nat.le_of_ble_eq_true rfl) (Nat.le_of_ble_eq_true rfl) (Nat.le_of_ble_eq_true rfl) dX2_isSame_43 ?_
        refine tp_i (y := (nI (if L < rl n f i then rl n f i else L))) (mx_n (by omega) (by omega)) ?_
        refine lv_istore (lv' := [(7, .int (nI (if L < rl n f i then rl n f i else L))), (10, .int (nI i)), (9, .int (nI (al f i))), (8, .int (nI (bs n f i))), (6, .int (nI m2)), (5, .int af), (4, .int a), (3, .int s0), (2, .int (nI cc)), (0, .ref u), (1, .ref o)]) hx hb dX2_isSame_46 hl (by decide) rfl (fun ls hl => ?_)
        refine lv_iload hx hb dX2_isSame_48 (lv_at hl 3 rfl) ?_
        refine lv_aload_n hx hb dX2_isSame_50 rfl (lv_at hl 9 rfl) ?_
        refine lv_iload hx hb dX2_isSame_51 (lv_at hl 1 rfl) ?_
        refine pv_i CF (m_X2_isFree l D cI cZ u c1 c2 c3 S2 i (by omega)) (cwV 1 hts gX2_isSame_X2_isFree rfl rfl rfl k_X2_isFree ⟨Nat.le_of_ble_eq_true rfl, Nat.le_of_ble_eq_true rfl⟩) hK (hP.sub [0, 1, 2, 3] rfl) rfl rfl rfl rfl hl.1 rfl (Nat.le_of_ble_eq_true rfl) dX2_isSame_53 ⟨Nat.le_of_ble_eq_true rfl, Nat.le_of_ble_eq_true rfl⟩ ?_
        refine lv_if_ne (tgt := 86) hx hb dX2_isSame_56 (by decide) (fun c56 => ?_) (fun c56 => ?_)
        · skip
          refine lv_iconst (v := nI 0) hx hb dX2_isSame_86 (by decide) ?_
          refine an_add hx hb dX2_isSame_87 ?_
          refine lv_istore (lv' := [(8, .int (nI ((bs n f i) + 0))), (7, .int (nI (if L < rl n f i then rl n f i else L))), (10, .int (nI i)), (9, .int (nI (al f i))), (6, .int (nI m2)), (5, .int af), (4, .int a), (3, .int s0), (2, .int (nI cc)), (0, .ref u), (1, .ref o)]) hx hb dX2_isSame_88 hl (by decide) rfl (fun ls hl => ?_)
          have hl : lv_has ls 11 [(8, .int (nI (bs n f (i + 1)))), (7, .int (nI (if L < rl n f i then rl n f i else L))), (10, .int (nI i)), (9, .int (nI (al f i))), (6, .int (nI m2)), (5, .int af), (4, .int a), (3, .int s0), (2, .int (nI cc)), (0, .ref u), (1, .ref o)] := by
            rw [← (show nI (bs n f i + 0) = nI (bs n f (i + 1)) from congrArg nI (bs_a (fz_1 c56)))]; exact hl
          exact M90 _ (lv_sub hl [9, 10, 8, 7, 6, 5, 4, 1, 0, 3, 2] rfl)
        · skip
          refine lv_aload_n hx hb dX2_isSame_59 rfl (lv_at hl 9 rfl) ?_
          refine lv_iload hx hb dX2_isSame_60 (lv_at hl 1 rfl) ?_
          refine lv_aload_n hx hb dX2_isSame_62 rfl (lv_at hl 9 rfl) ?_
          refine va_get (D := D) (ci := 2) (v := .ref c1) (C := RX2) (T := TX2) (N := 4) hx hb hts (fun _ h => (List.mem_cons_of_mem _ (List.mem_append_left _ (List.mem_append_left _ (List.mem_append_left _ (List.mem_append_left _ (List.mem_append_right _ h))))))) hown hK hP 0 rfl rfl 1 (by decide) (hts _ (List.mem_of_getElem? (i := 1) rfl)) (fun _ h9 => h9) rfl dX2_isSame_63 ?_
          refine va_alen (v := nI n) hx hb hK hP 1 0 rfl rfl rfl dX2_isSame_66 ?_
          refine an_add hx hb dX2_isSame_67 ?_
          refine lv_iconst (v := nI 1) hx hb dX2_isSame_68 (by decide) ?_
          refine an_sub hx hb (by omega) dX2_isSame_69 ?_
          refine lv_aload_n hx hb dX2_isSame_70 rfl (lv_at hl 9 rfl) ?_
          refine va_get (D := D) (ci := 2) (v := .ref c1) (C := RX2) (T := TX2) (N := 4) hx hb hts (fun _ h => (List.mem_cons_of_mem _ (List.mem_append_left _ (List.mem_append_left _ (List.mem_append_left _ (List.mem_append_left _ (List.mem_append_right _ h))))))) hown hK hP 0 rfl rfl 1 (by decide) (hts _ (List.mem_of_getElem? (i := 1) rfl)) (fun _ h9 => h9) rfl dX2_isSame_71 ?_
          refine va_alen (v := nI n) hx hb hK hP 1 0 rfl rfl rfl dX2_isSame_74 ?_
          refine an_rem hx hb (by omega) (by omega) (by omega) dX2_isSame_75 ?_
          refine pv_i CF (m_X2_isFree l D cI cZ u c1 c2 c3 S2 ((i + n - 1) % n) (Nat.mod_lt _ (by omega))) (cwV 1 hts gX2_isSame_X2_isFree rfl rfl rfl k_X2_isFree ⟨Nat.le_of_ble_eq_true rfl, Nat.le_of_ble_eq_true rfl⟩) hK (hP.sub [0, 1, 2, 3] rfl) rfl rfl rfl rfl hl.1 rfl (Nat.le_of_ble_eq_true rfl) dX2_isSame_76 ⟨Nat.le_of_ble_eq_true rfl, Nat.le_of_ble_eq_true rfl⟩ ?_
          refine lv_if_eq (tgt := 86) hx hb dX2_isSame_79 (by decide) (fun c79 => ?_) (fun c79 => ?_)
          · skip
            refine lv_iconst (v := nI 0) hx hb dX2_isSame_86 (by decide) ?_
            refine an_add hx hb dX2_isSame_87 ?_
            refine lv_istore (lv' := [(8, .int (nI ((bs n f i) + 0))), (7, .int (nI (if L < rl n f i then rl n f i else L))), (10, .int (nI i)), (9, .int (nI (al f i))), (6, .int (nI m2)), (5, .int af), (4, .int a), (3, .int s0), (2, .int (nI cc)), (0, .ref u), (1, .ref o)]) hx hb dX2_isSame_88 hl (by decide) rfl (fun ls hl => ?_)
            have hl : lv_has ls 11 [(8, .int (nI (bs n f (i + 1)))), (7, .int (nI (if L < rl n f i then rl n f i else L))), (10, .int (nI i)), (9, .int (nI (al f i))), (6, .int (nI m2)), (5, .int af), (4, .int a), (3, .int s0), (2, .int (nI cc)), (0, .ref u), (1, .ref o)] := by
              rw [← (show nI (bs n f i + 0) = nI (bs n f (i + 1)) from congrArg nI (bs_b (fz_0 c79)))]; exact hl
            exact M90 _ (lv_sub hl [9, 10, 8, 7, 6, 5, 4, 1, 0, 3, 2] rfl)
          · skip
            refine lv_iconst (v := nI 1) hx hb dX2_isSame_82 (by decide) ?_
            refine lv_goto (tgt := 87) hx hb dX2_isSame_83 (by decide) ?_
            refine an_add hx hb dX2_isSame_87 ?_
            refine lv_istore (lv' := [(8, .int (nI ((bs n f i) + 1))), (7, .int (nI (if L < rl n f i then rl n f i else L))), (10, .int (nI i)), (9, .int (nI (al f i))), (6, .int (nI m2)), (5, .int af), (4, .int a), (3, .int s0), (2, .int (nI cc)), (0, .ref u), (1, .ref o)]) hx hb dX2_isSame_88 hl (by decide) rfl (fun ls hl => ?_)
            have hl : lv_has ls 11 [(8, .int (nI (bs n f (i + 1)))), (7, .int (nI (if L < rl n f i then rl n f i else L))), (10, .int (nI i)), (9, .int (nI (al f i))), (6, .int (nI m2)), (5, .int af), (4, .int a), (3, .int s0), (2, .int (nI cc)), (0, .ref u), (1, .ref o)] := by
              rw [← (show nI (bs n f i + 1) = nI (bs n f (i + 1)) from congrArg nI (bs_c (fz_0 c56) (fz_1 c79)))]; exact hl
            exact M90 _ (lv_sub hl [9, 10, 8, 7, 6, 5, 4, 1, 0, 3, 2] rfl)
  exact LP25 n 0 0 (nI 0) (-1) (nI 0) (-1) 0 0 (Nat.zero_add n) (Nat.le_refl 0) rfl rfl (Or.inl ⟨rfl, rfl⟩) rfl (by omega) rfl (by omega) rfl _ (lv_sub hl [0, 1, 2, 3, 4, 5, 6, 7, 8, 9, 10] rfl)
