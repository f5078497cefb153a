/-! the law's own methods -/
/-- the world of the law's own methods: the theatre and the place where its answer is put -/
abbrev lww (cI cJ : ClassId) (o r t a1 a2 b1 b2 ot n w : Nat) (F G : Nat → Int32) (n2 w2 : Nat) (F2 G2 : Nat → Int32) (B : Nat → Int64) : va_W := [(o, .inr (1, [.ref r, .ref t])), (r, .inr (0, [.ref a1, .ref a2, .int (nI n), .int (nI w)])), (a1, .inl (cI, 40, .inl F)), (a2, .inl (cI, 40, .inl G)), (t, .inr (0, [.ref b1, .ref b2, .int (nI n2), .int (nI w2)])), (b1, .inl (cI, 40, .inl F2)), (b2, .inl (cI, 40, .inl G2)), (ot, .inl (cJ, 1, .inr (.inl B)))]
theorem k_L_stateOf : yL_stateOf.cls = RL ∧ yL_stateOf.cls ≠ "java/lang/invoke/MethodHandle" ∧ yL_stateOf.cls ≠ "java/lang/invoke/VarHandle" ∧ (parseMethodDescriptor yL_stateOf.desc).map (fun d => d.parameters.length) = some 3 := by decide +kernel
set_option maxHeartbeats 4000000 in
set_option maxRecDepth 100000 in
theorem m_L_stateOf (l : Launch) (hlt : l.stackTraces = false) (D : va_G) (cI cJ : ClassId) (o r t a1 a2 b1 b2 ot : Nat) {n w : Nat} {F G f g : Nat → Int32} (S : RS n w F G f g) (n2 w2 : Nat) (F2 G2 : Nat → Int32) (B : Nat → Int64) (x : Int32) (sz : Nat) : Met l yL_stateOf wsL_stateOf ({ frames := 8, cells := 1, slots := 6, locals := 132 } : Room) (PL D [(cI, .int), (cJ, .long)] [.ref o, .int x, .ref ot] sz (lww cI cJ o r t a1 a2 b1 b2 ot n w F G n2 w2 F2 G2 B)) (qm_i (fun rr H1 => ∃ (B1 : Nat → Int64) (r1 : Int32), Q1 (rh n x) (Rk n x (fun k => st (f k))) rr r1 ∧ (rr = nI 0 → B1 0 = r1.toInt64) ∧ va_P D vwCl (lww cI cJ o r t a1 a2 b1 b2 ot n w F G n2 w2 F2 G2 B1) H1) (va_A (lww cI cJ o r t a1 a2 b1 b2 ot n w F G n2 w2 F2 G2 B) sz)) 1 6 (va_A (lww cI cJ o r t a1 a2 b1 b2 ot n w F G n2 w2 F2 G2 B) sz) := by
  obtain ⟨hn3, hn, hw2, hF, hG, hO⟩ := id S
  refine bd_w (Qf := fun A => qm_i (fun rr H1 => ∃ (B1 : Nat → Int64) (r1 : Int32), Q1 (rh n x) (Rk n x (fun k => st (f k))) rr r1 ∧ (rr = nI 0 → B1 0 = r1.toInt64) ∧ va_P D vwCl (lww cI cJ o r t a1 a2 b1 b2 ot n w F G n2 w2 F2 G2 B1) H1) A) (cc := cL_stateOf) (maxL := 4) (ret := (some .int)) (hh := [(0, 9, 12, 27)]) (by decide) rfl (Nat.le_of_ble_eq_true rfl) ?_
  intro p e s m args below meth c ls A CF hr hlocks tb hK hP hD hA hS hX hZ hN hl
  obtain ⟨hx, hb, hml, hown, hts⟩ := id CF
  have hl : lv_has ls 4 [(0, .ref o), (1, .int x), (2, .ref ot)] := hl
  have hP : va_P D vwCl [(o, .inr (1, [.ref r, .ref t])), (r, .inr (0, [.ref a1, .ref a2, .int (nI n), .int (nI w)])), (a1, .inl (cI, 40, .inl F)), (a2, .inl (cI, 40, .inl G)), (t, .inr (0, [.ref b1, .ref b2, .int (nI n2), .int (nI w2)])), (b1, .inl (cI, 40, .inl F2)), (b2, .inl (cI, 40, .inl G2)), (ot, .inl (cJ, 1, .inr (.inl B)))] s.heap := hP
  have hD : va_D A [(o, .inr (1, [.ref r, .ref t])), (r, .inr (0, [.ref a1, .ref a2, .int (nI n), .int (nI w)])), (a1, .inl (cI, 40, .inl F)), (a2, .inl (cI, 40, .inl G)), (t, .inr (0, [.ref b1, .ref b2, .int (nI n2), .int (nI w2)])), (b1, .inl (cI, 40, .inl F2)), (b2, .inl (cI, 40, .inl G2)), (ot, .inl (cJ, 1, .inr (.inl B)))] := hD
  have hK1 : va_K D vwCl [(cI, .int)] s := hK.sub [0] rfl
  have hZ0 : XZ (fun _ => False) s s.heap := hZ.narrow (fun q h => h.elim)
  refine lv_aload_n hx hb dL_stateOf_0 rfl (lv_at hl 2 rfl) ?_
  refine lv_iconst (v := nI 0) hx hb dL_stateOf_1 (by decide) ?_
  refine lv_aload_n hx hb dL_stateOf_2 rfl (lv_at hl 0 rfl) ?_
  refine lv_iload_n hx hb dL_stateOf_3 rfl (lv_at hl 1 rfl) ?_
  refine xw_i (vx_runV (rest := [.int (nI 0), .ref ot]) CF (m_X1_stateOf l hlt D cI o r t a1 a2 b1 b2 S n2 w2 F2 G2 x) (cwV 1 hts gL_stateOf_X1_stateOf rfl rfl rfl k_X1_stateOf ⟨Nat.le_of_ble_eq_true rfl, Nat.le_of_ble_eq_true rfl⟩) (px_pre hK1 (hP.sub [0, 1, 2, 3, 4, 5, 6] rfl) hX hZ0 rfl rfl rfl) rfl rfl hl.1 rfl (lv_room (Nat.le_of_ble_eq_true rfl)) dL_stateOf_4 ⟨Nat.le_of_ble_eq_true rfl, Nat.le_of_ble_eq_true rfl⟩) (fun E ce q9 H1 hE hz hk hce hcv hcl => ?_) (fun r1 hr1 => ?_)
  · skip
    have hP : va_P D vwCl [(o, .inr (1, [.ref r, .ref t])), (r, .inr (0, [.ref a1, .ref a2, .int (nI n), .int (nI w)])), (a1, .inl (cI, 40, .inl F)), (a2, .inl (cI, 40, .inl G)), (t, .inr (0, [.ref b1, .ref b2, .int (nI n2), .int (nI w2)])), (b1, .inl (cI, 40, .inl F2)), (b2, .inl (cI, 40, .inl G2)), (ot, .inl (cJ, 1, .inr (.inl B)))] H1 := hP.kept (fun k q hk9 => hk q.1 ((hP k q hk9).lt))
    have hS : va_S A s.heap H1 [] := ⟨hz, fun q h1 _ => hk q h1, fun q hq => nomatch hq⟩
    obtain ⟨rfl, hno⟩ := hE
    refine vx_catch (own := RL) (name := "java/lang/IndexOutOfBoundsException") hown [] ⟨0, 9, 12, 27⟩ [] tb (fun z hz => nomatch hz) rfl (by decide) (hts _ (List.mem_of_getElem? (i := 1) rfl)) (va_Nw.use rfl (hX.1 _ (List.mem_of_getElem? (i := 5) rfl))) hce hcv hcl ?_
    refine lv_astore_n (lv' := [(3, .ref q9), (0, .ref o), (1, .int x), (2, .ref ot)]) hx hb dL_stateOf_12 rfl hl (by decide) rfl (fun ls hl => ?_)
    refine lv_iconst (v := nI 1) hx hb dL_stateOf_13 (by decide) ?_
    exact em_i hx hb hr hlocks hS (⟨B, 0, Or.inl ⟨hno, rfl⟩, (fun z => absurd z (by decide)), hP⟩) dL_stateOf_14
  · skip
    refine lv_i2l hx hb dL_stateOf_7 rfl ?_
    refine va_last hx hb hK hP hD hS 7 1 rfl rfl (i := nI 0) (vp_in_nI (by decide) (by decide)) dL_stateOf_8 (fun H locs hP hD hS => ?_)
    have hP : va_P D vwCl [(o, .inr (1, [.ref r, .ref t])), (r, .inr (0, [.ref a1, .ref a2, .int (nI n), .int (nI w)])), (a1, .inl (cI, 40, .inl F)), (a2, .inl (cI, 40, .inl G)), (t, .inr (0, [.ref b1, .ref b2, .int (nI n2), .int (nI w2)])), (b1, .inl (cI, 40, .inl F2)), (b2, .inl (cI, 40, .inl G2)), (ot, .inl (cJ, 1, .inr (.inl (vp_updL B (nI 0).toNatClampNeg r1.toInt64))))] H := hP
    have hD : va_D A [(o, .inr (1, [.ref r, .ref t])), (r, .inr (0, [.ref a1, .ref a2, .int (nI n), .int (nI w)])), (a1, .inl (cI, 40, .inl F)), (a2, .inl (cI, 40, .inl G)), (t, .inr (0, [.ref b1, .ref b2, .int (nI n2), .int (nI w2)])), (b1, .inl (cI, 40, .inl F2)), (b2, .inl (cI, 40, .inl G2)), (ot, .inl (cJ, 1, .inr (.inl (vp_updL B (nI 0).toNatClampNeg r1.toInt64))))] := hD
    refine lv_goto (tgt := 15) hx hb dL_stateOf_9 (by decide) ?_
    refine lv_iconst (v := nI 0) hx hb dL_stateOf_15 (by decide) ?_
    exact em_i hx hb hr hlocks hS (⟨_, r1, Or.inr ⟨rfl, hr1⟩, (fun _ => updL0), hP⟩) dL_stateOf_16
theorem k_L_coatAt : yL_coatAt.cls = RL ∧ yL_coatAt.cls ≠ "java/lang/invoke/MethodHandle" ∧ yL_coatAt.cls ≠ "java/lang/invoke/VarHandle" ∧ (parseMethodDescriptor yL_coatAt.desc).map (fun d => d.parameters.length) = some 3 := by decide +kernel
set_option maxHeartbeats 4000000 in
set_option maxRecDepth 100000 in
theorem m_L_coatAt (l : Launch) (hlt : l.stackTraces = false) (D : va_G) (cI cJ : ClassId) (o r t a1 a2 b1 b2 ot : Nat) {n w : Nat} {F G f g : Nat → Int32} (S : RS n w F G f g) (n2 w2 : Nat) (F2 G2 : Nat → Int32) (B : Nat → Int64) (x : Int32) (sz : Nat) : Met l yL_coatAt wsL_coatAt ({ frames := 8, cells := 1, slots := 6, locals := 132 } : Room) (PL D [(cI, .int), (cJ, .long)] [.ref o, .int x, .ref ot] sz (lww cI cJ o r t a1 a2 b1 b2 ot n w F G n2 w2 F2 G2 B)) (qm_i (fun rr H1 => ∃ (B1 : Nat → Int64) (r1 : Int32), Q1 (rh n x) (Rk n x (fun k => cn (f k))) rr r1 ∧ (rr = nI 0 → B1 0 = r1.toInt64) ∧ va_P D vwCl (lww cI cJ o r t a1 a2 b1 b2 ot n w F G n2 w2 F2 G2 B1) H1) (va_A (lww cI cJ o r t a1 a2 b1 b2 ot n w F G n2 w2 F2 G2 B) sz)) 1 6 (va_A (lww cI cJ o r t a1 a2 b1 b2 ot n w F G n2 w2 F2 G2 B) sz) := by
  obtain ⟨hn3, hn, hw2, hF, hG, hO⟩ := id S
  refine bd_w (Qf := fun A => qm_i (fun rr H1 => ∃ (B1 : Nat → Int64) (r1 : Int32), Q1 (rh n x) (Rk n x (fun k => cn (f k))) rr r1 ∧ (rr = nI 0 → B1 0 = r1.toInt64) ∧ va_P D vwCl (lww cI cJ o r t a1 a2 b1 b2 ot n w F G n2 w2 F2 G2 B1) H1) A) (cc := cL_coatAt) (maxL := 4) (ret := (some .int)) (hh := [(0, 9, 12, 27)]) (by decide) rfl (Nat.le_of_ble_eq_true rfl) ?_
  intro p e s m args below meth c ls A CF hr hlocks tb hK hP hD hA hS hX hZ hN hl
  obtain ⟨hx, hb, hml, hown, hts⟩ := id CF
  have hl : lv_has ls 4 [(0, .ref o), (1, .int x), (2, .ref ot)] := hl
  have hP : va_P D vwCl [(o, .inr (1, [.ref r, .ref t])), (r, .inr (0, [.ref a1, .ref a2, .int (nI n), .int (nI w)])), (a1, .inl (cI, 40, .inl F)), (a2, .inl (cI, 40, .inl G)), (t, .inr (0, [.ref b1, .ref b2, .int (nI n2), .int (nI w2)])), (b1, .inl (cI, 40, .inl F2)), (b2, .inl (cI, 40, .inl G2)), (ot, .inl (cJ, 1, .inr (.inl B)))] s.heap := hP
  have hD : va_D A [(o, .inr (1, [.ref r, .ref t])), (r, .inr (0, [.ref a1, .ref a2, .int (nI n), .int (nI w)])), (a1, .inl (cI, 40, .inl F)), (a2, .inl (cI, 40, .inl G)), (t, .inr (0, [.ref b1, .ref b2, .int (nI n2), .int (nI w2)])), (b1, .inl (cI, 40, .inl F2)), (b2, .inl (cI, 40, .inl G2)), (ot, .inl (cJ, 1, .inr (.inl B)))] := hD
  have hK1 : va_K D vwCl [(cI, .int)] s := hK.sub [0] rfl
  have hZ0 : XZ (fun _ => False) s s.heap := hZ.narrow (fun q h => h.elim)
  refine lv_aload_n hx hb dL_coatAt_0 rfl (lv_at hl 2 rfl) ?_
  refine lv_iconst (v := nI 0) hx hb dL_coatAt_1 (by decide) ?_
  refine lv_aload_n hx hb dL_coatAt_2 rfl (lv_at hl 0 rfl) ?_
  refine lv_iload_n hx hb dL_coatAt_3 rfl (lv_at hl 1 rfl) ?_
  refine xw_i (vx_runV (rest := [.int (nI 0), .ref ot]) CF (m_X1_coatAt l hlt D cI o r t a1 a2 b1 b2 S n2 w2 F2 G2 x) (cwV 1 hts gL_coatAt_X1_coatAt rfl rfl rfl k_X1_coatAt ⟨Nat.le_of_ble_eq_true rfl, Nat.le_of_ble_eq_true rfl⟩) (px_pre hK1 (hP.sub [0, 1, 2, 3, 4, 5, 6] rfl) hX hZ0 rfl rfl rfl) rfl rfl hl.1 rfl (lv_room (Nat.le_of_ble_eq_true rfl)) dL_coatAt_4 ⟨Nat.le_of_ble_eq_true rfl, Nat.le_of_ble_eq_true rfl⟩) (fun E ce q9 H1 hE hz hk hce hcv hcl => ?_) (fun r1 hr1 => ?_)
  · skip
    have hP : va_P D vwCl [(o, .inr (1, [.ref r, .ref t])), (r, .inr (0, [.ref a1, .ref a2, .int (nI n), .int (nI w)])), (a1, .inl (cI, 40, .inl F)), (a2, .inl (cI, 40, .inl G)), (t, .inr (0, [.ref b1, .ref b2, .int (nI n2), .int (nI w2)])), (b1, .inl (cI, 40, .inl F2)), (b2, .inl (cI, 40, .inl G2)), (ot, .inl (cJ, 1, .inr (.inl B)))] H1 := hP.kept (fun k q hk9 => hk q.1 ((hP k q hk9).lt))
    have hS : va_S A s.heap H1 [] := ⟨hz, fun q h1 _ => hk q h1, fun q hq => nomatch hq⟩
    obtain ⟨rfl, hno⟩ := hE
    refine vx_catch (own := RL) (name := "java/lang/IndexOutOfBoundsException") hown [] ⟨0, 9, 12, 27⟩ [] tb (fun z hz => nomatch hz) rfl (by decide) (hts _ (List.mem_of_getElem? (i := 1) rfl)) (va_Nw.use rfl (hX.1 _ (List.mem_of_getElem? (i := 5) rfl))) hce hcv hcl ?_
    refine lv_astore_n (lv' := [(3, .ref q9), (0, .ref o), (1, .int x), (2, .ref ot)]) hx hb dL_coatAt_12 rfl hl (by decide) rfl (fun ls hl => ?_)
    refine lv_iconst (v := nI 1) hx hb dL_coatAt_13 (by decide) ?_
    exact em_i hx hb hr hlocks hS (⟨B, 0, Or.inl ⟨hno, rfl⟩, (fun z => absurd z (by decide)), hP⟩) dL_coatAt_14
  · skip
    refine lv_i2l hx hb dL_coatAt_7 rfl ?_
    refine va_last hx hb hK hP hD hS 7 1 rfl rfl (i := nI 0) (vp_in_nI (by decide) (by decide)) dL_coatAt_8 (fun H locs hP hD hS => ?_)
    have hP : va_P D vwCl [(o, .inr (1, [.ref r, .ref t])), (r, .inr (0, [.ref a1, .ref a2, .int (nI n), .int (nI w)])), (a1, .inl (cI, 40, .inl F)), (a2, .inl (cI, 40, .inl G)), (t, .inr (0, [.ref b1, .ref b2, .int (nI n2), .int (nI w2)])), (b1, .inl (cI, 40, .inl F2)), (b2, .inl (cI, 40, .inl G2)), (ot, .inl (cJ, 1, .inr (.inl (vp_updL B (nI 0).toNatClampNeg r1.toInt64))))] H := hP
    have hD : va_D A [(o, .inr (1, [.ref r, .ref t])), (r, .inr (0, [.ref a1, .ref a2, .int (nI n), .int (nI w)])), (a1, .inl (cI, 40, .inl F)), (a2, .inl (cI, 40, .inl G)), (t, .inr (0, [.ref b1, .ref b2, .int (nI n2), .int (nI w2)])), (b1, .inl (cI, 40, .inl F2)), (b2, .inl (cI, 40, .inl G2)), (ot, .inl (cJ, 1, .inr (.inl (vp_updL B (nI 0).toNatClampNeg r1.toInt64))))] := hD
    refine lv_goto (tgt := 15) hx hb dL_coatAt_9 (by decide) ?_
    refine lv_iconst (v := nI 0) hx hb dL_coatAt_15 (by decide) ?_
    exact em_i hx hb hr hlocks hS (⟨_, r1, Or.inr ⟨rfl, hr1⟩, (fun _ => updL0), hP⟩) dL_coatAt_16
theorem k_L_weightAt : yL_weightAt.cls = RL ∧ yL_weightAt.cls ≠ "java/lang/invoke/MethodHandle" ∧ yL_weightAt.cls ≠ "java/lang/invoke/VarHandle" ∧ (parseMethodDescriptor yL_weightAt.desc).map (fun d => d.parameters.length) = some 3 := by decide +kernel
set_option maxHeartbeats 4000000 in
set_option maxRecDepth 100000 in
theorem m_L_weightAt (l : Launch) (hlt : l.stackTraces = false) (D : va_G) (cI cJ : ClassId) (o r t a1 a2 b1 b2 ot : Nat) {n w : Nat} {F G f g : Nat → Int32} (S : RS n w F G f g) (n2 w2 : Nat) (F2 G2 : Nat → Int32) (B : Nat → Int64) (x : Int32) (sz : Nat) : Met l yL_weightAt wsL_weightAt ({ frames := 8, cells := 1, slots := 6, locals := 132 } : Room) (PL D [(cI, .int), (cJ, .long)] [.ref o, .int x, .ref ot] sz (lww cI cJ o r t a1 a2 b1 b2 ot n w F G n2 w2 F2 G2 B)) (qm_i (fun rr H1 => ∃ (B1 : Nat → Int64) (r1 : Int32), Q1 (rh n x) (Rk n x (fun k => g k)) rr r1 ∧ (rr = nI 0 → B1 0 = r1.toInt64) ∧ va_P D vwCl (lww cI cJ o r t a1 a2 b1 b2 ot n w F G n2 w2 F2 G2 B1) H1) (va_A (lww cI cJ o r t a1 a2 b1 b2 ot n w F G n2 w2 F2 G2 B) sz)) 1 6 (va_A (lww cI cJ o r t a1 a2 b1 b2 ot n w F G n2 w2 F2 G2 B) sz) := by
  obtain ⟨hn3, hn, hw2, hF, hG, hO⟩ := id S
  refine bd_w (Qf := fun A => qm_i (fun rr H1 => ∃ (B1 : Nat → Int64) (r1 : Int32), Q1 (rh n x) (Rk n x (fun k => g k)) rr r1 ∧ (rr = nI 0 → B1 0 = r1.toInt64) ∧ va_P D vwCl (lww cI cJ o r t a1 a2 b1 b2 ot n w F G n2 w2 F2 G2 B1) H1) A) (cc := cL_weightAt) (maxL := 4) (ret := (some .int)) (hh := [(0, 9, 12, 27)]) (by decide) rfl (Nat.le_of_ble_eq_true rfl) ?_
  intro p e s m args below meth c ls A CF hr hlocks tb hK hP hD hA hS hX hZ hN hl
  obtain ⟨hx, hb, hml, hown, hts⟩ := id CF
  have hl : lv_has ls 4 [(0, .ref o), (1, .int x), (2, .ref ot)] := hl
  have hP : va_P D vwCl [(o, .inr (1, [.ref r, .ref t])), (r, .inr (0, [.ref a1, .ref a2, .int (nI n), .int (nI w)])), (a1, .inl (cI, 40, .inl F)), (a2, .inl (cI, 40, .inl G)), (t, .inr (0, [.ref b1, .ref b2, .int (nI n2), .int (nI w2)])), (b1, .inl (cI, 40, .inl F2)), (b2, .inl (cI, 40, .inl G2)), (ot, .inl (cJ, 1, .inr (.inl B)))] s.heap := hP
  have hD : va_D A [(o, .inr (1, [.ref r, .ref t])), (r, .inr (0, [.ref a1, .ref a2, .int (nI n), .int (nI w)])), (a1, .inl (cI, 40, .inl F)), (a2, .inl (cI, 40, .inl G)), (t, .inr (0, [.ref b1, .ref b2, .int (nI n2), .int (nI w2)])), (b1, .inl (cI, 40, .inl F2)), (b2, .inl (cI, 40, .inl G2)), (ot, .inl (cJ, 1, .inr (.inl B)))] := hD
  have hK1 : va_K D vwCl [(cI, .int)] s := hK.sub [0] rfl
  have hZ0 : XZ (fun _ => False) s s.heap := hZ.narrow (fun q h => h.elim)
  refine lv_aload_n hx hb dL_weightAt_0 rfl (lv_at hl 2 rfl) ?_
  refine lv_iconst (v := nI 0) hx hb dL_weightAt_1 (by decide) ?_
  refine lv_aload_n hx hb dL_weightAt_2 rfl (lv_at hl 0 rfl) ?_
  refine lv_iload_n hx hb dL_weightAt_3 rfl (lv_at hl 1 rfl) ?_
  refine xw_i (vx_runV (rest := [.int (nI 0), .ref ot]) CF (m_X1_weightAt l hlt D cI o r t a1 a2 b1 b2 S n2 w2 F2 G2 x) (cwV 1 hts gL_weightAt_X1_weightAt rfl rfl rfl k_X1_weightAt ⟨Nat.le_of_ble_eq_true rfl, Nat.le_of_ble_eq_true rfl⟩) (px_pre hK1 (hP.sub [0, 1, 2, 3, 4, 5, 6] rfl) hX hZ0 rfl rfl rfl) rfl rfl hl.1 rfl (lv_room (Nat.le_of_ble_eq_true rfl)) dL_weightAt_4 ⟨Nat.le_of_ble_eq_true rfl, Nat.le_of_ble_eq_true rfl⟩) (fun E ce q9 H1 hE hz hk hce hcv hcl => ?_) (fun r1 hr1 => ?_)
  · skip
    have hP : va_P D vwCl [(o, .inr (1, [.ref r, .ref t])), (r, .inr (0, [.ref a1, .ref a2, .int (nI n), .int (nI w)])), (a1, .inl (cI, 40, .inl F)), (a2, .inl (cI, 40, .inl G)), (t, .inr (0, [.ref b1, .ref b2, .int (nI n2), .int (nI w2)])), (b1, .inl (cI, 40, .inl F2)), (b2, .inl (cI, 40, .inl G2)), (ot, .inl (cJ, 1, .inr (.inl B)))] H1 := hP.kept (fun k q hk9 => hk q.1 ((hP k q hk9).lt))
    have hS : va_S A s.heap H1 [] := ⟨hz, fun q h1 _ => hk q h1, fun q hq => nomatch hq⟩
    obtain ⟨rfl, hno⟩ := hE
    refine vx_catch (own := RL) (name := "java/lang/IndexOutOfBoundsException") hown [] ⟨0, 9, 12, 27⟩ [] tb (fun z hz => nomatch hz) rfl (by decide) (hts _ (List.mem_of_getElem? (i := 1) rfl)) (va_Nw.use rfl (hX.1 _ (List.mem_of_getElem? (i := 5) rfl))) hce hcv hcl ?_
    refine lv_astore_n (lv' := [(3, .ref q9), (0, .ref o), (1, .int x), (2, .ref ot)]) hx hb dL_weightAt_12 rfl hl (by decide) rfl (fun ls hl => ?_)
    refine lv_iconst (v := nI 1) hx hb dL_weightAt_13 (by decide) ?_
    exact em_i hx hb hr hlocks hS (⟨B, 0, Or.inl ⟨hno, rfl⟩, (fun z => absurd z (by decide)), hP⟩) dL_weightAt_14
  · skip
    refine lv_i2l hx hb dL_weightAt_7 rfl ?_
    refine va_last hx hb hK hP hD hS 7 1 rfl rfl (i := nI 0) (vp_in_nI (by decide) (by decide)) dL_weightAt_8 (fun H locs hP hD hS => ?_)
    have hP : va_P D vwCl [(o, .inr (1, [.ref r, .ref t])), (r, .inr (0, [.ref a1, .ref a2, .int (nI n), .int (nI w)])), (a1, .inl (cI, 40, .inl F)), (a2, .inl (cI, 40, .inl G)), (t, .inr (0, [.ref b1, .ref b2, .int (nI n2), .int (nI w2)])), (b1, .inl (cI, 40, .inl F2)), (b2, .inl (cI, 40, .inl G2)), (ot, .inl (cJ, 1, .inr (.inl (vp_updL B (nI 0).toNatClampNeg r1.toInt64))))] H := hP
    have hD : va_D A [(o, .inr (1, [.ref r, .ref t])), (r, .inr (0, [.ref a1, .ref a2, .int (nI n), .int (nI w)])), (a1, .inl (cI, 40, .inl F)), (a2, .inl (cI, 40, .inl G)), (t, .inr (0, [.ref b1, .ref b2, .int (nI n2), .int (nI w2)])), (b1, .inl (cI, 40, .inl F2)), (b2, .inl (cI, 40, .inl G2)), (ot, .inl (cJ, 1, .inr (.inl (vp_updL B (nI 0).toNatClampNeg r1.toInt64))))] := hD
    refine lv_goto (tgt := 15) hx hb dL_weightAt_9 (by decide) ?_
    refine lv_iconst (v := nI 0) hx hb dL_weightAt_15 (by decide) ?_
    exact em_i hx hb hr hlocks hS (⟨_, r1, Or.inr ⟨rfl, hr1⟩, (fun _ => updL0), hP⟩) dL_weightAt_16
theorem k_L_rowAt : yL_rowAt.cls = RL ∧ yL_rowAt.cls ≠ "java/lang/invoke/MethodHandle" ∧ yL_rowAt.cls ≠ "java/lang/invoke/VarHandle" ∧ (parseMethodDescriptor yL_rowAt.desc).map (fun d => d.parameters.length) = some 3 := by decide +kernel
set_option maxHeartbeats 4000000 in
set_option maxRecDepth 100000 in
theorem m_L_rowAt (l : Launch) (hlt : l.stackTraces = false) (D : va_G) (cI cJ : ClassId) (o r t a1 a2 b1 b2 ot : Nat) {n w : Nat} {F G f g : Nat → Int32} (S : RS n w F G f g) (n2 w2 : Nat) (F2 G2 : Nat → Int32) (B : Nat → Int64) (x : Int32) (sz : Nat) : Met l yL_rowAt wsL_rowAt ({ frames := 8, cells := 1, slots := 6, locals := 132 } : Room) (PL D [(cI, .int), (cJ, .long)] [.ref o, .int x, .ref ot] sz (lww cI cJ o r t a1 a2 b1 b2 ot n w F G n2 w2 F2 G2 B)) (qm_i (fun rr H1 => ∃ (B1 : Nat → Int64) (r1 : Int32), Q1 (rh n x) (Rk n x (fun k => nI (rl n f k))) rr r1 ∧ (rr = nI 0 → B1 0 = r1.toInt64) ∧ va_P D vwCl (lww cI cJ o r t a1 a2 b1 b2 ot n w F G n2 w2 F2 G2 B1) H1) (va_A (lww cI cJ o r t a1 a2 b1 b2 ot n w F G n2 w2 F2 G2 B) sz)) 1 6 (va_A (lww cI cJ o r t a1 a2 b1 b2 ot n w F G n2 w2 F2 G2 B) sz) := by
  obtain ⟨hn3, hn, hw2, hF, hG, hO⟩ := id S
  refine bd_w (Qf := fun A => qm_i (fun rr H1 => ∃ (B1 : Nat → Int64) (r1 : Int32), Q1 (rh n x) (Rk n x (fun k => nI (rl n f k))) rr r1 ∧ (rr = nI 0 → B1 0 = r1.toInt64) ∧ va_P D vwCl (lww cI cJ o r t a1 a2 b1 b2 ot n w F G n2 w2 F2 G2 B1) H1) A) (cc := cL_rowAt) (maxL := 4) (ret := (some .int)) (hh := [(0, 9, 12, 27)]) (by decide) rfl (Nat.le_of_ble_eq_true rfl) ?_
  intro p e s m args below meth c ls A CF hr hlocks tb hK hP hD hA hS hX hZ hN hl
  obtain ⟨hx, hb, hml, hown, hts⟩ := id CF
  have hl : lv_has ls 4 [(0, .ref o), (1, .int x), (2, .ref ot)] := hl
  have hP : va_P D vwCl [(o, .inr (1, [.ref r, .ref t])), (r, .inr (0, [.ref a1, .ref a2, .int (nI n), .int (nI w)])), (a1, .inl (cI, 40, .inl F)), (a2, .inl (cI, 40, .inl G)), (t, .inr (0, [.ref b1, .ref b2, .int (nI n2), .int (nI w2)])), (b1, .inl (cI, 40, .inl F2)), (b2, .inl (cI, 40, .inl G2)), (ot, .inl (cJ, 1, .inr (.inl B)))] s.heap := hP
  have hD : va_D A [(o, .inr (1, [.ref r, .ref t])), (r, .inr (0, [.ref a1, .ref a2, .int (nI n), .int (nI w)])), (a1, .inl (cI, 40, .inl F)), (a2, .inl (cI, 40, .inl G)), (t, .inr (0, [.ref b1, .ref b2, .int (nI n2), .int (nI w2)])), (b1, .inl (cI, 40, .inl F2)), (b2, .inl (cI, 40, .inl G2)), (ot, .inl (cJ, 1, .inr (.inl B)))] := hD
  have hK1 : va_K D vwCl [(cI, .int)] s := hK.sub [0] rfl
  have hZ0 : XZ (fun _ => False) s s.heap := hZ.narrow (fun q h => h.elim)
  refine lv_aload_n hx hb dL_rowAt_0 rfl (lv_at hl 2 rfl) ?_
  refine lv_iconst (v := nI 0) hx hb dL_rowAt_1 (by decide) ?_
  refine lv_aload_n hx hb dL_rowAt_2 rfl (lv_at hl 0 rfl) ?_
  refine lv_iload_n hx hb dL_rowAt_3 rfl (lv_at hl 1 rfl) ?_
  refine xw_i (vx_runV (rest := [.int (nI 0), .ref ot]) CF (m_X1_rowAt l hlt D cI o r t a1 a2 b1 b2 S n2 w2 F2 G2 x) (cwV 1 hts gL_rowAt_X1_rowAt rfl rfl rfl k_X1_rowAt ⟨Nat.le_of_ble_eq_true rfl, Nat.le_of_ble_eq_true rfl⟩) (px_pre hK1 (hP.sub [0, 1, 2, 3, 4, 5, 6] rfl) hX hZ0 rfl rfl rfl) rfl rfl hl.1 rfl (lv_room (Nat.le_of_ble_eq_true rfl)) dL_rowAt_4 ⟨Nat.le_of_ble_eq_true rfl, Nat.le_of_ble_eq_true rfl⟩) (fun E ce q9 H1 hE hz hk hce hcv hcl => ?_) (fun r1 hr1 => ?_)
  · skip
    have hP : va_P D vwCl [(o, .inr (1, [.ref r, .ref t])), (r, .inr (0, [.ref a1, .ref a2, .int (nI n), .int (nI w)])), (a1, .inl (cI, 40, .inl F)), (a2, .inl (cI, 40, .inl G)), (t, .inr (0, [.ref b1, .ref b2, .int (nI n2), .int (nI w2)])), (b1, .inl (cI, 40, .inl F2)), (b2, .inl (cI, 40, .inl G2)), (ot, .inl (cJ, 1, .inr (.inl B)))] H1 := hP.kept (fun k q hk9 => hk q.1 ((hP k q hk9).lt))
    have hS : va_S A s.heap H1 [] := ⟨hz, fun q h1 _ => hk q h1, fun q hq => nomatch hq⟩
    obtain ⟨rfl, hno⟩ := hE
    refine vx_catch (own := RL) (name := "java/lang/IndexOutOfBoundsException") hown [] ⟨0, 9, 12, 27⟩ [] tb (fun z hz => nomatch hz) rfl (by decide) (hts _ (List.mem_of_getElem? (i := 1) rfl)) (va_Nw.use rfl (hX.1 _ (List.mem_of_getElem? (i := 5) rfl))) hce hcv hcl ?_
    refine lv_astore_n (lv' := [(3, .ref q9), (0, .ref o), (1, .int x), (2, .ref ot)]) hx hb dL_rowAt_12 rfl hl (by decide) rfl (fun ls hl => ?_)
    refine lv_iconst (v := nI 1) hx hb dL_rowAt_13 (by decide) ?_
    exact em_i hx hb hr hlocks hS (⟨B, 0, Or.inl ⟨hno, rfl⟩, (fun z => absurd z (by decide)), hP⟩) dL_rowAt_14
  · skip
    refine lv_i2l hx hb dL_rowAt_7 rfl ?_
    refine va_last hx hb hK hP hD hS 7 1 rfl rfl (i := nI 0) (vp_in_nI (by decide) (by decide)) dL_rowAt_8 (fun H locs hP hD hS => ?_)
    have hP : va_P D vwCl [(o, .inr (1, [.ref r, .ref t])), (r, .inr (0, [.ref a1, .ref a2, .int (nI n), .int (nI w)])), (a1, .inl (cI, 40, .inl F)), (a2, .inl (cI, 40, .inl G)), (t, .inr (0, [.ref b1, .ref b2, .int (nI n2), .int (nI w2)])), (b1, .inl (cI, 40, .inl F2)), (b2, .inl (cI, 40, .inl G2)), (ot, .inl (cJ, 1, .inr (.inl (vp_updL B (nI 0).toNatClampNeg r1.toInt64))))] H := hP
    have hD : va_D A [(o, .inr (1, [.ref r, .ref t])), (r, .inr (0, [.ref a1, .ref a2, .int (nI n), .int (nI w)])), (a1, .inl (cI, 40, .inl F)), (a2, .inl (cI, 40, .inl G)), (t, .inr (0, [.ref b1, .ref b2, .int (nI n2), .int (nI w2)])), (b1, .inl (cI, 40, .inl F2)), (b2, .inl (cI, 40, .inl G2)), (ot, .inl (cJ, 1, .inr (.inl (vp_updL B (nI 0).toNatClampNeg r1.toInt64))))] := hD
    refine lv_goto (tgt := 15) hx hb dL_rowAt_9 (by decide) ?_
    refine lv_iconst (v := nI 0) hx hb dL_rowAt_15 (by decide) ?_
    exact em_i hx hb hr hlocks hS (⟨_, r1, Or.inr ⟨rfl, hr1⟩, (fun _ => updL0), hP⟩) dL_rowAt_16
theorem k_L_find : yL_find.cls = RL ∧ yL_find.cls ≠ "java/lang/invoke/MethodHandle" ∧ yL_find.cls ≠ "java/lang/invoke/VarHandle" ∧ (parseMethodDescriptor yL_find.desc).map (fun d => d.parameters.length) = some 3 := by decide +kernel
set_option maxHeartbeats 4000000 in
set_option maxRecDepth 100000 in
theorem m_L_find (l : Launch) (hlt : l.stackTraces = false) (D : va_G) (cI cJ : ClassId) (o r t a1 a2 b1 b2 ot : Nat) {n w : Nat} {F G f g : Nat → Int32} (S : RS n w F G f g) (n2 w2 : Nat) (F2 G2 : Nat → Int32) (B : Nat → Int64) (x : Int32) (sz : Nat) : Met l yL_find wsL_find ({ frames := 8, cells := 1, slots := 6, locals := 131 } : Room) (PL D [(cI, .int), (cJ, .long)] [.ref o, .int x, .ref ot] sz (lww cI cJ o r t a1 a2 b1 b2 ot n w F G n2 w2 F2 G2 B)) (qm_i (fun rr H1 => ∃ (B1 : Nat → Int64) (r1 : Int32), Q1 (rg 0 9999 x) (Rn x (fun v => fd n w f v)) rr r1 ∧ (rr = nI 0 → B1 0 = r1.toInt64) ∧ va_P D vwCl (lww cI cJ o r t a1 a2 b1 b2 ot n w F G n2 w2 F2 G2 B1) H1) (va_A (lww cI cJ o r t a1 a2 b1 b2 ot n w F G n2 w2 F2 G2 B) sz)) 1 6 (va_A (lww cI cJ o r t a1 a2 b1 b2 ot n w F G n2 w2 F2 G2 B) sz) := by
  obtain ⟨hn3, hn, hw2, hF, hG, hO⟩ := id S
  refine bd_w (Qf := fun A => qm_i (fun rr H1 => ∃ (B1 : Nat → Int64) (r1 : Int32), Q1 (rg 0 9999 x) (Rn x (fun v => fd n w f v)) rr r1 ∧ (rr = nI 0 → B1 0 = r1.toInt64) ∧ va_P D vwCl (lww cI cJ o r t a1 a2 b1 b2 ot n w F G n2 w2 F2 G2 B1) H1) A) (cc := cL_find) (maxL := 4) (ret := (some .int)) (hh := [(0, 9, 12, 13)]) (by decide) rfl (Nat.le_of_ble_eq_true rfl) ?_
  intro p e s m args below meth c ls A CF hr hlocks tb hK hP hD hA hS hX hZ hN hl
  obtain ⟨hx, hb, hml, hown, hts⟩ := id CF
  have hl : lv_has ls 4 [(0, .ref o), (1, .int x), (2, .ref ot)] := hl
  have hP : va_P D vwCl [(o, .inr (1, [.ref r, .ref t])), (r, .inr (0, [.ref a1, .ref a2, .int (nI n), .int (nI w)])), (a1, .inl (cI, 40, .inl F)), (a2, .inl (cI, 40, .inl G)), (t, .inr (0, [.ref b1, .ref b2, .int (nI n2), .int (nI w2)])), (b1, .inl (cI, 40, .inl F2)), (b2, .inl (cI, 40, .inl G2)), (ot, .inl (cJ, 1, .inr (.inl B)))] s.heap := hP
  have hD : va_D A [(o, .inr (1, [.ref r, .ref t])), (r, .inr (0, [.ref a1, .ref a2, .int (nI n), .int (nI w)])), (a1, .inl (cI, 40, .inl F)), (a2, .inl (cI, 40, .inl G)), (t, .inr (0, [.ref b1, .ref b2, .int (nI n2), .int (nI w2)])), (b1, .inl (cI, 40, .inl F2)), (b2, .inl (cI, 40, .inl G2)), (ot, .inl (cJ, 1, .inr (.inl B)))] := hD
  have hK1 : va_K D vwCl [(cI, .int)] s := hK.sub [0] rfl
  have hZ0 : XZ (fun _ => False) s s.heap := hZ.narrow (fun q h => h.elim)
  refine lv_aload_n hx hb dL_find_0 rfl (lv_at hl 2 rfl) ?_
  refine lv_iconst (v := nI 0) hx hb dL_find_1 (by decide) ?_
  refine lv_aload_n hx hb dL_find_2 rfl (lv_at hl 0 rfl) ?_
  refine lv_iload_n hx hb dL_find_3 rfl (lv_at hl 1 rfl) ?_
  refine xw_i (vx_runV (rest := [.int (nI 0), .ref ot]) CF (m_X1_find l hlt D cI o r t a1 a2 b1 b2 S n2 w2 F2 G2 x) (cwV 1 hts gL_find_X1_find rfl rfl rfl k_X1_find ⟨Nat.le_of_ble_eq_true rfl, Nat.le_of_ble_eq_true rfl⟩) (px_pre hK1 (hP.sub [0, 1, 2, 3, 4, 5, 6] rfl) hX hZ0 rfl rfl rfl) rfl rfl hl.1 rfl (lv_room (Nat.le_of_ble_eq_true rfl)) dL_find_4 ⟨Nat.le_of_ble_eq_true rfl, Nat.le_of_ble_eq_true rfl⟩) (fun E ce q9 H1 hE hz hk hce hcv hcl => ?_) (fun r1 hr1 => ?_)
  · skip
    have hP : va_P D vwCl [(o, .inr (1, [.ref r, .ref t])), (r, .inr (0, [.ref a1, .ref a2, .int (nI n), .int (nI w)])), (a1, .inl (cI, 40, .inl F)), (a2, .inl (cI, 40, .inl G)), (t, .inr (0, [.ref b1, .ref b2, .int (nI n2), .int (nI w2)])), (b1, .inl (cI, 40, .inl F2)), (b2, .inl (cI, 40, .inl G2)), (ot, .inl (cJ, 1, .inr (.inl B)))] H1 := hP.kept (fun k q hk9 => hk q.1 ((hP k q hk9).lt))
    have hS : va_S A s.heap H1 [] := ⟨hz, fun q h1 _ => hk q h1, fun q hq => nomatch hq⟩
    obtain ⟨rfl, hno⟩ := hE
    refine vx_catch (own := RL) (name := "java/lang/IllegalArgumentException") hown [] ⟨0, 9, 12, 13⟩ [] tb (fun z hz => nomatch hz) rfl (by decide) (hts _ (List.mem_of_getElem? (i := 1) rfl)) (va_Nw.use rfl (hX.1 _ (List.mem_of_getElem? (i := 3) rfl))) hce hcv hcl ?_
    refine lv_astore_n (lv' := [(3, .ref q9), (0, .ref o), (1, .int x), (2, .ref ot)]) hx hb dL_find_12 rfl hl (by decide) rfl (fun ls hl => ?_)
    refine lv_iconst (v := nI 1) hx hb dL_find_13 (by decide) ?_
    exact em_i hx hb hr hlocks hS (⟨B, 0, Or.inl ⟨hno, rfl⟩, (fun z => absurd z (by decide)), hP⟩) dL_find_14
  · skip
    refine lv_i2l hx hb dL_find_7 rfl ?_
    refine va_last hx hb hK hP hD hS 7 1 rfl rfl (i := nI 0) (vp_in_nI (by decide) (by decide)) dL_find_8 (fun H locs hP hD hS => ?_)
    have hP : va_P D vwCl [(o, .inr (1, [.ref r, .ref t])), (r, .inr (0, [.ref a1, .ref a2, .int (nI n), .int (nI w)])), (a1, .inl (cI, 40, .inl F)), (a2, .inl (cI, 40, .inl G)), (t, .inr (0, [.ref b1, .ref b2, .int (nI n2), .int (nI w2)])), (b1, .inl (cI, 40, .inl F2)), (b2, .inl (cI, 40, .inl G2)), (ot, .inl (cJ, 1, .inr (.inl (vp_updL B (nI 0).toNatClampNeg r1.toInt64))))] H := hP
    have hD : va_D A [(o, .inr (1, [.ref r, .ref t])), (r, .inr (0, [.ref a1, .ref a2, .int (nI n), .int (nI w)])), (a1, .inl (cI, 40, .inl F)), (a2, .inl (cI, 40, .inl G)), (t, .inr (0, [.ref b1, .ref b2, .int (nI n2), .int (nI w2)])), (b1, .inl (cI, 40, .inl F2)), (b2, .inl (cI, 40, .inl G2)), (ot, .inl (cJ, 1, .inr (.inl (vp_updL B (nI 0).toNatClampNeg r1.toInt64))))] := hD
    refine lv_goto (tgt := 15) hx hb dL_find_9 (by decide) ?_
    refine lv_iconst (v := nI 0) hx hb dL_find_15 (by decide) ?_
    exact em_i hx hb hr hlocks hS (⟨_, r1, Or.inr ⟨rfl, hr1⟩, (fun _ => updL0), hP⟩) dL_find_16
theorem k_L_looksFor : yL_looksFor.cls = RL ∧ yL_looksFor.cls ≠ "java/lang/invoke/MethodHandle" ∧ yL_looksFor.cls ≠ "java/lang/invoke/VarHandle" ∧ (parseMethodDescriptor yL_looksFor.desc).map (fun d => d.parameters.length) = some 3 := by decide +kernel
set_option maxHeartbeats 4000000 in
set_option maxRecDepth 100000 in
theorem m_L_looksFor (l : Launch) (hlt : l.stackTraces = false) (D : va_G) (cI cJ : ClassId) (o r t a1 a2 b1 b2 ot : Nat) {n w : Nat} {F G f g : Nat → Int32} (S : RS n w F G f g) (n2 w2 : Nat) (F2 G2 : Nat → Int32) (B : Nat → Int64) (x : Int32) (sz : Nat) : Met l yL_looksFor wsL_looksFor ({ frames := 8, cells := 1, slots := 6, locals := 131 } : Room) (PL D [(cI, .int), (cJ, .long)] [.ref o, .int x, .ref ot] sz (lww cI cJ o r t a1 a2 b1 b2 ot n w F G n2 w2 F2 G2 B)) (qm_i (fun rr H1 => ∃ (B1 : Nat → Int64) (r1 : Int32), Q1 (rg 0 9999 x) (Rn x (fun v => nI (lk n w f v))) rr r1 ∧ (rr = nI 0 → B1 0 = r1.toInt64) ∧ va_P D vwCl (lww cI cJ o r t a1 a2 b1 b2 ot n w F G n2 w2 F2 G2 B1) H1) (va_A (lww cI cJ o r t a1 a2 b1 b2 ot n w F G n2 w2 F2 G2 B) sz)) 1 6 (va_A (lww cI cJ o r t a1 a2 b1 b2 ot n w F G n2 w2 F2 G2 B) sz) := by
  obtain ⟨hn3, hn, hw2, hF, hG, hO⟩ := id S
  refine bd_w (Qf := fun A => qm_i (fun rr H1 => ∃ (B1 : Nat → Int64) (r1 : Int32), Q1 (rg 0 9999 x) (Rn x (fun v => nI (lk n w f v))) rr r1 ∧ (rr = nI 0 → B1 0 = r1.toInt64) ∧ va_P D vwCl (lww cI cJ o r t a1 a2 b1 b2 ot n w F G n2 w2 F2 G2 B1) H1) A) (cc := cL_looksFor) (maxL := 4) (ret := (some .int)) (hh := [(0, 9, 12, 13)]) (by decide) rfl (Nat.le_of_ble_eq_true rfl) ?_
  intro p e s m args below meth c ls A CF hr hlocks tb hK hP hD hA hS hX hZ hN hl
  obtain ⟨hx, hb, hml, hown, hts⟩ := id CF
  have hl : lv_has ls 4 [(0, .ref o), (1, .int x), (2, .ref ot)] := hl
  have hP : va_P D vwCl [(o, .inr (1, [.ref r, .ref t])), (r, .inr (0, [.ref a1, .ref a2, .int (nI n), .int (nI w)])), (a1, .inl (cI, 40, .inl F)), (a2, .inl (cI, 40, .inl G)), (t, .inr (0, [.ref b1, .ref b2, .int (nI n2), .int (nI w2)])), (b1, .inl (cI, 40, .inl F2)), (b2, .inl (cI, 40, .inl G2)), (ot, .inl (cJ, 1, .inr (.inl B)))] s.heap := hP
  have hD : va_D A [(o, .inr (1, [.ref r, .ref t])), (r, .inr (0, [.ref a1, .ref a2, .int (nI n), .int (nI w)])), (a1, .inl (cI, 40, .inl F)), (a2, .inl (cI, 40, .inl G)), (t, .inr (0, [.ref b1, .ref b2, .int (nI n2), .int (nI w2)])), (b1, .inl (cI, 40, .inl F2)), (b2, .inl (cI, 40, .inl G2)), (ot, .inl (cJ, 1, .inr (.inl B)))] := hD
  have hK1 : va_K D vwCl [(cI, .int)] s := hK.sub [0] rfl
  have hZ0 : XZ (fun _ => False) s s.heap := hZ.narrow (fun q h => h.elim)
  refine lv_aload_n hx hb dL_looksFor_0 rfl (lv_at hl 2 rfl) ?_
  refine lv_iconst (v := nI 0) hx hb dL_looksFor_1 (by decide) ?_
  refine lv_aload_n hx hb dL_looksFor_2 rfl (lv_at hl 0 rfl) ?_
  refine lv_iload_n hx hb dL_looksFor_3 rfl (lv_at hl 1 rfl) ?_
  refine xw_i (vx_runV (rest := [.int (nI 0), .ref ot]) CF (m_X1_looksFor l hlt D cI o r t a1 a2 b1 b2 S n2 w2 F2 G2 x) (cwV 1 hts gL_looksFor_X1_looksFor rfl rfl rfl k_X1_looksFor ⟨Nat.le_of_ble_eq_true rfl, Nat.le_of_ble_eq_true rfl⟩) (px_pre hK1 (hP.sub [0, 1, 2, 3, 4, 5, 6] rfl) hX hZ0 rfl rfl rfl) rfl rfl hl.1 rfl (lv_room (Nat.le_of_ble_eq_true rfl)) dL_looksFor_4 ⟨Nat.le_of_ble_eq_true rfl, Nat.le_of_ble_eq_true rfl⟩) (fun E ce q9 H1 hE hz hk hce hcv hcl => ?_) (fun r1 hr1 => ?_)
  · skip
    have hP : va_P D vwCl [(o, .inr (1, [.ref r, .ref t])), (r, .inr (0, [.ref a1, .ref a2, .int (nI n), .int (nI w)])), (a1, .inl (cI, 40, .inl F)), (a2, .inl (cI, 40, .inl G)), (t, .inr (0, [.ref b1, .ref b2, .int (nI n2), .int (nI w2)])), (b1, .inl (cI, 40, .inl F2)), (b2, .inl (cI, 40, .inl G2)), (ot, .inl (cJ, 1, .inr (.inl B)))] H1 := hP.kept (fun k q hk9 => hk q.1 ((hP k q hk9).lt))
    have hS : va_S A s.heap H1 [] := ⟨hz, fun q h1 _ => hk q h1, fun q hq => nomatch hq⟩
    obtain ⟨rfl, hno⟩ := hE
    refine vx_catch (own := RL) (name := "java/lang/IllegalArgumentException") hown [] ⟨0, 9, 12, 13⟩ [] tb (fun z hz => nomatch hz) rfl (by decide) (hts _ (List.mem_of_getElem? (i := 1) rfl)) (va_Nw.use rfl (hX.1 _ (List.mem_of_getElem? (i := 3) rfl))) hce hcv hcl ?_
    refine lv_astore_n (lv' := [(3, .ref q9), (0, .ref o), (1, .int x), (2, .ref ot)]) hx hb dL_looksFor_12 rfl hl (by decide) rfl (fun ls hl => ?_)
    refine lv_iconst (v := nI 1) hx hb dL_looksFor_13 (by decide) ?_
    exact em_i hx hb hr hlocks hS (⟨B, 0, Or.inl ⟨hno, rfl⟩, (fun z => absurd z (by decide)), hP⟩) dL_looksFor_14
  · skip
    refine lv_i2l hx hb dL_looksFor_7 rfl ?_
    refine va_last hx hb hK hP hD hS 7 1 rfl rfl (i := nI 0) (vp_in_nI (by decide) (by decide)) dL_looksFor_8 (fun H locs hP hD hS => ?_)
    have hP : va_P D vwCl [(o, .inr (1, [.ref r, .ref t])), (r, .inr (0, [.ref a1, .ref a2, .int (nI n), .int (nI w)])), (a1, .inl (cI, 40, .inl F)), (a2, .inl (cI, 40, .inl G)), (t, .inr (0, [.ref b1, .ref b2, .int (nI n2), .int (nI w2)])), (b1, .inl (cI, 40, .inl F2)), (b2, .inl (cI, 40, .inl G2)), (ot, .inl (cJ, 1, .inr (.inl (vp_updL B (nI 0).toNatClampNeg r1.toInt64))))] H := hP
    have hD : va_D A [(o, .inr (1, [.ref r, .ref t])), (r, .inr (0, [.ref a1, .ref a2, .int (nI n), .int (nI w)])), (a1, .inl (cI, 40, .inl F)), (a2, .inl (cI, 40, .inl G)), (t, .inr (0, [.ref b1, .ref b2, .int (nI n2), .int (nI w2)])), (b1, .inl (cI, 40, .inl F2)), (b2, .inl (cI, 40, .inl G2)), (ot, .inl (cJ, 1, .inr (.inl (vp_updL B (nI 0).toNatClampNeg r1.toInt64))))] := hD
    refine lv_goto (tgt := 15) hx hb dL_looksFor_9 (by decide) ?_
    refine lv_iconst (v := nI 0) hx hb dL_looksFor_15 (by decide) ?_
    exact em_i hx hb hr hlocks hS (⟨_, r1, Or.inr ⟨rfl, hr1⟩, (fun _ => updL0), hP⟩) dL_looksFor_16
theorem k_L_placeFor : yL_placeFor.cls = RL ∧ yL_placeFor.cls ≠ "java/lang/invoke/MethodHandle" ∧ yL_placeFor.cls ≠ "java/lang/invoke/VarHandle" ∧ (parseMethodDescriptor yL_placeFor.desc).map (fun d => d.parameters.length) = some 3 := by decide +kernel
set_option maxHeartbeats 4000000 in
set_option maxRecDepth 100000 in
theorem m_L_placeFor (l : Launch) (hlt : l.stackTraces = false) (D : va_G) (cI cJ : ClassId) (o r t a1 a2 b1 b2 ot : Nat) {n w : Nat} {F G f g : Nat → Int32} (S : RS n w F G f g) (n2 w2 : Nat) (F2 G2 : Nat → Int32) (B : Nat → Int64) (x : Int32) (sz : Nat) : Met l yL_placeFor wsL_placeFor ({ frames := 8, cells := 1, slots := 6, locals := 131 } : Room) (PL D [(cI, .int), (cJ, .long)] [.ref o, .int x, .ref ot] sz (lww cI cJ o r t a1 a2 b1 b2 ot n w F G n2 w2 F2 G2 B)) (qm_i (fun rr H1 => ∃ (B1 : Nat → Int64) (r1 : Int32), Q1 (rg 0 9999 x) (Rn x (fun v => pl n w f v)) rr r1 ∧ (rr = nI 0 → B1 0 = r1.toInt64) ∧ va_P D vwCl (lww cI cJ o r t a1 a2 b1 b2 ot n w F G n2 w2 F2 G2 B1) H1) (va_A (lww cI cJ o r t a1 a2 b1 b2 ot n w F G n2 w2 F2 G2 B) sz)) 1 6 (va_A (lww cI cJ o r t a1 a2 b1 b2 ot n w F G n2 w2 F2 G2 B) sz) := by
  obtain ⟨hn3, hn, hw2, hF, hG, hO⟩ := id S
  refine bd_w (Qf := fun A => qm_i (fun rr H1 => ∃ (B1 : Nat → Int64) (r1 : Int32), Q1 (rg 0 9999 x) (Rn x (fun v => pl n w f v)) rr r1 ∧ (rr = nI 0 → B1 0 = r1.toInt64) ∧ va_P D vwCl (lww cI cJ o r t a1 a2 b1 b2 ot n w F G n2 w2 F2 G2 B1) H1) A) (cc := cL_placeFor) (maxL := 4) (ret := (some .int)) (hh := [(0, 9, 12, 13)]) (by decide) rfl (Nat.le_of_ble_eq_true rfl) ?_
  intro p e s m args below meth c ls A CF hr hlocks tb hK hP hD hA hS hX hZ hN hl
  obtain ⟨hx, hb, hml, hown, hts⟩ := id CF
  have hl : lv_has ls 4 [(0, .ref o), (1, .int x), (2, .ref ot)] := hl
  have hP : va_P D vwCl [(o, .inr (1, [.ref r, .ref t])), (r, .inr (0, [.ref a1, .ref a2, .int (nI n), .int (nI w)])), (a1, .inl (cI, 40, .inl F)), (a2, .inl (cI, 40, .inl G)), (t, .inr (0, [.ref b1, .ref b2, .int (nI n2), .int (nI w2)])), (b1, .inl (cI, 40, .inl F2)), (b2, .inl (cI, 40, .inl G2)), (ot, .inl (cJ, 1, .inr (.inl B)))] s.heap := hP
  have hD : va_D A [(o, .inr (1, [.ref r, .ref t])), (r, .inr (0, [.ref a1, .ref a2, .int (nI n), .int (nI w)])), (a1, .inl (cI, 40, .inl F)), (a2, .inl (cI, 40, .inl G)), (t, .inr (0, [.ref b1, .ref b2, .int (nI n2), .int (nI w2)])), (b1, .inl (cI, 40, .inl F2)), (b2, .inl (cI, 40, .inl G2)), (ot, .inl (cJ, 1, .inr (.inl B)))] := hD
  have hK1 : va_K D vwCl [(cI, .int)] s := hK.sub [0] rfl
  have hZ0 : XZ (fun _ => False) s s.heap := hZ.narrow (fun q h => h.elim)
  refine lv_aload_n hx hb dL_placeFor_0 rfl (lv_at hl 2 rfl) ?_
  refine lv_iconst (v := nI 0) hx hb dL_placeFor_1 (by decide) ?_
  refine lv_aload_n hx hb dL_placeFor_2 rfl (lv_at hl 0 rfl) ?_
  refine lv_iload_n hx hb dL_placeFor_3 rfl (lv_at hl 1 rfl) ?_
  refine xw_i (vx_runV (rest := [.int (nI 0), .ref ot]) CF (m_X1_placeFor l hlt D cI o r t a1 a2 b1 b2 S n2 w2 F2 G2 x) (cwV 1 hts gL_placeFor_X1_placeFor rfl rfl rfl k_X1_placeFor ⟨Nat.le_of_ble_eq_true rfl, Nat.le_of_ble_eq_true rfl⟩) (px_pre hK1 (hP.sub [0, 1, 2, 3, 4, 5, 6] rfl) hX hZ0 rfl rfl rfl) rfl rfl hl.1 rfl (lv_room (Nat.le_of_ble_eq_true rfl)) dL_placeFor_4 ⟨Nat.le_of_ble_eq_true rfl, Nat.le_of_ble_eq_true rfl⟩) (fun E ce q9 H1 hE hz hk hce hcv hcl => ?_) (fun r1 hr1 => ?_)
  · skip
    have hP : va_P D vwCl [(o, .inr (1, [.ref r, .ref t])), (r, .inr (0, [.ref a1, .ref a2, .int (nI n), .int (nI w)])), (a1, .inl (cI, 40, .inl F)), (a2, .inl (cI, 40, .inl G)), (t, .inr (0, [.ref b1, .ref b2, .int (nI n2), .int (nI w2)])), (b1, .inl (cI, 40, .inl F2)), (b2, .inl (cI, 40, .inl G2)), (ot, .inl (cJ, 1, .inr (.inl B)))] H1 := hP.kept (fun k q hk9 => hk q.1 ((hP k q hk9).lt))
    have hS : va_S A s.heap H1 [] := ⟨hz, fun q h1 _ => hk q h1, fun q hq => nomatch hq⟩
    obtain ⟨rfl, hno⟩ := hE
    refine vx_catch (own := RL) (name := "java/lang/IllegalArgumentException") hown [] ⟨0, 9, 12, 13⟩ [] tb (fun z hz => nomatch hz) rfl (by decide) (hts _ (List.mem_of_getElem? (i := 1) rfl)) (va_Nw.use rfl (hX.1 _ (List.mem_of_getElem? (i := 3) rfl))) hce hcv hcl ?_
    refine lv_astore_n (lv' := [(3, .ref q9), (0, .ref o), (1, .int x), (2, .ref ot)]) hx hb dL_placeFor_12 rfl hl (by decide) rfl (fun ls hl => ?_)
    refine lv_iconst (v := nI 1) hx hb dL_placeFor_13 (by decide) ?_
    exact em_i hx hb hr hlocks hS (⟨B, 0, Or.inl ⟨hno, rfl⟩, (fun z => absurd z (by decide)), hP⟩) dL_placeFor_14
  · skip
    refine lv_i2l hx hb dL_placeFor_7 rfl ?_
    refine va_last hx hb hK hP hD hS 7 1 rfl rfl (i := nI 0) (vp_in_nI (by decide) (by decide)) dL_placeFor_8 (fun H locs hP hD hS => ?_)
    have hP : va_P D vwCl [(o, .inr (1, [.ref r, .ref t])), (r, .inr (0, [.ref a1, .ref a2, .int (nI n), .int (nI w)])), (a1, .inl (cI, 40, .inl F)), (a2, .inl (cI, 40, .inl G)), (t, .inr (0, [.ref b1, .ref b2, .int (nI n2), .int (nI w2)])), (b1, .inl (cI, 40, .inl F2)), (b2, .inl (cI, 40, .inl G2)), (ot, .inl (cJ, 1, .inr (.inl (vp_updL B (nI 0).toNatClampNeg r1.toInt64))))] H := hP
    have hD : va_D A [(o, .inr (1, [.ref r, .ref t])), (r, .inr (0, [.ref a1, .ref a2, .int (nI n), .int (nI w)])), (a1, .inl (cI, 40, .inl F)), (a2, .inl (cI, 40, .inl G)), (t, .inr (0, [.ref b1, .ref b2, .int (nI n2), .int (nI w2)])), (b1, .inl (cI, 40, .inl F2)), (b2, .inl (cI, 40, .inl G2)), (ot, .inl (cJ, 1, .inr (.inl (vp_updL B (nI 0).toNatClampNeg r1.toInt64))))] := hD
    refine lv_goto (tgt := 15) hx hb dL_placeFor_9 (by decide) ?_
    refine lv_iconst (v := nI 0) hx hb dL_placeFor_15 (by decide) ?_
    exact em_i hx hb hr hlocks hS (⟨_, r1, Or.inr ⟨rfl, hr1⟩, (fun _ => updL0), hP⟩) dL_placeFor_16
theorem k_L_lookedAt : yL_lookedAt.cls = RL ∧ yL_lookedAt.cls ≠ "java/lang/invoke/MethodHandle" ∧ yL_lookedAt.cls ≠ "java/lang/invoke/VarHandle" ∧ (parseMethodDescriptor yL_lookedAt.desc).map (fun d => d.parameters.length) = some 4 := by decide +kernel
set_option maxHeartbeats 4000000 in
set_option maxRecDepth 100000 in
theorem m_L_lookedAt (l : Launch) (hlt : l.stackTraces = false) (D : va_G) (cI cJ : ClassId) (o r t a1 a2 b1 b2 ot : Nat) {n w : Nat} {F G f g : Nat → Int32} (S : RS n w F G f g) (n2 w2 : Nat) (F2 G2 : Nat → Int32) (B : Nat → Int64) (x y : Int32) (sz : Nat) : Met l yL_lookedAt wsL_lookedAt ({ frames := 8, cells := 2, slots := 12, locals := 132 } : Room) (PL D [(cI, .int), (cJ, .long)] [.ref o, .int x, .int y, .ref ot] sz (lww cI cJ o r t a1 a2 b1 b2 ot n w F G n2 w2 F2 G2 B)) (qm_i (fun rr H1 => ∃ (B1 : Nat → Int64) (r1 : Int32), Q1 (rg 0 9999 x ∧ rg 0 39 y) (Rl n w x y) rr r1 ∧ (rr = nI 0 → B1 0 = r1.toInt64) ∧ va_P D vwCl (lww cI cJ o r t a1 a2 b1 b2 ot n w F G n2 w2 F2 G2 B1) H1) (va_A (lww cI cJ o r t a1 a2 b1 b2 ot n w F G n2 w2 F2 G2 B) sz)) 2 12 (va_A (lww cI cJ o r t a1 a2 b1 b2 ot n w F G n2 w2 F2 G2 B) sz) := by
  obtain ⟨hn3, hn, hw2, hF, hG, hO⟩ := id S
  refine bd_w (Qf := fun A => qm_i (fun rr H1 => ∃ (B1 : Nat → Int64) (r1 : Int32), Q1 (rg 0 9999 x ∧ rg 0 39 y) (Rl n w x y) rr r1 ∧ (rr = nI 0 → B1 0 = r1.toInt64) ∧ va_P D vwCl (lww cI cJ o r t a1 a2 b1 b2 ot n w F G n2 w2 F2 G2 B1) H1) A) (cc := cL_lookedAt) (maxL := 5) (ret := (some .int)) (hh := [(0, 10, 13, 13)]) (by decide) rfl (Nat.le_of_ble_eq_true rfl) ?_
  intro p e s m args below meth c ls A CF hr hlocks tb hK hP hD hA hS hX hZ hN hl
  obtain ⟨hx, hb, hml, hown, hts⟩ := id CF
  have hl : lv_has ls 5 [(0, .ref o), (1, .int x), (2, .int y), (3, .ref ot)] := hl
  have hP : va_P D vwCl [(o, .inr (1, [.ref r, .ref t])), (r, .inr (0, [.ref a1, .ref a2, .int (nI n), .int (nI w)])), (a1, .inl (cI, 40, .inl F)), (a2, .inl (cI, 40, .inl G)), (t, .inr (0, [.ref b1, .ref b2, .int (nI n2), .int (nI w2)])), (b1, .inl (cI, 40, .inl F2)), (b2, .inl (cI, 40, .inl G2)), (ot, .inl (cJ, 1, .inr (.inl B)))] s.heap := hP
  have hD : va_D A [(o, .inr (1, [.ref r, .ref t])), (r, .inr (0, [.ref a1, .ref a2, .int (nI n), .int (nI w)])), (a1, .inl (cI, 40, .inl F)), (a2, .inl (cI, 40, .inl G)), (t, .inr (0, [.ref b1, .ref b2, .int (nI n2), .int (nI w2)])), (b1, .inl (cI, 40, .inl F2)), (b2, .inl (cI, 40, .inl G2)), (ot, .inl (cJ, 1, .inr (.inl B)))] := hD
  have hK1 : va_K D vwCl [(cI, .int)] s := hK.sub [0] rfl
  have hZ0 : XZ (fun _ => False) s s.heap := hZ.narrow (fun q h => h.elim)
  refine lv_aload_n hx hb dL_lookedAt_0 rfl (lv_at hl 3 rfl) ?_
  refine lv_iconst (v := nI 0) hx hb dL_lookedAt_1 (by decide) ?_
  refine lv_aload_n hx hb dL_lookedAt_2 rfl (lv_at hl 0 rfl) ?_
  refine lv_iload_n hx hb dL_lookedAt_3 rfl (lv_at hl 1 rfl) ?_
  refine lv_iload_n hx hb dL_lookedAt_4 rfl (lv_at hl 2 rfl) ?_
  refine xw_i (vx_runV (rest := [.int (nI 0), .ref ot]) CF (m_X1_lookedAt l hlt D cI o r t a1 a2 b1 b2 S n2 w2 F2 G2 x y) (cwV 2 hts gL_lookedAt_X1_lookedAt rfl rfl rfl k_X1_lookedAt ⟨Nat.le_of_ble_eq_true rfl, Nat.le_of_ble_eq_true rfl⟩) (px_pre hK1 (hP.sub [0, 1, 2, 3, 4, 5, 6] rfl) hX hZ0 rfl rfl rfl) rfl rfl hl.1 rfl (lv_room (Nat.le_of_ble_eq_true rfl)) dL_lookedAt_5 ⟨Nat.le_of_ble_eq_true rfl, Nat.le_of_ble_eq_true rfl⟩) (fun E ce q9 H1 hE hz hk hce hcv hcl => ?_) (fun r1 hr1 => ?_)
  · skip
    have hP : va_P D vwCl [(o, .inr (1, [.ref r, .ref t])), (r, .inr (0, [.ref a1, .ref a2, .int (nI n), .int (nI w)])), (a1, .inl (cI, 40, .inl F)), (a2, .inl (cI, 40, .inl G)), (t, .inr (0, [.ref b1, .ref b2, .int (nI n2), .int (nI w2)])), (b1, .inl (cI, 40, .inl F2)), (b2, .inl (cI, 40, .inl G2)), (ot, .inl (cJ, 1, .inr (.inl B)))] H1 := hP.kept (fun k q hk9 => hk q.1 ((hP k q hk9).lt))
    have hS : va_S A s.heap H1 [] := ⟨hz, fun q h1 _ => hk q h1, fun q hq => nomatch hq⟩
    obtain ⟨rfl, hno⟩ := hE
    refine vx_catch (own := RL) (name := "java/lang/IllegalArgumentException") hown [] ⟨0, 10, 13, 13⟩ [] tb (fun z hz => nomatch hz) rfl (by decide) (hts _ (List.mem_of_getElem? (i := 1) rfl)) (va_Nw.use rfl (hX.1 _ (List.mem_of_getElem? (i := 3) rfl))) hce hcv hcl ?_
    refine lv_astore (lv' := [(4, .ref q9), (0, .ref o), (1, .int x), (2, .int y), (3, .ref ot)]) hx hb dL_lookedAt_13 hl (by decide) rfl (fun ls hl => ?_)
    refine lv_iconst (v := nI 1) hx hb dL_lookedAt_15 (by decide) ?_
    exact em_i hx hb hr hlocks hS (⟨B, 0, Or.inl ⟨hno, rfl⟩, (fun z => absurd z (by decide)), hP⟩) dL_lookedAt_16
  · skip
    refine lv_i2l hx hb dL_lookedAt_8 rfl ?_
    refine va_last hx hb hK hP hD hS 7 1 rfl rfl (i := nI 0) (vp_in_nI (by decide) (by decide)) dL_lookedAt_9 (fun H locs hP hD hS => ?_)
    have hP : va_P D vwCl [(o, .inr (1, [.ref r, .ref t])), (r, .inr (0, [.ref a1, .ref a2, .int (nI n), .int (nI w)])), (a1, .inl (cI, 40, .inl F)), (a2, .inl (cI, 40, .inl G)), (t, .inr (0, [.ref b1, .ref b2, .int (nI n2), .int (nI w2)])), (b1, .inl (cI, 40, .inl F2)), (b2, .inl (cI, 40, .inl G2)), (ot, .inl (cJ, 1, .inr (.inl (vp_updL B (nI 0).toNatClampNeg r1.toInt64))))] H := hP
    have hD : va_D A [(o, .inr (1, [.ref r, .ref t])), (r, .inr (0, [.ref a1, .ref a2, .int (nI n), .int (nI w)])), (a1, .inl (cI, 40, .inl F)), (a2, .inl (cI, 40, .inl G)), (t, .inr (0, [.ref b1, .ref b2, .int (nI n2), .int (nI w2)])), (b1, .inl (cI, 40, .inl F2)), (b2, .inl (cI, 40, .inl G2)), (ot, .inl (cJ, 1, .inr (.inl (vp_updL B (nI 0).toNatClampNeg r1.toInt64))))] := hD
    refine lv_goto (tgt := 17) hx hb dL_lookedAt_10 (by decide) ?_
    refine lv_iconst (v := nI 0) hx hb dL_lookedAt_17 (by decide) ?_
    exact em_i hx hb hr hlocks hS (⟨_, r1, Or.inr ⟨rfl, hr1⟩, (fun _ => updL0), hP⟩) dL_lookedAt_18
theorem k_L_hang : yL_hang.cls = RL ∧ yL_hang.cls ≠ "java/lang/invoke/MethodHandle" ∧ yL_hang.cls ≠ "java/lang/invoke/VarHandle" ∧ (parseMethodDescriptor yL_hang.desc).map (fun d => d.parameters.length) = some 4 := by decide +kernel
set_option maxHeartbeats 4000000 in
set_option maxRecDepth 100000 in
theorem m_L_hang (l : Launch) (hlt : l.stackTraces = false) (D : va_G) (cI cJ : ClassId) (o r t a1 a2 b1 b2 ot : Nat) {n w : Nat} {F G f g : Nat → Int32} (S : RS n w F G f g) (n2 w2 : Nat) (F2 G2 : Nat → Int32) (B : Nat → Int64) (x y : Int32) (sz : Nat) : Met l yL_hang wsL_hang ({ frames := 8, cells := 2, slots := 12, locals := 133 } : Room) (PL D [(cI, .int), (cJ, .long)] [.ref o, .int x, .int y, .ref ot] sz (lww cI cJ o r t a1 a2 b1 b2 ot n w F G n2 w2 F2 G2 B)) (qm_i (fun rr H1 => ∃ (B1 : Nat → Int64) (r1 : Int32) (F3 G3 f3 g3 : Nat → Int32), Qh n w f g x y rr r1 f3 g3 ∧ RS n w F3 G3 f3 g3 ∧ (rr = nI 0 → B1 0 = r1.toInt64) ∧ va_P D vwCl (lww cI cJ o r t a1 a2 b1 b2 ot n w F3 G3 n2 w2 F2 G2 B1) H1) (va_A (lww cI cJ o r t a1 a2 b1 b2 ot n w F G n2 w2 F2 G2 B) sz)) 2 12 (va_A (lww cI cJ o r t a1 a2 b1 b2 ot n w F G n2 w2 F2 G2 B) sz) := by
  obtain ⟨hn3, hn, hw2, hF, hG, hO⟩ := id S
  refine bd_w (Qf := fun A => qm_i (fun rr H1 => ∃ (B1 : Nat → Int64) (r1 : Int32) (F3 G3 f3 g3 : Nat → Int32), Qh n w f g x y rr r1 f3 g3 ∧ RS n w F3 G3 f3 g3 ∧ (rr = nI 0 → B1 0 = r1.toInt64) ∧ va_P D vwCl (lww cI cJ o r t a1 a2 b1 b2 ot n w F3 G3 n2 w2 F2 G2 B1) H1) A) (cc := cL_hang) (maxL := 5) (ret := (some .int)) (hh := [(0, 10, 13, 13), (0, 10, 17, 15)]) (by decide) rfl (Nat.le_of_ble_eq_true rfl) ?_
  intro p e s m args below meth c ls A CF hr hlocks tb hK hP hD hA hS hX hZ hN hl
  obtain ⟨hx, hb, hml, hown, hts⟩ := id CF
  have hl : lv_has ls 5 [(0, .ref o), (1, .int x), (2, .int y), (3, .ref ot)] := hl
  have hP : va_P D vwCl [(o, .inr (1, [.ref r, .ref t])), (r, .inr (0, [.ref a1, .ref a2, .int (nI n), .int (nI w)])), (a1, .inl (cI, 40, .inl F)), (a2, .inl (cI, 40, .inl G)), (t, .inr (0, [.ref b1, .ref b2, .int (nI n2), .int (nI w2)])), (b1, .inl (cI, 40, .inl F2)), (b2, .inl (cI, 40, .inl G2)), (ot, .inl (cJ, 1, .inr (.inl B)))] s.heap := hP
  have hD : va_D A [(o, .inr (1, [.ref r, .ref t])), (r, .inr (0, [.ref a1, .ref a2, .int (nI n), .int (nI w)])), (a1, .inl (cI, 40, .inl F)), (a2, .inl (cI, 40, .inl G)), (t, .inr (0, [.ref b1, .ref b2, .int (nI n2), .int (nI w2)])), (b1, .inl (cI, 40, .inl F2)), (b2, .inl (cI, 40, .inl G2)), (ot, .inl (cJ, 1, .inr (.inl B)))] := hD
  have hK1 : va_K D vwCl [(cI, .int)] s := hK.sub [0] rfl
  have hZ0 : XZ (fun _ => False) s s.heap := hZ.narrow (fun q h => h.elim)
  refine lv_aload_n hx hb dL_hang_0 rfl (lv_at hl 3 rfl) ?_
  refine lv_iconst (v := nI 0) hx hb dL_hang_1 (by decide) ?_
  refine lv_aload_n hx hb dL_hang_2 rfl (lv_at hl 0 rfl) ?_
  refine lv_iload_n hx hb dL_hang_3 rfl (lv_at hl 1 rfl) ?_
  refine lv_iload_n hx hb dL_hang_4 rfl (lv_at hl 2 rfl) ?_
  have hPc : va_P D vwCl [(o, .inr (1, [.ref r, .ref t])), (r, .inr (0, [.ref a1, .ref a2, .int (nI n), .int (nI w)])), (a1, .inl (cI, 40, .inl F)), (a2, .inl (cI, 40, .inl G)), (t, .inr (0, [.ref b1, .ref b2, .int (nI n2), .int (nI w2)])), (b1, .inl (cI, 40, .inl F2)), (b2, .inl (cI, 40, .inl G2))] s.heap := hP.sub [0, 1, 2, 3, 4, 5, 6] rfl
  have hDc : va_D A [(o, .inr (1, [.ref r, .ref t])), (r, .inr (0, [.ref a1, .ref a2, .int (nI n), .int (nI w)])), (a1, .inl (cI, 40, .inl F)), (a2, .inl (cI, 40, .inl G)), (t, .inr (0, [.ref b1, .ref b2, .int (nI n2), .int (nI w2)])), (b1, .inl (cI, 40, .inl F2)), (b2, .inl (cI, 40, .inl G2))] := hD.sub [0, 1, 2, 3, 4, 5, 6] (by decide) rfl
  have hFc := va_free (wc := [(o, .inr (1, [.ref r, .ref t])), (r, .inr (0, [.ref a1, .ref a2, .int (nI n), .int (nI w)])), (a1, .inl (cI, 40, .inl F)), (a2, .inl (cI, 40, .inl G)), (t, .inr (0, [.ref b1, .ref b2, .int (nI n2), .int (nI w2)])), (b1, .inl (cI, 40, .inl F2)), (b2, .inl (cI, 40, .inl G2))]) hD hS hA [0, 1, 2, 3, 4, 5, 6] rfl
  refine xw_m (vx_runV (rest := [.int (nI 0), .ref ot]) CF (m_X1_hang l hlt D cI o r t a1 a2 b1 b2 S n2 w2 F2 G2 x y s.heap.size) (cwV 2 hts gL_hang_X1_hang rfl rfl rfl k_X1_hang ⟨Nat.le_of_ble_eq_true rfl, Nat.le_of_ble_eq_true rfl⟩) (pxm_pre hK1 hPc hDc hX hZ hFc rfl rfl rfl) rfl rfl hl.1 rfl (lv_room (Nat.le_of_ble_eq_true rfl)) dL_hang_5 ⟨Nat.le_of_ble_eq_true rfl, Nat.le_of_ble_eq_true rfl⟩) hS hFc xk_F (fun E ce q9 st9 t9 locs hst hXC hz hk hS hce hcv hcl => ?_) (fun r1 H locs hB hk1 hS => ?_)
  · skip
    obtain ⟨hE, hz2, hk2⟩ := hXC
    rw [hst] at hk2
    have hP : va_P D vwCl [(o, .inr (1, [.ref r, .ref t])), (r, .inr (0, [.ref a1, .ref a2, .int (nI n), .int (nI w)])), (a1, .inl (cI, 40, .inl F)), (a2, .inl (cI, 40, .inl G)), (t, .inr (0, [.ref b1, .ref b2, .int (nI n2), .int (nI w2)])), (b1, .inl (cI, 40, .inl F2)), (b2, .inl (cI, 40, .inl G2)), (ot, .inl (cJ, 1, .inr (.inl B)))] t9.heap := hP.kept (fun k q hk9 => hk2 q.1 ((hP k q hk9).lt))
    rcases hE with ⟨rfl, hno⟩ | ⟨rfl, v, z, hv9, ex, hz1, hz9, ey, hp⟩
    · skip
      refine vx_catch (own := RL) (name := "java/lang/IllegalArgumentException") hown [] ⟨0, 10, 13, 13⟩ [⟨0, 10, 17, 15⟩] tb (fun z hz => nomatch hz) rfl (by decide) (hts _ (List.mem_of_getElem? (i := 1) rfl)) (va_Nw.use rfl (hX.1 _ (List.mem_of_getElem? (i := 3) rfl))) hce hcv hcl ?_
      refine lv_astore (lv' := [(4, .ref q9), (0, .ref o), (1, .int x), (2, .int y), (3, .ref ot)]) hx hb dL_hang_13 hl (by decide) rfl (fun ls hl => ?_)
      refine lv_iconst (v := nI 1) hx hb dL_hang_15 (by decide) ?_
      exact em_i hx hb hr hlocks hS (⟨B, 0, F, G, f, g, Or.inl ⟨hno, rfl, rfl, rfl⟩, S, (fun z => absurd z (by decide)), hP⟩) dL_hang_16
    · skip
      refine vx_catch (own := RL) (name := "java/lang/IllegalStateException") hown [⟨0, 10, 13, 13⟩] ⟨0, 10, 17, 15⟩ [] tb (fun z hz => by rcases List.mem_singleton.mp hz with rfl; exact Or.inr ⟨by decide, _, (hts _ (List.mem_of_getElem? (i := 1) rfl)), hN⟩) rfl (by decide) (hts _ (List.mem_of_getElem? (i := 2) rfl)) (va_Nw.use rfl (hX.1 _ (List.mem_of_getElem? (i := 4) rfl))) hce hcv hcl ?_
      refine lv_astore (lv' := [(4, .ref q9), (0, .ref o), (1, .int x), (2, .int y), (3, .ref ot)]) hx hb dL_hang_17 hl (by decide) rfl (fun ls hl => ?_)
      refine lv_iconst (v := nI 2) hx hb dL_hang_19 (by decide) ?_
      exact em_i hx hb hr hlocks hS (⟨B, 0, F, G, f, g, Or.inr ⟨v, z, hv9, ex, hz1, hz9, ey, Or.inl ⟨hp, rfl, rfl, rfl⟩⟩, S, (fun z => absurd z (by decide)), hP⟩) dL_hang_20
  · skip
    obtain ⟨v, z, k, hv9, ex, hz1, hz9, ey, hkn, ek, er, hP1⟩ := hB
    obtain ⟨hP, hD⟩ := jn (wb := [(o, .inr (1, [.ref r, .ref t])), (r, .inr (0, [.ref a1, .ref a2, .int (nI n), .int (nI w)])), (a1, .inl (cI, 40, .inl (upd F k (nI v)))), (a2, .inl (cI, 40, .inl (upd G k (nI z)))), (t, .inr (0, [.ref b1, .ref b2, .int (nI n2), .int (nI w2)])), (b1, .inl (cI, 40, .inl F2)), (b2, .inl (cI, 40, .inl G2)), (ot, .inl (cJ, 1, .inr (.inl B)))]) (w1 := [(o, .inr (1, [.ref r, .ref t])), (r, .inr (0, [.ref a1, .ref a2, .int (nI n), .int (nI w)])), (a1, .inl (cI, 40, .inl (upd F k (nI v)))), (a2, .inl (cI, 40, .inl (upd G k (nI z)))), (t, .inr (0, [.ref b1, .ref b2, .int (nI n2), .int (nI w2)])), (b1, .inl (cI, 40, .inl F2)), (b2, .inl (cI, 40, .inl G2))]) hP hD [0, 1, 2, 3, 4, 5, 6] [7] rfl rfl rfl rfl 8 rfl (by decide) (by decide) hk1 hP1
    refine lv_i2l hx hb dL_hang_8 rfl ?_
    refine va_last hx hb hK hP hD hS 7 1 rfl rfl (i := nI 0) (vp_in_nI (by decide) (by decide)) dL_hang_9 (fun H locs hP hD hS => ?_)
    have hP : va_P D vwCl [(o, .inr (1, [.ref r, .ref t])), (r, .inr (0, [.ref a1, .ref a2, .int (nI n), .int (nI w)])), (a1, .inl (cI, 40, .inl (upd F k (nI v)))), (a2, .inl (cI, 40, .inl (upd G k (nI z)))), (t, .inr (0, [.ref b1, .ref b2, .int (nI n2), .int (nI w2)])), (b1, .inl (cI, 40, .inl F2)), (b2, .inl (cI, 40, .inl G2)), (ot, .inl (cJ, 1, .inr (.inl (vp_updL B (nI 0).toNatClampNeg r1.toInt64))))] H := hP
    have hD : va_D A [(o, .inr (1, [.ref r, .ref t])), (r, .inr (0, [.ref a1, .ref a2, .int (nI n), .int (nI w)])), (a1, .inl (cI, 40, .inl (upd F k (nI v)))), (a2, .inl (cI, 40, .inl (upd G k (nI z)))), (t, .inr (0, [.ref b1, .ref b2, .int (nI n2), .int (nI w2)])), (b1, .inl (cI, 40, .inl F2)), (b2, .inl (cI, 40, .inl G2)), (ot, .inl (cJ, 1, .inr (.inl (vp_updL B (nI 0).toNatClampNeg r1.toInt64))))] := hD
    refine lv_goto (tgt := 21) hx hb dL_hang_10 (by decide) ?_
    refine lv_iconst (v := nI 0) hx hb dL_hang_21 (by decide) ?_
    exact em_i hx hb hr hlocks hS (⟨_, r1, _, _, upd f k (nI v), upd g k (nI z), Or.inr ⟨v, z, hv9, ex, hz1, hz9, ey, Or.inr ⟨k, hkn, ek, rfl, er, rfl, rfl⟩⟩, S.put hv9 hz1 hz9 rfl, (fun _ => updL0), hP⟩) dL_hang_22
theorem k_L_take : yL_take.cls = RL ∧ yL_take.cls ≠ "java/lang/invoke/MethodHandle" ∧ yL_take.cls ≠ "java/lang/invoke/VarHandle" ∧ (parseMethodDescriptor yL_take.desc).map (fun d => d.parameters.length) = some 3 := by decide +kernel
set_option maxHeartbeats 4000000 in
set_option maxRecDepth 100000 in
theorem m_L_take (l : Launch) (hlt : l.stackTraces = false) (D : va_G) (cI cJ : ClassId) (o r t a1 a2 b1 b2 ot : Nat) {n w : Nat} {F G f g : Nat → Int32} (S : RS n w F G f g) (n2 w2 : Nat) (F2 G2 : Nat → Int32) (B : Nat → Int64) (x : Int32) (sz : Nat) : Met l yL_take wsL_take ({ frames := 8, cells := 2, slots := 12, locals := 133 } : Room) (PL D [(cI, .int), (cJ, .long)] [.ref o, .int x, .ref ot] sz (lww cI cJ o r t a1 a2 b1 b2 ot n w F G n2 w2 F2 G2 B)) (qm_i (fun rr H1 => ∃ (B1 : Nat → Int64) (r1 : Int32) (F3 G3 f3 g3 : Nat → Int32), Qt n w f g x rr r1 f3 g3 ∧ RS n w F3 G3 f3 g3 ∧ (rr = nI 0 → B1 0 = r1.toInt64) ∧ va_P D vwCl (lww cI cJ o r t a1 a2 b1 b2 ot n w F3 G3 n2 w2 F2 G2 B1) H1) (va_A (lww cI cJ o r t a1 a2 b1 b2 ot n w F G n2 w2 F2 G2 B) sz)) 2 12 (va_A (lww cI cJ o r t a1 a2 b1 b2 ot n w F G n2 w2 F2 G2 B) sz) := by
  obtain ⟨hn3, hn, hw2, hF, hG, hO⟩ := id S
  refine bd_w (Qf := fun A => qm_i (fun rr H1 => ∃ (B1 : Nat → Int64) (r1 : Int32) (F3 G3 f3 g3 : Nat → Int32), Qt n w f g x rr r1 f3 g3 ∧ RS n w F3 G3 f3 g3 ∧ (rr = nI 0 → B1 0 = r1.toInt64) ∧ va_P D vwCl (lww cI cJ o r t a1 a2 b1 b2 ot n w F3 G3 n2 w2 F2 G2 B1) H1) A) (cc := cL_take) (maxL := 4) (ret := (some .int)) (hh := [(0, 9, 12, 13), (0, 9, 15, 15)]) (by decide) rfl (Nat.le_of_ble_eq_true rfl) ?_
  intro p e s m args below meth c ls A CF hr hlocks tb hK hP hD hA hS hX hZ hN hl
  obtain ⟨hx, hb, hml, hown, hts⟩ := id CF
  have hl : lv_has ls 4 [(0, .ref o), (1, .int x), (2, .ref ot)] := hl
  have hP : va_P D vwCl [(o, .inr (1, [.ref r, .ref t])), (r, .inr (0, [.ref a1, .ref a2, .int (nI n), .int (nI w)])), (a1, .inl (cI, 40, .inl F)), (a2, .inl (cI, 40, .inl G)), (t, .inr (0, [.ref b1, .ref b2, .int (nI n2), .int (nI w2)])), (b1, .inl (cI, 40, .inl F2)), (b2, .inl (cI, 40, .inl G2)), (ot, .inl (cJ, 1, .inr (.inl B)))] s.heap := hP
  have hD : va_D A [(o, .inr (1, [.ref r, .ref t])), (r, .inr (0, [.ref a1, .ref a2, .int (nI n), .int (nI w)])), (a1, .inl (cI, 40, .inl F)), (a2, .inl (cI, 40, .inl G)), (t, .inr (0, [.ref b1, .ref b2, .int (nI n2), .int (nI w2)])), (b1, .inl (cI, 40, .inl F2)), (b2, .inl (cI, 40, .inl G2)), (ot, .inl (cJ, 1, .inr (.inl B)))] := hD
  have hK1 : va_K D vwCl [(cI, .int)] s := hK.sub [0] rfl
  have hZ0 : XZ (fun _ => False) s s.heap := hZ.narrow (fun q h => h.elim)
  refine lv_aload_n hx hb dL_take_0 rfl (lv_at hl 2 rfl) ?_
  refine lv_iconst (v := nI 0) hx hb dL_take_1 (by decide) ?_
  refine lv_aload_n hx hb dL_take_2 rfl (lv_at hl 0 rfl) ?_
  refine lv_iload_n hx hb dL_take_3 rfl (lv_at hl 1 rfl) ?_
  have hPc : va_P D vwCl [(o, .inr (1, [.ref r, .ref t])), (r, .inr (0, [.ref a1, .ref a2, .int (nI n), .int (nI w)])), (a1, .inl (cI, 40, .inl F)), (a2, .inl (cI, 40, .inl G)), (t, .inr (0, [.ref b1, .ref b2, .int (nI n2), .int (nI w2)])), (b1, .inl (cI, 40, .inl F2)), (b2, .inl (cI, 40, .inl G2))] s.heap := hP.sub [0, 1, 2, 3, 4, 5, 6] rfl
  have hDc : va_D A [(o, .inr (1, [.ref r, .ref t])), (r, .inr (0, [.ref a1, .ref a2, .int (nI n), .int (nI w)])), (a1, .inl (cI, 40, .inl F)), (a2, .inl (cI, 40, .inl G)), (t, .inr (0, [.ref b1, .ref b2, .int (nI n2), .int (nI w2)])), (b1, .inl (cI, 40, .inl F2)), (b2, .inl (cI, 40, .inl G2))] := hD.sub [0, 1, 2, 3, 4, 5, 6] (by decide) rfl
  have hFc := va_free (wc := [(o, .inr (1, [.ref r, .ref t])), (r, .inr (0, [.ref a1, .ref a2, .int (nI n), .int (nI w)])), (a1, .inl (cI, 40, .inl F)), (a2, .inl (cI, 40, .inl G)), (t, .inr (0, [.ref b1, .ref b2, .int (nI n2), .int (nI w2)])), (b1, .inl (cI, 40, .inl F2)), (b2, .inl (cI, 40, .inl G2))]) hD hS hA [0, 1, 2, 3, 4, 5, 6] rfl
  refine xw_m (vx_runV (rest := [.int (nI 0), .ref ot]) CF (m_X1_take l hlt D cI o r t a1 a2 b1 b2 S n2 w2 F2 G2 x s.heap.size) (cwV 1 hts gL_take_X1_take rfl rfl rfl k_X1_take ⟨Nat.le_of_ble_eq_true rfl, Nat.le_of_ble_eq_true rfl⟩) (pxm_pre hK1 hPc hDc hX hZ hFc rfl rfl rfl) rfl rfl hl.1 rfl (lv_room (Nat.le_of_ble_eq_true rfl)) dL_take_4 ⟨Nat.le_of_ble_eq_true rfl, Nat.le_of_ble_eq_true rfl⟩) hS hFc xk_F (fun E ce q9 st9 t9 locs hst hXC hz hk hS hce hcv hcl => ?_) (fun r1 H locs hB hk1 hS => ?_)
  · skip
    obtain ⟨hE, hz2, hk2⟩ := hXC
    rw [hst] at hk2
    have hP : va_P D vwCl [(o, .inr (1, [.ref r, .ref t])), (r, .inr (0, [.ref a1, .ref a2, .int (nI n), .int (nI w)])), (a1, .inl (cI, 40, .inl F)), (a2, .inl (cI, 40, .inl G)), (t, .inr (0, [.ref b1, .ref b2, .int (nI n2), .int (nI w2)])), (b1, .inl (cI, 40, .inl F2)), (b2, .inl (cI, 40, .inl G2)), (ot, .inl (cJ, 1, .inr (.inl B)))] t9.heap := hP.kept (fun k q hk9 => hk2 q.1 ((hP k q hk9).lt))
    rcases hE with ⟨rfl, hno⟩ | ⟨rfl, v, hv9, ex, hp⟩
    · skip
      refine vx_catch (own := RL) (name := "java/lang/IllegalArgumentException") hown [] ⟨0, 9, 12, 13⟩ [⟨0, 9, 15, 15⟩] tb (fun z hz => nomatch hz) rfl (by decide) (hts _ (List.mem_of_getElem? (i := 1) rfl)) (va_Nw.use rfl (hX.1 _ (List.mem_of_getElem? (i := 3) rfl))) hce hcv hcl ?_
      refine lv_astore_n (lv' := [(3, .ref q9), (0, .ref o), (1, .int x), (2, .ref ot)]) hx hb dL_take_12 rfl hl (by decide) rfl (fun ls hl => ?_)
      refine lv_iconst (v := nI 1) hx hb dL_take_13 (by decide) ?_
      exact em_i hx hb hr hlocks hS (⟨B, 0, F, G, f, g, Or.inl ⟨hno, rfl, rfl, rfl⟩, S, (fun z => absurd z (by decide)), hP⟩) dL_take_14
    · skip
      refine vx_catch (own := RL) (name := "java/lang/IllegalStateException") hown [⟨0, 9, 12, 13⟩] ⟨0, 9, 15, 15⟩ [] tb (fun z hz => by rcases List.mem_singleton.mp hz with rfl; exact Or.inr ⟨by decide, _, (hts _ (List.mem_of_getElem? (i := 1) rfl)), hN⟩) rfl (by decide) (hts _ (List.mem_of_getElem? (i := 2) rfl)) (va_Nw.use rfl (hX.1 _ (List.mem_of_getElem? (i := 4) rfl))) hce hcv hcl ?_
      refine lv_astore_n (lv' := [(3, .ref q9), (0, .ref o), (1, .int x), (2, .ref ot)]) hx hb dL_take_15 rfl hl (by decide) rfl (fun ls hl => ?_)
      refine lv_iconst (v := nI 2) hx hb dL_take_16 (by decide) ?_
      exact em_i hx hb hr hlocks hS (⟨B, 0, F, G, f, g, Or.inr ⟨v, hv9, ex, Or.inl ⟨hp, rfl, rfl, rfl⟩⟩, S, (fun z => absurd z (by decide)), hP⟩) dL_take_17
  · skip
    obtain ⟨v, hv9, ex, ek, er, hP1⟩ := hB
    obtain ⟨hP, hD⟩ := jn (wb := [(o, .inr (1, [.ref r, .ref t])), (r, .inr (0, [.ref a1, .ref a2, .int (nI n), .int (nI w)])), (a1, .inl (cI, 40, .inl (upd F (la n w f v) (-2)))), (a2, .inl (cI, 40, .inl (upd G (la n w f v) (nI 0)))), (t, .inr (0, [.ref b1, .ref b2, .int (nI n2), .int (nI w2)])), (b1, .inl (cI, 40, .inl F2)), (b2, .inl (cI, 40, .inl G2)), (ot, .inl (cJ, 1, .inr (.inl B)))]) (w1 := [(o, .inr (1, [.ref r, .ref t])), (r, .inr (0, [.ref a1, .ref a2, .int (nI n), .int (nI w)])), (a1, .inl (cI, 40, .inl (upd F (la n w f v) (-2)))), (a2, .inl (cI, 40, .inl (upd G (la n w f v) (nI 0)))), (t, .inr (0, [.ref b1, .ref b2, .int (nI n2), .int (nI w2)])), (b1, .inl (cI, 40, .inl F2)), (b2, .inl (cI, 40, .inl G2))]) hP hD [0, 1, 2, 3, 4, 5, 6] [7] rfl rfl rfl rfl 8 rfl (by decide) (by decide) hk1 hP1
    refine lv_i2l hx hb dL_take_7 rfl ?_
    refine va_last hx hb hK hP hD hS 7 1 rfl rfl (i := nI 0) (vp_in_nI (by decide) (by decide)) dL_take_8 (fun H locs hP hD hS => ?_)
    have hP : va_P D vwCl [(o, .inr (1, [.ref r, .ref t])), (r, .inr (0, [.ref a1, .ref a2, .int (nI n), .int (nI w)])), (a1, .inl (cI, 40, .inl (upd F (la n w f v) (-2)))), (a2, .inl (cI, 40, .inl (upd G (la n w f v) (nI 0)))), (t, .inr (0, [.ref b1, .ref b2, .int (nI n2), .int (nI w2)])), (b1, .inl (cI, 40, .inl F2)), (b2, .inl (cI, 40, .inl G2)), (ot, .inl (cJ, 1, .inr (.inl (vp_updL B (nI 0).toNatClampNeg r1.toInt64))))] H := hP
    have hD : va_D A [(o, .inr (1, [.ref r, .ref t])), (r, .inr (0, [.ref a1, .ref a2, .int (nI n), .int (nI w)])), (a1, .inl (cI, 40, .inl (upd F (la n w f v) (-2)))), (a2, .inl (cI, 40, .inl (upd G (la n w f v) (nI 0)))), (t, .inr (0, [.ref b1, .ref b2, .int (nI n2), .int (nI w2)])), (b1, .inl (cI, 40, .inl F2)), (b2, .inl (cI, 40, .inl G2)), (ot, .inl (cJ, 1, .inr (.inl (vp_updL B (nI 0).toNatClampNeg r1.toInt64))))] := hD
    refine lv_goto (tgt := 18) hx hb dL_take_9 (by decide) ?_
    refine lv_iconst (v := nI 0) hx hb dL_take_18 (by decide) ?_
    exact em_i hx hb hr hlocks hS (⟨_, r1, _, _, upd f (la n w f v) (-2), upd g (la n w f v) (nI 0), Or.inr ⟨v, hv9, ex, Or.inr ⟨ek, rfl, er, rfl, rfl⟩⟩, S.tick _, (fun _ => updL0), hP⟩) dL_take_19
theorem k_L_rehang : yL_rehang.cls = RL ∧ yL_rehang.cls ≠ "java/lang/invoke/MethodHandle" ∧ yL_rehang.cls ≠ "java/lang/invoke/VarHandle" ∧ (parseMethodDescriptor yL_rehang.desc).map (fun d => d.parameters.length) = some 4 := by decide +kernel
set_option maxHeartbeats 4000000 in
set_option maxRecDepth 100000 in
theorem m_L_rehang (l : Launch) (hlt : l.stackTraces = false) (D : va_G) (cI cJ : ClassId) (o r t a1 a2 b1 b2 ot : Nat) {n w : Nat} {F G f g : Nat → Int32} (S : RS n w F G f g) (n2 w2 : Nat) (F2 G2 : Nat → Int32) (B : Nat → Int64) (x y : Int32) (sz : Nat) : Met l yL_rehang wsL_rehang ({ frames := 8, cells := 2, slots := 12, locals := 134 } : Room) (PL D [(cI, .int), (cJ, .long)] [.ref o, .int x, .int y, .ref ot] sz (lww cI cJ o r t a1 a2 b1 b2 ot n w F G n2 w2 F2 G2 B)) (qm_i (fun rr H1 => ∃ (B1 : Nat → Int64) (r1 : Int32) (n3 w3 : Nat) (F3 G3 f3 g3 : Nat → Int32) (n4 w4 : Nat) (F4 G4 : Nat → Int32), Qr n w f g x y rr r1 n3 w3 f3 g3 ∧ RS n3 w3 F3 G3 f3 g3 ∧ (rr = nI 0 → B1 0 = r1.toInt64) ∧ va_P D vwCl (lww cI cJ o r t a1 a2 b1 b2 ot n3 w3 F3 G3 n4 w4 F4 G4 B1) H1) (va_A (lww cI cJ o r t a1 a2 b1 b2 ot n w F G n2 w2 F2 G2 B) sz)) 2 12 (va_A (lww cI cJ o r t a1 a2 b1 b2 ot n w F G n2 w2 F2 G2 B) sz) := by
  obtain ⟨hn3, hn, hw2, hF, hG, hO⟩ := id S
  refine bd_w (Qf := fun A => qm_i (fun rr H1 => ∃ (B1 : Nat → Int64) (r1 : Int32) (n3 w3 : Nat) (F3 G3 f3 g3 : Nat → Int32) (n4 w4 : Nat) (F4 G4 : Nat → Int32), Qr n w f g x y rr r1 n3 w3 f3 g3 ∧ RS n3 w3 F3 G3 f3 g3 ∧ (rr = nI 0 → B1 0 = r1.toInt64) ∧ va_P D vwCl (lww cI cJ o r t a1 a2 b1 b2 ot n3 w3 F3 G3 n4 w4 F4 G4 B1) H1) A) (cc := cL_rehang) (maxL := 5) (ret := (some .int)) (hh := [(0, 10, 13, 13), (0, 10, 17, 15)]) (by decide) rfl (Nat.le_of_ble_eq_true rfl) ?_
  intro p e s m args below meth c ls A CF hr hlocks tb hK hP hD hA hS hX hZ hN hl
  obtain ⟨hx, hb, hml, hown, hts⟩ := id CF
  have hl : lv_has ls 5 [(0, .ref o), (1, .int x), (2, .int y), (3, .ref ot)] := hl
  have hP : va_P D vwCl [(o, .inr (1, [.ref r, .ref t])), (r, .inr (0, [.ref a1, .ref a2, .int (nI n), .int (nI w)])), (a1, .inl (cI, 40, .inl F)), (a2, .inl (cI, 40, .inl G)), (t, .inr (0, [.ref b1, .ref b2, .int (nI n2), .int (nI w2)])), (b1, .inl (cI, 40, .inl F2)), (b2, .inl (cI, 40, .inl G2)), (ot, .inl (cJ, 1, .inr (.inl B)))] s.heap := hP
  have hD : va_D A [(o, .inr (1, [.ref r, .ref t])), (r, .inr (0, [.ref a1, .ref a2, .int (nI n), .int (nI w)])), (a1, .inl (cI, 40, .inl F)), (a2, .inl (cI, 40, .inl G)), (t, .inr (0, [.ref b1, .ref b2, .int (nI n2), .int (nI w2)])), (b1, .inl (cI, 40, .inl F2)), (b2, .inl (cI, 40, .inl G2)), (ot, .inl (cJ, 1, .inr (.inl B)))] := hD
  have hK1 : va_K D vwCl [(cI, .int)] s := hK.sub [0] rfl
  have hZ0 : XZ (fun _ => False) s s.heap := hZ.narrow (fun q h => h.elim)
  refine lv_aload_n hx hb dL_rehang_0 rfl (lv_at hl 3 rfl) ?_
  refine lv_iconst (v := nI 0) hx hb dL_rehang_1 (by decide) ?_
  refine lv_aload_n hx hb dL_rehang_2 rfl (lv_at hl 0 rfl) ?_
  refine lv_iload_n hx hb dL_rehang_3 rfl (lv_at hl 1 rfl) ?_
  refine lv_iload_n hx hb dL_rehang_4 rfl (lv_at hl 2 rfl) ?_
  have hPc : va_P D vwCl [(o, .inr (1, [.ref r, .ref t])), (r, .inr (0, [.ref a1, .ref a2, .int (nI n), .int (nI w)])), (a1, .inl (cI, 40, .inl F)), (a2, .inl (cI, 40, .inl G)), (t, .inr (0, [.ref b1, .ref b2, .int (nI n2), .int (nI w2)])), (b1, .inl (cI, 40, .inl F2)), (b2, .inl (cI, 40, .inl G2))] s.heap := hP.sub [0, 1, 2, 3, 4, 5, 6] rfl
  have hDc : va_D A [(o, .inr (1, [.ref r, .ref t])), (r, .inr (0, [.ref a1, .ref a2, .int (nI n), .int (nI w)])), (a1, .inl (cI, 40, .inl F)), (a2, .inl (cI, 40, .inl G)), (t, .inr (0, [.ref b1, .ref b2, .int (nI n2), .int (nI w2)])), (b1, .inl (cI, 40, .inl F2)), (b2, .inl (cI, 40, .inl G2))] := hD.sub [0, 1, 2, 3, 4, 5, 6] (by decide) rfl
  have hFc := va_free (wc := [(o, .inr (1, [.ref r, .ref t])), (r, .inr (0, [.ref a1, .ref a2, .int (nI n), .int (nI w)])), (a1, .inl (cI, 40, .inl F)), (a2, .inl (cI, 40, .inl G)), (t, .inr (0, [.ref b1, .ref b2, .int (nI n2), .int (nI w2)])), (b1, .inl (cI, 40, .inl F2)), (b2, .inl (cI, 40, .inl G2))]) hD hS hA [0, 1, 2, 3, 4, 5, 6] rfl
  refine xw_m (vx_runV (rest := [.int (nI 0), .ref ot]) CF (m_X1_rehang l hlt D cI o r t a1 a2 b1 b2 S n2 w2 F2 G2 x y s.heap.size) (cwV 2 hts gL_rehang_X1_rehang rfl rfl rfl k_X1_rehang ⟨Nat.le_of_ble_eq_true rfl, Nat.le_of_ble_eq_true rfl⟩) (pxm_pre hK1 hPc hDc hX hZ hFc rfl rfl rfl) rfl rfl hl.1 rfl (lv_room (Nat.le_of_ble_eq_true rfl)) dL_rehang_5 ⟨Nat.le_of_ble_eq_true rfl, Nat.le_of_ble_eq_true rfl⟩) hS hFc (fun E9 st9 t9 h9 => h9.elim (xk_F E9 st9 t9) (fun z9 => z9.2.2.2)) (fun E ce q9 st9 t9 locs hst hXC hz hk hS hce hcv hcl => ?_) (fun r1 H locs hB hk1 hS => ?_)
  · skip
    rcases hXC with ⟨⟨rfl, hno⟩, hz2, hk2⟩ | ⟨rfl, ⟨N, w1, hN3, hN40, ex, hw1, ey, hHG⟩, ⟨n3, w3, F3, G3, hP1⟩, hF9⟩
    · skip
      rw [hst] at hk2
      have hP : va_P D vwCl [(o, .inr (1, [.ref r, .ref t])), (r, .inr (0, [.ref a1, .ref a2, .int (nI n), .int (nI w)])), (a1, .inl (cI, 40, .inl F)), (a2, .inl (cI, 40, .inl G)), (t, .inr (0, [.ref b1, .ref b2, .int (nI n2), .int (nI w2)])), (b1, .inl (cI, 40, .inl F2)), (b2, .inl (cI, 40, .inl G2)), (ot, .inl (cJ, 1, .inr (.inl B)))] t9.heap := hP.kept (fun k q hk9 => hk2 q.1 ((hP k q hk9).lt))
      refine vx_catch (own := RL) (name := "java/lang/IllegalArgumentException") hown [] ⟨0, 10, 13, 13⟩ [⟨0, 10, 17, 15⟩] tb (fun z hz => nomatch hz) rfl (by decide) (hts _ (List.mem_of_getElem? (i := 1) rfl)) (va_Nw.use rfl (hX.1 _ (List.mem_of_getElem? (i := 3) rfl))) hce hcv hcl ?_
      refine lv_astore (lv' := [(4, .ref q9), (0, .ref o), (1, .int x), (2, .int y), (3, .ref ot)]) hx hb dL_rehang_13 hl (by decide) rfl (fun ls hl => ?_)
      refine lv_iconst (v := nI 1) hx hb dL_rehang_15 (by decide) ?_
      exact em_i hx hb hr hlocks hS (⟨B, 0, n, w, F, G, f, g, n2, w2, F2, G2, Or.inl ⟨hno, rfl, rfl, rfl, rfl, rfl⟩, S, (fun z => absurd z (by decide)), hP⟩) dL_rehang_16
    · skip
      obtain ⟨hP, hD⟩ := jn (wb := [(o, .inr (1, [.ref r, .ref t])), (r, .inr (0, [.ref a1, .ref a2, .int (nI n), .int (nI w)])), (a1, .inl (cI, 40, .inl F)), (a2, .inl (cI, 40, .inl G)), (t, .inr (0, [.ref b1, .ref b2, .int (nI n3), .int (nI w3)])), (b1, .inl (cI, 40, .inl F3)), (b2, .inl (cI, 40, .inl G3)), (ot, .inl (cJ, 1, .inr (.inl B)))]) (w1 := [(o, .inr (1, [.ref r, .ref t])), (r, .inr (0, [.ref a1, .ref a2, .int (nI n), .int (nI w)])), (a1, .inl (cI, 40, .inl F)), (a2, .inl (cI, 40, .inl G)), (t, .inr (0, [.ref b1, .ref b2, .int (nI n3), .int (nI w3)])), (b1, .inl (cI, 40, .inl F3)), (b2, .inl (cI, 40, .inl G3))]) hP hD [0, 1, 2, 3, 4, 5, 6] [7] rfl rfl rfl rfl 8 rfl (by decide) (by decide) hk hP1
      refine vx_catch (own := RL) (name := "java/lang/IllegalStateException") hown [⟨0, 10, 13, 13⟩] ⟨0, 10, 17, 15⟩ [] tb (fun z hz => by rcases List.mem_singleton.mp hz with rfl; exact Or.inr ⟨by decide, _, (hts _ (List.mem_of_getElem? (i := 1) rfl)), hN⟩) rfl (by decide) (hts _ (List.mem_of_getElem? (i := 2) rfl)) (va_Nw.use rfl (hX.1 _ (List.mem_of_getElem? (i := 4) rfl))) hce hcv hcl ?_
      refine lv_astore (lv' := [(4, .ref q9), (0, .ref o), (1, .int x), (2, .int y), (3, .ref ot)]) hx hb dL_rehang_17 hl (by decide) rfl (fun ls hl => ?_)
      refine lv_iconst (v := nI 2) hx hb dL_rehang_19 (by decide) ?_
      exact em_i hx hb hr hlocks hS (⟨B, 0, n, w, F, G, f, g, n3, w3, F3, G3, Or.inr ⟨N, w1, hN3, hN40, ex, hw1, ey, Or.inl ⟨hHG, rfl, rfl, rfl, rfl, rfl⟩⟩, S, (fun z => absurd z (by decide)), hP⟩) dL_rehang_20
  · skip
    obtain ⟨N, w1, hN3, hN40, ex, hw1, ey, T, U, z, hHG, hT4, er, F3, G3, S3, n3, w3, F4, G4, hP1⟩ := hB
    obtain ⟨hP, hD⟩ := jn (wb := [(o, .inr (1, [.ref r, .ref t])), (r, .inr (0, [.ref a1, .ref a2, .int (nI N), .int (nI w1)])), (a1, .inl (cI, 40, .inl F3)), (a2, .inl (cI, 40, .inl G3)), (t, .inr (0, [.ref b1, .ref b2, .int (nI n3), .int (nI w3)])), (b1, .inl (cI, 40, .inl F4)), (b2, .inl (cI, 40, .inl G4)), (ot, .inl (cJ, 1, .inr (.inl B)))]) (w1 := [(o, .inr (1, [.ref r, .ref t])), (r, .inr (0, [.ref a1, .ref a2, .int (nI N), .int (nI w1)])), (a1, .inl (cI, 40, .inl F3)), (a2, .inl (cI, 40, .inl G3)), (t, .inr (0, [.ref b1, .ref b2, .int (nI n3), .int (nI w3)])), (b1, .inl (cI, 40, .inl F4)), (b2, .inl (cI, 40, .inl G4))]) hP hD [0, 1, 2, 3, 4, 5, 6] [7] rfl rfl rfl rfl 8 rfl (by decide) (by decide) hk1 hP1
    refine lv_i2l hx hb dL_rehang_8 rfl ?_
    refine va_last hx hb hK hP hD hS 7 1 rfl rfl (i := nI 0) (vp_in_nI (by decide) (by decide)) dL_rehang_9 (fun H locs hP hD hS => ?_)
    have hP : va_P D vwCl [(o, .inr (1, [.ref r, .ref t])), (r, .inr (0, [.ref a1, .ref a2, .int (nI N), .int (nI w1)])), (a1, .inl (cI, 40, .inl F3)), (a2, .inl (cI, 40, .inl G3)), (t, .inr (0, [.ref b1, .ref b2, .int (nI n3), .int (nI w3)])), (b1, .inl (cI, 40, .inl F4)), (b2, .inl (cI, 40, .inl G4)), (ot, .inl (cJ, 1, .inr (.inl (vp_updL B (nI 0).toNatClampNeg r1.toInt64))))] H := hP
    have hD : va_D A [(o, .inr (1, [.ref r, .ref t])), (r, .inr (0, [.ref a1, .ref a2, .int (nI N), .int (nI w1)])), (a1, .inl (cI, 40, .inl F3)), (a2, .inl (cI, 40, .inl G3)), (t, .inr (0, [.ref b1, .ref b2, .int (nI n3), .int (nI w3)])), (b1, .inl (cI, 40, .inl F4)), (b2, .inl (cI, 40, .inl G4)), (ot, .inl (cJ, 1, .inr (.inl (vp_updL B (nI 0).toNatClampNeg r1.toInt64))))] := hD
    refine lv_goto (tgt := 21) hx hb dL_rehang_10 (by decide) ?_
    refine lv_iconst (v := nI 0) hx hb dL_rehang_21 (by decide) ?_
    exact em_i hx hb hr hlocks hS (⟨_, r1, N, w1, F3, G3, T, U, n3, w3, F4, G4, Or.inr ⟨N, w1, hN3, hN40, ex, hw1, ey, Or.inr ⟨T, U, z, hHG, rfl, er, rfl, rfl, rfl, rfl⟩⟩, S3, (fun _ => updL0), hP⟩) dL_rehang_22
theorem k_L_looksWith : yL_looksWith.cls = RL ∧ yL_looksWith.cls ≠ "java/lang/invoke/MethodHandle" ∧ yL_looksWith.cls ≠ "java/lang/invoke/VarHandle" ∧ (parseMethodDescriptor yL_looksWith.desc).map (fun d => d.parameters.length) = some 4 := by decide +kernel
set_option maxHeartbeats 4000000 in
set_option maxRecDepth 100000 in
theorem m_L_looksWith (l : Launch) (hlt : l.stackTraces = false) (D : va_G) (cI cJ : ClassId) (o r t a1 a2 b1 b2 ot : Nat) {n w : Nat} {F G f g : Nat → Int32} (S : RS n w F G f g) (n2 w2 : Nat) (F2 G2 : Nat → Int32) (B : Nat → Int64) (x y : Int32) (sz : Nat) : Met l yL_looksWith wsL_looksWith ({ frames := 8, cells := 1, slots := 6, locals := 139 } : Room) (PL D [(cI, .int), (cJ, .long)] [.ref o, .int x, .int y, .ref ot] sz (lww cI cJ o r t a1 a2 b1 b2 ot n w F G n2 w2 F2 G2 B)) (qm_i (fun rr H1 => ∃ (B1 : Nat → Int64) (r1 : Int32) (n4 w4 : Nat) (F4 G4 : Nat → Int32), Q1 (rg 3 40 x ∧ rg 0 2 y) (Rw n f g x y) rr r1 ∧ (rr = nI 0 → B1 0 = r1.toInt64) ∧ va_P D vwCl (lww cI cJ o r t a1 a2 b1 b2 ot n w F G n4 w4 F4 G4 B1) H1) (va_A (lww cI cJ o r t a1 a2 b1 b2 ot n w F G n2 w2 F2 G2 B) sz)) 1 6 (va_A (lww cI cJ o r t a1 a2 b1 b2 ot n w F G n2 w2 F2 G2 B) sz) := by
  obtain ⟨hn3, hn, hw2, hF, hG, hO⟩ := id S
  refine bd_w (Qf := fun A => qm_i (fun rr H1 => ∃ (B1 : Nat → Int64) (r1 : Int32) (n4 w4 : Nat) (F4 G4 : Nat → Int32), Q1 (rg 3 40 x ∧ rg 0 2 y) (Rw n f g x y) rr r1 ∧ (rr = nI 0 → B1 0 = r1.toInt64) ∧ va_P D vwCl (lww cI cJ o r t a1 a2 b1 b2 ot n w F G n4 w4 F4 G4 B1) H1) A) (cc := cL_looksWith) (maxL := 5) (ret := (some .int)) (hh := [(0, 10, 13, 13)]) (by decide) rfl (Nat.le_of_ble_eq_true rfl) ?_
  intro p e s m args below meth c ls A CF hr hlocks tb hK hP hD hA hS hX hZ hN hl
  obtain ⟨hx, hb, hml, hown, hts⟩ := id CF
  have hl : lv_has ls 5 [(0, .ref o), (1, .int x), (2, .int y), (3, .ref ot)] := hl
  have hP : va_P D vwCl [(o, .inr (1, [.ref r, .ref t])), (r, .inr (0, [.ref a1, .ref a2, .int (nI n), .int (nI w)])), (a1, .inl (cI, 40, .inl F)), (a2, .inl (cI, 40, .inl G)), (t, .inr (0, [.ref b1, .ref b2, .int (nI n2), .int (nI w2)])), (b1, .inl (cI, 40, .inl F2)), (b2, .inl (cI, 40, .inl G2)), (ot, .inl (cJ, 1, .inr (.inl B)))] s.heap := hP
  have hD : va_D A [(o, .inr (1, [.ref r, .ref t])), (r, .inr (0, [.ref a1, .ref a2, .int (nI n), .int (nI w)])), (a1, .inl (cI, 40, .inl F)), (a2, .inl (cI, 40, .inl G)), (t, .inr (0, [.ref b1, .ref b2, .int (nI n2), .int (nI w2)])), (b1, .inl (cI, 40, .inl F2)), (b2, .inl (cI, 40, .inl G2)), (ot, .inl (cJ, 1, .inr (.inl B)))] := hD
  have hK1 : va_K D vwCl [(cI, .int)] s := hK.sub [0] rfl
  have hZ0 : XZ (fun _ => False) s s.heap := hZ.narrow (fun q h => h.elim)
  refine lv_aload_n hx hb dL_looksWith_0 rfl (lv_at hl 3 rfl) ?_
  refine lv_iconst (v := nI 0) hx hb dL_looksWith_1 (by decide) ?_
  refine lv_aload_n hx hb dL_looksWith_2 rfl (lv_at hl 0 rfl) ?_
  refine lv_iload_n hx hb dL_looksWith_3 rfl (lv_at hl 1 rfl) ?_
  refine lv_iload_n hx hb dL_looksWith_4 rfl (lv_at hl 2 rfl) ?_
  have hPc : va_P D vwCl [(o, .inr (1, [.ref r, .ref t])), (r, .inr (0, [.ref a1, .ref a2, .int (nI n), .int (nI w)])), (a1, .inl (cI, 40, .inl F)), (a2, .inl (cI, 40, .inl G)), (t, .inr (0, [.ref b1, .ref b2, .int (nI n2), .int (nI w2)])), (b1, .inl (cI, 40, .inl F2)), (b2, .inl (cI, 40, .inl G2))] s.heap := hP.sub [0, 1, 2, 3, 4, 5, 6] rfl
  have hDc : va_D A [(o, .inr (1, [.ref r, .ref t])), (r, .inr (0, [.ref a1, .ref a2, .int (nI n), .int (nI w)])), (a1, .inl (cI, 40, .inl F)), (a2, .inl (cI, 40, .inl G)), (t, .inr (0, [.ref b1, .ref b2, .int (nI n2), .int (nI w2)])), (b1, .inl (cI, 40, .inl F2)), (b2, .inl (cI, 40, .inl G2))] := hD.sub [0, 1, 2, 3, 4, 5, 6] (by decide) rfl
  have hFc := va_free (wc := [(o, .inr (1, [.ref r, .ref t])), (r, .inr (0, [.ref a1, .ref a2, .int (nI n), .int (nI w)])), (a1, .inl (cI, 40, .inl F)), (a2, .inl (cI, 40, .inl G)), (t, .inr (0, [.ref b1, .ref b2, .int (nI n2), .int (nI w2)])), (b1, .inl (cI, 40, .inl F2)), (b2, .inl (cI, 40, .inl G2))]) hD hS hA [0, 1, 2, 3, 4, 5, 6] rfl
  refine xw_m (vx_runV (rest := [.int (nI 0), .ref ot]) CF (m_X1_looksWith l hlt D cI o r t a1 a2 b1 b2 S n2 w2 F2 G2 x y s.heap.size) (cwV 2 hts gL_looksWith_X1_looksWith rfl rfl rfl k_X1_looksWith ⟨Nat.le_of_ble_eq_true rfl, Nat.le_of_ble_eq_true rfl⟩) (pxm_pre hK1 hPc hDc hX hZ hFc rfl rfl rfl) rfl rfl hl.1 rfl (lv_room (Nat.le_of_ble_eq_true rfl)) dL_looksWith_5 ⟨Nat.le_of_ble_eq_true rfl, Nat.le_of_ble_eq_true rfl⟩) hS hFc xk_F (fun E ce q9 st9 t9 locs hst hXC hz hk hS hce hcv hcl => ?_) (fun r1 H locs hB hk1 hS => ?_)
  · skip
    obtain ⟨hE, hz2, hk2⟩ := hXC
    rw [hst] at hk2
    have hP : va_P D vwCl [(o, .inr (1, [.ref r, .ref t])), (r, .inr (0, [.ref a1, .ref a2, .int (nI n), .int (nI w)])), (a1, .inl (cI, 40, .inl F)), (a2, .inl (cI, 40, .inl G)), (t, .inr (0, [.ref b1, .ref b2, .int (nI n2), .int (nI w2)])), (b1, .inl (cI, 40, .inl F2)), (b2, .inl (cI, 40, .inl G2)), (ot, .inl (cJ, 1, .inr (.inl B)))] t9.heap := hP.kept (fun k q hk9 => hk2 q.1 ((hP k q hk9).lt))
    obtain ⟨rfl, hno⟩ := hE
    refine vx_catch (own := RL) (name := "java/lang/IllegalArgumentException") hown [] ⟨0, 10, 13, 13⟩ [] tb (fun z hz => nomatch hz) rfl (by decide) (hts _ (List.mem_of_getElem? (i := 1) rfl)) (va_Nw.use rfl (hX.1 _ (List.mem_of_getElem? (i := 3) rfl))) hce hcv hcl ?_
    refine lv_astore (lv' := [(4, .ref q9), (0, .ref o), (1, .int x), (2, .int y), (3, .ref ot)]) hx hb dL_looksWith_13 hl (by decide) rfl (fun ls hl => ?_)
    refine lv_iconst (v := nI 1) hx hb dL_looksWith_15 (by decide) ?_
    exact em_i hx hb hr hlocks hS (⟨B, 0, n2, w2, F2, G2, Or.inl ⟨hno, rfl⟩, (fun z => absurd z (by decide)), hP⟩) dL_looksWith_16
  · skip
    obtain ⟨N, w1, hN3, hN40, ex, hw1, ey, er, n3, w3, F3, G3, hP1⟩ := hB
    obtain ⟨hP, hD⟩ := jn (wb := [(o, .inr (1, [.ref r, .ref t])), (r, .inr (0, [.ref a1, .ref a2, .int (nI n), .int (nI w)])), (a1, .inl (cI, 40, .inl F)), (a2, .inl (cI, 40, .inl G)), (t, .inr (0, [.ref b1, .ref b2, .int (nI n3), .int (nI w3)])), (b1, .inl (cI, 40, .inl F3)), (b2, .inl (cI, 40, .inl G3)), (ot, .inl (cJ, 1, .inr (.inl B)))]) (w1 := [(o, .inr (1, [.ref r, .ref t])), (r, .inr (0, [.ref a1, .ref a2, .int (nI n), .int (nI w)])), (a1, .inl (cI, 40, .inl F)), (a2, .inl (cI, 40, .inl G)), (t, .inr (0, [.ref b1, .ref b2, .int (nI n3), .int (nI w3)])), (b1, .inl (cI, 40, .inl F3)), (b2, .inl (cI, 40, .inl G3))]) hP hD [0, 1, 2, 3, 4, 5, 6] [7] rfl rfl rfl rfl 8 rfl (by decide) (by decide) hk1 hP1
    refine lv_i2l hx hb dL_looksWith_8 rfl ?_
    refine va_last hx hb hK hP hD hS 7 1 rfl rfl (i := nI 0) (vp_in_nI (by decide) (by decide)) dL_looksWith_9 (fun H locs hP hD hS => ?_)
    have hP : va_P D vwCl [(o, .inr (1, [.ref r, .ref t])), (r, .inr (0, [.ref a1, .ref a2, .int (nI n), .int (nI w)])), (a1, .inl (cI, 40, .inl F)), (a2, .inl (cI, 40, .inl G)), (t, .inr (0, [.ref b1, .ref b2, .int (nI n3), .int (nI w3)])), (b1, .inl (cI, 40, .inl F3)), (b2, .inl (cI, 40, .inl G3)), (ot, .inl (cJ, 1, .inr (.inl (vp_updL B (nI 0).toNatClampNeg r1.toInt64))))] H := hP
    have hD : va_D A [(o, .inr (1, [.ref r, .ref t])), (r, .inr (0, [.ref a1, .ref a2, .int (nI n), .int (nI w)])), (a1, .inl (cI, 40, .inl F)), (a2, .inl (cI, 40, .inl G)), (t, .inr (0, [.ref b1, .ref b2, .int (nI n3), .int (nI w3)])), (b1, .inl (cI, 40, .inl F3)), (b2, .inl (cI, 40, .inl G3)), (ot, .inl (cJ, 1, .inr (.inl (vp_updL B (nI 0).toNatClampNeg r1.toInt64))))] := hD
    refine lv_goto (tgt := 17) hx hb dL_looksWith_10 (by decide) ?_
    refine lv_iconst (v := nI 0) hx hb dL_looksWith_17 (by decide) ?_
    exact em_i hx hb hr hlocks hS (⟨_, r1, n3, w3, F3, G3, Or.inr ⟨rfl, N, w1, hN3, hN40, ex, hw1, ey, er⟩, (fun _ => updL0), hP⟩) dL_looksWith_18
theorem k_L_hooksWanted : yL_hooksWanted.cls = RL ∧ yL_hooksWanted.cls ≠ "java/lang/invoke/MethodHandle" ∧ yL_hooksWanted.cls ≠ "java/lang/invoke/VarHandle" ∧ (parseMethodDescriptor yL_hooksWanted.desc).map (fun d => d.parameters.length) = some 3 := by decide +kernel
set_option maxHeartbeats 4000000 in
set_option maxRecDepth 100000 in
theorem m_L_hooksWanted (l : Launch) (hlt : l.stackTraces = false) (D : va_G) (cI cJ : ClassId) (o r t a1 a2 b1 b2 ot : Nat) {n w : Nat} {F G f g : Nat → Int32} (S : RS n w F G f g) (n2 w2 : Nat) (F2 G2 : Nat → Int32) (B : Nat → Int64) (x : Int32) (sz : Nat) : Met l yL_hooksWanted wsL_hooksWanted ({ frames := 7, cells := 1, slots := 6, locals := 161 } : Room) (PL D [(cI, .int), (cJ, .long)] [.ref o, .int x, .ref ot] sz (lww cI cJ o r t a1 a2 b1 b2 ot n w F G n2 w2 F2 G2 B)) (qm_i (fun rr H1 => ∃ (B1 : Nat → Int64) (r1 : Int32) (n4 w4 : Nat) (F4 G4 : Nat → Int32), Q1 (rg 0 400 x) (Rh n w f g x) rr r1 ∧ (rr = nI 0 → B1 0 = r1.toInt64) ∧ va_P D vwCl (lww cI cJ o r t a1 a2 b1 b2 ot n w F G n4 w4 F4 G4 B1) H1) (va_A (lww cI cJ o r t a1 a2 b1 b2 ot n w F G n2 w2 F2 G2 B) sz)) 1 6 (va_A (lww cI cJ o r t a1 a2 b1 b2 ot n w F G n2 w2 F2 G2 B) sz) := by
  obtain ⟨hn3, hn, hw2, hF, hG, hO⟩ := id S
  refine bd_w (Qf := fun A => qm_i (fun rr H1 => ∃ (B1 : Nat → Int64) (r1 : Int32) (n4 w4 : Nat) (F4 G4 : Nat → Int32), Q1 (rg 0 400 x) (Rh n w f g x) rr r1 ∧ (rr = nI 0 → B1 0 = r1.toInt64) ∧ va_P D vwCl (lww cI cJ o r t a1 a2 b1 b2 ot n w F G n4 w4 F4 G4 B1) H1) A) (cc := cL_hooksWanted) (maxL := 4) (ret := (some .int)) (hh := [(0, 9, 12, 13)]) (by decide) rfl (Nat.le_of_ble_eq_true rfl) ?_
  intro p e s m args below meth c ls A CF hr hlocks tb hK hP hD hA hS hX hZ hN hl
  obtain ⟨hx, hb, hml, hown, hts⟩ := id CF
  have hl : lv_has ls 4 [(0, .ref o), (1, .int x), (2, .ref ot)] := hl
  have hP : va_P D vwCl [(o, .inr (1, [.ref r, .ref t])), (r, .inr (0, [.ref a1, .ref a2, .int (nI n), .int (nI w)])), (a1, .inl (cI, 40, .inl F)), (a2, .inl (cI, 40, .inl G)), (t, .inr (0, [.ref b1, .ref b2, .int (nI n2), .int (nI w2)])), (b1, .inl (cI, 40, .inl F2)), (b2, .inl (cI, 40, .inl G2)), (ot, .inl (cJ, 1, .inr (.inl B)))] s.heap := hP
  have hD : va_D A [(o, .inr (1, [.ref r, .ref t])), (r, .inr (0, [.ref a1, .ref a2, .int (nI n), .int (nI w)])), (a1, .inl (cI, 40, .inl F)), (a2, .inl (cI, 40, .inl G)), (t, .inr (0, [.ref b1, .ref b2, .int (nI n2), .int (nI w2)])), (b1, .inl (cI, 40, .inl F2)), (b2, .inl (cI, 40, .inl G2)), (ot, .inl (cJ, 1, .inr (.inl B)))] := hD
  have hK1 : va_K D vwCl [(cI, .int)] s := hK.sub [0] rfl
  have hZ0 : XZ (fun _ => False) s s.heap := hZ.narrow (fun q h => h.elim)
  refine lv_aload_n hx hb dL_hooksWanted_0 rfl (lv_at hl 2 rfl) ?_
  refine lv_iconst (v := nI 0) hx hb dL_hooksWanted_1 (by decide) ?_
  refine lv_aload_n hx hb dL_hooksWanted_2 rfl (lv_at hl 0 rfl) ?_
  refine lv_iload_n hx hb dL_hooksWanted_3 rfl (lv_at hl 1 rfl) ?_
  have hPc : va_P D vwCl [(o, .inr (1, [.ref r, .ref t])), (r, .inr (0, [.ref a1, .ref a2, .int (nI n), .int (nI w)])), (a1, .inl (cI, 40, .inl F)), (a2, .inl (cI, 40, .inl G)), (t, .inr (0, [.ref b1, .ref b2, .int (nI n2), .int (nI w2)])), (b1, .inl (cI, 40, .inl F2)), (b2, .inl (cI, 40, .inl G2))] s.heap := hP.sub [0, 1, 2, 3, 4, 5, 6] rfl
  have hDc : va_D A [(o, .inr (1, [.ref r, .ref t])), (r, .inr (0, [.ref a1, .ref a2, .int (nI n), .int (nI w)])), (a1, .inl (cI, 40, .inl F)), (a2, .inl (cI, 40, .inl G)), (t, .inr (0, [.ref b1, .ref b2, .int (nI n2), .int (nI w2)])), (b1, .inl (cI, 40, .inl F2)), (b2, .inl (cI, 40, .inl G2))] := hD.sub [0, 1, 2, 3, 4, 5, 6] (by decide) rfl
  have hFc := va_free (wc := [(o, .inr (1, [.ref r, .ref t])), (r, .inr (0, [.ref a1, .ref a2, .int (nI n), .int (nI w)])), (a1, .inl (cI, 40, .inl F)), (a2, .inl (cI, 40, .inl G)), (t, .inr (0, [.ref b1, .ref b2, .int (nI n2), .int (nI w2)])), (b1, .inl (cI, 40, .inl F2)), (b2, .inl (cI, 40, .inl G2))]) hD hS hA [0, 1, 2, 3, 4, 5, 6] rfl
  refine xw_m (vx_runV (rest := [.int (nI 0), .ref ot]) CF (m_X1_hooksWanted l hlt D cI o r t a1 a2 b1 b2 S n2 w2 F2 G2 x s.heap.size) (cwV 1 hts gL_hooksWanted_X1_hooksWanted rfl rfl rfl k_X1_hooksWanted ⟨Nat.le_of_ble_eq_true rfl, Nat.le_of_ble_eq_true rfl⟩) (pxm_pre hK1 hPc hDc hX hZ hFc rfl rfl rfl) rfl rfl hl.1 rfl (lv_room (Nat.le_of_ble_eq_true rfl)) dL_hooksWanted_4 ⟨Nat.le_of_ble_eq_true rfl, Nat.le_of_ble_eq_true rfl⟩) hS hFc xk_F (fun E ce q9 st9 t9 locs hst hXC hz hk hS hce hcv hcl => ?_) (fun r1 H locs hB hk1 hS => ?_)
  · skip
    obtain ⟨hE, hz2, hk2⟩ := hXC
    rw [hst] at hk2
    have hP : va_P D vwCl [(o, .inr (1, [.ref r, .ref t])), (r, .inr (0, [.ref a1, .ref a2, .int (nI n), .int (nI w)])), (a1, .inl (cI, 40, .inl F)), (a2, .inl (cI, 40, .inl G)), (t, .inr (0, [.ref b1, .ref b2, .int (nI n2), .int (nI w2)])), (b1, .inl (cI, 40, .inl F2)), (b2, .inl (cI, 40, .inl G2)), (ot, .inl (cJ, 1, .inr (.inl B)))] t9.heap := hP.kept (fun k q hk9 => hk2 q.1 ((hP k q hk9).lt))
    obtain ⟨rfl, hno⟩ := hE
    refine vx_catch (own := RL) (name := "java/lang/IllegalArgumentException") hown [] ⟨0, 9, 12, 13⟩ [] tb (fun z hz => nomatch hz) rfl (by decide) (hts _ (List.mem_of_getElem? (i := 1) rfl)) (va_Nw.use rfl (hX.1 _ (List.mem_of_getElem? (i := 3) rfl))) hce hcv hcl ?_
    refine lv_astore_n (lv' := [(3, .ref q9), (0, .ref o), (1, .int x), (2, .ref ot)]) hx hb dL_hooksWanted_12 rfl hl (by decide) rfl (fun ls hl => ?_)
    refine lv_iconst (v := nI 1) hx hb dL_hooksWanted_13 (by decide) ?_
    exact em_i hx hb hr hlocks hS (⟨B, 0, n2, w2, F2, G2, Or.inl ⟨hno, rfl⟩, (fun z => absurd z (by decide)), hP⟩) dL_hooksWanted_14
  · skip
    obtain ⟨v, hv, ex, er, n3, w3, F3, G3, hP1⟩ := hB
    obtain ⟨hP, hD⟩ := jn (wb := [(o, .inr (1, [.ref r, .ref t])), (r, .inr (0, [.ref a1, .ref a2, .int (nI n), .int (nI w)])), (a1, .inl (cI, 40, .inl F)), (a2, .inl (cI, 40, .inl G)), (t, .inr (0, [.ref b1, .ref b2, .int (nI n3), .int (nI w3)])), (b1, .inl (cI, 40, .inl F3)), (b2, .inl (cI, 40, .inl G3)), (ot, .inl (cJ, 1, .inr (.inl B)))]) (w1 := [(o, .inr (1, [.ref r, .ref t])), (r, .inr (0, [.ref a1, .ref a2, .int (nI n), .int (nI w)])), (a1, .inl (cI, 40, .inl F)), (a2, .inl (cI, 40, .inl G)), (t, .inr (0, [.ref b1, .ref b2, .int (nI n3), .int (nI w3)])), (b1, .inl (cI, 40, .inl F3)), (b2, .inl (cI, 40, .inl G3))]) hP hD [0, 1, 2, 3, 4, 5, 6] [7] rfl rfl rfl rfl 8 rfl (by decide) (by decide) hk1 hP1
    refine lv_i2l hx hb dL_hooksWanted_7 rfl ?_
    refine va_last hx hb hK hP hD hS 7 1 rfl rfl (i := nI 0) (vp_in_nI (by decide) (by decide)) dL_hooksWanted_8 (fun H locs hP hD hS => ?_)
    have hP : va_P D vwCl [(o, .inr (1, [.ref r, .ref t])), (r, .inr (0, [.ref a1, .ref a2, .int (nI n), .int (nI w)])), (a1, .inl (cI, 40, .inl F)), (a2, .inl (cI, 40, .inl G)), (t, .inr (0, [.ref b1, .ref b2, .int (nI n3), .int (nI w3)])), (b1, .inl (cI, 40, .inl F3)), (b2, .inl (cI, 40, .inl G3)), (ot, .inl (cJ, 1, .inr (.inl (vp_updL B (nI 0).toNatClampNeg r1.toInt64))))] H := hP
    have hD : va_D A [(o, .inr (1, [.ref r, .ref t])), (r, .inr (0, [.ref a1, .ref a2, .int (nI n), .int (nI w)])), (a1, .inl (cI, 40, .inl F)), (a2, .inl (cI, 40, .inl G)), (t, .inr (0, [.ref b1, .ref b2, .int (nI n3), .int (nI w3)])), (b1, .inl (cI, 40, .inl F3)), (b2, .inl (cI, 40, .inl G3)), (ot, .inl (cJ, 1, .inr (.inl (vp_updL B (nI 0).toNatClampNeg r1.toInt64))))] := hD
    refine lv_goto (tgt := 15) hx hb dL_hooksWanted_9 (by decide) ?_
    refine lv_iconst (v := nI 0) hx hb dL_hooksWanted_15 (by decide) ?_
    exact em_i hx hb hr hlocks hS (⟨_, r1, n3, w3, F3, G3, Or.inr ⟨rfl, v, hv, ex, er⟩, (fun _ => updL0), hP⟩) dL_hooksWanted_16
