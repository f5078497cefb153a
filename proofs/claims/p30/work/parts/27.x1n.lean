/-! CoatHooks: calls that write, the checksum, the constructor -/
theorem k_X1_hang : yX1_hang.cls = RX1 ∧ yX1_hang.cls ≠ "java/lang/invoke/MethodHandle" ∧ yX1_hang.cls ≠ "java/lang/invoke/VarHandle" ∧ (parseMethodDescriptor yX1_hang.desc).map (fun d => d.parameters.length) = some 2 := by decide +kernel
set_option maxHeartbeats 4000000 in
set_option maxRecDepth 100000 in
theorem m_X1_hang (l : Launch) (hlt : l.stackTraces = false) (D : va_G) (cI : ClassId) (o r t a1 a2 b1 b2 : Nat) {n w : Nat} {F G f g : Nat → Int32} (S : RS n w F G f g) (n2 w2 : Nat) (F2 G2 : Nat → Int32) (x y : Int32) (sz : Nat) : vx_Met l yX1_hang wsX1_hang ({ frames := 7, cells := 2, slots := 12, locals := 110 } : Room) (PXM D [(cI, .int)] [.ref o, .int x, .int y] sz (clw cI o r t a1 a2 b1 b2 n w F G n2 w2 F2 G2)) (qm_i (fun rr H1 => ∃ v z k : Nat, v ≤ 9999 ∧ x = nI v ∧ 1 ≤ z ∧ z ≤ 99 ∧ y = nI z ∧ k < n ∧ pl n w f v = nI k ∧ rr = nI k ∧ va_P D vwCl (clw cI o r t a1 a2 b1 b2 n w (upd F k (nI v)) (upd G k (nI z)) n2 w2 F2 G2) H1) (va_A (clw cI o r t a1 a2 b1 b2 n w F G n2 w2 F2 G2) sz)) ((fun _ => xk (fun E => (E = IAE ∧ ¬ (rg 0 9999 x ∧ rg 1 99 y)) ∨ (E = ISE ∧ ∃ v z : Nat, v ≤ 9999 ∧ x = nI v ∧ 1 ≤ z ∧ z ≤ 99 ∧ y = nI z ∧ pl n w f v = -1))) (va_A (clw cI o r t a1 a2 b1 b2 n w F G n2 w2 F2 G2) sz)) 2 12 (va_A (clw cI o r t a1 a2 b1 b2 n w F G n2 w2 F2 G2) sz) := by
  obtain ⟨hn3, hn, hw2, hF, hG, hO⟩ := id S
  refine bd_xm (Qf := fun A => qm_i (fun rr H1 => ∃ v z k : Nat, v ≤ 9999 ∧ x = nI v ∧ 1 ≤ z ∧ z ≤ 99 ∧ y = nI z ∧ k < n ∧ pl n w f v = nI k ∧ rr = nI k ∧ va_P D vwCl (clw cI o r t a1 a2 b1 b2 n w (upd F k (nI v)) (upd G k (nI z)) n2 w2 F2 G2) H1) A) (XCf := fun _ => xk (fun E => (E = IAE ∧ ¬ (rg 0 9999 x ∧ rg 1 99 y)) ∨ (E = ISE ∧ ∃ v z : Nat, v ≤ 9999 ∧ x = nI v ∧ 1 ≤ z ∧ z ≤ 99 ∧ y = nI z ∧ pl n w f v = -1))) (cc := cX1_hang) (maxL := 4) (ret := (some .int)) (by decide) rfl (Nat.le_of_ble_eq_true rfl) ?_
  intro p e s m args below meth c ls A CF hr hlocks hT hK hP hD hA hS hX hZ hl
  obtain ⟨hx, hb, hml, hown, hts⟩ := id CF
  have hl : lv_has ls 4 [(0, .ref o), (1, .int x), (2, .int y)] := hl
  have hP : va_P D vwCl [(o, .inr (1, [.ref r, .ref t])), (r, .inr (0, [.ref a1, .ref a2, .int (nI n), .int (nI w)])), (a1, .inl (cI, 40, .inl F)), (a2, .inl (cI, 40, .inl G)), (t, .inr (0, [.ref b1, .ref b2, .int (nI n2), .int (nI w2)])), (b1, .inl (cI, 40, .inl F2)), (b2, .inl (cI, 40, .inl G2))] s.heap := hP
  have hD : va_D A [(o, .inr (1, [.ref r, .ref t])), (r, .inr (0, [.ref a1, .ref a2, .int (nI n), .int (nI w)])), (a1, .inl (cI, 40, .inl F)), (a2, .inl (cI, 40, .inl G)), (t, .inr (0, [.ref b1, .ref b2, .int (nI n2), .int (nI w2)])), (b1, .inl (cI, 40, .inl F2)), (b2, .inl (cI, 40, .inl G2))] := hD
  have hZ0 : XZ (fun _ => False) s s.heap := hZ.narrow (fun q h => h.elim)
  refine lv_iload_n hx hb dX1_hang_0 rfl (lv_at hl 1 rfl) ?_
  refine px_sv CF (m_X1_demandNumber l hlt D cI x) (va_cwS 1 hts gX1_hang_X1_demandNumber rfl rfl rfl k_X1_demandNumber.2 ⟨Nat.le_of_ble_eq_true rfl, Nat.le_of_ble_eq_true rfl⟩) hK (hP.sub [] rfl) hX hZ0 rfl hl.1 rfl (Nat.le_of_ble_eq_true rfl) dX1_hang_1 ⟨Nat.le_of_ble_eq_true rfl, Nat.le_of_ble_eq_true rfl⟩ hlocks hT (fun E t hE h1 h2 => ⟨Or.inl ⟨hE.1, fun z => hE.2 z.1⟩, h1, h2⟩) (Nat.le_of_ble_eq_true rfl) (Nat.le_of_ble_eq_true rfl) (fun hc1 => ?_)
  obtain ⟨v, -, hv9, rfl⟩ := hc1
  refine lv_iload_n hx hb dX1_hang_4 rfl (lv_at hl 2 rfl) ?_
  refine lv_iconst (v := nI 1) hx hb dX1_hang_5 (by decide) ?_
  refine lv_icmp_lt (tgt := 15) hx hb dX1_hang_6 (by decide) (fun c6 => ?_) (fun c6 => ?_)
  · skip
    exact th_x (cls := IAE) (text := "the weight is not 1 to 99") (ik := 23) (is := 25) (ic := 27) hlt CF hX hZ va_S.rf (by decide +kernel) (List.mem_of_getElem? (i := 1) rfl) (List.mem_of_getElem? (i := 2) rfl) (List.mem_of_getElem? (i := 1) rfl) (fun _ h => (List.mem_cons_of_mem _ (List.mem_append_left _ (List.mem_append_right _ h)))) xb_IAE xg_IAE hl.1 dX1_hang_15 dX1_hang_18 dX1_hang_19 dX1_hang_21 dX1_hang_24 hT ⟨Nat.le_of_ble_eq_true rfl, Nat.le_of_ble_eq_true rfl, Nat.le_of_ble_eq_true rfl, Nat.le_of_ble_eq_true rfl⟩ hlocks (fun t h1 h2 => ⟨Or.inl ⟨rfl, fun z => rg_lo (by decide) c6 z.2⟩, h1, h2⟩) (fun z hz => nomatch hz) (Nat.le_of_ble_eq_true rfl) (Nat.le_of_ble_eq_true rfl)
  · skip
    refine lv_iload_n hx hb dX1_hang_9 rfl (lv_at hl 2 rfl) ?_
    refine lv_bipush (v := nI 99) hx hb dX1_hang_10 (by decide) ?_
    refine lv_icmp_le (tgt := 25) hx hb dX1_hang_12 (by decide) (fun c12 => ?_) (fun c12 => ?_)
    · skip
      obtain ⟨z, hz1, hz9, rfl⟩ := rg_in (a := 1) (b := 99) (by decide) (by decide) c6 c12
      refine lv_aload_n hx hb dX1_hang_25 rfl (lv_at hl 0 rfl) ?_
      refine va_get (D := D) (ci := 1) (v := .ref r) (C := RX1) (T := TX1) (N := 2) hx hb hts (fun _ h => (List.mem_cons_of_mem _ (List.mem_append_left _ (List.mem_append_left _ (List.mem_append_left _ (List.mem_append_right _ h)))))) hown hK hP 0 rfl rfl 0 (by decide) (hts _ (List.mem_of_getElem? (i := 5) rfl)) (fun _ h9 => h9) rfl dX1_hang_26 ?_
      refine lv_iload_n hx hb dX1_hang_29 rfl (lv_at hl 1 rfl) ?_
      refine pv_i CF (m_X0_placeOf l D cI r a1 a2 S v hv9) (cwV 1 hts gX1_hang_X0_placeOf rfl rfl rfl k_X0_placeOf ⟨Nat.le_of_ble_eq_true rfl, Nat.le_of_ble_eq_true rfl⟩) hK (hP.sub [1, 2, 3] rfl) rfl rfl rfl rfl hl.1 rfl (Nat.le_of_ble_eq_true rfl) dX1_hang_30 ⟨Nat.le_of_ble_eq_true rfl, Nat.le_of_ble_eq_true rfl⟩ ?_
      refine lv_istore_n (lv' := [(3, .int (pl n w f v)), (0, .ref o), (1, .int (nI v)), (2, .int (nI z))]) hx hb dX1_hang_33 rfl hl (by decide) rfl (fun ls hl => ?_)
      refine lv_iload_n hx hb dX1_hang_34 rfl (lv_at hl 0 rfl) ?_
      refine lv_iconst (v := (-1)) hx hb dX1_hang_35 (by decide) ?_
      refine lv_icmp_ne (tgt := 49) hx hb dX1_hang_36 (by decide) (fun c36 => ?_) (fun c36 => ?_)
      · skip
        obtain ⟨k, hk, ek⟩ := pl_cases (show 0 < n by omega) c36
        rw [ek] at hl
        refine lv_aload_n hx hb dX1_hang_49 rfl (lv_at hl 1 rfl) ?_
        refine va_get (D := D) (ci := 1) (v := .ref r) (C := RX1) (T := TX1) (N := 2) hx hb hts (fun _ h => (List.mem_cons_of_mem _ (List.mem_append_left _ (List.mem_append_left _ (List.mem_append_left _ (List.mem_append_right _ h)))))) hown hK hP 0 rfl rfl 0 (by decide) (hts _ (List.mem_of_getElem? (i := 5) rfl)) (fun _ h9 => h9) rfl dX1_hang_50 ?_
        refine lv_iload_n hx hb dX1_hang_53 rfl (lv_at hl 0 rfl) ?_
        refine lv_iload_n hx hb dX1_hang_54 rfl (lv_at hl 2 rfl) ?_
        refine lv_iload_n hx hb dX1_hang_55 rfl (lv_at hl 3 rfl) ?_
        have hPc : va_P D vwCl [(r, .inr (0, [.ref a1, .ref a2, .int (nI n), .int (nI w)])), (a1, .inl (cI, 40, .inl F)), (a2, .inl (cI, 40, .inl G))] s.heap := hP.sub [1, 2, 3] rfl
        have hDc : va_D A [(r, .inr (0, [.ref a1, .ref a2, .int (nI n), .int (nI w)])), (a1, .inl (cI, 40, .inl F)), (a2, .inl (cI, 40, .inl G))] := hD.sub [1, 2, 3] (by decide) rfl
        have hFc := va_free (wc := [(r, .inr (0, [.ref a1, .ref a2, .int (nI n), .int (nI w)])), (a1, .inl (cI, 40, .inl F)), (a2, .inl (cI, 40, .inl G))]) hD hS hA [1, 2, 3] rfl
        refine pq_v (va_runV (rest := []) CF (m_X0_put l D cI r a1 a2 n w F G k (nI v) (nI z) (by omega) s.heap.size) (cwV 3 hts gX1_hang_X0_put rfl rfl rfl k_X0_put ⟨Nat.le_of_ble_eq_true rfl, Nat.le_of_ble_eq_true rfl⟩) (mv_pre hK hPc hDc rfl rfl rfl) rfl rfl hl.1 rfl (lv_room (Nat.le_of_ble_eq_true rfl)) dX1_hang_56 ⟨Nat.le_of_ble_eq_true rfl, Nat.le_of_ble_eq_true rfl⟩) hS hFc (fun H locs hB hk1 hS => ?_)
        have hP1 := hB
        obtain ⟨hP, hD⟩ := jn (wb := [(o, .inr (1, [.ref r, .ref t])), (r, .inr (0, [.ref a1, .ref a2, .int (nI n), .int (nI w)])), (a1, .inl (cI, 40, .inl (upd F k (nI v)))), (a2, .inl (cI, 40, .inl (upd G k (nI z)))), (t, .inr (0, [.ref b1, .ref b2, .int (nI n2), .int (nI w2)])), (b1, .inl (cI, 40, .inl F2)), (b2, .inl (cI, 40, .inl G2))]) (w1 := [(r, .inr (0, [.ref a1, .ref a2, .int (nI n), .int (nI w)])), (a1, .inl (cI, 40, .inl (upd F k (nI v)))), (a2, .inl (cI, 40, .inl (upd G k (nI z))))]) hP hD [1, 2, 3] [0, 4, 5, 6] rfl rfl rfl rfl 7 rfl (by decide) (by decide) hk1 hP1
        refine lv_iload_n hx hb dX1_hang_59 rfl (lv_at hl 0 rfl) ?_
        exact ex_mi hx hb hr hlocks (Nat.le_of_ble_eq_true rfl) (Nat.le_of_ble_eq_true rfl) hS (⟨v, z, k, hv9, rfl, hz1, hz9, rfl, hk, ek, rfl, hP⟩) dX1_hang_60
      · skip
        exact th_x (cls := ISE) (text := "the coat hangs, or has no place") (ik := 34) (is := 36) (ic := 38) hlt CF hX hZ va_S.rf (by decide +kernel) (List.mem_of_getElem? (i := 3) rfl) (List.mem_of_getElem? (i := 4) rfl) (List.mem_of_getElem? (i := 2) rfl) (fun _ h => (List.mem_cons_of_mem _ (List.mem_append_right _ h))) xb_ISE xg_ISE hl.1 dX1_hang_39 dX1_hang_42 dX1_hang_43 dX1_hang_45 dX1_hang_48 hT ⟨Nat.le_of_ble_eq_true rfl, Nat.le_of_ble_eq_true rfl, Nat.le_of_ble_eq_true rfl, Nat.le_of_ble_eq_true rfl⟩ hlocks (fun t h1 h2 => ⟨Or.inr ⟨rfl, v, z, hv9, rfl, hz1, hz9, rfl, c36⟩, h1, h2⟩) (fun z hz => nomatch hz) (Nat.le_of_ble_eq_true rfl) (Nat.le_of_ble_eq_true rfl)
    · skip
      exact th_x (cls := IAE) (text := "the weight is not 1 to 99") (ik := 23) (is := 25) (ic := 27) hlt CF hX hZ va_S.rf (by decide +kernel) (List.mem_of_getElem? (i := 1) rfl) (List.mem_of_getElem? (i := 2) rfl) (List.mem_of_getElem? (i := 1) rfl) (fun _ h => (List.mem_cons_of_mem _ (List.mem_append_left _ (List.mem_append_right _ h)))) xb_IAE xg_IAE hl.1 dX1_hang_15 dX1_hang_18 dX1_hang_19 dX1_hang_21 dX1_hang_24 hT ⟨Nat.le_of_ble_eq_true rfl, Nat.le_of_ble_eq_true rfl, Nat.le_of_ble_eq_true rfl, Nat.le_of_ble_eq_true rfl⟩ hlocks (fun t h1 h2 => ⟨Or.inl ⟨rfl, fun z => rg_hi (by decide) c12 z.2⟩, h1, h2⟩) (fun z hz => nomatch hz) (Nat.le_of_ble_eq_true rfl) (Nat.le_of_ble_eq_true rfl)
theorem k_X1_take : yX1_take.cls = RX1 ∧ yX1_take.cls ≠ "java/lang/invoke/MethodHandle" ∧ yX1_take.cls ≠ "java/lang/invoke/VarHandle" ∧ (parseMethodDescriptor yX1_take.desc).map (fun d => d.parameters.length) = some 1 := by decide +kernel
set_option maxHeartbeats 4000000 in
set_option maxRecDepth 100000 in
theorem m_X1_take (l : Launch) (hlt : l.stackTraces = false) (D : va_G) (cI : ClassId) (o r t a1 a2 b1 b2 : Nat) {n w : Nat} {F G f g : Nat → Int32} (S : RS n w F G f g) (n2 w2 : Nat) (F2 G2 : Nat → Int32) (x : Int32) (sz : Nat) : vx_Met l yX1_take wsX1_take ({ frames := 7, cells := 2, slots := 12, locals := 110 } : Room) (PXM D [(cI, .int)] [.ref o, .int x] sz (clw cI o r t a1 a2 b1 b2 n w F G n2 w2 F2 G2)) (qm_i (fun rr H1 => ∃ v : Nat, v ≤ 9999 ∧ x = nI v ∧ fd n w f v = nI (la n w f v) ∧ rr = g (la n w f v) ∧ va_P D vwCl (clw cI o r t a1 a2 b1 b2 n w (upd F (la n w f v) (-2)) (upd G (la n w f v) (nI 0)) n2 w2 F2 G2) H1) (va_A (clw cI o r t a1 a2 b1 b2 n w F G n2 w2 F2 G2) sz)) ((fun _ => xk (fun E => (E = IAE ∧ ¬ rg 0 9999 x) ∨ (E = ISE ∧ ∃ v : Nat, v ≤ 9999 ∧ x = nI v ∧ fd n w f v = -1))) (va_A (clw cI o r t a1 a2 b1 b2 n w F G n2 w2 F2 G2) sz)) 2 12 (va_A (clw cI o r t a1 a2 b1 b2 n w F G n2 w2 F2 G2) sz) := by
  obtain ⟨hn3, hn, hw2, hF, hG, hO⟩ := id S
  refine bd_xm (Qf := fun A => qm_i (fun rr H1 => ∃ v : Nat, v ≤ 9999 ∧ x = nI v ∧ fd n w f v = nI (la n w f v) ∧ rr = g (la n w f v) ∧ va_P D vwCl (clw cI o r t a1 a2 b1 b2 n w (upd F (la n w f v) (-2)) (upd G (la n w f v) (nI 0)) n2 w2 F2 G2) H1) A) (XCf := fun _ => xk (fun E => (E = IAE ∧ ¬ rg 0 9999 x) ∨ (E = ISE ∧ ∃ v : Nat, v ≤ 9999 ∧ x = nI v ∧ fd n w f v = -1))) (cc := cX1_take) (maxL := 4) (ret := (some .int)) (by decide) rfl (Nat.le_of_ble_eq_true rfl) ?_
  intro p e s m args below meth c ls A CF hr hlocks hT hK hP hD hA hS hX hZ hl
  obtain ⟨hx, hb, hml, hown, hts⟩ := id CF
  have hl : lv_has ls 4 [(0, .ref o), (1, .int x)] := hl
  have hP : va_P D vwCl [(o, .inr (1, [.ref r, .ref t])), (r, .inr (0, [.ref a1, .ref a2, .int (nI n), .int (nI w)])), (a1, .inl (cI, 40, .inl F)), (a2, .inl (cI, 40, .inl G)), (t, .inr (0, [.ref b1, .ref b2, .int (nI n2), .int (nI w2)])), (b1, .inl (cI, 40, .inl F2)), (b2, .inl (cI, 40, .inl G2))] s.heap := hP
  have hD : va_D A [(o, .inr (1, [.ref r, .ref t])), (r, .inr (0, [.ref a1, .ref a2, .int (nI n), .int (nI w)])), (a1, .inl (cI, 40, .inl F)), (a2, .inl (cI, 40, .inl G)), (t, .inr (0, [.ref b1, .ref b2, .int (nI n2), .int (nI w2)])), (b1, .inl (cI, 40, .inl F2)), (b2, .inl (cI, 40, .inl G2))] := hD
  have hZ0 : XZ (fun _ => False) s s.heap := hZ.narrow (fun q h => h.elim)
  refine lv_iload_n hx hb dX1_take_0 rfl (lv_at hl 1 rfl) ?_
  refine px_sv CF (m_X1_demandNumber l hlt D cI x) (va_cwS 1 hts gX1_take_X1_demandNumber rfl rfl rfl k_X1_demandNumber.2 ⟨Nat.le_of_ble_eq_true rfl, Nat.le_of_ble_eq_true rfl⟩) hK (hP.sub [] rfl) hX hZ0 rfl hl.1 rfl (Nat.le_of_ble_eq_true rfl) dX1_take_1 ⟨Nat.le_of_ble_eq_true rfl, Nat.le_of_ble_eq_true rfl⟩ hlocks hT (fun E t hE h1 h2 => ⟨Or.inl hE, h1, h2⟩) (Nat.le_of_ble_eq_true rfl) (Nat.le_of_ble_eq_true rfl) (fun hc1 => ?_)
  obtain ⟨v, -, hv9, rfl⟩ := hc1
  refine lv_aload_n hx hb dX1_take_4 rfl (lv_at hl 0 rfl) ?_
  refine va_get (D := D) (ci := 1) (v := .ref r) (C := RX1) (T := TX1) (N := 2) hx hb hts (fun _ h => (List.mem_cons_of_mem _ (List.mem_append_left _ (List.mem_append_left _ (List.mem_append_left _ (List.mem_append_right _ h)))))) hown hK hP 0 rfl rfl 0 (by decide) (hts _ (List.mem_of_getElem? (i := 3) rfl)) (fun _ h9 => h9) rfl dX1_take_5 ?_
  refine lv_iload_n hx hb dX1_take_8 rfl (lv_at hl 1 rfl) ?_
  refine pv_i CF (m_X0_whereFound l D cI r a1 a2 S v hv9) (cwV 1 hts gX1_take_X0_whereFound rfl rfl rfl k_X0_whereFound ⟨Nat.le_of_ble_eq_true rfl, Nat.le_of_ble_eq_true rfl⟩) hK (hP.sub [1, 2, 3] rfl) rfl rfl rfl rfl hl.1 rfl (Nat.le_of_ble_eq_true rfl) dX1_take_9 ⟨Nat.le_of_ble_eq_true rfl, Nat.le_of_ble_eq_true rfl⟩ ?_
  refine lv_istore_n (lv' := [(2, .int (fd n w f v)), (0, .ref o), (1, .int (nI v))]) hx hb dX1_take_12 rfl hl (by decide) rfl (fun ls hl => ?_)
  refine lv_iload_n hx hb dX1_take_13 rfl (lv_at hl 0 rfl) ?_
  refine lv_iconst (v := (-1)) hx hb dX1_take_14 (by decide) ?_
  refine lv_icmp_ne (tgt := 28) hx hb dX1_take_15 (by decide) (fun c15 => ?_) (fun c15 => ?_)
  · skip
    obtain ⟨ek, efk⟩ := fd_cases (show 0 < n by omega) hn c15
    have hk := la_lt (show 0 < n by omega) w f v
    rw [ek] at hl
    refine lv_aload_n hx hb dX1_take_28 rfl (lv_at hl 1 rfl) ?_
    refine va_get (D := D) (ci := 1) (v := .ref r) (C := RX1) (T := TX1) (N := 2) hx hb hts (fun _ h => (List.mem_cons_of_mem _ (List.mem_append_left _ (List.mem_append_left _ (List.mem_append_left _ (List.mem_append_right _ h)))))) hown hK hP 0 rfl rfl 0 (by decide) (hts _ (List.mem_of_getElem? (i := 3) rfl)) (fun _ h9 => h9) rfl dX1_take_29 ?_
    refine lv_iload_n hx hb dX1_take_32 rfl (lv_at hl 0 rfl) ?_
    refine pv_i CF (m_X0_weightOn l D cI r a1 a2 S (la n w f v) (by omega)) (cwV 1 hts gX1_take_X0_weightOn rfl rfl rfl k_X0_weightOn ⟨Nat.le_of_ble_eq_true rfl, Nat.le_of_ble_eq_true rfl⟩) hK (hP.sub [1, 2, 3] rfl) rfl rfl rfl rfl hl.1 rfl (Nat.le_of_ble_eq_true rfl) dX1_take_33 ⟨Nat.le_of_ble_eq_true rfl, Nat.le_of_ble_eq_true rfl⟩ ?_
    refine tp_i (y := (g (la n w f v))) (if_pos hk) ?_
    refine lv_istore_n (lv' := [(3, .int (g (la n w f v))), (2, .int (nI (la n w f v))), (0, .ref o), (1, .int (nI v))]) hx hb dX1_take_36 rfl hl (by decide) rfl (fun ls hl => ?_)
    refine lv_aload_n hx hb dX1_take_37 rfl (lv_at hl 2 rfl) ?_
    refine va_get (D := D) (ci := 1) (v := .ref r) (C := RX1) (T := TX1) (N := 2) hx hb hts (fun _ h => (List.mem_cons_of_mem _ (List.mem_append_left _ (List.mem_append_left _ (List.mem_append_left _ (List.mem_append_right _ h)))))) hown hK hP 0 rfl rfl 0 (by decide) (hts _ (List.mem_of_getElem? (i := 3) rfl)) (fun _ h9 => h9) rfl dX1_take_38 ?_
    refine lv_iload_n hx hb dX1_take_41 rfl (lv_at hl 1 rfl) ?_
    have hPc : va_P D vwCl [(r, .inr (0, [.ref a1, .ref a2, .int (nI n), .int (nI w)])), (a1, .inl (cI, 40, .inl F)), (a2, .inl (cI, 40, .inl G))] s.heap := hP.sub [1, 2, 3] rfl
    have hDc : va_D A [(r, .inr (0, [.ref a1, .ref a2, .int (nI n), .int (nI w)])), (a1, .inl (cI, 40, .inl F)), (a2, .inl (cI, 40, .inl G))] := hD.sub [1, 2, 3] (by decide) rfl
    have hFc := va_free (wc := [(r, .inr (0, [.ref a1, .ref a2, .int (nI n), .int (nI w)])), (a1, .inl (cI, 40, .inl F)), (a2, .inl (cI, 40, .inl G))]) hD hS hA [1, 2, 3] rfl
    refine pq_v (va_runV (rest := []) CF (m_X0_leaveTicket l D cI r a1 a2 n w F G (la n w f v) (by omega) s.heap.size) (cwV 1 hts gX1_take_X0_leaveTicket rfl rfl rfl k_X0_leaveTicket ⟨Nat.le_of_ble_eq_true rfl, Nat.le_of_ble_eq_true rfl⟩) (mv_pre hK hPc hDc rfl rfl rfl) rfl rfl hl.1 rfl (lv_room (Nat.le_of_ble_eq_true rfl)) dX1_take_42 ⟨Nat.le_of_ble_eq_true rfl, Nat.le_of_ble_eq_true rfl⟩) hS hFc (fun H locs hB hk1 hS => ?_)
    have hP1 := hB
    obtain ⟨hP, hD⟩ := jn (wb := [(o, .inr (1, [.ref r, .ref t])), (r, .inr (0, [.ref a1, .ref a2, .int (nI n), .int (nI w)])), (a1, .inl (cI, 40, .inl (upd F (la n w f v) (-2)))), (a2, .inl (cI, 40, .inl (upd G (la n w f v) (nI 0)))), (t, .inr (0, [.ref b1, .ref b2, .int (nI n2), .int (nI w2)])), (b1, .inl (cI, 40, .inl F2)), (b2, .inl (cI, 40, .inl G2))]) (w1 := [(r, .inr (0, [.ref a1, .ref a2, .int (nI n), .int (nI w)])), (a1, .inl (cI, 40, .inl (upd F (la n w f v) (-2)))), (a2, .inl (cI, 40, .inl (upd G (la n w f v) (nI 0))))]) hP hD [1, 2, 3] [0, 4, 5, 6] rfl rfl rfl rfl 7 rfl (by decide) (by decide) hk1 hP1
    refine lv_iload_n hx hb dX1_take_45 rfl (lv_at hl 0 rfl) ?_
    exact ex_mi hx hb hr hlocks (Nat.le_of_ble_eq_true rfl) (Nat.le_of_ble_eq_true rfl) hS (⟨v, hv9, rfl, ek, rfl, hP⟩) dX1_take_46
  · skip
    exact th_x (cls := ISE) (text := "the coat does not hang, or is not found") (ik := 34) (is := 46) (ic := 38) hlt CF hX hZ va_S.rf (by decide +kernel) (List.mem_of_getElem? (i := 1) rfl) (List.mem_of_getElem? (i := 2) rfl) (List.mem_of_getElem? (i := 3) rfl) (fun _ h => (List.mem_cons_of_mem _ (List.mem_append_left _ (List.mem_append_right _ h)))) xb_ISE xg_ISE hl.1 dX1_take_18 dX1_take_21 dX1_take_22 dX1_take_24 dX1_take_27 hT ⟨Nat.le_of_ble_eq_true rfl, Nat.le_of_ble_eq_true rfl, Nat.le_of_ble_eq_true rfl, Nat.le_of_ble_eq_true rfl⟩ hlocks (fun t h1 h2 => ⟨Or.inr ⟨rfl, v, hv9, rfl, c15⟩, h1, h2⟩) (fun z hz => nomatch hz) (Nat.le_of_ble_eq_true rfl) (Nat.le_of_ble_eq_true rfl)
theorem k_X1_looksWith : yX1_looksWith.cls = RX1 ∧ yX1_looksWith.cls ≠ "java/lang/invoke/MethodHandle" ∧ yX1_looksWith.cls ≠ "java/lang/invoke/VarHandle" ∧ (parseMethodDescriptor yX1_looksWith.desc).map (fun d => d.parameters.length) = some 2 := by decide +kernel
set_option maxHeartbeats 4000000 in
set_option maxRecDepth 100000 in
theorem m_X1_looksWith (l : Launch) (hlt : l.stackTraces = false) (D : va_G) (cI : ClassId) (o r t a1 a2 b1 b2 : Nat) {n w : Nat} {F G f g : Nat → Int32} (S : RS n w F G f g) (n2 w2 : Nat) (F2 G2 : Nat → Int32) (x y : Int32) (sz : Nat) : vx_Met l yX1_looksWith wsX1_looksWith ({ frames := 7, cells := 1, slots := 6, locals := 117 } : Room) (PXM D [(cI, .int)] [.ref o, .int x, .int y] sz (clw cI o r t a1 a2 b1 b2 n w F G n2 w2 F2 G2)) (qm_i (fun rr H1 => ∃ N w1 : Nat, 3 ≤ N ∧ N ≤ 40 ∧ x = nI N ∧ w1 ≤ 2 ∧ y = nI w1 ∧ rr = LW n f g N w1 ∧ ∃ (n3 w3 : Nat) (F3 G3 : Nat → Int32), va_P D vwCl (clw cI o r t a1 a2 b1 b2 n w F G n3 w3 F3 G3) H1) (va_A (clw cI o r t a1 a2 b1 b2 n w F G n2 w2 F2 G2) sz)) ((fun _ => xk (fun E => E = IAE ∧ ¬ (rg 3 40 x ∧ rg 0 2 y))) (va_A (clw cI o r t a1 a2 b1 b2 n w F G n2 w2 F2 G2) sz)) 1 6 (va_A (clw cI o r t a1 a2 b1 b2 n w F G n2 w2 F2 G2) sz) := by
  obtain ⟨hn3, hn, hw2, hF, hG, hO⟩ := id S
  refine bd_xm (Qf := fun A => qm_i (fun rr H1 => ∃ N w1 : Nat, 3 ≤ N ∧ N ≤ 40 ∧ x = nI N ∧ w1 ≤ 2 ∧ y = nI w1 ∧ rr = LW n f g N w1 ∧ ∃ (n3 w3 : Nat) (F3 G3 : Nat → Int32), va_P D vwCl (clw cI o r t a1 a2 b1 b2 n w F G n3 w3 F3 G3) H1) A) (XCf := fun _ => xk (fun E => E = IAE ∧ ¬ (rg 3 40 x ∧ rg 0 2 y))) (cc := cX1_looksWith) (maxL := 3) (ret := (some .int)) (by decide) rfl (Nat.le_of_ble_eq_true rfl) ?_
  intro p e s m args below meth c ls A CF hr hlocks hT hK hP hD hA hS hX hZ hl
  obtain ⟨hx, hb, hml, hown, hts⟩ := id CF
  have hl : lv_has ls 3 [(0, .ref o), (1, .int x), (2, .int y)] := hl
  have hP : va_P D vwCl [(o, .inr (1, [.ref r, .ref t])), (r, .inr (0, [.ref a1, .ref a2, .int (nI n), .int (nI w)])), (a1, .inl (cI, 40, .inl F)), (a2, .inl (cI, 40, .inl G)), (t, .inr (0, [.ref b1, .ref b2, .int (nI n2), .int (nI w2)])), (b1, .inl (cI, 40, .inl F2)), (b2, .inl (cI, 40, .inl G2))] s.heap := hP
  have hD : va_D A [(o, .inr (1, [.ref r, .ref t])), (r, .inr (0, [.ref a1, .ref a2, .int (nI n), .int (nI w)])), (a1, .inl (cI, 40, .inl F)), (a2, .inl (cI, 40, .inl G)), (t, .inr (0, [.ref b1, .ref b2, .int (nI n2), .int (nI w2)])), (b1, .inl (cI, 40, .inl F2)), (b2, .inl (cI, 40, .inl G2))] := hD
  have hZ0 : XZ (fun _ => False) s s.heap := hZ.narrow (fun q h => h.elim)
  refine lv_iload_n hx hb dX1_looksWith_0 rfl (lv_at hl 1 rfl) ?_
  refine lv_iload_n hx hb dX1_looksWith_1 rfl (lv_at hl 2 rfl) ?_
  refine px_sv CF (m_X1_demandHooksAndWay l hlt D cI x y) (va_cwS 2 hts gX1_looksWith_X1_demandHooksAndWay rfl rfl rfl k_X1_demandHooksAndWay.2 ⟨Nat.le_of_ble_eq_true rfl, Nat.le_of_ble_eq_true rfl⟩) hK (hP.sub [] rfl) hX hZ0 rfl hl.1 rfl (Nat.le_of_ble_eq_true rfl) dX1_looksWith_2 ⟨Nat.le_of_ble_eq_true rfl, Nat.le_of_ble_eq_true rfl⟩ hlocks hT (fun E t hE h1 h2 => ⟨hE, h1, h2⟩) (Nat.le_of_ble_eq_true rfl) (Nat.le_of_ble_eq_true rfl) (fun hc2 => ?_)
  obtain ⟨⟨N, hN3, hN40, rfl⟩, w1, -, hw1, rfl⟩ := hc2
  refine lv_aload_n hx hb dX1_looksWith_5 rfl (lv_at hl 0 rfl) ?_
  refine lv_iload_n hx hb dX1_looksWith_6 rfl (lv_at hl 1 rfl) ?_
  refine lv_iload_n hx hb dX1_looksWith_7 rfl (lv_at hl 2 rfl) ?_
  have hPc : va_P D vwCl [(o, .inr (1, [.ref r, .ref t])), (r, .inr (0, [.ref a1, .ref a2, .int (nI n), .int (nI w)])), (a1, .inl (cI, 40, .inl F)), (a2, .inl (cI, 40, .inl G)), (t, .inr (0, [.ref b1, .ref b2, .int (nI n2), .int (nI w2)])), (b1, .inl (cI, 40, .inl F2)), (b2, .inl (cI, 40, .inl G2))] s.heap := hP.sub [0, 1, 2, 3, 4, 5, 6] rfl
  have hDc : va_D A [(o, .inr (1, [.ref r, .ref t])), (r, .inr (0, [.ref a1, .ref a2, .int (nI n), .int (nI w)])), (a1, .inl (cI, 40, .inl F)), (a2, .inl (cI, 40, .inl G)), (t, .inr (0, [.ref b1, .ref b2, .int (nI n2), .int (nI w2)])), (b1, .inl (cI, 40, .inl F2)), (b2, .inl (cI, 40, .inl G2))] := hD.sub [0, 1, 2, 3, 4, 5, 6] (by decide) rfl
  have hFc := va_free (wc := [(o, .inr (1, [.ref r, .ref t])), (r, .inr (0, [.ref a1, .ref a2, .int (nI n), .int (nI w)])), (a1, .inl (cI, 40, .inl F)), (a2, .inl (cI, 40, .inl G)), (t, .inr (0, [.ref b1, .ref b2, .int (nI n2), .int (nI w2)])), (b1, .inl (cI, 40, .inl F2)), (b2, .inl (cI, 40, .inl G2))]) hD hS hA [0, 1, 2, 3, 4, 5, 6] rfl
  refine pq_i (va_runV (rest := []) CF (m_X1_looksOnTrial l D cI o r t a1 a2 b1 b2 S n2 w2 F2 G2 N w1 hN3 hN40 hw1 s.heap.size) (cwV 2 hts gX1_looksWith_X1_looksOnTrial rfl rfl rfl k_X1_looksOnTrial ⟨Nat.le_of_ble_eq_true rfl, Nat.le_of_ble_eq_true rfl⟩) (mv_pre hK hPc hDc rfl rfl rfl) rfl rfl hl.1 rfl (lv_room (Nat.le_of_ble_eq_true rfl)) dX1_looksWith_8 ⟨Nat.le_of_ble_eq_true rfl, Nat.le_of_ble_eq_true rfl⟩) hS hFc (fun r1 H locs hB hk1 hS => ?_)
  obtain ⟨rfl, F3, G3, hP1⟩ := hB
  obtain ⟨hP, hD⟩ := jn (wb := [(o, .inr (1, [.ref r, .ref t])), (r, .inr (0, [.ref a1, .ref a2, .int (nI n), .int (nI w)])), (a1, .inl (cI, 40, .inl F)), (a2, .inl (cI, 40, .inl G)), (t, .inr (0, [.ref b1, .ref b2, .int (nI N), .int (nI w1)])), (b1, .inl (cI, 40, .inl F3)), (b2, .inl (cI, 40, .inl G3))]) (w1 := [(o, .inr (1, [.ref r, .ref t])), (r, .inr (0, [.ref a1, .ref a2, .int (nI n), .int (nI w)])), (a1, .inl (cI, 40, .inl F)), (a2, .inl (cI, 40, .inl G)), (t, .inr (0, [.ref b1, .ref b2, .int (nI N), .int (nI w1)])), (b1, .inl (cI, 40, .inl F3)), (b2, .inl (cI, 40, .inl G3))]) hP hD [0, 1, 2, 3, 4, 5, 6] [] rfl rfl rfl rfl 7 rfl (by decide) (by decide) hk1 hP1
  exact ex_mi hx hb hr hlocks (Nat.le_of_ble_eq_true rfl) (Nat.le_of_ble_eq_true rfl) hS (⟨N, w1, hN3, hN40, rfl, hw1, rfl, rfl, N, w1, F3, G3, hP⟩) dX1_looksWith_11
theorem k_X1_hooksWanted : yX1_hooksWanted.cls = RX1 ∧ yX1_hooksWanted.cls ≠ "java/lang/invoke/MethodHandle" ∧ yX1_hooksWanted.cls ≠ "java/lang/invoke/VarHandle" ∧ (parseMethodDescriptor yX1_hooksWanted.desc).map (fun d => d.parameters.length) = some 1 := by decide +kernel
set_option maxHeartbeats 4000000 in
set_option maxRecDepth 100000 in
theorem m_X1_hooksWanted (l : Launch) (hlt : l.stackTraces = false) (D : va_G) (cI : ClassId) (o r t a1 a2 b1 b2 : Nat) {n w : Nat} {F G f g : Nat → Int32} (S : RS n w F G f g) (n2 w2 : Nat) (F2 G2 : Nat → Int32) (x : Int32) (sz : Nat) : vx_Met l yX1_hooksWanted wsX1_hooksWanted ({ frames := 6, cells := 1, slots := 6, locals := 140 } : Room) (PXM D [(cI, .int)] [.ref o, .int x] sz (clw cI o r t a1 a2 b1 b2 n w F G n2 w2 F2 G2)) (qm_i (fun rr H1 => ∃ v : Nat, v ≤ 400 ∧ x = nI v ∧ rr = fh n w f g v ∧ ∃ (n3 w3 : Nat) (F3 G3 : Nat → Int32), va_P D vwCl (clw cI o r t a1 a2 b1 b2 n w F G n3 w3 F3 G3) H1) (va_A (clw cI o r t a1 a2 b1 b2 n w F G n2 w2 F2 G2) sz)) ((fun _ => xk (fun E => E = IAE ∧ ¬ rg 0 400 x)) (va_A (clw cI o r t a1 a2 b1 b2 n w F G n2 w2 F2 G2) sz)) 1 6 (va_A (clw cI o r t a1 a2 b1 b2 n w F G n2 w2 F2 G2) sz) := by
  obtain ⟨hn3, hn, hw2, hF, hG, hO⟩ := id S
  refine bd_xm (Qf := fun A => qm_i (fun rr H1 => ∃ v : Nat, v ≤ 400 ∧ x = nI v ∧ rr = fh n w f g v ∧ ∃ (n3 w3 : Nat) (F3 G3 : Nat → Int32), va_P D vwCl (clw cI o r t a1 a2 b1 b2 n w F G n3 w3 F3 G3) H1) A) (XCf := fun _ => xk (fun E => E = IAE ∧ ¬ rg 0 400 x)) (cc := cX1_hooksWanted) (maxL := 2) (ret := (some .int)) (by decide) rfl (Nat.le_of_ble_eq_true rfl) ?_
  intro p e s m args below meth c ls A CF hr hlocks hT hK hP hD hA hS hX hZ hl
  obtain ⟨hx, hb, hml, hown, hts⟩ := id CF
  have hl : lv_has ls 2 [(0, .ref o), (1, .int x)] := hl
  have hP : va_P D vwCl [(o, .inr (1, [.ref r, .ref t])), (r, .inr (0, [.ref a1, .ref a2, .int (nI n), .int (nI w)])), (a1, .inl (cI, 40, .inl F)), (a2, .inl (cI, 40, .inl G)), (t, .inr (0, [.ref b1, .ref b2, .int (nI n2), .int (nI w2)])), (b1, .inl (cI, 40, .inl F2)), (b2, .inl (cI, 40, .inl G2))] s.heap := hP
  have hD : va_D A [(o, .inr (1, [.ref r, .ref t])), (r, .inr (0, [.ref a1, .ref a2, .int (nI n), .int (nI w)])), (a1, .inl (cI, 40, .inl F)), (a2, .inl (cI, 40, .inl G)), (t, .inr (0, [.ref b1, .ref b2, .int (nI n2), .int (nI w2)])), (b1, .inl (cI, 40, .inl F2)), (b2, .inl (cI, 40, .inl G2))] := hD
  have hZ0 : XZ (fun _ => False) s s.heap := hZ.narrow (fun q h => h.elim)
  refine lv_iload_n hx hb dX1_hooksWanted_0 rfl (lv_at hl 1 rfl) ?_
  refine lv_if_lt (tgt := 11) hx hb dX1_hooksWanted_1 (by decide) (fun c1 => ?_) (fun c1 => ?_)
  · skip
    exact th_x (cls := IAE) (text := "the looks are not 0 to 400") (ik := 23) (is := 128) (ic := 27) hlt CF hX hZ va_S.rf (by decide +kernel) (List.mem_of_getElem? (i := 1) rfl) (List.mem_of_getElem? (i := 2) rfl) (List.mem_of_getElem? (i := 9) rfl) (fun _ h => (List.mem_cons_of_mem _ (List.mem_append_right _ h))) xb_IAE xg_IAE hl.1 dX1_hooksWanted_11 dX1_hooksWanted_14 dX1_hooksWanted_15 dX1_hooksWanted_17 dX1_hooksWanted_20 hT ⟨Nat.le_of_ble_eq_true rfl, Nat.le_of_ble_eq_true rfl, Nat.le_of_ble_eq_true rfl, Nat.le_of_ble_eq_true rfl⟩ hlocks (fun t h1 h2 => ⟨⟨rfl, rg_lo0 (by decide) c1⟩, h1, h2⟩) (fun z hz => nomatch hz) (Nat.le_of_ble_eq_true rfl) (Nat.le_of_ble_eq_true rfl)
  · skip
    refine lv_iload_n hx hb dX1_hooksWanted_4 rfl (lv_at hl 1 rfl) ?_
    refine lv_sipush (v := nI 400) hx hb dX1_hooksWanted_5 (by decide) ?_
    refine lv_icmp_le (tgt := 21) hx hb dX1_hooksWanted_8 (by decide) (fun c8 => ?_) (fun c8 => ?_)
    · skip
      obtain ⟨v, -, hv, rfl⟩ := rg_in0 (b := 400) (by decide) c1 c8
      refine lv_aload_n hx hb dX1_hooksWanted_21 rfl (lv_at hl 0 rfl) ?_
      refine lv_iload_n hx hb dX1_hooksWanted_22 rfl (lv_at hl 1 rfl) ?_
      have hPc : va_P D vwCl [(o, .inr (1, [.ref r, .ref t])), (r, .inr (0, [.ref a1, .ref a2, .int (nI n), .int (nI w)])), (a1, .inl (cI, 40, .inl F)), (a2, .inl (cI, 40, .inl G)), (t, .inr (0, [.ref b1, .ref b2, .int (nI n2), .int (nI w2)])), (b1, .inl (cI, 40, .inl F2)), (b2, .inl (cI, 40, .inl G2))] s.heap := hP.sub [0, 1, 2, 3, 4, 5, 6] rfl
      have hDc : va_D A [(o, .inr (1, [.ref r, .ref t])), (r, .inr (0, [.ref a1, .ref a2, .int (nI n), .int (nI w)])), (a1, .inl (cI, 40, .inl F)), (a2, .inl (cI, 40, .inl G)), (t, .inr (0, [.ref b1, .ref b2, .int (nI n2), .int (nI w2)])), (b1, .inl (cI, 40, .inl F2)), (b2, .inl (cI, 40, .inl G2))] := hD.sub [0, 1, 2, 3, 4, 5, 6] (by decide) rfl
      have hFc := va_free (wc := [(o, .inr (1, [.ref r, .ref t])), (r, .inr (0, [.ref a1, .ref a2, .int (nI n), .int (nI w)])), (a1, .inl (cI, 40, .inl F)), (a2, .inl (cI, 40, .inl G)), (t, .inr (0, [.ref b1, .ref b2, .int (nI n2), .int (nI w2)])), (b1, .inl (cI, 40, .inl F2)), (b2, .inl (cI, 40, .inl G2))]) hD hS hA [0, 1, 2, 3, 4, 5, 6] rfl
      refine pq_i (va_runV (rest := []) CF (m_X1_fewestHooks l D cI o r t a1 a2 b1 b2 S n2 w2 F2 G2 v hv s.heap.size) (cwV 1 hts gX1_hooksWanted_X1_fewestHooks rfl rfl rfl k_X1_fewestHooks ⟨Nat.le_of_ble_eq_true rfl, Nat.le_of_ble_eq_true rfl⟩) (mv_pre hK hPc hDc rfl rfl rfl) rfl rfl hl.1 rfl (lv_room (Nat.le_of_ble_eq_true rfl)) dX1_hooksWanted_23 ⟨Nat.le_of_ble_eq_true rfl, Nat.le_of_ble_eq_true rfl⟩) hS hFc (fun r1 H locs hB hk1 hS => ?_)
      obtain ⟨rfl, n3, w3, F3, G3, hP1⟩ := hB
      obtain ⟨hP, hD⟩ := jn (wb := [(o, .inr (1, [.ref r, .ref t])), (r, .inr (0, [.ref a1, .ref a2, .int (nI n), .int (nI w)])), (a1, .inl (cI, 40, .inl F)), (a2, .inl (cI, 40, .inl G)), (t, .inr (0, [.ref b1, .ref b2, .int (nI n3), .int (nI w3)])), (b1, .inl (cI, 40, .inl F3)), (b2, .inl (cI, 40, .inl G3))]) (w1 := [(o, .inr (1, [.ref r, .ref t])), (r, .inr (0, [.ref a1, .ref a2, .int (nI n), .int (nI w)])), (a1, .inl (cI, 40, .inl F)), (a2, .inl (cI, 40, .inl G)), (t, .inr (0, [.ref b1, .ref b2, .int (nI n3), .int (nI w3)])), (b1, .inl (cI, 40, .inl F3)), (b2, .inl (cI, 40, .inl G3))]) hP hD [0, 1, 2, 3, 4, 5, 6] [] rfl rfl rfl rfl 7 rfl (by decide) (by decide) hk1 hP1
      exact ex_mi hx hb hr hlocks (Nat.le_of_ble_eq_true rfl) (Nat.le_of_ble_eq_true rfl) hS (⟨v, hv, rfl, rfl, n3, w3, F3, G3, hP⟩) dX1_hooksWanted_26
    · skip
      exact th_x (cls := IAE) (text := "the looks are not 0 to 400") (ik := 23) (is := 128) (ic := 27) hlt CF hX hZ va_S.rf (by decide +kernel) (List.mem_of_getElem? (i := 1) rfl) (List.mem_of_getElem? (i := 2) rfl) (List.mem_of_getElem? (i := 9) rfl) (fun _ h => (List.mem_cons_of_mem _ (List.mem_append_right _ h))) xb_IAE xg_IAE hl.1 dX1_hooksWanted_11 dX1_hooksWanted_14 dX1_hooksWanted_15 dX1_hooksWanted_17 dX1_hooksWanted_20 hT ⟨Nat.le_of_ble_eq_true rfl, Nat.le_of_ble_eq_true rfl, Nat.le_of_ble_eq_true rfl, Nat.le_of_ble_eq_true rfl⟩ hlocks (fun t h1 h2 => ⟨⟨rfl, rg_hi (by decide) c8⟩, h1, h2⟩) (fun z hz => nomatch hz) (Nat.le_of_ble_eq_true rfl) (Nat.le_of_ble_eq_true rfl)
theorem k_X1_rehang : yX1_rehang.cls = RX1 ∧ yX1_rehang.cls ≠ "java/lang/invoke/MethodHandle" ∧ yX1_rehang.cls ≠ "java/lang/invoke/VarHandle" ∧ (parseMethodDescriptor yX1_rehang.desc).map (fun d => d.parameters.length) = some 2 := by decide +kernel
set_option maxHeartbeats 4000000 in
set_option maxRecDepth 100000 in
theorem m_X1_rehang (l : Launch) (hlt : l.stackTraces = false) (D : va_G) (cI : ClassId) (o r t a1 a2 b1 b2 : Nat) {n w : Nat} {F G f g : Nat → Int32} (S : RS n w F G f g) (n2 w2 : Nat) (F2 G2 : Nat → Int32) (x y : Int32) (sz : Nat) : vx_Met l yX1_rehang wsX1_rehang ({ frames := 7, cells := 2, slots := 12, locals := 111 } : Room) (PXM D [(cI, .int)] [.ref o, .int x, .int y] sz (clw cI o r t a1 a2 b1 b2 n w F G n2 w2 F2 G2)) (qm_i (fun rr H1 => ∃ N w1 : Nat, 3 ≤ N ∧ N ≤ 40 ∧ x = nI N ∧ w1 ≤ 2 ∧ y = nI w1 ∧ ∃ (T U : Nat → Int32) (z : Nat), HG n f g N w1 = some (T, U, z) ∧ nt N T ∧ rr = nI (cm n f N T) ∧ ∃ (F3 G3 : Nat → Int32), RS N w1 F3 G3 T U ∧ ∃ (n3 w3 : Nat) (F4 G4 : Nat → Int32), va_P D vwCl (clw cI o r t a1 a2 b1 b2 N w1 F3 G3 n3 w3 F4 G4) H1) (va_A (clw cI o r t a1 a2 b1 b2 n w F G n2 w2 F2 G2) sz)) ((fun A E st tt => (xk (fun E => E = IAE ∧ ¬ (rg 3 40 x ∧ rg 0 2 y)) E st tt) ∨ (E = ISE ∧ (∃ N w1 : Nat, 3 ≤ N ∧ N ≤ 40 ∧ x = nI N ∧ w1 ≤ 2 ∧ y = nI w1 ∧ HG n f g N w1 = none) ∧ (∃ (n3 w3 : Nat) (F3 G3 : Nat → Int32), va_P D vwCl (clw cI o r t a1 a2 b1 b2 n w F G n3 w3 F3 G3) tt.heap) ∧ va_F A st tt)) (va_A (clw cI o r t a1 a2 b1 b2 n w F G n2 w2 F2 G2) sz)) 2 12 (va_A (clw cI o r t a1 a2 b1 b2 n w F G n2 w2 F2 G2) sz) := by
  obtain ⟨hn3, hn, hw2, hF, hG, hO⟩ := id S
  refine bd_xm (Qf := fun A => qm_i (fun rr H1 => ∃ N w1 : Nat, 3 ≤ N ∧ N ≤ 40 ∧ x = nI N ∧ w1 ≤ 2 ∧ y = nI w1 ∧ ∃ (T U : Nat → Int32) (z : Nat), HG n f g N w1 = some (T, U, z) ∧ nt N T ∧ rr = nI (cm n f N T) ∧ ∃ (F3 G3 : Nat → Int32), RS N w1 F3 G3 T U ∧ ∃ (n3 w3 : Nat) (F4 G4 : Nat → Int32), va_P D vwCl (clw cI o r t a1 a2 b1 b2 N w1 F3 G3 n3 w3 F4 G4) H1) A) (XCf := fun A E st tt => (xk (fun E => E = IAE ∧ ¬ (rg 3 40 x ∧ rg 0 2 y)) E st tt) ∨ (E = ISE ∧ (∃ N w1 : Nat, 3 ≤ N ∧ N ≤ 40 ∧ x = nI N ∧ w1 ≤ 2 ∧ y = nI w1 ∧ HG n f g N w1 = none) ∧ (∃ (n3 w3 : Nat) (F3 G3 : Nat → Int32), va_P D vwCl (clw cI o r t a1 a2 b1 b2 n w F G n3 w3 F3 G3) tt.heap) ∧ va_F A st tt)) (cc := cX1_rehang) (maxL := 4) (ret := (some .int)) (by decide) rfl (Nat.le_of_ble_eq_true rfl) ?_
  intro p e s m args below meth c ls A CF hr hlocks hT hK hP hD hA hS hX hZ hl
  obtain ⟨hx, hb, hml, hown, hts⟩ := id CF
  have hl : lv_has ls 4 [(0, .ref o), (1, .int x), (2, .int y)] := hl
  have hP : va_P D vwCl [(o, .inr (1, [.ref r, .ref t])), (r, .inr (0, [.ref a1, .ref a2, .int (nI n), .int (nI w)])), (a1, .inl (cI, 40, .inl F)), (a2, .inl (cI, 40, .inl G)), (t, .inr (0, [.ref b1, .ref b2, .int (nI n2), .int (nI w2)])), (b1, .inl (cI, 40, .inl F2)), (b2, .inl (cI, 40, .inl G2))] s.heap := hP
  have hD : va_D A [(o, .inr (1, [.ref r, .ref t])), (r, .inr (0, [.ref a1, .ref a2, .int (nI n), .int (nI w)])), (a1, .inl (cI, 40, .inl F)), (a2, .inl (cI, 40, .inl G)), (t, .inr (0, [.ref b1, .ref b2, .int (nI n2), .int (nI w2)])), (b1, .inl (cI, 40, .inl F2)), (b2, .inl (cI, 40, .inl G2))] := hD
  have hZ0 : XZ (fun _ => False) s s.heap := hZ.narrow (fun q h => h.elim)
  refine lv_iload_n hx hb dX1_rehang_0 rfl (lv_at hl 1 rfl) ?_
  refine lv_iload_n hx hb dX1_rehang_1 rfl (lv_at hl 2 rfl) ?_
  refine px_sv CF (m_X1_demandHooksAndWay l hlt D cI x y) (va_cwS 2 hts gX1_rehang_X1_demandHooksAndWay rfl rfl rfl k_X1_demandHooksAndWay.2 ⟨Nat.le_of_ble_eq_true rfl, Nat.le_of_ble_eq_true rfl⟩) hK (hP.sub [] rfl) hX hZ0 rfl hl.1 rfl (Nat.le_of_ble_eq_true rfl) dX1_rehang_2 ⟨Nat.le_of_ble_eq_true rfl, Nat.le_of_ble_eq_true rfl⟩ hlocks hT (fun E t hE h1 h2 => Or.inl ⟨hE, h1, h2⟩) (Nat.le_of_ble_eq_true rfl) (Nat.le_of_ble_eq_true rfl) (fun hc2 => ?_)
  obtain ⟨⟨N, hN3, hN40, rfl⟩, w1, -, hw1, rfl⟩ := hc2
  refine lv_aload_n hx hb dX1_rehang_5 rfl (lv_at hl 0 rfl) ?_
  refine lv_iload_n hx hb dX1_rehang_6 rfl (lv_at hl 1 rfl) ?_
  refine lv_iload_n hx hb dX1_rehang_7 rfl (lv_at hl 2 rfl) ?_
  have hPc : va_P D vwCl [(o, .inr (1, [.ref r, .ref t])), (r, .inr (0, [.ref a1, .ref a2, .int (nI n), .int (nI w)])), (a1, .inl (cI, 40, .inl F)), (a2, .inl (cI, 40, .inl G)), (t, .inr (0, [.ref b1, .ref b2, .int (nI n2), .int (nI w2)])), (b1, .inl (cI, 40, .inl F2)), (b2, .inl (cI, 40, .inl G2))] s.heap := hP.sub [0, 1, 2, 3, 4, 5, 6] rfl
  have hDc : va_D A [(o, .inr (1, [.ref r, .ref t])), (r, .inr (0, [.ref a1, .ref a2, .int (nI n), .int (nI w)])), (a1, .inl (cI, 40, .inl F)), (a2, .inl (cI, 40, .inl G)), (t, .inr (0, [.ref b1, .ref b2, .int (nI n2), .int (nI w2)])), (b1, .inl (cI, 40, .inl F2)), (b2, .inl (cI, 40, .inl G2))] := hD.sub [0, 1, 2, 3, 4, 5, 6] (by decide) rfl
  have hFc := va_free (wc := [(o, .inr (1, [.ref r, .ref t])), (r, .inr (0, [.ref a1, .ref a2, .int (nI n), .int (nI w)])), (a1, .inl (cI, 40, .inl F)), (a2, .inl (cI, 40, .inl G)), (t, .inr (0, [.ref b1, .ref b2, .int (nI n2), .int (nI w2)])), (b1, .inl (cI, 40, .inl F2)), (b2, .inl (cI, 40, .inl G2))]) hD hS hA [0, 1, 2, 3, 4, 5, 6] rfl
  refine pq_i (va_runV (rest := []) CF (m_X1_hangAnewOnTrial l D cI o r t a1 a2 b1 b2 S n2 w2 F2 G2 N w1 hN3 hN40 hw1 s.heap.size) (cwV 2 hts gX1_rehang_X1_hangAnewOnTrial rfl rfl rfl k_X1_hangAnewOnTrial ⟨Nat.le_of_ble_eq_true rfl, Nat.le_of_ble_eq_true rfl⟩) (mv_pre hK hPc hDc rfl rfl rfl) rfl rfl hl.1 rfl (lv_room (Nat.le_of_ble_eq_true rfl)) dX1_rehang_8 ⟨Nat.le_of_ble_eq_true rfl, Nat.le_of_ble_eq_true rfl⟩) hS hFc (fun r1 H locs hB hk1 hS => ?_)
  obtain ⟨F3, G3, hP1, hR⟩ := hB
  obtain ⟨hP, hD⟩ := jn (wb := [(o, .inr (1, [.ref r, .ref t])), (r, .inr (0, [.ref a1, .ref a2, .int (nI n), .int (nI w)])), (a1, .inl (cI, 40, .inl F)), (a2, .inl (cI, 40, .inl G)), (t, .inr (0, [.ref b1, .ref b2, .int (nI N), .int (nI w1)])), (b1, .inl (cI, 40, .inl F3)), (b2, .inl (cI, 40, .inl G3))]) (w1 := [(o, .inr (1, [.ref r, .ref t])), (r, .inr (0, [.ref a1, .ref a2, .int (nI n), .int (nI w)])), (a1, .inl (cI, 40, .inl F)), (a2, .inl (cI, 40, .inl G)), (t, .inr (0, [.ref b1, .ref b2, .int (nI N), .int (nI w1)])), (b1, .inl (cI, 40, .inl F3)), (b2, .inl (cI, 40, .inl G3))]) hP hD [0, 1, 2, 3, 4, 5, 6] [] rfl rfl rfl rfl 7 rfl (by decide) (by decide) hk1 hP1
  rcases hR with ⟨rfl, T, U, z, hHG, S4, hT4⟩ | ⟨rfl, hHG⟩
  · skip
    refine bz_ne (tgt := 24) hx hb dX1_rehang_11 (by decide) (by omega) (fun c11 => ?_) (fun c11 => ?_)
    · skip
      refine lv_aload_n hx hb dX1_rehang_24 rfl (lv_at hl 0 rfl) ?_
      refine pv_i CF (m_X1_coatsMovedOnTrial l D cI o r t a1 a2 b1 b2 S S4) (cwV 0 hts gX1_rehang_X1_coatsMovedOnTrial rfl rfl rfl k_X1_coatsMovedOnTrial ⟨Nat.le_of_ble_eq_true rfl, Nat.le_of_ble_eq_true rfl⟩) hK (hP.sub [0, 1, 2, 3, 4, 5, 6] rfl) rfl rfl rfl rfl hl.1 rfl (Nat.le_of_ble_eq_true rfl) dX1_rehang_25 ⟨Nat.le_of_ble_eq_true rfl, Nat.le_of_ble_eq_true rfl⟩ ?_
      refine lv_istore_n (lv' := [(3, .int (nI (cm n f N T))), (0, .ref o), (1, .int (nI N)), (2, .int (nI w1))]) hx hb dX1_rehang_28 rfl hl (by decide) rfl (fun ls hl => ?_)
      refine lv_aload_n hx hb dX1_rehang_29 rfl (lv_at hl 1 rfl) ?_
      have hPc : va_P D vwCl [(o, .inr (1, [.ref r, .ref t])), (r, .inr (0, [.ref a1, .ref a2, .int (nI n), .int (nI w)])), (a1, .inl (cI, 40, .inl F)), (a2, .inl (cI, 40, .inl G)), (t, .inr (0, [.ref b1, .ref b2, .int (nI N), .int (nI w1)])), (b1, .inl (cI, 40, .inl F3)), (b2, .inl (cI, 40, .inl G3))] H := hP.sub [0, 1, 2, 3, 4, 5, 6] rfl
      have hDc : va_D A [(o, .inr (1, [.ref r, .ref t])), (r, .inr (0, [.ref a1, .ref a2, .int (nI n), .int (nI w)])), (a1, .inl (cI, 40, .inl F)), (a2, .inl (cI, 40, .inl G)), (t, .inr (0, [.ref b1, .ref b2, .int (nI N), .int (nI w1)])), (b1, .inl (cI, 40, .inl F3)), (b2, .inl (cI, 40, .inl G3))] := hD.sub [0, 1, 2, 3, 4, 5, 6] (by decide) rfl
      have hFc := va_free (wc := [(o, .inr (1, [.ref r, .ref t])), (r, .inr (0, [.ref a1, .ref a2, .int (nI n), .int (nI w)])), (a1, .inl (cI, 40, .inl F)), (a2, .inl (cI, 40, .inl G)), (t, .inr (0, [.ref b1, .ref b2, .int (nI N), .int (nI w1)])), (b1, .inl (cI, 40, .inl F3)), (b2, .inl (cI, 40, .inl G3))]) hD hS hA [0, 1, 2, 3, 4, 5, 6] rfl
      refine pq_v (va_runV (rest := []) CF (m_X1_takeOverTrial l D cI o r t a1 a2 b1 b2 n w F G S4 hT4 H.size) (cwV 0 hts gX1_rehang_X1_takeOverTrial rfl rfl rfl k_X1_takeOverTrial ⟨Nat.le_of_ble_eq_true rfl, Nat.le_of_ble_eq_true rfl⟩) (mv_pre hK hPc hDc rfl rfl rfl) rfl rfl hl.1 rfl (lv_room (Nat.le_of_ble_eq_true rfl)) dX1_rehang_30 ⟨Nat.le_of_ble_eq_true rfl, Nat.le_of_ble_eq_true rfl⟩) hS hFc (fun H locs hB hk1 hS => ?_)
      obtain ⟨F5, G5, S5, hP1⟩ := hB
      obtain ⟨hP, hD⟩ := jn (wb := [(o, .inr (1, [.ref r, .ref t])), (r, .inr (0, [.ref a1, .ref a2, .int (nI N), .int (nI w1)])), (a1, .inl (cI, 40, .inl F5)), (a2, .inl (cI, 40, .inl G5)), (t, .inr (0, [.ref b1, .ref b2, .int (nI N), .int (nI w1)])), (b1, .inl (cI, 40, .inl F3)), (b2, .inl (cI, 40, .inl G3))]) (w1 := [(o, .inr (1, [.ref r, .ref t])), (r, .inr (0, [.ref a1, .ref a2, .int (nI N), .int (nI w1)])), (a1, .inl (cI, 40, .inl F5)), (a2, .inl (cI, 40, .inl G5)), (t, .inr (0, [.ref b1, .ref b2, .int (nI N), .int (nI w1)])), (b1, .inl (cI, 40, .inl F3)), (b2, .inl (cI, 40, .inl G3))]) hP hD [0, 1, 2, 3, 4, 5, 6] [] rfl rfl rfl rfl 7 rfl (by decide) (by decide) hk1 hP1
      refine lv_iload_n hx hb dX1_rehang_33 rfl (lv_at hl 0 rfl) ?_
      exact ex_mi hx hb hr hlocks (Nat.le_of_ble_eq_true rfl) (Nat.le_of_ble_eq_true rfl) hS (⟨N, w1, hN3, hN40, rfl, hw1, rfl, T, U, z, hHG, hT4, rfl, F5, G5, S5, N, w1, F3, G3, hP⟩) dX1_rehang_34
    · skip
      omega
  · skip
    refine bz_ne (tgt := 24) hx hb dX1_rehang_11 (by decide) (by omega) (fun c11 => ?_) (fun c11 => ?_)
    · skip
      omega
    · skip
      exact th_x (cls := ISE) (text := "a coat has no place") (ik := 34) (is := 62) (ic := 38) hlt CF hX hZ hS (by decide +kernel) (List.mem_of_getElem? (i := 1) rfl) (List.mem_of_getElem? (i := 2) rfl) (List.mem_of_getElem? (i := 6) rfl) (fun _ h => (List.mem_cons_of_mem _ (List.mem_append_left _ (List.mem_append_right _ h)))) xb_ISE xg_ISE hl.1 dX1_rehang_14 dX1_rehang_17 dX1_rehang_18 dX1_rehang_20 dX1_rehang_23 hT ⟨Nat.le_of_ble_eq_true rfl, Nat.le_of_ble_eq_true rfl, Nat.le_of_ble_eq_true rfl, Nat.le_of_ble_eq_true rfl⟩ hlocks (fun t h1 h2 => Or.inr ⟨rfl, ⟨N, w1, hN3, hN40, rfl, hw1, rfl, hHG⟩, ⟨N, w1, F3, G3, hP.kept (fun k q hk => h2 q.1 ((hP k q hk).lt))⟩, Nat.le_trans hS.1 h1, fun q hq hA2 => by rw [h2 q (Nat.lt_of_lt_of_le hq hS.1)]; exact hS.2.1 q hq hA2⟩) hS.2.2 (Nat.le_of_ble_eq_true rfl) (Nat.le_of_ble_eq_true rfl)
theorem k_X1_meanLooks : yX1_meanLooks.cls = RX1 ∧ yX1_meanLooks.cls ≠ "java/lang/invoke/MethodHandle" ∧ yX1_meanLooks.cls ≠ "java/lang/invoke/VarHandle" ∧ (parseMethodDescriptor yX1_meanLooks.desc).map (fun d => d.parameters.length) = some 0 := by decide +kernel
set_option maxHeartbeats 4000000 in
set_option maxRecDepth 100000 in
theorem m_X1_meanLooks (l : Launch) (D : va_G) (cI : ClassId) (o r t a1 a2 b1 b2 : Nat) {n w : Nat} {F G f g : Nat → Int32} (S : RS n w F G f g) (n2 w2 : Nat) (F2 G2 : Nat → Int32) (hnn : NN) : Met l yX1_meanLooks wsX1_meanLooks ({ frames := 3, cells := 0, slots := 0, locals := 69 } : Room) (PR D [(cI, .int)] [.ref o] (clw cI o r t a1 a2 b1 b2 n w F G n2 w2 F2 G2)) (vp_Sd (fun r => r = ml n w f)) 0 0 (fun _ => False) := by
  obtain ⟨hn3, hn, hw2, hF, hG, hO⟩ := id S
  refine bd_p (cc := cX1_meanLooks) (maxL := 2) (ret := (some .double)) (by decide) rfl (Nat.le_of_ble_eq_true rfl) ?_
  intro p e s m args below meth c ls CF hr hlocks hK hP hl
  obtain ⟨hx, hb, hml, hown, hts⟩ := id CF
  have hl : lv_has ls 2 [(0, .ref o)] := hl
  have hP : va_P D vwCl [(o, .inr (1, [.ref r, .ref t])), (r, .inr (0, [.ref a1, .ref a2, .int (nI n), .int (nI w)])), (a1, .inl (cI, 40, .inl F)), (a2, .inl (cI, 40, .inl G)), (t, .inr (0, [.ref b1, .ref b2, .int (nI n2), .int (nI w2)])), (b1, .inl (cI, 40, .inl F2)), (b2, .inl (cI, 40, .inl G2))] s.heap := hP
  refine lv_aload_n hx hb dX1_meanLooks_0 rfl (lv_at hl 0 rfl) ?_
  refine va_get (D := D) (ci := 1) (v := .ref r) (C := RX1) (T := TX1) (N := 2) hx hb hts (fun _ h => (List.mem_cons_of_mem _ (List.mem_append_left _ (List.mem_append_right _ h)))) hown hK hP 0 rfl rfl 0 (by decide) (hts _ (List.mem_of_getElem? (i := 1) rfl)) (fun _ h9 => h9) rfl dX1_meanLooks_1 ?_
  refine lv_iconst (v := nI 1) hx hb dX1_meanLooks_4 (by decide) ?_
  refine pv_i CF (m_X0_countInState l D cI r a1 a2 S (nI 1)) (cwV 1 hts gX1_meanLooks_X0_countInState rfl rfl rfl k_X0_countInState ⟨Nat.le_of_ble_eq_true rfl, Nat.le_of_ble_eq_true rfl⟩) hK (hP.sub [1, 2, 3] rfl) rfl rfl rfl rfl hl.1 rfl (Nat.le_of_ble_eq_true rfl) dX1_meanLooks_5 ⟨Nat.le_of_ble_eq_true rfl, Nat.le_of_ble_eq_true rfl⟩ ?_
  refine lv_istore_n (lv' := [(1, .int (nI (ct n f (nI 1)))), (0, .ref o)]) hx hb dX1_meanLooks_8 rfl hl (by decide) rfl (fun ls hl => ?_)
  refine lv_iload_n hx hb dX1_meanLooks_9 rfl (lv_at hl 0 rfl) ?_
  refine bz_ne (tgt := 15) hx hb dX1_meanLooks_10 (by decide) (Nat.lt_of_le_of_lt (ct_le n f (nI 1) n) (by omega)) (fun c10 => ?_) (fun c10 => ?_)
  · skip
    refine lv_aload_n hx hb dX1_meanLooks_15 rfl (lv_at hl 1 rfl) ?_
    refine va_get (D := D) (ci := 1) (v := .ref r) (C := RX1) (T := TX1) (N := 2) hx hb hts (fun _ h => (List.mem_cons_of_mem _ (List.mem_append_left _ (List.mem_append_right _ h)))) hown hK hP 0 rfl rfl 0 (by decide) (hts _ (List.mem_of_getElem? (i := 1) rfl)) (fun _ h9 => h9) rfl dX1_meanLooks_16 ?_
    refine pv_i CF (m_X0_looksForAll l D cI r a1 a2 S ) (cwV 0 hts gX1_meanLooks_X0_looksForAll rfl rfl rfl k_X0_looksForAll ⟨Nat.le_of_ble_eq_true rfl, Nat.le_of_ble_eq_true rfl⟩) hK (hP.sub [1, 2, 3] rfl) rfl rfl rfl rfl hl.1 rfl (Nat.le_of_ble_eq_true rfl) dX1_meanLooks_19 ⟨Nat.le_of_ble_eq_true rfl, Nat.le_of_ble_eq_true rfl⟩ ?_
    refine lv_i2d hx hb dX1_meanLooks_22 ?_
    refine lv_iload_n hx hb dX1_meanLooks_23 rfl (lv_at hl 0 rfl) ?_
    refine lv_i2d hx hb dX1_meanLooks_24 ?_
    refine lv_ddiv hx hb dX1_meanLooks_25 (hnn _ _ (nI_ne0 (Nat.pos_of_ne_zero c10) (Nat.lt_of_le_of_lt (ct_le n f (nI 1) n) (by omega)))) ?_
    exact en_d hx hb hr hlocks ((if_neg c10).symm) dX1_meanLooks_26
  · skip
    refine lv_dconst0 hx hb dX1_meanLooks_13 ?_
    exact en_d hx hb hr hlocks ((if_pos c10).symm) dX1_meanLooks_14
theorem k_X1_digest : yX1_digest.cls = RX1 ∧ yX1_digest.cls ≠ "java/lang/invoke/MethodHandle" ∧ yX1_digest.cls ≠ "java/lang/invoke/VarHandle" ∧ (parseMethodDescriptor yX1_digest.desc).map (fun d => d.parameters.length) = some 0 := by decide +kernel
set_option maxHeartbeats 4000000 in
set_option maxRecDepth 100000 in
theorem m_X1_digest (l : Launch) (D : va_G) (cI : ClassId) (o r t a1 a2 b1 b2 : Nat) {n w : Nat} {F G f g : Nat → Int32} (S : RS n w F G f g) (n2 w2 : Nat) (F2 G2 : Nat → Int32) (sz : Nat) : Met l yX1_digest wsX1_digest ({ frames := 6, cells := 0, slots := 0, locals := 141 } : Room) (PM D [(cI, .int)] [.ref o] sz (clw cI o r t a1 a2 b1 b2 n w F G n2 w2 F2 G2)) (qm_l (fun rr H1 => rr = DG n w f g ∧ ∃ (n3 w3 : Nat) (F3 G3 : Nat → Int32), va_P D vwCl (clw cI o r t a1 a2 b1 b2 n w F G n3 w3 F3 G3) H1) (va_A (clw cI o r t a1 a2 b1 b2 n w F G n2 w2 F2 G2) sz)) 0 0 (va_A (clw cI o r t a1 a2 b1 b2 n w F G n2 w2 F2 G2) sz) := by
  obtain ⟨hn3, hn, hw2, hF, hG, hO⟩ := id S
  refine bd_m (Qc := (fun A => qm_l (fun rr H1 => rr = DG n w f g ∧ ∃ (n3 w3 : Nat) (F3 G3 : Nat → Int32), va_P D vwCl (clw cI o r t a1 a2 b1 b2 n w F G n3 w3 F3 G3) H1) A)) (cc := cX1_digest) (maxL := 4) (ret := (some .long)) (by decide) rfl (Nat.le_of_ble_eq_true rfl) ?_
  intro p e s m args below meth c ls A CF hr hlocks hK hP hD hA hS hl hin
  obtain ⟨hx, hb, hml, hown, hts⟩ := id CF
  have hl : lv_has ls 4 [(0, .ref o)] := hl
  have hP : va_P D vwCl [(o, .inr (1, [.ref r, .ref t])), (r, .inr (0, [.ref a1, .ref a2, .int (nI n), .int (nI w)])), (a1, .inl (cI, 40, .inl F)), (a2, .inl (cI, 40, .inl G)), (t, .inr (0, [.ref b1, .ref b2, .int (nI n2), .int (nI w2)])), (b1, .inl (cI, 40, .inl F2)), (b2, .inl (cI, 40, .inl G2))] s.heap := hP
  have hD : va_D A [(o, .inr (1, [.ref r, .ref t])), (r, .inr (0, [.ref a1, .ref a2, .int (nI n), .int (nI w)])), (a1, .inl (cI, 40, .inl F)), (a2, .inl (cI, 40, .inl G)), (t, .inr (0, [.ref b1, .ref b2, .int (nI n2), .int (nI w2)])), (b1, .inl (cI, 40, .inl F2)), (b2, .inl (cI, 40, .inl G2))] := hD
  generalize hH0 : s.heap = H at hP
  have hS : va_S A s.heap H [] := by rw [← hH0]; exact va_S.rf
  generalize hlc0 : ([] : List Loc) = locs at hS ⊢
  refine lv_ldc2 (v := 2237) hx hb hown (hts _ (List.mem_of_getElem? (i := 1) rfl)) dX1_digest_0 ?_
  refine lv_lstore_n (lv' := [(1, .long 2237), (0, .ref o)]) hx hb dX1_digest_3 rfl hl (by decide) rfl (fun ls hl => ?_)
  refine lv_lload_n hx hb dX1_digest_4 rfl (lv_at hl 0 rfl) ?_
  refine lv_ldc2 (v := 31) hx hb hown (hts _ (List.mem_of_getElem? (i := 2) rfl)) dX1_digest_5 ?_
  refine lv_lmul hx hb dX1_digest_8 ?_
  refine lv_aload_n hx hb dX1_digest_9 rfl (lv_at hl 1 rfl) ?_
  refine va_get (D := D) (ci := 1) (v := .ref r) (C := RX1) (T := TX1) (N := 2) hx hb hts (fun _ h => (List.mem_cons_of_mem _ (List.mem_append_left _ (List.mem_append_right _ h)))) hown hK hP 0 rfl rfl 0 (by decide) (hts _ (List.mem_of_getElem? (i := 3) rfl)) (fun _ h9 => h9) rfl dX1_digest_10 ?_
  refine pv_i CF (m_X0_hookCount l D cI r a1 a2 S ) (cwV 0 hts gX1_digest_X0_hookCount rfl rfl rfl k_X0_hookCount ⟨Nat.le_of_ble_eq_true rfl, Nat.le_of_ble_eq_true rfl⟩) hK (hP.sub [1, 2, 3] rfl) rfl rfl rfl rfl hl.1 rfl (Nat.le_of_ble_eq_true rfl) dX1_digest_13 ⟨Nat.le_of_ble_eq_true rfl, Nat.le_of_ble_eq_true rfl⟩ ?_
  refine lv_i2l hx hb dX1_digest_16 rfl ?_
  refine lv_ladd hx hb dX1_digest_17 ?_
  refine tp_l (y := dx 2237 (nI n)) rfl ?_
  refine lv_lstore_n (lv' := [(1, .long (dx 2237 (nI n))), (0, .ref o)]) hx hb dX1_digest_18 rfl hl (by decide) rfl (fun ls hl => ?_)
  refine lv_lload_n hx hb dX1_digest_19 rfl (lv_at hl 0 rfl) ?_
  refine lv_ldc2 (v := 31) hx hb hown (hts _ (List.mem_of_getElem? (i := 2) rfl)) dX1_digest_20 ?_
  refine lv_lmul hx hb dX1_digest_23 ?_
  refine lv_aload_n hx hb dX1_digest_24 rfl (lv_at hl 1 rfl) ?_
  refine va_get (D := D) (ci := 1) (v := .ref r) (C := RX1) (T := TX1) (N := 2) hx hb hts (fun _ h => (List.mem_cons_of_mem _ (List.mem_append_left _ (List.mem_append_right _ h)))) hown hK hP 0 rfl rfl 0 (by decide) (hts _ (List.mem_of_getElem? (i := 3) rfl)) (fun _ h9 => h9) rfl dX1_digest_25 ?_
  refine pv_i CF (m_X0_usherWay l D cI r a1 a2 S ) (cwV 0 hts gX1_digest_X0_usherWay rfl rfl rfl k_X0_usherWay ⟨Nat.le_of_ble_eq_true rfl, Nat.le_of_ble_eq_true rfl⟩) hK (hP.sub [1, 2, 3] rfl) rfl rfl rfl rfl hl.1 rfl (Nat.le_of_ble_eq_true rfl) dX1_digest_28 ⟨Nat.le_of_ble_eq_true rfl, Nat.le_of_ble_eq_true rfl⟩ ?_
  refine lv_i2l hx hb dX1_digest_31 rfl ?_
  refine lv_ladd hx hb dX1_digest_32 ?_
  refine tp_l (y := dx (dx 2237 (nI n)) (nI w)) rfl ?_
  refine lv_lstore_n (lv' := [(1, .long (dx (dx 2237 (nI n)) (nI w))), (0, .ref o)]) hx hb dX1_digest_33 rfl hl (by decide) rfl (fun ls hl => ?_)
  refine lv_lload_n hx hb dX1_digest_34 rfl (lv_at hl 0 rfl) ?_
  refine lv_ldc2 (v := 31) hx hb hown (hts _ (List.mem_of_getElem? (i := 2) rfl)) dX1_digest_35 ?_
  refine lv_lmul hx hb dX1_digest_38 ?_
  refine lv_aload_n hx hb dX1_digest_39 rfl (lv_at hl 1 rfl) ?_
  refine va_get (D := D) (ci := 1) (v := .ref r) (C := RX1) (T := TX1) (N := 2) hx hb hts (fun _ h => (List.mem_cons_of_mem _ (List.mem_append_left _ (List.mem_append_right _ h)))) hown hK hP 0 rfl rfl 0 (by decide) (hts _ (List.mem_of_getElem? (i := 3) rfl)) (fun _ h9 => h9) rfl dX1_digest_40 ?_
  refine lv_iconst (v := nI 1) hx hb dX1_digest_43 (by decide) ?_
  refine pv_i CF (m_X0_countInState l D cI r a1 a2 S (nI 1)) (cwV 1 hts gX1_digest_X0_countInState rfl rfl rfl k_X0_countInState ⟨Nat.le_of_ble_eq_true rfl, Nat.le_of_ble_eq_true rfl⟩) hK (hP.sub [1, 2, 3] rfl) rfl rfl rfl rfl hl.1 rfl (Nat.le_of_ble_eq_true rfl) dX1_digest_44 ⟨Nat.le_of_ble_eq_true rfl, Nat.le_of_ble_eq_true rfl⟩ ?_
  refine lv_i2l hx hb dX1_digest_47 rfl ?_
  refine lv_ladd hx hb dX1_digest_48 ?_
  refine tp_l (y := dx (dx (dx 2237 (nI n)) (nI w)) (nI (ct n f (nI 1)))) rfl ?_
  refine lv_lstore_n (lv' := [(1, .long (dx (dx (dx 2237 (nI n)) (nI w)) (nI (ct n f (nI 1))))), (0, .ref o)]) hx hb dX1_digest_49 rfl hl (by decide) rfl (fun ls hl => ?_)
  refine lv_lload_n hx hb dX1_digest_50 rfl (lv_at hl 0 rfl) ?_
  refine lv_ldc2 (v := 31) hx hb hown (hts _ (List.mem_of_getElem? (i := 2) rfl)) dX1_digest_51 ?_
  refine lv_lmul hx hb dX1_digest_54 ?_
  refine lv_aload_n hx hb dX1_digest_55 rfl (lv_at hl 1 rfl) ?_
  refine va_get (D := D) (ci := 1) (v := .ref r) (C := RX1) (T := TX1) (N := 2) hx hb hts (fun _ h => (List.mem_cons_of_mem _ (List.mem_append_left _ (List.mem_append_right _ h)))) hown hK hP 0 rfl rfl 0 (by decide) (hts _ (List.mem_of_getElem? (i := 3) rfl)) (fun _ h9 => h9) rfl dX1_digest_56 ?_
  refine lv_iconst (v := nI 2) hx hb dX1_digest_59 (by decide) ?_
  refine pv_i CF (m_X0_countInState l D cI r a1 a2 S (nI 2)) (cwV 1 hts gX1_digest_X0_countInState rfl rfl rfl k_X0_countInState ⟨Nat.le_of_ble_eq_true rfl, Nat.le_of_ble_eq_true rfl⟩) hK (hP.sub [1, 2, 3] rfl) rfl rfl rfl rfl hl.1 rfl (Nat.le_of_ble_eq_true rfl) dX1_digest_60 ⟨Nat.le_of_ble_eq_true rfl, Nat.le_of_ble_eq_true rfl⟩ ?_
  refine lv_i2l hx hb dX1_digest_63 rfl ?_
  refine lv_ladd hx hb dX1_digest_64 ?_
  refine tp_l (y := dx (dx (dx (dx 2237 (nI n)) (nI w)) (nI (ct n f (nI 1)))) (nI (ct n f (nI 2)))) rfl ?_
  refine lv_lstore_n (lv' := [(1, .long (dx (dx (dx (dx 2237 (nI n)) (nI w)) (nI (ct n f (nI 1)))) (nI (ct n f (nI 2))))), (0, .ref o)]) hx hb dX1_digest_65 rfl hl (by decide) rfl (fun ls hl => ?_)
  refine lv_lload_n hx hb dX1_digest_66 rfl (lv_at hl 0 rfl) ?_
  refine lv_ldc2 (v := 31) hx hb hown (hts _ (List.mem_of_getElem? (i := 2) rfl)) dX1_digest_67 ?_
  refine lv_lmul hx hb dX1_digest_70 ?_
  refine lv_aload_n hx hb dX1_digest_71 rfl (lv_at hl 1 rfl) ?_
  refine va_get (D := D) (ci := 1) (v := .ref r) (C := RX1) (T := TX1) (N := 2) hx hb hts (fun _ h => (List.mem_cons_of_mem _ (List.mem_append_left _ (List.mem_append_right _ h)))) hown hK hP 0 rfl rfl 0 (by decide) (hts _ (List.mem_of_getElem? (i := 3) rfl)) (fun _ h9 => h9) rfl dX1_digest_72 ?_
  refine pv_i CF (m_X0_weightOfAll l D cI r a1 a2 S ) (cwV 0 hts gX1_digest_X0_weightOfAll rfl rfl rfl k_X0_weightOfAll ⟨Nat.le_of_ble_eq_true rfl, Nat.le_of_ble_eq_true rfl⟩) hK (hP.sub [1, 2, 3] rfl) rfl rfl rfl rfl hl.1 rfl (Nat.le_of_ble_eq_true rfl) dX1_digest_75 ⟨Nat.le_of_ble_eq_true rfl, Nat.le_of_ble_eq_true rfl⟩ ?_
  refine lv_i2l hx hb dX1_digest_78 rfl ?_
  refine lv_ladd hx hb dX1_digest_79 ?_
  refine tp_l (y := dx (dx (dx (dx (dx 2237 (nI n)) (nI w)) (nI (ct n f (nI 1)))) (nI (ct n f (nI 2)))) (wa n g)) rfl ?_
  refine lv_lstore_n (lv' := [(1, .long (dx (dx (dx (dx (dx 2237 (nI n)) (nI w)) (nI (ct n f (nI 1)))) (nI (ct n f (nI 2)))) (wa n g))), (0, .ref o)]) hx hb dX1_digest_80 rfl hl (by decide) rfl (fun ls hl => ?_)
  refine lv_lload_n hx hb dX1_digest_81 rfl (lv_at hl 0 rfl) ?_
  refine lv_ldc2 (v := 31) hx hb hown (hts _ (List.mem_of_getElem? (i := 2) rfl)) dX1_digest_82 ?_
  refine lv_lmul hx hb dX1_digest_85 ?_
  refine lv_aload_n hx hb dX1_digest_86 rfl (lv_at hl 1 rfl) ?_
  refine va_get (D := D) (ci := 1) (v := .ref r) (C := RX1) (T := TX1) (N := 2) hx hb hts (fun _ h => (List.mem_cons_of_mem _ (List.mem_append_left _ (List.mem_append_right _ h)))) hown hK hP 0 rfl rfl 0 (by decide) (hts _ (List.mem_of_getElem? (i := 3) rfl)) (fun _ h9 => h9) rfl dX1_digest_87 ?_
  refine pv_i CF (m_X0_hookOfHeaviest l D cI r a1 a2 S ) (cwV 0 hts gX1_digest_X0_hookOfHeaviest rfl rfl rfl k_X0_hookOfHeaviest ⟨Nat.le_of_ble_eq_true rfl, Nat.le_of_ble_eq_true rfl⟩) hK (hP.sub [1, 2, 3] rfl) rfl rfl rfl rfl hl.1 rfl (Nat.le_of_ble_eq_true rfl) dX1_digest_90 ⟨Nat.le_of_ble_eq_true rfl, Nat.le_of_ble_eq_true rfl⟩ ?_
  refine lv_i2l hx hb dX1_digest_93 rfl ?_
  refine lv_ladd hx hb dX1_digest_94 ?_
  refine tp_l (y := dx (dx (dx (dx (dx (dx 2237 (nI n)) (nI w)) (nI (ct n f (nI 1)))) (nI (ct n f (nI 2)))) (wa n g)) ((hv n g).1)) rfl ?_
  refine lv_lstore_n (lv' := [(1, .long (dx (dx (dx (dx (dx (dx 2237 (nI n)) (nI w)) (nI (ct n f (nI 1)))) (nI (ct n f (nI 2)))) (wa n g)) ((hv n g).1))), (0, .ref o)]) hx hb dX1_digest_95 rfl hl (by decide) rfl (fun ls hl => ?_)
  refine lv_lload_n hx hb dX1_digest_96 rfl (lv_at hl 0 rfl) ?_
  refine lv_ldc2 (v := 31) hx hb hown (hts _ (List.mem_of_getElem? (i := 2) rfl)) dX1_digest_97 ?_
  refine lv_lmul hx hb dX1_digest_100 ?_
  refine lv_aload_n hx hb dX1_digest_101 rfl (lv_at hl 1 rfl) ?_
  refine va_get (D := D) (ci := 1) (v := .ref r) (C := RX1) (T := TX1) (N := 2) hx hb hts (fun _ h => (List.mem_cons_of_mem _ (List.mem_append_left _ (List.mem_append_right _ h)))) hown hK hP 0 rfl rfl 0 (by decide) (hts _ (List.mem_of_getElem? (i := 3) rfl)) (fun _ h9 => h9) rfl dX1_digest_102 ?_
  refine pv_i CF (m_X0_looksForAll l D cI r a1 a2 S ) (cwV 0 hts gX1_digest_X0_looksForAll rfl rfl rfl k_X0_looksForAll ⟨Nat.le_of_ble_eq_true rfl, Nat.le_of_ble_eq_true rfl⟩) hK (hP.sub [1, 2, 3] rfl) rfl rfl rfl rfl hl.1 rfl (Nat.le_of_ble_eq_true rfl) dX1_digest_105 ⟨Nat.le_of_ble_eq_true rfl, Nat.le_of_ble_eq_true rfl⟩ ?_
  refine lv_i2l hx hb dX1_digest_108 rfl ?_
  refine lv_ladd hx hb dX1_digest_109 ?_
  refine tp_l (y := dx (dx (dx (dx (dx (dx (dx 2237 (nI n)) (nI w)) (nI (ct n f (nI 1)))) (nI (ct n f (nI 2)))) (wa n g)) ((hv n g).1)) (nI (sm n w f))) rfl ?_
  refine lv_lstore_n (lv' := [(1, .long (dx (dx (dx (dx (dx (dx (dx 2237 (nI n)) (nI w)) (nI (ct n f (nI 1)))) (nI (ct n f (nI 2)))) (wa n g)) ((hv n g).1)) (nI (sm n w f)))), (0, .ref o)]) hx hb dX1_digest_110 rfl hl (by decide) rfl (fun ls hl => ?_)
  refine lv_lload_n hx hb dX1_digest_111 rfl (lv_at hl 0 rfl) ?_
  refine lv_ldc2 (v := 31) hx hb hown (hts _ (List.mem_of_getElem? (i := 2) rfl)) dX1_digest_112 ?_
  refine lv_lmul hx hb dX1_digest_115 ?_
  refine lv_aload_n hx hb dX1_digest_116 rfl (lv_at hl 1 rfl) ?_
  refine va_get (D := D) (ci := 1) (v := .ref r) (C := RX1) (T := TX1) (N := 2) hx hb hts (fun _ h => (List.mem_cons_of_mem _ (List.mem_append_left _ (List.mem_append_right _ h)))) hown hK hP 0 rfl rfl 0 (by decide) (hts _ (List.mem_of_getElem? (i := 3) rfl)) (fun _ h9 => h9) rfl dX1_digest_117 ?_
  refine pv_i CF (m_X0_coatWithMostLooks l D cI r a1 a2 S ) (cwV 0 hts gX1_digest_X0_coatWithMostLooks rfl rfl rfl k_X0_coatWithMostLooks ⟨Nat.le_of_ble_eq_true rfl, Nat.le_of_ble_eq_true rfl⟩) hK (hP.sub [1, 2, 3] rfl) rfl rfl rfl rfl hl.1 rfl (Nat.le_of_ble_eq_true rfl) dX1_digest_120 ⟨Nat.le_of_ble_eq_true rfl, Nat.le_of_ble_eq_true rfl⟩ ?_
  refine lv_i2l hx hb dX1_digest_123 rfl ?_
  refine lv_ladd hx hb dX1_digest_124 ?_
  refine tp_l (y := dx (dx (dx (dx (dx (dx (dx (dx 2237 (nI n)) (nI w)) (nI (ct n f (nI 1)))) (nI (ct n f (nI 2)))) (wa n g)) ((hv n g).1)) (nI (sm n w f))) ((fa n w f).1)) rfl ?_
  refine lv_lstore_n (lv' := [(1, .long (dx (dx (dx (dx (dx (dx (dx (dx 2237 (nI n)) (nI w)) (nI (ct n f (nI 1)))) (nI (ct n f (nI 2)))) (wa n g)) ((hv n g).1)) (nI (sm n w f))) ((fa n w f).1))), (0, .ref o)]) hx hb dX1_digest_125 rfl hl (by decide) rfl (fun ls hl => ?_)
  refine lv_lload_n hx hb dX1_digest_126 rfl (lv_at hl 0 rfl) ?_
  refine lv_ldc2 (v := 31) hx hb hown (hts _ (List.mem_of_getElem? (i := 2) rfl)) dX1_digest_127 ?_
  refine lv_lmul hx hb dX1_digest_130 ?_
  refine lv_aload_n hx hb dX1_digest_131 rfl (lv_at hl 1 rfl) ?_
  refine va_get (D := D) (ci := 1) (v := .ref r) (C := RX1) (T := TX1) (N := 2) hx hb hts (fun _ h => (List.mem_cons_of_mem _ (List.mem_append_left _ (List.mem_append_right _ h)))) hown hK hP 0 rfl rfl 0 (by decide) (hts _ (List.mem_of_getElem? (i := 3) rfl)) (fun _ h9 => h9) rfl dX1_digest_132 ?_
  refine pv_i CF (m_X0_rowCount l D cI r a1 a2 S ) (cwV 0 hts gX1_digest_X0_rowCount rfl rfl rfl k_X0_rowCount ⟨Nat.le_of_ble_eq_true rfl, Nat.le_of_ble_eq_true rfl⟩) hK (hP.sub [1, 2, 3] rfl) rfl rfl rfl rfl hl.1 rfl (Nat.le_of_ble_eq_true rfl) dX1_digest_135 ⟨Nat.le_of_ble_eq_true rfl, Nat.le_of_ble_eq_true rfl⟩ ?_
  refine lv_i2l hx hb dX1_digest_138 rfl ?_
  refine lv_ladd hx hb dX1_digest_139 ?_
  refine tp_l (y := dx (dx (dx (dx (dx (dx (dx (dx (dx 2237 (nI n)) (nI w)) (nI (ct n f (nI 1)))) (nI (ct n f (nI 2)))) (wa n g)) ((hv n g).1)) (nI (sm n w f))) ((fa n w f).1)) (nI (rc n f))) rfl ?_
  refine lv_lstore_n (lv' := [(1, .long (dx (dx (dx (dx (dx (dx (dx (dx (dx 2237 (nI n)) (nI w)) (nI (ct n f (nI 1)))) (nI (ct n f (nI 2)))) (wa n g)) ((hv n g).1)) (nI (sm n w f))) ((fa n w f).1)) (nI (rc n f)))), (0, .ref o)]) hx hb dX1_digest_140 rfl hl (by decide) rfl (fun ls hl => ?_)
  refine lv_lload_n hx hb dX1_digest_141 rfl (lv_at hl 0 rfl) ?_
  refine lv_ldc2 (v := 31) hx hb hown (hts _ (List.mem_of_getElem? (i := 2) rfl)) dX1_digest_142 ?_
  refine lv_lmul hx hb dX1_digest_145 ?_
  refine lv_aload_n hx hb dX1_digest_146 rfl (lv_at hl 1 rfl) ?_
  refine va_get (D := D) (ci := 1) (v := .ref r) (C := RX1) (T := TX1) (N := 2) hx hb hts (fun _ h => (List.mem_cons_of_mem _ (List.mem_append_left _ (List.mem_append_right _ h)))) hown hK hP 0 rfl rfl 0 (by decide) (hts _ (List.mem_of_getElem? (i := 3) rfl)) (fun _ h9 => h9) rfl dX1_digest_147 ?_
  refine pv_i CF (m_X0_longestRowLength l D cI r a1 a2 S ) (cwV 0 hts gX1_digest_X0_longestRowLength rfl rfl rfl k_X0_longestRowLength ⟨Nat.le_of_ble_eq_true rfl, Nat.le_of_ble_eq_true rfl⟩) hK (hP.sub [1, 2, 3] rfl) rfl rfl rfl rfl hl.1 rfl (Nat.le_of_ble_eq_true rfl) dX1_digest_150 ⟨Nat.le_of_ble_eq_true rfl, Nat.le_of_ble_eq_true rfl⟩ ?_
  refine lv_i2l hx hb dX1_digest_153 rfl ?_
  refine lv_ladd hx hb dX1_digest_154 ?_
  refine tp_l (y := dx (dx (dx (dx (dx (dx (dx (dx (dx (dx 2237 (nI n)) (nI w)) (nI (ct n f (nI 1)))) (nI (ct n f (nI 2)))) (wa n g)) ((hv n g).1)) (nI (sm n w f))) ((fa n w f).1)) (nI (rc n f))) (nI (lr n f))) rfl ?_
  refine lv_lstore_n (lv' := [(1, .long (dx (dx (dx (dx (dx (dx (dx (dx (dx (dx 2237 (nI n)) (nI w)) (nI (ct n f (nI 1)))) (nI (ct n f (nI 2)))) (wa n g)) ((hv n g).1)) (nI (sm n w f))) ((fa n w f).1)) (nI (rc n f))) (nI (lr n f)))), (0, .ref o)]) hx hb dX1_digest_155 rfl hl (by decide) rfl (fun ls hl => ?_)
  refine lv_lload_n hx hb dX1_digest_156 rfl (lv_at hl 0 rfl) ?_
  refine lv_ldc2 (v := 31) hx hb hown (hts _ (List.mem_of_getElem? (i := 2) rfl)) dX1_digest_157 ?_
  refine lv_lmul hx hb dX1_digest_160 ?_
  refine lv_aload_n hx hb dX1_digest_161 rfl (lv_at hl 1 rfl) ?_
  have hPc : va_P D vwCl [(o, .inr (1, [.ref r, .ref t])), (r, .inr (0, [.ref a1, .ref a2, .int (nI n), .int (nI w)])), (a1, .inl (cI, 40, .inl F)), (a2, .inl (cI, 40, .inl G)), (t, .inr (0, [.ref b1, .ref b2, .int (nI n2), .int (nI w2)])), (b1, .inl (cI, 40, .inl F2)), (b2, .inl (cI, 40, .inl G2))] H := hP.sub [0, 1, 2, 3, 4, 5, 6] rfl
  have hDc : va_D A [(o, .inr (1, [.ref r, .ref t])), (r, .inr (0, [.ref a1, .ref a2, .int (nI n), .int (nI w)])), (a1, .inl (cI, 40, .inl F)), (a2, .inl (cI, 40, .inl G)), (t, .inr (0, [.ref b1, .ref b2, .int (nI n2), .int (nI w2)])), (b1, .inl (cI, 40, .inl F2)), (b2, .inl (cI, 40, .inl G2))] := hD.sub [0, 1, 2, 3, 4, 5, 6] (by decide) rfl
  have hFc := va_free (wc := [(o, .inr (1, [.ref r, .ref t])), (r, .inr (0, [.ref a1, .ref a2, .int (nI n), .int (nI w)])), (a1, .inl (cI, 40, .inl F)), (a2, .inl (cI, 40, .inl G)), (t, .inr (0, [.ref b1, .ref b2, .int (nI n2), .int (nI w2)])), (b1, .inl (cI, 40, .inl F2)), (b2, .inl (cI, 40, .inl G2))]) hD hS hA [0, 1, 2, 3, 4, 5, 6] rfl
  refine pq_i (va_runV (rest := [.long ((dx (dx (dx (dx (dx (dx (dx (dx (dx (dx 2237 (nI n)) (nI w)) (nI (ct n f (nI 1)))) (nI (ct n f (nI 2)))) (wa n g)) ((hv n g).1)) (nI (sm n w f))) ((fa n w f).1)) (nI (rc n f))) (nI (lr n f))) * 31)]) CF (m_X1_bestWay l D cI o r t a1 a2 b1 b2 S n2 w2 F2 G2 H.size) (cwV 0 hts gX1_digest_X1_bestWay rfl rfl rfl k_X1_bestWay ⟨Nat.le_of_ble_eq_true rfl, Nat.le_of_ble_eq_true rfl⟩) (mv_pre hK hPc hDc rfl rfl rfl) rfl rfl hl.1 rfl (lv_room (Nat.le_of_ble_eq_true rfl)) dX1_digest_162 ⟨Nat.le_of_ble_eq_true rfl, Nat.le_of_ble_eq_true rfl⟩) hS hFc (fun r1 H locs hB hk1 hS => ?_)
  obtain ⟨rfl, n3, w3, F3, G3, hP1⟩ := hB
  obtain ⟨hP, hD⟩ := jn (wb := [(o, .inr (1, [.ref r, .ref t])), (r, .inr (0, [.ref a1, .ref a2, .int (nI n), .int (nI w)])), (a1, .inl (cI, 40, .inl F)), (a2, .inl (cI, 40, .inl G)), (t, .inr (0, [.ref b1, .ref b2, .int (nI n3), .int (nI w3)])), (b1, .inl (cI, 40, .inl F3)), (b2, .inl (cI, 40, .inl G3))]) (w1 := [(o, .inr (1, [.ref r, .ref t])), (r, .inr (0, [.ref a1, .ref a2, .int (nI n), .int (nI w)])), (a1, .inl (cI, 40, .inl F)), (a2, .inl (cI, 40, .inl G)), (t, .inr (0, [.ref b1, .ref b2, .int (nI n3), .int (nI w3)])), (b1, .inl (cI, 40, .inl F3)), (b2, .inl (cI, 40, .inl G3))]) hP hD [0, 1, 2, 3, 4, 5, 6] [] rfl rfl rfl rfl 7 rfl (by decide) (by decide) hk1 hP1
  refine lv_i2l hx hb dX1_digest_165 rfl ?_
  refine lv_ladd hx hb dX1_digest_166 ?_
  refine tp_l (y := dx (dx (dx (dx (dx (dx (dx (dx (dx (dx (dx 2237 (nI n)) (nI w)) (nI (ct n f (nI 1)))) (nI (ct n f (nI 2)))) (wa n g)) ((hv n g).1)) (nI (sm n w f))) ((fa n w f).1)) (nI (rc n f))) (nI (lr n f))) ((bst n f g).1)) rfl ?_
  refine lv_lstore_n (lv' := [(1, .long (dx (dx (dx (dx (dx (dx (dx (dx (dx (dx (dx 2237 (nI n)) (nI w)) (nI (ct n f (nI 1)))) (nI (ct n f (nI 2)))) (wa n g)) ((hv n g).1)) (nI (sm n w f))) ((fa n w f).1)) (nI (rc n f))) (nI (lr n f))) ((bst n f g).1))), (0, .ref o)]) hx hb dX1_digest_167 rfl hl (by decide) rfl (fun ls hl => ?_)
  refine lv_lload_n hx hb dX1_digest_168 rfl (lv_at hl 0 rfl) ?_
  refine lv_ldc2 (v := 31) hx hb hown (hts _ (List.mem_of_getElem? (i := 2) rfl)) dX1_digest_169 ?_
  refine lv_lmul hx hb dX1_digest_172 ?_
  refine lv_aload_n hx hb dX1_digest_173 rfl (lv_at hl 1 rfl) ?_
  refine lv_bipush (v := nI 20) hx hb dX1_digest_174 (by decide) ?_
  have hPc : va_P D vwCl [(o, .inr (1, [.ref r, .ref t])), (r, .inr (0, [.ref a1, .ref a2, .int (nI n), .int (nI w)])), (a1, .inl (cI, 40, .inl F)), (a2, .inl (cI, 40, .inl G)), (t, .inr (0, [.ref b1, .ref b2, .int (nI n3), .int (nI w3)])), (b1, .inl (cI, 40, .inl F3)), (b2, .inl (cI, 40, .inl G3))] H := hP.sub [0, 1, 2, 3, 4, 5, 6] rfl
  have hDc : va_D A [(o, .inr (1, [.ref r, .ref t])), (r, .inr (0, [.ref a1, .ref a2, .int (nI n), .int (nI w)])), (a1, .inl (cI, 40, .inl F)), (a2, .inl (cI, 40, .inl G)), (t, .inr (0, [.ref b1, .ref b2, .int (nI n3), .int (nI w3)])), (b1, .inl (cI, 40, .inl F3)), (b2, .inl (cI, 40, .inl G3))] := hD.sub [0, 1, 2, 3, 4, 5, 6] (by decide) rfl
  have hFc := va_free (wc := [(o, .inr (1, [.ref r, .ref t])), (r, .inr (0, [.ref a1, .ref a2, .int (nI n), .int (nI w)])), (a1, .inl (cI, 40, .inl F)), (a2, .inl (cI, 40, .inl G)), (t, .inr (0, [.ref b1, .ref b2, .int (nI n3), .int (nI w3)])), (b1, .inl (cI, 40, .inl F3)), (b2, .inl (cI, 40, .inl G3))]) hD hS hA [0, 1, 2, 3, 4, 5, 6] rfl
  refine pq_i (va_runV (rest := [.long ((dx (dx (dx (dx (dx (dx (dx (dx (dx (dx (dx 2237 (nI n)) (nI w)) (nI (ct n f (nI 1)))) (nI (ct n f (nI 2)))) (wa n g)) ((hv n g).1)) (nI (sm n w f))) ((fa n w f).1)) (nI (rc n f))) (nI (lr n f))) ((bst n f g).1)) * 31)]) CF (m_X1_fewestHooks l D cI o r t a1 a2 b1 b2 S n3 w3 F3 G3 20 (by decide) H.size) (cwV 1 hts gX1_digest_X1_fewestHooks rfl rfl rfl k_X1_fewestHooks ⟨Nat.le_of_ble_eq_true rfl, Nat.le_of_ble_eq_true rfl⟩) (mv_pre hK hPc hDc rfl rfl rfl) rfl rfl hl.1 rfl (lv_room (Nat.le_of_ble_eq_true rfl)) dX1_digest_176 ⟨Nat.le_of_ble_eq_true rfl, Nat.le_of_ble_eq_true rfl⟩) hS hFc (fun r1 H locs hB hk1 hS => ?_)
  obtain ⟨rfl, n4, w4, F4, G4, hP1⟩ := hB
  obtain ⟨hP, hD⟩ := jn (wb := [(o, .inr (1, [.ref r, .ref t])), (r, .inr (0, [.ref a1, .ref a2, .int (nI n), .int (nI w)])), (a1, .inl (cI, 40, .inl F)), (a2, .inl (cI, 40, .inl G)), (t, .inr (0, [.ref b1, .ref b2, .int (nI n4), .int (nI w4)])), (b1, .inl (cI, 40, .inl F4)), (b2, .inl (cI, 40, .inl G4))]) (w1 := [(o, .inr (1, [.ref r, .ref t])), (r, .inr (0, [.ref a1, .ref a2, .int (nI n), .int (nI w)])), (a1, .inl (cI, 40, .inl F)), (a2, .inl (cI, 40, .inl G)), (t, .inr (0, [.ref b1, .ref b2, .int (nI n4), .int (nI w4)])), (b1, .inl (cI, 40, .inl F4)), (b2, .inl (cI, 40, .inl G4))]) hP hD [0, 1, 2, 3, 4, 5, 6] [] rfl rfl rfl rfl 7 rfl (by decide) (by decide) hk1 hP1
  refine lv_i2l hx hb dX1_digest_179 rfl ?_
  refine lv_ladd hx hb dX1_digest_180 ?_
  refine tp_l (y := dx (dx (dx (dx (dx (dx (dx (dx (dx (dx (dx (dx 2237 (nI n)) (nI w)) (nI (ct n f (nI 1)))) (nI (ct n f (nI 2)))) (wa n g)) ((hv n g).1)) (nI (sm n w f))) ((fa n w f).1)) (nI (rc n f))) (nI (lr n f))) ((bst n f g).1)) (fh n w f g 20)) rfl ?_
  refine lv_lstore_n (lv' := [(1, .long (dx (dx (dx (dx (dx (dx (dx (dx (dx (dx (dx (dx 2237 (nI n)) (nI w)) (nI (ct n f (nI 1)))) (nI (ct n f (nI 2)))) (wa n g)) ((hv n g).1)) (nI (sm n w f))) ((fa n w f).1)) (nI (rc n f))) (nI (lr n f))) ((bst n f g).1)) (fh n w f g 20))), (0, .ref o)]) hx hb dX1_digest_181 rfl hl (by decide) rfl (fun ls hl => ?_)
  refine lv_iconst (v := nI 0) hx hb dX1_digest_182 (by decide) ?_
  refine lv_istore_n (lv' := [(3, .int (nI 0)), (1, .long (dx (dx (dx (dx (dx (dx (dx (dx (dx (dx (dx (dx 2237 (nI n)) (nI w)) (nI (ct n f (nI 1)))) (nI (ct n f (nI 2)))) (wa n g)) ((hv n g).1)) (nI (sm n w f))) ((fa n w f).1)) (nI (rc n f))) (nI (lr n f))) ((bst n f g).1)) (fh n w f g 20))), (0, .ref o)]) hx hb dX1_digest_183 rfl hl (by decide) rfl (fun ls hl => ?_)
  have LP184 : ∀ (q i : Nat) (d : Int64), i + q = n → fo (fun d k => dx (dx (dx (dx (dx d (st (f k))) (cn (f k))) (g k)) (nI (rl n f k))) (nI (lk n w f (k * 7)))) q i d = DG n w f g → ∀ (ls : Array Slot), lv_has ls 4 [(3, .int (nI i)), (1, .long d), (0, .ref o)] → W p l e ({ frames := 6, cells := 0, slots := 0, locals := 141 } : Room) s m args below meth c H locs 0 0 (MQ below (qm_l (fun rr H1 => rr = DG n w f g ∧ ∃ (n3 w3 : Nat) (F3 G3 : Nat → Int32), va_P D vwCl (clw cI o r t a1 a2 b1 b2 n w F G n3 w3 F3 G3) H1) A) args s 0 0 A) (F0 m 184 ls []) := by
    intro q
    induction q with
    | zero =>
      intro i d h1 h2 ls hl
      refine lv_iload_n hx hb dX1_digest_184 rfl (lv_at hl 0 rfl) ?_
      refine lv_aload_n hx hb dX1_digest_185 rfl (lv_at hl 2 rfl) ?_
      refine va_get (D := D) (ci := 1) (v := .ref r) (C := RX1) (T := TX1) (N := 2) hx hb hts (fun _ h => (List.mem_cons_of_mem _ (List.mem_append_left _ (List.mem_append_right _ h)))) hown hK hP 0 rfl rfl 0 (by decide) (hts _ (List.mem_of_getElem? (i := 3) rfl)) (fun _ h9 => h9) rfl dX1_digest_186 ?_
      refine pv_i CF (m_X0_hookCount l D cI r a1 a2 S ) (cwV 0 hts gX1_digest_X0_hookCount rfl rfl rfl k_X0_hookCount ⟨Nat.le_of_ble_eq_true rfl, Nat.le_of_ble_eq_true rfl⟩) hK (hP.sub [1, 2, 3] rfl) rfl rfl rfl rfl hl.1 rfl (Nat.le_of_ble_eq_true rfl) dX1_digest_189 ⟨Nat.le_of_ble_eq_true rfl, Nat.le_of_ble_eq_true rfl⟩ ?_
      refine bn_ge (tgt := 284) hx hb dX1_digest_192 (by decide) (by omega) (by omega) (fun c192 => ?_) (fun c192 => ?_)
      · skip
        refine lv_lload_n hx hb dX1_digest_284 rfl (lv_at hl 1 rfl) ?_
        exact em_l hx hb hr hlocks hS (⟨h2, n4, w4, F4, G4, hP⟩) dX1_digest_285
      · skip
        omega
    | succ q ih =>
      intro i d h1 h2 ls hl
      refine lv_iload_n hx hb dX1_digest_184 rfl (lv_at hl 0 rfl) ?_
      refine lv_aload_n hx hb dX1_digest_185 rfl (lv_at hl 2 rfl) ?_
      refine va_get (D := D) (ci := 1) (v := .ref r) (C := RX1) (T := TX1) (N := 2) hx hb hts (fun _ h => (List.mem_cons_of_mem _ (List.mem_append_left _ (List.mem_append_right _ h)))) hown hK hP 0 rfl rfl 0 (by decide) (hts _ (List.mem_of_getElem? (i := 3) rfl)) (fun _ h9 => h9) rfl dX1_digest_186 ?_
      refine pv_i CF (m_X0_hookCount l D cI r a1 a2 S ) (cwV 0 hts gX1_digest_X0_hookCount rfl rfl rfl k_X0_hookCount ⟨Nat.le_of_ble_eq_true rfl, Nat.le_of_ble_eq_true rfl⟩) hK (hP.sub [1, 2, 3] rfl) rfl rfl rfl rfl hl.1 rfl (Nat.le_of_ble_eq_true rfl) dX1_digest_189 ⟨Nat.le_of_ble_eq_true rfl, Nat.le_of_ble_eq_true rfl⟩ ?_
      refine bn_ge (tgt := 284) hx hb dX1_digest_192 (by decide) (by omega) (by omega) (fun c192 => ?_) (fun c192 => ?_)
      · skip
        omega
      · skip
        refine lv_lload_n hx hb dX1_digest_195 rfl (lv_at hl 1 rfl) ?_
        refine lv_ldc2 (v := 31) hx hb hown (hts _ (List.mem_of_getElem? (i := 2) rfl)) dX1_digest_196 ?_
        refine lv_lmul hx hb dX1_digest_199 ?_
        refine lv_aload_n hx hb dX1_digest_200 rfl (lv_at hl 2 rfl) ?_
        refine va_get (D := D) (ci := 1) (v := .ref r) (C := RX1) (T := TX1) (N := 2) hx hb hts (fun _ h => (List.mem_cons_of_mem _ (List.mem_append_left _ (List.mem_append_right _ h)))) hown hK hP 0 rfl rfl 0 (by decide) (hts _ (List.mem_of_getElem? (i := 3) rfl)) (fun _ h9 => h9) rfl dX1_digest_201 ?_
        refine lv_iload_n hx hb dX1_digest_204 rfl (lv_at hl 0 rfl) ?_
        refine pv_i CF (m_X0_stateOn l D cI r a1 a2 S i (by omega)) (cwV 1 hts gX1_digest_X0_stateOn rfl rfl rfl k_X0_stateOn ⟨Nat.le_of_ble_eq_true rfl, Nat.le_of_ble_eq_true rfl⟩) hK (hP.sub [1, 2, 3] rfl) rfl rfl rfl rfl hl.1 rfl (Nat.le_of_ble_eq_true rfl) dX1_digest_205 ⟨Nat.le_of_ble_eq_true rfl, Nat.le_of_ble_eq_true rfl⟩ ?_
        refine tp_i (y := (st (f i))) (congrArg st (hd_in (by omega))) ?_
        refine lv_i2l hx hb dX1_digest_208 rfl ?_
        refine lv_ladd hx hb dX1_digest_209 ?_
        refine tp_l (y := dx d (st (f i))) rfl ?_
        refine lv_lstore_n (lv' := [(1, .long (dx d (st (f i)))), (3, .int (nI i)), (0, .ref o)]) hx hb dX1_digest_210 rfl hl (by decide) rfl (fun ls hl => ?_)
        refine lv_lload_n hx hb dX1_digest_211 rfl (lv_at hl 0 rfl) ?_
        refine lv_ldc2 (v := 31) hx hb hown (hts _ (List.mem_of_getElem? (i := 2) rfl)) dX1_digest_212 ?_
        refine lv_lmul hx hb dX1_digest_215 ?_
        refine lv_aload_n hx hb dX1_digest_216 rfl (lv_at hl 2 rfl) ?_
        refine va_get (D := D) (ci := 1) (v := .ref r) (C := RX1) (T := TX1) (N := 2) hx hb hts (fun _ h => (List.mem_cons_of_mem _ (List.mem_append_left _ (List.mem_append_right _ h)))) hown hK hP 0 rfl rfl 0 (by decide) (hts _ (List.mem_of_getElem? (i := 3) rfl)) (fun _ h9 => h9) rfl dX1_digest_217 ?_
        refine lv_iload_n hx hb dX1_digest_220 rfl (lv_at hl 1 rfl) ?_
        refine pv_i CF (m_X0_coatOn l D cI r a1 a2 S i (by omega)) (cwV 1 hts gX1_digest_X0_coatOn rfl rfl rfl k_X0_coatOn ⟨Nat.le_of_ble_eq_true rfl, Nat.le_of_ble_eq_true rfl⟩) hK (hP.sub [1, 2, 3] rfl) rfl rfl rfl rfl hl.1 rfl (Nat.le_of_ble_eq_true rfl) dX1_digest_221 ⟨Nat.le_of_ble_eq_true rfl, Nat.le_of_ble_eq_true rfl⟩ ?_
        refine tp_i (y := (cn (f i))) (cn_hd (by omega)) ?_
        refine lv_i2l hx hb dX1_digest_224 rfl ?_
        refine lv_ladd hx hb dX1_digest_225 ?_
        refine tp_l (y := dx (dx d (st (f i))) (cn (f i))) rfl ?_
        refine lv_lstore_n (lv' := [(1, .long (dx (dx d (st (f i))) (cn (f i)))), (3, .int (nI i)), (0, .ref o)]) hx hb dX1_digest_226 rfl hl (by decide) rfl (fun ls hl => ?_)
        refine lv_lload_n hx hb dX1_digest_227 rfl (lv_at hl 0 rfl) ?_
        refine lv_ldc2 (v := 31) hx hb hown (hts _ (List.mem_of_getElem? (i := 2) rfl)) dX1_digest_228 ?_
        refine lv_lmul hx hb dX1_digest_231 ?_
        refine lv_aload_n hx hb dX1_digest_232 rfl (lv_at hl 2 rfl) ?_
        refine va_get (D := D) (ci := 1) (v := .ref r) (C := RX1) (T := TX1) (N := 2) hx hb hts (fun _ h => (List.mem_cons_of_mem _ (List.mem_append_left _ (List.mem_append_right _ h)))) hown hK hP 0 rfl rfl 0 (by decide) (hts _ (List.mem_of_getElem? (i := 3) rfl)) (fun _ h9 => h9) rfl dX1_digest_233 ?_
        refine lv_iload_n hx hb dX1_digest_236 rfl (lv_at hl 1 rfl) ?_
        refine pv_i CF (m_X0_weightOn l D cI r a1 a2 S i (by omega)) (cwV 1 hts gX1_digest_X0_weightOn rfl rfl rfl k_X0_weightOn ⟨Nat.le_of_ble_eq_true rfl, Nat.le_of_ble_eq_true rfl⟩) hK (hP.sub [1, 2, 3] rfl) rfl rfl rfl rfl hl.1 rfl (Nat.le_of_ble_eq_true rfl) dX1_digest_237 ⟨Nat.le_of_ble_eq_true rfl, Nat.le_of_ble_eq_true rfl⟩ ?_
        refine tp_i (y := (g i)) (if_pos (by omega)) ?_
        refine lv_i2l hx hb dX1_digest_240 rfl ?_
        refine lv_ladd hx hb dX1_digest_241 ?_
        refine tp_l (y := dx (dx (dx d (st (f i))) (cn (f i))) (g i)) rfl ?_
        refine lv_lstore_n (lv' := [(1, .long (dx (dx (dx d (st (f i))) (cn (f i))) (g i))), (3, .int (nI i)), (0, .ref o)]) hx hb dX1_digest_242 rfl hl (by decide) rfl (fun ls hl => ?_)
        refine lv_lload_n hx hb dX1_digest_243 rfl (lv_at hl 0 rfl) ?_
        refine lv_ldc2 (v := 31) hx hb hown (hts _ (List.mem_of_getElem? (i := 2) rfl)) dX1_digest_244 ?_
        refine lv_lmul hx hb dX1_digest_247 ?_
        refine lv_aload_n hx hb dX1_digest_248 rfl (lv_at hl 2 rfl) ?_
        refine va_get (D := D) (ci := 1) (v := .ref r) (C := RX1) (T := TX1) (N := 2) hx hb hts (fun _ h => (List.mem_cons_of_mem _ (List.mem_append_left _ (List.mem_append_right _ h)))) hown hK hP 0 rfl rfl 0 (by decide) (hts _ (List.mem_of_getElem? (i := 3) rfl)) (fun _ h9 => h9) rfl dX1_digest_249 ?_
        refine lv_iload_n hx hb dX1_digest_252 rfl (lv_at hl 1 rfl) ?_
        refine pv_i CF (m_X0_rowLength l D cI r a1 a2 S i (by omega)) (cwV 1 hts gX1_digest_X0_rowLength rfl rfl rfl k_X0_rowLength ⟨Nat.le_of_ble_eq_true rfl, Nat.le_of_ble_eq_true rfl⟩) hK (hP.sub [1, 2, 3] rfl) rfl rfl rfl rfl hl.1 rfl (Nat.le_of_ble_eq_true rfl) dX1_digest_253 ⟨Nat.le_of_ble_eq_true rfl, Nat.le_of_ble_eq_true rfl⟩ ?_
        refine lv_i2l hx hb dX1_digest_256 rfl ?_
        refine lv_ladd hx hb dX1_digest_257 ?_
        refine tp_l (y := dx (dx (dx (dx d (st (f i))) (cn (f i))) (g i)) (nI (rl n f i))) rfl ?_
        refine lv_lstore_n (lv' := [(1, .long (dx (dx (dx (dx d (st (f i))) (cn (f i))) (g i)) (nI (rl n f i)))), (3, .int (nI i)), (0, .ref o)]) hx hb dX1_digest_258 rfl hl (by decide) rfl (fun ls hl => ?_)
        refine lv_lload_n hx hb dX1_digest_259 rfl (lv_at hl 0 rfl) ?_
        refine lv_ldc2 (v := 31) hx hb hown (hts _ (List.mem_of_getElem? (i := 2) rfl)) dX1_digest_260 ?_
        refine lv_lmul hx hb dX1_digest_263 ?_
        refine lv_aload_n hx hb dX1_digest_264 rfl (lv_at hl 2 rfl) ?_
        refine va_get (D := D) (ci := 1) (v := .ref r) (C := RX1) (T := TX1) (N := 2) hx hb hts (fun _ h => (List.mem_cons_of_mem _ (List.mem_append_left _ (List.mem_append_right _ h)))) hown hK hP 0 rfl rfl 0 (by decide) (hts _ (List.mem_of_getElem? (i := 3) rfl)) (fun _ h9 => h9) rfl dX1_digest_265 ?_
        refine lv_iload_n hx hb dX1_digest_268 rfl (lv_at hl 1 rfl) ?_
        refine lv_bipush (v := nI 7) hx hb dX1_digest_269 (by decide) ?_
        refine an_mul hx hb dX1_digest_271 ?_
        refine pv_i CF (m_X0_countLooks l D cI r a1 a2 S (i * 7) (by omega)) (cwV 1 hts gX1_digest_X0_countLooks rfl rfl rfl k_X0_countLooks ⟨Nat.le_of_ble_eq_true rfl, Nat.le_of_ble_eq_true rfl⟩) hK (hP.sub [1, 2, 3] rfl) rfl rfl rfl rfl hl.1 rfl (Nat.le_of_ble_eq_true rfl) dX1_digest_272 ⟨Nat.le_of_ble_eq_true rfl, Nat.le_of_ble_eq_true rfl⟩ ?_
        refine lv_i2l hx hb dX1_digest_275 rfl ?_
        refine lv_ladd hx hb dX1_digest_276 ?_
        refine tp_l (y := dx (dx (dx (dx (dx d (st (f i))) (cn (f i))) (g i)) (nI (rl n f i))) (nI (lk n w f (i * 7)))) rfl ?_
        refine lv_lstore_n (lv' := [(1, .long (dx (dx (dx (dx (dx d (st (f i))) (cn (f i))) (g i)) (nI (rl n f i))) (nI (lk n w f (i * 7))))), (3, .int (nI i)), (0, .ref o)]) hx hb dX1_digest_277 rfl hl (by decide) rfl (fun ls hl => ?_)
        refine lv_iinc (v := (nI (i + 1))) (lv' := [(3, .int (nI (i + 1))), (1, .long (dx (dx (dx (dx (dx d (st (f i))) (cn (f i))) (g i)) (nI (rl n f i))) (nI (lk n w f (i * 7))))), (0, .ref o)]) hx hb dX1_digest_278 hl (k := 1) rfl (inc1 _) (by decide) rfl (fun ls hl => ?_)
        refine lv_goto (tgt := 184) hx hb dX1_digest_281 (by decide) ?_
        exact ih (i + 1) (dx (dx (dx (dx (dx d (st (f i))) (cn (f i))) (g i)) (nI (rl n f i))) (nI (lk n w f (i * 7)))) (by omega) h2 _ (lv_sub hl [0, 1, 2] rfl)
  exact LP184 n 0 (dx (dx (dx (dx (dx (dx (dx (dx (dx (dx (dx (dx 2237 (nI n)) (nI w)) (nI (ct n f (nI 1)))) (nI (ct n f (nI 2)))) (wa n g)) ((hv n g).1)) (nI (sm n w f))) ((fa n w f).1)) (nI (rc n f))) (nI (lr n f))) ((bst n f g).1)) (fh n w f g 20)) (Nat.zero_add n) rfl _ (lv_sub hl [0, 1, 2] rfl)
theorem k_X1_init : yX1_init.cls ≠ "java/lang/invoke/MethodHandle" ∧ yX1_init.cls ≠ "java/lang/invoke/VarHandle" ∧ (parseMethodDescriptor yX1_init.desc).map (fun d => d.parameters.length) = some 0 := by decide +kernel
set_option maxHeartbeats 4000000 in
set_option maxRecDepth 100000 in
theorem m_X1_init (l : Launch) (D : va_G) (cI : ClassId) (o : Nat) (sz : Nat) : Met l yX1_init wsX1_init ({ frames := 3, cells := 6, slots := 168, locals := 66 } : Room) (PM D [(cI, .int)] [.ref o] sz [(o, .inr (1, [.null, .null]))]) (qm_v ((fun (A : Nat → Prop) H1 => ∃ (r t a1 a2 b1 b2 : Nat) (F G F2 G2 : Nat → Int32), (∀ k, k < 40 → F k = -1) ∧ (∀ k, k < 40 → G k = nI 0) ∧ va_P D vwCl (clw cI o r t a1 a2 b1 b2 8 0 F G 8 0 F2 G2) H1 ∧ va_D A (clw cI o r t a1 a2 b1 b2 8 0 F G 8 0 F2 G2)) (va_A [(o, .inr (1, [.null, .null]))] sz)) (va_A [(o, .inr (1, [.null, .null]))] sz)) 6 168 (va_A [(o, .inr (1, [.null, .null]))] sz) := by
  refine bd_m (Qc := (fun A => qm_v ((fun (A : Nat → Prop) H1 => ∃ (r t a1 a2 b1 b2 : Nat) (F G F2 G2 : Nat → Int32), (∀ k, k < 40 → F k = -1) ∧ (∀ k, k < 40 → G k = nI 0) ∧ va_P D vwCl (clw cI o r t a1 a2 b1 b2 8 0 F G 8 0 F2 G2) H1 ∧ va_D A (clw cI o r t a1 a2 b1 b2 8 0 F G 8 0 F2 G2)) A) A)) (cc := cX1_init) (maxL := 1) (ret := none) (by decide) rfl (Nat.le_of_ble_eq_true rfl) ?_
  intro p e s m args below meth c ls A CF hr hlocks hK hP hD hA hS hl hin
  obtain ⟨hx, hb, hml, hown, hts⟩ := id CF
  have hl : lv_has ls 1 [(0, .ref o)] := hl
  have hP : va_P D vwCl [(o, .inr (1, [.null, .null]))] s.heap := hP
  have hD : va_D A [(o, .inr (1, [.null, .null]))] := hD
  generalize hH0 : s.heap = H at hP
  have hS : va_S A s.heap H [] := by rw [← hH0]; exact va_S.rf
  generalize hlc0 : ([] : List Loc) = locs at hS ⊢
  refine lv_aload_n hx hb dX1_init_0 rfl (lv_at hl 0 rfl) ?_
  refine W.objInit hx hb hown (hts _ (List.mem_of_getElem? (i := 1) rfl)) (hts _ (List.mem_of_getElem? (i := 2) rfl)) (hts _ (List.mem_of_getElem? (i := 3) rfl)) rfl (by rw [hml]; exact hl.1) rfl dX1_init_1 (Nat.le_of_ble_eq_true rfl) (Nat.le_of_ble_eq_true rfl) ?_
  refine W.eq (g2 := F0 m 4 ls []) rfl ?_
  refine lv_aload_n hx hb dX1_init_4 rfl (lv_at hl 0 rfl) ?_
  refine va_new (ci := 0) (fs := [.null, .null, .int (nI 0), .int (nI 0)]) (C := RX0) (T := TX0) (N := 4) hx hb hts (fun _ h => (List.mem_cons_of_mem _ (List.mem_append_left _ (List.mem_append_right _ h)))) tyX0 tyX0_ok hown (hts _ (List.mem_of_getElem? (i := 4) rfl)) (hts _ (List.mem_of_getElem? (i := 5) rfl)) (hts _ (List.mem_of_getElem? (i := 6) rfl)) hK hP hD hS hA rfl (fun j hj => by rcases (show j = 0 ∨ j = 1 ∨ j = 2 ∨ j = 3 by omega) with rfl | rfl | rfl | rfl <;> rfl) (Nat.le_of_ble_eq_true rfl) (Nat.le_of_ble_eq_true rfl) dX1_init_5 (fun q5 H hP hD hS => ?_)
  have hP : va_P D vwCl [(o, .inr (1, [.null, .null])), (q5, .inr (0, [.null, .null, .int (nI 0), .int (nI 0)]))] H := hP
  have hD : va_D A [(o, .inr (1, [.null, .null])), (q5, .inr (0, [.null, .null, .int (nI 0), .int (nI 0)]))] := hD
  refine lv_dup hx hb dX1_init_8 rfl ?_
  have hPc : va_P D vwCl [(q5, .inr (0, [.null, .null, .int (nI 0), .int (nI 0)]))] H := hP.sub [1] rfl
  have hDc : va_D A [(q5, .inr (0, [.null, .null, .int (nI 0), .int (nI 0)]))] := hD.sub [1] (by decide) rfl
  have hFc := va_free (wc := [(q5, .inr (0, [.null, .null, .int (nI 0), .int (nI 0)]))]) hD hS hA [1] rfl
  refine pq_v (va_runI (As := []) (rest := [.ref q5, .ref o]) CF (m_X0_init l D cI q5 H.size) (cwI 0 hts gX1_init_X0_init rfl rfl rfl (hts _ (List.mem_of_getElem? (i := 6) rfl)) (hts _ (List.mem_of_getElem? (i := 9) rfl)) (hts _ (List.mem_of_getElem? (i := 10) rfl)) rfl k_X0_init ⟨Nat.le_of_ble_eq_true rfl, Nat.le_of_ble_eq_true rfl⟩) (ms_pre hK hPc hDc) rfl rfl hl.1 rfl (lv_room (Nat.le_of_ble_eq_true rfl)) dX1_init_9 ⟨Nat.le_of_ble_eq_true rfl, Nat.le_of_ble_eq_true rfl⟩) hS hFc (fun H locs hB hk1 hS => ?_)
  obtain ⟨a1, a2, F, G, hF, hG, hP1, hD1⟩ := hB
  obtain ⟨hP, hD⟩ := va_join (wr := [(o, .inr (1, [.null, .null]))]) (w1 := [(q5, .inr (0, [.ref a1, .ref a2, .int (nI 8), .int (nI 0)])), (a1, .inl (cI, 40, .inl F)), (a2, .inl (cI, 40, .inl G))]) hP hD [1] [0] rfl rfl (by decide) (by decide) hk1 hFc hP1 hD1
  have hP : va_P D vwCl [(o, .inr (1, [.null, .null])), (q5, .inr (0, [.ref a1, .ref a2, .int (nI 8), .int (nI 0)])), (a1, .inl (cI, 40, .inl F)), (a2, .inl (cI, 40, .inl G))] H := hP
  have hD : va_D A [(o, .inr (1, [.null, .null])), (q5, .inr (0, [.ref a1, .ref a2, .int (nI 8), .int (nI 0)])), (a1, .inl (cI, 40, .inl F)), (a2, .inl (cI, 40, .inl G))] := hD
  refine va_putF (D := D) (ci := 1) (v := .ref q5) (ty := .object "CoatHooks$Rack") (C := RX1) (T := TX1) (N := 2) hx hb hts (fun _ h => (List.mem_cons_of_mem _ (List.mem_append_right _ h))) tyX1 tyX1_ok nmX1 hown hK hP hD hS 0 rfl rfl 0 (by decide) (hts _ (List.mem_of_getElem? (i := 7) rfl)) (fun _ h9 => h9) rfl (hin rfl) rfl (by decide +kernel) rfl rfl (Nat.le_of_ble_eq_true rfl) dX1_init_12 (fun H locs hP hD hS => ?_)
  have hP : va_P D vwCl [(o, .inr (1, [.ref q5, .null])), (q5, .inr (0, [.ref a1, .ref a2, .int (nI 8), .int (nI 0)])), (a1, .inl (cI, 40, .inl F)), (a2, .inl (cI, 40, .inl G))] H := hP
  have hD : va_D A [(o, .inr (1, [.ref q5, .null])), (q5, .inr (0, [.ref a1, .ref a2, .int (nI 8), .int (nI 0)])), (a1, .inl (cI, 40, .inl F)), (a2, .inl (cI, 40, .inl G))] := hD
  refine lv_aload_n hx hb dX1_init_15 rfl (lv_at hl 0 rfl) ?_
  refine va_new (ci := 0) (fs := [.null, .null, .int (nI 0), .int (nI 0)]) (C := RX0) (T := TX0) (N := 4) hx hb hts (fun _ h => (List.mem_cons_of_mem _ (List.mem_append_left _ (List.mem_append_right _ h)))) tyX0 tyX0_ok hown (hts _ (List.mem_of_getElem? (i := 4) rfl)) (hts _ (List.mem_of_getElem? (i := 5) rfl)) (hts _ (List.mem_of_getElem? (i := 6) rfl)) hK hP hD hS hA rfl (fun j hj => by rcases (show j = 0 ∨ j = 1 ∨ j = 2 ∨ j = 3 by omega) with rfl | rfl | rfl | rfl <;> rfl) (Nat.le_of_ble_eq_true rfl) (Nat.le_of_ble_eq_true rfl) dX1_init_16 (fun q16 H hP hD hS => ?_)
  have hP : va_P D vwCl [(o, .inr (1, [.ref q5, .null])), (q5, .inr (0, [.ref a1, .ref a2, .int (nI 8), .int (nI 0)])), (a1, .inl (cI, 40, .inl F)), (a2, .inl (cI, 40, .inl G)), (q16, .inr (0, [.null, .null, .int (nI 0), .int (nI 0)]))] H := hP
  have hD : va_D A [(o, .inr (1, [.ref q5, .null])), (q5, .inr (0, [.ref a1, .ref a2, .int (nI 8), .int (nI 0)])), (a1, .inl (cI, 40, .inl F)), (a2, .inl (cI, 40, .inl G)), (q16, .inr (0, [.null, .null, .int (nI 0), .int (nI 0)]))] := hD
  refine lv_dup hx hb dX1_init_19 rfl ?_
  have hPc : va_P D vwCl [(q16, .inr (0, [.null, .null, .int (nI 0), .int (nI 0)]))] H := hP.sub [4] rfl
  have hDc : va_D A [(q16, .inr (0, [.null, .null, .int (nI 0), .int (nI 0)]))] := hD.sub [4] (by decide) rfl
  have hFc := va_free (wc := [(q16, .inr (0, [.null, .null, .int (nI 0), .int (nI 0)]))]) hD hS hA [4] rfl
  refine pq_v (va_runI (As := []) (rest := [.ref q16, .ref o]) CF (m_X0_init l D cI q16 H.size) (cwI 0 hts gX1_init_X0_init rfl rfl rfl (hts _ (List.mem_of_getElem? (i := 6) rfl)) (hts _ (List.mem_of_getElem? (i := 9) rfl)) (hts _ (List.mem_of_getElem? (i := 10) rfl)) rfl k_X0_init ⟨Nat.le_of_ble_eq_true rfl, Nat.le_of_ble_eq_true rfl⟩) (ms_pre hK hPc hDc) rfl rfl hl.1 rfl (lv_room (Nat.le_of_ble_eq_true rfl)) dX1_init_20 ⟨Nat.le_of_ble_eq_true rfl, Nat.le_of_ble_eq_true rfl⟩) hS hFc (fun H locs hB hk1 hS => ?_)
  obtain ⟨b1, b2, F2, G2, hF2, hG2, hP1, hD1⟩ := hB
  obtain ⟨hP, hD⟩ := va_join (wr := [(o, .inr (1, [.ref q5, .null])), (q5, .inr (0, [.ref a1, .ref a2, .int (nI 8), .int (nI 0)])), (a1, .inl (cI, 40, .inl F)), (a2, .inl (cI, 40, .inl G))]) (w1 := [(q16, .inr (0, [.ref b1, .ref b2, .int (nI 8), .int (nI 0)])), (b1, .inl (cI, 40, .inl F2)), (b2, .inl (cI, 40, .inl G2))]) hP hD [4] [0, 1, 2, 3] rfl rfl (by decide) (by decide) hk1 hFc hP1 hD1
  have hP : va_P D vwCl [(o, .inr (1, [.ref q5, .null])), (q5, .inr (0, [.ref a1, .ref a2, .int (nI 8), .int (nI 0)])), (a1, .inl (cI, 40, .inl F)), (a2, .inl (cI, 40, .inl G)), (q16, .inr (0, [.ref b1, .ref b2, .int (nI 8), .int (nI 0)])), (b1, .inl (cI, 40, .inl F2)), (b2, .inl (cI, 40, .inl G2))] H := hP
  have hD : va_D A [(o, .inr (1, [.ref q5, .null])), (q5, .inr (0, [.ref a1, .ref a2, .int (nI 8), .int (nI 0)])), (a1, .inl (cI, 40, .inl F)), (a2, .inl (cI, 40, .inl G)), (q16, .inr (0, [.ref b1, .ref b2, .int (nI 8), .int (nI 0)])), (b1, .inl (cI, 40, .inl F2)), (b2, .inl (cI, 40, .inl G2))] := hD
  refine va_putF (D := D) (ci := 1) (v := .ref q16) (ty := .object "CoatHooks$Rack") (C := RX1) (T := TX1) (N := 2) hx hb hts (fun _ h => (List.mem_cons_of_mem _ (List.mem_append_right _ h))) tyX1 tyX1_ok nmX1 hown hK hP hD hS 0 rfl rfl 1 (by decide) (hts _ (List.mem_of_getElem? (i := 8) rfl)) (fun _ h9 => h9) rfl (hin rfl) rfl (by decide +kernel) rfl rfl (Nat.le_of_ble_eq_true rfl) dX1_init_23 (fun H locs hP hD hS => ?_)
  have hP : va_P D vwCl [(o, .inr (1, [.ref q5, .ref q16])), (q5, .inr (0, [.ref a1, .ref a2, .int (nI 8), .int (nI 0)])), (a1, .inl (cI, 40, .inl F)), (a2, .inl (cI, 40, .inl G)), (q16, .inr (0, [.ref b1, .ref b2, .int (nI 8), .int (nI 0)])), (b1, .inl (cI, 40, .inl F2)), (b2, .inl (cI, 40, .inl G2))] H := hP
  have hD : va_D A [(o, .inr (1, [.ref q5, .ref q16])), (q5, .inr (0, [.ref a1, .ref a2, .int (nI 8), .int (nI 0)])), (a1, .inl (cI, 40, .inl F)), (a2, .inl (cI, 40, .inl G)), (q16, .inr (0, [.ref b1, .ref b2, .int (nI 8), .int (nI 0)])), (b1, .inl (cI, 40, .inl F2)), (b2, .inl (cI, 40, .inl G2))] := hD
  exact em_v hx hb hr hlocks hS (⟨q5, q16, a1, a2, b1, b2, F, G, F2, G2, hF, hG, hP, hD⟩) dX1_init_26
