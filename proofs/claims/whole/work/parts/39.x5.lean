/-! the reference: its calls, its checksum, its constructor -/
theorem k_X2_hooks : yX2_hooks.cls = RX2 ∧ yX2_hooks.cls ≠ "java/lang/invoke/MethodHandle" ∧ yX2_hooks.cls ≠ "java/lang/invoke/VarHandle" ∧ (parseMethodDescriptor yX2_hooks.desc).map (fun d => d.parameters.length) = some 0 := by decide +kernel
set_option maxHeartbeats 4000000 in
set_option maxRecDepth 100000 in
theorem m_X2_hooks (l : Launch) (D : va_G) (cI : ClassId) (u c1 c2 c3 c4 : Nat) {n w : Nat} {F V f g : Nat → Int32} (S : MS n w F V f g) (O Y : Nat → Int32) (e0 e7 e8 e9 e10 : Int32) (sz : Nat) : Met l yX2_hooks wsX2_hooks ({ frames := 1, cells := 0, slots := 0, locals := 21 } : Room) (PM D [(cI, .int)] [.ref u] sz (mdw cI u c1 c2 c3 c4 e0 n w F V O Y e7 e8 e9 e10)) (qm_i (fun rr H1 => rr = nI n ∧ va_P D vwCl (mdw cI u c1 c2 c3 c4 (nI 0) n w F V O Y e7 e8 e9 e10) H1) (va_A (mdw cI u c1 c2 c3 c4 e0 n w F V O Y e7 e8 e9 e10) sz)) 0 0 (va_A (mdw cI u c1 c2 c3 c4 e0 n w F V O Y e7 e8 e9 e10) sz) := by
  obtain ⟨hn3, hn, hw2, hF, hV, hO⟩ := id S
  refine bd_m (Qc := (fun A => qm_i (fun rr H1 => rr = nI n ∧ va_P D vwCl (mdw cI u c1 c2 c3 c4 (nI 0) n w F V O Y e7 e8 e9 e10) H1) A)) (cc := cX2_hooks) (maxL := 1) (ret := (some .int)) (by decide) rfl (Nat.le_of_ble_eq_true rfl) ?_
  intro p e s m args below meth c ls A CF hr hlocks hK hP hD hA hS hl hin
  obtain ⟨hx, hb, hml, hown, hts⟩ := id CF
  have hl : lv_has ls 1 [(0, .ref u)] := hl
  have hP : va_P D vwCl [(u, .inr (2, [.int e0, .int (nI n), .int (nI w), .ref c1, .ref c2, .ref c3, .ref c4, .int e7, .int e8, .int e9, .int e10])), (c1, .inl (cI, 40, .inl F)), (c2, .inl (cI, 40, .inl V)), (c3, .inl (cI, 40, .inl O)), (c4, .inl (cI, 40, .inl Y))] s.heap := hP
  have hD : va_D A [(u, .inr (2, [.int e0, .int (nI n), .int (nI w), .ref c1, .ref c2, .ref c3, .ref c4, .int e7, .int e8, .int e9, .int e10])), (c1, .inl (cI, 40, .inl F)), (c2, .inl (cI, 40, .inl V)), (c3, .inl (cI, 40, .inl O)), (c4, .inl (cI, 40, .inl Y))] := hD
  generalize hH0 : s.heap = H at hP
  have hS : va_S A s.heap H [] := by rw [← hH0]; exact va_S.rf
  generalize hlc0 : ([] : List Loc) = locs at hS ⊢
  refine lv_aload_n hx hb dX2_hooks_0 rfl (lv_at hl 0 rfl) ?_
  refine lv_aload_n hx hb dX2_hooks_1 rfl (lv_at hl 0 rfl) ?_
  refine va_get (D := D) (ci := 2) (v := .int (nI n)) (C := RX2) (T := TX2) (N := 11) hx hb hts (fun _ h => (List.mem_cons_of_mem _ (List.mem_append_right _ h))) hown hK hP 0 rfl rfl 1 (by decide) (hts _ (List.mem_of_getElem? (i := 1) rfl)) (fun _ h9 => h9) rfl dX2_hooks_2 ?_
  have hPc : va_P D vwCl [(u, .inr (2, [.int e0, .int (nI n), .int (nI w), .ref c1, .ref c2, .ref c3, .ref c4, .int e7, .int e8, .int e9, .int e10])), (c1, .inl (cI, 40, .inl F)), (c2, .inl (cI, 40, .inl V)), (c3, .inl (cI, 40, .inl O)), (c4, .inl (cI, 40, .inl Y))] H := hP.sub [0, 1, 2, 3, 4] rfl
  have hDc : va_D A [(u, .inr (2, [.int e0, .int (nI n), .int (nI w), .ref c1, .ref c2, .ref c3, .ref c4, .int e7, .int e8, .int e9, .int e10])), (c1, .inl (cI, 40, .inl F)), (c2, .inl (cI, 40, .inl V)), (c3, .inl (cI, 40, .inl O)), (c4, .inl (cI, 40, .inl Y))] := hD.sub [0, 1, 2, 3, 4] (by decide) rfl
  have hFc := va_free (wc := [(u, .inr (2, [.int e0, .int (nI n), .int (nI w), .ref c1, .ref c2, .ref c3, .ref c4, .int e7, .int e8, .int e9, .int e10])), (c1, .inl (cI, 40, .inl F)), (c2, .inl (cI, 40, .inl V)), (c3, .inl (cI, 40, .inl O)), (c4, .inl (cI, 40, .inl Y))]) hD hS hA [0, 1, 2, 3, 4] rfl
  refine pq_i (va_runV (rest := []) CF (m_X2_ok l D cI u c1 c2 c3 c4 S O Y e0 e7 e8 e9 e10 (nI n) H.size) (cwV 1 hts gX2_hooks_X2_ok rfl rfl rfl k_X2_ok ⟨Nat.le_of_ble_eq_true rfl, Nat.le_of_ble_eq_true rfl⟩) (mv_pre hK hPc hDc rfl rfl rfl) rfl rfl hl.1 rfl (lv_room (Nat.le_of_ble_eq_true rfl)) dX2_hooks_5 ⟨Nat.le_of_ble_eq_true rfl, Nat.le_of_ble_eq_true rfl⟩) hS hFc (fun r1 H locs hB hk1 hS => ?_)
  obtain ⟨rfl, hP1⟩ := hB
  obtain ⟨hP, hD⟩ := jn (wb := [(u, .inr (2, [.int (nI 0), .int (nI n), .int (nI w), .ref c1, .ref c2, .ref c3, .ref c4, .int e7, .int e8, .int e9, .int e10])), (c1, .inl (cI, 40, .inl F)), (c2, .inl (cI, 40, .inl V)), (c3, .inl (cI, 40, .inl O)), (c4, .inl (cI, 40, .inl Y))]) (w1 := [(u, .inr (2, [.int (nI 0), .int (nI n), .int (nI w), .ref c1, .ref c2, .ref c3, .ref c4, .int e7, .int e8, .int e9, .int e10])), (c1, .inl (cI, 40, .inl F)), (c2, .inl (cI, 40, .inl V)), (c3, .inl (cI, 40, .inl O)), (c4, .inl (cI, 40, .inl Y))]) hP hD [0, 1, 2, 3, 4] [] rfl rfl rfl rfl 5 rfl (by decide) (by decide) hk1 hP1
  exact em_i hx hb hr hlocks hS (⟨rfl, hP⟩) dX2_hooks_8
theorem k_X2_way : yX2_way.cls = RX2 ∧ yX2_way.cls ≠ "java/lang/invoke/MethodHandle" ∧ yX2_way.cls ≠ "java/lang/invoke/VarHandle" ∧ (parseMethodDescriptor yX2_way.desc).map (fun d => d.parameters.length) = some 0 := by decide +kernel
set_option maxHeartbeats 4000000 in
set_option maxRecDepth 100000 in
theorem m_X2_way (l : Launch) (D : va_G) (cI : ClassId) (u c1 c2 c3 c4 : Nat) {n w : Nat} {F V f g : Nat → Int32} (S : MS n w F V f g) (O Y : Nat → Int32) (e0 e7 e8 e9 e10 : Int32) (sz : Nat) : Met l yX2_way wsX2_way ({ frames := 1, cells := 0, slots := 0, locals := 21 } : Room) (PM D [(cI, .int)] [.ref u] sz (mdw cI u c1 c2 c3 c4 e0 n w F V O Y e7 e8 e9 e10)) (qm_i (fun rr H1 => rr = nI w ∧ va_P D vwCl (mdw cI u c1 c2 c3 c4 (nI 0) n w F V O Y e7 e8 e9 e10) H1) (va_A (mdw cI u c1 c2 c3 c4 e0 n w F V O Y e7 e8 e9 e10) sz)) 0 0 (va_A (mdw cI u c1 c2 c3 c4 e0 n w F V O Y e7 e8 e9 e10) sz) := by
  obtain ⟨hn3, hn, hw2, hF, hV, hO⟩ := id S
  refine bd_m (Qc := (fun A => qm_i (fun rr H1 => rr = nI w ∧ va_P D vwCl (mdw cI u c1 c2 c3 c4 (nI 0) n w F V O Y e7 e8 e9 e10) H1) A)) (cc := cX2_way) (maxL := 1) (ret := (some .int)) (by decide) rfl (Nat.le_of_ble_eq_true rfl) ?_
  intro p e s m args below meth c ls A CF hr hlocks hK hP hD hA hS hl hin
  obtain ⟨hx, hb, hml, hown, hts⟩ := id CF
  have hl : lv_has ls 1 [(0, .ref u)] := hl
  have hP : va_P D vwCl [(u, .inr (2, [.int e0, .int (nI n), .int (nI w), .ref c1, .ref c2, .ref c3, .ref c4, .int e7, .int e8, .int e9, .int e10])), (c1, .inl (cI, 40, .inl F)), (c2, .inl (cI, 40, .inl V)), (c3, .inl (cI, 40, .inl O)), (c4, .inl (cI, 40, .inl Y))] s.heap := hP
  have hD : va_D A [(u, .inr (2, [.int e0, .int (nI n), .int (nI w), .ref c1, .ref c2, .ref c3, .ref c4, .int e7, .int e8, .int e9, .int e10])), (c1, .inl (cI, 40, .inl F)), (c2, .inl (cI, 40, .inl V)), (c3, .inl (cI, 40, .inl O)), (c4, .inl (cI, 40, .inl Y))] := hD
  generalize hH0 : s.heap = H at hP
  have hS : va_S A s.heap H [] := by rw [← hH0]; exact va_S.rf
  generalize hlc0 : ([] : List Loc) = locs at hS ⊢
  refine lv_aload_n hx hb dX2_way_0 rfl (lv_at hl 0 rfl) ?_
  refine lv_aload_n hx hb dX2_way_1 rfl (lv_at hl 0 rfl) ?_
  refine va_get (D := D) (ci := 2) (v := .int (nI w)) (C := RX2) (T := TX2) (N := 11) hx hb hts (fun _ h => (List.mem_cons_of_mem _ (List.mem_append_right _ h))) hown hK hP 0 rfl rfl 2 (by decide) (hts _ (List.mem_of_getElem? (i := 1) rfl)) (fun _ h9 => h9) rfl dX2_way_2 ?_
  have hPc : va_P D vwCl [(u, .inr (2, [.int e0, .int (nI n), .int (nI w), .ref c1, .ref c2, .ref c3, .ref c4, .int e7, .int e8, .int e9, .int e10])), (c1, .inl (cI, 40, .inl F)), (c2, .inl (cI, 40, .inl V)), (c3, .inl (cI, 40, .inl O)), (c4, .inl (cI, 40, .inl Y))] H := hP.sub [0, 1, 2, 3, 4] rfl
  have hDc : va_D A [(u, .inr (2, [.int e0, .int (nI n), .int (nI w), .ref c1, .ref c2, .ref c3, .ref c4, .int e7, .int e8, .int e9, .int e10])), (c1, .inl (cI, 40, .inl F)), (c2, .inl (cI, 40, .inl V)), (c3, .inl (cI, 40, .inl O)), (c4, .inl (cI, 40, .inl Y))] := hD.sub [0, 1, 2, 3, 4] (by decide) rfl
  have hFc := va_free (wc := [(u, .inr (2, [.int e0, .int (nI n), .int (nI w), .ref c1, .ref c2, .ref c3, .ref c4, .int e7, .int e8, .int e9, .int e10])), (c1, .inl (cI, 40, .inl F)), (c2, .inl (cI, 40, .inl V)), (c3, .inl (cI, 40, .inl O)), (c4, .inl (cI, 40, .inl Y))]) hD hS hA [0, 1, 2, 3, 4] rfl
  refine pq_i (va_runV (rest := []) CF (m_X2_ok l D cI u c1 c2 c3 c4 S O Y e0 e7 e8 e9 e10 (nI w) H.size) (cwV 1 hts gX2_way_X2_ok rfl rfl rfl k_X2_ok ⟨Nat.le_of_ble_eq_true rfl, Nat.le_of_ble_eq_true rfl⟩) (mv_pre hK hPc hDc rfl rfl rfl) rfl rfl hl.1 rfl (lv_room (Nat.le_of_ble_eq_true rfl)) dX2_way_5 ⟨Nat.le_of_ble_eq_true rfl, Nat.le_of_ble_eq_true rfl⟩) hS hFc (fun r1 H locs hB hk1 hS => ?_)
  obtain ⟨rfl, hP1⟩ := hB
  obtain ⟨hP, hD⟩ := jn (wb := [(u, .inr (2, [.int (nI 0), .int (nI n), .int (nI w), .ref c1, .ref c2, .ref c3, .ref c4, .int e7, .int e8, .int e9, .int e10])), (c1, .inl (cI, 40, .inl F)), (c2, .inl (cI, 40, .inl V)), (c3, .inl (cI, 40, .inl O)), (c4, .inl (cI, 40, .inl Y))]) (w1 := [(u, .inr (2, [.int (nI 0), .int (nI n), .int (nI w), .ref c1, .ref c2, .ref c3, .ref c4, .int e7, .int e8, .int e9, .int e10])), (c1, .inl (cI, 40, .inl F)), (c2, .inl (cI, 40, .inl V)), (c3, .inl (cI, 40, .inl O)), (c4, .inl (cI, 40, .inl Y))]) hP hD [0, 1, 2, 3, 4] [] rfl rfl rfl rfl 5 rfl (by decide) (by decide) hk1 hP1
  exact em_i hx hb hr hlocks hS (⟨rfl, hP⟩) dX2_way_8
theorem k_X2_coats : yX2_coats.cls = RX2 ∧ yX2_coats.cls ≠ "java/lang/invoke/MethodHandle" ∧ yX2_coats.cls ≠ "java/lang/invoke/VarHandle" ∧ (parseMethodDescriptor yX2_coats.desc).map (fun d => d.parameters.length) = some 0 := by decide +kernel
set_option maxHeartbeats 4000000 in
set_option maxRecDepth 100000 in
theorem m_X2_coats (l : Launch) (D : va_G) (cI : ClassId) (u c1 c2 c3 c4 : Nat) {n w : Nat} {F V f g : Nat → Int32} (S : MS n w F V f g) (O Y : Nat → Int32) (e0 e7 e8 e9 e10 : Int32) (sz : Nat) : Met l yX2_coats wsX2_coats ({ frames := 1, cells := 0, slots := 0, locals := 22 } : Room) (PM D [(cI, .int)] [.ref u] sz (mdw cI u c1 c2 c3 c4 e0 n w F V O Y e7 e8 e9 e10)) (qm_i (fun rr H1 => rr = nI (ct n f (nI 1)) ∧ va_P D vwCl (mdw cI u c1 c2 c3 c4 (nI 0) n w F V O Y e7 e8 e9 e10) H1) (va_A (mdw cI u c1 c2 c3 c4 e0 n w F V O Y e7 e8 e9 e10) sz)) 0 0 (va_A (mdw cI u c1 c2 c3 c4 e0 n w F V O Y e7 e8 e9 e10) sz) := by
  obtain ⟨hn3, hn, hw2, hF, hV, hO⟩ := id S
  refine bd_m (Qc := (fun A => qm_i (fun rr H1 => rr = nI (ct n f (nI 1)) ∧ va_P D vwCl (mdw cI u c1 c2 c3 c4 (nI 0) n w F V O Y e7 e8 e9 e10) H1) A)) (cc := cX2_coats) (maxL := 1) (ret := (some .int)) (by decide) rfl (Nat.le_of_ble_eq_true rfl) ?_
  intro p e s m args below meth c ls A CF hr hlocks hK hP hD hA hS hl hin
  obtain ⟨hx, hb, hml, hown, hts⟩ := id CF
  have hl : lv_has ls 1 [(0, .ref u)] := hl
  have hP : va_P D vwCl [(u, .inr (2, [.int e0, .int (nI n), .int (nI w), .ref c1, .ref c2, .ref c3, .ref c4, .int e7, .int e8, .int e9, .int e10])), (c1, .inl (cI, 40, .inl F)), (c2, .inl (cI, 40, .inl V)), (c3, .inl (cI, 40, .inl O)), (c4, .inl (cI, 40, .inl Y))] s.heap := hP
  have hD : va_D A [(u, .inr (2, [.int e0, .int (nI n), .int (nI w), .ref c1, .ref c2, .ref c3, .ref c4, .int e7, .int e8, .int e9, .int e10])), (c1, .inl (cI, 40, .inl F)), (c2, .inl (cI, 40, .inl V)), (c3, .inl (cI, 40, .inl O)), (c4, .inl (cI, 40, .inl Y))] := hD
  generalize hH0 : s.heap = H at hP
  have hS : va_S A s.heap H [] := by rw [← hH0]; exact va_S.rf
  generalize hlc0 : ([] : List Loc) = locs at hS ⊢
  refine lv_aload_n hx hb dX2_coats_0 rfl (lv_at hl 0 rfl) ?_
  refine lv_aload_n hx hb dX2_coats_1 rfl (lv_at hl 0 rfl) ?_
  refine pv_i CF (m_X2_many l D cI u c1 c2 c3 c4 S O Y e0 e7 e8 e9 e10 ) (cwV 0 hts gX2_coats_X2_many rfl rfl rfl k_X2_many ⟨Nat.le_of_ble_eq_true rfl, Nat.le_of_ble_eq_true rfl⟩) hK hP rfl rfl rfl rfl hl.1 rfl (Nat.le_of_ble_eq_true rfl) dX2_coats_2 ⟨Nat.le_of_ble_eq_true rfl, Nat.le_of_ble_eq_true rfl⟩ ?_
  have hPc : va_P D vwCl [(u, .inr (2, [.int e0, .int (nI n), .int (nI w), .ref c1, .ref c2, .ref c3, .ref c4, .int e7, .int e8, .int e9, .int e10])), (c1, .inl (cI, 40, .inl F)), (c2, .inl (cI, 40, .inl V)), (c3, .inl (cI, 40, .inl O)), (c4, .inl (cI, 40, .inl Y))] H := hP.sub [0, 1, 2, 3, 4] rfl
  have hDc : va_D A [(u, .inr (2, [.int e0, .int (nI n), .int (nI w), .ref c1, .ref c2, .ref c3, .ref c4, .int e7, .int e8, .int e9, .int e10])), (c1, .inl (cI, 40, .inl F)), (c2, .inl (cI, 40, .inl V)), (c3, .inl (cI, 40, .inl O)), (c4, .inl (cI, 40, .inl Y))] := hD.sub [0, 1, 2, 3, 4] (by decide) rfl
  have hFc := va_free (wc := [(u, .inr (2, [.int e0, .int (nI n), .int (nI w), .ref c1, .ref c2, .ref c3, .ref c4, .int e7, .int e8, .int e9, .int e10])), (c1, .inl (cI, 40, .inl F)), (c2, .inl (cI, 40, .inl V)), (c3, .inl (cI, 40, .inl O)), (c4, .inl (cI, 40, .inl Y))]) hD hS hA [0, 1, 2, 3, 4] rfl
  refine pq_i (va_runV (rest := []) CF (m_X2_ok l D cI u c1 c2 c3 c4 S O Y e0 e7 e8 e9 e10 (nI (ct n f (nI 1))) H.size) (cwV 1 hts gX2_coats_X2_ok rfl rfl rfl k_X2_ok ⟨Nat.le_of_ble_eq_true rfl, Nat.le_of_ble_eq_true rfl⟩) (mv_pre hK hPc hDc rfl rfl rfl) rfl rfl hl.1 rfl (lv_room (Nat.le_of_ble_eq_true rfl)) dX2_coats_5 ⟨Nat.le_of_ble_eq_true rfl, Nat.le_of_ble_eq_true rfl⟩) hS hFc (fun r1 H locs hB hk1 hS => ?_)
  obtain ⟨rfl, hP1⟩ := hB
  obtain ⟨hP, hD⟩ := jn (wb := [(u, .inr (2, [.int (nI 0), .int (nI n), .int (nI w), .ref c1, .ref c2, .ref c3, .ref c4, .int e7, .int e8, .int e9, .int e10])), (c1, .inl (cI, 40, .inl F)), (c2, .inl (cI, 40, .inl V)), (c3, .inl (cI, 40, .inl O)), (c4, .inl (cI, 40, .inl Y))]) (w1 := [(u, .inr (2, [.int (nI 0), .int (nI n), .int (nI w), .ref c1, .ref c2, .ref c3, .ref c4, .int e7, .int e8, .int e9, .int e10])), (c1, .inl (cI, 40, .inl F)), (c2, .inl (cI, 40, .inl V)), (c3, .inl (cI, 40, .inl O)), (c4, .inl (cI, 40, .inl Y))]) hP hD [0, 1, 2, 3, 4] [] rfl rfl rfl rfl 5 rfl (by decide) (by decide) hk1 hP1
  exact em_i hx hb hr hlocks hS (⟨rfl, hP⟩) dX2_coats_8
theorem k_X2_tickets : yX2_tickets.cls = RX2 ∧ yX2_tickets.cls ≠ "java/lang/invoke/MethodHandle" ∧ yX2_tickets.cls ≠ "java/lang/invoke/VarHandle" ∧ (parseMethodDescriptor yX2_tickets.desc).map (fun d => d.parameters.length) = some 0 := by decide +kernel
set_option maxHeartbeats 4000000 in
set_option maxRecDepth 100000 in
theorem m_X2_tickets (l : Launch) (D : va_G) (cI : ClassId) (u c1 c2 c3 c4 : Nat) {n w : Nat} {F V f g : Nat → Int32} (S : MS n w F V f g) (O Y : Nat → Int32) (e0 e7 e8 e9 e10 : Int32) (sz : Nat) : Met l yX2_tickets wsX2_tickets ({ frames := 1, cells := 0, slots := 0, locals := 23 } : Room) (PM D [(cI, .int)] [.ref u] sz (mdw cI u c1 c2 c3 c4 e0 n w F V O Y e7 e8 e9 e10)) (qm_i (fun rr H1 => rr = nI (ct n f (nI 2)) ∧ va_P D vwCl (mdw cI u c1 c2 c3 c4 (nI 0) n w F V O Y e7 e8 e9 e10) H1) (va_A (mdw cI u c1 c2 c3 c4 e0 n w F V O Y e7 e8 e9 e10) sz)) 0 0 (va_A (mdw cI u c1 c2 c3 c4 e0 n w F V O Y e7 e8 e9 e10) sz) := by
  obtain ⟨hn3, hn, hw2, hF, hV, hO⟩ := id S
  refine bd_m (Qc := (fun A => qm_i (fun rr H1 => rr = nI (ct n f (nI 2)) ∧ va_P D vwCl (mdw cI u c1 c2 c3 c4 (nI 0) n w F V O Y e7 e8 e9 e10) H1) A)) (cc := cX2_tickets) (maxL := 1) (ret := (some .int)) (by decide) rfl (Nat.le_of_ble_eq_true rfl) ?_
  intro p e s m args below meth c ls A CF hr hlocks hK hP hD hA hS hl hin
  obtain ⟨hx, hb, hml, hown, hts⟩ := id CF
  have hl : lv_has ls 1 [(0, .ref u)] := hl
  have hP : va_P D vwCl [(u, .inr (2, [.int e0, .int (nI n), .int (nI w), .ref c1, .ref c2, .ref c3, .ref c4, .int e7, .int e8, .int e9, .int e10])), (c1, .inl (cI, 40, .inl F)), (c2, .inl (cI, 40, .inl V)), (c3, .inl (cI, 40, .inl O)), (c4, .inl (cI, 40, .inl Y))] s.heap := hP
  have hD : va_D A [(u, .inr (2, [.int e0, .int (nI n), .int (nI w), .ref c1, .ref c2, .ref c3, .ref c4, .int e7, .int e8, .int e9, .int e10])), (c1, .inl (cI, 40, .inl F)), (c2, .inl (cI, 40, .inl V)), (c3, .inl (cI, 40, .inl O)), (c4, .inl (cI, 40, .inl Y))] := hD
  generalize hH0 : s.heap = H at hP
  have hS : va_S A s.heap H [] := by rw [← hH0]; exact va_S.rf
  generalize hlc0 : ([] : List Loc) = locs at hS ⊢
  refine lv_aload_n hx hb dX2_tickets_0 rfl (lv_at hl 0 rfl) ?_
  refine lv_aload_n hx hb dX2_tickets_1 rfl (lv_at hl 0 rfl) ?_
  refine lv_bipush (v := (-2)) hx hb dX2_tickets_2 (by decide) ?_
  refine pv_i CF (m_X2_count l D cI u c1 c2 c3 c4 S O Y e0 e7 e8 e9 e10 (-2)) (cwV 1 hts gX2_tickets_X2_count rfl rfl rfl k_X2_count ⟨Nat.le_of_ble_eq_true rfl, Nat.le_of_ble_eq_true rfl⟩) hK hP rfl rfl rfl rfl hl.1 rfl (Nat.le_of_ble_eq_true rfl) dX2_tickets_4 ⟨Nat.le_of_ble_eq_true rfl, Nat.le_of_ble_eq_true rfl⟩ ?_
  refine tp_i (y := (nI (ct n f (nI 2)))) (congrArg nI (cw_ct n f)) ?_
  have hPc : va_P D vwCl [(u, .inr (2, [.int e0, .int (nI n), .int (nI w), .ref c1, .ref c2, .ref c3, .ref c4, .int e7, .int e8, .int e9, .int e10])), (c1, .inl (cI, 40, .inl F)), (c2, .inl (cI, 40, .inl V)), (c3, .inl (cI, 40, .inl O)), (c4, .inl (cI, 40, .inl Y))] H := hP.sub [0, 1, 2, 3, 4] rfl
  have hDc : va_D A [(u, .inr (2, [.int e0, .int (nI n), .int (nI w), .ref c1, .ref c2, .ref c3, .ref c4, .int e7, .int e8, .int e9, .int e10])), (c1, .inl (cI, 40, .inl F)), (c2, .inl (cI, 40, .inl V)), (c3, .inl (cI, 40, .inl O)), (c4, .inl (cI, 40, .inl Y))] := hD.sub [0, 1, 2, 3, 4] (by decide) rfl
  have hFc := va_free (wc := [(u, .inr (2, [.int e0, .int (nI n), .int (nI w), .ref c1, .ref c2, .ref c3, .ref c4, .int e7, .int e8, .int e9, .int e10])), (c1, .inl (cI, 40, .inl F)), (c2, .inl (cI, 40, .inl V)), (c3, .inl (cI, 40, .inl O)), (c4, .inl (cI, 40, .inl Y))]) hD hS hA [0, 1, 2, 3, 4] rfl
  refine pq_i (va_runV (rest := []) CF (m_X2_ok l D cI u c1 c2 c3 c4 S O Y e0 e7 e8 e9 e10 (nI (ct n f (nI 2))) H.size) (cwV 1 hts gX2_tickets_X2_ok rfl rfl rfl k_X2_ok ⟨Nat.le_of_ble_eq_true rfl, Nat.le_of_ble_eq_true rfl⟩) (mv_pre hK hPc hDc rfl rfl rfl) rfl rfl hl.1 rfl (lv_room (Nat.le_of_ble_eq_true rfl)) dX2_tickets_7 ⟨Nat.le_of_ble_eq_true rfl, Nat.le_of_ble_eq_true rfl⟩) hS hFc (fun r1 H locs hB hk1 hS => ?_)
  obtain ⟨rfl, hP1⟩ := hB
  obtain ⟨hP, hD⟩ := jn (wb := [(u, .inr (2, [.int (nI 0), .int (nI n), .int (nI w), .ref c1, .ref c2, .ref c3, .ref c4, .int e7, .int e8, .int e9, .int e10])), (c1, .inl (cI, 40, .inl F)), (c2, .inl (cI, 40, .inl V)), (c3, .inl (cI, 40, .inl O)), (c4, .inl (cI, 40, .inl Y))]) (w1 := [(u, .inr (2, [.int (nI 0), .int (nI n), .int (nI w), .ref c1, .ref c2, .ref c3, .ref c4, .int e7, .int e8, .int e9, .int e10])), (c1, .inl (cI, 40, .inl F)), (c2, .inl (cI, 40, .inl V)), (c3, .inl (cI, 40, .inl O)), (c4, .inl (cI, 40, .inl Y))]) hP hD [0, 1, 2, 3, 4] [] rfl rfl rfl rfl 5 rfl (by decide) (by decide) hk1 hP1
  exact em_i hx hb hr hlocks hS (⟨rfl, hP⟩) dX2_tickets_10
theorem k_X2_weight : yX2_weight.cls = RX2 ∧ yX2_weight.cls ≠ "java/lang/invoke/MethodHandle" ∧ yX2_weight.cls ≠ "java/lang/invoke/VarHandle" ∧ (parseMethodDescriptor yX2_weight.desc).map (fun d => d.parameters.length) = some 0 := by decide +kernel
set_option maxHeartbeats 4000000 in
set_option maxRecDepth 100000 in
theorem m_X2_weight (l : Launch) (D : va_G) (cI : ClassId) (u c1 c2 c3 c4 : Nat) {n w : Nat} {F V f g : Nat → Int32} (S : MS n w F V f g) (O Y : Nat → Int32) (e0 e7 e8 e9 e10 : Int32) (sz : Nat) : Met l yX2_weight wsX2_weight ({ frames := 2, cells := 0, slots := 0, locals := 43 } : Room) (PM D [(cI, .int)] [.ref u] sz (mdw cI u c1 c2 c3 c4 e0 n w F V O Y e7 e8 e9 e10)) (qm_i (fun rr H1 => rr = wa n g ∧ va_P D vwCl (mdw cI u c1 c2 c3 c4 (nI 0) n w F V O Y e7 e8 e9 e10) H1) (va_A (mdw cI u c1 c2 c3 c4 e0 n w F V O Y e7 e8 e9 e10) sz)) 0 0 (va_A (mdw cI u c1 c2 c3 c4 e0 n w F V O Y e7 e8 e9 e10) sz) := by
  obtain ⟨hn3, hn, hw2, hF, hV, hO⟩ := id S
  refine bd_m (Qc := (fun A => qm_i (fun rr H1 => rr = wa n g ∧ va_P D vwCl (mdw cI u c1 c2 c3 c4 (nI 0) n w F V O Y e7 e8 e9 e10) H1) A)) (cc := cX2_weight) (maxL := 1) (ret := (some .int)) (by decide) rfl (Nat.le_of_ble_eq_true rfl) ?_
  intro p e s m args below meth c ls A CF hr hlocks hK hP hD hA hS hl hin
  obtain ⟨hx, hb, hml, hown, hts⟩ := id CF
  have hl : lv_has ls 1 [(0, .ref u)] := hl
  have hP : va_P D vwCl [(u, .inr (2, [.int e0, .int (nI n), .int (nI w), .ref c1, .ref c2, .ref c3, .ref c4, .int e7, .int e8, .int e9, .int e10])), (c1, .inl (cI, 40, .inl F)), (c2, .inl (cI, 40, .inl V)), (c3, .inl (cI, 40, .inl O)), (c4, .inl (cI, 40, .inl Y))] s.heap := hP
  have hD : va_D A [(u, .inr (2, [.int e0, .int (nI n), .int (nI w), .ref c1, .ref c2, .ref c3, .ref c4, .int e7, .int e8, .int e9, .int e10])), (c1, .inl (cI, 40, .inl F)), (c2, .inl (cI, 40, .inl V)), (c3, .inl (cI, 40, .inl O)), (c4, .inl (cI, 40, .inl Y))] := hD
  generalize hH0 : s.heap = H at hP
  have hS : va_S A s.heap H [] := by rw [← hH0]; exact va_S.rf
  generalize hlc0 : ([] : List Loc) = locs at hS ⊢
  refine lv_aload_n hx hb dX2_weight_0 rfl (lv_at hl 0 rfl) ?_
  refine lv_aload_n hx hb dX2_weight_1 rfl (lv_at hl 0 rfl) ?_
  refine pv_i CF (m_X2_all l D cI u c1 c2 c3 c4 S O Y e0 e7 e8 e9 e10 ) (cwV 0 hts gX2_weight_X2_all rfl rfl rfl k_X2_all ⟨Nat.le_of_ble_eq_true rfl, Nat.le_of_ble_eq_true rfl⟩) hK hP rfl rfl rfl rfl hl.1 rfl (Nat.le_of_ble_eq_true rfl) dX2_weight_2 ⟨Nat.le_of_ble_eq_true rfl, Nat.le_of_ble_eq_true rfl⟩ ?_
  have hPc : va_P D vwCl [(u, .inr (2, [.int e0, .int (nI n), .int (nI w), .ref c1, .ref c2, .ref c3, .ref c4, .int e7, .int e8, .int e9, .int e10])), (c1, .inl (cI, 40, .inl F)), (c2, .inl (cI, 40, .inl V)), (c3, .inl (cI, 40, .inl O)), (c4, .inl (cI, 40, .inl Y))] H := hP.sub [0, 1, 2, 3, 4] rfl
  have hDc : va_D A [(u, .inr (2, [.int e0, .int (nI n), .int (nI w), .ref c1, .ref c2, .ref c3, .ref c4, .int e7, .int e8, .int e9, .int e10])), (c1, .inl (cI, 40, .inl F)), (c2, .inl (cI, 40, .inl V)), (c3, .inl (cI, 40, .inl O)), (c4, .inl (cI, 40, .inl Y))] := hD.sub [0, 1, 2, 3, 4] (by decide) rfl
  have hFc := va_free (wc := [(u, .inr (2, [.int e0, .int (nI n), .int (nI w), .ref c1, .ref c2, .ref c3, .ref c4, .int e7, .int e8, .int e9, .int e10])), (c1, .inl (cI, 40, .inl F)), (c2, .inl (cI, 40, .inl V)), (c3, .inl (cI, 40, .inl O)), (c4, .inl (cI, 40, .inl Y))]) hD hS hA [0, 1, 2, 3, 4] rfl
  refine pq_i (va_runV (rest := []) CF (m_X2_ok l D cI u c1 c2 c3 c4 S O Y e0 e7 e8 e9 e10 (wa n g) H.size) (cwV 1 hts gX2_weight_X2_ok rfl rfl rfl k_X2_ok ⟨Nat.le_of_ble_eq_true rfl, Nat.le_of_ble_eq_true rfl⟩) (mv_pre hK hPc hDc rfl rfl rfl) rfl rfl hl.1 rfl (lv_room (Nat.le_of_ble_eq_true rfl)) dX2_weight_5 ⟨Nat.le_of_ble_eq_true rfl, Nat.le_of_ble_eq_true rfl⟩) hS hFc (fun r1 H locs hB hk1 hS => ?_)
  obtain ⟨rfl, hP1⟩ := hB
  obtain ⟨hP, hD⟩ := jn (wb := [(u, .inr (2, [.int (nI 0), .int (nI n), .int (nI w), .ref c1, .ref c2, .ref c3, .ref c4, .int e7, .int e8, .int e9, .int e10])), (c1, .inl (cI, 40, .inl F)), (c2, .inl (cI, 40, .inl V)), (c3, .inl (cI, 40, .inl O)), (c4, .inl (cI, 40, .inl Y))]) (w1 := [(u, .inr (2, [.int (nI 0), .int (nI n), .int (nI w), .ref c1, .ref c2, .ref c3, .ref c4, .int e7, .int e8, .int e9, .int e10])), (c1, .inl (cI, 40, .inl F)), (c2, .inl (cI, 40, .inl V)), (c3, .inl (cI, 40, .inl O)), (c4, .inl (cI, 40, .inl Y))]) hP hD [0, 1, 2, 3, 4] [] rfl rfl rfl rfl 5 rfl (by decide) (by decide) hk1 hP1
  exact em_i hx hb hr hlocks hS (⟨rfl, hP⟩) dX2_weight_8
theorem k_X2_heaviestAt : yX2_heaviestAt.cls = RX2 ∧ yX2_heaviestAt.cls ≠ "java/lang/invoke/MethodHandle" ∧ yX2_heaviestAt.cls ≠ "java/lang/invoke/VarHandle" ∧ (parseMethodDescriptor yX2_heaviestAt.desc).map (fun d => d.parameters.length) = some 0 := by decide +kernel
set_option maxHeartbeats 4000000 in
set_option maxRecDepth 100000 in
theorem m_X2_heaviestAt (l : Launch) (D : va_G) (cI : ClassId) (u c1 c2 c3 c4 : Nat) {n w : Nat} {F V f g : Nat → Int32} (S : MS n w F V f g) (O Y : Nat → Int32) (e0 e7 e8 e9 e10 : Int32) (sz : Nat) : Met l yX2_heaviestAt wsX2_heaviestAt ({ frames := 1, cells := 0, slots := 0, locals := 22 } : Room) (PM D [(cI, .int)] [.ref u] sz (mdw cI u c1 c2 c3 c4 e0 n w F V O Y e7 e8 e9 e10)) (qm_i (fun rr H1 => rr = (hv n g).1 ∧ va_P D vwCl (mdw cI u c1 c2 c3 c4 (nI 0) n w F V O Y e7 e8 e9 e10) H1) (va_A (mdw cI u c1 c2 c3 c4 e0 n w F V O Y e7 e8 e9 e10) sz)) 0 0 (va_A (mdw cI u c1 c2 c3 c4 e0 n w F V O Y e7 e8 e9 e10) sz) := by
  obtain ⟨hn3, hn, hw2, hF, hV, hO⟩ := id S
  refine bd_m (Qc := (fun A => qm_i (fun rr H1 => rr = (hv n g).1 ∧ va_P D vwCl (mdw cI u c1 c2 c3 c4 (nI 0) n w F V O Y e7 e8 e9 e10) H1) A)) (cc := cX2_heaviestAt) (maxL := 1) (ret := (some .int)) (by decide) rfl (Nat.le_of_ble_eq_true rfl) ?_
  intro p e s m args below meth c ls A CF hr hlocks hK hP hD hA hS hl hin
  obtain ⟨hx, hb, hml, hown, hts⟩ := id CF
  have hl : lv_has ls 1 [(0, .ref u)] := hl
  have hP : va_P D vwCl [(u, .inr (2, [.int e0, .int (nI n), .int (nI w), .ref c1, .ref c2, .ref c3, .ref c4, .int e7, .int e8, .int e9, .int e10])), (c1, .inl (cI, 40, .inl F)), (c2, .inl (cI, 40, .inl V)), (c3, .inl (cI, 40, .inl O)), (c4, .inl (cI, 40, .inl Y))] s.heap := hP
  have hD : va_D A [(u, .inr (2, [.int e0, .int (nI n), .int (nI w), .ref c1, .ref c2, .ref c3, .ref c4, .int e7, .int e8, .int e9, .int e10])), (c1, .inl (cI, 40, .inl F)), (c2, .inl (cI, 40, .inl V)), (c3, .inl (cI, 40, .inl O)), (c4, .inl (cI, 40, .inl Y))] := hD
  generalize hH0 : s.heap = H at hP
  have hS : va_S A s.heap H [] := by rw [← hH0]; exact va_S.rf
  generalize hlc0 : ([] : List Loc) = locs at hS ⊢
  refine lv_aload_n hx hb dX2_heaviestAt_0 rfl (lv_at hl 0 rfl) ?_
  refine lv_aload_n hx hb dX2_heaviestAt_1 rfl (lv_at hl 0 rfl) ?_
  refine pv_i CF (m_X2_heaviest l D cI u c1 c2 c3 c4 S O Y e0 e7 e8 e9 e10 ) (cwV 0 hts gX2_heaviestAt_X2_heaviest rfl rfl rfl k_X2_heaviest ⟨Nat.le_of_ble_eq_true rfl, Nat.le_of_ble_eq_true rfl⟩) hK hP rfl rfl rfl rfl hl.1 rfl (Nat.le_of_ble_eq_true rfl) dX2_heaviestAt_2 ⟨Nat.le_of_ble_eq_true rfl, Nat.le_of_ble_eq_true rfl⟩ ?_
  have hPc : va_P D vwCl [(u, .inr (2, [.int e0, .int (nI n), .int (nI w), .ref c1, .ref c2, .ref c3, .ref c4, .int e7, .int e8, .int e9, .int e10])), (c1, .inl (cI, 40, .inl F)), (c2, .inl (cI, 40, .inl V)), (c3, .inl (cI, 40, .inl O)), (c4, .inl (cI, 40, .inl Y))] H := hP.sub [0, 1, 2, 3, 4] rfl
  have hDc : va_D A [(u, .inr (2, [.int e0, .int (nI n), .int (nI w), .ref c1, .ref c2, .ref c3, .ref c4, .int e7, .int e8, .int e9, .int e10])), (c1, .inl (cI, 40, .inl F)), (c2, .inl (cI, 40, .inl V)), (c3, .inl (cI, 40, .inl O)), (c4, .inl (cI, 40, .inl Y))] := hD.sub [0, 1, 2, 3, 4] (by decide) rfl
  have hFc := va_free (wc := [(u, .inr (2, [.int e0, .int (nI n), .int (nI w), .ref c1, .ref c2, .ref c3, .ref c4, .int e7, .int e8, .int e9, .int e10])), (c1, .inl (cI, 40, .inl F)), (c2, .inl (cI, 40, .inl V)), (c3, .inl (cI, 40, .inl O)), (c4, .inl (cI, 40, .inl Y))]) hD hS hA [0, 1, 2, 3, 4] rfl
  refine pq_i (va_runV (rest := []) CF (m_X2_ok l D cI u c1 c2 c3 c4 S O Y e0 e7 e8 e9 e10 ((hv n g).1) H.size) (cwV 1 hts gX2_heaviestAt_X2_ok rfl rfl rfl k_X2_ok ⟨Nat.le_of_ble_eq_true rfl, Nat.le_of_ble_eq_true rfl⟩) (mv_pre hK hPc hDc rfl rfl rfl) rfl rfl hl.1 rfl (lv_room (Nat.le_of_ble_eq_true rfl)) dX2_heaviestAt_5 ⟨Nat.le_of_ble_eq_true rfl, Nat.le_of_ble_eq_true rfl⟩) hS hFc (fun r1 H locs hB hk1 hS => ?_)
  obtain ⟨rfl, hP1⟩ := hB
  obtain ⟨hP, hD⟩ := jn (wb := [(u, .inr (2, [.int (nI 0), .int (nI n), .int (nI w), .ref c1, .ref c2, .ref c3, .ref c4, .int e7, .int e8, .int e9, .int e10])), (c1, .inl (cI, 40, .inl F)), (c2, .inl (cI, 40, .inl V)), (c3, .inl (cI, 40, .inl O)), (c4, .inl (cI, 40, .inl Y))]) (w1 := [(u, .inr (2, [.int (nI 0), .int (nI n), .int (nI w), .ref c1, .ref c2, .ref c3, .ref c4, .int e7, .int e8, .int e9, .int e10])), (c1, .inl (cI, 40, .inl F)), (c2, .inl (cI, 40, .inl V)), (c3, .inl (cI, 40, .inl O)), (c4, .inl (cI, 40, .inl Y))]) hP hD [0, 1, 2, 3, 4] [] rfl rfl rfl rfl 5 rfl (by decide) (by decide) hk1 hP1
  exact em_i hx hb hr hlocks hS (⟨rfl, hP⟩) dX2_heaviestAt_8
theorem k_X2_rows : yX2_rows.cls = RX2 ∧ yX2_rows.cls ≠ "java/lang/invoke/MethodHandle" ∧ yX2_rows.cls ≠ "java/lang/invoke/VarHandle" ∧ (parseMethodDescriptor yX2_rows.desc).map (fun d => d.parameters.length) = some 0 := by decide +kernel
set_option maxHeartbeats 4000000 in
set_option maxRecDepth 100000 in
theorem m_X2_rows (l : Launch) (D : va_G) (cI : ClassId) (u c1 c2 c3 c4 : Nat) {n w : Nat} {F V f g : Nat → Int32} (S : MS n w F V f g) (O Y : Nat → Int32) (e0 e7 e8 e9 e10 : Int32) (sz : Nat) : Met l yX2_rows wsX2_rows ({ frames := 2, cells := 0, slots := 0, locals := 45 } : Room) (PM D [(cI, .int)] [.ref u] sz (mdw cI u c1 c2 c3 c4 e0 n w F V O Y e7 e8 e9 e10)) (qm_i (fun rr H1 => rr = nI (rc n f) ∧ va_P D vwCl (mdw cI u c1 c2 c3 c4 (nI 0) n w F V O Y e7 e8 e9 e10) H1) (va_A (mdw cI u c1 c2 c3 c4 e0 n w F V O Y e7 e8 e9 e10) sz)) 0 0 (va_A (mdw cI u c1 c2 c3 c4 e0 n w F V O Y e7 e8 e9 e10) sz) := by
  obtain ⟨hn3, hn, hw2, hF, hV, hO⟩ := id S
  refine bd_m (Qc := (fun A => qm_i (fun rr H1 => rr = nI (rc n f) ∧ va_P D vwCl (mdw cI u c1 c2 c3 c4 (nI 0) n w F V O Y e7 e8 e9 e10) H1) A)) (cc := cX2_rows) (maxL := 1) (ret := (some .int)) (by decide) rfl (Nat.le_of_ble_eq_true rfl) ?_
  intro p e s m args below meth c ls A CF hr hlocks hK hP hD hA hS hl hin
  obtain ⟨hx, hb, hml, hown, hts⟩ := id CF
  have hl : lv_has ls 1 [(0, .ref u)] := hl
  have hP : va_P D vwCl [(u, .inr (2, [.int e0, .int (nI n), .int (nI w), .ref c1, .ref c2, .ref c3, .ref c4, .int e7, .int e8, .int e9, .int e10])), (c1, .inl (cI, 40, .inl F)), (c2, .inl (cI, 40, .inl V)), (c3, .inl (cI, 40, .inl O)), (c4, .inl (cI, 40, .inl Y))] s.heap := hP
  have hD : va_D A [(u, .inr (2, [.int e0, .int (nI n), .int (nI w), .ref c1, .ref c2, .ref c3, .ref c4, .int e7, .int e8, .int e9, .int e10])), (c1, .inl (cI, 40, .inl F)), (c2, .inl (cI, 40, .inl V)), (c3, .inl (cI, 40, .inl O)), (c4, .inl (cI, 40, .inl Y))] := hD
  generalize hH0 : s.heap = H at hP
  have hS : va_S A s.heap H [] := by rw [← hH0]; exact va_S.rf
  generalize hlc0 : ([] : List Loc) = locs at hS ⊢
  refine lv_aload_n hx hb dX2_rows_0 rfl (lv_at hl 0 rfl) ?_
  refine lv_aload_n hx hb dX2_rows_1 rfl (lv_at hl 0 rfl) ?_
  refine pv_i CF (m_X2_rowsNow l D cI u c1 c2 c3 c4 S O Y e0 e7 e8 e9 e10 ) (cwV 0 hts gX2_rows_X2_rowsNow rfl rfl rfl k_X2_rowsNow ⟨Nat.le_of_ble_eq_true rfl, Nat.le_of_ble_eq_true rfl⟩) hK hP rfl rfl rfl rfl hl.1 rfl (Nat.le_of_ble_eq_true rfl) dX2_rows_2 ⟨Nat.le_of_ble_eq_true rfl, Nat.le_of_ble_eq_true rfl⟩ ?_
  have hPc : va_P D vwCl [(u, .inr (2, [.int e0, .int (nI n), .int (nI w), .ref c1, .ref c2, .ref c3, .ref c4, .int e7, .int e8, .int e9, .int e10])), (c1, .inl (cI, 40, .inl F)), (c2, .inl (cI, 40, .inl V)), (c3, .inl (cI, 40, .inl O)), (c4, .inl (cI, 40, .inl Y))] H := hP.sub [0, 1, 2, 3, 4] rfl
  have hDc : va_D A [(u, .inr (2, [.int e0, .int (nI n), .int (nI w), .ref c1, .ref c2, .ref c3, .ref c4, .int e7, .int e8, .int e9, .int e10])), (c1, .inl (cI, 40, .inl F)), (c2, .inl (cI, 40, .inl V)), (c3, .inl (cI, 40, .inl O)), (c4, .inl (cI, 40, .inl Y))] := hD.sub [0, 1, 2, 3, 4] (by decide) rfl
  have hFc := va_free (wc := [(u, .inr (2, [.int e0, .int (nI n), .int (nI w), .ref c1, .ref c2, .ref c3, .ref c4, .int e7, .int e8, .int e9, .int e10])), (c1, .inl (cI, 40, .inl F)), (c2, .inl (cI, 40, .inl V)), (c3, .inl (cI, 40, .inl O)), (c4, .inl (cI, 40, .inl Y))]) hD hS hA [0, 1, 2, 3, 4] rfl
  refine pq_i (va_runV (rest := []) CF (m_X2_ok l D cI u c1 c2 c3 c4 S O Y e0 e7 e8 e9 e10 (nI (rc n f)) H.size) (cwV 1 hts gX2_rows_X2_ok rfl rfl rfl k_X2_ok ⟨Nat.le_of_ble_eq_true rfl, Nat.le_of_ble_eq_true rfl⟩) (mv_pre hK hPc hDc rfl rfl rfl) rfl rfl hl.1 rfl (lv_room (Nat.le_of_ble_eq_true rfl)) dX2_rows_5 ⟨Nat.le_of_ble_eq_true rfl, Nat.le_of_ble_eq_true rfl⟩) hS hFc (fun r1 H locs hB hk1 hS => ?_)
  obtain ⟨rfl, hP1⟩ := hB
  obtain ⟨hP, hD⟩ := jn (wb := [(u, .inr (2, [.int (nI 0), .int (nI n), .int (nI w), .ref c1, .ref c2, .ref c3, .ref c4, .int e7, .int e8, .int e9, .int e10])), (c1, .inl (cI, 40, .inl F)), (c2, .inl (cI, 40, .inl V)), (c3, .inl (cI, 40, .inl O)), (c4, .inl (cI, 40, .inl Y))]) (w1 := [(u, .inr (2, [.int (nI 0), .int (nI n), .int (nI w), .ref c1, .ref c2, .ref c3, .ref c4, .int e7, .int e8, .int e9, .int e10])), (c1, .inl (cI, 40, .inl F)), (c2, .inl (cI, 40, .inl V)), (c3, .inl (cI, 40, .inl O)), (c4, .inl (cI, 40, .inl Y))]) hP hD [0, 1, 2, 3, 4] [] rfl rfl rfl rfl 5 rfl (by decide) (by decide) hk1 hP1
  exact em_i hx hb hr hlocks hS (⟨rfl, hP⟩) dX2_rows_8
theorem k_X2_longestRow : yX2_longestRow.cls = RX2 ∧ yX2_longestRow.cls ≠ "java/lang/invoke/MethodHandle" ∧ yX2_longestRow.cls ≠ "java/lang/invoke/VarHandle" ∧ (parseMethodDescriptor yX2_longestRow.desc).map (fun d => d.parameters.length) = some 0 := by decide +kernel
set_option maxHeartbeats 4000000 in
set_option maxRecDepth 100000 in
theorem m_X2_longestRow (l : Launch) (D : va_G) (cI : ClassId) (u c1 c2 c3 c4 : Nat) {n w : Nat} {F V f g : Nat → Int32} (S : MS n w F V f g) (O Y : Nat → Int32) (e0 e7 e8 e9 e10 : Int32) (sz : Nat) : Met l yX2_longestRow wsX2_longestRow ({ frames := 3, cells := 0, slots := 0, locals := 66 } : Room) (PM D [(cI, .int)] [.ref u] sz (mdw cI u c1 c2 c3 c4 e0 n w F V O Y e7 e8 e9 e10)) (qm_i (fun rr H1 => rr = nI (lr n f) ∧ va_P D vwCl (mdw cI u c1 c2 c3 c4 (nI 0) n w F V O Y e7 e8 e9 e10) H1) (va_A (mdw cI u c1 c2 c3 c4 e0 n w F V O Y e7 e8 e9 e10) sz)) 0 0 (va_A (mdw cI u c1 c2 c3 c4 e0 n w F V O Y e7 e8 e9 e10) sz) := by
  obtain ⟨hn3, hn, hw2, hF, hV, hO⟩ := id S
  refine bd_m (Qc := (fun A => qm_i (fun rr H1 => rr = nI (lr n f) ∧ va_P D vwCl (mdw cI u c1 c2 c3 c4 (nI 0) n w F V O Y e7 e8 e9 e10) H1) A)) (cc := cX2_longestRow) (maxL := 1) (ret := (some .int)) (by decide) rfl (Nat.le_of_ble_eq_true rfl) ?_
  intro p e s m args below meth c ls A CF hr hlocks hK hP hD hA hS hl hin
  obtain ⟨hx, hb, hml, hown, hts⟩ := id CF
  have hl : lv_has ls 1 [(0, .ref u)] := hl
  have hP : va_P D vwCl [(u, .inr (2, [.int e0, .int (nI n), .int (nI w), .ref c1, .ref c2, .ref c3, .ref c4, .int e7, .int e8, .int e9, .int e10])), (c1, .inl (cI, 40, .inl F)), (c2, .inl (cI, 40, .inl V)), (c3, .inl (cI, 40, .inl O)), (c4, .inl (cI, 40, .inl Y))] s.heap := hP
  have hD : va_D A [(u, .inr (2, [.int e0, .int (nI n), .int (nI w), .ref c1, .ref c2, .ref c3, .ref c4, .int e7, .int e8, .int e9, .int e10])), (c1, .inl (cI, 40, .inl F)), (c2, .inl (cI, 40, .inl V)), (c3, .inl (cI, 40, .inl O)), (c4, .inl (cI, 40, .inl Y))] := hD
  generalize hH0 : s.heap = H at hP
  have hS : va_S A s.heap H [] := by rw [← hH0]; exact va_S.rf
  generalize hlc0 : ([] : List Loc) = locs at hS ⊢
  refine lv_aload_n hx hb dX2_longestRow_0 rfl (lv_at hl 0 rfl) ?_
  refine lv_aload_n hx hb dX2_longestRow_1 rfl (lv_at hl 0 rfl) ?_
  refine pv_i CF (m_X2_longest l D cI u c1 c2 c3 c4 S O Y e0 e7 e8 e9 e10 ) (cwV 0 hts gX2_longestRow_X2_longest rfl rfl rfl k_X2_longest ⟨Nat.le_of_ble_eq_true rfl, Nat.le_of_ble_eq_true rfl⟩) hK hP rfl rfl rfl rfl hl.1 rfl (Nat.le_of_ble_eq_true rfl) dX2_longestRow_2 ⟨Nat.le_of_ble_eq_true rfl, Nat.le_of_ble_eq_true rfl⟩ ?_
  have hPc : va_P D vwCl [(u, .inr (2, [.int e0, .int (nI n), .int (nI w), .ref c1, .ref c2, .ref c3, .ref c4, .int e7, .int e8, .int e9, .int e10])), (c1, .inl (cI, 40, .inl F)), (c2, .inl (cI, 40, .inl V)), (c3, .inl (cI, 40, .inl O)), (c4, .inl (cI, 40, .inl Y))] H := hP.sub [0, 1, 2, 3, 4] rfl
  have hDc : va_D A [(u, .inr (2, [.int e0, .int (nI n), .int (nI w), .ref c1, .ref c2, .ref c3, .ref c4, .int e7, .int e8, .int e9, .int e10])), (c1, .inl (cI, 40, .inl F)), (c2, .inl (cI, 40, .inl V)), (c3, .inl (cI, 40, .inl O)), (c4, .inl (cI, 40, .inl Y))] := hD.sub [0, 1, 2, 3, 4] (by decide) rfl
  have hFc := va_free (wc := [(u, .inr (2, [.int e0, .int (nI n), .int (nI w), .ref c1, .ref c2, .ref c3, .ref c4, .int e7, .int e8, .int e9, .int e10])), (c1, .inl (cI, 40, .inl F)), (c2, .inl (cI, 40, .inl V)), (c3, .inl (cI, 40, .inl O)), (c4, .inl (cI, 40, .inl Y))]) hD hS hA [0, 1, 2, 3, 4] rfl
  refine pq_i (va_runV (rest := []) CF (m_X2_ok l D cI u c1 c2 c3 c4 S O Y e0 e7 e8 e9 e10 (nI (lr n f)) H.size) (cwV 1 hts gX2_longestRow_X2_ok rfl rfl rfl k_X2_ok ⟨Nat.le_of_ble_eq_true rfl, Nat.le_of_ble_eq_true rfl⟩) (mv_pre hK hPc hDc rfl rfl rfl) rfl rfl hl.1 rfl (lv_room (Nat.le_of_ble_eq_true rfl)) dX2_longestRow_5 ⟨Nat.le_of_ble_eq_true rfl, Nat.le_of_ble_eq_true rfl⟩) hS hFc (fun r1 H locs hB hk1 hS => ?_)
  obtain ⟨rfl, hP1⟩ := hB
  obtain ⟨hP, hD⟩ := jn (wb := [(u, .inr (2, [.int (nI 0), .int (nI n), .int (nI w), .ref c1, .ref c2, .ref c3, .ref c4, .int e7, .int e8, .int e9, .int e10])), (c1, .inl (cI, 40, .inl F)), (c2, .inl (cI, 40, .inl V)), (c3, .inl (cI, 40, .inl O)), (c4, .inl (cI, 40, .inl Y))]) (w1 := [(u, .inr (2, [.int (nI 0), .int (nI n), .int (nI w), .ref c1, .ref c2, .ref c3, .ref c4, .int e7, .int e8, .int e9, .int e10])), (c1, .inl (cI, 40, .inl F)), (c2, .inl (cI, 40, .inl V)), (c3, .inl (cI, 40, .inl O)), (c4, .inl (cI, 40, .inl Y))]) hP hD [0, 1, 2, 3, 4] [] rfl rfl rfl rfl 5 rfl (by decide) (by decide) hk1 hP1
  exact em_i hx hb hr hlocks hS (⟨rfl, hP⟩) dX2_longestRow_8
theorem k_X2_allLooks : yX2_allLooks.cls = RX2 ∧ yX2_allLooks.cls ≠ "java/lang/invoke/MethodHandle" ∧ yX2_allLooks.cls ≠ "java/lang/invoke/VarHandle" ∧ (parseMethodDescriptor yX2_allLooks.desc).map (fun d => d.parameters.length) = some 0 := by decide +kernel
set_option maxHeartbeats 4000000 in
set_option maxRecDepth 100000 in
theorem m_X2_allLooks (l : Launch) (D : va_G) (cI : ClassId) (u c1 c2 c3 c4 : Nat) {n w : Nat} {F V f g : Nat → Int32} (S : MS n w F V f g) (O Y : Nat → Int32) (e0 e7 e8 e9 e10 : Int32) (sz : Nat) : Met l yX2_allLooks wsX2_allLooks ({ frames := 4, cells := 0, slots := 0, locals := 90 } : Room) (PM D [(cI, .int)] [.ref u] sz (mdw cI u c1 c2 c3 c4 e0 n w F V O Y e7 e8 e9 e10)) (qm_i (fun rr H1 => rr = nI (sm n w f) ∧ ∃ d7 d8 d9 d10 : Int32, va_P D vwCl (mdw cI u c1 c2 c3 c4 (nI 0) n w F V O Y d7 d8 d9 d10) H1) (va_A (mdw cI u c1 c2 c3 c4 e0 n w F V O Y e7 e8 e9 e10) sz)) 0 0 (va_A (mdw cI u c1 c2 c3 c4 e0 n w F V O Y e7 e8 e9 e10) sz) := by
  obtain ⟨hn3, hn, hw2, hF, hV, hO⟩ := id S
  refine bd_m (Qc := (fun A => qm_i (fun rr H1 => rr = nI (sm n w f) ∧ ∃ d7 d8 d9 d10 : Int32, va_P D vwCl (mdw cI u c1 c2 c3 c4 (nI 0) n w F V O Y d7 d8 d9 d10) H1) A)) (cc := cX2_allLooks) (maxL := 1) (ret := (some .int)) (by decide) rfl (Nat.le_of_ble_eq_true rfl) ?_
  intro p e s m args below meth c ls A CF hr hlocks hK hP hD hA hS hl hin
  obtain ⟨hx, hb, hml, hown, hts⟩ := id CF
  have hl : lv_has ls 1 [(0, .ref u)] := hl
  have hP : va_P D vwCl [(u, .inr (2, [.int e0, .int (nI n), .int (nI w), .ref c1, .ref c2, .ref c3, .ref c4, .int e7, .int e8, .int e9, .int e10])), (c1, .inl (cI, 40, .inl F)), (c2, .inl (cI, 40, .inl V)), (c3, .inl (cI, 40, .inl O)), (c4, .inl (cI, 40, .inl Y))] s.heap := hP
  have hD : va_D A [(u, .inr (2, [.int e0, .int (nI n), .int (nI w), .ref c1, .ref c2, .ref c3, .ref c4, .int e7, .int e8, .int e9, .int e10])), (c1, .inl (cI, 40, .inl F)), (c2, .inl (cI, 40, .inl V)), (c3, .inl (cI, 40, .inl O)), (c4, .inl (cI, 40, .inl Y))] := hD
  generalize hH0 : s.heap = H at hP
  have hS : va_S A s.heap H [] := by rw [← hH0]; exact va_S.rf
  generalize hlc0 : ([] : List Loc) = locs at hS ⊢
  refine lv_aload_n hx hb dX2_allLooks_0 rfl (lv_at hl 0 rfl) ?_
  refine lv_aload_n hx hb dX2_allLooks_1 rfl (lv_at hl 0 rfl) ?_
  have hPc : va_P D vwCl [(u, .inr (2, [.int e0, .int (nI n), .int (nI w), .ref c1, .ref c2, .ref c3, .ref c4, .int e7, .int e8, .int e9, .int e10])), (c1, .inl (cI, 40, .inl F)), (c2, .inl (cI, 40, .inl V)), (c3, .inl (cI, 40, .inl O)), (c4, .inl (cI, 40, .inl Y))] H := hP.sub [0, 1, 2, 3, 4] rfl
  have hDc : va_D A [(u, .inr (2, [.int e0, .int (nI n), .int (nI w), .ref c1, .ref c2, .ref c3, .ref c4, .int e7, .int e8, .int e9, .int e10])), (c1, .inl (cI, 40, .inl F)), (c2, .inl (cI, 40, .inl V)), (c3, .inl (cI, 40, .inl O)), (c4, .inl (cI, 40, .inl Y))] := hD.sub [0, 1, 2, 3, 4] (by decide) rfl
  have hFc := va_free (wc := [(u, .inr (2, [.int e0, .int (nI n), .int (nI w), .ref c1, .ref c2, .ref c3, .ref c4, .int e7, .int e8, .int e9, .int e10])), (c1, .inl (cI, 40, .inl F)), (c2, .inl (cI, 40, .inl V)), (c3, .inl (cI, 40, .inl O)), (c4, .inl (cI, 40, .inl Y))]) hD hS hA [0, 1, 2, 3, 4] rfl
  refine pq_i (va_runV (rest := [.ref u]) CF (m_X2_looksForAll l D cI u c1 c2 c3 c4 S O Y e0 e7 e8 e9 e10  H.size) (cwV 0 hts gX2_allLooks_X2_looksForAll rfl rfl rfl k_X2_looksForAll ⟨Nat.le_of_ble_eq_true rfl, Nat.le_of_ble_eq_true rfl⟩) (mv_pre hK hPc hDc rfl rfl rfl) rfl rfl hl.1 rfl (lv_room (Nat.le_of_ble_eq_true rfl)) dX2_allLooks_2 ⟨Nat.le_of_ble_eq_true rfl, Nat.le_of_ble_eq_true rfl⟩) hS hFc (fun r1 H locs hB hk1 hS => ?_)
  obtain ⟨rfl, d7, d8, d9, d10, hP1⟩ := hB
  obtain ⟨hP, hD⟩ := jn (wb := [(u, .inr (2, [.int e0, .int (nI n), .int (nI w), .ref c1, .ref c2, .ref c3, .ref c4, .int d7, .int d8, .int d9, .int d10])), (c1, .inl (cI, 40, .inl F)), (c2, .inl (cI, 40, .inl V)), (c3, .inl (cI, 40, .inl O)), (c4, .inl (cI, 40, .inl Y))]) (w1 := [(u, .inr (2, [.int e0, .int (nI n), .int (nI w), .ref c1, .ref c2, .ref c3, .ref c4, .int d7, .int d8, .int d9, .int d10])), (c1, .inl (cI, 40, .inl F)), (c2, .inl (cI, 40, .inl V)), (c3, .inl (cI, 40, .inl O)), (c4, .inl (cI, 40, .inl Y))]) hP hD [0, 1, 2, 3, 4] [] rfl rfl rfl rfl 5 rfl (by decide) (by decide) hk1 hP1
  have hPc : va_P D vwCl [(u, .inr (2, [.int e0, .int (nI n), .int (nI w), .ref c1, .ref c2, .ref c3, .ref c4, .int d7, .int d8, .int d9, .int d10])), (c1, .inl (cI, 40, .inl F)), (c2, .inl (cI, 40, .inl V)), (c3, .inl (cI, 40, .inl O)), (c4, .inl (cI, 40, .inl Y))] H := hP.sub [0, 1, 2, 3, 4] rfl
  have hDc : va_D A [(u, .inr (2, [.int e0, .int (nI n), .int (nI w), .ref c1, .ref c2, .ref c3, .ref c4, .int d7, .int d8, .int d9, .int d10])), (c1, .inl (cI, 40, .inl F)), (c2, .inl (cI, 40, .inl V)), (c3, .inl (cI, 40, .inl O)), (c4, .inl (cI, 40, .inl Y))] := hD.sub [0, 1, 2, 3, 4] (by decide) rfl
  have hFc := va_free (wc := [(u, .inr (2, [.int e0, .int (nI n), .int (nI w), .ref c1, .ref c2, .ref c3, .ref c4, .int d7, .int d8, .int d9, .int d10])), (c1, .inl (cI, 40, .inl F)), (c2, .inl (cI, 40, .inl V)), (c3, .inl (cI, 40, .inl O)), (c4, .inl (cI, 40, .inl Y))]) hD hS hA [0, 1, 2, 3, 4] rfl
  refine pq_i (va_runV (rest := []) CF (m_X2_ok l D cI u c1 c2 c3 c4 S O Y e0 d7 d8 d9 d10 (nI (sm n w f)) H.size) (cwV 1 hts gX2_allLooks_X2_ok rfl rfl rfl k_X2_ok ⟨Nat.le_of_ble_eq_true rfl, Nat.le_of_ble_eq_true rfl⟩) (mv_pre hK hPc hDc rfl rfl rfl) rfl rfl hl.1 rfl (lv_room (Nat.le_of_ble_eq_true rfl)) dX2_allLooks_5 ⟨Nat.le_of_ble_eq_true rfl, Nat.le_of_ble_eq_true rfl⟩) hS hFc (fun r1 H locs hB hk1 hS => ?_)
  obtain ⟨rfl, hP1⟩ := hB
  obtain ⟨hP, hD⟩ := jn (wb := [(u, .inr (2, [.int (nI 0), .int (nI n), .int (nI w), .ref c1, .ref c2, .ref c3, .ref c4, .int d7, .int d8, .int d9, .int d10])), (c1, .inl (cI, 40, .inl F)), (c2, .inl (cI, 40, .inl V)), (c3, .inl (cI, 40, .inl O)), (c4, .inl (cI, 40, .inl Y))]) (w1 := [(u, .inr (2, [.int (nI 0), .int (nI n), .int (nI w), .ref c1, .ref c2, .ref c3, .ref c4, .int d7, .int d8, .int d9, .int d10])), (c1, .inl (cI, 40, .inl F)), (c2, .inl (cI, 40, .inl V)), (c3, .inl (cI, 40, .inl O)), (c4, .inl (cI, 40, .inl Y))]) hP hD [0, 1, 2, 3, 4] [] rfl rfl rfl rfl 5 rfl (by decide) (by decide) hk1 hP1
  exact em_i hx hb hr hlocks hS (⟨rfl, _, _, _, _, hP⟩) dX2_allLooks_8
theorem k_X2_farthest : yX2_farthest.cls = RX2 ∧ yX2_farthest.cls ≠ "java/lang/invoke/MethodHandle" ∧ yX2_farthest.cls ≠ "java/lang/invoke/VarHandle" ∧ (parseMethodDescriptor yX2_farthest.desc).map (fun d => d.parameters.length) = some 0 := by decide +kernel
set_option maxHeartbeats 4000000 in
set_option maxRecDepth 100000 in
theorem m_X2_farthest (l : Launch) (D : va_G) (cI : ClassId) (u c1 c2 c3 c4 : Nat) {n w : Nat} {F V f g : Nat → Int32} (S : MS n w F V f g) (O Y : Nat → Int32) (e0 e7 e8 e9 e10 : Int32) (sz : Nat) : Met l yX2_farthest wsX2_farthest ({ frames := 4, cells := 0, slots := 0, locals := 91 } : Room) (PM D [(cI, .int)] [.ref u] sz (mdw cI u c1 c2 c3 c4 e0 n w F V O Y e7 e8 e9 e10)) (qm_i (fun rr H1 => rr = (fa n w f).1 ∧ ∃ d7 d8 d9 d10 : Int32, va_P D vwCl (mdw cI u c1 c2 c3 c4 (nI 0) n w F V O Y d7 d8 d9 d10) H1) (va_A (mdw cI u c1 c2 c3 c4 e0 n w F V O Y e7 e8 e9 e10) sz)) 0 0 (va_A (mdw cI u c1 c2 c3 c4 e0 n w F V O Y e7 e8 e9 e10) sz) := by
  obtain ⟨hn3, hn, hw2, hF, hV, hO⟩ := id S
  refine bd_m (Qc := (fun A => qm_i (fun rr H1 => rr = (fa n w f).1 ∧ ∃ d7 d8 d9 d10 : Int32, va_P D vwCl (mdw cI u c1 c2 c3 c4 (nI 0) n w F V O Y d7 d8 d9 d10) H1) A)) (cc := cX2_farthest) (maxL := 1) (ret := (some .int)) (by decide) rfl (Nat.le_of_ble_eq_true rfl) ?_
  intro p e s m args below meth c ls A CF hr hlocks hK hP hD hA hS hl hin
  obtain ⟨hx, hb, hml, hown, hts⟩ := id CF
  have hl : lv_has ls 1 [(0, .ref u)] := hl
  have hP : va_P D vwCl [(u, .inr (2, [.int e0, .int (nI n), .int (nI w), .ref c1, .ref c2, .ref c3, .ref c4, .int e7, .int e8, .int e9, .int e10])), (c1, .inl (cI, 40, .inl F)), (c2, .inl (cI, 40, .inl V)), (c3, .inl (cI, 40, .inl O)), (c4, .inl (cI, 40, .inl Y))] s.heap := hP
  have hD : va_D A [(u, .inr (2, [.int e0, .int (nI n), .int (nI w), .ref c1, .ref c2, .ref c3, .ref c4, .int e7, .int e8, .int e9, .int e10])), (c1, .inl (cI, 40, .inl F)), (c2, .inl (cI, 40, .inl V)), (c3, .inl (cI, 40, .inl O)), (c4, .inl (cI, 40, .inl Y))] := hD
  generalize hH0 : s.heap = H at hP
  have hS : va_S A s.heap H [] := by rw [← hH0]; exact va_S.rf
  generalize hlc0 : ([] : List Loc) = locs at hS ⊢
  refine lv_aload_n hx hb dX2_farthest_0 rfl (lv_at hl 0 rfl) ?_
  refine lv_aload_n hx hb dX2_farthest_1 rfl (lv_at hl 0 rfl) ?_
  have hPc : va_P D vwCl [(u, .inr (2, [.int e0, .int (nI n), .int (nI w), .ref c1, .ref c2, .ref c3, .ref c4, .int e7, .int e8, .int e9, .int e10])), (c1, .inl (cI, 40, .inl F)), (c2, .inl (cI, 40, .inl V)), (c3, .inl (cI, 40, .inl O)), (c4, .inl (cI, 40, .inl Y))] H := hP.sub [0, 1, 2, 3, 4] rfl
  have hDc : va_D A [(u, .inr (2, [.int e0, .int (nI n), .int (nI w), .ref c1, .ref c2, .ref c3, .ref c4, .int e7, .int e8, .int e9, .int e10])), (c1, .inl (cI, 40, .inl F)), (c2, .inl (cI, 40, .inl V)), (c3, .inl (cI, 40, .inl O)), (c4, .inl (cI, 40, .inl Y))] := hD.sub [0, 1, 2, 3, 4] (by decide) rfl
  have hFc := va_free (wc := [(u, .inr (2, [.int e0, .int (nI n), .int (nI w), .ref c1, .ref c2, .ref c3, .ref c4, .int e7, .int e8, .int e9, .int e10])), (c1, .inl (cI, 40, .inl F)), (c2, .inl (cI, 40, .inl V)), (c3, .inl (cI, 40, .inl O)), (c4, .inl (cI, 40, .inl Y))]) hD hS hA [0, 1, 2, 3, 4] rfl
  refine pq_i (va_runV (rest := [.ref u]) CF (m_X2_far l D cI u c1 c2 c3 c4 S O Y e0 e7 e8 e9 e10  H.size) (cwV 0 hts gX2_farthest_X2_far rfl rfl rfl k_X2_far ⟨Nat.le_of_ble_eq_true rfl, Nat.le_of_ble_eq_true rfl⟩) (mv_pre hK hPc hDc rfl rfl rfl) rfl rfl hl.1 rfl (lv_room (Nat.le_of_ble_eq_true rfl)) dX2_farthest_2 ⟨Nat.le_of_ble_eq_true rfl, Nat.le_of_ble_eq_true rfl⟩) hS hFc (fun r1 H locs hB hk1 hS => ?_)
  obtain ⟨rfl, d7, d8, d9, d10, hP1⟩ := hB
  obtain ⟨hP, hD⟩ := jn (wb := [(u, .inr (2, [.int e0, .int (nI n), .int (nI w), .ref c1, .ref c2, .ref c3, .ref c4, .int d7, .int d8, .int d9, .int d10])), (c1, .inl (cI, 40, .inl F)), (c2, .inl (cI, 40, .inl V)), (c3, .inl (cI, 40, .inl O)), (c4, .inl (cI, 40, .inl Y))]) (w1 := [(u, .inr (2, [.int e0, .int (nI n), .int (nI w), .ref c1, .ref c2, .ref c3, .ref c4, .int d7, .int d8, .int d9, .int d10])), (c1, .inl (cI, 40, .inl F)), (c2, .inl (cI, 40, .inl V)), (c3, .inl (cI, 40, .inl O)), (c4, .inl (cI, 40, .inl Y))]) hP hD [0, 1, 2, 3, 4] [] rfl rfl rfl rfl 5 rfl (by decide) (by decide) hk1 hP1
  have hPc : va_P D vwCl [(u, .inr (2, [.int e0, .int (nI n), .int (nI w), .ref c1, .ref c2, .ref c3, .ref c4, .int d7, .int d8, .int d9, .int d10])), (c1, .inl (cI, 40, .inl F)), (c2, .inl (cI, 40, .inl V)), (c3, .inl (cI, 40, .inl O)), (c4, .inl (cI, 40, .inl Y))] H := hP.sub [0, 1, 2, 3, 4] rfl
  have hDc : va_D A [(u, .inr (2, [.int e0, .int (nI n), .int (nI w), .ref c1, .ref c2, .ref c3, .ref c4, .int d7, .int d8, .int d9, .int d10])), (c1, .inl (cI, 40, .inl F)), (c2, .inl (cI, 40, .inl V)), (c3, .inl (cI, 40, .inl O)), (c4, .inl (cI, 40, .inl Y))] := hD.sub [0, 1, 2, 3, 4] (by decide) rfl
  have hFc := va_free (wc := [(u, .inr (2, [.int e0, .int (nI n), .int (nI w), .ref c1, .ref c2, .ref c3, .ref c4, .int d7, .int d8, .int d9, .int d10])), (c1, .inl (cI, 40, .inl F)), (c2, .inl (cI, 40, .inl V)), (c3, .inl (cI, 40, .inl O)), (c4, .inl (cI, 40, .inl Y))]) hD hS hA [0, 1, 2, 3, 4] rfl
  refine pq_i (va_runV (rest := []) CF (m_X2_ok l D cI u c1 c2 c3 c4 S O Y e0 d7 d8 d9 d10 ((fa n w f).1) H.size) (cwV 1 hts gX2_farthest_X2_ok rfl rfl rfl k_X2_ok ⟨Nat.le_of_ble_eq_true rfl, Nat.le_of_ble_eq_true rfl⟩) (mv_pre hK hPc hDc rfl rfl rfl) rfl rfl hl.1 rfl (lv_room (Nat.le_of_ble_eq_true rfl)) dX2_farthest_5 ⟨Nat.le_of_ble_eq_true rfl, Nat.le_of_ble_eq_true rfl⟩) hS hFc (fun r1 H locs hB hk1 hS => ?_)
  obtain ⟨rfl, hP1⟩ := hB
  obtain ⟨hP, hD⟩ := jn (wb := [(u, .inr (2, [.int (nI 0), .int (nI n), .int (nI w), .ref c1, .ref c2, .ref c3, .ref c4, .int d7, .int d8, .int d9, .int d10])), (c1, .inl (cI, 40, .inl F)), (c2, .inl (cI, 40, .inl V)), (c3, .inl (cI, 40, .inl O)), (c4, .inl (cI, 40, .inl Y))]) (w1 := [(u, .inr (2, [.int (nI 0), .int (nI n), .int (nI w), .ref c1, .ref c2, .ref c3, .ref c4, .int d7, .int d8, .int d9, .int d10])), (c1, .inl (cI, 40, .inl F)), (c2, .inl (cI, 40, .inl V)), (c3, .inl (cI, 40, .inl O)), (c4, .inl (cI, 40, .inl Y))]) hP hD [0, 1, 2, 3, 4] [] rfl rfl rfl rfl 5 rfl (by decide) (by decide) hk1 hP1
  exact em_i hx hb hr hlocks hS (⟨rfl, _, _, _, _, hP⟩) dX2_farthest_8
theorem k_X2_bestWay : yX2_bestWay.cls = RX2 ∧ yX2_bestWay.cls ≠ "java/lang/invoke/MethodHandle" ∧ yX2_bestWay.cls ≠ "java/lang/invoke/VarHandle" ∧ (parseMethodDescriptor yX2_bestWay.desc).map (fun d => d.parameters.length) = some 0 := by decide +kernel
set_option maxHeartbeats 4000000 in
set_option maxRecDepth 100000 in
theorem m_X2_bestWay (l : Launch) (D : va_G) (cI : ClassId) (u c1 c2 c3 c4 : Nat) {n w : Nat} {F V f g : Nat → Int32} (S : MS n w F V f g) (O Y : Nat → Int32) (e0 e7 e8 e9 e10 : Int32) (sz : Nat) : Met l yX2_bestWay wsX2_bestWay ({ frames := 3, cells := 0, slots := 0, locals := 74 } : Room) (PM D [(cI, .int)] [.ref u] sz (mdw cI u c1 c2 c3 c4 e0 n w F V O Y e7 e8 e9 e10)) (qm_i (fun rr H1 => rr = (bst n f g).1 ∧ ∃ (O3 Y3 : Nat → Int32) (d7 d8 d9 d10 : Int32), va_P D vwCl (mdw cI u c1 c2 c3 c4 (nI 0) n w F V O3 Y3 d7 d8 d9 d10) H1) (va_A (mdw cI u c1 c2 c3 c4 e0 n w F V O Y e7 e8 e9 e10) sz)) 0 0 (va_A (mdw cI u c1 c2 c3 c4 e0 n w F V O Y e7 e8 e9 e10) sz) := by
  obtain ⟨hn3, hn, hw2, hF, hV, hO⟩ := id S
  refine bd_m (Qc := (fun A => qm_i (fun rr H1 => rr = (bst n f g).1 ∧ ∃ (O3 Y3 : Nat → Int32) (d7 d8 d9 d10 : Int32), va_P D vwCl (mdw cI u c1 c2 c3 c4 (nI 0) n w F V O3 Y3 d7 d8 d9 d10) H1) A)) (cc := cX2_bestWay) (maxL := 1) (ret := (some .int)) (by decide) rfl (Nat.le_of_ble_eq_true rfl) ?_
  intro p e s m args below meth c ls A CF hr hlocks hK hP hD hA hS hl hin
  obtain ⟨hx, hb, hml, hown, hts⟩ := id CF
  have hl : lv_has ls 1 [(0, .ref u)] := hl
  have hP : va_P D vwCl [(u, .inr (2, [.int e0, .int (nI n), .int (nI w), .ref c1, .ref c2, .ref c3, .ref c4, .int e7, .int e8, .int e9, .int e10])), (c1, .inl (cI, 40, .inl F)), (c2, .inl (cI, 40, .inl V)), (c3, .inl (cI, 40, .inl O)), (c4, .inl (cI, 40, .inl Y))] s.heap := hP
  have hD : va_D A [(u, .inr (2, [.int e0, .int (nI n), .int (nI w), .ref c1, .ref c2, .ref c3, .ref c4, .int e7, .int e8, .int e9, .int e10])), (c1, .inl (cI, 40, .inl F)), (c2, .inl (cI, 40, .inl V)), (c3, .inl (cI, 40, .inl O)), (c4, .inl (cI, 40, .inl Y))] := hD
  generalize hH0 : s.heap = H at hP
  have hS : va_S A s.heap H [] := by rw [← hH0]; exact va_S.rf
  generalize hlc0 : ([] : List Loc) = locs at hS ⊢
  refine lv_aload_n hx hb dX2_bestWay_0 rfl (lv_at hl 0 rfl) ?_
  refine lv_aload_n hx hb dX2_bestWay_1 rfl (lv_at hl 0 rfl) ?_
  have hPc : va_P D vwCl [(u, .inr (2, [.int e0, .int (nI n), .int (nI w), .ref c1, .ref c2, .ref c3, .ref c4, .int e7, .int e8, .int e9, .int e10])), (c1, .inl (cI, 40, .inl F)), (c2, .inl (cI, 40, .inl V)), (c3, .inl (cI, 40, .inl O)), (c4, .inl (cI, 40, .inl Y))] H := hP.sub [0, 1, 2, 3, 4] rfl
  have hDc : va_D A [(u, .inr (2, [.int e0, .int (nI n), .int (nI w), .ref c1, .ref c2, .ref c3, .ref c4, .int e7, .int e8, .int e9, .int e10])), (c1, .inl (cI, 40, .inl F)), (c2, .inl (cI, 40, .inl V)), (c3, .inl (cI, 40, .inl O)), (c4, .inl (cI, 40, .inl Y))] := hD.sub [0, 1, 2, 3, 4] (by decide) rfl
  have hFc := va_free (wc := [(u, .inr (2, [.int e0, .int (nI n), .int (nI w), .ref c1, .ref c2, .ref c3, .ref c4, .int e7, .int e8, .int e9, .int e10])), (c1, .inl (cI, 40, .inl F)), (c2, .inl (cI, 40, .inl V)), (c3, .inl (cI, 40, .inl O)), (c4, .inl (cI, 40, .inl Y))]) hD hS hA [0, 1, 2, 3, 4] rfl
  refine pq_i (va_runV (rest := [.ref u]) CF (m_X2_best l D cI u c1 c2 c3 c4 S O Y e0 e7 e8 e9 e10  H.size) (cwV 0 hts gX2_bestWay_X2_best rfl rfl rfl k_X2_best ⟨Nat.le_of_ble_eq_true rfl, Nat.le_of_ble_eq_true rfl⟩) (mv_pre hK hPc hDc rfl rfl rfl) rfl rfl hl.1 rfl (lv_room (Nat.le_of_ble_eq_true rfl)) dX2_bestWay_2 ⟨Nat.le_of_ble_eq_true rfl, Nat.le_of_ble_eq_true rfl⟩) hS hFc (fun r1 H locs hB hk1 hS => ?_)
  obtain ⟨rfl, O3, Y3, d7, d8, d9, d10, hP1⟩ := hB
  obtain ⟨hP, hD⟩ := jn (wb := [(u, .inr (2, [.int e0, .int (nI n), .int (nI w), .ref c1, .ref c2, .ref c3, .ref c4, .int d7, .int d8, .int d9, .int d10])), (c1, .inl (cI, 40, .inl F)), (c2, .inl (cI, 40, .inl V)), (c3, .inl (cI, 40, .inl O3)), (c4, .inl (cI, 40, .inl Y3))]) (w1 := [(u, .inr (2, [.int e0, .int (nI n), .int (nI w), .ref c1, .ref c2, .ref c3, .ref c4, .int d7, .int d8, .int d9, .int d10])), (c1, .inl (cI, 40, .inl F)), (c2, .inl (cI, 40, .inl V)), (c3, .inl (cI, 40, .inl O3)), (c4, .inl (cI, 40, .inl Y3))]) hP hD [0, 1, 2, 3, 4] [] rfl rfl rfl rfl 5 rfl (by decide) (by decide) hk1 hP1
  have hPc : va_P D vwCl [(u, .inr (2, [.int e0, .int (nI n), .int (nI w), .ref c1, .ref c2, .ref c3, .ref c4, .int d7, .int d8, .int d9, .int d10])), (c1, .inl (cI, 40, .inl F)), (c2, .inl (cI, 40, .inl V)), (c3, .inl (cI, 40, .inl O3)), (c4, .inl (cI, 40, .inl Y3))] H := hP.sub [0, 1, 2, 3, 4] rfl
  have hDc : va_D A [(u, .inr (2, [.int e0, .int (nI n), .int (nI w), .ref c1, .ref c2, .ref c3, .ref c4, .int d7, .int d8, .int d9, .int d10])), (c1, .inl (cI, 40, .inl F)), (c2, .inl (cI, 40, .inl V)), (c3, .inl (cI, 40, .inl O3)), (c4, .inl (cI, 40, .inl Y3))] := hD.sub [0, 1, 2, 3, 4] (by decide) rfl
  have hFc := va_free (wc := [(u, .inr (2, [.int e0, .int (nI n), .int (nI w), .ref c1, .ref c2, .ref c3, .ref c4, .int d7, .int d8, .int d9, .int d10])), (c1, .inl (cI, 40, .inl F)), (c2, .inl (cI, 40, .inl V)), (c3, .inl (cI, 40, .inl O3)), (c4, .inl (cI, 40, .inl Y3))]) hD hS hA [0, 1, 2, 3, 4] rfl
  refine pq_i (va_runV (rest := []) CF (m_X2_ok l D cI u c1 c2 c3 c4 S O3 Y3 e0 d7 d8 d9 d10 ((bst n f g).1) H.size) (cwV 1 hts gX2_bestWay_X2_ok rfl rfl rfl k_X2_ok ⟨Nat.le_of_ble_eq_true rfl, Nat.le_of_ble_eq_true rfl⟩) (mv_pre hK hPc hDc rfl rfl rfl) rfl rfl hl.1 rfl (lv_room (Nat.le_of_ble_eq_true rfl)) dX2_bestWay_5 ⟨Nat.le_of_ble_eq_true rfl, Nat.le_of_ble_eq_true rfl⟩) hS hFc (fun r1 H locs hB hk1 hS => ?_)
  obtain ⟨rfl, hP1⟩ := hB
  obtain ⟨hP, hD⟩ := jn (wb := [(u, .inr (2, [.int (nI 0), .int (nI n), .int (nI w), .ref c1, .ref c2, .ref c3, .ref c4, .int d7, .int d8, .int d9, .int d10])), (c1, .inl (cI, 40, .inl F)), (c2, .inl (cI, 40, .inl V)), (c3, .inl (cI, 40, .inl O3)), (c4, .inl (cI, 40, .inl Y3))]) (w1 := [(u, .inr (2, [.int (nI 0), .int (nI n), .int (nI w), .ref c1, .ref c2, .ref c3, .ref c4, .int d7, .int d8, .int d9, .int d10])), (c1, .inl (cI, 40, .inl F)), (c2, .inl (cI, 40, .inl V)), (c3, .inl (cI, 40, .inl O3)), (c4, .inl (cI, 40, .inl Y3))]) hP hD [0, 1, 2, 3, 4] [] rfl rfl rfl rfl 5 rfl (by decide) (by decide) hk1 hP1
  exact em_i hx hb hr hlocks hS (⟨rfl, _, _, _, _, _, _, hP⟩) dX2_bestWay_8
theorem k_X2_stateOf : yX2_stateOf.cls = RX2 ∧ yX2_stateOf.cls ≠ "java/lang/invoke/MethodHandle" ∧ yX2_stateOf.cls ≠ "java/lang/invoke/VarHandle" ∧ (parseMethodDescriptor yX2_stateOf.desc).map (fun d => d.parameters.length) = some 1 := by decide +kernel
set_option maxHeartbeats 4000000 in
set_option maxRecDepth 100000 in
theorem m_X2_stateOf (l : Launch) (D : va_G) (cI : ClassId) (u c1 c2 c3 c4 : Nat) {n w : Nat} {F V f g : Nat → Int32} (S : MS n w F V f g) (O Y : Nat → Int32) (e0 e7 e8 e9 e10 : Int32) (x : Int32) (sz : Nat) : Met l yX2_stateOf wsX2_stateOf ({ frames := 2, cells := 0, slots := 0, locals := 43 } : Room) (PM D [(cI, .int)] [.ref u, .int x] sz (mdw cI u c1 c2 c3 c4 e0 n w F V O Y e7 e8 e9 e10)) (qm_i (fun rr H1 => ∃ c : Int32, Q1 (rh n x) (Rk n x (fun k => st (f k))) c rr ∧ va_P D vwCl (mdw cI u c1 c2 c3 c4 c n w F V O Y e7 e8 e9 e10) H1) (va_A (mdw cI u c1 c2 c3 c4 e0 n w F V O Y e7 e8 e9 e10) sz)) 0 0 (va_A (mdw cI u c1 c2 c3 c4 e0 n w F V O Y e7 e8 e9 e10) sz) := by
  obtain ⟨hn3, hn, hw2, hF, hV, hO⟩ := id S
  refine bd_m (Qc := (fun A => qm_i (fun rr H1 => ∃ c : Int32, Q1 (rh n x) (Rk n x (fun k => st (f k))) c rr ∧ va_P D vwCl (mdw cI u c1 c2 c3 c4 c n w F V O Y e7 e8 e9 e10) H1) A)) (cc := cX2_stateOf) (maxL := 2) (ret := (some .int)) (by decide) rfl (Nat.le_of_ble_eq_true rfl) ?_
  intro p e s m args below meth c ls A CF hr hlocks hK hP hD hA hS hl hin
  obtain ⟨hx, hb, hml, hown, hts⟩ := id CF
  have hl : lv_has ls 2 [(0, .ref u), (1, .int x)] := hl
  have hP : va_P D vwCl [(u, .inr (2, [.int e0, .int (nI n), .int (nI w), .ref c1, .ref c2, .ref c3, .ref c4, .int e7, .int e8, .int e9, .int e10])), (c1, .inl (cI, 40, .inl F)), (c2, .inl (cI, 40, .inl V)), (c3, .inl (cI, 40, .inl O)), (c4, .inl (cI, 40, .inl Y))] s.heap := hP
  have hD : va_D A [(u, .inr (2, [.int e0, .int (nI n), .int (nI w), .ref c1, .ref c2, .ref c3, .ref c4, .int e7, .int e8, .int e9, .int e10])), (c1, .inl (cI, 40, .inl F)), (c2, .inl (cI, 40, .inl V)), (c3, .inl (cI, 40, .inl O)), (c4, .inl (cI, 40, .inl Y))] := hD
  generalize hH0 : s.heap = H at hP
  have hS : va_S A s.heap H [] := by rw [← hH0]; exact va_S.rf
  generalize hlc0 : ([] : List Loc) = locs at hS ⊢
  refine lv_aload_n hx hb dX2_stateOf_0 rfl (lv_at hl 0 rfl) ?_
  refine lv_iconst (v := nI 0) hx hb dX2_stateOf_1 (by decide) ?_
  refine va_put (D := D) (ci := 2) (v := .int (nI 0)) (ty := .int) (C := RX2) (T := TX2) (N := 11) hx hb hts (fun _ h => (List.mem_cons_of_mem _ (List.mem_append_right _ h))) tyX2 tyX2_ok nmX2 hown hK hP hD hS 0 rfl rfl 0 (by decide) (hts _ (List.mem_of_getElem? (i := 1) rfl)) (fun _ h9 => h9) rfl (by decide +kernel) rfl rfl (Nat.le_of_ble_eq_true rfl) dX2_stateOf_2 (fun H locs hP hD hS => ?_)
  have hP : va_P D vwCl [(u, .inr (2, [.int (nI 0), .int (nI n), .int (nI w), .ref c1, .ref c2, .ref c3, .ref c4, .int e7, .int e8, .int e9, .int e10])), (c1, .inl (cI, 40, .inl F)), (c2, .inl (cI, 40, .inl V)), (c3, .inl (cI, 40, .inl O)), (c4, .inl (cI, 40, .inl Y))] H := hP
  have hD : va_D A [(u, .inr (2, [.int (nI 0), .int (nI n), .int (nI w), .ref c1, .ref c2, .ref c3, .ref c4, .int e7, .int e8, .int e9, .int e10])), (c1, .inl (cI, 40, .inl F)), (c2, .inl (cI, 40, .inl V)), (c3, .inl (cI, 40, .inl O)), (c4, .inl (cI, 40, .inl Y))] := hD
  refine lv_aload_n hx hb dX2_stateOf_5 rfl (lv_at hl 0 rfl) ?_
  refine lv_iload_n hx hb dX2_stateOf_6 rfl (lv_at hl 1 rfl) ?_
  refine pv_i CF (m_X2_isHook l D cI u c1 c2 c3 c4 S O Y (nI 0) e7 e8 e9 e10 x) (cwV 1 hts gX2_stateOf_X2_isHook rfl rfl rfl k_X2_isHook ⟨Nat.le_of_ble_eq_true rfl, Nat.le_of_ble_eq_true rfl⟩) hK hP rfl rfl rfl rfl hl.1 rfl (Nat.le_of_ble_eq_true rfl) dX2_stateOf_7 ⟨Nat.le_of_ble_eq_true rfl, Nat.le_of_ble_eq_true rfl⟩ ?_
  refine lv_if_eq (tgt := 21) hx hb dX2_stateOf_10 (by decide) (fun c10 => ?_) (fun c10 => ?_)
  · skip
    refine lv_aload_n hx hb dX2_stateOf_21 rfl (lv_at hl 0 rfl) ?_
    refine lv_iconst (v := nI 1) hx hb dX2_stateOf_22 (by decide) ?_
    have hPc : va_P D vwCl [(u, .inr (2, [.int (nI 0), .int (nI n), .int (nI w), .ref c1, .ref c2, .ref c3, .ref c4, .int e7, .int e8, .int e9, .int e10])), (c1, .inl (cI, 40, .inl F)), (c2, .inl (cI, 40, .inl V)), (c3, .inl (cI, 40, .inl O)), (c4, .inl (cI, 40, .inl Y))] H := hP.sub [0, 1, 2, 3, 4] rfl
    have hDc : va_D A [(u, .inr (2, [.int (nI 0), .int (nI n), .int (nI w), .ref c1, .ref c2, .ref c3, .ref c4, .int e7, .int e8, .int e9, .int e10])), (c1, .inl (cI, 40, .inl F)), (c2, .inl (cI, 40, .inl V)), (c3, .inl (cI, 40, .inl O)), (c4, .inl (cI, 40, .inl Y))] := hD.sub [0, 1, 2, 3, 4] (by decide) rfl
    have hFc := va_free (wc := [(u, .inr (2, [.int (nI 0), .int (nI n), .int (nI w), .ref c1, .ref c2, .ref c3, .ref c4, .int e7, .int e8, .int e9, .int e10])), (c1, .inl (cI, 40, .inl F)), (c2, .inl (cI, 40, .inl V)), (c3, .inl (cI, 40, .inl O)), (c4, .inl (cI, 40, .inl Y))]) hD hS hA [0, 1, 2, 3, 4] rfl
    refine pq_i (va_runV (rest := []) CF (m_X2_no l D cI u c1 c2 c3 c4 S O Y (nI 0) e7 e8 e9 e10 (nI 1) H.size) (cwV 1 hts gX2_stateOf_X2_no rfl rfl rfl k_X2_no ⟨Nat.le_of_ble_eq_true rfl, Nat.le_of_ble_eq_true rfl⟩) (mv_pre hK hPc hDc rfl rfl rfl) rfl rfl hl.1 rfl (lv_room (Nat.le_of_ble_eq_true rfl)) dX2_stateOf_23 ⟨Nat.le_of_ble_eq_true rfl, Nat.le_of_ble_eq_true rfl⟩) hS hFc (fun r1 H locs hB hk1 hS => ?_)
    obtain ⟨rfl, hP1⟩ := hB
    obtain ⟨hP, hD⟩ := jn (wb := [(u, .inr (2, [.int (nI 1), .int (nI n), .int (nI w), .ref c1, .ref c2, .ref c3, .ref c4, .int e7, .int e8, .int e9, .int e10])), (c1, .inl (cI, 40, .inl F)), (c2, .inl (cI, 40, .inl V)), (c3, .inl (cI, 40, .inl O)), (c4, .inl (cI, 40, .inl Y))]) (w1 := [(u, .inr (2, [.int (nI 1), .int (nI n), .int (nI w), .ref c1, .ref c2, .ref c3, .ref c4, .int e7, .int e8, .int e9, .int e10])), (c1, .inl (cI, 40, .inl F)), (c2, .inl (cI, 40, .inl V)), (c3, .inl (cI, 40, .inl O)), (c4, .inl (cI, 40, .inl Y))]) hP hD [0, 1, 2, 3, 4] [] rfl rfl rfl rfl 5 rfl (by decide) (by decide) hk1 hP1
    exact em_i hx hb hr hlocks hS (⟨_, Or.inl ⟨fun z => isI_no (by decide) (by omega) c10 ((rg_rh hn3).mpr z), rfl⟩, hP⟩) dX2_stateOf_26
  · skip
    obtain ⟨k, hk, ex⟩ := (rg_rh hn3).mp (isI_yes (Nat.zero_le _) (by omega) c10)
    rw [ex] at hl
    refine lv_aload_n hx hb dX2_stateOf_13 rfl (lv_at hl 0 rfl) ?_
    refine lv_iload_n hx hb dX2_stateOf_14 rfl (lv_at hl 1 rfl) ?_
    refine pv_i CF (m_X2_state l D cI u c1 c2 c3 c4 S O Y (nI 0) e7 e8 e9 e10 k hk) (cwV 1 hts gX2_stateOf_X2_state rfl rfl rfl k_X2_state ⟨Nat.le_of_ble_eq_true rfl, Nat.le_of_ble_eq_true rfl⟩) hK hP rfl rfl rfl rfl hl.1 rfl (Nat.le_of_ble_eq_true rfl) dX2_stateOf_15 ⟨Nat.le_of_ble_eq_true rfl, Nat.le_of_ble_eq_true rfl⟩ ?_
    refine lv_goto (tgt := 26) hx hb dX2_stateOf_18 (by decide) ?_
    exact em_i hx hb hr hlocks hS (⟨_, Or.inr ⟨rfl, k, hk, ex, rfl⟩, hP⟩) dX2_stateOf_26
theorem k_X2_coatAt : yX2_coatAt.cls = RX2 ∧ yX2_coatAt.cls ≠ "java/lang/invoke/MethodHandle" ∧ yX2_coatAt.cls ≠ "java/lang/invoke/VarHandle" ∧ (parseMethodDescriptor yX2_coatAt.desc).map (fun d => d.parameters.length) = some 1 := by decide +kernel
set_option maxHeartbeats 4000000 in
set_option maxRecDepth 100000 in
theorem m_X2_coatAt (l : Launch) (D : va_G) (cI : ClassId) (u c1 c2 c3 c4 : Nat) {n w : Nat} {F V f g : Nat → Int32} (S : MS n w F V f g) (O Y : Nat → Int32) (e0 e7 e8 e9 e10 : Int32) (x : Int32) (sz : Nat) : Met l yX2_coatAt wsX2_coatAt ({ frames := 2, cells := 0, slots := 0, locals := 43 } : Room) (PM D [(cI, .int)] [.ref u, .int x] sz (mdw cI u c1 c2 c3 c4 e0 n w F V O Y e7 e8 e9 e10)) (qm_i (fun rr H1 => ∃ c : Int32, Q1 (rh n x) (Rk n x (fun k => cn (f k))) c rr ∧ va_P D vwCl (mdw cI u c1 c2 c3 c4 c n w F V O Y e7 e8 e9 e10) H1) (va_A (mdw cI u c1 c2 c3 c4 e0 n w F V O Y e7 e8 e9 e10) sz)) 0 0 (va_A (mdw cI u c1 c2 c3 c4 e0 n w F V O Y e7 e8 e9 e10) sz) := by
  obtain ⟨hn3, hn, hw2, hF, hV, hO⟩ := id S
  refine bd_m (Qc := (fun A => qm_i (fun rr H1 => ∃ c : Int32, Q1 (rh n x) (Rk n x (fun k => cn (f k))) c rr ∧ va_P D vwCl (mdw cI u c1 c2 c3 c4 c n w F V O Y e7 e8 e9 e10) H1) A)) (cc := cX2_coatAt) (maxL := 2) (ret := (some .int)) (by decide) rfl (Nat.le_of_ble_eq_true rfl) ?_
  intro p e s m args below meth c ls A CF hr hlocks hK hP hD hA hS hl hin
  obtain ⟨hx, hb, hml, hown, hts⟩ := id CF
  have hl : lv_has ls 2 [(0, .ref u), (1, .int x)] := hl
  have hP : va_P D vwCl [(u, .inr (2, [.int e0, .int (nI n), .int (nI w), .ref c1, .ref c2, .ref c3, .ref c4, .int e7, .int e8, .int e9, .int e10])), (c1, .inl (cI, 40, .inl F)), (c2, .inl (cI, 40, .inl V)), (c3, .inl (cI, 40, .inl O)), (c4, .inl (cI, 40, .inl Y))] s.heap := hP
  have hD : va_D A [(u, .inr (2, [.int e0, .int (nI n), .int (nI w), .ref c1, .ref c2, .ref c3, .ref c4, .int e7, .int e8, .int e9, .int e10])), (c1, .inl (cI, 40, .inl F)), (c2, .inl (cI, 40, .inl V)), (c3, .inl (cI, 40, .inl O)), (c4, .inl (cI, 40, .inl Y))] := hD
  generalize hH0 : s.heap = H at hP
  have hS : va_S A s.heap H [] := by rw [← hH0]; exact va_S.rf
  generalize hlc0 : ([] : List Loc) = locs at hS ⊢
  refine lv_aload_n hx hb dX2_coatAt_0 rfl (lv_at hl 0 rfl) ?_
  refine lv_iconst (v := nI 0) hx hb dX2_coatAt_1 (by decide) ?_
  refine va_put (D := D) (ci := 2) (v := .int (nI 0)) (ty := .int) (C := RX2) (T := TX2) (N := 11) hx hb hts (fun _ h => (List.mem_cons_of_mem _ (List.mem_append_right _ h))) tyX2 tyX2_ok nmX2 hown hK hP hD hS 0 rfl rfl 0 (by decide) (hts _ (List.mem_of_getElem? (i := 1) rfl)) (fun _ h9 => h9) rfl (by decide +kernel) rfl rfl (Nat.le_of_ble_eq_true rfl) dX2_coatAt_2 (fun H locs hP hD hS => ?_)
  have hP : va_P D vwCl [(u, .inr (2, [.int (nI 0), .int (nI n), .int (nI w), .ref c1, .ref c2, .ref c3, .ref c4, .int e7, .int e8, .int e9, .int e10])), (c1, .inl (cI, 40, .inl F)), (c2, .inl (cI, 40, .inl V)), (c3, .inl (cI, 40, .inl O)), (c4, .inl (cI, 40, .inl Y))] H := hP
  have hD : va_D A [(u, .inr (2, [.int (nI 0), .int (nI n), .int (nI w), .ref c1, .ref c2, .ref c3, .ref c4, .int e7, .int e8, .int e9, .int e10])), (c1, .inl (cI, 40, .inl F)), (c2, .inl (cI, 40, .inl V)), (c3, .inl (cI, 40, .inl O)), (c4, .inl (cI, 40, .inl Y))] := hD
  refine lv_aload_n hx hb dX2_coatAt_5 rfl (lv_at hl 0 rfl) ?_
  refine lv_iload_n hx hb dX2_coatAt_6 rfl (lv_at hl 1 rfl) ?_
  refine pv_i CF (m_X2_isHook l D cI u c1 c2 c3 c4 S O Y (nI 0) e7 e8 e9 e10 x) (cwV 1 hts gX2_coatAt_X2_isHook rfl rfl rfl k_X2_isHook ⟨Nat.le_of_ble_eq_true rfl, Nat.le_of_ble_eq_true rfl⟩) hK hP rfl rfl rfl rfl hl.1 rfl (Nat.le_of_ble_eq_true rfl) dX2_coatAt_7 ⟨Nat.le_of_ble_eq_true rfl, Nat.le_of_ble_eq_true rfl⟩ ?_
  refine lv_if_eq (tgt := 21) hx hb dX2_coatAt_10 (by decide) (fun c10 => ?_) (fun c10 => ?_)
  · skip
    refine lv_aload_n hx hb dX2_coatAt_21 rfl (lv_at hl 0 rfl) ?_
    refine lv_iconst (v := nI 1) hx hb dX2_coatAt_22 (by decide) ?_
    have hPc : va_P D vwCl [(u, .inr (2, [.int (nI 0), .int (nI n), .int (nI w), .ref c1, .ref c2, .ref c3, .ref c4, .int e7, .int e8, .int e9, .int e10])), (c1, .inl (cI, 40, .inl F)), (c2, .inl (cI, 40, .inl V)), (c3, .inl (cI, 40, .inl O)), (c4, .inl (cI, 40, .inl Y))] H := hP.sub [0, 1, 2, 3, 4] rfl
    have hDc : va_D A [(u, .inr (2, [.int (nI 0), .int (nI n), .int (nI w), .ref c1, .ref c2, .ref c3, .ref c4, .int e7, .int e8, .int e9, .int e10])), (c1, .inl (cI, 40, .inl F)), (c2, .inl (cI, 40, .inl V)), (c3, .inl (cI, 40, .inl O)), (c4, .inl (cI, 40, .inl Y))] := hD.sub [0, 1, 2, 3, 4] (by decide) rfl
    have hFc := va_free (wc := [(u, .inr (2, [.int (nI 0), .int (nI n), .int (nI w), .ref c1, .ref c2, .ref c3, .ref c4, .int e7, .int e8, .int e9, .int e10])), (c1, .inl (cI, 40, .inl F)), (c2, .inl (cI, 40, .inl V)), (c3, .inl (cI, 40, .inl O)), (c4, .inl (cI, 40, .inl Y))]) hD hS hA [0, 1, 2, 3, 4] rfl
    refine pq_i (va_runV (rest := []) CF (m_X2_no l D cI u c1 c2 c3 c4 S O Y (nI 0) e7 e8 e9 e10 (nI 1) H.size) (cwV 1 hts gX2_coatAt_X2_no rfl rfl rfl k_X2_no ⟨Nat.le_of_ble_eq_true rfl, Nat.le_of_ble_eq_true rfl⟩) (mv_pre hK hPc hDc rfl rfl rfl) rfl rfl hl.1 rfl (lv_room (Nat.le_of_ble_eq_true rfl)) dX2_coatAt_23 ⟨Nat.le_of_ble_eq_true rfl, Nat.le_of_ble_eq_true rfl⟩) hS hFc (fun r1 H locs hB hk1 hS => ?_)
    obtain ⟨rfl, hP1⟩ := hB
    obtain ⟨hP, hD⟩ := jn (wb := [(u, .inr (2, [.int (nI 1), .int (nI n), .int (nI w), .ref c1, .ref c2, .ref c3, .ref c4, .int e7, .int e8, .int e9, .int e10])), (c1, .inl (cI, 40, .inl F)), (c2, .inl (cI, 40, .inl V)), (c3, .inl (cI, 40, .inl O)), (c4, .inl (cI, 40, .inl Y))]) (w1 := [(u, .inr (2, [.int (nI 1), .int (nI n), .int (nI w), .ref c1, .ref c2, .ref c3, .ref c4, .int e7, .int e8, .int e9, .int e10])), (c1, .inl (cI, 40, .inl F)), (c2, .inl (cI, 40, .inl V)), (c3, .inl (cI, 40, .inl O)), (c4, .inl (cI, 40, .inl Y))]) hP hD [0, 1, 2, 3, 4] [] rfl rfl rfl rfl 5 rfl (by decide) (by decide) hk1 hP1
    exact em_i hx hb hr hlocks hS (⟨_, Or.inl ⟨fun z => isI_no (by decide) (by omega) c10 ((rg_rh hn3).mpr z), rfl⟩, hP⟩) dX2_coatAt_26
  · skip
    obtain ⟨k, hk, ex⟩ := (rg_rh hn3).mp (isI_yes (Nat.zero_le _) (by omega) c10)
    rw [ex] at hl
    refine lv_aload_n hx hb dX2_coatAt_13 rfl (lv_at hl 0 rfl) ?_
    refine lv_iload_n hx hb dX2_coatAt_14 rfl (lv_at hl 1 rfl) ?_
    refine pv_i CF (m_X2_coat l D cI u c1 c2 c3 c4 S O Y (nI 0) e7 e8 e9 e10 k hk) (cwV 1 hts gX2_coatAt_X2_coat rfl rfl rfl k_X2_coat ⟨Nat.le_of_ble_eq_true rfl, Nat.le_of_ble_eq_true rfl⟩) hK hP rfl rfl rfl rfl hl.1 rfl (Nat.le_of_ble_eq_true rfl) dX2_coatAt_15 ⟨Nat.le_of_ble_eq_true rfl, Nat.le_of_ble_eq_true rfl⟩ ?_
    refine lv_goto (tgt := 26) hx hb dX2_coatAt_18 (by decide) ?_
    exact em_i hx hb hr hlocks hS (⟨_, Or.inr ⟨rfl, k, hk, ex, rfl⟩, hP⟩) dX2_coatAt_26
theorem k_X2_weightAt : yX2_weightAt.cls = RX2 ∧ yX2_weightAt.cls ≠ "java/lang/invoke/MethodHandle" ∧ yX2_weightAt.cls ≠ "java/lang/invoke/VarHandle" ∧ (parseMethodDescriptor yX2_weightAt.desc).map (fun d => d.parameters.length) = some 1 := by decide +kernel
set_option maxHeartbeats 4000000 in
set_option maxRecDepth 100000 in
theorem m_X2_weightAt (l : Launch) (D : va_G) (cI : ClassId) (u c1 c2 c3 c4 : Nat) {n w : Nat} {F V f g : Nat → Int32} (S : MS n w F V f g) (O Y : Nat → Int32) (e0 e7 e8 e9 e10 : Int32) (x : Int32) (sz : Nat) : Met l yX2_weightAt wsX2_weightAt ({ frames := 2, cells := 0, slots := 0, locals := 43 } : Room) (PM D [(cI, .int)] [.ref u, .int x] sz (mdw cI u c1 c2 c3 c4 e0 n w F V O Y e7 e8 e9 e10)) (qm_i (fun rr H1 => ∃ c : Int32, Q1 (rh n x) (Rk n x (fun k => g k)) c rr ∧ va_P D vwCl (mdw cI u c1 c2 c3 c4 c n w F V O Y e7 e8 e9 e10) H1) (va_A (mdw cI u c1 c2 c3 c4 e0 n w F V O Y e7 e8 e9 e10) sz)) 0 0 (va_A (mdw cI u c1 c2 c3 c4 e0 n w F V O Y e7 e8 e9 e10) sz) := by
  obtain ⟨hn3, hn, hw2, hF, hV, hO⟩ := id S
  refine bd_m (Qc := (fun A => qm_i (fun rr H1 => ∃ c : Int32, Q1 (rh n x) (Rk n x (fun k => g k)) c rr ∧ va_P D vwCl (mdw cI u c1 c2 c3 c4 c n w F V O Y e7 e8 e9 e10) H1) A)) (cc := cX2_weightAt) (maxL := 2) (ret := (some .int)) (by decide) rfl (Nat.le_of_ble_eq_true rfl) ?_
  intro p e s m args below meth c ls A CF hr hlocks hK hP hD hA hS hl hin
  obtain ⟨hx, hb, hml, hown, hts⟩ := id CF
  have hl : lv_has ls 2 [(0, .ref u), (1, .int x)] := hl
  have hP : va_P D vwCl [(u, .inr (2, [.int e0, .int (nI n), .int (nI w), .ref c1, .ref c2, .ref c3, .ref c4, .int e7, .int e8, .int e9, .int e10])), (c1, .inl (cI, 40, .inl F)), (c2, .inl (cI, 40, .inl V)), (c3, .inl (cI, 40, .inl O)), (c4, .inl (cI, 40, .inl Y))] s.heap := hP
  have hD : va_D A [(u, .inr (2, [.int e0, .int (nI n), .int (nI w), .ref c1, .ref c2, .ref c3, .ref c4, .int e7, .int e8, .int e9, .int e10])), (c1, .inl (cI, 40, .inl F)), (c2, .inl (cI, 40, .inl V)), (c3, .inl (cI, 40, .inl O)), (c4, .inl (cI, 40, .inl Y))] := hD
  generalize hH0 : s.heap = H at hP
  have hS : va_S A s.heap H [] := by rw [← hH0]; exact va_S.rf
  generalize hlc0 : ([] : List Loc) = locs at hS ⊢
  refine lv_aload_n hx hb dX2_weightAt_0 rfl (lv_at hl 0 rfl) ?_
  refine lv_iconst (v := nI 0) hx hb dX2_weightAt_1 (by decide) ?_
  refine va_put (D := D) (ci := 2) (v := .int (nI 0)) (ty := .int) (C := RX2) (T := TX2) (N := 11) hx hb hts (fun _ h => (List.mem_cons_of_mem _ (List.mem_append_right _ h))) tyX2 tyX2_ok nmX2 hown hK hP hD hS 0 rfl rfl 0 (by decide) (hts _ (List.mem_of_getElem? (i := 1) rfl)) (fun _ h9 => h9) rfl (by decide +kernel) rfl rfl (Nat.le_of_ble_eq_true rfl) dX2_weightAt_2 (fun H locs hP hD hS => ?_)
  have hP : va_P D vwCl [(u, .inr (2, [.int (nI 0), .int (nI n), .int (nI w), .ref c1, .ref c2, .ref c3, .ref c4, .int e7, .int e8, .int e9, .int e10])), (c1, .inl (cI, 40, .inl F)), (c2, .inl (cI, 40, .inl V)), (c3, .inl (cI, 40, .inl O)), (c4, .inl (cI, 40, .inl Y))] H := hP
  have hD : va_D A [(u, .inr (2, [.int (nI 0), .int (nI n), .int (nI w), .ref c1, .ref c2, .ref c3, .ref c4, .int e7, .int e8, .int e9, .int e10])), (c1, .inl (cI, 40, .inl F)), (c2, .inl (cI, 40, .inl V)), (c3, .inl (cI, 40, .inl O)), (c4, .inl (cI, 40, .inl Y))] := hD
  refine lv_aload_n hx hb dX2_weightAt_5 rfl (lv_at hl 0 rfl) ?_
  refine lv_iload_n hx hb dX2_weightAt_6 rfl (lv_at hl 1 rfl) ?_
  refine pv_i CF (m_X2_isHook l D cI u c1 c2 c3 c4 S O Y (nI 0) e7 e8 e9 e10 x) (cwV 1 hts gX2_weightAt_X2_isHook rfl rfl rfl k_X2_isHook ⟨Nat.le_of_ble_eq_true rfl, Nat.le_of_ble_eq_true rfl⟩) hK hP rfl rfl rfl rfl hl.1 rfl (Nat.le_of_ble_eq_true rfl) dX2_weightAt_7 ⟨Nat.le_of_ble_eq_true rfl, Nat.le_of_ble_eq_true rfl⟩ ?_
  refine lv_if_eq (tgt := 21) hx hb dX2_weightAt_10 (by decide) (fun c10 => ?_) (fun c10 => ?_)
  · skip
    refine lv_aload_n hx hb dX2_weightAt_21 rfl (lv_at hl 0 rfl) ?_
    refine lv_iconst (v := nI 1) hx hb dX2_weightAt_22 (by decide) ?_
    have hPc : va_P D vwCl [(u, .inr (2, [.int (nI 0), .int (nI n), .int (nI w), .ref c1, .ref c2, .ref c3, .ref c4, .int e7, .int e8, .int e9, .int e10])), (c1, .inl (cI, 40, .inl F)), (c2, .inl (cI, 40, .inl V)), (c3, .inl (cI, 40, .inl O)), (c4, .inl (cI, 40, .inl Y))] H := hP.sub [0, 1, 2, 3, 4] rfl
    have hDc : va_D A [(u, .inr (2, [.int (nI 0), .int (nI n), .int (nI w), .ref c1, .ref c2, .ref c3, .ref c4, .int e7, .int e8, .int e9, .int e10])), (c1, .inl (cI, 40, .inl F)), (c2, .inl (cI, 40, .inl V)), (c3, .inl (cI, 40, .inl O)), (c4, .inl (cI, 40, .inl Y))] := hD.sub [0, 1, 2, 3, 4] (by decide) rfl
    have hFc := va_free (wc := [(u, .inr (2, [.int (nI 0), .int (nI n), .int (nI w), .ref c1, .ref c2, .ref c3, .ref c4, .int e7, .int e8, .int e9, .int e10])), (c1, .inl (cI, 40, .inl F)), (c2, .inl (cI, 40, .inl V)), (c3, .inl (cI, 40, .inl O)), (c4, .inl (cI, 40, .inl Y))]) hD hS hA [0, 1, 2, 3, 4] rfl
    refine pq_i (va_runV (rest := []) CF (m_X2_no l D cI u c1 c2 c3 c4 S O Y (nI 0) e7 e8 e9 e10 (nI 1) H.size) (cwV 1 hts gX2_weightAt_X2_no rfl rfl rfl k_X2_no ⟨Nat.le_of_ble_eq_true rfl, Nat.le_of_ble_eq_true rfl⟩) (mv_pre hK hPc hDc rfl rfl rfl) rfl rfl hl.1 rfl (lv_room (Nat.le_of_ble_eq_true rfl)) dX2_weightAt_23 ⟨Nat.le_of_ble_eq_true rfl, Nat.le_of_ble_eq_true rfl⟩) hS hFc (fun r1 H locs hB hk1 hS => ?_)
    obtain ⟨rfl, hP1⟩ := hB
    obtain ⟨hP, hD⟩ := jn (wb := [(u, .inr (2, [.int (nI 1), .int (nI n), .int (nI w), .ref c1, .ref c2, .ref c3, .ref c4, .int e7, .int e8, .int e9, .int e10])), (c1, .inl (cI, 40, .inl F)), (c2, .inl (cI, 40, .inl V)), (c3, .inl (cI, 40, .inl O)), (c4, .inl (cI, 40, .inl Y))]) (w1 := [(u, .inr (2, [.int (nI 1), .int (nI n), .int (nI w), .ref c1, .ref c2, .ref c3, .ref c4, .int e7, .int e8, .int e9, .int e10])), (c1, .inl (cI, 40, .inl F)), (c2, .inl (cI, 40, .inl V)), (c3, .inl (cI, 40, .inl O)), (c4, .inl (cI, 40, .inl Y))]) hP hD [0, 1, 2, 3, 4] [] rfl rfl rfl rfl 5 rfl (by decide) (by decide) hk1 hP1
    exact em_i hx hb hr hlocks hS (⟨_, Or.inl ⟨fun z => isI_no (by decide) (by omega) c10 ((rg_rh hn3).mpr z), rfl⟩, hP⟩) dX2_weightAt_26
  · skip
    obtain ⟨k, hk, ex⟩ := (rg_rh hn3).mp (isI_yes (Nat.zero_le _) (by omega) c10)
    rw [ex] at hl
    refine lv_aload_n hx hb dX2_weightAt_13 rfl (lv_at hl 0 rfl) ?_
    refine lv_iload_n hx hb dX2_weightAt_14 rfl (lv_at hl 1 rfl) ?_
    refine pv_i CF (m_X2_weightOn l D cI u c1 c2 c3 c4 S O Y (nI 0) e7 e8 e9 e10 k hk) (cwV 1 hts gX2_weightAt_X2_weightOn rfl rfl rfl k_X2_weightOn ⟨Nat.le_of_ble_eq_true rfl, Nat.le_of_ble_eq_true rfl⟩) hK hP rfl rfl rfl rfl hl.1 rfl (Nat.le_of_ble_eq_true rfl) dX2_weightAt_15 ⟨Nat.le_of_ble_eq_true rfl, Nat.le_of_ble_eq_true rfl⟩ ?_
    refine lv_goto (tgt := 26) hx hb dX2_weightAt_18 (by decide) ?_
    exact em_i hx hb hr hlocks hS (⟨_, Or.inr ⟨rfl, k, hk, ex, rfl⟩, hP⟩) dX2_weightAt_26
theorem k_X2_rowAt : yX2_rowAt.cls = RX2 ∧ yX2_rowAt.cls ≠ "java/lang/invoke/MethodHandle" ∧ yX2_rowAt.cls ≠ "java/lang/invoke/VarHandle" ∧ (parseMethodDescriptor yX2_rowAt.desc).map (fun d => d.parameters.length) = some 1 := by decide +kernel
set_option maxHeartbeats 4000000 in
set_option maxRecDepth 100000 in
theorem m_X2_rowAt (l : Launch) (D : va_G) (cI : ClassId) (u c1 c2 c3 c4 : Nat) {n w : Nat} {F V f g : Nat → Int32} (S : MS n w F V f g) (O Y : Nat → Int32) (e0 e7 e8 e9 e10 : Int32) (x : Int32) (sz : Nat) : Met l yX2_rowAt wsX2_rowAt ({ frames := 2, cells := 0, slots := 0, locals := 44 } : Room) (PM D [(cI, .int)] [.ref u, .int x] sz (mdw cI u c1 c2 c3 c4 e0 n w F V O Y e7 e8 e9 e10)) (qm_i (fun rr H1 => ∃ c : Int32, Q1 (rh n x) (Rk n x (fun k => nI (rl n f k))) c rr ∧ va_P D vwCl (mdw cI u c1 c2 c3 c4 c n w F V O Y e7 e8 e9 e10) H1) (va_A (mdw cI u c1 c2 c3 c4 e0 n w F V O Y e7 e8 e9 e10) sz)) 0 0 (va_A (mdw cI u c1 c2 c3 c4 e0 n w F V O Y e7 e8 e9 e10) sz) := by
  obtain ⟨hn3, hn, hw2, hF, hV, hO⟩ := id S
  refine bd_m (Qc := (fun A => qm_i (fun rr H1 => ∃ c : Int32, Q1 (rh n x) (Rk n x (fun k => nI (rl n f k))) c rr ∧ va_P D vwCl (mdw cI u c1 c2 c3 c4 c n w F V O Y e7 e8 e9 e10) H1) A)) (cc := cX2_rowAt) (maxL := 2) (ret := (some .int)) (by decide) rfl (Nat.le_of_ble_eq_true rfl) ?_
  intro p e s m args below meth c ls A CF hr hlocks hK hP hD hA hS hl hin
  obtain ⟨hx, hb, hml, hown, hts⟩ := id CF
  have hl : lv_has ls 2 [(0, .ref u), (1, .int x)] := hl
  have hP : va_P D vwCl [(u, .inr (2, [.int e0, .int (nI n), .int (nI w), .ref c1, .ref c2, .ref c3, .ref c4, .int e7, .int e8, .int e9, .int e10])), (c1, .inl (cI, 40, .inl F)), (c2, .inl (cI, 40, .inl V)), (c3, .inl (cI, 40, .inl O)), (c4, .inl (cI, 40, .inl Y))] s.heap := hP
  have hD : va_D A [(u, .inr (2, [.int e0, .int (nI n), .int (nI w), .ref c1, .ref c2, .ref c3, .ref c4, .int e7, .int e8, .int e9, .int e10])), (c1, .inl (cI, 40, .inl F)), (c2, .inl (cI, 40, .inl V)), (c3, .inl (cI, 40, .inl O)), (c4, .inl (cI, 40, .inl Y))] := hD
  generalize hH0 : s.heap = H at hP
  have hS : va_S A s.heap H [] := by rw [← hH0]; exact va_S.rf
  generalize hlc0 : ([] : List Loc) = locs at hS ⊢
  refine lv_aload_n hx hb dX2_rowAt_0 rfl (lv_at hl 0 rfl) ?_
  refine lv_iconst (v := nI 0) hx hb dX2_rowAt_1 (by decide) ?_
  refine va_put (D := D) (ci := 2) (v := .int (nI 0)) (ty := .int) (C := RX2) (T := TX2) (N := 11) hx hb hts (fun _ h => (List.mem_cons_of_mem _ (List.mem_append_right _ h))) tyX2 tyX2_ok nmX2 hown hK hP hD hS 0 rfl rfl 0 (by decide) (hts _ (List.mem_of_getElem? (i := 1) rfl)) (fun _ h9 => h9) rfl (by decide +kernel) rfl rfl (Nat.le_of_ble_eq_true rfl) dX2_rowAt_2 (fun H locs hP hD hS => ?_)
  have hP : va_P D vwCl [(u, .inr (2, [.int (nI 0), .int (nI n), .int (nI w), .ref c1, .ref c2, .ref c3, .ref c4, .int e7, .int e8, .int e9, .int e10])), (c1, .inl (cI, 40, .inl F)), (c2, .inl (cI, 40, .inl V)), (c3, .inl (cI, 40, .inl O)), (c4, .inl (cI, 40, .inl Y))] H := hP
  have hD : va_D A [(u, .inr (2, [.int (nI 0), .int (nI n), .int (nI w), .ref c1, .ref c2, .ref c3, .ref c4, .int e7, .int e8, .int e9, .int e10])), (c1, .inl (cI, 40, .inl F)), (c2, .inl (cI, 40, .inl V)), (c3, .inl (cI, 40, .inl O)), (c4, .inl (cI, 40, .inl Y))] := hD
  refine lv_aload_n hx hb dX2_rowAt_5 rfl (lv_at hl 0 rfl) ?_
  refine lv_iload_n hx hb dX2_rowAt_6 rfl (lv_at hl 1 rfl) ?_
  refine pv_i CF (m_X2_isHook l D cI u c1 c2 c3 c4 S O Y (nI 0) e7 e8 e9 e10 x) (cwV 1 hts gX2_rowAt_X2_isHook rfl rfl rfl k_X2_isHook ⟨Nat.le_of_ble_eq_true rfl, Nat.le_of_ble_eq_true rfl⟩) hK hP rfl rfl rfl rfl hl.1 rfl (Nat.le_of_ble_eq_true rfl) dX2_rowAt_7 ⟨Nat.le_of_ble_eq_true rfl, Nat.le_of_ble_eq_true rfl⟩ ?_
  refine lv_if_eq (tgt := 21) hx hb dX2_rowAt_10 (by decide) (fun c10 => ?_) (fun c10 => ?_)
  · skip
    refine lv_aload_n hx hb dX2_rowAt_21 rfl (lv_at hl 0 rfl) ?_
    refine lv_iconst (v := nI 1) hx hb dX2_rowAt_22 (by decide) ?_
    have hPc : va_P D vwCl [(u, .inr (2, [.int (nI 0), .int (nI n), .int (nI w), .ref c1, .ref c2, .ref c3, .ref c4, .int e7, .int e8, .int e9, .int e10])), (c1, .inl (cI, 40, .inl F)), (c2, .inl (cI, 40, .inl V)), (c3, .inl (cI, 40, .inl O)), (c4, .inl (cI, 40, .inl Y))] H := hP.sub [0, 1, 2, 3, 4] rfl
    have hDc : va_D A [(u, .inr (2, [.int (nI 0), .int (nI n), .int (nI w), .ref c1, .ref c2, .ref c3, .ref c4, .int e7, .int e8, .int e9, .int e10])), (c1, .inl (cI, 40, .inl F)), (c2, .inl (cI, 40, .inl V)), (c3, .inl (cI, 40, .inl O)), (c4, .inl (cI, 40, .inl Y))] := hD.sub [0, 1, 2, 3, 4] (by decide) rfl
    have hFc := va_free (wc := [(u, .inr (2, [.int (nI 0), .int (nI n), .int (nI w), .ref c1, .ref c2, .ref c3, .ref c4, .int e7, .int e8, .int e9, .int e10])), (c1, .inl (cI, 40, .inl F)), (c2, .inl (cI, 40, .inl V)), (c3, .inl (cI, 40, .inl O)), (c4, .inl (cI, 40, .inl Y))]) hD hS hA [0, 1, 2, 3, 4] rfl
    refine pq_i (va_runV (rest := []) CF (m_X2_no l D cI u c1 c2 c3 c4 S O Y (nI 0) e7 e8 e9 e10 (nI 1) H.size) (cwV 1 hts gX2_rowAt_X2_no rfl rfl rfl k_X2_no ⟨Nat.le_of_ble_eq_true rfl, Nat.le_of_ble_eq_true rfl⟩) (mv_pre hK hPc hDc rfl rfl rfl) rfl rfl hl.1 rfl (lv_room (Nat.le_of_ble_eq_true rfl)) dX2_rowAt_23 ⟨Nat.le_of_ble_eq_true rfl, Nat.le_of_ble_eq_true rfl⟩) hS hFc (fun r1 H locs hB hk1 hS => ?_)
    obtain ⟨rfl, hP1⟩ := hB
    obtain ⟨hP, hD⟩ := jn (wb := [(u, .inr (2, [.int (nI 1), .int (nI n), .int (nI w), .ref c1, .ref c2, .ref c3, .ref c4, .int e7, .int e8, .int e9, .int e10])), (c1, .inl (cI, 40, .inl F)), (c2, .inl (cI, 40, .inl V)), (c3, .inl (cI, 40, .inl O)), (c4, .inl (cI, 40, .inl Y))]) (w1 := [(u, .inr (2, [.int (nI 1), .int (nI n), .int (nI w), .ref c1, .ref c2, .ref c3, .ref c4, .int e7, .int e8, .int e9, .int e10])), (c1, .inl (cI, 40, .inl F)), (c2, .inl (cI, 40, .inl V)), (c3, .inl (cI, 40, .inl O)), (c4, .inl (cI, 40, .inl Y))]) hP hD [0, 1, 2, 3, 4] [] rfl rfl rfl rfl 5 rfl (by decide) (by decide) hk1 hP1
    exact em_i hx hb hr hlocks hS (⟨_, Or.inl ⟨fun z => isI_no (by decide) (by omega) c10 ((rg_rh hn3).mpr z), rfl⟩, hP⟩) dX2_rowAt_26
  · skip
    obtain ⟨k, hk, ex⟩ := (rg_rh hn3).mp (isI_yes (Nat.zero_le _) (by omega) c10)
    rw [ex] at hl
    refine lv_aload_n hx hb dX2_rowAt_13 rfl (lv_at hl 0 rfl) ?_
    refine lv_iload_n hx hb dX2_rowAt_14 rfl (lv_at hl 1 rfl) ?_
    refine pv_i CF (m_X2_rowOf l D cI u c1 c2 c3 c4 S O Y (nI 0) e7 e8 e9 e10 k hk) (cwV 1 hts gX2_rowAt_X2_rowOf rfl rfl rfl k_X2_rowOf ⟨Nat.le_of_ble_eq_true rfl, Nat.le_of_ble_eq_true rfl⟩) hK hP rfl rfl rfl rfl hl.1 rfl (Nat.le_of_ble_eq_true rfl) dX2_rowAt_15 ⟨Nat.le_of_ble_eq_true rfl, Nat.le_of_ble_eq_true rfl⟩ ?_
    refine lv_goto (tgt := 26) hx hb dX2_rowAt_18 (by decide) ?_
    exact em_i hx hb hr hlocks hS (⟨_, Or.inr ⟨rfl, k, hk, ex, rfl⟩, hP⟩) dX2_rowAt_26
theorem k_X2_find : yX2_find.cls = RX2 ∧ yX2_find.cls ≠ "java/lang/invoke/MethodHandle" ∧ yX2_find.cls ≠ "java/lang/invoke/VarHandle" ∧ (parseMethodDescriptor yX2_find.desc).map (fun d => d.parameters.length) = some 1 := by decide +kernel
set_option maxHeartbeats 4000000 in
set_option maxRecDepth 100000 in
theorem m_X2_find (l : Launch) (D : va_G) (cI : ClassId) (u c1 c2 c3 c4 : Nat) {n w : Nat} {F V f g : Nat → Int32} (S : MS n w F V f g) (O Y : Nat → Int32) (e0 e7 e8 e9 e10 : Int32) (x : Int32) (sz : Nat) : Met l yX2_find wsX2_find ({ frames := 2, cells := 0, slots := 0, locals := 47 } : Room) (PM D [(cI, .int)] [.ref u, .int x] sz (mdw cI u c1 c2 c3 c4 e0 n w F V O Y e7 e8 e9 e10)) (qm_i (fun rr H1 => ∃ (c d7 d8 d9 d10 : Int32), Q1 (rg 0 9999 x) (Rn x (fun v => fd n w f v)) c rr ∧ va_P D vwCl (mdw cI u c1 c2 c3 c4 c n w F V O Y d7 d8 d9 d10) H1) (va_A (mdw cI u c1 c2 c3 c4 e0 n w F V O Y e7 e8 e9 e10) sz)) 0 0 (va_A (mdw cI u c1 c2 c3 c4 e0 n w F V O Y e7 e8 e9 e10) sz) := by
  obtain ⟨hn3, hn, hw2, hF, hV, hO⟩ := id S
  refine bd_m (Qc := (fun A => qm_i (fun rr H1 => ∃ (c d7 d8 d9 d10 : Int32), Q1 (rg 0 9999 x) (Rn x (fun v => fd n w f v)) c rr ∧ va_P D vwCl (mdw cI u c1 c2 c3 c4 c n w F V O Y d7 d8 d9 d10) H1) A)) (cc := cX2_find) (maxL := 2) (ret := (some .int)) (by decide) rfl (Nat.le_of_ble_eq_true rfl) ?_
  intro p e s m args below meth c ls A CF hr hlocks hK hP hD hA hS hl hin
  obtain ⟨hx, hb, hml, hown, hts⟩ := id CF
  have hl : lv_has ls 2 [(0, .ref u), (1, .int x)] := hl
  have hP : va_P D vwCl [(u, .inr (2, [.int e0, .int (nI n), .int (nI w), .ref c1, .ref c2, .ref c3, .ref c4, .int e7, .int e8, .int e9, .int e10])), (c1, .inl (cI, 40, .inl F)), (c2, .inl (cI, 40, .inl V)), (c3, .inl (cI, 40, .inl O)), (c4, .inl (cI, 40, .inl Y))] s.heap := hP
  have hD : va_D A [(u, .inr (2, [.int e0, .int (nI n), .int (nI w), .ref c1, .ref c2, .ref c3, .ref c4, .int e7, .int e8, .int e9, .int e10])), (c1, .inl (cI, 40, .inl F)), (c2, .inl (cI, 40, .inl V)), (c3, .inl (cI, 40, .inl O)), (c4, .inl (cI, 40, .inl Y))] := hD
  generalize hH0 : s.heap = H at hP
  have hS : va_S A s.heap H [] := by rw [← hH0]; exact va_S.rf
  generalize hlc0 : ([] : List Loc) = locs at hS ⊢
  refine lv_aload_n hx hb dX2_find_0 rfl (lv_at hl 0 rfl) ?_
  refine lv_iconst (v := nI 0) hx hb dX2_find_1 (by decide) ?_
  refine va_put (D := D) (ci := 2) (v := .int (nI 0)) (ty := .int) (C := RX2) (T := TX2) (N := 11) hx hb hts (fun _ h => (List.mem_cons_of_mem _ (List.mem_append_right _ h))) tyX2 tyX2_ok nmX2 hown hK hP hD hS 0 rfl rfl 0 (by decide) (hts _ (List.mem_of_getElem? (i := 1) rfl)) (fun _ h9 => h9) rfl (by decide +kernel) rfl rfl (Nat.le_of_ble_eq_true rfl) dX2_find_2 (fun H locs hP hD hS => ?_)
  have hP : va_P D vwCl [(u, .inr (2, [.int (nI 0), .int (nI n), .int (nI w), .ref c1, .ref c2, .ref c3, .ref c4, .int e7, .int e8, .int e9, .int e10])), (c1, .inl (cI, 40, .inl F)), (c2, .inl (cI, 40, .inl V)), (c3, .inl (cI, 40, .inl O)), (c4, .inl (cI, 40, .inl Y))] H := hP
  have hD : va_D A [(u, .inr (2, [.int (nI 0), .int (nI n), .int (nI w), .ref c1, .ref c2, .ref c3, .ref c4, .int e7, .int e8, .int e9, .int e10])), (c1, .inl (cI, 40, .inl F)), (c2, .inl (cI, 40, .inl V)), (c3, .inl (cI, 40, .inl O)), (c4, .inl (cI, 40, .inl Y))] := hD
  refine lv_iload_n hx hb dX2_find_5 rfl (lv_at hl 1 rfl) ?_
  refine pz_i (wc := []) CF (m_X2_isNumber l D cI x) (va_cwS 1 hts gX2_find_X2_isNumber rfl rfl rfl k_X2_isNumber.2 ⟨Nat.le_of_ble_eq_true rfl, Nat.le_of_ble_eq_true rfl⟩) hK (fun k q h => by simp at h) rfl hl.1 rfl (Nat.le_of_ble_eq_true rfl) dX2_find_6 ⟨Nat.le_of_ble_eq_true rfl, Nat.le_of_ble_eq_true rfl⟩ ?_
  refine lv_if_ne (tgt := 18) hx hb dX2_find_9 (by decide) (fun c9 => ?_) (fun c9 => ?_)
  · skip
    obtain ⟨v, -, hv9, ex⟩ := isI_yes (a := 0) (b := 9999) (by decide) (by decide) c9
    rw [ex] at hl
    refine lv_aload_n hx hb dX2_find_18 rfl (lv_at hl 0 rfl) ?_
    refine lv_iload_n hx hb dX2_find_19 rfl (lv_at hl 1 rfl) ?_
    have hPc : va_P D vwCl [(u, .inr (2, [.int (nI 0), .int (nI n), .int (nI w), .ref c1, .ref c2, .ref c3, .ref c4, .int e7, .int e8, .int e9, .int e10])), (c1, .inl (cI, 40, .inl F)), (c2, .inl (cI, 40, .inl V)), (c3, .inl (cI, 40, .inl O)), (c4, .inl (cI, 40, .inl Y))] H := hP.sub [0, 1, 2, 3, 4] rfl
    have hDc : va_D A [(u, .inr (2, [.int (nI 0), .int (nI n), .int (nI w), .ref c1, .ref c2, .ref c3, .ref c4, .int e7, .int e8, .int e9, .int e10])), (c1, .inl (cI, 40, .inl F)), (c2, .inl (cI, 40, .inl V)), (c3, .inl (cI, 40, .inl O)), (c4, .inl (cI, 40, .inl Y))] := hD.sub [0, 1, 2, 3, 4] (by decide) rfl
    have hFc := va_free (wc := [(u, .inr (2, [.int (nI 0), .int (nI n), .int (nI w), .ref c1, .ref c2, .ref c3, .ref c4, .int e7, .int e8, .int e9, .int e10])), (c1, .inl (cI, 40, .inl F)), (c2, .inl (cI, 40, .inl V)), (c3, .inl (cI, 40, .inl O)), (c4, .inl (cI, 40, .inl Y))]) hD hS hA [0, 1, 2, 3, 4] rfl
    refine pq_v (va_runV (rest := []) CF (m_X2_lookNow l D cI u c1 c2 c3 c4 S O Y (nI 0) e7 e8 e9 e10 v hv9 H.size) (cwV 1 hts gX2_find_X2_lookNow rfl rfl rfl k_X2_lookNow ⟨Nat.le_of_ble_eq_true rfl, Nat.le_of_ble_eq_true rfl⟩) (mv_pre hK hPc hDc rfl rfl rfl) rfl rfl hl.1 rfl (lv_room (Nat.le_of_ble_eq_true rfl)) dX2_find_20 ⟨Nat.le_of_ble_eq_true rfl, Nat.le_of_ble_eq_true rfl⟩) hS hFc (fun H locs hB hk1 hS => ?_)
    have hP1 := hB
    obtain ⟨hP, hD⟩ := jn (wb := [(u, .inr (2, [.int (nI 0), .int (nI n), .int (nI w), .ref c1, .ref c2, .ref c3, .ref c4, .int (nI (lk n w f v)), .int (fd n w f v), .int (fr n w f v), .int (tk n w f v (lk n w f v))])), (c1, .inl (cI, 40, .inl F)), (c2, .inl (cI, 40, .inl V)), (c3, .inl (cI, 40, .inl O)), (c4, .inl (cI, 40, .inl Y))]) (w1 := [(u, .inr (2, [.int (nI 0), .int (nI n), .int (nI w), .ref c1, .ref c2, .ref c3, .ref c4, .int (nI (lk n w f v)), .int (fd n w f v), .int (fr n w f v), .int (tk n w f v (lk n w f v))])), (c1, .inl (cI, 40, .inl F)), (c2, .inl (cI, 40, .inl V)), (c3, .inl (cI, 40, .inl O)), (c4, .inl (cI, 40, .inl Y))]) hP hD [0, 1, 2, 3, 4] [] rfl rfl rfl rfl 5 rfl (by decide) (by decide) hk1 hP1
    refine lv_aload_n hx hb dX2_find_23 rfl (lv_at hl 0 rfl) ?_
    refine va_get (D := D) (ci := 2) (v := .int (fd n w f v)) (C := RX2) (T := TX2) (N := 11) hx hb hts (fun _ h => (List.mem_cons_of_mem _ (List.mem_append_right _ h))) hown hK hP 0 rfl rfl 8 (by decide) (hts _ (List.mem_of_getElem? (i := 2) rfl)) (fun _ h9 => h9) rfl dX2_find_24 ?_
    exact em_i hx hb hr hlocks hS (⟨_, _, _, _, _, Or.inr ⟨rfl, v, hv9, ex, rfl⟩, hP⟩) dX2_find_27
  · skip
    refine lv_aload_n hx hb dX2_find_12 rfl (lv_at hl 0 rfl) ?_
    refine lv_iconst (v := nI 1) hx hb dX2_find_13 (by decide) ?_
    have hPc : va_P D vwCl [(u, .inr (2, [.int (nI 0), .int (nI n), .int (nI w), .ref c1, .ref c2, .ref c3, .ref c4, .int e7, .int e8, .int e9, .int e10])), (c1, .inl (cI, 40, .inl F)), (c2, .inl (cI, 40, .inl V)), (c3, .inl (cI, 40, .inl O)), (c4, .inl (cI, 40, .inl Y))] H := hP.sub [0, 1, 2, 3, 4] rfl
    have hDc : va_D A [(u, .inr (2, [.int (nI 0), .int (nI n), .int (nI w), .ref c1, .ref c2, .ref c3, .ref c4, .int e7, .int e8, .int e9, .int e10])), (c1, .inl (cI, 40, .inl F)), (c2, .inl (cI, 40, .inl V)), (c3, .inl (cI, 40, .inl O)), (c4, .inl (cI, 40, .inl Y))] := hD.sub [0, 1, 2, 3, 4] (by decide) rfl
    have hFc := va_free (wc := [(u, .inr (2, [.int (nI 0), .int (nI n), .int (nI w), .ref c1, .ref c2, .ref c3, .ref c4, .int e7, .int e8, .int e9, .int e10])), (c1, .inl (cI, 40, .inl F)), (c2, .inl (cI, 40, .inl V)), (c3, .inl (cI, 40, .inl O)), (c4, .inl (cI, 40, .inl Y))]) hD hS hA [0, 1, 2, 3, 4] rfl
    refine pq_i (va_runV (rest := []) CF (m_X2_no l D cI u c1 c2 c3 c4 S O Y (nI 0) e7 e8 e9 e10 (nI 1) H.size) (cwV 1 hts gX2_find_X2_no rfl rfl rfl k_X2_no ⟨Nat.le_of_ble_eq_true rfl, Nat.le_of_ble_eq_true rfl⟩) (mv_pre hK hPc hDc rfl rfl rfl) rfl rfl hl.1 rfl (lv_room (Nat.le_of_ble_eq_true rfl)) dX2_find_14 ⟨Nat.le_of_ble_eq_true rfl, Nat.le_of_ble_eq_true rfl⟩) hS hFc (fun r1 H locs hB hk1 hS => ?_)
    obtain ⟨rfl, hP1⟩ := hB
    obtain ⟨hP, hD⟩ := jn (wb := [(u, .inr (2, [.int (nI 1), .int (nI n), .int (nI w), .ref c1, .ref c2, .ref c3, .ref c4, .int e7, .int e8, .int e9, .int e10])), (c1, .inl (cI, 40, .inl F)), (c2, .inl (cI, 40, .inl V)), (c3, .inl (cI, 40, .inl O)), (c4, .inl (cI, 40, .inl Y))]) (w1 := [(u, .inr (2, [.int (nI 1), .int (nI n), .int (nI w), .ref c1, .ref c2, .ref c3, .ref c4, .int e7, .int e8, .int e9, .int e10])), (c1, .inl (cI, 40, .inl F)), (c2, .inl (cI, 40, .inl V)), (c3, .inl (cI, 40, .inl O)), (c4, .inl (cI, 40, .inl Y))]) hP hD [0, 1, 2, 3, 4] [] rfl rfl rfl rfl 5 rfl (by decide) (by decide) hk1 hP1
    exact em_i hx hb hr hlocks hS (⟨_, _, _, _, _, Or.inl ⟨isI_no (by decide) (by decide) c9, rfl⟩, hP⟩) dX2_find_17
theorem k_X2_looksFor : yX2_looksFor.cls = RX2 ∧ yX2_looksFor.cls ≠ "java/lang/invoke/MethodHandle" ∧ yX2_looksFor.cls ≠ "java/lang/invoke/VarHandle" ∧ (parseMethodDescriptor yX2_looksFor.desc).map (fun d => d.parameters.length) = some 1 := by decide +kernel
set_option maxHeartbeats 4000000 in
set_option maxRecDepth 100000 in
theorem m_X2_looksFor (l : Launch) (D : va_G) (cI : ClassId) (u c1 c2 c3 c4 : Nat) {n w : Nat} {F V f g : Nat → Int32} (S : MS n w F V f g) (O Y : Nat → Int32) (e0 e7 e8 e9 e10 : Int32) (x : Int32) (sz : Nat) : Met l yX2_looksFor wsX2_looksFor ({ frames := 3, cells := 0, slots := 0, locals := 68 } : Room) (PM D [(cI, .int)] [.ref u, .int x] sz (mdw cI u c1 c2 c3 c4 e0 n w F V O Y e7 e8 e9 e10)) (qm_i (fun rr H1 => ∃ (c d7 d8 d9 d10 : Int32), Q1 (rg 0 9999 x) (Rn x (fun v => nI (lk n w f v))) c rr ∧ va_P D vwCl (mdw cI u c1 c2 c3 c4 c n w F V O Y d7 d8 d9 d10) H1) (va_A (mdw cI u c1 c2 c3 c4 e0 n w F V O Y e7 e8 e9 e10) sz)) 0 0 (va_A (mdw cI u c1 c2 c3 c4 e0 n w F V O Y e7 e8 e9 e10) sz) := by
  obtain ⟨hn3, hn, hw2, hF, hV, hO⟩ := id S
  refine bd_m (Qc := (fun A => qm_i (fun rr H1 => ∃ (c d7 d8 d9 d10 : Int32), Q1 (rg 0 9999 x) (Rn x (fun v => nI (lk n w f v))) c rr ∧ va_P D vwCl (mdw cI u c1 c2 c3 c4 c n w F V O Y d7 d8 d9 d10) H1) A)) (cc := cX2_looksFor) (maxL := 2) (ret := (some .int)) (by decide) rfl (Nat.le_of_ble_eq_true rfl) ?_
  intro p e s m args below meth c ls A CF hr hlocks hK hP hD hA hS hl hin
  obtain ⟨hx, hb, hml, hown, hts⟩ := id CF
  have hl : lv_has ls 2 [(0, .ref u), (1, .int x)] := hl
  have hP : va_P D vwCl [(u, .inr (2, [.int e0, .int (nI n), .int (nI w), .ref c1, .ref c2, .ref c3, .ref c4, .int e7, .int e8, .int e9, .int e10])), (c1, .inl (cI, 40, .inl F)), (c2, .inl (cI, 40, .inl V)), (c3, .inl (cI, 40, .inl O)), (c4, .inl (cI, 40, .inl Y))] s.heap := hP
  have hD : va_D A [(u, .inr (2, [.int e0, .int (nI n), .int (nI w), .ref c1, .ref c2, .ref c3, .ref c4, .int e7, .int e8, .int e9, .int e10])), (c1, .inl (cI, 40, .inl F)), (c2, .inl (cI, 40, .inl V)), (c3, .inl (cI, 40, .inl O)), (c4, .inl (cI, 40, .inl Y))] := hD
  generalize hH0 : s.heap = H at hP
  have hS : va_S A s.heap H [] := by rw [← hH0]; exact va_S.rf
  generalize hlc0 : ([] : List Loc) = locs at hS ⊢
  refine lv_aload_n hx hb dX2_looksFor_0 rfl (lv_at hl 0 rfl) ?_
  refine lv_iconst (v := nI 0) hx hb dX2_looksFor_1 (by decide) ?_
  refine va_put (D := D) (ci := 2) (v := .int (nI 0)) (ty := .int) (C := RX2) (T := TX2) (N := 11) hx hb hts (fun _ h => (List.mem_cons_of_mem _ (List.mem_append_right _ h))) tyX2 tyX2_ok nmX2 hown hK hP hD hS 0 rfl rfl 0 (by decide) (hts _ (List.mem_of_getElem? (i := 1) rfl)) (fun _ h9 => h9) rfl (by decide +kernel) rfl rfl (Nat.le_of_ble_eq_true rfl) dX2_looksFor_2 (fun H locs hP hD hS => ?_)
  have hP : va_P D vwCl [(u, .inr (2, [.int (nI 0), .int (nI n), .int (nI w), .ref c1, .ref c2, .ref c3, .ref c4, .int e7, .int e8, .int e9, .int e10])), (c1, .inl (cI, 40, .inl F)), (c2, .inl (cI, 40, .inl V)), (c3, .inl (cI, 40, .inl O)), (c4, .inl (cI, 40, .inl Y))] H := hP
  have hD : va_D A [(u, .inr (2, [.int (nI 0), .int (nI n), .int (nI w), .ref c1, .ref c2, .ref c3, .ref c4, .int e7, .int e8, .int e9, .int e10])), (c1, .inl (cI, 40, .inl F)), (c2, .inl (cI, 40, .inl V)), (c3, .inl (cI, 40, .inl O)), (c4, .inl (cI, 40, .inl Y))] := hD
  refine lv_iload_n hx hb dX2_looksFor_5 rfl (lv_at hl 1 rfl) ?_
  refine pz_i (wc := []) CF (m_X2_isNumber l D cI x) (va_cwS 1 hts gX2_looksFor_X2_isNumber rfl rfl rfl k_X2_isNumber.2 ⟨Nat.le_of_ble_eq_true rfl, Nat.le_of_ble_eq_true rfl⟩) hK (fun k q h => by simp at h) rfl hl.1 rfl (Nat.le_of_ble_eq_true rfl) dX2_looksFor_6 ⟨Nat.le_of_ble_eq_true rfl, Nat.le_of_ble_eq_true rfl⟩ ?_
  refine lv_if_eq (tgt := 20) hx hb dX2_looksFor_9 (by decide) (fun c9 => ?_) (fun c9 => ?_)
  · skip
    refine lv_aload_n hx hb dX2_looksFor_20 rfl (lv_at hl 0 rfl) ?_
    refine lv_iconst (v := nI 1) hx hb dX2_looksFor_21 (by decide) ?_
    have hPc : va_P D vwCl [(u, .inr (2, [.int (nI 0), .int (nI n), .int (nI w), .ref c1, .ref c2, .ref c3, .ref c4, .int e7, .int e8, .int e9, .int e10])), (c1, .inl (cI, 40, .inl F)), (c2, .inl (cI, 40, .inl V)), (c3, .inl (cI, 40, .inl O)), (c4, .inl (cI, 40, .inl Y))] H := hP.sub [0, 1, 2, 3, 4] rfl
    have hDc : va_D A [(u, .inr (2, [.int (nI 0), .int (nI n), .int (nI w), .ref c1, .ref c2, .ref c3, .ref c4, .int e7, .int e8, .int e9, .int e10])), (c1, .inl (cI, 40, .inl F)), (c2, .inl (cI, 40, .inl V)), (c3, .inl (cI, 40, .inl O)), (c4, .inl (cI, 40, .inl Y))] := hD.sub [0, 1, 2, 3, 4] (by decide) rfl
    have hFc := va_free (wc := [(u, .inr (2, [.int (nI 0), .int (nI n), .int (nI w), .ref c1, .ref c2, .ref c3, .ref c4, .int e7, .int e8, .int e9, .int e10])), (c1, .inl (cI, 40, .inl F)), (c2, .inl (cI, 40, .inl V)), (c3, .inl (cI, 40, .inl O)), (c4, .inl (cI, 40, .inl Y))]) hD hS hA [0, 1, 2, 3, 4] rfl
    refine pq_i (va_runV (rest := []) CF (m_X2_no l D cI u c1 c2 c3 c4 S O Y (nI 0) e7 e8 e9 e10 (nI 1) H.size) (cwV 1 hts gX2_looksFor_X2_no rfl rfl rfl k_X2_no ⟨Nat.le_of_ble_eq_true rfl, Nat.le_of_ble_eq_true rfl⟩) (mv_pre hK hPc hDc rfl rfl rfl) rfl rfl hl.1 rfl (lv_room (Nat.le_of_ble_eq_true rfl)) dX2_looksFor_22 ⟨Nat.le_of_ble_eq_true rfl, Nat.le_of_ble_eq_true rfl⟩) hS hFc (fun r1 H locs hB hk1 hS => ?_)
    obtain ⟨rfl, hP1⟩ := hB
    obtain ⟨hP, hD⟩ := jn (wb := [(u, .inr (2, [.int (nI 1), .int (nI n), .int (nI w), .ref c1, .ref c2, .ref c3, .ref c4, .int e7, .int e8, .int e9, .int e10])), (c1, .inl (cI, 40, .inl F)), (c2, .inl (cI, 40, .inl V)), (c3, .inl (cI, 40, .inl O)), (c4, .inl (cI, 40, .inl Y))]) (w1 := [(u, .inr (2, [.int (nI 1), .int (nI n), .int (nI w), .ref c1, .ref c2, .ref c3, .ref c4, .int e7, .int e8, .int e9, .int e10])), (c1, .inl (cI, 40, .inl F)), (c2, .inl (cI, 40, .inl V)), (c3, .inl (cI, 40, .inl O)), (c4, .inl (cI, 40, .inl Y))]) hP hD [0, 1, 2, 3, 4] [] rfl rfl rfl rfl 5 rfl (by decide) (by decide) hk1 hP1
    exact em_i hx hb hr hlocks hS (⟨_, _, _, _, _, Or.inl ⟨isI_no (by decide) (by decide) c9, rfl⟩, hP⟩) dX2_looksFor_25
  · skip
    obtain ⟨v, -, hv9, ex⟩ := isI_yes (a := 0) (b := 9999) (by decide) (by decide) c9
    rw [ex] at hl
    refine lv_aload_n hx hb dX2_looksFor_12 rfl (lv_at hl 0 rfl) ?_
    refine lv_iload_n hx hb dX2_looksFor_13 rfl (lv_at hl 1 rfl) ?_
    have hPc : va_P D vwCl [(u, .inr (2, [.int (nI 0), .int (nI n), .int (nI w), .ref c1, .ref c2, .ref c3, .ref c4, .int e7, .int e8, .int e9, .int e10])), (c1, .inl (cI, 40, .inl F)), (c2, .inl (cI, 40, .inl V)), (c3, .inl (cI, 40, .inl O)), (c4, .inl (cI, 40, .inl Y))] H := hP.sub [0, 1, 2, 3, 4] rfl
    have hDc : va_D A [(u, .inr (2, [.int (nI 0), .int (nI n), .int (nI w), .ref c1, .ref c2, .ref c3, .ref c4, .int e7, .int e8, .int e9, .int e10])), (c1, .inl (cI, 40, .inl F)), (c2, .inl (cI, 40, .inl V)), (c3, .inl (cI, 40, .inl O)), (c4, .inl (cI, 40, .inl Y))] := hD.sub [0, 1, 2, 3, 4] (by decide) rfl
    have hFc := va_free (wc := [(u, .inr (2, [.int (nI 0), .int (nI n), .int (nI w), .ref c1, .ref c2, .ref c3, .ref c4, .int e7, .int e8, .int e9, .int e10])), (c1, .inl (cI, 40, .inl F)), (c2, .inl (cI, 40, .inl V)), (c3, .inl (cI, 40, .inl O)), (c4, .inl (cI, 40, .inl Y))]) hD hS hA [0, 1, 2, 3, 4] rfl
    refine pq_i (va_runV (rest := []) CF (m_X2_manyLooks l D cI u c1 c2 c3 c4 S O Y (nI 0) e7 e8 e9 e10 v hv9 H.size) (cwV 1 hts gX2_looksFor_X2_manyLooks rfl rfl rfl k_X2_manyLooks ⟨Nat.le_of_ble_eq_true rfl, Nat.le_of_ble_eq_true rfl⟩) (mv_pre hK hPc hDc rfl rfl rfl) rfl rfl hl.1 rfl (lv_room (Nat.le_of_ble_eq_true rfl)) dX2_looksFor_14 ⟨Nat.le_of_ble_eq_true rfl, Nat.le_of_ble_eq_true rfl⟩) hS hFc (fun r1 H locs hB hk1 hS => ?_)
    obtain ⟨rfl, d8, d9, d10, hP1⟩ := hB
    obtain ⟨hP, hD⟩ := jn (wb := [(u, .inr (2, [.int (nI 0), .int (nI n), .int (nI w), .ref c1, .ref c2, .ref c3, .ref c4, .int (nI (lk n w f v)), .int d8, .int d9, .int d10])), (c1, .inl (cI, 40, .inl F)), (c2, .inl (cI, 40, .inl V)), (c3, .inl (cI, 40, .inl O)), (c4, .inl (cI, 40, .inl Y))]) (w1 := [(u, .inr (2, [.int (nI 0), .int (nI n), .int (nI w), .ref c1, .ref c2, .ref c3, .ref c4, .int (nI (lk n w f v)), .int d8, .int d9, .int d10])), (c1, .inl (cI, 40, .inl F)), (c2, .inl (cI, 40, .inl V)), (c3, .inl (cI, 40, .inl O)), (c4, .inl (cI, 40, .inl Y))]) hP hD [0, 1, 2, 3, 4] [] rfl rfl rfl rfl 5 rfl (by decide) (by decide) hk1 hP1
    refine lv_goto (tgt := 25) hx hb dX2_looksFor_17 (by decide) ?_
    exact em_i hx hb hr hlocks hS (⟨_, _, _, _, _, Or.inr ⟨rfl, v, hv9, ex, rfl⟩, hP⟩) dX2_looksFor_25
theorem k_X2_placeFor : yX2_placeFor.cls = RX2 ∧ yX2_placeFor.cls ≠ "java/lang/invoke/MethodHandle" ∧ yX2_placeFor.cls ≠ "java/lang/invoke/VarHandle" ∧ (parseMethodDescriptor yX2_placeFor.desc).map (fun d => d.parameters.length) = some 1 := by decide +kernel
set_option maxHeartbeats 4000000 in
set_option maxRecDepth 100000 in
theorem m_X2_placeFor (l : Launch) (D : va_G) (cI : ClassId) (u c1 c2 c3 c4 : Nat) {n w : Nat} {F V f g : Nat → Int32} (S : MS n w F V f g) (O Y : Nat → Int32) (e0 e7 e8 e9 e10 : Int32) (x : Int32) (sz : Nat) : Met l yX2_placeFor wsX2_placeFor ({ frames := 3, cells := 0, slots := 0, locals := 68 } : Room) (PM D [(cI, .int)] [.ref u, .int x] sz (mdw cI u c1 c2 c3 c4 e0 n w F V O Y e7 e8 e9 e10)) (qm_i (fun rr H1 => ∃ (c d7 d8 d9 d10 : Int32), Q1 (rg 0 9999 x) (Rn x (fun v => pl n w f v)) c rr ∧ va_P D vwCl (mdw cI u c1 c2 c3 c4 c n w F V O Y d7 d8 d9 d10) H1) (va_A (mdw cI u c1 c2 c3 c4 e0 n w F V O Y e7 e8 e9 e10) sz)) 0 0 (va_A (mdw cI u c1 c2 c3 c4 e0 n w F V O Y e7 e8 e9 e10) sz) := by
  obtain ⟨hn3, hn, hw2, hF, hV, hO⟩ := id S
  refine bd_m (Qc := (fun A => qm_i (fun rr H1 => ∃ (c d7 d8 d9 d10 : Int32), Q1 (rg 0 9999 x) (Rn x (fun v => pl n w f v)) c rr ∧ va_P D vwCl (mdw cI u c1 c2 c3 c4 c n w F V O Y d7 d8 d9 d10) H1) A)) (cc := cX2_placeFor) (maxL := 2) (ret := (some .int)) (by decide) rfl (Nat.le_of_ble_eq_true rfl) ?_
  intro p e s m args below meth c ls A CF hr hlocks hK hP hD hA hS hl hin
  obtain ⟨hx, hb, hml, hown, hts⟩ := id CF
  have hl : lv_has ls 2 [(0, .ref u), (1, .int x)] := hl
  have hP : va_P D vwCl [(u, .inr (2, [.int e0, .int (nI n), .int (nI w), .ref c1, .ref c2, .ref c3, .ref c4, .int e7, .int e8, .int e9, .int e10])), (c1, .inl (cI, 40, .inl F)), (c2, .inl (cI, 40, .inl V)), (c3, .inl (cI, 40, .inl O)), (c4, .inl (cI, 40, .inl Y))] s.heap := hP
  have hD : va_D A [(u, .inr (2, [.int e0, .int (nI n), .int (nI w), .ref c1, .ref c2, .ref c3, .ref c4, .int e7, .int e8, .int e9, .int e10])), (c1, .inl (cI, 40, .inl F)), (c2, .inl (cI, 40, .inl V)), (c3, .inl (cI, 40, .inl O)), (c4, .inl (cI, 40, .inl Y))] := hD
  generalize hH0 : s.heap = H at hP
  have hS : va_S A s.heap H [] := by rw [← hH0]; exact va_S.rf
  generalize hlc0 : ([] : List Loc) = locs at hS ⊢
  refine lv_aload_n hx hb dX2_placeFor_0 rfl (lv_at hl 0 rfl) ?_
  refine lv_iconst (v := nI 0) hx hb dX2_placeFor_1 (by decide) ?_
  refine va_put (D := D) (ci := 2) (v := .int (nI 0)) (ty := .int) (C := RX2) (T := TX2) (N := 11) hx hb hts (fun _ h => (List.mem_cons_of_mem _ (List.mem_append_right _ h))) tyX2 tyX2_ok nmX2 hown hK hP hD hS 0 rfl rfl 0 (by decide) (hts _ (List.mem_of_getElem? (i := 1) rfl)) (fun _ h9 => h9) rfl (by decide +kernel) rfl rfl (Nat.le_of_ble_eq_true rfl) dX2_placeFor_2 (fun H locs hP hD hS => ?_)
  have hP : va_P D vwCl [(u, .inr (2, [.int (nI 0), .int (nI n), .int (nI w), .ref c1, .ref c2, .ref c3, .ref c4, .int e7, .int e8, .int e9, .int e10])), (c1, .inl (cI, 40, .inl F)), (c2, .inl (cI, 40, .inl V)), (c3, .inl (cI, 40, .inl O)), (c4, .inl (cI, 40, .inl Y))] H := hP
  have hD : va_D A [(u, .inr (2, [.int (nI 0), .int (nI n), .int (nI w), .ref c1, .ref c2, .ref c3, .ref c4, .int e7, .int e8, .int e9, .int e10])), (c1, .inl (cI, 40, .inl F)), (c2, .inl (cI, 40, .inl V)), (c3, .inl (cI, 40, .inl O)), (c4, .inl (cI, 40, .inl Y))] := hD
  refine lv_iload_n hx hb dX2_placeFor_5 rfl (lv_at hl 1 rfl) ?_
  refine pz_i (wc := []) CF (m_X2_isNumber l D cI x) (va_cwS 1 hts gX2_placeFor_X2_isNumber rfl rfl rfl k_X2_isNumber.2 ⟨Nat.le_of_ble_eq_true rfl, Nat.le_of_ble_eq_true rfl⟩) hK (fun k q h => by simp at h) rfl hl.1 rfl (Nat.le_of_ble_eq_true rfl) dX2_placeFor_6 ⟨Nat.le_of_ble_eq_true rfl, Nat.le_of_ble_eq_true rfl⟩ ?_
  refine lv_if_eq (tgt := 20) hx hb dX2_placeFor_9 (by decide) (fun c9 => ?_) (fun c9 => ?_)
  · skip
    refine lv_aload_n hx hb dX2_placeFor_20 rfl (lv_at hl 0 rfl) ?_
    refine lv_iconst (v := nI 1) hx hb dX2_placeFor_21 (by decide) ?_
    have hPc : va_P D vwCl [(u, .inr (2, [.int (nI 0), .int (nI n), .int (nI w), .ref c1, .ref c2, .ref c3, .ref c4, .int e7, .int e8, .int e9, .int e10])), (c1, .inl (cI, 40, .inl F)), (c2, .inl (cI, 40, .inl V)), (c3, .inl (cI, 40, .inl O)), (c4, .inl (cI, 40, .inl Y))] H := hP.sub [0, 1, 2, 3, 4] rfl
    have hDc : va_D A [(u, .inr (2, [.int (nI 0), .int (nI n), .int (nI w), .ref c1, .ref c2, .ref c3, .ref c4, .int e7, .int e8, .int e9, .int e10])), (c1, .inl (cI, 40, .inl F)), (c2, .inl (cI, 40, .inl V)), (c3, .inl (cI, 40, .inl O)), (c4, .inl (cI, 40, .inl Y))] := hD.sub [0, 1, 2, 3, 4] (by decide) rfl
    have hFc := va_free (wc := [(u, .inr (2, [.int (nI 0), .int (nI n), .int (nI w), .ref c1, .ref c2, .ref c3, .ref c4, .int e7, .int e8, .int e9, .int e10])), (c1, .inl (cI, 40, .inl F)), (c2, .inl (cI, 40, .inl V)), (c3, .inl (cI, 40, .inl O)), (c4, .inl (cI, 40, .inl Y))]) hD hS hA [0, 1, 2, 3, 4] rfl
    refine pq_i (va_runV (rest := []) CF (m_X2_no l D cI u c1 c2 c3 c4 S O Y (nI 0) e7 e8 e9 e10 (nI 1) H.size) (cwV 1 hts gX2_placeFor_X2_no rfl rfl rfl k_X2_no ⟨Nat.le_of_ble_eq_true rfl, Nat.le_of_ble_eq_true rfl⟩) (mv_pre hK hPc hDc rfl rfl rfl) rfl rfl hl.1 rfl (lv_room (Nat.le_of_ble_eq_true rfl)) dX2_placeFor_22 ⟨Nat.le_of_ble_eq_true rfl, Nat.le_of_ble_eq_true rfl⟩) hS hFc (fun r1 H locs hB hk1 hS => ?_)
    obtain ⟨rfl, hP1⟩ := hB
    obtain ⟨hP, hD⟩ := jn (wb := [(u, .inr (2, [.int (nI 1), .int (nI n), .int (nI w), .ref c1, .ref c2, .ref c3, .ref c4, .int e7, .int e8, .int e9, .int e10])), (c1, .inl (cI, 40, .inl F)), (c2, .inl (cI, 40, .inl V)), (c3, .inl (cI, 40, .inl O)), (c4, .inl (cI, 40, .inl Y))]) (w1 := [(u, .inr (2, [.int (nI 1), .int (nI n), .int (nI w), .ref c1, .ref c2, .ref c3, .ref c4, .int e7, .int e8, .int e9, .int e10])), (c1, .inl (cI, 40, .inl F)), (c2, .inl (cI, 40, .inl V)), (c3, .inl (cI, 40, .inl O)), (c4, .inl (cI, 40, .inl Y))]) hP hD [0, 1, 2, 3, 4] [] rfl rfl rfl rfl 5 rfl (by decide) (by decide) hk1 hP1
    exact em_i hx hb hr hlocks hS (⟨_, _, _, _, _, Or.inl ⟨isI_no (by decide) (by decide) c9, rfl⟩, hP⟩) dX2_placeFor_25
  · skip
    obtain ⟨v, -, hv9, ex⟩ := isI_yes (a := 0) (b := 9999) (by decide) (by decide) c9
    rw [ex] at hl
    refine lv_aload_n hx hb dX2_placeFor_12 rfl (lv_at hl 0 rfl) ?_
    refine lv_iload_n hx hb dX2_placeFor_13 rfl (lv_at hl 1 rfl) ?_
    have hPc : va_P D vwCl [(u, .inr (2, [.int (nI 0), .int (nI n), .int (nI w), .ref c1, .ref c2, .ref c3, .ref c4, .int e7, .int e8, .int e9, .int e10])), (c1, .inl (cI, 40, .inl F)), (c2, .inl (cI, 40, .inl V)), (c3, .inl (cI, 40, .inl O)), (c4, .inl (cI, 40, .inl Y))] H := hP.sub [0, 1, 2, 3, 4] rfl
    have hDc : va_D A [(u, .inr (2, [.int (nI 0), .int (nI n), .int (nI w), .ref c1, .ref c2, .ref c3, .ref c4, .int e7, .int e8, .int e9, .int e10])), (c1, .inl (cI, 40, .inl F)), (c2, .inl (cI, 40, .inl V)), (c3, .inl (cI, 40, .inl O)), (c4, .inl (cI, 40, .inl Y))] := hD.sub [0, 1, 2, 3, 4] (by decide) rfl
    have hFc := va_free (wc := [(u, .inr (2, [.int (nI 0), .int (nI n), .int (nI w), .ref c1, .ref c2, .ref c3, .ref c4, .int e7, .int e8, .int e9, .int e10])), (c1, .inl (cI, 40, .inl F)), (c2, .inl (cI, 40, .inl V)), (c3, .inl (cI, 40, .inl O)), (c4, .inl (cI, 40, .inl Y))]) hD hS hA [0, 1, 2, 3, 4] rfl
    refine pq_i (va_runV (rest := []) CF (m_X2_place l D cI u c1 c2 c3 c4 S O Y (nI 0) e7 e8 e9 e10 v hv9 H.size) (cwV 1 hts gX2_placeFor_X2_place rfl rfl rfl k_X2_place ⟨Nat.le_of_ble_eq_true rfl, Nat.le_of_ble_eq_true rfl⟩) (mv_pre hK hPc hDc rfl rfl rfl) rfl rfl hl.1 rfl (lv_room (Nat.le_of_ble_eq_true rfl)) dX2_placeFor_14 ⟨Nat.le_of_ble_eq_true rfl, Nat.le_of_ble_eq_true rfl⟩) hS hFc (fun r1 H locs hB hk1 hS => ?_)
    obtain ⟨rfl, d7, d8, d9, d10, hP1⟩ := hB
    obtain ⟨hP, hD⟩ := jn (wb := [(u, .inr (2, [.int (nI 0), .int (nI n), .int (nI w), .ref c1, .ref c2, .ref c3, .ref c4, .int d7, .int d8, .int d9, .int d10])), (c1, .inl (cI, 40, .inl F)), (c2, .inl (cI, 40, .inl V)), (c3, .inl (cI, 40, .inl O)), (c4, .inl (cI, 40, .inl Y))]) (w1 := [(u, .inr (2, [.int (nI 0), .int (nI n), .int (nI w), .ref c1, .ref c2, .ref c3, .ref c4, .int d7, .int d8, .int d9, .int d10])), (c1, .inl (cI, 40, .inl F)), (c2, .inl (cI, 40, .inl V)), (c3, .inl (cI, 40, .inl O)), (c4, .inl (cI, 40, .inl Y))]) hP hD [0, 1, 2, 3, 4] [] rfl rfl rfl rfl 5 rfl (by decide) (by decide) hk1 hP1
    refine lv_goto (tgt := 25) hx hb dX2_placeFor_17 (by decide) ?_
    exact em_i hx hb hr hlocks hS (⟨_, _, _, _, _, Or.inr ⟨rfl, v, hv9, ex, rfl⟩, hP⟩) dX2_placeFor_25
theorem k_X2_lookedAt : yX2_lookedAt.cls = RX2 ∧ yX2_lookedAt.cls ≠ "java/lang/invoke/MethodHandle" ∧ yX2_lookedAt.cls ≠ "java/lang/invoke/VarHandle" ∧ (parseMethodDescriptor yX2_lookedAt.desc).map (fun d => d.parameters.length) = some 2 := by decide +kernel
set_option maxHeartbeats 4000000 in
set_option maxRecDepth 100000 in
theorem m_X2_lookedAt (l : Launch) (D : va_G) (cI : ClassId) (u c1 c2 c3 c4 : Nat) {n w : Nat} {F V f g : Nat → Int32} (S : MS n w F V f g) (O Y : Nat → Int32) (e0 e7 e8 e9 e10 : Int32) (x y : Int32) (sz : Nat) : Met l yX2_lookedAt wsX2_lookedAt ({ frames := 2, cells := 0, slots := 0, locals := 42 } : Room) (PM D [(cI, .int)] [.ref u, .int x, .int y] sz (mdw cI u c1 c2 c3 c4 e0 n w F V O Y e7 e8 e9 e10)) (qm_i (fun rr H1 => ∃ c : Int32, Q1 (rg 0 9999 x ∧ rg 0 39 y) (Rl n w x y) c rr ∧ va_P D vwCl (mdw cI u c1 c2 c3 c4 c n w F V O Y e7 e8 e9 e10) H1) (va_A (mdw cI u c1 c2 c3 c4 e0 n w F V O Y e7 e8 e9 e10) sz)) 0 0 (va_A (mdw cI u c1 c2 c3 c4 e0 n w F V O Y e7 e8 e9 e10) sz) := by
  obtain ⟨hn3, hn, hw2, hF, hV, hO⟩ := id S
  refine bd_m (Qc := (fun A => qm_i (fun rr H1 => ∃ c : Int32, Q1 (rg 0 9999 x ∧ rg 0 39 y) (Rl n w x y) c rr ∧ va_P D vwCl (mdw cI u c1 c2 c3 c4 c n w F V O Y e7 e8 e9 e10) H1) A)) (cc := cX2_lookedAt) (maxL := 4) (ret := (some .int)) (by decide) rfl (Nat.le_of_ble_eq_true rfl) ?_
  intro p e s m args below meth c ls A CF hr hlocks hK hP hD hA hS hl hin
  obtain ⟨hx, hb, hml, hown, hts⟩ := id CF
  have hl : lv_has ls 4 [(0, .ref u), (1, .int x), (2, .int y)] := hl
  have hP : va_P D vwCl [(u, .inr (2, [.int e0, .int (nI n), .int (nI w), .ref c1, .ref c2, .ref c3, .ref c4, .int e7, .int e8, .int e9, .int e10])), (c1, .inl (cI, 40, .inl F)), (c2, .inl (cI, 40, .inl V)), (c3, .inl (cI, 40, .inl O)), (c4, .inl (cI, 40, .inl Y))] s.heap := hP
  have hD : va_D A [(u, .inr (2, [.int e0, .int (nI n), .int (nI w), .ref c1, .ref c2, .ref c3, .ref c4, .int e7, .int e8, .int e9, .int e10])), (c1, .inl (cI, 40, .inl F)), (c2, .inl (cI, 40, .inl V)), (c3, .inl (cI, 40, .inl O)), (c4, .inl (cI, 40, .inl Y))] := hD
  generalize hH0 : s.heap = H at hP
  have hS : va_S A s.heap H [] := by rw [← hH0]; exact va_S.rf
  generalize hlc0 : ([] : List Loc) = locs at hS ⊢
  refine lv_aload_n hx hb dX2_lookedAt_0 rfl (lv_at hl 0 rfl) ?_
  refine lv_iconst (v := nI 0) hx hb dX2_lookedAt_1 (by decide) ?_
  refine va_put (D := D) (ci := 2) (v := .int (nI 0)) (ty := .int) (C := RX2) (T := TX2) (N := 11) hx hb hts (fun _ h => (List.mem_cons_of_mem _ (List.mem_append_right _ h))) tyX2 tyX2_ok nmX2 hown hK hP hD hS 0 rfl rfl 0 (by decide) (hts _ (List.mem_of_getElem? (i := 1) rfl)) (fun _ h9 => h9) rfl (by decide +kernel) rfl rfl (Nat.le_of_ble_eq_true rfl) dX2_lookedAt_2 (fun H locs hP hD hS => ?_)
  have hP : va_P D vwCl [(u, .inr (2, [.int (nI 0), .int (nI n), .int (nI w), .ref c1, .ref c2, .ref c3, .ref c4, .int e7, .int e8, .int e9, .int e10])), (c1, .inl (cI, 40, .inl F)), (c2, .inl (cI, 40, .inl V)), (c3, .inl (cI, 40, .inl O)), (c4, .inl (cI, 40, .inl Y))] H := hP
  have hD : va_D A [(u, .inr (2, [.int (nI 0), .int (nI n), .int (nI w), .ref c1, .ref c2, .ref c3, .ref c4, .int e7, .int e8, .int e9, .int e10])), (c1, .inl (cI, 40, .inl F)), (c2, .inl (cI, 40, .inl V)), (c3, .inl (cI, 40, .inl O)), (c4, .inl (cI, 40, .inl Y))] := hD
  refine lv_iload_n hx hb dX2_lookedAt_5 rfl (lv_at hl 1 rfl) ?_
  refine pz_i (wc := []) CF (m_X2_isNumber l D cI x) (va_cwS 1 hts gX2_lookedAt_X2_isNumber rfl rfl rfl k_X2_isNumber.2 ⟨Nat.le_of_ble_eq_true rfl, Nat.le_of_ble_eq_true rfl⟩) hK (fun k q h => by simp at h) rfl hl.1 rfl (Nat.le_of_ble_eq_true rfl) dX2_lookedAt_6 ⟨Nat.le_of_ble_eq_true rfl, Nat.le_of_ble_eq_true rfl⟩ ?_
  refine lv_if_eq (tgt := 22) hx hb dX2_lookedAt_9 (by decide) (fun c9 => ?_) (fun c9 => ?_)
  · skip
    refine lv_aload_n hx hb dX2_lookedAt_22 rfl (lv_at hl 0 rfl) ?_
    refine lv_iconst (v := nI 1) hx hb dX2_lookedAt_23 (by decide) ?_
    have hPc : va_P D vwCl [(u, .inr (2, [.int (nI 0), .int (nI n), .int (nI w), .ref c1, .ref c2, .ref c3, .ref c4, .int e7, .int e8, .int e9, .int e10])), (c1, .inl (cI, 40, .inl F)), (c2, .inl (cI, 40, .inl V)), (c3, .inl (cI, 40, .inl O)), (c4, .inl (cI, 40, .inl Y))] H := hP.sub [0, 1, 2, 3, 4] rfl
    have hDc : va_D A [(u, .inr (2, [.int (nI 0), .int (nI n), .int (nI w), .ref c1, .ref c2, .ref c3, .ref c4, .int e7, .int e8, .int e9, .int e10])), (c1, .inl (cI, 40, .inl F)), (c2, .inl (cI, 40, .inl V)), (c3, .inl (cI, 40, .inl O)), (c4, .inl (cI, 40, .inl Y))] := hD.sub [0, 1, 2, 3, 4] (by decide) rfl
    have hFc := va_free (wc := [(u, .inr (2, [.int (nI 0), .int (nI n), .int (nI w), .ref c1, .ref c2, .ref c3, .ref c4, .int e7, .int e8, .int e9, .int e10])), (c1, .inl (cI, 40, .inl F)), (c2, .inl (cI, 40, .inl V)), (c3, .inl (cI, 40, .inl O)), (c4, .inl (cI, 40, .inl Y))]) hD hS hA [0, 1, 2, 3, 4] rfl
    refine pq_i (va_runV (rest := []) CF (m_X2_no l D cI u c1 c2 c3 c4 S O Y (nI 0) e7 e8 e9 e10 (nI 1) H.size) (cwV 1 hts gX2_lookedAt_X2_no rfl rfl rfl k_X2_no ⟨Nat.le_of_ble_eq_true rfl, Nat.le_of_ble_eq_true rfl⟩) (mv_pre hK hPc hDc rfl rfl rfl) rfl rfl hl.1 rfl (lv_room (Nat.le_of_ble_eq_true rfl)) dX2_lookedAt_24 ⟨Nat.le_of_ble_eq_true rfl, Nat.le_of_ble_eq_true rfl⟩) hS hFc (fun r1 H locs hB hk1 hS => ?_)
    obtain ⟨rfl, hP1⟩ := hB
    obtain ⟨hP, hD⟩ := jn (wb := [(u, .inr (2, [.int (nI 1), .int (nI n), .int (nI w), .ref c1, .ref c2, .ref c3, .ref c4, .int e7, .int e8, .int e9, .int e10])), (c1, .inl (cI, 40, .inl F)), (c2, .inl (cI, 40, .inl V)), (c3, .inl (cI, 40, .inl O)), (c4, .inl (cI, 40, .inl Y))]) (w1 := [(u, .inr (2, [.int (nI 1), .int (nI n), .int (nI w), .ref c1, .ref c2, .ref c3, .ref c4, .int e7, .int e8, .int e9, .int e10])), (c1, .inl (cI, 40, .inl F)), (c2, .inl (cI, 40, .inl V)), (c3, .inl (cI, 40, .inl O)), (c4, .inl (cI, 40, .inl Y))]) hP hD [0, 1, 2, 3, 4] [] rfl rfl rfl rfl 5 rfl (by decide) (by decide) hk1 hP1
    exact em_i hx hb hr hlocks hS (⟨_, Or.inl ⟨fun z => isI_no (by decide) (by decide) c9 z.1, rfl⟩, hP⟩) dX2_lookedAt_27
  · skip
    refine lv_iload_n hx hb dX2_lookedAt_12 rfl (lv_at hl 2 rfl) ?_
    refine lv_iconst (v := nI 0) hx hb dX2_lookedAt_13 (by decide) ?_
    refine lv_bipush (v := nI 39) hx hb dX2_lookedAt_14 (by decide) ?_
    refine pz_i (wc := []) CF (m_X2_isIn l D cI y (nI 0) (nI 39)) (va_cwS 3 hts gX2_lookedAt_X2_isIn rfl rfl rfl k_X2_isIn.2 ⟨Nat.le_of_ble_eq_true rfl, Nat.le_of_ble_eq_true rfl⟩) hK (fun k q h => by simp at h) rfl hl.1 rfl (Nat.le_of_ble_eq_true rfl) dX2_lookedAt_16 ⟨Nat.le_of_ble_eq_true rfl, Nat.le_of_ble_eq_true rfl⟩ ?_
    refine lv_if_ne (tgt := 28) hx hb dX2_lookedAt_19 (by decide) (fun c19 => ?_) (fun c19 => ?_)
    · skip
      obtain ⟨v, -, hv9, ex⟩ := isI_yes (a := 0) (b := 9999) (by decide) (by decide) c9
      obtain ⟨k, -, hk9, ey⟩ := isI_yes (a := 0) (b := 39) (by decide) (by decide) c19
      rw [ex, ey] at hl
      have hk40 : k ≤ 40 := by omega
      refine lv_aload_n hx hb dX2_lookedAt_28 rfl (lv_at hl 0 rfl) ?_
      refine va_get (D := D) (ci := 2) (v := .int (nI w)) (C := RX2) (T := TX2) (N := 11) hx hb hts (fun _ h => (List.mem_cons_of_mem _ (List.mem_append_right _ h))) hown hK hP 0 rfl rfl 2 (by decide) (hts _ (List.mem_of_getElem? (i := 2) rfl)) (fun _ h9 => h9) rfl dX2_lookedAt_29 ?_
      refine bz_ne (tgt := 39) hx hb dX2_lookedAt_32 (by decide) (by omega) (fun c32 => ?_) (fun c32 => ?_)
      · skip
        refine lv_aload_n hx hb dX2_lookedAt_39 rfl (lv_at hl 0 rfl) ?_
        refine va_get (D := D) (ci := 2) (v := .int (nI w)) (C := RX2) (T := TX2) (N := 11) hx hb hts (fun _ h => (List.mem_cons_of_mem _ (List.mem_append_right _ h))) hown hK hP 0 rfl rfl 2 (by decide) (hts _ (List.mem_of_getElem? (i := 2) rfl)) (fun _ h9 => h9) rfl dX2_lookedAt_40 ?_
        refine lv_iconst (v := nI 1) hx hb dX2_lookedAt_43 (by decide) ?_
        refine bn_ne (tgt := 57) hx hb dX2_lookedAt_44 (by decide) (by omega) (by omega) (fun c44 => ?_) (fun c44 => ?_)
        · skip
          refine lv_iload_n hx hb dX2_lookedAt_57 rfl (lv_at hl 2 rfl) ?_
          refine lv_iconst (v := nI 1) hx hb dX2_lookedAt_58 (by decide) ?_
          refine lv_iload_n hx hb dX2_lookedAt_59 rfl (lv_at hl 1 rfl) ?_
          refine lv_aload_n hx hb dX2_lookedAt_60 rfl (lv_at hl 0 rfl) ?_
          refine va_get (D := D) (ci := 2) (v := .int (nI n)) (C := RX2) (T := TX2) (N := 11) hx hb hts (fun _ h => (List.mem_cons_of_mem _ (List.mem_append_right _ h))) hown hK hP 0 rfl rfl 1 (by decide) (hts _ (List.mem_of_getElem? (i := 3) rfl)) (fun _ h9 => h9) rfl dX2_lookedAt_61 ?_
          refine an_div hx hb (by omega) (by omega) (by omega) dX2_lookedAt_64 ?_
          refine lv_aload_n hx hb dX2_lookedAt_65 rfl (lv_at hl 0 rfl) ?_
          refine va_get (D := D) (ci := 2) (v := .int (nI n)) (C := RX2) (T := TX2) (N := 11) hx hb hts (fun _ h => (List.mem_cons_of_mem _ (List.mem_append_right _ h))) hown hK hP 0 rfl rfl 1 (by decide) (hts _ (List.mem_of_getElem? (i := 3) rfl)) (fun _ h9 => h9) rfl dX2_lookedAt_66 ?_
          refine lv_iconst (v := nI 1) hx hb dX2_lookedAt_69 (by decide) ?_
          refine an_sub hx hb (by omega) dX2_lookedAt_70 ?_
          refine an_rem hx hb (div_small hv9) (by omega) (by omega) dX2_lookedAt_71 ?_
          refine an_add hx hb dX2_lookedAt_72 ?_
          refine an_mul hx hb dX2_lookedAt_73 ?_
          have ho : of_ n w v k = (k * (1 + ((v / n) % (n - 1)))) := by rw [of_, if_neg c44, if_pos (by omega)]
          refine lv_istore_n (lv' := [(3, .int (nI (k * (1 + ((v / n) % (n - 1)))))), (0, .ref u), (1, .int (nI v)), (2, .int (nI k))]) hx hb dX2_lookedAt_74 rfl hl (by decide) rfl (fun ls hl => ?_)
          refine lv_iload_n hx hb dX2_lookedAt_75 rfl (lv_at hl 2 rfl) ?_
          refine lv_iload_n hx hb dX2_lookedAt_76 rfl (lv_at hl 0 rfl) ?_
          refine an_add hx hb dX2_lookedAt_77 ?_
          refine lv_aload_n hx hb dX2_lookedAt_78 rfl (lv_at hl 1 rfl) ?_
          refine va_get (D := D) (ci := 2) (v := .int (nI n)) (C := RX2) (T := TX2) (N := 11) hx hb hts (fun _ h => (List.mem_cons_of_mem _ (List.mem_append_right _ h))) hown hK hP 0 rfl rfl 1 (by decide) (hts _ (List.mem_of_getElem? (i := 3) rfl)) (fun _ h9 => h9) rfl dX2_lookedAt_79 ?_
          refine an_rem hx hb (st_small2 hv9 hk40 hn3 hn) (by omega) (by omega) dX2_lookedAt_82 ?_
          exact em_i hx hb hr hlocks hS (⟨_, Or.inr ⟨rfl, v, k, hv9, ex, hk9, ey, by rw [at_, ho]⟩, hP⟩) dX2_lookedAt_83
        · skip
          refine lv_iload_n hx hb dX2_lookedAt_47 rfl (lv_at hl 2 rfl) ?_
          refine lv_iload_n hx hb dX2_lookedAt_48 rfl (lv_at hl 2 rfl) ?_
          refine lv_iconst (v := nI 1) hx hb dX2_lookedAt_49 (by decide) ?_
          refine an_add hx hb dX2_lookedAt_50 ?_
          refine an_mul hx hb dX2_lookedAt_51 ?_
          refine lv_iconst (v := nI 2) hx hb dX2_lookedAt_52 (by decide) ?_
          refine an_div hx hb (sq_small hk40) (by decide) (by decide) dX2_lookedAt_53 ?_
          refine lv_goto (tgt := 74) hx hb dX2_lookedAt_54 (by decide) ?_
          have ho : of_ n w v k = ((k * (k + 1)) / 2) := by rw [of_, if_pos c44]
          refine lv_istore_n (lv' := [(3, .int (nI ((k * (k + 1)) / 2))), (0, .ref u), (1, .int (nI v)), (2, .int (nI k))]) hx hb dX2_lookedAt_74 rfl hl (by decide) rfl (fun ls hl => ?_)
          refine lv_iload_n hx hb dX2_lookedAt_75 rfl (lv_at hl 2 rfl) ?_
          refine lv_iload_n hx hb dX2_lookedAt_76 rfl (lv_at hl 0 rfl) ?_
          refine an_add hx hb dX2_lookedAt_77 ?_
          refine lv_aload_n hx hb dX2_lookedAt_78 rfl (lv_at hl 1 rfl) ?_
          refine va_get (D := D) (ci := 2) (v := .int (nI n)) (C := RX2) (T := TX2) (N := 11) hx hb hts (fun _ h => (List.mem_cons_of_mem _ (List.mem_append_right _ h))) hown hK hP 0 rfl rfl 1 (by decide) (hts _ (List.mem_of_getElem? (i := 3) rfl)) (fun _ h9 => h9) rfl dX2_lookedAt_79 ?_
          refine an_rem hx hb (st_small3 hv9 hk40) (by omega) (by omega) dX2_lookedAt_82 ?_
          exact em_i hx hb hr hlocks hS (⟨_, Or.inr ⟨rfl, v, k, hv9, ex, hk9, ey, by rw [at_, ho]⟩, hP⟩) dX2_lookedAt_83
      · skip
        refine lv_iload_n hx hb dX2_lookedAt_35 rfl (lv_at hl 2 rfl) ?_
        refine lv_goto (tgt := 74) hx hb dX2_lookedAt_36 (by decide) ?_
        have ho : of_ n w v k = k := by rw [of_, if_neg (by omega), if_neg (by omega)]
        refine lv_istore_n (lv' := [(3, .int (nI k)), (0, .ref u), (1, .int (nI v)), (2, .int (nI k))]) hx hb dX2_lookedAt_74 rfl hl (by decide) rfl (fun ls hl => ?_)
        refine lv_iload_n hx hb dX2_lookedAt_75 rfl (lv_at hl 2 rfl) ?_
        refine lv_iload_n hx hb dX2_lookedAt_76 rfl (lv_at hl 0 rfl) ?_
        refine an_add hx hb dX2_lookedAt_77 ?_
        refine lv_aload_n hx hb dX2_lookedAt_78 rfl (lv_at hl 1 rfl) ?_
        refine va_get (D := D) (ci := 2) (v := .int (nI n)) (C := RX2) (T := TX2) (N := 11) hx hb hts (fun _ h => (List.mem_cons_of_mem _ (List.mem_append_right _ h))) hown hK hP 0 rfl rfl 1 (by decide) (hts _ (List.mem_of_getElem? (i := 3) rfl)) (fun _ h9 => h9) rfl dX2_lookedAt_79 ?_
        refine an_rem hx hb (by omega) (by omega) (by omega) dX2_lookedAt_82 ?_
        exact em_i hx hb hr hlocks hS (⟨_, Or.inr ⟨rfl, v, k, hv9, ex, hk9, ey, by rw [at_, ho]⟩, hP⟩) dX2_lookedAt_83
    · skip
      refine lv_aload_n hx hb dX2_lookedAt_22 rfl (lv_at hl 0 rfl) ?_
      refine lv_iconst (v := nI 1) hx hb dX2_lookedAt_23 (by decide) ?_
      have hPc : va_P D vwCl [(u, .inr (2, [.int (nI 0), .int (nI n), .int (nI w), .ref c1, .ref c2, .ref c3, .ref c4, .int e7, .int e8, .int e9, .int e10])), (c1, .inl (cI, 40, .inl F)), (c2, .inl (cI, 40, .inl V)), (c3, .inl (cI, 40, .inl O)), (c4, .inl (cI, 40, .inl Y))] H := hP.sub [0, 1, 2, 3, 4] rfl
      have hDc : va_D A [(u, .inr (2, [.int (nI 0), .int (nI n), .int (nI w), .ref c1, .ref c2, .ref c3, .ref c4, .int e7, .int e8, .int e9, .int e10])), (c1, .inl (cI, 40, .inl F)), (c2, .inl (cI, 40, .inl V)), (c3, .inl (cI, 40, .inl O)), (c4, .inl (cI, 40, .inl Y))] := hD.sub [0, 1, 2, 3, 4] (by decide) rfl
      have hFc := va_free (wc := [(u, .inr (2, [.int (nI 0), .int (nI n), .int (nI w), .ref c1, .ref c2, .ref c3, .ref c4, .int e7, .int e8, .int e9, .int e10])), (c1, .inl (cI, 40, .inl F)), (c2, .inl (cI, 40, .inl V)), (c3, .inl (cI, 40, .inl O)), (c4, .inl (cI, 40, .inl Y))]) hD hS hA [0, 1, 2, 3, 4] rfl
      refine pq_i (va_runV (rest := []) CF (m_X2_no l D cI u c1 c2 c3 c4 S O Y (nI 0) e7 e8 e9 e10 (nI 1) H.size) (cwV 1 hts gX2_lookedAt_X2_no rfl rfl rfl k_X2_no ⟨Nat.le_of_ble_eq_true rfl, Nat.le_of_ble_eq_true rfl⟩) (mv_pre hK hPc hDc rfl rfl rfl) rfl rfl hl.1 rfl (lv_room (Nat.le_of_ble_eq_true rfl)) dX2_lookedAt_24 ⟨Nat.le_of_ble_eq_true rfl, Nat.le_of_ble_eq_true rfl⟩) hS hFc (fun r1 H locs hB hk1 hS => ?_)
      obtain ⟨rfl, hP1⟩ := hB
      obtain ⟨hP, hD⟩ := jn (wb := [(u, .inr (2, [.int (nI 1), .int (nI n), .int (nI w), .ref c1, .ref c2, .ref c3, .ref c4, .int e7, .int e8, .int e9, .int e10])), (c1, .inl (cI, 40, .inl F)), (c2, .inl (cI, 40, .inl V)), (c3, .inl (cI, 40, .inl O)), (c4, .inl (cI, 40, .inl Y))]) (w1 := [(u, .inr (2, [.int (nI 1), .int (nI n), .int (nI w), .ref c1, .ref c2, .ref c3, .ref c4, .int e7, .int e8, .int e9, .int e10])), (c1, .inl (cI, 40, .inl F)), (c2, .inl (cI, 40, .inl V)), (c3, .inl (cI, 40, .inl O)), (c4, .inl (cI, 40, .inl Y))]) hP hD [0, 1, 2, 3, 4] [] rfl rfl rfl rfl 5 rfl (by decide) (by decide) hk1 hP1
      exact em_i hx hb hr hlocks hS (⟨_, Or.inl ⟨fun z => isI_no (by decide) (by decide) c19 z.2, rfl⟩, hP⟩) dX2_lookedAt_27
theorem k_X2_looksWith : yX2_looksWith.cls = RX2 ∧ yX2_looksWith.cls ≠ "java/lang/invoke/MethodHandle" ∧ yX2_looksWith.cls ≠ "java/lang/invoke/VarHandle" ∧ (parseMethodDescriptor yX2_looksWith.desc).map (fun d => d.parameters.length) = some 2 := by decide +kernel
set_option maxHeartbeats 4000000 in
set_option maxRecDepth 100000 in
theorem m_X2_looksWith (l : Launch) (D : va_G) (cI : ClassId) (u c1 c2 c3 c4 : Nat) {n w : Nat} {F V f g : Nat → Int32} (S : MS n w F V f g) (O Y : Nat → Int32) (e0 e7 e8 e9 e10 : Int32) (x y : Int32) (sz : Nat) : Met l yX2_looksWith wsX2_looksWith ({ frames := 2, cells := 0, slots := 0, locals := 50 } : Room) (PM D [(cI, .int)] [.ref u, .int x, .int y] sz (mdw cI u c1 c2 c3 c4 e0 n w F V O Y e7 e8 e9 e10)) (qm_i (fun rr H1 => ∃ (c : Int32) (O3 Y3 : Nat → Int32) (d7 d8 d9 d10 : Int32), Q1 (rg 3 40 x ∧ rg 0 2 y) (Rw n f g x y) c rr ∧ va_P D vwCl (mdw cI u c1 c2 c3 c4 c n w F V O3 Y3 d7 d8 d9 d10) H1) (va_A (mdw cI u c1 c2 c3 c4 e0 n w F V O Y e7 e8 e9 e10) sz)) 0 0 (va_A (mdw cI u c1 c2 c3 c4 e0 n w F V O Y e7 e8 e9 e10) sz) := by
  obtain ⟨hn3, hn, hw2, hF, hV, hO⟩ := id S
  refine bd_m (Qc := (fun A => qm_i (fun rr H1 => ∃ (c : Int32) (O3 Y3 : Nat → Int32) (d7 d8 d9 d10 : Int32), Q1 (rg 3 40 x ∧ rg 0 2 y) (Rw n f g x y) c rr ∧ va_P D vwCl (mdw cI u c1 c2 c3 c4 c n w F V O3 Y3 d7 d8 d9 d10) H1) A)) (cc := cX2_looksWith) (maxL := 3) (ret := (some .int)) (by decide) rfl (Nat.le_of_ble_eq_true rfl) ?_
  intro p e s m args below meth c ls A CF hr hlocks hK hP hD hA hS hl hin
  obtain ⟨hx, hb, hml, hown, hts⟩ := id CF
  have hl : lv_has ls 3 [(0, .ref u), (1, .int x), (2, .int y)] := hl
  have hP : va_P D vwCl [(u, .inr (2, [.int e0, .int (nI n), .int (nI w), .ref c1, .ref c2, .ref c3, .ref c4, .int e7, .int e8, .int e9, .int e10])), (c1, .inl (cI, 40, .inl F)), (c2, .inl (cI, 40, .inl V)), (c3, .inl (cI, 40, .inl O)), (c4, .inl (cI, 40, .inl Y))] s.heap := hP
  have hD : va_D A [(u, .inr (2, [.int e0, .int (nI n), .int (nI w), .ref c1, .ref c2, .ref c3, .ref c4, .int e7, .int e8, .int e9, .int e10])), (c1, .inl (cI, 40, .inl F)), (c2, .inl (cI, 40, .inl V)), (c3, .inl (cI, 40, .inl O)), (c4, .inl (cI, 40, .inl Y))] := hD
  generalize hH0 : s.heap = H at hP
  have hS : va_S A s.heap H [] := by rw [← hH0]; exact va_S.rf
  generalize hlc0 : ([] : List Loc) = locs at hS ⊢
  refine lv_aload_n hx hb dX2_looksWith_0 rfl (lv_at hl 0 rfl) ?_
  refine lv_iconst (v := nI 0) hx hb dX2_looksWith_1 (by decide) ?_
  refine va_put (D := D) (ci := 2) (v := .int (nI 0)) (ty := .int) (C := RX2) (T := TX2) (N := 11) hx hb hts (fun _ h => (List.mem_cons_of_mem _ (List.mem_append_right _ h))) tyX2 tyX2_ok nmX2 hown hK hP hD hS 0 rfl rfl 0 (by decide) (hts _ (List.mem_of_getElem? (i := 1) rfl)) (fun _ h9 => h9) rfl (by decide +kernel) rfl rfl (Nat.le_of_ble_eq_true rfl) dX2_looksWith_2 (fun H locs hP hD hS => ?_)
  have hP : va_P D vwCl [(u, .inr (2, [.int (nI 0), .int (nI n), .int (nI w), .ref c1, .ref c2, .ref c3, .ref c4, .int e7, .int e8, .int e9, .int e10])), (c1, .inl (cI, 40, .inl F)), (c2, .inl (cI, 40, .inl V)), (c3, .inl (cI, 40, .inl O)), (c4, .inl (cI, 40, .inl Y))] H := hP
  have hD : va_D A [(u, .inr (2, [.int (nI 0), .int (nI n), .int (nI w), .ref c1, .ref c2, .ref c3, .ref c4, .int e7, .int e8, .int e9, .int e10])), (c1, .inl (cI, 40, .inl F)), (c2, .inl (cI, 40, .inl V)), (c3, .inl (cI, 40, .inl O)), (c4, .inl (cI, 40, .inl Y))] := hD
  refine lv_iload_n hx hb dX2_looksWith_5 rfl (lv_at hl 1 rfl) ?_
  refine lv_iconst (v := nI 3) hx hb dX2_looksWith_6 (by decide) ?_
  refine lv_bipush (v := nI 40) hx hb dX2_looksWith_7 (by decide) ?_
  refine pz_i (wc := []) CF (m_X2_isIn l D cI x (nI 3) (nI 40)) (va_cwS 3 hts gX2_looksWith_X2_isIn rfl rfl rfl k_X2_isIn.2 ⟨Nat.le_of_ble_eq_true rfl, Nat.le_of_ble_eq_true rfl⟩) hK (fun k q h => by simp at h) rfl hl.1 rfl (Nat.le_of_ble_eq_true rfl) dX2_looksWith_9 ⟨Nat.le_of_ble_eq_true rfl, Nat.le_of_ble_eq_true rfl⟩ ?_
  refine lv_if_eq (tgt := 33) hx hb dX2_looksWith_12 (by decide) (fun c12 => ?_) (fun c12 => ?_)
  · skip
    refine lv_aload_n hx hb dX2_looksWith_33 rfl (lv_at hl 0 rfl) ?_
    refine lv_iconst (v := nI 1) hx hb dX2_looksWith_34 (by decide) ?_
    have hPc : va_P D vwCl [(u, .inr (2, [.int (nI 0), .int (nI n), .int (nI w), .ref c1, .ref c2, .ref c3, .ref c4, .int e7, .int e8, .int e9, .int e10])), (c1, .inl (cI, 40, .inl F)), (c2, .inl (cI, 40, .inl V)), (c3, .inl (cI, 40, .inl O)), (c4, .inl (cI, 40, .inl Y))] H := hP.sub [0, 1, 2, 3, 4] rfl
    have hDc : va_D A [(u, .inr (2, [.int (nI 0), .int (nI n), .int (nI w), .ref c1, .ref c2, .ref c3, .ref c4, .int e7, .int e8, .int e9, .int e10])), (c1, .inl (cI, 40, .inl F)), (c2, .inl (cI, 40, .inl V)), (c3, .inl (cI, 40, .inl O)), (c4, .inl (cI, 40, .inl Y))] := hD.sub [0, 1, 2, 3, 4] (by decide) rfl
    have hFc := va_free (wc := [(u, .inr (2, [.int (nI 0), .int (nI n), .int (nI w), .ref c1, .ref c2, .ref c3, .ref c4, .int e7, .int e8, .int e9, .int e10])), (c1, .inl (cI, 40, .inl F)), (c2, .inl (cI, 40, .inl V)), (c3, .inl (cI, 40, .inl O)), (c4, .inl (cI, 40, .inl Y))]) hD hS hA [0, 1, 2, 3, 4] rfl
    refine pq_i (va_runV (rest := []) CF (m_X2_no l D cI u c1 c2 c3 c4 S O Y (nI 0) e7 e8 e9 e10 (nI 1) H.size) (cwV 1 hts gX2_looksWith_X2_no rfl rfl rfl k_X2_no ⟨Nat.le_of_ble_eq_true rfl, Nat.le_of_ble_eq_true rfl⟩) (mv_pre hK hPc hDc rfl rfl rfl) rfl rfl hl.1 rfl (lv_room (Nat.le_of_ble_eq_true rfl)) dX2_looksWith_35 ⟨Nat.le_of_ble_eq_true rfl, Nat.le_of_ble_eq_true rfl⟩) hS hFc (fun r1 H locs hB hk1 hS => ?_)
    obtain ⟨rfl, hP1⟩ := hB
    obtain ⟨hP, hD⟩ := jn (wb := [(u, .inr (2, [.int (nI 1), .int (nI n), .int (nI w), .ref c1, .ref c2, .ref c3, .ref c4, .int e7, .int e8, .int e9, .int e10])), (c1, .inl (cI, 40, .inl F)), (c2, .inl (cI, 40, .inl V)), (c3, .inl (cI, 40, .inl O)), (c4, .inl (cI, 40, .inl Y))]) (w1 := [(u, .inr (2, [.int (nI 1), .int (nI n), .int (nI w), .ref c1, .ref c2, .ref c3, .ref c4, .int e7, .int e8, .int e9, .int e10])), (c1, .inl (cI, 40, .inl F)), (c2, .inl (cI, 40, .inl V)), (c3, .inl (cI, 40, .inl O)), (c4, .inl (cI, 40, .inl Y))]) hP hD [0, 1, 2, 3, 4] [] rfl rfl rfl rfl 5 rfl (by decide) (by decide) hk1 hP1
    exact em_i hx hb hr hlocks hS (⟨_, _, _, _, _, _, _, Or.inl ⟨fun z => isI_no (by decide) (by decide) c12 z.1, rfl⟩, hP⟩) dX2_looksWith_38
  · skip
    refine lv_iload_n hx hb dX2_looksWith_15 rfl (lv_at hl 2 rfl) ?_
    refine lv_iconst (v := nI 0) hx hb dX2_looksWith_16 (by decide) ?_
    refine lv_iconst (v := nI 2) hx hb dX2_looksWith_17 (by decide) ?_
    refine pz_i (wc := []) CF (m_X2_isIn l D cI y (nI 0) (nI 2)) (va_cwS 3 hts gX2_looksWith_X2_isIn rfl rfl rfl k_X2_isIn.2 ⟨Nat.le_of_ble_eq_true rfl, Nat.le_of_ble_eq_true rfl⟩) hK (fun k q h => by simp at h) rfl hl.1 rfl (Nat.le_of_ble_eq_true rfl) dX2_looksWith_18 ⟨Nat.le_of_ble_eq_true rfl, Nat.le_of_ble_eq_true rfl⟩ ?_
    refine lv_if_eq (tgt := 33) hx hb dX2_looksWith_21 (by decide) (fun c21 => ?_) (fun c21 => ?_)
    · skip
      refine lv_aload_n hx hb dX2_looksWith_33 rfl (lv_at hl 0 rfl) ?_
      refine lv_iconst (v := nI 1) hx hb dX2_looksWith_34 (by decide) ?_
      have hPc : va_P D vwCl [(u, .inr (2, [.int (nI 0), .int (nI n), .int (nI w), .ref c1, .ref c2, .ref c3, .ref c4, .int e7, .int e8, .int e9, .int e10])), (c1, .inl (cI, 40, .inl F)), (c2, .inl (cI, 40, .inl V)), (c3, .inl (cI, 40, .inl O)), (c4, .inl (cI, 40, .inl Y))] H := hP.sub [0, 1, 2, 3, 4] rfl
      have hDc : va_D A [(u, .inr (2, [.int (nI 0), .int (nI n), .int (nI w), .ref c1, .ref c2, .ref c3, .ref c4, .int e7, .int e8, .int e9, .int e10])), (c1, .inl (cI, 40, .inl F)), (c2, .inl (cI, 40, .inl V)), (c3, .inl (cI, 40, .inl O)), (c4, .inl (cI, 40, .inl Y))] := hD.sub [0, 1, 2, 3, 4] (by decide) rfl
      have hFc := va_free (wc := [(u, .inr (2, [.int (nI 0), .int (nI n), .int (nI w), .ref c1, .ref c2, .ref c3, .ref c4, .int e7, .int e8, .int e9, .int e10])), (c1, .inl (cI, 40, .inl F)), (c2, .inl (cI, 40, .inl V)), (c3, .inl (cI, 40, .inl O)), (c4, .inl (cI, 40, .inl Y))]) hD hS hA [0, 1, 2, 3, 4] rfl
      refine pq_i (va_runV (rest := []) CF (m_X2_no l D cI u c1 c2 c3 c4 S O Y (nI 0) e7 e8 e9 e10 (nI 1) H.size) (cwV 1 hts gX2_looksWith_X2_no rfl rfl rfl k_X2_no ⟨Nat.le_of_ble_eq_true rfl, Nat.le_of_ble_eq_true rfl⟩) (mv_pre hK hPc hDc rfl rfl rfl) rfl rfl hl.1 rfl (lv_room (Nat.le_of_ble_eq_true rfl)) dX2_looksWith_35 ⟨Nat.le_of_ble_eq_true rfl, Nat.le_of_ble_eq_true rfl⟩) hS hFc (fun r1 H locs hB hk1 hS => ?_)
      obtain ⟨rfl, hP1⟩ := hB
      obtain ⟨hP, hD⟩ := jn (wb := [(u, .inr (2, [.int (nI 1), .int (nI n), .int (nI w), .ref c1, .ref c2, .ref c3, .ref c4, .int e7, .int e8, .int e9, .int e10])), (c1, .inl (cI, 40, .inl F)), (c2, .inl (cI, 40, .inl V)), (c3, .inl (cI, 40, .inl O)), (c4, .inl (cI, 40, .inl Y))]) (w1 := [(u, .inr (2, [.int (nI 1), .int (nI n), .int (nI w), .ref c1, .ref c2, .ref c3, .ref c4, .int e7, .int e8, .int e9, .int e10])), (c1, .inl (cI, 40, .inl F)), (c2, .inl (cI, 40, .inl V)), (c3, .inl (cI, 40, .inl O)), (c4, .inl (cI, 40, .inl Y))]) hP hD [0, 1, 2, 3, 4] [] rfl rfl rfl rfl 5 rfl (by decide) (by decide) hk1 hP1
      exact em_i hx hb hr hlocks hS (⟨_, _, _, _, _, _, _, Or.inl ⟨fun z => isI_no (by decide) (by decide) c21 z.2, rfl⟩, hP⟩) dX2_looksWith_38
    · skip
      obtain ⟨N, hN3, hN40, ex⟩ := isI_yes (a := 3) (b := 40) (by decide) (by decide) c12
      obtain ⟨w1, -, hw1, ey⟩ := isI_yes (a := 0) (b := 2) (by decide) (by decide) c21
      rw [ex, ey] at hl
      refine lv_aload_n hx hb dX2_looksWith_24 rfl (lv_at hl 0 rfl) ?_
      refine lv_iload_n hx hb dX2_looksWith_25 rfl (lv_at hl 1 rfl) ?_
      refine lv_iload_n hx hb dX2_looksWith_26 rfl (lv_at hl 2 rfl) ?_
      have hPc : va_P D vwCl [(u, .inr (2, [.int (nI 0), .int (nI n), .int (nI w), .ref c1, .ref c2, .ref c3, .ref c4, .int e7, .int e8, .int e9, .int e10])), (c1, .inl (cI, 40, .inl F)), (c2, .inl (cI, 40, .inl V)), (c3, .inl (cI, 40, .inl O)), (c4, .inl (cI, 40, .inl Y))] H := hP.sub [0, 1, 2, 3, 4] rfl
      have hDc : va_D A [(u, .inr (2, [.int (nI 0), .int (nI n), .int (nI w), .ref c1, .ref c2, .ref c3, .ref c4, .int e7, .int e8, .int e9, .int e10])), (c1, .inl (cI, 40, .inl F)), (c2, .inl (cI, 40, .inl V)), (c3, .inl (cI, 40, .inl O)), (c4, .inl (cI, 40, .inl Y))] := hD.sub [0, 1, 2, 3, 4] (by decide) rfl
      have hFc := va_free (wc := [(u, .inr (2, [.int (nI 0), .int (nI n), .int (nI w), .ref c1, .ref c2, .ref c3, .ref c4, .int e7, .int e8, .int e9, .int e10])), (c1, .inl (cI, 40, .inl F)), (c2, .inl (cI, 40, .inl V)), (c3, .inl (cI, 40, .inl O)), (c4, .inl (cI, 40, .inl Y))]) hD hS hA [0, 1, 2, 3, 4] rfl
      refine pq_i (va_runV (rest := []) CF (m_X2_anew l D cI u c1 c2 c3 c4 S O Y (nI 0) e7 e8 e9 e10 N w1 hN3 hN40 hw1 H.size) (cwV 2 hts gX2_looksWith_X2_anew rfl rfl rfl k_X2_anew ⟨Nat.le_of_ble_eq_true rfl, Nat.le_of_ble_eq_true rfl⟩) (mv_pre hK hPc hDc rfl rfl rfl) rfl rfl hl.1 rfl (lv_room (Nat.le_of_ble_eq_true rfl)) dX2_looksWith_27 ⟨Nat.le_of_ble_eq_true rfl, Nat.le_of_ble_eq_true rfl⟩) hS hFc (fun r1 H locs hB hk1 hS => ?_)
      obtain ⟨rfl, O5, Y5, d11, d12, d13, d14, -, -, hP1⟩ := hB
      obtain ⟨hP, hD⟩ := jn (wb := [(u, .inr (2, [.int (nI 0), .int (nI n), .int (nI w), .ref c1, .ref c2, .ref c3, .ref c4, .int d11, .int d12, .int d13, .int d14])), (c1, .inl (cI, 40, .inl F)), (c2, .inl (cI, 40, .inl V)), (c3, .inl (cI, 40, .inl O5)), (c4, .inl (cI, 40, .inl Y5))]) (w1 := [(u, .inr (2, [.int (nI 0), .int (nI n), .int (nI w), .ref c1, .ref c2, .ref c3, .ref c4, .int d11, .int d12, .int d13, .int d14])), (c1, .inl (cI, 40, .inl F)), (c2, .inl (cI, 40, .inl V)), (c3, .inl (cI, 40, .inl O5)), (c4, .inl (cI, 40, .inl Y5))]) hP hD [0, 1, 2, 3, 4] [] rfl rfl rfl rfl 5 rfl (by decide) (by decide) hk1 hP1
      refine lv_goto (tgt := 38) hx hb dX2_looksWith_30 (by decide) ?_
      exact em_i hx hb hr hlocks hS (⟨_, _, _, _, _, _, _, Or.inr ⟨rfl, N, w1, hN3, hN40, ex, hw1, ey, rfl⟩, hP⟩) dX2_looksWith_38
theorem k_X2_hooksWanted : yX2_hooksWanted.cls = RX2 ∧ yX2_hooksWanted.cls ≠ "java/lang/invoke/MethodHandle" ∧ yX2_hooksWanted.cls ≠ "java/lang/invoke/VarHandle" ∧ (parseMethodDescriptor yX2_hooksWanted.desc).map (fun d => d.parameters.length) = some 1 := by decide +kernel
set_option maxHeartbeats 4000000 in
set_option maxRecDepth 100000 in
theorem m_X2_hooksWanted (l : Launch) (D : va_G) (cI : ClassId) (u c1 c2 c3 c4 : Nat) {n w : Nat} {F V f g : Nat → Int32} (S : MS n w F V f g) (O Y : Nat → Int32) (e0 e7 e8 e9 e10 : Int32) (x : Int32) (sz : Nat) : Met l yX2_hooksWanted wsX2_hooksWanted ({ frames := 3, cells := 0, slots := 0, locals := 72 } : Room) (PM D [(cI, .int)] [.ref u, .int x] sz (mdw cI u c1 c2 c3 c4 e0 n w F V O Y e7 e8 e9 e10)) (qm_i (fun rr H1 => ∃ (c : Int32) (O3 Y3 : Nat → Int32) (d7 d8 d9 d10 : Int32), Q1 (rg 0 400 x) (Rh n w f g x) c rr ∧ va_P D vwCl (mdw cI u c1 c2 c3 c4 c n w F V O3 Y3 d7 d8 d9 d10) H1) (va_A (mdw cI u c1 c2 c3 c4 e0 n w F V O Y e7 e8 e9 e10) sz)) 0 0 (va_A (mdw cI u c1 c2 c3 c4 e0 n w F V O Y e7 e8 e9 e10) sz) := by
  obtain ⟨hn3, hn, hw2, hF, hV, hO⟩ := id S
  refine bd_m (Qc := (fun A => qm_i (fun rr H1 => ∃ (c : Int32) (O3 Y3 : Nat → Int32) (d7 d8 d9 d10 : Int32), Q1 (rg 0 400 x) (Rh n w f g x) c rr ∧ va_P D vwCl (mdw cI u c1 c2 c3 c4 c n w F V O3 Y3 d7 d8 d9 d10) H1) A)) (cc := cX2_hooksWanted) (maxL := 2) (ret := (some .int)) (by decide) rfl (Nat.le_of_ble_eq_true rfl) ?_
  intro p e s m args below meth c ls A CF hr hlocks hK hP hD hA hS hl hin
  obtain ⟨hx, hb, hml, hown, hts⟩ := id CF
  have hl : lv_has ls 2 [(0, .ref u), (1, .int x)] := hl
  have hP : va_P D vwCl [(u, .inr (2, [.int e0, .int (nI n), .int (nI w), .ref c1, .ref c2, .ref c3, .ref c4, .int e7, .int e8, .int e9, .int e10])), (c1, .inl (cI, 40, .inl F)), (c2, .inl (cI, 40, .inl V)), (c3, .inl (cI, 40, .inl O)), (c4, .inl (cI, 40, .inl Y))] s.heap := hP
  have hD : va_D A [(u, .inr (2, [.int e0, .int (nI n), .int (nI w), .ref c1, .ref c2, .ref c3, .ref c4, .int e7, .int e8, .int e9, .int e10])), (c1, .inl (cI, 40, .inl F)), (c2, .inl (cI, 40, .inl V)), (c3, .inl (cI, 40, .inl O)), (c4, .inl (cI, 40, .inl Y))] := hD
  generalize hH0 : s.heap = H at hP
  have hS : va_S A s.heap H [] := by rw [← hH0]; exact va_S.rf
  generalize hlc0 : ([] : List Loc) = locs at hS ⊢
  refine lv_aload_n hx hb dX2_hooksWanted_0 rfl (lv_at hl 0 rfl) ?_
  refine lv_iconst (v := nI 0) hx hb dX2_hooksWanted_1 (by decide) ?_
  refine va_put (D := D) (ci := 2) (v := .int (nI 0)) (ty := .int) (C := RX2) (T := TX2) (N := 11) hx hb hts (fun _ h => (List.mem_cons_of_mem _ (List.mem_append_right _ h))) tyX2 tyX2_ok nmX2 hown hK hP hD hS 0 rfl rfl 0 (by decide) (hts _ (List.mem_of_getElem? (i := 1) rfl)) (fun _ h9 => h9) rfl (by decide +kernel) rfl rfl (Nat.le_of_ble_eq_true rfl) dX2_hooksWanted_2 (fun H locs hP hD hS => ?_)
  have hP : va_P D vwCl [(u, .inr (2, [.int (nI 0), .int (nI n), .int (nI w), .ref c1, .ref c2, .ref c3, .ref c4, .int e7, .int e8, .int e9, .int e10])), (c1, .inl (cI, 40, .inl F)), (c2, .inl (cI, 40, .inl V)), (c3, .inl (cI, 40, .inl O)), (c4, .inl (cI, 40, .inl Y))] H := hP
  have hD : va_D A [(u, .inr (2, [.int (nI 0), .int (nI n), .int (nI w), .ref c1, .ref c2, .ref c3, .ref c4, .int e7, .int e8, .int e9, .int e10])), (c1, .inl (cI, 40, .inl F)), (c2, .inl (cI, 40, .inl V)), (c3, .inl (cI, 40, .inl O)), (c4, .inl (cI, 40, .inl Y))] := hD
  refine lv_iload_n hx hb dX2_hooksWanted_5 rfl (lv_at hl 1 rfl) ?_
  refine lv_iconst (v := nI 0) hx hb dX2_hooksWanted_6 (by decide) ?_
  refine lv_sipush (v := nI 400) hx hb dX2_hooksWanted_7 (by decide) ?_
  refine pz_i (wc := []) CF (m_X2_isIn l D cI x (nI 0) (nI 400)) (va_cwS 3 hts gX2_hooksWanted_X2_isIn rfl rfl rfl k_X2_isIn.2 ⟨Nat.le_of_ble_eq_true rfl, Nat.le_of_ble_eq_true rfl⟩) hK (fun k q h => by simp at h) rfl hl.1 rfl (Nat.le_of_ble_eq_true rfl) dX2_hooksWanted_10 ⟨Nat.le_of_ble_eq_true rfl, Nat.le_of_ble_eq_true rfl⟩ ?_
  refine lv_if_eq (tgt := 24) hx hb dX2_hooksWanted_13 (by decide) (fun c13 => ?_) (fun c13 => ?_)
  · skip
    refine lv_aload_n hx hb dX2_hooksWanted_24 rfl (lv_at hl 0 rfl) ?_
    refine lv_iconst (v := nI 1) hx hb dX2_hooksWanted_25 (by decide) ?_
    have hPc : va_P D vwCl [(u, .inr (2, [.int (nI 0), .int (nI n), .int (nI w), .ref c1, .ref c2, .ref c3, .ref c4, .int e7, .int e8, .int e9, .int e10])), (c1, .inl (cI, 40, .inl F)), (c2, .inl (cI, 40, .inl V)), (c3, .inl (cI, 40, .inl O)), (c4, .inl (cI, 40, .inl Y))] H := hP.sub [0, 1, 2, 3, 4] rfl
    have hDc : va_D A [(u, .inr (2, [.int (nI 0), .int (nI n), .int (nI w), .ref c1, .ref c2, .ref c3, .ref c4, .int e7, .int e8, .int e9, .int e10])), (c1, .inl (cI, 40, .inl F)), (c2, .inl (cI, 40, .inl V)), (c3, .inl (cI, 40, .inl O)), (c4, .inl (cI, 40, .inl Y))] := hD.sub [0, 1, 2, 3, 4] (by decide) rfl
    have hFc := va_free (wc := [(u, .inr (2, [.int (nI 0), .int (nI n), .int (nI w), .ref c1, .ref c2, .ref c3, .ref c4, .int e7, .int e8, .int e9, .int e10])), (c1, .inl (cI, 40, .inl F)), (c2, .inl (cI, 40, .inl V)), (c3, .inl (cI, 40, .inl O)), (c4, .inl (cI, 40, .inl Y))]) hD hS hA [0, 1, 2, 3, 4] rfl
    refine pq_i (va_runV (rest := []) CF (m_X2_no l D cI u c1 c2 c3 c4 S O Y (nI 0) e7 e8 e9 e10 (nI 1) H.size) (cwV 1 hts gX2_hooksWanted_X2_no rfl rfl rfl k_X2_no ⟨Nat.le_of_ble_eq_true rfl, Nat.le_of_ble_eq_true rfl⟩) (mv_pre hK hPc hDc rfl rfl rfl) rfl rfl hl.1 rfl (lv_room (Nat.le_of_ble_eq_true rfl)) dX2_hooksWanted_26 ⟨Nat.le_of_ble_eq_true rfl, Nat.le_of_ble_eq_true rfl⟩) hS hFc (fun r1 H locs hB hk1 hS => ?_)
    obtain ⟨rfl, hP1⟩ := hB
    obtain ⟨hP, hD⟩ := jn (wb := [(u, .inr (2, [.int (nI 1), .int (nI n), .int (nI w), .ref c1, .ref c2, .ref c3, .ref c4, .int e7, .int e8, .int e9, .int e10])), (c1, .inl (cI, 40, .inl F)), (c2, .inl (cI, 40, .inl V)), (c3, .inl (cI, 40, .inl O)), (c4, .inl (cI, 40, .inl Y))]) (w1 := [(u, .inr (2, [.int (nI 1), .int (nI n), .int (nI w), .ref c1, .ref c2, .ref c3, .ref c4, .int e7, .int e8, .int e9, .int e10])), (c1, .inl (cI, 40, .inl F)), (c2, .inl (cI, 40, .inl V)), (c3, .inl (cI, 40, .inl O)), (c4, .inl (cI, 40, .inl Y))]) hP hD [0, 1, 2, 3, 4] [] rfl rfl rfl rfl 5 rfl (by decide) (by decide) hk1 hP1
    exact em_i hx hb hr hlocks hS (⟨_, _, _, _, _, _, _, Or.inl ⟨isI_no (by decide) (by decide) c13, rfl⟩, hP⟩) dX2_hooksWanted_29
  · skip
    obtain ⟨v, -, hv, ex⟩ := isI_yes (a := 0) (b := 400) (by decide) (by decide) c13
    rw [ex] at hl
    refine lv_aload_n hx hb dX2_hooksWanted_16 rfl (lv_at hl 0 rfl) ?_
    refine lv_iload_n hx hb dX2_hooksWanted_17 rfl (lv_at hl 1 rfl) ?_
    have hPc : va_P D vwCl [(u, .inr (2, [.int (nI 0), .int (nI n), .int (nI w), .ref c1, .ref c2, .ref c3, .ref c4, .int e7, .int e8, .int e9, .int e10])), (c1, .inl (cI, 40, .inl F)), (c2, .inl (cI, 40, .inl V)), (c3, .inl (cI, 40, .inl O)), (c4, .inl (cI, 40, .inl Y))] H := hP.sub [0, 1, 2, 3, 4] rfl
    have hDc : va_D A [(u, .inr (2, [.int (nI 0), .int (nI n), .int (nI w), .ref c1, .ref c2, .ref c3, .ref c4, .int e7, .int e8, .int e9, .int e10])), (c1, .inl (cI, 40, .inl F)), (c2, .inl (cI, 40, .inl V)), (c3, .inl (cI, 40, .inl O)), (c4, .inl (cI, 40, .inl Y))] := hD.sub [0, 1, 2, 3, 4] (by decide) rfl
    have hFc := va_free (wc := [(u, .inr (2, [.int (nI 0), .int (nI n), .int (nI w), .ref c1, .ref c2, .ref c3, .ref c4, .int e7, .int e8, .int e9, .int e10])), (c1, .inl (cI, 40, .inl F)), (c2, .inl (cI, 40, .inl V)), (c3, .inl (cI, 40, .inl O)), (c4, .inl (cI, 40, .inl Y))]) hD hS hA [0, 1, 2, 3, 4] rfl
    refine pq_i (va_runV (rest := []) CF (m_X2_wanted l D cI u c1 c2 c3 c4 S O Y (nI 0) e7 e8 e9 e10 v hv H.size) (cwV 1 hts gX2_hooksWanted_X2_wanted rfl rfl rfl k_X2_wanted ⟨Nat.le_of_ble_eq_true rfl, Nat.le_of_ble_eq_true rfl⟩) (mv_pre hK hPc hDc rfl rfl rfl) rfl rfl hl.1 rfl (lv_room (Nat.le_of_ble_eq_true rfl)) dX2_hooksWanted_18 ⟨Nat.le_of_ble_eq_true rfl, Nat.le_of_ble_eq_true rfl⟩) hS hFc (fun r1 H locs hB hk1 hS => ?_)
    obtain ⟨rfl, O3, Y3, d7, d8, d9, d10, hP1⟩ := hB
    obtain ⟨hP, hD⟩ := jn (wb := [(u, .inr (2, [.int (nI 0), .int (nI n), .int (nI w), .ref c1, .ref c2, .ref c3, .ref c4, .int d7, .int d8, .int d9, .int d10])), (c1, .inl (cI, 40, .inl F)), (c2, .inl (cI, 40, .inl V)), (c3, .inl (cI, 40, .inl O3)), (c4, .inl (cI, 40, .inl Y3))]) (w1 := [(u, .inr (2, [.int (nI 0), .int (nI n), .int (nI w), .ref c1, .ref c2, .ref c3, .ref c4, .int d7, .int d8, .int d9, .int d10])), (c1, .inl (cI, 40, .inl F)), (c2, .inl (cI, 40, .inl V)), (c3, .inl (cI, 40, .inl O3)), (c4, .inl (cI, 40, .inl Y3))]) hP hD [0, 1, 2, 3, 4] [] rfl rfl rfl rfl 5 rfl (by decide) (by decide) hk1 hP1
    refine lv_goto (tgt := 29) hx hb dX2_hooksWanted_21 (by decide) ?_
    exact em_i hx hb hr hlocks hS (⟨_, _, _, _, _, _, _, Or.inr ⟨rfl, v, hv, ex, rfl⟩, hP⟩) dX2_hooksWanted_29
theorem k_X2_meanLooks : yX2_meanLooks.cls = RX2 ∧ yX2_meanLooks.cls ≠ "java/lang/invoke/MethodHandle" ∧ yX2_meanLooks.cls ≠ "java/lang/invoke/VarHandle" ∧ (parseMethodDescriptor yX2_meanLooks.desc).map (fun d => d.parameters.length) = some 0 := by decide +kernel
set_option maxHeartbeats 4000000 in
set_option maxRecDepth 100000 in
theorem m_X2_meanLooks (l : Launch) (D : va_G) (cI : ClassId) (u c1 c2 c3 c4 : Nat) {n w : Nat} {F V f g : Nat → Int32} (S : MS n w F V f g) (O Y : Nat → Int32) (e0 e7 e8 e9 e10 : Int32) (sz : Nat) : Met l yX2_meanLooks wsX2_meanLooks ({ frames := 4, cells := 0, slots := 0, locals := 90 } : Room) (PM D [(cI, .int)] [.ref u] sz (mdw cI u c1 c2 c3 c4 e0 n w F V O Y e7 e8 e9 e10)) (qm_d (fun rr H1 => rr = ml n w f ∧ ∃ d7 d8 d9 d10 : Int32, va_P D vwCl (mdw cI u c1 c2 c3 c4 (nI 0) n w F V O Y d7 d8 d9 d10) H1) (va_A (mdw cI u c1 c2 c3 c4 e0 n w F V O Y e7 e8 e9 e10) sz)) 0 0 (va_A (mdw cI u c1 c2 c3 c4 e0 n w F V O Y e7 e8 e9 e10) sz) := by
  obtain ⟨hn3, hn, hw2, hF, hV, hO⟩ := id S
  refine bd_m (Qc := (fun A => qm_d (fun rr H1 => rr = ml n w f ∧ ∃ d7 d8 d9 d10 : Int32, va_P D vwCl (mdw cI u c1 c2 c3 c4 (nI 0) n w F V O Y d7 d8 d9 d10) H1) A)) (cc := cX2_meanLooks) (maxL := 2) (ret := (some .double)) (by decide) rfl (Nat.le_of_ble_eq_true rfl) ?_
  intro p e s m args below meth c ls A CF hr hlocks hK hP hD hA hS hl hin
  obtain ⟨hx, hb, hml, hown, hts⟩ := id CF
  have hl : lv_has ls 2 [(0, .ref u)] := hl
  have hP : va_P D vwCl [(u, .inr (2, [.int e0, .int (nI n), .int (nI w), .ref c1, .ref c2, .ref c3, .ref c4, .int e7, .int e8, .int e9, .int e10])), (c1, .inl (cI, 40, .inl F)), (c2, .inl (cI, 40, .inl V)), (c3, .inl (cI, 40, .inl O)), (c4, .inl (cI, 40, .inl Y))] s.heap := hP
  have hD : va_D A [(u, .inr (2, [.int e0, .int (nI n), .int (nI w), .ref c1, .ref c2, .ref c3, .ref c4, .int e7, .int e8, .int e9, .int e10])), (c1, .inl (cI, 40, .inl F)), (c2, .inl (cI, 40, .inl V)), (c3, .inl (cI, 40, .inl O)), (c4, .inl (cI, 40, .inl Y))] := hD
  generalize hH0 : s.heap = H at hP
  have hS : va_S A s.heap H [] := by rw [← hH0]; exact va_S.rf
  generalize hlc0 : ([] : List Loc) = locs at hS ⊢
  refine lv_aload_n hx hb dX2_meanLooks_0 rfl (lv_at hl 0 rfl) ?_
  refine lv_iconst (v := nI 0) hx hb dX2_meanLooks_1 (by decide) ?_
  refine va_put (D := D) (ci := 2) (v := .int (nI 0)) (ty := .int) (C := RX2) (T := TX2) (N := 11) hx hb hts (fun _ h => (List.mem_cons_of_mem _ (List.mem_append_right _ h))) tyX2 tyX2_ok nmX2 hown hK hP hD hS 0 rfl rfl 0 (by decide) (hts _ (List.mem_of_getElem? (i := 1) rfl)) (fun _ h9 => h9) rfl (by decide +kernel) rfl rfl (Nat.le_of_ble_eq_true rfl) dX2_meanLooks_2 (fun H locs hP hD hS => ?_)
  have hP : va_P D vwCl [(u, .inr (2, [.int (nI 0), .int (nI n), .int (nI w), .ref c1, .ref c2, .ref c3, .ref c4, .int e7, .int e8, .int e9, .int e10])), (c1, .inl (cI, 40, .inl F)), (c2, .inl (cI, 40, .inl V)), (c3, .inl (cI, 40, .inl O)), (c4, .inl (cI, 40, .inl Y))] H := hP
  have hD : va_D A [(u, .inr (2, [.int (nI 0), .int (nI n), .int (nI w), .ref c1, .ref c2, .ref c3, .ref c4, .int e7, .int e8, .int e9, .int e10])), (c1, .inl (cI, 40, .inl F)), (c2, .inl (cI, 40, .inl V)), (c3, .inl (cI, 40, .inl O)), (c4, .inl (cI, 40, .inl Y))] := hD
  refine lv_aload_n hx hb dX2_meanLooks_5 rfl (lv_at hl 0 rfl) ?_
  refine pv_i CF (m_X2_many l D cI u c1 c2 c3 c4 S O Y (nI 0) e7 e8 e9 e10 ) (cwV 0 hts gX2_meanLooks_X2_many rfl rfl rfl k_X2_many ⟨Nat.le_of_ble_eq_true rfl, Nat.le_of_ble_eq_true rfl⟩) hK hP rfl rfl rfl rfl hl.1 rfl (Nat.le_of_ble_eq_true rfl) dX2_meanLooks_6 ⟨Nat.le_of_ble_eq_true rfl, Nat.le_of_ble_eq_true rfl⟩ ?_
  refine lv_istore_n (lv' := [(1, .int (nI (ct n f (nI 1)))), (0, .ref u)]) hx hb dX2_meanLooks_9 rfl hl (by decide) rfl (fun ls hl => ?_)
  refine lv_iload_n hx hb dX2_meanLooks_10 rfl (lv_at hl 0 rfl) ?_
  refine bz_ne (tgt := 18) hx hb dX2_meanLooks_11 (by decide) (Nat.lt_of_le_of_lt (ct_le n f (nI 1) n) (by omega)) (fun c11 => ?_) (fun c11 => ?_)
  · skip
    refine lv_aload_n hx hb dX2_meanLooks_18 rfl (lv_at hl 1 rfl) ?_
    have hPc : va_P D vwCl [(u, .inr (2, [.int (nI 0), .int (nI n), .int (nI w), .ref c1, .ref c2, .ref c3, .ref c4, .int e7, .int e8, .int e9, .int e10])), (c1, .inl (cI, 40, .inl F)), (c2, .inl (cI, 40, .inl V)), (c3, .inl (cI, 40, .inl O)), (c4, .inl (cI, 40, .inl Y))] H := hP.sub [0, 1, 2, 3, 4] rfl
    have hDc : va_D A [(u, .inr (2, [.int (nI 0), .int (nI n), .int (nI w), .ref c1, .ref c2, .ref c3, .ref c4, .int e7, .int e8, .int e9, .int e10])), (c1, .inl (cI, 40, .inl F)), (c2, .inl (cI, 40, .inl V)), (c3, .inl (cI, 40, .inl O)), (c4, .inl (cI, 40, .inl Y))] := hD.sub [0, 1, 2, 3, 4] (by decide) rfl
    have hFc := va_free (wc := [(u, .inr (2, [.int (nI 0), .int (nI n), .int (nI w), .ref c1, .ref c2, .ref c3, .ref c4, .int e7, .int e8, .int e9, .int e10])), (c1, .inl (cI, 40, .inl F)), (c2, .inl (cI, 40, .inl V)), (c3, .inl (cI, 40, .inl O)), (c4, .inl (cI, 40, .inl Y))]) hD hS hA [0, 1, 2, 3, 4] rfl
    refine pq_i (va_runV (rest := []) CF (m_X2_looksForAll l D cI u c1 c2 c3 c4 S O Y (nI 0) e7 e8 e9 e10  H.size) (cwV 0 hts gX2_meanLooks_X2_looksForAll rfl rfl rfl k_X2_looksForAll ⟨Nat.le_of_ble_eq_true rfl, Nat.le_of_ble_eq_true rfl⟩) (mv_pre hK hPc hDc rfl rfl rfl) rfl rfl hl.1 rfl (lv_room (Nat.le_of_ble_eq_true rfl)) dX2_meanLooks_19 ⟨Nat.le_of_ble_eq_true rfl, Nat.le_of_ble_eq_true rfl⟩) hS hFc (fun r1 H locs hB hk1 hS => ?_)
    obtain ⟨rfl, d7, d8, d9, d10, hP1⟩ := hB
    obtain ⟨hP, hD⟩ := jn (wb := [(u, .inr (2, [.int (nI 0), .int (nI n), .int (nI w), .ref c1, .ref c2, .ref c3, .ref c4, .int d7, .int d8, .int d9, .int d10])), (c1, .inl (cI, 40, .inl F)), (c2, .inl (cI, 40, .inl V)), (c3, .inl (cI, 40, .inl O)), (c4, .inl (cI, 40, .inl Y))]) (w1 := [(u, .inr (2, [.int (nI 0), .int (nI n), .int (nI w), .ref c1, .ref c2, .ref c3, .ref c4, .int d7, .int d8, .int d9, .int d10])), (c1, .inl (cI, 40, .inl F)), (c2, .inl (cI, 40, .inl V)), (c3, .inl (cI, 40, .inl O)), (c4, .inl (cI, 40, .inl Y))]) hP hD [0, 1, 2, 3, 4] [] rfl rfl rfl rfl 5 rfl (by decide) (by decide) hk1 hP1
    refine lv_i2d hx hb dX2_meanLooks_22 ?_
    refine lv_iload_n hx hb dX2_meanLooks_23 rfl (lv_at hl 0 rfl) ?_
    refine lv_i2d hx hb dX2_meanLooks_24 ?_
    refine lv_ddiv hx hb dX2_meanLooks_25 (nn_all _ _ (nI_ne0 (Nat.pos_of_ne_zero c11) (Nat.lt_of_le_of_lt (ct_le n f (nI 1) n) (by omega)))) ?_
    exact em_d hx hb hr hlocks hS (⟨(if_neg c11).symm, _, _, _, _, hP⟩) dX2_meanLooks_26
  · skip
    refine lv_dconst0 hx hb dX2_meanLooks_14 ?_
    refine lv_goto (tgt := 26) hx hb dX2_meanLooks_15 (by decide) ?_
    exact em_d hx hb hr hlocks hS (⟨(if_pos c11).symm, _, _, _, _, hP⟩) dX2_meanLooks_26
theorem k_X2_init : yX2_init.cls ≠ "java/lang/invoke/MethodHandle" ∧ yX2_init.cls ≠ "java/lang/invoke/VarHandle" ∧ (parseMethodDescriptor yX2_init.desc).map (fun d => d.parameters.length) = some 0 := by decide +kernel
set_option maxHeartbeats 4000000 in
set_option maxRecDepth 100000 in
theorem m_X2_init (l : Launch) (D : va_G) (cI : ClassId) (u : Nat) (sz : Nat) : Met l yX2_init wsX2_init ({ frames := 1, cells := 4, slots := 160, locals := 22 } : Room) (PM D [(cI, .int)] [.ref u] sz [(u, .inr (2, [.int (nI 0), .int (nI 0), .int (nI 0), .null, .null, .null, .null, .int (nI 0), .int (nI 0), .int (nI 0), .int (nI 0)]))]) (qm_v ((fun (A : Nat → Prop) H1 => ∃ (c1 c2 c3 c4 : Nat) (F V O Y : Nat → Int32), (∀ k, k < 8 → F k = -1) ∧ va_P D vwCl (mdw cI u c1 c2 c3 c4 (nI 0) 8 0 F V O Y (nI 0) (nI 0) (nI 0) (nI 0)) H1 ∧ va_D A (mdw cI u c1 c2 c3 c4 (nI 0) 8 0 F V O Y (nI 0) (nI 0) (nI 0) (nI 0))) (va_A [(u, .inr (2, [.int (nI 0), .int (nI 0), .int (nI 0), .null, .null, .null, .null, .int (nI 0), .int (nI 0), .int (nI 0), .int (nI 0)]))] sz)) (va_A [(u, .inr (2, [.int (nI 0), .int (nI 0), .int (nI 0), .null, .null, .null, .null, .int (nI 0), .int (nI 0), .int (nI 0), .int (nI 0)]))] sz)) 4 160 (va_A [(u, .inr (2, [.int (nI 0), .int (nI 0), .int (nI 0), .null, .null, .null, .null, .int (nI 0), .int (nI 0), .int (nI 0), .int (nI 0)]))] sz) := by
  refine bd_m (Qc := (fun A => qm_v ((fun (A : Nat → Prop) H1 => ∃ (c1 c2 c3 c4 : Nat) (F V O Y : Nat → Int32), (∀ k, k < 8 → F k = -1) ∧ va_P D vwCl (mdw cI u c1 c2 c3 c4 (nI 0) 8 0 F V O Y (nI 0) (nI 0) (nI 0) (nI 0)) H1 ∧ va_D A (mdw cI u c1 c2 c3 c4 (nI 0) 8 0 F V O Y (nI 0) (nI 0) (nI 0) (nI 0))) A) A)) (cc := cX2_init) (maxL := 1) (ret := none) (by decide) rfl (Nat.le_of_ble_eq_true rfl) ?_
  intro p e s m args below meth c ls A CF hr hlocks hK hP hD hA hS hl hin
  obtain ⟨hx, hb, hml, hown, hts⟩ := id CF
  have hl : lv_has ls 1 [(0, .ref u)] := hl
  have hP : va_P D vwCl [(u, .inr (2, [.int (nI 0), .int (nI 0), .int (nI 0), .null, .null, .null, .null, .int (nI 0), .int (nI 0), .int (nI 0), .int (nI 0)]))] s.heap := hP
  have hD : va_D A [(u, .inr (2, [.int (nI 0), .int (nI 0), .int (nI 0), .null, .null, .null, .null, .int (nI 0), .int (nI 0), .int (nI 0), .int (nI 0)]))] := hD
  generalize hH0 : s.heap = H at hP
  have hS : va_S A s.heap H [] := by rw [← hH0]; exact va_S.rf
  generalize hlc0 : ([] : List Loc) = locs at hS ⊢
  refine lv_aload_n hx hb dX2_init_0 rfl (lv_at hl 0 rfl) ?_
  refine W.objInit hx hb hown (hts _ (List.mem_of_getElem? (i := 1) rfl)) (hts _ (List.mem_of_getElem? (i := 2) rfl)) (hts _ (List.mem_of_getElem? (i := 3) rfl)) rfl (by rw [hml]; exact hl.1) rfl dX2_init_1 (Nat.le_of_ble_eq_true rfl) (Nat.le_of_ble_eq_true rfl) ?_
  refine W.eq (g2 := F0 m 4 ls []) rfl ?_
  refine lv_aload_n hx hb dX2_init_4 rfl (lv_at hl 0 rfl) ?_
  refine lv_bipush (v := nI 8) hx hb dX2_init_5 (by decide) ?_
  refine va_put (D := D) (ci := 2) (v := .int (nI 8)) (ty := .int) (C := RX2) (T := TX2) (N := 11) hx hb hts (fun _ h => (List.mem_cons_of_mem _ (List.mem_append_right _ h))) tyX2 tyX2_ok nmX2 hown hK hP hD hS 0 rfl rfl 1 (by decide) (hts _ (List.mem_of_getElem? (i := 4) rfl)) (fun _ h9 => h9) rfl (by decide +kernel) rfl rfl (Nat.le_of_ble_eq_true rfl) dX2_init_7 (fun H locs hP hD hS => ?_)
  have hP : va_P D vwCl [(u, .inr (2, [.int (nI 0), .int (nI 8), .int (nI 0), .null, .null, .null, .null, .int (nI 0), .int (nI 0), .int (nI 0), .int (nI 0)]))] H := hP
  have hD : va_D A [(u, .inr (2, [.int (nI 0), .int (nI 8), .int (nI 0), .null, .null, .null, .null, .int (nI 0), .int (nI 0), .int (nI 0), .int (nI 0)]))] := hD
  refine lv_aload_n hx hb dX2_init_10 rfl (lv_at hl 0 rfl) ?_
  refine lv_bipush (v := nI 40) hx hb dX2_init_11 (by decide) ?_
  refine va_newa (ty := .int) (a0 := (40, .inl (fun _ => 0))) hx hb (hts _ (List.mem_of_getElem? (i := 5) rfl)) rfl hK hP hD hS hA (fun _ => rfl) (nI_pos (by decide)) (nI_clamp (by decide)) (Nat.le_of_ble_eq_true rfl) (Nat.le_of_ble_eq_true rfl) (Nat.le_of_ble_eq_true rfl) dX2_init_13 (fun q13 cA H hK1 hP hD hS => ?_)
  obtain rfl : cI = cA := ar_one hK1 0 1 rfl rfl
  have hP : va_P D vwCl [(u, .inr (2, [.int (nI 0), .int (nI 8), .int (nI 0), .null, .null, .null, .null, .int (nI 0), .int (nI 0), .int (nI 0), .int (nI 0)])), (q13, .inl (cI, 40, .inl (fun _ => 0)))] H := hP
  have hD : va_D A [(u, .inr (2, [.int (nI 0), .int (nI 8), .int (nI 0), .null, .null, .null, .null, .int (nI 0), .int (nI 0), .int (nI 0), .int (nI 0)])), (q13, .inl (cI, 40, .inl (fun _ => 0)))] := hD
  refine va_put (D := D) (ci := 2) (v := .ref q13) (ty := .array .int) (C := RX2) (T := TX2) (N := 11) hx hb hts (fun _ h => (List.mem_cons_of_mem _ (List.mem_append_right _ h))) tyX2 tyX2_ok nmX2 hown hK hP hD hS 0 rfl rfl 3 (by decide) (hts _ (List.mem_of_getElem? (i := 6) rfl)) (fun _ h9 => h9) rfl (by decide +kernel) rfl rfl (Nat.le_of_ble_eq_true rfl) dX2_init_15 (fun H locs hP hD hS => ?_)
  have hP : va_P D vwCl [(u, .inr (2, [.int (nI 0), .int (nI 8), .int (nI 0), .ref q13, .null, .null, .null, .int (nI 0), .int (nI 0), .int (nI 0), .int (nI 0)])), (q13, .inl (cI, 40, .inl (fun _ => 0)))] H := hP
  have hD : va_D A [(u, .inr (2, [.int (nI 0), .int (nI 8), .int (nI 0), .ref q13, .null, .null, .null, .int (nI 0), .int (nI 0), .int (nI 0), .int (nI 0)])), (q13, .inl (cI, 40, .inl (fun _ => 0)))] := hD
  refine lv_aload_n hx hb dX2_init_18 rfl (lv_at hl 0 rfl) ?_
  refine lv_bipush (v := nI 40) hx hb dX2_init_19 (by decide) ?_
  refine va_newa (ty := .int) (a0 := (40, .inl (fun _ => 0))) hx hb (hts _ (List.mem_of_getElem? (i := 5) rfl)) rfl hK hP hD hS hA (fun _ => rfl) (nI_pos (by decide)) (nI_clamp (by decide)) (Nat.le_of_ble_eq_true rfl) (Nat.le_of_ble_eq_true rfl) (Nat.le_of_ble_eq_true rfl) dX2_init_21 (fun q21 cA H hK1 hP hD hS => ?_)
  obtain rfl : cI = cA := ar_one hK1 0 1 rfl rfl
  have hP : va_P D vwCl [(u, .inr (2, [.int (nI 0), .int (nI 8), .int (nI 0), .ref q13, .null, .null, .null, .int (nI 0), .int (nI 0), .int (nI 0), .int (nI 0)])), (q13, .inl (cI, 40, .inl (fun _ => 0))), (q21, .inl (cI, 40, .inl (fun _ => 0)))] H := hP
  have hD : va_D A [(u, .inr (2, [.int (nI 0), .int (nI 8), .int (nI 0), .ref q13, .null, .null, .null, .int (nI 0), .int (nI 0), .int (nI 0), .int (nI 0)])), (q13, .inl (cI, 40, .inl (fun _ => 0))), (q21, .inl (cI, 40, .inl (fun _ => 0)))] := hD
  refine va_put (D := D) (ci := 2) (v := .ref q21) (ty := .array .int) (C := RX2) (T := TX2) (N := 11) hx hb hts (fun _ h => (List.mem_cons_of_mem _ (List.mem_append_right _ h))) tyX2 tyX2_ok nmX2 hown hK hP hD hS 0 rfl rfl 4 (by decide) (hts _ (List.mem_of_getElem? (i := 7) rfl)) (fun _ h9 => h9) rfl (by decide +kernel) rfl rfl (Nat.le_of_ble_eq_true rfl) dX2_init_23 (fun H locs hP hD hS => ?_)
  have hP : va_P D vwCl [(u, .inr (2, [.int (nI 0), .int (nI 8), .int (nI 0), .ref q13, .ref q21, .null, .null, .int (nI 0), .int (nI 0), .int (nI 0), .int (nI 0)])), (q13, .inl (cI, 40, .inl (fun _ => 0))), (q21, .inl (cI, 40, .inl (fun _ => 0)))] H := hP
  have hD : va_D A [(u, .inr (2, [.int (nI 0), .int (nI 8), .int (nI 0), .ref q13, .ref q21, .null, .null, .int (nI 0), .int (nI 0), .int (nI 0), .int (nI 0)])), (q13, .inl (cI, 40, .inl (fun _ => 0))), (q21, .inl (cI, 40, .inl (fun _ => 0)))] := hD
  refine lv_aload_n hx hb dX2_init_26 rfl (lv_at hl 0 rfl) ?_
  refine lv_bipush (v := nI 40) hx hb dX2_init_27 (by decide) ?_
  refine va_newa (ty := .int) (a0 := (40, .inl (fun _ => 0))) hx hb (hts _ (List.mem_of_getElem? (i := 5) rfl)) rfl hK hP hD hS hA (fun _ => rfl) (nI_pos (by decide)) (nI_clamp (by decide)) (Nat.le_of_ble_eq_true rfl) (Nat.le_of_ble_eq_true rfl) (Nat.le_of_ble_eq_true rfl) dX2_init_29 (fun q29 cA H hK1 hP hD hS => ?_)
  obtain rfl : cI = cA := ar_one hK1 0 1 rfl rfl
  have hP : va_P D vwCl [(u, .inr (2, [.int (nI 0), .int (nI 8), .int (nI 0), .ref q13, .ref q21, .null, .null, .int (nI 0), .int (nI 0), .int (nI 0), .int (nI 0)])), (q13, .inl (cI, 40, .inl (fun _ => 0))), (q21, .inl (cI, 40, .inl (fun _ => 0))), (q29, .inl (cI, 40, .inl (fun _ => 0)))] H := hP
  have hD : va_D A [(u, .inr (2, [.int (nI 0), .int (nI 8), .int (nI 0), .ref q13, .ref q21, .null, .null, .int (nI 0), .int (nI 0), .int (nI 0), .int (nI 0)])), (q13, .inl (cI, 40, .inl (fun _ => 0))), (q21, .inl (cI, 40, .inl (fun _ => 0))), (q29, .inl (cI, 40, .inl (fun _ => 0)))] := hD
  refine va_put (D := D) (ci := 2) (v := .ref q29) (ty := .array .int) (C := RX2) (T := TX2) (N := 11) hx hb hts (fun _ h => (List.mem_cons_of_mem _ (List.mem_append_right _ h))) tyX2 tyX2_ok nmX2 hown hK hP hD hS 0 rfl rfl 5 (by decide) (hts _ (List.mem_of_getElem? (i := 8) rfl)) (fun _ h9 => h9) rfl (by decide +kernel) rfl rfl (Nat.le_of_ble_eq_true rfl) dX2_init_31 (fun H locs hP hD hS => ?_)
  have hP : va_P D vwCl [(u, .inr (2, [.int (nI 0), .int (nI 8), .int (nI 0), .ref q13, .ref q21, .ref q29, .null, .int (nI 0), .int (nI 0), .int (nI 0), .int (nI 0)])), (q13, .inl (cI, 40, .inl (fun _ => 0))), (q21, .inl (cI, 40, .inl (fun _ => 0))), (q29, .inl (cI, 40, .inl (fun _ => 0)))] H := hP
  have hD : va_D A [(u, .inr (2, [.int (nI 0), .int (nI 8), .int (nI 0), .ref q13, .ref q21, .ref q29, .null, .int (nI 0), .int (nI 0), .int (nI 0), .int (nI 0)])), (q13, .inl (cI, 40, .inl (fun _ => 0))), (q21, .inl (cI, 40, .inl (fun _ => 0))), (q29, .inl (cI, 40, .inl (fun _ => 0)))] := hD
  refine lv_aload_n hx hb dX2_init_34 rfl (lv_at hl 0 rfl) ?_
  refine lv_bipush (v := nI 40) hx hb dX2_init_35 (by decide) ?_
  refine va_newa (ty := .int) (a0 := (40, .inl (fun _ => 0))) hx hb (hts _ (List.mem_of_getElem? (i := 5) rfl)) rfl hK hP hD hS hA (fun _ => rfl) (nI_pos (by decide)) (nI_clamp (by decide)) (Nat.le_of_ble_eq_true rfl) (Nat.le_of_ble_eq_true rfl) (Nat.le_of_ble_eq_true rfl) dX2_init_37 (fun q37 cA H hK1 hP hD hS => ?_)
  obtain rfl : cI = cA := ar_one hK1 0 1 rfl rfl
  have hP : va_P D vwCl [(u, .inr (2, [.int (nI 0), .int (nI 8), .int (nI 0), .ref q13, .ref q21, .ref q29, .null, .int (nI 0), .int (nI 0), .int (nI 0), .int (nI 0)])), (q13, .inl (cI, 40, .inl (fun _ => 0))), (q21, .inl (cI, 40, .inl (fun _ => 0))), (q29, .inl (cI, 40, .inl (fun _ => 0))), (q37, .inl (cI, 40, .inl (fun _ => 0)))] H := hP
  have hD : va_D A [(u, .inr (2, [.int (nI 0), .int (nI 8), .int (nI 0), .ref q13, .ref q21, .ref q29, .null, .int (nI 0), .int (nI 0), .int (nI 0), .int (nI 0)])), (q13, .inl (cI, 40, .inl (fun _ => 0))), (q21, .inl (cI, 40, .inl (fun _ => 0))), (q29, .inl (cI, 40, .inl (fun _ => 0))), (q37, .inl (cI, 40, .inl (fun _ => 0)))] := hD
  refine va_put (D := D) (ci := 2) (v := .ref q37) (ty := .array .int) (C := RX2) (T := TX2) (N := 11) hx hb hts (fun _ h => (List.mem_cons_of_mem _ (List.mem_append_right _ h))) tyX2 tyX2_ok nmX2 hown hK hP hD hS 0 rfl rfl 6 (by decide) (hts _ (List.mem_of_getElem? (i := 9) rfl)) (fun _ h9 => h9) rfl (by decide +kernel) rfl rfl (Nat.le_of_ble_eq_true rfl) dX2_init_39 (fun H locs hP hD hS => ?_)
  have hP : va_P D vwCl [(u, .inr (2, [.int (nI 0), .int (nI 8), .int (nI 0), .ref q13, .ref q21, .ref q29, .ref q37, .int (nI 0), .int (nI 0), .int (nI 0), .int (nI 0)])), (q13, .inl (cI, 40, .inl (fun _ => 0))), (q21, .inl (cI, 40, .inl (fun _ => 0))), (q29, .inl (cI, 40, .inl (fun _ => 0))), (q37, .inl (cI, 40, .inl (fun _ => 0)))] H := hP
  have hD : va_D A [(u, .inr (2, [.int (nI 0), .int (nI 8), .int (nI 0), .ref q13, .ref q21, .ref q29, .ref q37, .int (nI 0), .int (nI 0), .int (nI 0), .int (nI 0)])), (q13, .inl (cI, 40, .inl (fun _ => 0))), (q21, .inl (cI, 40, .inl (fun _ => 0))), (q29, .inl (cI, 40, .inl (fun _ => 0))), (q37, .inl (cI, 40, .inl (fun _ => 0)))] := hD
  refine lv_aload_n hx hb dX2_init_42 rfl (lv_at hl 0 rfl) ?_
  refine va_get (D := D) (ci := 2) (v := .ref q13) (C := RX2) (T := TX2) (N := 11) hx hb hts (fun _ h => (List.mem_cons_of_mem _ (List.mem_append_right _ h))) hown hK hP 0 rfl rfl 3 (by decide) (hts _ (List.mem_of_getElem? (i := 6) rfl)) (fun _ h9 => h9) rfl dX2_init_43 ?_
  refine lv_aload_n hx hb dX2_init_46 rfl (lv_at hl 0 rfl) ?_
  refine va_get (D := D) (ci := 2) (v := .int (nI 8)) (C := RX2) (T := TX2) (N := 11) hx hb hts (fun _ h => (List.mem_cons_of_mem _ (List.mem_append_right _ h))) hown hK hP 0 rfl rfl 1 (by decide) (hts _ (List.mem_of_getElem? (i := 4) rfl)) (fun _ h9 => h9) rfl dX2_init_47 ?_
  have hPc : va_P D vwCl [(q13, .inl (cI, 40, .inl (fun _ => 0)))] H := hP.sub [1] rfl
  have hDc : va_D A [(q13, .inl (cI, 40, .inl (fun _ => 0)))] := hD.sub [1] (by decide) rfl
  have hFc := va_free (wc := [(q13, .inl (cI, 40, .inl (fun _ => 0)))]) hD hS hA [1] rfl
  refine pq_v (va_runS (rest := []) CF (m_X2_clear l D cI q13 8 (by decide) (fun _ => 0) H.size) (va_cwS 2 hts gX2_init_X2_clear rfl rfl rfl k_X2_clear.2 ⟨Nat.le_of_ble_eq_true rfl, Nat.le_of_ble_eq_true rfl⟩) (ms_pre hK hPc hDc) rfl rfl hl.1 rfl (lv_room (Nat.le_of_ble_eq_true rfl)) dX2_init_50 ⟨Nat.le_of_ble_eq_true rfl, Nat.le_of_ble_eq_true rfl⟩) hS hFc (fun H locs hB hk1 hS => ?_)
  obtain ⟨F2, hF2, -, hP1⟩ := hB
  obtain ⟨hP, hD⟩ := jn (wb := [(u, .inr (2, [.int (nI 0), .int (nI 8), .int (nI 0), .ref q13, .ref q21, .ref q29, .ref q37, .int (nI 0), .int (nI 0), .int (nI 0), .int (nI 0)])), (q13, .inl (cI, 40, .inl F2)), (q21, .inl (cI, 40, .inl (fun _ => 0))), (q29, .inl (cI, 40, .inl (fun _ => 0))), (q37, .inl (cI, 40, .inl (fun _ => 0)))]) (w1 := [(q13, .inl (cI, 40, .inl F2))]) hP hD [1] [0, 2, 3, 4] rfl rfl rfl rfl 5 rfl (by decide) (by decide) hk1 hP1
  exact em_v hx hb hr hlocks hS (⟨q13, q21, q29, q37, F2, _, _, _, hF2, hP, hD⟩) dX2_init_53
