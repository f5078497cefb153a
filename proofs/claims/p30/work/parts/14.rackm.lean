/-! Rack: methods that write -/
theorem k_X0_put : yX0_put.cls = RX0 ∧ yX0_put.cls ≠ "java/lang/invoke/MethodHandle" ∧ yX0_put.cls ≠ "java/lang/invoke/VarHandle" ∧ (parseMethodDescriptor yX0_put.desc).map (fun d => d.parameters.length) = some 3 := by decide +kernel
set_option maxHeartbeats 4000000 in
set_option maxRecDepth 100000 in
theorem m_X0_put (l : Launch) (D : va_G) (cI : ClassId) (h a1 a2 n w : Nat) (F G : Nat → Int32) (k : Nat) (x y : Int32) (hk : k < 40) (sz : Nat) : Met l yX0_put wsX0_put ({ frames := 0, cells := 0, slots := 0, locals := 0 } : Room) (PM D [(cI, .int)] [.ref h, .int (nI k), .int x, .int y] sz (rkw cI h a1 a2 n w F G)) (qm_v (fun H1 => va_P D vwCl (rkw cI h a1 a2 n w (upd F k x) (upd G k y)) H1) (va_A (rkw cI h a1 a2 n w F G) sz)) 0 0 (va_A (rkw cI h a1 a2 n w F G) sz) := by
  refine bd_m (Qc := (fun A => qm_v (fun H1 => va_P D vwCl (rkw cI h a1 a2 n w (upd F k x) (upd G k y)) H1) A)) (cc := cX0_put) (maxL := 4) (ret := none) (by decide) rfl (Nat.le_of_ble_eq_true rfl) ?_
  intro p e s m args below meth c ls A CF hr hlocks hK hP hD hA hS hl hin
  obtain ⟨hx, hb, hml, hown, hts⟩ := id CF
  have hl : lv_has ls 4 [(0, .ref h), (1, .int (nI k)), (2, .int x), (3, .int y)] := hl
  have hP : va_P D vwCl [(h, .inr (0, [.ref a1, .ref a2, .int (nI n), .int (nI w)])), (a1, .inl (cI, 40, .inl F)), (a2, .inl (cI, 40, .inl G))] s.heap := hP
  have hD : va_D A [(h, .inr (0, [.ref a1, .ref a2, .int (nI n), .int (nI w)])), (a1, .inl (cI, 40, .inl F)), (a2, .inl (cI, 40, .inl G))] := hD
  generalize hH0 : s.heap = H at hP
  have hS : va_S A s.heap H [] := by rw [← hH0]; exact va_S.rf
  generalize hlc0 : ([] : List Loc) = locs at hS ⊢
  refine lv_iload_n hx hb dX0_put_0 rfl (lv_at hl 1 rfl) ?_
  refine bz_lt (tgt := 36) hx hb dX0_put_1 (by decide) (by omega) ?_
  refine lv_iload_n hx hb dX0_put_4 rfl (lv_at hl 1 rfl) ?_
  refine lv_aload_n hx hb dX0_put_5 rfl (lv_at hl 0 rfl) ?_
  refine va_get (D := D) (ci := 0) (v := .ref a1) (C := RX0) (T := TX0) (N := 4) hx hb hts (fun _ h => (List.mem_cons_of_mem _ (List.mem_append_right _ h))) hown hK hP 0 rfl rfl 0 (by decide) (hts _ (List.mem_of_getElem? (i := 1) rfl)) (fun _ h9 => h9) rfl dX0_put_6 ?_
  refine va_alen (v := nI 40) hx hb hK hP 1 0 rfl rfl rfl dX0_put_9 ?_
  refine bn_ge (tgt := 36) hx hb dX0_put_10 (by decide) (by omega) (by omega) (fun c10 => ?_) (fun c10 => ?_)
  · skip
    omega
  · skip
    refine lv_iload_n hx hb dX0_put_13 rfl (lv_at hl 1 rfl) ?_
    refine lv_aload_n hx hb dX0_put_14 rfl (lv_at hl 0 rfl) ?_
    refine va_get (D := D) (ci := 0) (v := .ref a2) (C := RX0) (T := TX0) (N := 4) hx hb hts (fun _ h => (List.mem_cons_of_mem _ (List.mem_append_right _ h))) hown hK hP 0 rfl rfl 1 (by decide) (hts _ (List.mem_of_getElem? (i := 2) rfl)) (fun _ h9 => h9) rfl dX0_put_15 ?_
    refine va_alen (v := nI 40) hx hb hK hP 2 0 rfl rfl rfl dX0_put_18 ?_
    refine bn_ge (tgt := 36) hx hb dX0_put_19 (by decide) (by omega) (by omega) (fun c19 => ?_) (fun c19 => ?_)
    · skip
      omega
    · skip
      refine lv_aload_n hx hb dX0_put_22 rfl (lv_at hl 0 rfl) ?_
      refine va_get (D := D) (ci := 0) (v := .ref a1) (C := RX0) (T := TX0) (N := 4) hx hb hts (fun _ h => (List.mem_cons_of_mem _ (List.mem_append_right _ h))) hown hK hP 0 rfl rfl 0 (by decide) (hts _ (List.mem_of_getElem? (i := 1) rfl)) (fun _ h9 => h9) rfl dX0_put_23 ?_
      refine lv_iload_n hx hb dX0_put_26 rfl (lv_at hl 1 rfl) ?_
      refine lv_iload_n hx hb dX0_put_27 rfl (lv_at hl 2 rfl) ?_
      refine as_i hx hb hK hP hD hS 1 0 rfl rfl (k := k) (by omega) (by omega) dX0_put_28 (fun H locs hP hD hS => ?_)
      have hP : va_P D vwCl [(h, .inr (0, [.ref a1, .ref a2, .int (nI n), .int (nI w)])), (a1, .inl (cI, 40, .inl (upd F k x))), (a2, .inl (cI, 40, .inl G))] H := hP
      have hD : va_D A [(h, .inr (0, [.ref a1, .ref a2, .int (nI n), .int (nI w)])), (a1, .inl (cI, 40, .inl (upd F k x))), (a2, .inl (cI, 40, .inl G))] := hD
      refine lv_aload_n hx hb dX0_put_29 rfl (lv_at hl 0 rfl) ?_
      refine va_get (D := D) (ci := 0) (v := .ref a2) (C := RX0) (T := TX0) (N := 4) hx hb hts (fun _ h => (List.mem_cons_of_mem _ (List.mem_append_right _ h))) hown hK hP 0 rfl rfl 1 (by decide) (hts _ (List.mem_of_getElem? (i := 2) rfl)) (fun _ h9 => h9) rfl dX0_put_30 ?_
      refine lv_iload_n hx hb dX0_put_33 rfl (lv_at hl 1 rfl) ?_
      refine lv_iload_n hx hb dX0_put_34 rfl (lv_at hl 3 rfl) ?_
      refine as_i hx hb hK hP hD hS 2 0 rfl rfl (k := k) (by omega) (by omega) dX0_put_35 (fun H locs hP hD hS => ?_)
      have hP : va_P D vwCl [(h, .inr (0, [.ref a1, .ref a2, .int (nI n), .int (nI w)])), (a1, .inl (cI, 40, .inl (upd F k x))), (a2, .inl (cI, 40, .inl (upd G k y)))] H := hP
      have hD : va_D A [(h, .inr (0, [.ref a1, .ref a2, .int (nI n), .int (nI w)])), (a1, .inl (cI, 40, .inl (upd F k x))), (a2, .inl (cI, 40, .inl (upd G k y)))] := hD
      exact em_v hx hb hr hlocks hS hP dX0_put_36
theorem k_X0_leaveTicket : yX0_leaveTicket.cls = RX0 ∧ yX0_leaveTicket.cls ≠ "java/lang/invoke/MethodHandle" ∧ yX0_leaveTicket.cls ≠ "java/lang/invoke/VarHandle" ∧ (parseMethodDescriptor yX0_leaveTicket.desc).map (fun d => d.parameters.length) = some 1 := by decide +kernel
set_option maxHeartbeats 4000000 in
set_option maxRecDepth 100000 in
theorem m_X0_leaveTicket (l : Launch) (D : va_G) (cI : ClassId) (h a1 a2 n w : Nat) (F G : Nat → Int32) (k : Nat) (hk : k < 40) (sz : Nat) : Met l yX0_leaveTicket wsX0_leaveTicket ({ frames := 1, cells := 0, slots := 0, locals := 23 } : Room) (PM D [(cI, .int)] [.ref h, .int (nI k)] sz (rkw cI h a1 a2 n w F G)) (qm_v (fun H1 => va_P D vwCl (rkw cI h a1 a2 n w (upd F k (-2)) (upd G k (nI 0))) H1) (va_A (rkw cI h a1 a2 n w F G) sz)) 0 0 (va_A (rkw cI h a1 a2 n w F G) sz) := by
  refine bd_m (Qc := (fun A => qm_v (fun H1 => va_P D vwCl (rkw cI h a1 a2 n w (upd F k (-2)) (upd G k (nI 0))) H1) A)) (cc := cX0_leaveTicket) (maxL := 2) (ret := none) (by decide) rfl (Nat.le_of_ble_eq_true rfl) ?_
  intro p e s m args below meth c ls A CF hr hlocks hK hP hD hA hS hl hin
  obtain ⟨hx, hb, hml, hown, hts⟩ := id CF
  have hl : lv_has ls 2 [(0, .ref h), (1, .int (nI k))] := hl
  have hP : va_P D vwCl [(h, .inr (0, [.ref a1, .ref a2, .int (nI n), .int (nI w)])), (a1, .inl (cI, 40, .inl F)), (a2, .inl (cI, 40, .inl G))] s.heap := hP
  have hD : va_D A [(h, .inr (0, [.ref a1, .ref a2, .int (nI n), .int (nI w)])), (a1, .inl (cI, 40, .inl F)), (a2, .inl (cI, 40, .inl G))] := hD
  generalize hH0 : s.heap = H at hP
  have hS : va_S A s.heap H [] := by rw [← hH0]; exact va_S.rf
  generalize hlc0 : ([] : List Loc) = locs at hS ⊢
  refine lv_aload_n hx hb dX0_leaveTicket_0 rfl (lv_at hl 0 rfl) ?_
  refine lv_iload_n hx hb dX0_leaveTicket_1 rfl (lv_at hl 1 rfl) ?_
  refine lv_bipush (v := (-2)) hx hb dX0_leaveTicket_2 (by decide) ?_
  refine lv_iconst (v := nI 0) hx hb dX0_leaveTicket_4 (by decide) ?_
  have hPc : va_P D vwCl [(h, .inr (0, [.ref a1, .ref a2, .int (nI n), .int (nI w)])), (a1, .inl (cI, 40, .inl F)), (a2, .inl (cI, 40, .inl G))] H := hP.sub [0, 1, 2] rfl
  have hDc : va_D A [(h, .inr (0, [.ref a1, .ref a2, .int (nI n), .int (nI w)])), (a1, .inl (cI, 40, .inl F)), (a2, .inl (cI, 40, .inl G))] := hD.sub [0, 1, 2] (by decide) rfl
  have hFc := va_free (wc := [(h, .inr (0, [.ref a1, .ref a2, .int (nI n), .int (nI w)])), (a1, .inl (cI, 40, .inl F)), (a2, .inl (cI, 40, .inl G))]) hD hS hA [0, 1, 2] rfl
  refine pq_v (va_runV (rest := []) CF (m_X0_put l D cI h a1 a2 n w F G k (-2) (nI 0) hk H.size) (cwV 3 hts gX0_leaveTicket_X0_put rfl rfl rfl k_X0_put ⟨Nat.le_of_ble_eq_true rfl, Nat.le_of_ble_eq_true rfl⟩) (mv_pre hK hPc hDc rfl rfl rfl) rfl rfl hl.1 rfl (lv_room (Nat.le_of_ble_eq_true rfl)) dX0_leaveTicket_5 ⟨Nat.le_of_ble_eq_true rfl, Nat.le_of_ble_eq_true rfl⟩) hS hFc (fun H locs hB hk1 hS => ?_)
  have hP1 := hB
  obtain ⟨hP, hD⟩ := jn (wb := [(h, .inr (0, [.ref a1, .ref a2, .int (nI n), .int (nI w)])), (a1, .inl (cI, 40, .inl (upd F k (-2)))), (a2, .inl (cI, 40, .inl (upd G k (nI 0))))]) (w1 := [(h, .inr (0, [.ref a1, .ref a2, .int (nI n), .int (nI w)])), (a1, .inl (cI, 40, .inl (upd F k (-2)))), (a2, .inl (cI, 40, .inl (upd G k (nI 0))))]) hP hD [0, 1, 2] [] rfl rfl rfl rfl 3 rfl (by decide) (by decide) hk1 hP1
  exact em_v hx hb hr hlocks hS hP dX0_leaveTicket_8
theorem k_X0_clear : yX0_clear.cls = RX0 ∧ yX0_clear.cls ≠ "java/lang/invoke/MethodHandle" ∧ yX0_clear.cls ≠ "java/lang/invoke/VarHandle" ∧ (parseMethodDescriptor yX0_clear.desc).map (fun d => d.parameters.length) = some 2 := by decide +kernel
set_option maxHeartbeats 4000000 in
set_option maxRecDepth 100000 in
theorem m_X0_clear (l : Launch) (D : va_G) (cI : ClassId) (h a1 a2 n w : Nat) (F G : Nat → Int32) (n2 w2 : Nat) (sz : Nat) : Met l yX0_clear wsX0_clear ({ frames := 1, cells := 0, slots := 0, locals := 23 } : Room) (PM D [(cI, .int)] [.ref h, .int (nI n2), .int (nI w2)] sz (rkw cI h a1 a2 n w F G)) (qm_v (fun H1 => ∃ F2 G2 : Nat → Int32, (∀ k, k < 40 → F2 k = -1) ∧ (∀ k, k < 40 → G2 k = nI 0) ∧ va_P D vwCl (rkw cI h a1 a2 n2 w2 F2 G2) H1) (va_A (rkw cI h a1 a2 n w F G) sz)) 0 0 (va_A (rkw cI h a1 a2 n w F G) sz) := by
  refine bd_m (Qc := (fun A => qm_v (fun H1 => ∃ F2 G2 : Nat → Int32, (∀ k, k < 40 → F2 k = -1) ∧ (∀ k, k < 40 → G2 k = nI 0) ∧ va_P D vwCl (rkw cI h a1 a2 n2 w2 F2 G2) H1) A)) (cc := cX0_clear) (maxL := 4) (ret := none) (by decide) rfl (Nat.le_of_ble_eq_true rfl) ?_
  intro p e s m args below meth c ls A CF hr hlocks hK hP hD hA hS hl hin
  obtain ⟨hx, hb, hml, hown, hts⟩ := id CF
  have hl : lv_has ls 4 [(0, .ref h), (1, .int (nI n2)), (2, .int (nI w2))] := hl
  have hP : va_P D vwCl [(h, .inr (0, [.ref a1, .ref a2, .int (nI n), .int (nI w)])), (a1, .inl (cI, 40, .inl F)), (a2, .inl (cI, 40, .inl G))] s.heap := hP
  have hD : va_D A [(h, .inr (0, [.ref a1, .ref a2, .int (nI n), .int (nI w)])), (a1, .inl (cI, 40, .inl F)), (a2, .inl (cI, 40, .inl G))] := hD
  generalize hH0 : s.heap = H at hP
  have hS : va_S A s.heap H [] := by rw [← hH0]; exact va_S.rf
  generalize hlc0 : ([] : List Loc) = locs at hS ⊢
  refine lv_aload_n hx hb dX0_clear_0 rfl (lv_at hl 0 rfl) ?_
  refine lv_iload_n hx hb dX0_clear_1 rfl (lv_at hl 1 rfl) ?_
  refine va_put (D := D) (ci := 0) (v := .int (nI n2)) (ty := .int) (C := RX0) (T := TX0) (N := 4) hx hb hts (fun _ h => (List.mem_cons_of_mem _ (List.mem_append_right _ h))) tyX0 tyX0_ok nmX0 hown hK hP hD hS 0 rfl rfl 2 (by decide) (hts _ (List.mem_of_getElem? (i := 1) rfl)) (fun _ h9 => h9) rfl (by decide +kernel) rfl rfl (Nat.le_of_ble_eq_true rfl) dX0_clear_2 (fun H locs hP hD hS => ?_)
  have hP : va_P D vwCl [(h, .inr (0, [.ref a1, .ref a2, .int (nI n2), .int (nI w)])), (a1, .inl (cI, 40, .inl F)), (a2, .inl (cI, 40, .inl G))] H := hP
  have hD : va_D A [(h, .inr (0, [.ref a1, .ref a2, .int (nI n2), .int (nI w)])), (a1, .inl (cI, 40, .inl F)), (a2, .inl (cI, 40, .inl G))] := hD
  refine lv_aload_n hx hb dX0_clear_5 rfl (lv_at hl 0 rfl) ?_
  refine lv_iload_n hx hb dX0_clear_6 rfl (lv_at hl 2 rfl) ?_
  refine va_put (D := D) (ci := 0) (v := .int (nI w2)) (ty := .int) (C := RX0) (T := TX0) (N := 4) hx hb hts (fun _ h => (List.mem_cons_of_mem _ (List.mem_append_right _ h))) tyX0 tyX0_ok nmX0 hown hK hP hD hS 0 rfl rfl 3 (by decide) (hts _ (List.mem_of_getElem? (i := 2) rfl)) (fun _ h9 => h9) rfl (by decide +kernel) rfl rfl (Nat.le_of_ble_eq_true rfl) dX0_clear_7 (fun H locs hP hD hS => ?_)
  have hP : va_P D vwCl [(h, .inr (0, [.ref a1, .ref a2, .int (nI n2), .int (nI w2)])), (a1, .inl (cI, 40, .inl F)), (a2, .inl (cI, 40, .inl G))] H := hP
  have hD : va_D A [(h, .inr (0, [.ref a1, .ref a2, .int (nI n2), .int (nI w2)])), (a1, .inl (cI, 40, .inl F)), (a2, .inl (cI, 40, .inl G))] := hD
  refine lv_iconst (v := nI 0) hx hb dX0_clear_10 (by decide) ?_
  refine lv_istore_n (lv' := [(3, .int (nI 0)), (0, .ref h), (1, .int (nI n2)), (2, .int (nI w2))]) hx hb dX0_clear_11 rfl hl (by decide) rfl (fun ls hl => ?_)
  have LP12 : ∀ (q i : Nat) (F1 G1 : Nat → Int32), i + q = 40 → (∀ k, k < i → F1 k = -1) → (∀ k, k < i → G1 k = nI 0) → ∀ (H : Heap) (locs : List Loc), va_P D vwCl [(h, .inr (0, [.ref a1, .ref a2, .int (nI n2), .int (nI w2)])), (a1, .inl (cI, 40, .inl F1)), (a2, .inl (cI, 40, .inl G1))] H → va_D A [(h, .inr (0, [.ref a1, .ref a2, .int (nI n2), .int (nI w2)])), (a1, .inl (cI, 40, .inl F1)), (a2, .inl (cI, 40, .inl G1))] → va_S A s.heap H locs → ∀ (ls : Array Slot), lv_has ls 4 [(3, .int (nI i)), (0, .ref h), (1, .int (nI n2)), (2, .int (nI w2))] → W p l e ({ frames := 1, cells := 0, slots := 0, locals := 23 } : Room) s m args below meth c H locs 0 0 (MQ below (qm_v (fun H1 => ∃ F2 G2 : Nat → Int32, (∀ k, k < 40 → F2 k = -1) ∧ (∀ k, k < 40 → G2 k = nI 0) ∧ va_P D vwCl (rkw cI h a1 a2 n2 w2 F2 G2) H1) A) args s 0 0 A) (F0 m 12 ls []) := by
    intro q
    induction q with
    | zero =>
      intro i F1 G1 h1 h2 h3 H locs hP hD hS ls hl
      refine lv_iload_n hx hb dX0_clear_12 rfl (lv_at hl 0 rfl) ?_
      refine lv_aload_n hx hb dX0_clear_13 rfl (lv_at hl 1 rfl) ?_
      refine va_get (D := D) (ci := 0) (v := .ref a1) (C := RX0) (T := TX0) (N := 4) hx hb hts (fun _ h => (List.mem_cons_of_mem _ (List.mem_append_right _ h))) hown hK hP 0 rfl rfl 0 (by decide) (hts _ (List.mem_of_getElem? (i := 3) rfl)) (fun _ h9 => h9) rfl dX0_clear_14 ?_
      refine va_alen (v := nI 40) hx hb hK hP 1 0 rfl rfl rfl dX0_clear_17 ?_
      refine bn_ge (tgt := 34) hx hb dX0_clear_18 (by decide) (by omega) (by omega) (fun c18 => ?_) (fun c18 => ?_)
      · skip
        exact em_v hx hb hr hlocks hS (⟨F1, G1, fun k hk => h2 k (by omega), fun k hk => h3 k (by omega), hP⟩) dX0_clear_34
      · skip
        omega
    | succ q ih =>
      intro i F1 G1 h1 h2 h3 H locs hP hD hS ls hl
      refine lv_iload_n hx hb dX0_clear_12 rfl (lv_at hl 0 rfl) ?_
      refine lv_aload_n hx hb dX0_clear_13 rfl (lv_at hl 1 rfl) ?_
      refine va_get (D := D) (ci := 0) (v := .ref a1) (C := RX0) (T := TX0) (N := 4) hx hb hts (fun _ h => (List.mem_cons_of_mem _ (List.mem_append_right _ h))) hown hK hP 0 rfl rfl 0 (by decide) (hts _ (List.mem_of_getElem? (i := 3) rfl)) (fun _ h9 => h9) rfl dX0_clear_14 ?_
      refine va_alen (v := nI 40) hx hb hK hP 1 0 rfl rfl rfl dX0_clear_17 ?_
      refine bn_ge (tgt := 34) hx hb dX0_clear_18 (by decide) (by omega) (by omega) (fun c18 => ?_) (fun c18 => ?_)
      · skip
        omega
      · skip
        refine lv_aload_n hx hb dX0_clear_21 rfl (lv_at hl 1 rfl) ?_
        refine lv_iload_n hx hb dX0_clear_22 rfl (lv_at hl 0 rfl) ?_
        refine lv_iconst (v := (-1)) hx hb dX0_clear_23 (by decide) ?_
        refine lv_iconst (v := nI 0) hx hb dX0_clear_24 (by decide) ?_
        have hPc : va_P D vwCl [(h, .inr (0, [.ref a1, .ref a2, .int (nI n2), .int (nI w2)])), (a1, .inl (cI, 40, .inl F1)), (a2, .inl (cI, 40, .inl G1))] H := hP.sub [0, 1, 2] rfl
        have hDc : va_D A [(h, .inr (0, [.ref a1, .ref a2, .int (nI n2), .int (nI w2)])), (a1, .inl (cI, 40, .inl F1)), (a2, .inl (cI, 40, .inl G1))] := hD.sub [0, 1, 2] (by decide) rfl
        have hFc := va_free (wc := [(h, .inr (0, [.ref a1, .ref a2, .int (nI n2), .int (nI w2)])), (a1, .inl (cI, 40, .inl F1)), (a2, .inl (cI, 40, .inl G1))]) hD hS hA [0, 1, 2] rfl
        refine pq_v (va_runV (rest := []) CF (m_X0_put l D cI h a1 a2 n2 w2 F1 G1 i (-1) (nI 0) (by omega) H.size) (cwV 3 hts gX0_clear_X0_put rfl rfl rfl k_X0_put ⟨Nat.le_of_ble_eq_true rfl, Nat.le_of_ble_eq_true rfl⟩) (mv_pre hK hPc hDc rfl rfl rfl) rfl rfl hl.1 rfl (lv_room (Nat.le_of_ble_eq_true rfl)) dX0_clear_25 ⟨Nat.le_of_ble_eq_true rfl, Nat.le_of_ble_eq_true rfl⟩) hS hFc (fun H locs hB hk1 hS => ?_)
        have hP1 := hB
        obtain ⟨hP, hD⟩ := jn (wb := [(h, .inr (0, [.ref a1, .ref a2, .int (nI n2), .int (nI w2)])), (a1, .inl (cI, 40, .inl (upd F1 i (-1)))), (a2, .inl (cI, 40, .inl (upd G1 i (nI 0))))]) (w1 := [(h, .inr (0, [.ref a1, .ref a2, .int (nI n2), .int (nI w2)])), (a1, .inl (cI, 40, .inl (upd F1 i (-1)))), (a2, .inl (cI, 40, .inl (upd G1 i (nI 0))))]) hP hD [0, 1, 2] [] rfl rfl rfl rfl 3 rfl (by decide) (by decide) hk1 hP1
        refine lv_iinc (v := (nI (i + 1))) (lv' := [(3, .int (nI (i + 1))), (0, .ref h), (1, .int (nI n2)), (2, .int (nI w2))]) hx hb dX0_clear_28 hl (k := 0) rfl (inc1 _) (by decide) rfl (fun ls hl => ?_)
        refine lv_goto (tgt := 12) hx hb dX0_clear_31 (by decide) ?_
        exact ih (i + 1) (upd F1 i (-1)) (upd G1 i (nI 0)) (by omega) (up_all h2) (up_all h3) _ _ hP hD hS _ (lv_sub hl [0, 1, 2, 3] rfl)
  exact LP12 40 0 F G (by omega) (fun k hk => absurd hk (Nat.not_lt_zero k)) (fun k hk => absurd hk (Nat.not_lt_zero k)) _ _ hP hD hS _ (lv_sub hl [0, 1, 2, 3] rfl)
theorem k_X0_freeAll : yX0_freeAll.cls = RX0 ∧ yX0_freeAll.cls ≠ "java/lang/invoke/MethodHandle" ∧ yX0_freeAll.cls ≠ "java/lang/invoke/VarHandle" ∧ (parseMethodDescriptor yX0_freeAll.desc).map (fun d => d.parameters.length) = some 0 := by decide +kernel
set_option maxHeartbeats 4000000 in
set_option maxRecDepth 100000 in
theorem m_X0_freeAll (l : Launch) (D : va_G) (cI : ClassId) (h a1 a2 n w : Nat) (F G : Nat → Int32) (sz : Nat) : Met l yX0_freeAll wsX0_freeAll ({ frames := 2, cells := 0, slots := 0, locals := 46 } : Room) (PM D [(cI, .int)] [.ref h] sz (rkw cI h a1 a2 n w F G)) (qm_i (fun r H1 => r = nI n ∧ ∃ F2 G2 : Nat → Int32, (∀ k, k < 40 → F2 k = -1) ∧ (∀ k, k < 40 → G2 k = nI 0) ∧ va_P D vwCl (rkw cI h a1 a2 n w F2 G2) H1) (va_A (rkw cI h a1 a2 n w F G) sz)) 0 0 (va_A (rkw cI h a1 a2 n w F G) sz) := by
  refine bd_m (Qc := (fun A => qm_i (fun r H1 => r = nI n ∧ ∃ F2 G2 : Nat → Int32, (∀ k, k < 40 → F2 k = -1) ∧ (∀ k, k < 40 → G2 k = nI 0) ∧ va_P D vwCl (rkw cI h a1 a2 n w F2 G2) H1) A)) (cc := cX0_freeAll) (maxL := 2) (ret := (some .int)) (by decide) rfl (Nat.le_of_ble_eq_true rfl) ?_
  intro p e s m args below meth c ls A CF hr hlocks hK hP hD hA hS hl hin
  obtain ⟨hx, hb, hml, hown, hts⟩ := id CF
  have hl : lv_has ls 2 [(0, .ref h)] := hl
  have hP : va_P D vwCl [(h, .inr (0, [.ref a1, .ref a2, .int (nI n), .int (nI w)])), (a1, .inl (cI, 40, .inl F)), (a2, .inl (cI, 40, .inl G))] s.heap := hP
  have hD : va_D A [(h, .inr (0, [.ref a1, .ref a2, .int (nI n), .int (nI w)])), (a1, .inl (cI, 40, .inl F)), (a2, .inl (cI, 40, .inl G))] := hD
  generalize hH0 : s.heap = H at hP
  have hS : va_S A s.heap H [] := by rw [← hH0]; exact va_S.rf
  generalize hlc0 : ([] : List Loc) = locs at hS ⊢
  refine lv_aload_n hx hb dX0_freeAll_0 rfl (lv_at hl 0 rfl) ?_
  refine va_get (D := D) (ci := 0) (v := .int (nI n)) (C := RX0) (T := TX0) (N := 4) hx hb hts (fun _ h => (List.mem_cons_of_mem _ (List.mem_append_right _ h))) hown hK hP 0 rfl rfl 2 (by decide) (hts _ (List.mem_of_getElem? (i := 1) rfl)) (fun _ h9 => h9) rfl dX0_freeAll_1 ?_
  refine lv_istore_n (lv' := [(1, .int (nI n)), (0, .ref h)]) hx hb dX0_freeAll_4 rfl hl (by decide) rfl (fun ls hl => ?_)
  refine lv_aload_n hx hb dX0_freeAll_5 rfl (lv_at hl 1 rfl) ?_
  refine lv_aload_n hx hb dX0_freeAll_6 rfl (lv_at hl 1 rfl) ?_
  refine va_get (D := D) (ci := 0) (v := .int (nI n)) (C := RX0) (T := TX0) (N := 4) hx hb hts (fun _ h => (List.mem_cons_of_mem _ (List.mem_append_right _ h))) hown hK hP 0 rfl rfl 2 (by decide) (hts _ (List.mem_of_getElem? (i := 1) rfl)) (fun _ h9 => h9) rfl dX0_freeAll_7 ?_
  refine lv_aload_n hx hb dX0_freeAll_10 rfl (lv_at hl 1 rfl) ?_
  refine va_get (D := D) (ci := 0) (v := .int (nI w)) (C := RX0) (T := TX0) (N := 4) hx hb hts (fun _ h => (List.mem_cons_of_mem _ (List.mem_append_right _ h))) hown hK hP 0 rfl rfl 3 (by decide) (hts _ (List.mem_of_getElem? (i := 2) rfl)) (fun _ h9 => h9) rfl dX0_freeAll_11 ?_
  have hPc : va_P D vwCl [(h, .inr (0, [.ref a1, .ref a2, .int (nI n), .int (nI w)])), (a1, .inl (cI, 40, .inl F)), (a2, .inl (cI, 40, .inl G))] H := hP.sub [0, 1, 2] rfl
  have hDc : va_D A [(h, .inr (0, [.ref a1, .ref a2, .int (nI n), .int (nI w)])), (a1, .inl (cI, 40, .inl F)), (a2, .inl (cI, 40, .inl G))] := hD.sub [0, 1, 2] (by decide) rfl
  have hFc := va_free (wc := [(h, .inr (0, [.ref a1, .ref a2, .int (nI n), .int (nI w)])), (a1, .inl (cI, 40, .inl F)), (a2, .inl (cI, 40, .inl G))]) hD hS hA [0, 1, 2] rfl
  refine pq_v (va_runV (rest := []) CF (m_X0_clear l D cI h a1 a2 n w F G n w H.size) (cwV 2 hts gX0_freeAll_X0_clear rfl rfl rfl k_X0_clear ⟨Nat.le_of_ble_eq_true rfl, Nat.le_of_ble_eq_true rfl⟩) (mv_pre hK hPc hDc rfl rfl rfl) rfl rfl hl.1 rfl (lv_room (Nat.le_of_ble_eq_true rfl)) dX0_freeAll_14 ⟨Nat.le_of_ble_eq_true rfl, Nat.le_of_ble_eq_true rfl⟩) hS hFc (fun H locs hB hk1 hS => ?_)
  obtain ⟨F2, G2, hF2, hG2, hP1⟩ := hB
  obtain ⟨hP, hD⟩ := jn (wb := [(h, .inr (0, [.ref a1, .ref a2, .int (nI n), .int (nI w)])), (a1, .inl (cI, 40, .inl F2)), (a2, .inl (cI, 40, .inl G2))]) (w1 := [(h, .inr (0, [.ref a1, .ref a2, .int (nI n), .int (nI w)])), (a1, .inl (cI, 40, .inl F2)), (a2, .inl (cI, 40, .inl G2))]) hP hD [0, 1, 2] [] rfl rfl rfl rfl 3 rfl (by decide) (by decide) hk1 hP1
  refine lv_iload_n hx hb dX0_freeAll_17 rfl (lv_at hl 0 rfl) ?_
  exact em_i hx hb hr hlocks hS (⟨rfl, F2, G2, hF2, hG2, hP⟩) dX0_freeAll_18
theorem k_X0_freeSweptTickets : yX0_freeSweptTickets.cls = RX0 ∧ yX0_freeSweptTickets.cls ≠ "java/lang/invoke/MethodHandle" ∧ yX0_freeSweptTickets.cls ≠ "java/lang/invoke/VarHandle" ∧ (parseMethodDescriptor yX0_freeSweptTickets.desc).map (fun d => d.parameters.length) = some 0 := by decide +kernel
set_option maxHeartbeats 4000000 in
set_option maxRecDepth 100000 in
theorem m_X0_freeSweptTickets (l : Launch) (D : va_G) (cI : ClassId) (h a1 a2 : Nat) {n w : Nat} {F G f g : Nat → Int32} (S : RS n w F G f g) (sz : Nat) : Met l yX0_freeSweptTickets wsX0_freeSweptTickets ({ frames := 1, cells := 0, slots := 0, locals := 23 } : Room) (PM D [(cI, .int)] [.ref h] sz (rkw cI h a1 a2 n w F G)) (qm_i (fun r H1 => r = nI (sw n (2 * n) f 0).2 ∧ ∃ F2 G2 : Nat → Int32, RS n w F2 G2 (sw n (2 * n) f 0).1 g ∧ va_P D vwCl (rkw cI h a1 a2 n w F2 G2) H1) (va_A (rkw cI h a1 a2 n w F G) sz)) 0 0 (va_A (rkw cI h a1 a2 n w F G) sz) := by
  obtain ⟨hn3, hn, hw2, hF, hG, hO⟩ := id S
  refine bd_m (Qc := (fun A => qm_i (fun r H1 => r = nI (sw n (2 * n) f 0).2 ∧ ∃ F2 G2 : Nat → Int32, RS n w F2 G2 (sw n (2 * n) f 0).1 g ∧ va_P D vwCl (rkw cI h a1 a2 n w F2 G2) H1) A)) (cc := cX0_freeSweptTickets) (maxL := 4) (ret := (some .int)) (by decide) rfl (Nat.le_of_ble_eq_true rfl) ?_
  intro p e s m args below meth c ls A CF hr hlocks hK hP hD hA hS hl hin
  obtain ⟨hx, hb, hml, hown, hts⟩ := id CF
  have hl : lv_has ls 4 [(0, .ref h)] := hl
  have hP : va_P D vwCl [(h, .inr (0, [.ref a1, .ref a2, .int (nI n), .int (nI w)])), (a1, .inl (cI, 40, .inl F)), (a2, .inl (cI, 40, .inl G))] s.heap := hP
  have hD : va_D A [(h, .inr (0, [.ref a1, .ref a2, .int (nI n), .int (nI w)])), (a1, .inl (cI, 40, .inl F)), (a2, .inl (cI, 40, .inl G))] := hD
  generalize hH0 : s.heap = H at hP
  have hS : va_S A s.heap H [] := by rw [← hH0]; exact va_S.rf
  generalize hlc0 : ([] : List Loc) = locs at hS ⊢
  refine lv_iconst (v := nI 0) hx hb dX0_freeSweptTickets_0 (by decide) ?_
  refine lv_istore_n (lv' := [(1, .int (nI 0)), (0, .ref h)]) hx hb dX0_freeSweptTickets_1 rfl hl (by decide) rfl (fun ls hl => ?_)
  refine lv_aload_n hx hb dX0_freeSweptTickets_2 rfl (lv_at hl 1 rfl) ?_
  refine va_get (D := D) (ci := 0) (v := .int (nI n)) (C := RX0) (T := TX0) (N := 4) hx hb hts (fun _ h => (List.mem_cons_of_mem _ (List.mem_append_right _ h))) hown hK hP 0 rfl rfl 2 (by decide) (hts _ (List.mem_of_getElem? (i := 1) rfl)) (fun _ h9 => h9) rfl dX0_freeSweptTickets_3 ?_
  refine lv_iconst (v := nI 1) hx hb dX0_freeSweptTickets_6 (by decide) ?_
  refine an_sub hx hb (by omega) dX0_freeSweptTickets_7 ?_
  refine lv_istore_n (lv' := [(2, .int (nI (n - 1))), (1, .int (nI 0)), (0, .ref h)]) hx hb dX0_freeSweptTickets_8 rfl hl (by decide) rfl (fun ls hl => ?_)
  refine lv_iconst (v := nI 0) hx hb dX0_freeSweptTickets_9 (by decide) ?_
  refine lv_istore_n (lv' := [(3, .int (nI 0)), (2, .int (nI (n - 1))), (1, .int (nI 0)), (0, .ref h)]) hx hb dX0_freeSweptTickets_10 rfl hl (by decide) rfl (fun ls hl => ?_)
  have LP11 : ∀ (q j a t : Nat) (F1 G1 f1 : Nat → Int32), j + q = 2 * n → t < n → t = (q + n - 1) % n → RS n w F1 G1 f1 g → sw n q f1 a = sw n (2 * n) f 0 → ∀ (H : Heap) (locs : List Loc), va_P D vwCl [(h, .inr (0, [.ref a1, .ref a2, .int (nI n), .int (nI w)])), (a1, .inl (cI, 40, .inl F1)), (a2, .inl (cI, 40, .inl G1))] H → va_D A [(h, .inr (0, [.ref a1, .ref a2, .int (nI n), .int (nI w)])), (a1, .inl (cI, 40, .inl F1)), (a2, .inl (cI, 40, .inl G1))] → va_S A s.heap H locs → ∀ (ls : Array Slot), lv_has ls 4 [(3, .int (nI j)), (2, .int (nI t)), (1, .int (nI a)), (0, .ref h)] → W p l e ({ frames := 1, cells := 0, slots := 0, locals := 23 } : Room) s m args below meth c H locs 0 0 (MQ below (qm_i (fun r H1 => r = nI (sw n (2 * n) f 0).2 ∧ ∃ F2 G2 : Nat → Int32, RS n w F2 G2 (sw n (2 * n) f 0).1 g ∧ va_P D vwCl (rkw cI h a1 a2 n w F2 G2) H1) A) args s 0 0 A) (F0 m 11 ls []) := by
    intro q
    induction q with
    | zero =>
      intro j a t F1 G1 f1 h1 ht et S1 h2 H locs hP hD hS ls hl
      refine lv_iload_n hx hb dX0_freeSweptTickets_11 rfl (lv_at hl 0 rfl) ?_
      refine lv_iconst (v := nI 2) hx hb dX0_freeSweptTickets_12 (by decide) ?_
      refine lv_aload_n hx hb dX0_freeSweptTickets_13 rfl (lv_at hl 3 rfl) ?_
      refine va_get (D := D) (ci := 0) (v := .int (nI n)) (C := RX0) (T := TX0) (N := 4) hx hb hts (fun _ h => (List.mem_cons_of_mem _ (List.mem_append_right _ h))) hown hK hP 0 rfl rfl 2 (by decide) (hts _ (List.mem_of_getElem? (i := 1) rfl)) (fun _ h9 => h9) rfl dX0_freeSweptTickets_14 ?_
      refine an_mul hx hb dX0_freeSweptTickets_17 ?_
      refine bn_ge (tgt := 66) hx hb dX0_freeSweptTickets_18 (by decide) (by omega) (by omega) (fun c18 => ?_) (fun c18 => ?_)
      · skip
        refine lv_iload_n hx hb dX0_freeSweptTickets_66 rfl (lv_at hl 2 rfl) ?_
        exact em_i hx hb hr hlocks hS (⟨congrArg (fun z => nI z.2) h2, F1, G1, by rw [← h2]; exact S1, hP⟩) dX0_freeSweptTickets_67
      · skip
        omega
    | succ q ih =>
      intro j a t F1 G1 f1 h1 ht et S1 h2 H locs hP hD hS ls hl
      refine lv_iload_n hx hb dX0_freeSweptTickets_11 rfl (lv_at hl 0 rfl) ?_
      refine lv_iconst (v := nI 2) hx hb dX0_freeSweptTickets_12 (by decide) ?_
      refine lv_aload_n hx hb dX0_freeSweptTickets_13 rfl (lv_at hl 3 rfl) ?_
      refine va_get (D := D) (ci := 0) (v := .int (nI n)) (C := RX0) (T := TX0) (N := 4) hx hb hts (fun _ h => (List.mem_cons_of_mem _ (List.mem_append_right _ h))) hown hK hP 0 rfl rfl 2 (by decide) (hts _ (List.mem_of_getElem? (i := 1) rfl)) (fun _ h9 => h9) rfl dX0_freeSweptTickets_14 ?_
      refine an_mul hx hb dX0_freeSweptTickets_17 ?_
      refine bn_ge (tgt := 66) hx hb dX0_freeSweptTickets_18 (by decide) (by omega) (by omega) (fun c18 => ?_) (fun c18 => ?_)
      · skip
        omega
      · skip
        refine lv_aload_n hx hb dX0_freeSweptTickets_21 rfl (lv_at hl 3 rfl) ?_
        refine lv_iload_n hx hb dX0_freeSweptTickets_22 rfl (lv_at hl 1 rfl) ?_
        refine pv_i CF (m_X0_heldOn l D cI h a1 a2 S1 t (by omega)) (cwV 1 hts gX0_freeSweptTickets_X0_heldOn rfl rfl rfl k_X0_heldOn ⟨Nat.le_of_ble_eq_true rfl, Nat.le_of_ble_eq_true rfl⟩) hK hP rfl rfl rfl rfl hl.1 rfl (Nat.le_of_ble_eq_true rfl) dX0_freeSweptTickets_23 ⟨Nat.le_of_ble_eq_true rfl, Nat.le_of_ble_eq_true rfl⟩ ?_
        refine tp_i (y := (f1 t)) (hd_in ht) ?_
        refine lv_bipush (v := (-2)) hx hb dX0_freeSweptTickets_26 (by decide) ?_
        refine lv_icmp_ne (tgt := 54) hx hb dX0_freeSweptTickets_28 (by decide) (fun c28 => ?_) (fun c28 => ?_)
        · skip
          refine lv_aload_n hx hb dX0_freeSweptTickets_54 rfl (lv_at hl 3 rfl) ?_
          refine lv_iload_n hx hb dX0_freeSweptTickets_55 rfl (lv_at hl 1 rfl) ?_
          refine pv_i CF (m_X0_before l D cI h a1 a2 S1 t ht) (cwV 1 hts gX0_freeSweptTickets_X0_before rfl rfl rfl k_X0_before ⟨Nat.le_of_ble_eq_true rfl, Nat.le_of_ble_eq_true rfl⟩) hK hP rfl rfl rfl rfl hl.1 rfl (Nat.le_of_ble_eq_true rfl) dX0_freeSweptTickets_56 ⟨Nat.le_of_ble_eq_true rfl, Nat.le_of_ble_eq_true rfl⟩ ?_
          refine lv_istore_n (lv' := [(2, .int (nI (bf n t))), (3, .int (nI j)), (1, .int (nI a)), (0, .ref h)]) hx hb dX0_freeSweptTickets_59 rfl hl (by decide) rfl (fun ls hl => ?_)
          refine lv_iinc (v := (nI (j + 1))) (lv' := [(3, .int (nI (j + 1))), (2, .int (nI (bf n t))), (1, .int (nI a)), (0, .ref h)]) hx hb dX0_freeSweptTickets_60 hl (k := 1) rfl (inc1 _) (by decide) rfl (fun ls hl => ?_)
          refine lv_goto (tgt := 11) hx hb dX0_freeSweptTickets_63 (by decide) ?_
          exact ih (j + 1) a (bf n t) F1 G1 f1 (by omega) (bf_lt ht) (sw_t (show 0 < n by omega) et) S1 (sw_n1 (show 0 < n by omega) et c28 h2) _ _ hP hD hS _ (lv_sub hl [0, 1, 2, 3] rfl)
        · skip
          refine lv_aload_n hx hb dX0_freeSweptTickets_31 rfl (lv_at hl 3 rfl) ?_
          refine lv_aload_n hx hb dX0_freeSweptTickets_32 rfl (lv_at hl 3 rfl) ?_
          refine lv_iload_n hx hb dX0_freeSweptTickets_33 rfl (lv_at hl 1 rfl) ?_
          refine pv_i CF (m_X0_behind l D cI h a1 a2 S1 t ht) (cwV 1 hts gX0_freeSweptTickets_X0_behind rfl rfl rfl k_X0_behind ⟨Nat.le_of_ble_eq_true rfl, Nat.le_of_ble_eq_true rfl⟩) hK hP rfl rfl rfl rfl hl.1 rfl (Nat.le_of_ble_eq_true rfl) dX0_freeSweptTickets_34 ⟨Nat.le_of_ble_eq_true rfl, Nat.le_of_ble_eq_true rfl⟩ ?_
          refine pv_i CF (m_X0_heldOn l D cI h a1 a2 S1 (bh n t) (Nat.lt_trans (bh_lt (by omega)) (by omega))) (cwV 1 hts gX0_freeSweptTickets_X0_heldOn rfl rfl rfl k_X0_heldOn ⟨Nat.le_of_ble_eq_true rfl, Nat.le_of_ble_eq_true rfl⟩) hK hP rfl rfl rfl rfl hl.1 rfl (Nat.le_of_ble_eq_true rfl) dX0_freeSweptTickets_37 ⟨Nat.le_of_ble_eq_true rfl, Nat.le_of_ble_eq_true rfl⟩ ?_
          refine tp_i (y := (f1 (bh n t))) (hd_in (bh_lt (by omega))) ?_
          refine lv_iconst (v := (-1)) hx hb dX0_freeSweptTickets_40 (by decide) ?_
          refine lv_icmp_ne (tgt := 54) hx hb dX0_freeSweptTickets_41 (by decide) (fun c41 => ?_) (fun c41 => ?_)
          · skip
            refine lv_aload_n hx hb dX0_freeSweptTickets_54 rfl (lv_at hl 3 rfl) ?_
            refine lv_iload_n hx hb dX0_freeSweptTickets_55 rfl (lv_at hl 1 rfl) ?_
            refine pv_i CF (m_X0_before l D cI h a1 a2 S1 t ht) (cwV 1 hts gX0_freeSweptTickets_X0_before rfl rfl rfl k_X0_before ⟨Nat.le_of_ble_eq_true rfl, Nat.le_of_ble_eq_true rfl⟩) hK hP rfl rfl rfl rfl hl.1 rfl (Nat.le_of_ble_eq_true rfl) dX0_freeSweptTickets_56 ⟨Nat.le_of_ble_eq_true rfl, Nat.le_of_ble_eq_true rfl⟩ ?_
            refine lv_istore_n (lv' := [(2, .int (nI (bf n t))), (3, .int (nI j)), (1, .int (nI a)), (0, .ref h)]) hx hb dX0_freeSweptTickets_59 rfl hl (by decide) rfl (fun ls hl => ?_)
            refine lv_iinc (v := (nI (j + 1))) (lv' := [(3, .int (nI (j + 1))), (2, .int (nI (bf n t))), (1, .int (nI a)), (0, .ref h)]) hx hb dX0_freeSweptTickets_60 hl (k := 1) rfl (inc1 _) (by decide) rfl (fun ls hl => ?_)
            refine lv_goto (tgt := 11) hx hb dX0_freeSweptTickets_63 (by decide) ?_
            exact ih (j + 1) a (bf n t) F1 G1 f1 (by omega) (bf_lt ht) (sw_t (show 0 < n by omega) et) S1 (sw_n2 (show 0 < n by omega) et c41 h2) _ _ hP hD hS _ (lv_sub hl [0, 1, 2, 3] rfl)
          · skip
            refine lv_aload_n hx hb dX0_freeSweptTickets_44 rfl (lv_at hl 3 rfl) ?_
            refine lv_iload_n hx hb dX0_freeSweptTickets_45 rfl (lv_at hl 1 rfl) ?_
            refine lv_iconst (v := (-1)) hx hb dX0_freeSweptTickets_46 (by decide) ?_
            refine lv_iconst (v := nI 0) hx hb dX0_freeSweptTickets_47 (by decide) ?_
            have hPc : va_P D vwCl [(h, .inr (0, [.ref a1, .ref a2, .int (nI n), .int (nI w)])), (a1, .inl (cI, 40, .inl F1)), (a2, .inl (cI, 40, .inl G1))] H := hP.sub [0, 1, 2] rfl
            have hDc : va_D A [(h, .inr (0, [.ref a1, .ref a2, .int (nI n), .int (nI w)])), (a1, .inl (cI, 40, .inl F1)), (a2, .inl (cI, 40, .inl G1))] := hD.sub [0, 1, 2] (by decide) rfl
            have hFc := va_free (wc := [(h, .inr (0, [.ref a1, .ref a2, .int (nI n), .int (nI w)])), (a1, .inl (cI, 40, .inl F1)), (a2, .inl (cI, 40, .inl G1))]) hD hS hA [0, 1, 2] rfl
            refine pq_v (va_runV (rest := []) CF (m_X0_put l D cI h a1 a2 n w F1 G1 t (-1) (nI 0) (by omega) H.size) (cwV 3 hts gX0_freeSweptTickets_X0_put rfl rfl rfl k_X0_put ⟨Nat.le_of_ble_eq_true rfl, Nat.le_of_ble_eq_true rfl⟩) (mv_pre hK hPc hDc rfl rfl rfl) rfl rfl hl.1 rfl (lv_room (Nat.le_of_ble_eq_true rfl)) dX0_freeSweptTickets_48 ⟨Nat.le_of_ble_eq_true rfl, Nat.le_of_ble_eq_true rfl⟩) hS hFc (fun H locs hB hk1 hS => ?_)
            have hP1 := hB
            obtain ⟨hP, hD⟩ := jn (wb := [(h, .inr (0, [.ref a1, .ref a2, .int (nI n), .int (nI w)])), (a1, .inl (cI, 40, .inl (upd F1 t (-1)))), (a2, .inl (cI, 40, .inl (upd G1 t (nI 0))))]) (w1 := [(h, .inr (0, [.ref a1, .ref a2, .int (nI n), .int (nI w)])), (a1, .inl (cI, 40, .inl (upd F1 t (-1)))), (a2, .inl (cI, 40, .inl (upd G1 t (nI 0))))]) hP hD [0, 1, 2] [] rfl rfl rfl rfl 3 rfl (by decide) (by decide) hk1 hP1
            have S2 := S1.free ht c28
            refine lv_iinc (v := (nI (a + 1))) (lv' := [(1, .int (nI (a + 1))), (3, .int (nI j)), (2, .int (nI t)), (0, .ref h)]) hx hb dX0_freeSweptTickets_51 hl (k := 2) rfl (inc1 _) (by decide) rfl (fun ls hl => ?_)
            refine lv_aload_n hx hb dX0_freeSweptTickets_54 rfl (lv_at hl 3 rfl) ?_
            refine lv_iload_n hx hb dX0_freeSweptTickets_55 rfl (lv_at hl 2 rfl) ?_
            refine pv_i CF (m_X0_before l D cI h a1 a2 S2 t ht) (cwV 1 hts gX0_freeSweptTickets_X0_before rfl rfl rfl k_X0_before ⟨Nat.le_of_ble_eq_true rfl, Nat.le_of_ble_eq_true rfl⟩) hK hP rfl rfl rfl rfl hl.1 rfl (Nat.le_of_ble_eq_true rfl) dX0_freeSweptTickets_56 ⟨Nat.le_of_ble_eq_true rfl, Nat.le_of_ble_eq_true rfl⟩ ?_
            refine lv_istore_n (lv' := [(2, .int (nI (bf n t))), (1, .int (nI (a + 1))), (3, .int (nI j)), (0, .ref h)]) hx hb dX0_freeSweptTickets_59 rfl hl (by decide) rfl (fun ls hl => ?_)
            refine lv_iinc (v := (nI (j + 1))) (lv' := [(3, .int (nI (j + 1))), (2, .int (nI (bf n t))), (1, .int (nI (a + 1))), (0, .ref h)]) hx hb dX0_freeSweptTickets_60 hl (k := 2) rfl (inc1 _) (by decide) rfl (fun ls hl => ?_)
            refine lv_goto (tgt := 11) hx hb dX0_freeSweptTickets_63 (by decide) ?_
            exact ih (j + 1) (a + 1) (bf n t) (upd F1 t (-1)) (upd G1 t (nI 0)) (upd f1 t (-1)) (by omega) (bf_lt ht) (sw_t (show 0 < n by omega) et) S2 (sw_y (show 0 < n by omega) et c28 c41 h2) _ _ hP hD hS _ (lv_sub hl [0, 1, 2, 3] rfl)
  exact LP11 (2 * n) 0 0 (n - 1) F G f (by omega) (by omega) (sw_0 hn3) S rfl _ _ hP hD hS _ (lv_sub hl [0, 1, 2, 3] rfl)
theorem k_X0_init : yX0_init.cls ≠ "java/lang/invoke/MethodHandle" ∧ yX0_init.cls ≠ "java/lang/invoke/VarHandle" ∧ (parseMethodDescriptor yX0_init.desc).map (fun d => d.parameters.length) = some 0 := by decide +kernel
set_option maxHeartbeats 4000000 in
set_option maxRecDepth 100000 in
theorem m_X0_init (l : Launch) (D : va_G) (cI : ClassId) (h : Nat) (sz : Nat) : Met l yX0_init wsX0_init ({ frames := 2, cells := 2, slots := 80, locals := 46 } : Room) (PM D [(cI, .int)] [.ref h] sz [(h, .inr (0, [.null, .null, .int (nI 0), .int (nI 0)]))]) (qm_v ((fun (A : Nat → Prop) H1 => ∃ (a1 a2 : Nat) (F2 G2 : Nat → Int32), (∀ k, k < 40 → F2 k = -1) ∧ (∀ k, k < 40 → G2 k = nI 0) ∧ va_P D vwCl (rkw cI h a1 a2 8 0 F2 G2) H1 ∧ va_D A (rkw cI h a1 a2 8 0 F2 G2)) (va_A [(h, .inr (0, [.null, .null, .int (nI 0), .int (nI 0)]))] sz)) (va_A [(h, .inr (0, [.null, .null, .int (nI 0), .int (nI 0)]))] sz)) 2 80 (va_A [(h, .inr (0, [.null, .null, .int (nI 0), .int (nI 0)]))] sz) := by
  refine bd_m (Qc := (fun A => qm_v ((fun (A : Nat → Prop) H1 => ∃ (a1 a2 : Nat) (F2 G2 : Nat → Int32), (∀ k, k < 40 → F2 k = -1) ∧ (∀ k, k < 40 → G2 k = nI 0) ∧ va_P D vwCl (rkw cI h a1 a2 8 0 F2 G2) H1 ∧ va_D A (rkw cI h a1 a2 8 0 F2 G2)) A) A)) (cc := cX0_init) (maxL := 1) (ret := none) (by decide) rfl (Nat.le_of_ble_eq_true rfl) ?_
  intro p e s m args below meth c ls A CF hr hlocks hK hP hD hA hS hl hin
  obtain ⟨hx, hb, hml, hown, hts⟩ := id CF
  have hl : lv_has ls 1 [(0, .ref h)] := hl
  have hP : va_P D vwCl [(h, .inr (0, [.null, .null, .int (nI 0), .int (nI 0)]))] s.heap := hP
  have hD : va_D A [(h, .inr (0, [.null, .null, .int (nI 0), .int (nI 0)]))] := hD
  generalize hH0 : s.heap = H at hP
  have hS : va_S A s.heap H [] := by rw [← hH0]; exact va_S.rf
  generalize hlc0 : ([] : List Loc) = locs at hS ⊢
  refine lv_aload_n hx hb dX0_init_0 rfl (lv_at hl 0 rfl) ?_
  refine W.objInit hx hb hown (hts _ (List.mem_of_getElem? (i := 1) rfl)) (hts _ (List.mem_of_getElem? (i := 2) rfl)) (hts _ (List.mem_of_getElem? (i := 3) rfl)) rfl (by rw [hml]; exact hl.1) rfl dX0_init_1 (Nat.le_of_ble_eq_true rfl) (Nat.le_of_ble_eq_true rfl) ?_
  refine W.eq (g2 := F0 m 4 ls []) rfl ?_
  refine lv_aload_n hx hb dX0_init_4 rfl (lv_at hl 0 rfl) ?_
  refine lv_bipush (v := nI 40) hx hb dX0_init_5 (by decide) ?_
  refine va_newa (ty := .int) (a0 := (40, .inl (fun _ => 0))) hx hb (hts _ (List.mem_of_getElem? (i := 4) rfl)) rfl hK hP hD hS hA (fun _ => rfl) (nI_pos (by decide)) (nI_clamp (by decide)) (Nat.le_of_ble_eq_true rfl) (Nat.le_of_ble_eq_true rfl) (Nat.le_of_ble_eq_true rfl) dX0_init_7 (fun q7 cA H hK1 hP hD hS => ?_)
  obtain rfl : cI = cA := ar_one hK1 0 1 rfl rfl
  have hP : va_P D vwCl [(h, .inr (0, [.null, .null, .int (nI 0), .int (nI 0)])), (q7, .inl (cI, 40, .inl (fun _ => 0)))] H := hP
  have hD : va_D A [(h, .inr (0, [.null, .null, .int (nI 0), .int (nI 0)])), (q7, .inl (cI, 40, .inl (fun _ => 0)))] := hD
  refine va_putF (D := D) (ci := 0) (v := .ref q7) (ty := .array .int) (C := RX0) (T := TX0) (N := 4) hx hb hts (fun _ h => (List.mem_cons_of_mem _ (List.mem_append_right _ h))) tyX0 tyX0_ok nmX0 hown hK hP hD hS 0 rfl rfl 0 (by decide) (hts _ (List.mem_of_getElem? (i := 5) rfl)) (fun _ h9 => h9) rfl (hin rfl) rfl (by decide +kernel) rfl rfl (Nat.le_of_ble_eq_true rfl) dX0_init_9 (fun H locs hP hD hS => ?_)
  have hP : va_P D vwCl [(h, .inr (0, [.ref q7, .null, .int (nI 0), .int (nI 0)])), (q7, .inl (cI, 40, .inl (fun _ => 0)))] H := hP
  have hD : va_D A [(h, .inr (0, [.ref q7, .null, .int (nI 0), .int (nI 0)])), (q7, .inl (cI, 40, .inl (fun _ => 0)))] := hD
  refine lv_aload_n hx hb dX0_init_12 rfl (lv_at hl 0 rfl) ?_
  refine lv_bipush (v := nI 40) hx hb dX0_init_13 (by decide) ?_
  refine va_newa (ty := .int) (a0 := (40, .inl (fun _ => 0))) hx hb (hts _ (List.mem_of_getElem? (i := 4) rfl)) rfl hK hP hD hS hA (fun _ => rfl) (nI_pos (by decide)) (nI_clamp (by decide)) (Nat.le_of_ble_eq_true rfl) (Nat.le_of_ble_eq_true rfl) (Nat.le_of_ble_eq_true rfl) dX0_init_15 (fun q15 cA H hK1 hP hD hS => ?_)
  obtain rfl : cI = cA := ar_one hK1 0 1 rfl rfl
  have hP : va_P D vwCl [(h, .inr (0, [.ref q7, .null, .int (nI 0), .int (nI 0)])), (q7, .inl (cI, 40, .inl (fun _ => 0))), (q15, .inl (cI, 40, .inl (fun _ => 0)))] H := hP
  have hD : va_D A [(h, .inr (0, [.ref q7, .null, .int (nI 0), .int (nI 0)])), (q7, .inl (cI, 40, .inl (fun _ => 0))), (q15, .inl (cI, 40, .inl (fun _ => 0)))] := hD
  refine va_putF (D := D) (ci := 0) (v := .ref q15) (ty := .array .int) (C := RX0) (T := TX0) (N := 4) hx hb hts (fun _ h => (List.mem_cons_of_mem _ (List.mem_append_right _ h))) tyX0 tyX0_ok nmX0 hown hK hP hD hS 0 rfl rfl 1 (by decide) (hts _ (List.mem_of_getElem? (i := 6) rfl)) (fun _ h9 => h9) rfl (hin rfl) rfl (by decide +kernel) rfl rfl (Nat.le_of_ble_eq_true rfl) dX0_init_17 (fun H locs hP hD hS => ?_)
  have hP : va_P D vwCl [(h, .inr (0, [.ref q7, .ref q15, .int (nI 0), .int (nI 0)])), (q7, .inl (cI, 40, .inl (fun _ => 0))), (q15, .inl (cI, 40, .inl (fun _ => 0)))] H := hP
  have hD : va_D A [(h, .inr (0, [.ref q7, .ref q15, .int (nI 0), .int (nI 0)])), (q7, .inl (cI, 40, .inl (fun _ => 0))), (q15, .inl (cI, 40, .inl (fun _ => 0)))] := hD
  refine lv_aload_n hx hb dX0_init_20 rfl (lv_at hl 0 rfl) ?_
  refine lv_bipush (v := nI 8) hx hb dX0_init_21 (by decide) ?_
  refine lv_iconst (v := nI 0) hx hb dX0_init_23 (by decide) ?_
  have hPc : va_P D vwCl [(h, .inr (0, [.ref q7, .ref q15, .int (nI 0), .int (nI 0)])), (q7, .inl (cI, 40, .inl (fun _ => 0))), (q15, .inl (cI, 40, .inl (fun _ => 0)))] H := hP.sub [0, 1, 2] rfl
  have hDc : va_D A [(h, .inr (0, [.ref q7, .ref q15, .int (nI 0), .int (nI 0)])), (q7, .inl (cI, 40, .inl (fun _ => 0))), (q15, .inl (cI, 40, .inl (fun _ => 0)))] := hD.sub [0, 1, 2] (by decide) rfl
  have hFc := va_free (wc := [(h, .inr (0, [.ref q7, .ref q15, .int (nI 0), .int (nI 0)])), (q7, .inl (cI, 40, .inl (fun _ => 0))), (q15, .inl (cI, 40, .inl (fun _ => 0)))]) hD hS hA [0, 1, 2] rfl
  refine pq_v (va_runV (rest := []) CF (m_X0_clear l D cI h q7 q15 0 0 (fun _ => 0) (fun _ => 0) 8 0 H.size) (cwV 2 hts gX0_init_X0_clear rfl rfl rfl k_X0_clear ⟨Nat.le_of_ble_eq_true rfl, Nat.le_of_ble_eq_true rfl⟩) (mv_pre hK hPc hDc rfl rfl rfl) rfl rfl hl.1 rfl (lv_room (Nat.le_of_ble_eq_true rfl)) dX0_init_24 ⟨Nat.le_of_ble_eq_true rfl, Nat.le_of_ble_eq_true rfl⟩) hS hFc (fun H locs hB hk1 hS => ?_)
  obtain ⟨F2, G2, hF2, hG2, hP1⟩ := hB
  obtain ⟨hP, hD⟩ := jn (wb := [(h, .inr (0, [.ref q7, .ref q15, .int (nI 8), .int (nI 0)])), (q7, .inl (cI, 40, .inl F2)), (q15, .inl (cI, 40, .inl G2))]) (w1 := [(h, .inr (0, [.ref q7, .ref q15, .int (nI 8), .int (nI 0)])), (q7, .inl (cI, 40, .inl F2)), (q15, .inl (cI, 40, .inl G2))]) hP hD [0, 1, 2] [] rfl rfl rfl rfl 3 rfl (by decide) (by decide) hk1 hP1
  exact em_v hx hb hr hlocks hS (⟨q7, q15, F2, G2, hF2, hG2, hP, hD⟩) dX0_init_27
