/-! the reference: what writes -/
theorem k_X2_moved : yX2_moved.cls = RX2 ∧ yX2_moved.cls ≠ "java/lang/invoke/MethodHandle" ∧ yX2_moved.cls ≠ "java/lang/invoke/VarHandle" ∧ (parseMethodDescriptor yX2_moved.desc).map (fun d => d.parameters.length) = some 0 := by decide +kernel
set_option maxHeartbeats 4000000 in
set_option maxRecDepth 100000 in
theorem m_X2_moved (l : Launch) (D : va_G) (cI : ClassId) (u c1 c2 c3 c4 : Nat) {n w : Nat} {F V f g : Nat → Int32} (S : MS n w F V f g) (O Y : Nat → Int32) (e0 e7 e8 e9 e10 : Int32) : Met l yX2_moved wsX2_moved ({ frames := 0, cells := 0, slots := 0, locals := 0 } : Room) (PR D [(cI, .int)] [.ref u] (mdw cI u c1 c2 c3 c4 e0 n w F V O Y e7 e8 e9 e10)) (vp_Si (fun r => r = nI (mv n f O))) 0 0 (fun _ => False) := by
  obtain ⟨hn3, hn, hw2, hF, hV, hO⟩ := id S
  refine bd_p (cc := cX2_moved) (maxL := 3) (ret := (some .int)) (by decide) rfl (Nat.le_of_ble_eq_true rfl) ?_
  intro p e s m args below meth c ls CF hr hlocks hK hP hl
  obtain ⟨hx, hb, hml, hown, hts⟩ := id CF
  have hl : lv_has ls 3 [(0, .ref u)] := hl
  have hP : va_P D vwCl [(u, .inr (2, [.int e0, .int (nI n), .int (nI w), .ref c1, .ref c2, .ref c3, .ref c4, .int e7, .int e8, .int e9, .int e10])), (c1, .inl (cI, 40, .inl F)), (c2, .inl (cI, 40, .inl V)), (c3, .inl (cI, 40, .inl O)), (c4, .inl (cI, 40, .inl Y))] s.heap := hP
  refine lv_iconst (v := nI 0) hx hb dX2_moved_0 (by decide) ?_
  refine lv_istore_n (lv' := [(1, .int (nI 0)), (0, .ref u)]) hx hb dX2_moved_1 rfl hl (by decide) rfl (fun ls hl => ?_)
  refine lv_iconst (v := nI 0) hx hb dX2_moved_2 (by decide) ?_
  refine lv_istore_n (lv' := [(2, .int (nI 0)), (1, .int (nI 0)), (0, .ref u)]) hx hb dX2_moved_3 rfl hl (by decide) rfl (fun ls hl => ?_)
  have LP4 : ∀ (q i a : Nat), i + q = n → fo (fun a i => if 0 ≤ f i ∧ ¬ O i = f i then a + 1 else a) q i a = mv n f O → ∀ (ls : Array Slot), lv_has ls 3 [(2, .int (nI i)), (1, .int (nI a)), (0, .ref u)] → W p l e ({ frames := 0, cells := 0, slots := 0, locals := 0 } : Room) s m args below meth c s.heap [] 0 0 (MQ below (vp_Si (fun r => r = nI (mv n f O))) args s 0 0 (fun _ => False)) (F0 m 4 ls []) := by
    intro q
    induction q with
    | zero =>
      intro i a h1 h2 ls hl
      refine lv_iload_n hx hb dX2_moved_4 rfl (lv_at hl 0 rfl) ?_
      refine lv_aload_n hx hb dX2_moved_5 rfl (lv_at hl 2 rfl) ?_
      refine va_get (D := D) (ci := 2) (v := .int (nI n)) (C := RX2) (T := TX2) (N := 11) hx hb hts (fun _ h => (List.mem_cons_of_mem _ (List.mem_append_right _ h))) hown hK hP 0 rfl rfl 1 (by decide) (hts _ (List.mem_of_getElem? (i := 1) rfl)) (fun _ h9 => h9) rfl dX2_moved_6 ?_
      refine bn_ge (tgt := 45) hx hb dX2_moved_9 (by decide) (by omega) (by omega) (fun c9 => ?_) (fun c9 => ?_)
      · skip
        refine lv_iload_n hx hb dX2_moved_45 rfl (lv_at hl 1 rfl) ?_
        exact en_i hx hb hr hlocks (congrArg nI h2) dX2_moved_46
      · skip
        omega
    | succ q ih =>
      intro i a h1 h2 ls hl
      refine lv_iload_n hx hb dX2_moved_4 rfl (lv_at hl 0 rfl) ?_
      refine lv_aload_n hx hb dX2_moved_5 rfl (lv_at hl 2 rfl) ?_
      refine va_get (D := D) (ci := 2) (v := .int (nI n)) (C := RX2) (T := TX2) (N := 11) hx hb hts (fun _ h => (List.mem_cons_of_mem _ (List.mem_append_right _ h))) hown hK hP 0 rfl rfl 1 (by decide) (hts _ (List.mem_of_getElem? (i := 1) rfl)) (fun _ h9 => h9) rfl dX2_moved_6 ?_
      refine bn_ge (tgt := 45) hx hb dX2_moved_9 (by decide) (by omega) (by omega) (fun c9 => ?_) (fun c9 => ?_)
      · skip
        omega
      · skip
        refine lv_aload_n hx hb dX2_moved_12 rfl (lv_at hl 2 rfl) ?_
        refine va_get (D := D) (ci := 2) (v := .ref c1) (C := RX2) (T := TX2) (N := 11) hx hb hts (fun _ h => (List.mem_cons_of_mem _ (List.mem_append_right _ h))) hown hK hP 0 rfl rfl 3 (by decide) (hts _ (List.mem_of_getElem? (i := 2) rfl)) (fun _ h9 => h9) rfl dX2_moved_13 ?_
        refine lv_iload_n hx hb dX2_moved_16 rfl (lv_at hl 0 rfl) ?_
        refine al_i hx hb hK hP 1 0 rfl rfl (by omega) (by omega) dX2_moved_17 ?_
        refine tp_i (y := (f i)) (hF i (by omega)) ?_
        refine lv_if_lt (tgt := 39) hx hb dX2_moved_18 (by decide) (fun c18 => ?_) (fun c18 => ?_)
        · skip
          refine lv_iinc (v := (nI (i + 1))) (lv' := [(2, .int (nI (i + 1))), (1, .int (nI a)), (0, .ref u)]) hx hb dX2_moved_39 hl (k := 0) rfl (inc1 _) (by decide) rfl (fun ls hl => ?_)
          refine lv_goto (tgt := 4) hx hb dX2_moved_42 (by decide) ?_
          exact ih (i + 1) a (by omega) (by rw [fo_s, if_neg (fun z => not_lt0 z.1 c18)] at h2; exact h2) _ (lv_sub hl [0, 1, 2] rfl)
        · skip
          refine lv_aload_n hx hb dX2_moved_21 rfl (lv_at hl 2 rfl) ?_
          refine va_get (D := D) (ci := 2) (v := .ref c3) (C := RX2) (T := TX2) (N := 11) hx hb hts (fun _ h => (List.mem_cons_of_mem _ (List.mem_append_right _ h))) hown hK hP 0 rfl rfl 5 (by decide) (hts _ (List.mem_of_getElem? (i := 3) rfl)) (fun _ h9 => h9) rfl dX2_moved_22 ?_
          refine lv_iload_n hx hb dX2_moved_25 rfl (lv_at hl 0 rfl) ?_
          refine al_i hx hb hK hP 3 0 rfl rfl (by omega) (by omega) dX2_moved_26 ?_
          refine lv_aload_n hx hb dX2_moved_27 rfl (lv_at hl 2 rfl) ?_
          refine va_get (D := D) (ci := 2) (v := .ref c1) (C := RX2) (T := TX2) (N := 11) hx hb hts (fun _ h => (List.mem_cons_of_mem _ (List.mem_append_right _ h))) hown hK hP 0 rfl rfl 3 (by decide) (hts _ (List.mem_of_getElem? (i := 2) rfl)) (fun _ h9 => h9) rfl dX2_moved_28 ?_
          refine lv_iload_n hx hb dX2_moved_31 rfl (lv_at hl 0 rfl) ?_
          refine al_i hx hb hK hP 1 0 rfl rfl (by omega) (by omega) dX2_moved_32 ?_
          refine tp_i (y := (f i)) (hF i (by omega)) ?_
          refine lv_icmp_eq (tgt := 39) hx hb dX2_moved_33 (by decide) (fun c33 => ?_) (fun c33 => ?_)
          · skip
            refine lv_iinc (v := (nI (i + 1))) (lv' := [(2, .int (nI (i + 1))), (1, .int (nI a)), (0, .ref u)]) hx hb dX2_moved_39 hl (k := 0) rfl (inc1 _) (by decide) rfl (fun ls hl => ?_)
            refine lv_goto (tgt := 4) hx hb dX2_moved_42 (by decide) ?_
            exact ih (i + 1) a (by omega) (by rw [fo_s, if_neg (fun z => z.2 c33)] at h2; exact h2) _ (lv_sub hl [0, 1, 2] rfl)
          · skip
            refine lv_iinc (v := (nI (a + 1))) (lv' := [(1, .int (nI (a + 1))), (2, .int (nI i)), (0, .ref u)]) hx hb dX2_moved_36 hl (k := 1) rfl (inc1 _) (by decide) rfl (fun ls hl => ?_)
            refine lv_iinc (v := (nI (i + 1))) (lv' := [(2, .int (nI (i + 1))), (1, .int (nI (a + 1))), (0, .ref u)]) hx hb dX2_moved_39 hl (k := 1) rfl (inc1 _) (by decide) rfl (fun ls hl => ?_)
            refine lv_goto (tgt := 4) hx hb dX2_moved_42 (by decide) ?_
            exact ih (i + 1) (a + 1) (by omega) (by rw [fo_s, if_pos ⟨ge0 c18, c33⟩] at h2; exact h2) _ (lv_sub hl [0, 1, 2] rfl)
  exact LP4 n 0 0 (Nat.zero_add n) rfl _ (lv_sub hl [0, 1, 2] rfl)
theorem k_X2_anew : yX2_anew.cls = RX2 ∧ yX2_anew.cls ≠ "java/lang/invoke/MethodHandle" ∧ yX2_anew.cls ≠ "java/lang/invoke/VarHandle" ∧ (parseMethodDescriptor yX2_anew.desc).map (fun d => d.parameters.length) = some 2 := by decide +kernel
set_option maxHeartbeats 4000000 in
set_option maxRecDepth 100000 in
theorem m_X2_anew (l : Launch) (D : va_G) (cI : ClassId) (u c1 c2 c3 c4 : Nat) {n w : Nat} {F V f g : Nat → Int32} (S : MS n w F V f g) (O Y : Nat → Int32) (e0 e7 e8 e9 e10 : Int32) (N w1 : Nat) (hN3 : 3 ≤ N) (hN40 : N ≤ 40) (hw1 : w1 ≤ 2) (sz : Nat) : Met l yX2_anew wsX2_anew ({ frames := 1, cells := 0, slots := 0, locals := 26 } : Room) (PM D [(cI, .int)] [.ref u, .int (nI N), .int (nI w1)] sz (mdw cI u c1 c2 c3 c4 e0 n w F V O Y e7 e8 e9 e10)) (qm_i (fun rr H1 => rr = LW n f g N w1 ∧ ∃ (O3 Y3 : Nat → Int32) (d7 d8 d9 d10 : Int32), (∀ k, N ≤ k → O3 k = O k) ∧ (∀ (T U : Nat → Int32) (z : Nat), HG n f g N w1 = some (T, U, z) → (∀ k, k < N → O3 k = T k) ∧ (∀ k, k < N → 0 ≤ T k → Y3 k = U k)) ∧ va_P D vwCl (mdw cI u c1 c2 c3 c4 e0 n w F V O3 Y3 d7 d8 d9 d10) H1) (va_A (mdw cI u c1 c2 c3 c4 e0 n w F V O Y e7 e8 e9 e10) sz)) 0 0 (va_A (mdw cI u c1 c2 c3 c4 e0 n w F V O Y e7 e8 e9 e10) sz) := by
  obtain ⟨hn3, hn, hw2, hF, hV, hO⟩ := id S
  refine bd_m (Qc := (fun A => qm_i (fun rr H1 => rr = LW n f g N w1 ∧ ∃ (O3 Y3 : Nat → Int32) (d7 d8 d9 d10 : Int32), (∀ k, N ≤ k → O3 k = O k) ∧ (∀ (T U : Nat → Int32) (z : Nat), HG n f g N w1 = some (T, U, z) → (∀ k, k < N → O3 k = T k) ∧ (∀ k, k < N → 0 ≤ T k → Y3 k = U k)) ∧ va_P D vwCl (mdw cI u c1 c2 c3 c4 e0 n w F V O3 Y3 d7 d8 d9 d10) H1) A)) (cc := cX2_anew) (maxL := 5) (ret := (some .int)) (by decide) rfl (Nat.le_of_ble_eq_true rfl) ?_
  intro p e s m args below meth c ls A CF hr hlocks hK hP hD hA hS hl hin
  obtain ⟨hx, hb, hml, hown, hts⟩ := id CF
  have hl : lv_has ls 5 [(0, .ref u), (1, .int (nI N)), (2, .int (nI w1))] := hl
  have hP : va_P D vwCl [(u, .inr (2, [.int e0, .int (nI n), .int (nI w), .ref c1, .ref c2, .ref c3, .ref c4, .int e7, .int e8, .int e9, .int e10])), (c1, .inl (cI, 40, .inl F)), (c2, .inl (cI, 40, .inl V)), (c3, .inl (cI, 40, .inl O)), (c4, .inl (cI, 40, .inl Y))] s.heap := hP
  have hD : va_D A [(u, .inr (2, [.int e0, .int (nI n), .int (nI w), .ref c1, .ref c2, .ref c3, .ref c4, .int e7, .int e8, .int e9, .int e10])), (c1, .inl (cI, 40, .inl F)), (c2, .inl (cI, 40, .inl V)), (c3, .inl (cI, 40, .inl O)), (c4, .inl (cI, 40, .inl Y))] := hD
  generalize hH0 : s.heap = H at hP
  have hS : va_S A s.heap H [] := by rw [← hH0]; exact va_S.rf
  generalize hlc0 : ([] : List Loc) = locs at hS ⊢
  refine lv_aload_n hx hb dX2_anew_0 rfl (lv_at hl 0 rfl) ?_
  refine va_get (D := D) (ci := 2) (v := .ref c3) (C := RX2) (T := TX2) (N := 11) hx hb hts (fun _ h => (List.mem_cons_of_mem _ (List.mem_append_right _ h))) hown hK hP 0 rfl rfl 5 (by decide) (hts _ (List.mem_of_getElem? (i := 1) rfl)) (fun _ h9 => h9) rfl dX2_anew_1 ?_
  refine lv_iload_n hx hb dX2_anew_4 rfl (lv_at hl 1 rfl) ?_
  have hPc : va_P D vwCl [(c3, .inl (cI, 40, .inl O))] H := hP.sub [3] rfl
  have hDc : va_D A [(c3, .inl (cI, 40, .inl O))] := hD.sub [3] (by decide) rfl
  have hFc := va_free (wc := [(c3, .inl (cI, 40, .inl O))]) hD hS hA [3] rfl
  refine pq_v (va_runS (rest := []) CF (m_X2_clear l D cI c3 N hN40 O H.size) (va_cwS 2 hts gX2_anew_X2_clear rfl rfl rfl k_X2_clear.2 ⟨Nat.le_of_ble_eq_true rfl, Nat.le_of_ble_eq_true rfl⟩) (ms_pre hK hPc hDc) rfl rfl hl.1 rfl (lv_room (Nat.le_of_ble_eq_true rfl)) dX2_anew_5 ⟨Nat.le_of_ble_eq_true rfl, Nat.le_of_ble_eq_true rfl⟩) hS hFc (fun H locs hB hk1 hS => ?_)
  obtain ⟨O3, hO3, hO3b, hP1⟩ := hB
  obtain ⟨hP, hD⟩ := jn (wb := [(u, .inr (2, [.int e0, .int (nI n), .int (nI w), .ref c1, .ref c2, .ref c3, .ref c4, .int e7, .int e8, .int e9, .int e10])), (c1, .inl (cI, 40, .inl F)), (c2, .inl (cI, 40, .inl V)), (c3, .inl (cI, 40, .inl O3)), (c4, .inl (cI, 40, .inl Y))]) (w1 := [(c3, .inl (cI, 40, .inl O3))]) hP hD [3] [0, 1, 2, 4] rfl rfl rfl rfl 5 rfl (by decide) (by decide) hk1 hP1
  refine lv_iconst (v := nI 0) hx hb dX2_anew_8 (by decide) ?_
  refine lv_istore_n (lv' := [(3, .int (nI 0)), (0, .ref u), (1, .int (nI N)), (2, .int (nI w1))]) hx hb dX2_anew_9 rfl hl (by decide) rfl (fun ls hl => ?_)
  refine lv_iconst (v := nI 0) hx hb dX2_anew_10 (by decide) ?_
  refine lv_istore (lv' := [(4, .int (nI 0)), (3, .int (nI 0)), (0, .ref u), (1, .int (nI N)), (2, .int (nI w1))]) hx hb dX2_anew_11 hl (by decide) rfl (fun ls hl => ?_)
  have LP13 : ∀ (q i z : Nat) (O4 Y4 T U : Nat → Int32) (d7 d8 d9 d10 : Int32), i + q = n → (∀ k, k < N → O4 k = T k) → (∀ k, k < N → 0 ≤ T k → Y4 k = U k) → (∀ k, N ≤ k → O4 k = O k) → hg N w1 f g q i T U z = HG n f g N w1 → ∀ (H : Heap) (locs : List Loc), va_P D vwCl [(u, .inr (2, [.int e0, .int (nI n), .int (nI w), .ref c1, .ref c2, .ref c3, .ref c4, .int d7, .int d8, .int d9, .int d10])), (c1, .inl (cI, 40, .inl F)), (c2, .inl (cI, 40, .inl V)), (c3, .inl (cI, 40, .inl O4)), (c4, .inl (cI, 40, .inl Y4))] H → va_D A [(u, .inr (2, [.int e0, .int (nI n), .int (nI w), .ref c1, .ref c2, .ref c3, .ref c4, .int d7, .int d8, .int d9, .int d10])), (c1, .inl (cI, 40, .inl F)), (c2, .inl (cI, 40, .inl V)), (c3, .inl (cI, 40, .inl O4)), (c4, .inl (cI, 40, .inl Y4))] → va_S A s.heap H locs → ∀ (ls : Array Slot), lv_has ls 5 [(4, .int (nI i)), (3, .int (nI z)), (0, .ref u), (1, .int (nI N)), (2, .int (nI w1))] → W p l e ({ frames := 1, cells := 0, slots := 0, locals := 26 } : Room) s m args below meth c H locs 0 0 (MQ below (qm_i (fun rr H1 => rr = LW n f g N w1 ∧ ∃ (O3 Y3 : Nat → Int32) (d7 d8 d9 d10 : Int32), (∀ k, N ≤ k → O3 k = O k) ∧ (∀ (T U : Nat → Int32) (z : Nat), HG n f g N w1 = some (T, U, z) → (∀ k, k < N → O3 k = T k) ∧ (∀ k, k < N → 0 ≤ T k → Y3 k = U k)) ∧ va_P D vwCl (mdw cI u c1 c2 c3 c4 e0 n w F V O3 Y3 d7 d8 d9 d10) H1) A) args s 0 0 A) (F0 m 13 ls []) := by
    intro q
    induction q with
    | zero =>
      intro i z O4 Y4 T U d7 d8 d9 d10 h1 hT hY hR h2 H locs hP hD hS ls hl
      refine lv_iload hx hb dX2_anew_13 (lv_at hl 0 rfl) ?_
      refine lv_aload_n hx hb dX2_anew_15 rfl (lv_at hl 2 rfl) ?_
      refine va_get (D := D) (ci := 2) (v := .int (nI n)) (C := RX2) (T := TX2) (N := 11) hx hb hts (fun _ h => (List.mem_cons_of_mem _ (List.mem_append_right _ h))) hown hK hP 0 rfl rfl 1 (by decide) (hts _ (List.mem_of_getElem? (i := 2) rfl)) (fun _ h9 => h9) rfl dX2_anew_16 ?_
      refine bn_ge (tgt := 107) hx hb dX2_anew_19 (by decide) (by omega) (by omega) (fun c19 => ?_) (fun c19 => ?_)
      · skip
        refine lv_iload_n hx hb dX2_anew_107 rfl (lv_at hl 1 rfl) ?_
        have hyes : HG n f g N w1 = some (T, U, z) := h2.symm
        exact em_i hx hb hr hlocks hS (⟨(LW_some hyes).symm, O4, Y4, _, _, _, _, hR, (fun T2 U2 z2 h => by have e := hyes.symm.trans h; injection e with e; injection e with e1 e2; injection e2 with e2 e3; subst e1 e2; exact ⟨hT, hY⟩), hP⟩) dX2_anew_108
      · skip
        omega
    | succ q ih =>
      intro i z O4 Y4 T U d7 d8 d9 d10 h1 hT hY hR h2 H locs hP hD hS ls hl
      refine lv_iload hx hb dX2_anew_13 (lv_at hl 0 rfl) ?_
      refine lv_aload_n hx hb dX2_anew_15 rfl (lv_at hl 2 rfl) ?_
      refine va_get (D := D) (ci := 2) (v := .int (nI n)) (C := RX2) (T := TX2) (N := 11) hx hb hts (fun _ h => (List.mem_cons_of_mem _ (List.mem_append_right _ h))) hown hK hP 0 rfl rfl 1 (by decide) (hts _ (List.mem_of_getElem? (i := 2) rfl)) (fun _ h9 => h9) rfl dX2_anew_16 ?_
      refine bn_ge (tgt := 107) hx hb dX2_anew_19 (by decide) (by omega) (by omega) (fun c19 => ?_) (fun c19 => ?_)
      · skip
        omega
      · skip
        refine lv_aload_n hx hb dX2_anew_22 rfl (lv_at hl 2 rfl) ?_
        refine va_get (D := D) (ci := 2) (v := .ref c1) (C := RX2) (T := TX2) (N := 11) hx hb hts (fun _ h => (List.mem_cons_of_mem _ (List.mem_append_right _ h))) hown hK hP 0 rfl rfl 3 (by decide) (hts _ (List.mem_of_getElem? (i := 3) rfl)) (fun _ h9 => h9) rfl dX2_anew_23 ?_
        refine lv_iload hx hb dX2_anew_26 (lv_at hl 0 rfl) ?_
        refine al_i hx hb hK hP 1 0 rfl rfl (by omega) (by omega) dX2_anew_28 ?_
        refine tp_i (y := (f i)) (hF i (by omega)) ?_
        refine lv_if_ge (tgt := 35) hx hb dX2_anew_29 (by decide) (fun c29 => ?_) (fun c29 => ?_)
        · skip
          refine lv_aload_n hx hb dX2_anew_35 rfl (lv_at hl 2 rfl) ?_
          refine lv_aload_n hx hb dX2_anew_36 rfl (lv_at hl 2 rfl) ?_
          refine va_get (D := D) (ci := 2) (v := .ref c3) (C := RX2) (T := TX2) (N := 11) hx hb hts (fun _ h => (List.mem_cons_of_mem _ (List.mem_append_right _ h))) hown hK hP 0 rfl rfl 5 (by decide) (hts _ (List.mem_of_getElem? (i := 1) rfl)) (fun _ h9 => h9) rfl dX2_anew_37 ?_
          refine lv_iload_n hx hb dX2_anew_40 rfl (lv_at hl 3 rfl) ?_
          refine lv_iload_n hx hb dX2_anew_41 rfl (lv_at hl 4 rfl) ?_
          refine lv_aload_n hx hb dX2_anew_42 rfl (lv_at hl 2 rfl) ?_
          refine va_get (D := D) (ci := 2) (v := .ref c1) (C := RX2) (T := TX2) (N := 11) hx hb hts (fun _ h => (List.mem_cons_of_mem _ (List.mem_append_right _ h))) hown hK hP 0 rfl rfl 3 (by decide) (hts _ (List.mem_of_getElem? (i := 3) rfl)) (fun _ h9 => h9) rfl dX2_anew_43 ?_
          refine lv_iload hx hb dX2_anew_46 (lv_at hl 0 rfl) ?_
          refine al_i hx hb hK hP 1 0 rfl rfl (by omega) (by omega) dX2_anew_48 ?_
          refine tp_i (y := (f i)) (hF i (by omega)) ?_
          obtain ⟨x, hx9, ex, ez⟩ := hO.num (k := i) (by omega) (c29)
          refine tp_i (y := nI x) ex ?_
          have hPc : va_P D vwCl [(u, .inr (2, [.int e0, .int (nI n), .int (nI w), .ref c1, .ref c2, .ref c3, .ref c4, .int d7, .int d8, .int d9, .int d10])), (c3, .inl (cI, 40, .inl O4))] H := hP.sub [0, 3] rfl
          have hDc : va_D A [(u, .inr (2, [.int e0, .int (nI n), .int (nI w), .ref c1, .ref c2, .ref c3, .ref c4, .int d7, .int d8, .int d9, .int d10])), (c3, .inl (cI, 40, .inl O4))] := hD.sub [0, 3] (by decide) rfl
          have hFc := va_free (wc := [(u, .inr (2, [.int e0, .int (nI n), .int (nI w), .ref c1, .ref c2, .ref c3, .ref c4, .int d7, .int d8, .int d9, .int d10])), (c3, .inl (cI, 40, .inl O4))]) hD hS hA [0, 3] rfl
          refine pq_v (va_runV (rest := []) CF (m_X2_look l D cI u c3 c1 c2 c3 c4 N w1 x hN3 hN40 hw1 hx9 hT e0 (nI n) (nI w) d7 d8 d9 d10 H.size) (cwV 4 hts gX2_anew_X2_look rfl rfl rfl k_X2_look ⟨Nat.le_of_ble_eq_true rfl, Nat.le_of_ble_eq_true rfl⟩) (mv_pre hK hPc hDc rfl rfl rfl) rfl rfl hl.1 rfl (lv_room (Nat.le_of_ble_eq_true rfl)) dX2_anew_49 ⟨Nat.le_of_ble_eq_true rfl, Nat.le_of_ble_eq_true rfl⟩) hS hFc (fun H locs hB hk1 hS => ?_)
          obtain ⟨_, _, _, _, rfl, rfl, rfl, rfl, hP1⟩ := hB
          obtain ⟨hP, hD⟩ := jn (wb := [(u, .inr (2, [.int e0, .int (nI n), .int (nI w), .ref c1, .ref c2, .ref c3, .ref c4, .int (nI (lk N w1 T x)), .int (fd N w1 T x), .int (fr N w1 T x), .int (tk N w1 T x (lk N w1 T x))])), (c1, .inl (cI, 40, .inl F)), (c2, .inl (cI, 40, .inl V)), (c3, .inl (cI, 40, .inl O4)), (c4, .inl (cI, 40, .inl Y4))]) (w1 := [(u, .inr (2, [.int e0, .int (nI n), .int (nI w), .ref c1, .ref c2, .ref c3, .ref c4, .int (nI (lk N w1 T x)), .int (fd N w1 T x), .int (fr N w1 T x), .int (tk N w1 T x (lk N w1 T x))])), (c3, .inl (cI, 40, .inl O4))]) hP hD [0, 3] [1, 2, 4] rfl rfl rfl rfl 5 rfl (by decide) (by decide) hk1 hP1
          refine lv_aload_n hx hb dX2_anew_52 rfl (lv_at hl 2 rfl) ?_
          refine va_get (D := D) (ci := 2) (v := .int (fr N w1 T x)) (C := RX2) (T := TX2) (N := 11) hx hb hts (fun _ h => (List.mem_cons_of_mem _ (List.mem_append_right _ h))) hown hK hP 0 rfl rfl 9 (by decide) (hts _ (List.mem_of_getElem? (i := 4) rfl)) (fun _ h9 => h9) rfl dX2_anew_53 ?_
          refine lv_iconst (v := (-1)) hx hb dX2_anew_56 (by decide) ?_
          refine lv_icmp_ne (tgt := 62) hx hb dX2_anew_57 (by decide) (fun c57 => ?_) (fun c57 => ?_)
          · skip
            obtain ⟨hfr, eop⟩ := fr_cases c57
            rw [eop] at hP hD
            have hla := la_lt (show 0 < N by omega) w1 T x
            refine lv_aload_n hx hb dX2_anew_62 rfl (lv_at hl 2 rfl) ?_
            refine va_get (D := D) (ci := 2) (v := .ref c3) (C := RX2) (T := TX2) (N := 11) hx hb hts (fun _ h => (List.mem_cons_of_mem _ (List.mem_append_right _ h))) hown hK hP 0 rfl rfl 5 (by decide) (hts _ (List.mem_of_getElem? (i := 1) rfl)) (fun _ h9 => h9) rfl dX2_anew_63 ?_
            refine lv_aload_n hx hb dX2_anew_66 rfl (lv_at hl 2 rfl) ?_
            refine va_get (D := D) (ci := 2) (v := .int (nI (la N w1 T x))) (C := RX2) (T := TX2) (N := 11) hx hb hts (fun _ h => (List.mem_cons_of_mem _ (List.mem_append_right _ h))) hown hK hP 0 rfl rfl 9 (by decide) (hts _ (List.mem_of_getElem? (i := 4) rfl)) (fun _ h9 => h9) rfl dX2_anew_67 ?_
            refine lv_aload_n hx hb dX2_anew_70 rfl (lv_at hl 2 rfl) ?_
            refine va_get (D := D) (ci := 2) (v := .ref c1) (C := RX2) (T := TX2) (N := 11) hx hb hts (fun _ h => (List.mem_cons_of_mem _ (List.mem_append_right _ h))) hown hK hP 0 rfl rfl 3 (by decide) (hts _ (List.mem_of_getElem? (i := 3) rfl)) (fun _ h9 => h9) rfl dX2_anew_71 ?_
            refine lv_iload hx hb dX2_anew_74 (lv_at hl 0 rfl) ?_
            refine al_i hx hb hK hP 1 0 rfl rfl (by omega) (by omega) dX2_anew_76 ?_
            refine tp_i (y := (nI x)) ((hF i (by omega)).trans ex) ?_
            refine as_i hx hb hK hP hD hS 3 0 rfl rfl (k := (la N w1 T x)) (by omega) (by omega) dX2_anew_77 (fun H locs hP hD hS => ?_)
            have hP : va_P D vwCl [(u, .inr (2, [.int e0, .int (nI n), .int (nI w), .ref c1, .ref c2, .ref c3, .ref c4, .int (nI (lk N w1 T x)), .int (fd N w1 T x), .int (nI (la N w1 T x)), .int (tk N w1 T x (lk N w1 T x))])), (c1, .inl (cI, 40, .inl F)), (c2, .inl (cI, 40, .inl V)), (c3, .inl (cI, 40, .inl (upd O4 (la N w1 T x) (nI x)))), (c4, .inl (cI, 40, .inl Y4))] H := hP
            have hD : va_D A [(u, .inr (2, [.int e0, .int (nI n), .int (nI w), .ref c1, .ref c2, .ref c3, .ref c4, .int (nI (lk N w1 T x)), .int (fd N w1 T x), .int (nI (la N w1 T x)), .int (tk N w1 T x (lk N w1 T x))])), (c1, .inl (cI, 40, .inl F)), (c2, .inl (cI, 40, .inl V)), (c3, .inl (cI, 40, .inl (upd O4 (la N w1 T x) (nI x)))), (c4, .inl (cI, 40, .inl Y4))] := hD
            refine lv_aload_n hx hb dX2_anew_78 rfl (lv_at hl 2 rfl) ?_
            refine va_get (D := D) (ci := 2) (v := .ref c4) (C := RX2) (T := TX2) (N := 11) hx hb hts (fun _ h => (List.mem_cons_of_mem _ (List.mem_append_right _ h))) hown hK hP 0 rfl rfl 6 (by decide) (hts _ (List.mem_of_getElem? (i := 5) rfl)) (fun _ h9 => h9) rfl dX2_anew_79 ?_
            refine lv_aload_n hx hb dX2_anew_82 rfl (lv_at hl 2 rfl) ?_
            refine va_get (D := D) (ci := 2) (v := .int (nI (la N w1 T x))) (C := RX2) (T := TX2) (N := 11) hx hb hts (fun _ h => (List.mem_cons_of_mem _ (List.mem_append_right _ h))) hown hK hP 0 rfl rfl 9 (by decide) (hts _ (List.mem_of_getElem? (i := 4) rfl)) (fun _ h9 => h9) rfl dX2_anew_83 ?_
            refine lv_aload_n hx hb dX2_anew_86 rfl (lv_at hl 2 rfl) ?_
            refine va_get (D := D) (ci := 2) (v := .ref c2) (C := RX2) (T := TX2) (N := 11) hx hb hts (fun _ h => (List.mem_cons_of_mem _ (List.mem_append_right _ h))) hown hK hP 0 rfl rfl 4 (by decide) (hts _ (List.mem_of_getElem? (i := 6) rfl)) (fun _ h9 => h9) rfl dX2_anew_87 ?_
            refine lv_iload hx hb dX2_anew_90 (lv_at hl 0 rfl) ?_
            refine al_i hx hb hK hP 2 0 rfl rfl (by omega) (by omega) dX2_anew_92 ?_
            refine tp_i (y := (g i)) (hV i (by omega) c29) ?_
            refine as_i hx hb hK hP hD hS 4 0 rfl rfl (k := (la N w1 T x)) (by omega) (by omega) dX2_anew_93 (fun H locs hP hD hS => ?_)
            have hP : va_P D vwCl [(u, .inr (2, [.int e0, .int (nI n), .int (nI w), .ref c1, .ref c2, .ref c3, .ref c4, .int (nI (lk N w1 T x)), .int (fd N w1 T x), .int (nI (la N w1 T x)), .int (tk N w1 T x (lk N w1 T x))])), (c1, .inl (cI, 40, .inl F)), (c2, .inl (cI, 40, .inl V)), (c3, .inl (cI, 40, .inl (upd O4 (la N w1 T x) (nI x)))), (c4, .inl (cI, 40, .inl (upd Y4 (la N w1 T x) (g i))))] H := hP
            have hD : va_D A [(u, .inr (2, [.int e0, .int (nI n), .int (nI w), .ref c1, .ref c2, .ref c3, .ref c4, .int (nI (lk N w1 T x)), .int (fd N w1 T x), .int (nI (la N w1 T x)), .int (tk N w1 T x (lk N w1 T x))])), (c1, .inl (cI, 40, .inl F)), (c2, .inl (cI, 40, .inl V)), (c3, .inl (cI, 40, .inl (upd O4 (la N w1 T x) (nI x)))), (c4, .inl (cI, 40, .inl (upd Y4 (la N w1 T x) (g i))))] := hD
            refine lv_iload_n hx hb dX2_anew_94 rfl (lv_at hl 1 rfl) ?_
            refine lv_aload_n hx hb dX2_anew_95 rfl (lv_at hl 2 rfl) ?_
            refine va_get (D := D) (ci := 2) (v := .int (nI (lk N w1 T x))) (C := RX2) (T := TX2) (N := 11) hx hb hts (fun _ h => (List.mem_cons_of_mem _ (List.mem_append_right _ h))) hown hK hP 0 rfl rfl 7 (by decide) (hts _ (List.mem_of_getElem? (i := 7) rfl)) (fun _ h9 => h9) rfl dX2_anew_96 ?_
            refine an_add hx hb dX2_anew_99 ?_
            refine lv_istore_n (lv' := [(3, .int (nI (z + (lk N w1 T x)))), (4, .int (nI i)), (0, .ref u), (1, .int (nI N)), (2, .int (nI w1))]) hx hb dX2_anew_100 rfl hl (by decide) rfl (fun ls hl => ?_)
            refine lv_iinc (v := (nI (i + 1))) (lv' := [(4, .int (nI (i + 1))), (3, .int (nI (z + (lk N w1 T x)))), (0, .ref u), (1, .int (nI N)), (2, .int (nI w1))]) hx hb dX2_anew_101 hl (k := 1) rfl (inc1 _) (by decide) rfl (fun ls hl => ?_)
            refine lv_goto (tgt := 13) hx hb dX2_anew_104 (by decide) ?_
            exact ih (i + 1) (z + lk N w1 T x) (upd O4 (la N w1 T x) (nI x)) (upd Y4 (la N w1 T x) (g i)) (upd T (la N w1 T x) (nI x)) (upd U (la N w1 T x) (g i)) _ _ _ _ (by omega) (ag_up hT) (an_Y hY) (an_R hla hR) (hg_y c29 ex ez hfr h2) _ _ hP hD hS _ (lv_sub hl [0, 1, 2, 3, 4] rfl)
          · skip
            refine lv_iconst (v := (-1)) hx hb dX2_anew_60 (by decide) ?_
            have hno := hg_no c29 ez (fr_full (by omega) hN40 c57) h2
            exact em_i hx hb hr hlocks hS (⟨(LW_none hno).symm, O4, Y4, _, _, _, _, hR, (fun T2 U2 z2 h => absurd (hno.symm.trans h) (by intro h; cases h)), hP⟩) dX2_anew_61
        · skip
          refine lv_goto (tgt := 101) hx hb dX2_anew_32 (by decide) ?_
          refine lv_iinc (v := (nI (i + 1))) (lv' := [(4, .int (nI (i + 1))), (3, .int (nI z)), (0, .ref u), (1, .int (nI N)), (2, .int (nI w1))]) hx hb dX2_anew_101 hl (k := 0) rfl (inc1 _) (by decide) rfl (fun ls hl => ?_)
          refine lv_goto (tgt := 13) hx hb dX2_anew_104 (by decide) ?_
          exact ih (i + 1) z O4 Y4 T U _ _ _ _ (by omega) hT hY hR (hg_n c29 h2) _ _ hP hD hS _ (lv_sub hl [0, 1, 2, 3, 4] rfl)
  exact LP13 n 0 0 O3 Y (fun _ => -1) (fun _ => nI 0) e7 e8 e9 e10 (Nat.zero_add n) hO3 (fun k _ h0 => absurd h0 (show ¬ (0 : Int32) ≤ -1 by decide)) hO3b rfl _ _ hP hD hS _ (lv_sub hl [0, 1, 2, 3, 4] rfl)
theorem k_X2_best : yX2_best.cls = RX2 ∧ yX2_best.cls ≠ "java/lang/invoke/MethodHandle" ∧ yX2_best.cls ≠ "java/lang/invoke/VarHandle" ∧ (parseMethodDescriptor yX2_best.desc).map (fun d => d.parameters.length) = some 0 := by decide +kernel
set_option maxHeartbeats 4000000 in
set_option maxRecDepth 100000 in
theorem m_X2_best (l : Launch) (D : va_G) (cI : ClassId) (u c1 c2 c3 c4 : Nat) {n w : Nat} {F V f g : Nat → Int32} (S : MS n w F V f g) (O Y : Nat → Int32) (e0 e7 e8 e9 e10 : Int32) (sz : Nat) : Met l yX2_best wsX2_best ({ frames := 2, cells := 0, slots := 0, locals := 50 } : Room) (PM D [(cI, .int)] [.ref u] sz (mdw cI u c1 c2 c3 c4 e0 n w F V O Y e7 e8 e9 e10)) (qm_i (fun rr H1 => rr = (bst n f g).1 ∧ ∃ (O3 Y3 : Nat → Int32) (d7 d8 d9 d10 : Int32), va_P D vwCl (mdw cI u c1 c2 c3 c4 e0 n w F V O3 Y3 d7 d8 d9 d10) H1) (va_A (mdw cI u c1 c2 c3 c4 e0 n w F V O Y e7 e8 e9 e10) sz)) 0 0 (va_A (mdw cI u c1 c2 c3 c4 e0 n w F V O Y e7 e8 e9 e10) sz) := by
  obtain ⟨hn3, hn, hw2, hF, hV, hO⟩ := id S
  refine bd_m (Qc := (fun A => qm_i (fun rr H1 => rr = (bst n f g).1 ∧ ∃ (O3 Y3 : Nat → Int32) (d7 d8 d9 d10 : Int32), va_P D vwCl (mdw cI u c1 c2 c3 c4 e0 n w F V O3 Y3 d7 d8 d9 d10) H1) A)) (cc := cX2_best) (maxL := 5) (ret := (some .int)) (by decide) rfl (Nat.le_of_ble_eq_true rfl) ?_
  intro p e s m args below meth c ls A CF hr hlocks hK hP hD hA hS hl hin
  obtain ⟨hx, hb, hml, hown, hts⟩ := id CF
  have hl : lv_has ls 5 [(0, .ref u)] := hl
  have hP : va_P D vwCl [(u, .inr (2, [.int e0, .int (nI n), .int (nI w), .ref c1, .ref c2, .ref c3, .ref c4, .int e7, .int e8, .int e9, .int e10])), (c1, .inl (cI, 40, .inl F)), (c2, .inl (cI, 40, .inl V)), (c3, .inl (cI, 40, .inl O)), (c4, .inl (cI, 40, .inl Y))] s.heap := hP
  have hD : va_D A [(u, .inr (2, [.int e0, .int (nI n), .int (nI w), .ref c1, .ref c2, .ref c3, .ref c4, .int e7, .int e8, .int e9, .int e10])), (c1, .inl (cI, 40, .inl F)), (c2, .inl (cI, 40, .inl V)), (c3, .inl (cI, 40, .inl O)), (c4, .inl (cI, 40, .inl Y))] := hD
  generalize hH0 : s.heap = H at hP
  have hS : va_S A s.heap H [] := by rw [← hH0]; exact va_S.rf
  generalize hlc0 : ([] : List Loc) = locs at hS ⊢
  refine lv_iconst (v := (-1)) hx hb dX2_best_0 (by decide) ?_
  refine lv_istore_n (lv' := [(1, .int (-1)), (0, .ref u)]) hx hb dX2_best_1 rfl hl (by decide) rfl (fun ls hl => ?_)
  refine lv_iconst (v := nI 0) hx hb dX2_best_2 (by decide) ?_
  refine lv_istore_n (lv' := [(2, .int (nI 0)), (1, .int (-1)), (0, .ref u)]) hx hb dX2_best_3 rfl hl (by decide) rfl (fun ls hl => ?_)
  refine lv_iconst (v := nI 0) hx hb dX2_best_4 (by decide) ?_
  refine lv_istore_n (lv' := [(3, .int (nI 0)), (2, .int (nI 0)), (1, .int (-1)), (0, .ref u)]) hx hb dX2_best_5 rfl hl (by decide) rfl (fun ls hl => ?_)
  have LP6 : ∀ (q i : Nat) (a b : Int32) (O4 Y4 : Nat → Int32) (d7 d8 d9 d10 : Int32), i + q = 3 → fo (fun (a : Int32 × Int32) i => if 0 ≤ LW n f g n i ∧ (a.1 = -1 ∨ LW n f g n i < a.2) then (nI i, LW n f g n i) else a) q i (a, b) = bst n f g → ∀ (H : Heap) (locs : List Loc), va_P D vwCl [(u, .inr (2, [.int e0, .int (nI n), .int (nI w), .ref c1, .ref c2, .ref c3, .ref c4, .int d7, .int d8, .int d9, .int d10])), (c1, .inl (cI, 40, .inl F)), (c2, .inl (cI, 40, .inl V)), (c3, .inl (cI, 40, .inl O4)), (c4, .inl (cI, 40, .inl Y4))] H → va_D A [(u, .inr (2, [.int e0, .int (nI n), .int (nI w), .ref c1, .ref c2, .ref c3, .ref c4, .int d7, .int d8, .int d9, .int d10])), (c1, .inl (cI, 40, .inl F)), (c2, .inl (cI, 40, .inl V)), (c3, .inl (cI, 40, .inl O4)), (c4, .inl (cI, 40, .inl Y4))] → va_S A s.heap H locs → ∀ (ls : Array Slot), lv_has ls 5 [(3, .int (nI i)), (2, .int b), (1, .int a), (0, .ref u)] → W p l e ({ frames := 2, cells := 0, slots := 0, locals := 50 } : Room) s m args below meth c H locs 0 0 (MQ below (qm_i (fun rr H1 => rr = (bst n f g).1 ∧ ∃ (O3 Y3 : Nat → Int32) (d7 d8 d9 d10 : Int32), va_P D vwCl (mdw cI u c1 c2 c3 c4 e0 n w F V O3 Y3 d7 d8 d9 d10) H1) A) args s 0 0 A) (F0 m 6 ls []) := by
    intro q
    induction q with
    | zero =>
      intro i a b O4 Y4 d7 d8 d9 d10 h1 h2 H locs hP hD hS ls hl
      refine lv_iload_n hx hb dX2_best_6 rfl (lv_at hl 0 rfl) ?_
      refine lv_iconst (v := nI 3) hx hb dX2_best_7 (by decide) ?_
      refine bn_ge (tgt := 53) hx hb dX2_best_8 (by decide) (by omega) (by omega) (fun c8 => ?_) (fun c8 => ?_)
      · skip
        refine lv_iload_n hx hb dX2_best_53 rfl (lv_at hl 2 rfl) ?_
        exact em_i hx hb hr hlocks hS (⟨(congrArg Prod.fst h2 : _), _, _, _, _, _, _, hP⟩) dX2_best_54
      · skip
        omega
    | succ q ih =>
      intro i a b O4 Y4 d7 d8 d9 d10 h1 h2 H locs hP hD hS ls hl
      refine lv_iload_n hx hb dX2_best_6 rfl (lv_at hl 0 rfl) ?_
      refine lv_iconst (v := nI 3) hx hb dX2_best_7 (by decide) ?_
      refine bn_ge (tgt := 53) hx hb dX2_best_8 (by decide) (by omega) (by omega) (fun c8 => ?_) (fun c8 => ?_)
      · skip
        omega
      · skip
        refine lv_aload_n hx hb dX2_best_11 rfl (lv_at hl 3 rfl) ?_
        refine lv_aload_n hx hb dX2_best_12 rfl (lv_at hl 3 rfl) ?_
        refine va_get (D := D) (ci := 2) (v := .int (nI n)) (C := RX2) (T := TX2) (N := 11) hx hb hts (fun _ h => (List.mem_cons_of_mem _ (List.mem_append_right _ h))) hown hK hP 0 rfl rfl 1 (by decide) (hts _ (List.mem_of_getElem? (i := 1) rfl)) (fun _ h9 => h9) rfl dX2_best_13 ?_
        refine lv_iload_n hx hb dX2_best_16 rfl (lv_at hl 0 rfl) ?_
        have hPc : va_P D vwCl [(u, .inr (2, [.int e0, .int (nI n), .int (nI w), .ref c1, .ref c2, .ref c3, .ref c4, .int d7, .int d8, .int d9, .int d10])), (c1, .inl (cI, 40, .inl F)), (c2, .inl (cI, 40, .inl V)), (c3, .inl (cI, 40, .inl O4)), (c4, .inl (cI, 40, .inl Y4))] H := hP.sub [0, 1, 2, 3, 4] rfl
        have hDc : va_D A [(u, .inr (2, [.int e0, .int (nI n), .int (nI w), .ref c1, .ref c2, .ref c3, .ref c4, .int d7, .int d8, .int d9, .int d10])), (c1, .inl (cI, 40, .inl F)), (c2, .inl (cI, 40, .inl V)), (c3, .inl (cI, 40, .inl O4)), (c4, .inl (cI, 40, .inl Y4))] := hD.sub [0, 1, 2, 3, 4] (by decide) rfl
        have hFc := va_free (wc := [(u, .inr (2, [.int e0, .int (nI n), .int (nI w), .ref c1, .ref c2, .ref c3, .ref c4, .int d7, .int d8, .int d9, .int d10])), (c1, .inl (cI, 40, .inl F)), (c2, .inl (cI, 40, .inl V)), (c3, .inl (cI, 40, .inl O4)), (c4, .inl (cI, 40, .inl Y4))]) hD hS hA [0, 1, 2, 3, 4] rfl
        refine pq_i (va_runV (rest := []) CF (m_X2_anew l D cI u c1 c2 c3 c4 S O4 Y4 e0 d7 d8 d9 d10 n i hn3 hn (by omega) H.size) (cwV 2 hts gX2_best_X2_anew rfl rfl rfl k_X2_anew ⟨Nat.le_of_ble_eq_true rfl, Nat.le_of_ble_eq_true rfl⟩) (mv_pre hK hPc hDc rfl rfl rfl) rfl rfl hl.1 rfl (lv_room (Nat.le_of_ble_eq_true rfl)) dX2_best_17 ⟨Nat.le_of_ble_eq_true rfl, Nat.le_of_ble_eq_true rfl⟩) hS hFc (fun r1 H locs hB hk1 hS => ?_)
        obtain ⟨rfl, O5, Y5, d11, d12, d13, d14, -, -, hP1⟩ := hB
        obtain ⟨hP, hD⟩ := jn (wb := [(u, .inr (2, [.int e0, .int (nI n), .int (nI w), .ref c1, .ref c2, .ref c3, .ref c4, .int d11, .int d12, .int d13, .int d14])), (c1, .inl (cI, 40, .inl F)), (c2, .inl (cI, 40, .inl V)), (c3, .inl (cI, 40, .inl O5)), (c4, .inl (cI, 40, .inl Y5))]) (w1 := [(u, .inr (2, [.int e0, .int (nI n), .int (nI w), .ref c1, .ref c2, .ref c3, .ref c4, .int d11, .int d12, .int d13, .int d14])), (c1, .inl (cI, 40, .inl F)), (c2, .inl (cI, 40, .inl V)), (c3, .inl (cI, 40, .inl O5)), (c4, .inl (cI, 40, .inl Y5))]) hP hD [0, 1, 2, 3, 4] [] rfl rfl rfl rfl 5 rfl (by decide) (by decide) hk1 hP1
        refine lv_istore (lv' := [(4, .int (LW n f g n i)), (3, .int (nI i)), (2, .int b), (1, .int a), (0, .ref u)]) hx hb dX2_best_20 hl (by decide) rfl (fun ls hl => ?_)
        refine lv_iload hx hb dX2_best_22 (lv_at hl 0 rfl) ?_
        refine lv_iconst (v := (-1)) hx hb dX2_best_24 (by decide) ?_
        refine lv_icmp_eq (tgt := 47) hx hb dX2_best_25 (by decide) (fun c25 => ?_) (fun c25 => ?_)
        · skip
          refine lv_iinc (v := (nI (i + 1))) (lv' := [(3, .int (nI (i + 1))), (4, .int (LW n f g n i)), (2, .int b), (1, .int a), (0, .ref u)]) hx hb dX2_best_47 hl (k := 1) rfl (inc1 _) (by decide) rfl (fun ls hl => ?_)
          refine lv_goto (tgt := 6) hx hb dX2_best_50 (by decide) ?_
          exact ih (i + 1) a b O5 Y5 d11 d12 d13 d14 (by omega) (by rw [fo_s, if_neg (fun z => LW_no c25 z.1)] at h2; exact h2) _ _ hP hD hS _ (lv_sub hl [0, 2, 3, 4] rfl)
        · skip
          obtain ⟨T, U, z, hHG, h0⟩ := LW_ok (w := i) (show 0 < n by omega) hn hO c25
          refine lv_iload_n hx hb dX2_best_28 rfl (lv_at hl 3 rfl) ?_
          refine lv_iconst (v := (-1)) hx hb dX2_best_29 (by decide) ?_
          refine lv_icmp_eq (tgt := 42) hx hb dX2_best_30 (by decide) (fun c30 => ?_) (fun c30 => ?_)
          · skip
            refine lv_iload_n hx hb dX2_best_42 rfl (lv_at hl 1 rfl) ?_
            refine lv_istore_n (lv' := [(1, .int (nI i)), (4, .int (LW n f g n i)), (3, .int (nI i)), (2, .int b), (0, .ref u)]) hx hb dX2_best_43 rfl hl (by decide) rfl (fun ls hl => ?_)
            refine lv_iload hx hb dX2_best_44 (lv_at hl 1 rfl) ?_
            refine lv_istore_n (lv' := [(2, .int (LW n f g n i)), (1, .int (nI i)), (4, .int (LW n f g n i)), (3, .int (nI i)), (0, .ref u)]) hx hb dX2_best_46 rfl hl (by decide) rfl (fun ls hl => ?_)
            refine lv_iinc (v := (nI (i + 1))) (lv' := [(3, .int (nI (i + 1))), (2, .int (LW n f g n i)), (1, .int (nI i)), (4, .int (LW n f g n i)), (0, .ref u)]) hx hb dX2_best_47 hl (k := 3) rfl (inc1 _) (by decide) rfl (fun ls hl => ?_)
            refine lv_goto (tgt := 6) hx hb dX2_best_50 (by decide) ?_
            exact ih (i + 1) (nI i) (LW n f g n i) O5 Y5 d11 d12 d13 d14 (by omega) (by rw [fo_s, if_pos ⟨h0, Or.inl c30⟩] at h2; exact h2) _ _ hP hD hS _ (lv_sub hl [0, 1, 2, 4] rfl)
          · skip
            refine lv_iload hx hb dX2_best_33 (lv_at hl 0 rfl) ?_
            refine lv_iload_n hx hb dX2_best_35 rfl (lv_at hl 2 rfl) ?_
            refine lv_icmp_lt (tgt := 42) hx hb dX2_best_36 (by decide) (fun c36 => ?_) (fun c36 => ?_)
            · skip
              refine lv_iload_n hx hb dX2_best_42 rfl (lv_at hl 1 rfl) ?_
              refine lv_istore_n (lv' := [(1, .int (nI i)), (4, .int (LW n f g n i)), (3, .int (nI i)), (2, .int b), (0, .ref u)]) hx hb dX2_best_43 rfl hl (by decide) rfl (fun ls hl => ?_)
              refine lv_iload hx hb dX2_best_44 (lv_at hl 1 rfl) ?_
              refine lv_istore_n (lv' := [(2, .int (LW n f g n i)), (1, .int (nI i)), (4, .int (LW n f g n i)), (3, .int (nI i)), (0, .ref u)]) hx hb dX2_best_46 rfl hl (by decide) rfl (fun ls hl => ?_)
              refine lv_iinc (v := (nI (i + 1))) (lv' := [(3, .int (nI (i + 1))), (2, .int (LW n f g n i)), (1, .int (nI i)), (4, .int (LW n f g n i)), (0, .ref u)]) hx hb dX2_best_47 hl (k := 3) rfl (inc1 _) (by decide) rfl (fun ls hl => ?_)
              refine lv_goto (tgt := 6) hx hb dX2_best_50 (by decide) ?_
              exact ih (i + 1) (nI i) (LW n f g n i) O5 Y5 d11 d12 d13 d14 (by omega) (by rw [fo_s, if_pos ⟨h0, Or.inr c36⟩] at h2; exact h2) _ _ hP hD hS _ (lv_sub hl [0, 1, 2, 4] rfl)
            · skip
              refine lv_goto (tgt := 47) hx hb dX2_best_39 (by decide) ?_
              refine lv_iinc (v := (nI (i + 1))) (lv' := [(3, .int (nI (i + 1))), (4, .int (LW n f g n i)), (2, .int b), (1, .int a), (0, .ref u)]) hx hb dX2_best_47 hl (k := 1) rfl (inc1 _) (by decide) rfl (fun ls hl => ?_)
              refine lv_goto (tgt := 6) hx hb dX2_best_50 (by decide) ?_
              exact ih (i + 1) a b O5 Y5 d11 d12 d13 d14 (by omega) (by rw [fo_s, if_neg (fun z => z.2.elim c30 c36)] at h2; exact h2) _ _ hP hD hS _ (lv_sub hl [0, 2, 3, 4] rfl)
  exact LP6 3 0 (-1) (nI 0) O Y e7 e8 e9 e10 (by omega) rfl _ _ hP hD hS _ (lv_sub hl [0, 1, 2, 3] rfl)
theorem k_X2_wanted : yX2_wanted.cls = RX2 ∧ yX2_wanted.cls ≠ "java/lang/invoke/MethodHandle" ∧ yX2_wanted.cls ≠ "java/lang/invoke/VarHandle" ∧ (parseMethodDescriptor yX2_wanted.desc).map (fun d => d.parameters.length) = some 1 := by decide +kernel
set_option maxHeartbeats 4000000 in
set_option maxRecDepth 100000 in
theorem m_X2_wanted (l : Launch) (D : va_G) (cI : ClassId) (u c1 c2 c3 c4 : Nat) {n w : Nat} {F V f g : Nat → Int32} (S : MS n w F V f g) (O Y : Nat → Int32) (e0 e7 e8 e9 e10 : Int32) (v : Nat) (hv : v ≤ 400) (sz : Nat) : Met l yX2_wanted wsX2_wanted ({ frames := 2, cells := 0, slots := 0, locals := 50 } : Room) (PM D [(cI, .int)] [.ref u, .int (nI v)] sz (mdw cI u c1 c2 c3 c4 e0 n w F V O Y e7 e8 e9 e10)) (qm_i (fun rr H1 => rr = fh n w f g v ∧ ∃ (O3 Y3 : Nat → Int32) (d7 d8 d9 d10 : Int32), va_P D vwCl (mdw cI u c1 c2 c3 c4 e0 n w F V O3 Y3 d7 d8 d9 d10) H1) (va_A (mdw cI u c1 c2 c3 c4 e0 n w F V O Y e7 e8 e9 e10) sz)) 0 0 (va_A (mdw cI u c1 c2 c3 c4 e0 n w F V O Y e7 e8 e9 e10) sz) := by
  obtain ⟨hn3, hn, hw2, hF, hV, hO⟩ := id S
  refine bd_m (Qc := (fun A => qm_i (fun rr H1 => rr = fh n w f g v ∧ ∃ (O3 Y3 : Nat → Int32) (d7 d8 d9 d10 : Int32), va_P D vwCl (mdw cI u c1 c2 c3 c4 e0 n w F V O3 Y3 d7 d8 d9 d10) H1) A)) (cc := cX2_wanted) (maxL := 3) (ret := (some .int)) (by decide) rfl (Nat.le_of_ble_eq_true rfl) ?_
  intro p e s m args below meth c ls A CF hr hlocks hK hP hD hA hS hl hin
  obtain ⟨hx, hb, hml, hown, hts⟩ := id CF
  have hl : lv_has ls 3 [(0, .ref u), (1, .int (nI v))] := hl
  have hP : va_P D vwCl [(u, .inr (2, [.int e0, .int (nI n), .int (nI w), .ref c1, .ref c2, .ref c3, .ref c4, .int e7, .int e8, .int e9, .int e10])), (c1, .inl (cI, 40, .inl F)), (c2, .inl (cI, 40, .inl V)), (c3, .inl (cI, 40, .inl O)), (c4, .inl (cI, 40, .inl Y))] s.heap := hP
  have hD : va_D A [(u, .inr (2, [.int e0, .int (nI n), .int (nI w), .ref c1, .ref c2, .ref c3, .ref c4, .int e7, .int e8, .int e9, .int e10])), (c1, .inl (cI, 40, .inl F)), (c2, .inl (cI, 40, .inl V)), (c3, .inl (cI, 40, .inl O)), (c4, .inl (cI, 40, .inl Y))] := hD
  generalize hH0 : s.heap = H at hP
  have hS : va_S A s.heap H [] := by rw [← hH0]; exact va_S.rf
  generalize hlc0 : ([] : List Loc) = locs at hS ⊢
  refine lv_iconst (v := nI 3) hx hb dX2_wanted_0 (by decide) ?_
  refine lv_istore_n (lv' := [(2, .int (nI 3)), (0, .ref u), (1, .int (nI v))]) hx hb dX2_wanted_1 rfl hl (by decide) rfl (fun ls hl => ?_)
  have LP2 : ∀ (q i : Nat) (O4 Y4 : Nat → Int32) (d7 d8 d9 d10 : Int32), i + q = 41 → 3 ≤ i → fs (hwS n w f g v) q i = fs (hwS n w f g v) 38 3 → ∀ (H : Heap) (locs : List Loc), va_P D vwCl [(u, .inr (2, [.int e0, .int (nI n), .int (nI w), .ref c1, .ref c2, .ref c3, .ref c4, .int d7, .int d8, .int d9, .int d10])), (c1, .inl (cI, 40, .inl F)), (c2, .inl (cI, 40, .inl V)), (c3, .inl (cI, 40, .inl O4)), (c4, .inl (cI, 40, .inl Y4))] H → va_D A [(u, .inr (2, [.int e0, .int (nI n), .int (nI w), .ref c1, .ref c2, .ref c3, .ref c4, .int d7, .int d8, .int d9, .int d10])), (c1, .inl (cI, 40, .inl F)), (c2, .inl (cI, 40, .inl V)), (c3, .inl (cI, 40, .inl O4)), (c4, .inl (cI, 40, .inl Y4))] → va_S A s.heap H locs → ∀ (ls : Array Slot), lv_has ls 3 [(2, .int (nI i)), (0, .ref u), (1, .int (nI v))] → W p l e ({ frames := 2, cells := 0, slots := 0, locals := 50 } : Room) s m args below meth c H locs 0 0 (MQ below (qm_i (fun rr H1 => rr = fh n w f g v ∧ ∃ (O3 Y3 : Nat → Int32) (d7 d8 d9 d10 : Int32), va_P D vwCl (mdw cI u c1 c2 c3 c4 e0 n w F V O3 Y3 d7 d8 d9 d10) H1) A) args s 0 0 A) (F0 m 2 ls []) := by
    intro q
    induction q with
    | zero =>
      intro i O4 Y4 d7 d8 d9 d10 h1 h3 h2 H locs hP hD hS ls hl
      refine lv_iload_n hx hb dX2_wanted_2 rfl (lv_at hl 0 rfl) ?_
      refine lv_bipush (v := nI 40) hx hb dX2_wanted_3 (by decide) ?_
      refine bn_gt (tgt := 33) hx hb dX2_wanted_5 (by decide) (by omega) (by omega) (fun c5 => ?_) (fun c5 => ?_)
      · skip
        refine lv_iconst (v := (-1)) hx hb dX2_wanted_33 (by decide) ?_
        exact em_i hx hb hr hlocks hS (⟨fh_z h2 h1, _, _, _, _, _, _, hP⟩) dX2_wanted_34
      · skip
        omega
    | succ q ih =>
      intro i O4 Y4 d7 d8 d9 d10 h1 h3 h2 H locs hP hD hS ls hl
      refine lv_iload_n hx hb dX2_wanted_2 rfl (lv_at hl 0 rfl) ?_
      refine lv_bipush (v := nI 40) hx hb dX2_wanted_3 (by decide) ?_
      refine bn_gt (tgt := 33) hx hb dX2_wanted_5 (by decide) (by omega) (by omega) (fun c5 => ?_) (fun c5 => ?_)
      · skip
        omega
      · skip
        refine lv_aload_n hx hb dX2_wanted_8 rfl (lv_at hl 1 rfl) ?_
        refine lv_iload_n hx hb dX2_wanted_9 rfl (lv_at hl 0 rfl) ?_
        refine lv_aload_n hx hb dX2_wanted_10 rfl (lv_at hl 1 rfl) ?_
        refine va_get (D := D) (ci := 2) (v := .int (nI w)) (C := RX2) (T := TX2) (N := 11) hx hb hts (fun _ h => (List.mem_cons_of_mem _ (List.mem_append_right _ h))) hown hK hP 0 rfl rfl 2 (by decide) (hts _ (List.mem_of_getElem? (i := 1) rfl)) (fun _ h9 => h9) rfl dX2_wanted_11 ?_
        have hPc : va_P D vwCl [(u, .inr (2, [.int e0, .int (nI n), .int (nI w), .ref c1, .ref c2, .ref c3, .ref c4, .int d7, .int d8, .int d9, .int d10])), (c1, .inl (cI, 40, .inl F)), (c2, .inl (cI, 40, .inl V)), (c3, .inl (cI, 40, .inl O4)), (c4, .inl (cI, 40, .inl Y4))] H := hP.sub [0, 1, 2, 3, 4] rfl
        have hDc : va_D A [(u, .inr (2, [.int e0, .int (nI n), .int (nI w), .ref c1, .ref c2, .ref c3, .ref c4, .int d7, .int d8, .int d9, .int d10])), (c1, .inl (cI, 40, .inl F)), (c2, .inl (cI, 40, .inl V)), (c3, .inl (cI, 40, .inl O4)), (c4, .inl (cI, 40, .inl Y4))] := hD.sub [0, 1, 2, 3, 4] (by decide) rfl
        have hFc := va_free (wc := [(u, .inr (2, [.int e0, .int (nI n), .int (nI w), .ref c1, .ref c2, .ref c3, .ref c4, .int d7, .int d8, .int d9, .int d10])), (c1, .inl (cI, 40, .inl F)), (c2, .inl (cI, 40, .inl V)), (c3, .inl (cI, 40, .inl O4)), (c4, .inl (cI, 40, .inl Y4))]) hD hS hA [0, 1, 2, 3, 4] rfl
        refine pq_i (va_runV (rest := []) CF (m_X2_anew l D cI u c1 c2 c3 c4 S O4 Y4 e0 d7 d8 d9 d10 i w (by omega) (by omega) hw2 H.size) (cwV 2 hts gX2_wanted_X2_anew rfl rfl rfl k_X2_anew ⟨Nat.le_of_ble_eq_true rfl, Nat.le_of_ble_eq_true rfl⟩) (mv_pre hK hPc hDc rfl rfl rfl) rfl rfl hl.1 rfl (lv_room (Nat.le_of_ble_eq_true rfl)) dX2_wanted_14 ⟨Nat.le_of_ble_eq_true rfl, Nat.le_of_ble_eq_true rfl⟩) hS hFc (fun r1 H locs hB hk1 hS => ?_)
        obtain ⟨rfl, O5, Y5, d11, d12, d13, d14, -, -, hP1⟩ := hB
        obtain ⟨hP, hD⟩ := jn (wb := [(u, .inr (2, [.int e0, .int (nI n), .int (nI w), .ref c1, .ref c2, .ref c3, .ref c4, .int d11, .int d12, .int d13, .int d14])), (c1, .inl (cI, 40, .inl F)), (c2, .inl (cI, 40, .inl V)), (c3, .inl (cI, 40, .inl O5)), (c4, .inl (cI, 40, .inl Y5))]) (w1 := [(u, .inr (2, [.int e0, .int (nI n), .int (nI w), .ref c1, .ref c2, .ref c3, .ref c4, .int d11, .int d12, .int d13, .int d14])), (c1, .inl (cI, 40, .inl F)), (c2, .inl (cI, 40, .inl V)), (c3, .inl (cI, 40, .inl O5)), (c4, .inl (cI, 40, .inl Y5))]) hP hD [0, 1, 2, 3, 4] [] rfl rfl rfl rfl 5 rfl (by decide) (by decide) hk1 hP1
        refine lv_iconst (v := nI 0) hx hb dX2_wanted_17 (by decide) ?_
        refine lv_iload_n hx hb dX2_wanted_18 rfl (lv_at hl 2 rfl) ?_
        refine pz_i (wc := []) CF (m_X2_isIn l D cI (LW n f g i w) (nI 0) (nI v)) (va_cwS 3 hts gX2_wanted_X2_isIn rfl rfl rfl k_X2_isIn.2 ⟨Nat.le_of_ble_eq_true rfl, Nat.le_of_ble_eq_true rfl⟩) hK (fun k q h => by simp at h) rfl hl.1 rfl (Nat.le_of_ble_eq_true rfl) dX2_wanted_19 ⟨Nat.le_of_ble_eq_true rfl, Nat.le_of_ble_eq_true rfl⟩ ?_
        refine lv_if_eq (tgt := 27) hx hb dX2_wanted_22 (by decide) (fun c22 => ?_) (fun c22 => ?_)
        · skip
          refine lv_iinc (v := (nI (i + 1))) (lv' := [(2, .int (nI (i + 1))), (0, .ref u), (1, .int (nI v))]) hx hb dX2_wanted_27 hl (k := 0) rfl (inc1 _) (by decide) rfl (fun ls hl => ?_)
          refine lv_goto (tgt := 2) hx hb dX2_wanted_30 (by decide) ?_
          exact ih (i + 1) O5 Y5 d11 d12 d13 d14 (by omega) (by omega) (fh_n h2 (isI_n c22)) _ _ hP hD hS _ (lv_sub hl [0, 1, 2] rfl)
        · skip
          refine lv_iload_n hx hb dX2_wanted_25 rfl (lv_at hl 0 rfl) ?_
          exact em_i hx hb hr hlocks hS (⟨fh_y h2 (isI_y c22) (by omega), _, _, _, _, _, _, hP⟩) dX2_wanted_26
  exact LP2 38 3 O Y e7 e8 e9 e10 (by omega) (by omega) rfl _ _ hP hD hS _ (lv_sub hl [0, 1, 2] rfl)
theorem k_X2_sweep : yX2_sweep.cls = RX2 ∧ yX2_sweep.cls ≠ "java/lang/invoke/MethodHandle" ∧ yX2_sweep.cls ≠ "java/lang/invoke/VarHandle" ∧ (parseMethodDescriptor yX2_sweep.desc).map (fun d => d.parameters.length) = some 0 := by decide +kernel
set_option maxHeartbeats 4000000 in
set_option maxRecDepth 100000 in
theorem m_X2_sweep (l : Launch) (D : va_G) (cI : ClassId) (u c1 c2 c3 c4 : Nat) {n w : Nat} {F V f g : Nat → Int32} (S : MS n w F V f g) (O Y : Nat → Int32) (e0 e7 e8 e9 e10 : Int32) (sz : Nat) : Met l yX2_sweep wsX2_sweep ({ frames := 1, cells := 0, slots := 0, locals := 23 } : Room) (PM D [(cI, .int)] [.ref u] sz (mdw cI u c1 c2 c3 c4 e0 n w F V O Y e7 e8 e9 e10)) (qm_i (fun rr H1 => rr = nI (swp n f).2 ∧ ∃ F3 : Nat → Int32, MS n w F3 V (swp n f).1 g ∧ va_P D vwCl (mdw cI u c1 c2 c3 c4 (nI 0) n w F3 V O Y e7 e8 e9 e10) H1) (va_A (mdw cI u c1 c2 c3 c4 e0 n w F V O Y e7 e8 e9 e10) sz)) 0 0 (va_A (mdw cI u c1 c2 c3 c4 e0 n w F V O Y e7 e8 e9 e10) sz) := by
  obtain ⟨hn3, hn, hw2, hF, hV, hO⟩ := id S
  refine bd_m (Qc := (fun A => qm_i (fun rr H1 => rr = nI (swp n f).2 ∧ ∃ F3 : Nat → Int32, MS n w F3 V (swp n f).1 g ∧ va_P D vwCl (mdw cI u c1 c2 c3 c4 (nI 0) n w F3 V O Y e7 e8 e9 e10) H1) A)) (cc := cX2_sweep) (maxL := 3) (ret := (some .int)) (by decide) rfl (Nat.le_of_ble_eq_true rfl) ?_
  intro p e s m args below meth c ls A CF hr hlocks hK hP hD hA hS hl hin
  obtain ⟨hx, hb, hml, hown, hts⟩ := id CF
  have hl : lv_has ls 3 [(0, .ref u)] := hl
  have hP : va_P D vwCl [(u, .inr (2, [.int e0, .int (nI n), .int (nI w), .ref c1, .ref c2, .ref c3, .ref c4, .int e7, .int e8, .int e9, .int e10])), (c1, .inl (cI, 40, .inl F)), (c2, .inl (cI, 40, .inl V)), (c3, .inl (cI, 40, .inl O)), (c4, .inl (cI, 40, .inl Y))] s.heap := hP
  have hD : va_D A [(u, .inr (2, [.int e0, .int (nI n), .int (nI w), .ref c1, .ref c2, .ref c3, .ref c4, .int e7, .int e8, .int e9, .int e10])), (c1, .inl (cI, 40, .inl F)), (c2, .inl (cI, 40, .inl V)), (c3, .inl (cI, 40, .inl O)), (c4, .inl (cI, 40, .inl Y))] := hD
  generalize hH0 : s.heap = H at hP
  have hS : va_S A s.heap H [] := by rw [← hH0]; exact va_S.rf
  generalize hlc0 : ([] : List Loc) = locs at hS ⊢
  refine lv_aload_n hx hb dX2_sweep_0 rfl (lv_at hl 0 rfl) ?_
  refine lv_iconst (v := nI 0) hx hb dX2_sweep_1 (by decide) ?_
  refine va_put (D := D) (ci := 2) (v := .int (nI 0)) (ty := .int) (C := RX2) (T := TX2) (N := 11) hx hb hts (fun _ h => (List.mem_cons_of_mem _ (List.mem_append_right _ h))) tyX2 tyX2_ok nmX2 hown hK hP hD hS 0 rfl rfl 0 (by decide) (hts _ (List.mem_of_getElem? (i := 1) rfl)) (fun _ h9 => h9) rfl (by decide +kernel) rfl rfl (Nat.le_of_ble_eq_true rfl) dX2_sweep_2 (fun H locs hP hD hS => ?_)
  have hP : va_P D vwCl [(u, .inr (2, [.int (nI 0), .int (nI n), .int (nI w), .ref c1, .ref c2, .ref c3, .ref c4, .int e7, .int e8, .int e9, .int e10])), (c1, .inl (cI, 40, .inl F)), (c2, .inl (cI, 40, .inl V)), (c3, .inl (cI, 40, .inl O)), (c4, .inl (cI, 40, .inl Y))] H := hP
  have hD : va_D A [(u, .inr (2, [.int (nI 0), .int (nI n), .int (nI w), .ref c1, .ref c2, .ref c3, .ref c4, .int e7, .int e8, .int e9, .int e10])), (c1, .inl (cI, 40, .inl F)), (c2, .inl (cI, 40, .inl V)), (c3, .inl (cI, 40, .inl O)), (c4, .inl (cI, 40, .inl Y))] := hD
  refine lv_aload_n hx hb dX2_sweep_5 rfl (lv_at hl 0 rfl) ?_
  refine lv_bipush (v := (-2)) hx hb dX2_sweep_6 (by decide) ?_
  refine pv_i CF (m_X2_count l D cI u c1 c2 c3 c4 S O Y (nI 0) e7 e8 e9 e10 (-2)) (cwV 1 hts gX2_sweep_X2_count rfl rfl rfl k_X2_count ⟨Nat.le_of_ble_eq_true rfl, Nat.le_of_ble_eq_true rfl⟩) hK hP rfl rfl rfl rfl hl.1 rfl (Nat.le_of_ble_eq_true rfl) dX2_sweep_8 ⟨Nat.le_of_ble_eq_true rfl, Nat.le_of_ble_eq_true rfl⟩ ?_
  refine lv_istore_n (lv' := [(1, .int (nI (cw n f (-2)))), (0, .ref u)]) hx hb dX2_sweep_11 rfl hl (by decide) rfl (fun ls hl => ?_)
  refine lv_iload_n hx hb dX2_sweep_12 rfl (lv_at hl 0 rfl) ?_
  refine lv_aload_n hx hb dX2_sweep_13 rfl (lv_at hl 1 rfl) ?_
  refine va_get (D := D) (ci := 2) (v := .int (nI n)) (C := RX2) (T := TX2) (N := 11) hx hb hts (fun _ h => (List.mem_cons_of_mem _ (List.mem_append_right _ h))) hown hK hP 0 rfl rfl 1 (by decide) (hts _ (List.mem_of_getElem? (i := 2) rfl)) (fun _ h9 => h9) rfl dX2_sweep_14 ?_
  refine bn_ne (tgt := 31) hx hb dX2_sweep_17 (by decide) (Nat.lt_of_le_of_lt (cw_le n f (-2) n) (by omega)) (by omega) (fun c17 => ?_) (fun c17 => ?_)
  · skip
    refine lv_iconst (v := nI 2) hx hb dX2_sweep_31 (by decide) ?_
    refine lv_aload_n hx hb dX2_sweep_32 rfl (lv_at hl 1 rfl) ?_
    refine va_get (D := D) (ci := 2) (v := .int (nI n)) (C := RX2) (T := TX2) (N := 11) hx hb hts (fun _ h => (List.mem_cons_of_mem _ (List.mem_append_right _ h))) hown hK hP 0 rfl rfl 1 (by decide) (hts _ (List.mem_of_getElem? (i := 2) rfl)) (fun _ h9 => h9) rfl dX2_sweep_33 ?_
    refine an_mul hx hb dX2_sweep_36 ?_
    refine lv_iconst (v := nI 1) hx hb dX2_sweep_37 (by decide) ?_
    refine an_sub hx hb (by omega) dX2_sweep_38 ?_
    refine lv_istore_n (lv' := [(2, .int (nI ((2 * n) - 1))), (1, .int (nI (cw n f (-2)))), (0, .ref u)]) hx hb dX2_sweep_39 rfl hl (by decide) rfl (fun ls hl => ?_)
    have LP40 : ∀ (q a : Nat) (kk : Int32) (F1 f1 : Nat → Int32), q ≤ 80 → kk = kq q → MS n w F1 V f1 g → cw n f1 (-2) + a = cw n f (-2) → sw n q f1 a = swp n f → ∀ (H : Heap) (locs : List Loc), va_P D vwCl [(u, .inr (2, [.int (nI 0), .int (nI n), .int (nI w), .ref c1, .ref c2, .ref c3, .ref c4, .int e7, .int e8, .int e9, .int e10])), (c1, .inl (cI, 40, .inl F1)), (c2, .inl (cI, 40, .inl V)), (c3, .inl (cI, 40, .inl O)), (c4, .inl (cI, 40, .inl Y))] H → va_D A [(u, .inr (2, [.int (nI 0), .int (nI n), .int (nI w), .ref c1, .ref c2, .ref c3, .ref c4, .int e7, .int e8, .int e9, .int e10])), (c1, .inl (cI, 40, .inl F1)), (c2, .inl (cI, 40, .inl V)), (c3, .inl (cI, 40, .inl O)), (c4, .inl (cI, 40, .inl Y))] → va_S A s.heap H locs → ∀ (ls : Array Slot), lv_has ls 3 [(2, .int kk), (1, .int (nI (cw n f (-2)))), (0, .ref u)] → W p l e ({ frames := 1, cells := 0, slots := 0, locals := 23 } : Room) s m args below meth c H locs 0 0 (MQ below (qm_i (fun rr H1 => rr = nI (swp n f).2 ∧ ∃ F3 : Nat → Int32, MS n w F3 V (swp n f).1 g ∧ va_P D vwCl (mdw cI u c1 c2 c3 c4 (nI 0) n w F3 V O Y e7 e8 e9 e10) H1) A) args s 0 0 A) (F0 m 40 ls []) := by
      intro q
      induction q with
      | zero =>
        intro a kk F1 f1 hq hk S1 hc h2 H locs hP hD hS ls hl
        refine lv_iload_n hx hb dX2_sweep_40 rfl (lv_at hl 0 rfl) ?_
        refine lv_if_lt (tgt := 95) hx hb dX2_sweep_41 (by decide) (fun c41 => ?_) (fun c41 => ?_)
        · skip
          refine lv_iload_n hx hb dX2_sweep_95 rfl (lv_at hl 1 rfl) ?_
          refine lv_aload_n hx hb dX2_sweep_96 rfl (lv_at hl 2 rfl) ?_
          refine lv_bipush (v := (-2)) hx hb dX2_sweep_97 (by decide) ?_
          refine pv_i CF (m_X2_count l D cI u c1 c2 c3 c4 S1 O Y (nI 0) e7 e8 e9 e10 (-2)) (cwV 1 hts gX2_sweep_X2_count rfl rfl rfl k_X2_count ⟨Nat.le_of_ble_eq_true rfl, Nat.le_of_ble_eq_true rfl⟩) hK hP rfl rfl rfl rfl hl.1 rfl (Nat.le_of_ble_eq_true rfl) dX2_sweep_99 ⟨Nat.le_of_ble_eq_true rfl, Nat.le_of_ble_eq_true rfl⟩ ?_
          refine an_sub hx hb (by omega) dX2_sweep_102 ?_
          have e : (f1, a) = swp n f := h2
          exact em_i hx hb hr hlocks hS (⟨congrArg nI (by rw [← e]; show cw n f (-2) - cw n f1 (-2) = a; omega), F1, by rw [← e]; exact S1, hP⟩) dX2_sweep_103
        · skip
          exact absurd (show kk < 0 by rw [hk]; decide) c41
      | succ q ih =>
        intro a kk F1 f1 hq hk S1 hc h2 H locs hP hD hS ls hl
        refine lv_iload_n hx hb dX2_sweep_40 rfl (lv_at hl 0 rfl) ?_
        refine lv_if_lt (tgt := 95) hx hb dX2_sweep_41 (by decide) (fun c41 => ?_) (fun c41 => ?_)
        · skip
          exact absurd c41 (by rw [hk, kq_s]; exact nI_pos (by omega))
        · skip
          obtain rfl : kk = nI q := hk.trans (kq_s q)
          refine lv_aload_n hx hb dX2_sweep_44 rfl (lv_at hl 2 rfl) ?_
          refine va_get (D := D) (ci := 2) (v := .ref c1) (C := RX2) (T := TX2) (N := 11) hx hb hts (fun _ h => (List.mem_cons_of_mem _ (List.mem_append_right _ h))) hown hK hP 0 rfl rfl 3 (by decide) (hts _ (List.mem_of_getElem? (i := 3) rfl)) (fun _ h9 => h9) rfl dX2_sweep_45 ?_
          refine lv_iload_n hx hb dX2_sweep_48 rfl (lv_at hl 0 rfl) ?_
          refine lv_aload_n hx hb dX2_sweep_49 rfl (lv_at hl 2 rfl) ?_
          refine va_get (D := D) (ci := 2) (v := .int (nI n)) (C := RX2) (T := TX2) (N := 11) hx hb hts (fun _ h => (List.mem_cons_of_mem _ (List.mem_append_right _ h))) hown hK hP 0 rfl rfl 1 (by decide) (hts _ (List.mem_of_getElem? (i := 2) rfl)) (fun _ h9 => h9) rfl dX2_sweep_50 ?_
          refine an_rem hx hb (by omega) (by omega) (by omega) dX2_sweep_53 ?_
          refine al_i hx hb hK hP 1 0 rfl rfl (Nat.lt_of_lt_of_le (Nat.mod_lt _ (by omega)) hn) (by omega) dX2_sweep_54 ?_
          refine tp_i (y := (f1 (q % n))) (S1.2.2.2.1 _ (Nat.mod_lt _ (by omega))) ?_
          refine lv_bipush (v := (-2)) hx hb dX2_sweep_55 (by decide) ?_
          refine lv_icmp_ne (tgt := 89) hx hb dX2_sweep_57 (by decide) (fun c57 => ?_) (fun c57 => ?_)
          · skip
            refine lv_iinc (v := (kq q)) (lv' := [(2, .int (kq q)), (1, .int (nI (cw n f (-2)))), (0, .ref u)]) hx hb dX2_sweep_89 hl (k := 0) rfl rfl (by decide) rfl (fun ls hl => ?_)
            refine lv_goto (tgt := 40) hx hb dX2_sweep_92 (by decide) ?_
            exact ih a (kq q) F1 f1 (by omega) rfl S1 hc (sw_N (fun z => c57 z.1) h2) _ _ hP hD hS _ (lv_sub hl [0, 1, 2] rfl)
          · skip
            refine lv_aload_n hx hb dX2_sweep_60 rfl (lv_at hl 2 rfl) ?_
            refine va_get (D := D) (ci := 2) (v := .ref c1) (C := RX2) (T := TX2) (N := 11) hx hb hts (fun _ h => (List.mem_cons_of_mem _ (List.mem_append_right _ h))) hown hK hP 0 rfl rfl 3 (by decide) (hts _ (List.mem_of_getElem? (i := 3) rfl)) (fun _ h9 => h9) rfl dX2_sweep_61 ?_
            refine lv_iload_n hx hb dX2_sweep_64 rfl (lv_at hl 0 rfl) ?_
            refine lv_iconst (v := nI 1) hx hb dX2_sweep_65 (by decide) ?_
            refine an_add hx hb dX2_sweep_66 ?_
            refine lv_aload_n hx hb dX2_sweep_67 rfl (lv_at hl 2 rfl) ?_
            refine va_get (D := D) (ci := 2) (v := .int (nI n)) (C := RX2) (T := TX2) (N := 11) hx hb hts (fun _ h => (List.mem_cons_of_mem _ (List.mem_append_right _ h))) hown hK hP 0 rfl rfl 1 (by decide) (hts _ (List.mem_of_getElem? (i := 2) rfl)) (fun _ h9 => h9) rfl dX2_sweep_68 ?_
            refine an_rem hx hb (by omega) (by omega) (by omega) dX2_sweep_71 ?_
            refine al_i hx hb hK hP 1 0 rfl rfl (Nat.lt_of_lt_of_le (Nat.mod_lt _ (by omega)) hn) (by omega) dX2_sweep_72 ?_
            refine tp_i (y := (f1 ((q + 1) % n))) (S1.2.2.2.1 _ (Nat.mod_lt _ (by omega))) ?_
            refine lv_iconst (v := (-1)) hx hb dX2_sweep_73 (by decide) ?_
            refine lv_icmp_ne (tgt := 89) hx hb dX2_sweep_74 (by decide) (fun c74 => ?_) (fun c74 => ?_)
            · skip
              refine lv_iinc (v := (kq q)) (lv' := [(2, .int (kq q)), (1, .int (nI (cw n f (-2)))), (0, .ref u)]) hx hb dX2_sweep_89 hl (k := 0) rfl rfl (by decide) rfl (fun ls hl => ?_)
              refine lv_goto (tgt := 40) hx hb dX2_sweep_92 (by decide) ?_
              exact ih a (kq q) F1 f1 (by omega) rfl S1 hc (sw_N (fun z => c74 z.2) h2) _ _ hP hD hS _ (lv_sub hl [0, 1, 2] rfl)
            · skip
              refine lv_aload_n hx hb dX2_sweep_77 rfl (lv_at hl 2 rfl) ?_
              refine va_get (D := D) (ci := 2) (v := .ref c1) (C := RX2) (T := TX2) (N := 11) hx hb hts (fun _ h => (List.mem_cons_of_mem _ (List.mem_append_right _ h))) hown hK hP 0 rfl rfl 3 (by decide) (hts _ (List.mem_of_getElem? (i := 3) rfl)) (fun _ h9 => h9) rfl dX2_sweep_78 ?_
              refine lv_iload_n hx hb dX2_sweep_81 rfl (lv_at hl 0 rfl) ?_
              refine lv_aload_n hx hb dX2_sweep_82 rfl (lv_at hl 2 rfl) ?_
              refine va_get (D := D) (ci := 2) (v := .int (nI n)) (C := RX2) (T := TX2) (N := 11) hx hb hts (fun _ h => (List.mem_cons_of_mem _ (List.mem_append_right _ h))) hown hK hP 0 rfl rfl 1 (by decide) (hts _ (List.mem_of_getElem? (i := 2) rfl)) (fun _ h9 => h9) rfl dX2_sweep_83 ?_
              refine an_rem hx hb (by omega) (by omega) (by omega) dX2_sweep_86 ?_
              refine lv_iconst (v := (-1)) hx hb dX2_sweep_87 (by decide) ?_
              refine as_i hx hb hK hP hD hS 1 0 rfl rfl (k := (q % n)) (Nat.lt_of_lt_of_le (Nat.mod_lt _ (by omega)) hn) (by omega) dX2_sweep_88 (fun H locs hP hD hS => ?_)
              have hP : va_P D vwCl [(u, .inr (2, [.int (nI 0), .int (nI n), .int (nI w), .ref c1, .ref c2, .ref c3, .ref c4, .int e7, .int e8, .int e9, .int e10])), (c1, .inl (cI, 40, .inl (upd F1 (q % n) (-1)))), (c2, .inl (cI, 40, .inl V)), (c3, .inl (cI, 40, .inl O)), (c4, .inl (cI, 40, .inl Y))] H := hP
              have hD : va_D A [(u, .inr (2, [.int (nI 0), .int (nI n), .int (nI w), .ref c1, .ref c2, .ref c3, .ref c4, .int e7, .int e8, .int e9, .int e10])), (c1, .inl (cI, 40, .inl (upd F1 (q % n) (-1)))), (c2, .inl (cI, 40, .inl V)), (c3, .inl (cI, 40, .inl O)), (c4, .inl (cI, 40, .inl Y))] := hD
              refine lv_iinc (v := (kq q)) (lv' := [(2, .int (kq q)), (1, .int (nI (cw n f (-2)))), (0, .ref u)]) hx hb dX2_sweep_89 hl (k := 0) rfl rfl (by decide) rfl (fun ls hl => ?_)
              refine lv_goto (tgt := 40) hx hb dX2_sweep_92 (by decide) ?_
              exact ih (a + 1) (kq q) (upd F1 (q % n) (-1)) (upd f1 (q % n) (-1)) (by omega) rfl (S1.free (Nat.mod_lt _ (by omega)) c57) (by have := cw_free (Nat.mod_lt q (show 0 < n by omega)) c57; omega) (sw_Y c57 c74 h2) _ _ hP hD hS _ (lv_sub hl [0, 1, 2] rfl)
    exact LP40 (2 * n) 0 _ F f (by omega) (kq_p (by omega)) S (by omega) (by rw [swp, if_neg (by rw [← cw_ct]; exact c17)]) _ _ hP hD hS _ (lv_sub hl [0, 1, 2] rfl)
  · skip
    refine lv_aload_n hx hb dX2_sweep_20 rfl (lv_at hl 1 rfl) ?_
    refine va_get (D := D) (ci := 2) (v := .ref c1) (C := RX2) (T := TX2) (N := 11) hx hb hts (fun _ h => (List.mem_cons_of_mem _ (List.mem_append_right _ h))) hown hK hP 0 rfl rfl 3 (by decide) (hts _ (List.mem_of_getElem? (i := 3) rfl)) (fun _ h9 => h9) rfl dX2_sweep_21 ?_
    refine lv_aload_n hx hb dX2_sweep_24 rfl (lv_at hl 1 rfl) ?_
    refine va_get (D := D) (ci := 2) (v := .int (nI n)) (C := RX2) (T := TX2) (N := 11) hx hb hts (fun _ h => (List.mem_cons_of_mem _ (List.mem_append_right _ h))) hown hK hP 0 rfl rfl 1 (by decide) (hts _ (List.mem_of_getElem? (i := 2) rfl)) (fun _ h9 => h9) rfl dX2_sweep_25 ?_
    have hPc : va_P D vwCl [(c1, .inl (cI, 40, .inl F))] H := hP.sub [1] rfl
    have hDc : va_D A [(c1, .inl (cI, 40, .inl F))] := hD.sub [1] (by decide) rfl
    have hFc := va_free (wc := [(c1, .inl (cI, 40, .inl F))]) hD hS hA [1] rfl
    refine pq_v (va_runS (rest := []) CF (m_X2_clear l D cI c1 n hn F H.size) (va_cwS 2 hts gX2_sweep_X2_clear rfl rfl rfl k_X2_clear.2 ⟨Nat.le_of_ble_eq_true rfl, Nat.le_of_ble_eq_true rfl⟩) (ms_pre hK hPc hDc) rfl rfl hl.1 rfl (lv_room (Nat.le_of_ble_eq_true rfl)) dX2_sweep_28 ⟨Nat.le_of_ble_eq_true rfl, Nat.le_of_ble_eq_true rfl⟩) hS hFc (fun H locs hB hk1 hS => ?_)
    obtain ⟨F2, hF2, -, hP1⟩ := hB
    obtain ⟨hP, hD⟩ := jn (wb := [(u, .inr (2, [.int (nI 0), .int (nI n), .int (nI w), .ref c1, .ref c2, .ref c3, .ref c4, .int e7, .int e8, .int e9, .int e10])), (c1, .inl (cI, 40, .inl F2)), (c2, .inl (cI, 40, .inl V)), (c3, .inl (cI, 40, .inl O)), (c4, .inl (cI, 40, .inl Y))]) (w1 := [(c1, .inl (cI, 40, .inl F2))]) hP hD [1] [0, 2, 3, 4] rfl rfl rfl rfl 5 rfl (by decide) (by decide) hk1 hP1
    refine lv_iconst (v := nI 2) hx hb dX2_sweep_31 (by decide) ?_
    refine lv_aload_n hx hb dX2_sweep_32 rfl (lv_at hl 1 rfl) ?_
    refine va_get (D := D) (ci := 2) (v := .int (nI n)) (C := RX2) (T := TX2) (N := 11) hx hb hts (fun _ h => (List.mem_cons_of_mem _ (List.mem_append_right _ h))) hown hK hP 0 rfl rfl 1 (by decide) (hts _ (List.mem_of_getElem? (i := 2) rfl)) (fun _ h9 => h9) rfl dX2_sweep_33 ?_
    refine an_mul hx hb dX2_sweep_36 ?_
    refine lv_iconst (v := nI 1) hx hb dX2_sweep_37 (by decide) ?_
    refine an_sub hx hb (by omega) dX2_sweep_38 ?_
    refine lv_istore_n (lv' := [(2, .int (nI ((2 * n) - 1))), (1, .int (nI (cw n f (-2)))), (0, .ref u)]) hx hb dX2_sweep_39 rfl hl (by decide) rfl (fun ls hl => ?_)
    have LP40 : ∀ (q a : Nat) (kk : Int32) (F1 f1 : Nat → Int32), q ≤ 80 → kk = kq q → MS n w F1 V f1 g → cw n f1 (-2) + a = cw n f (-2) → sw n q f1 a = swp n f → ∀ (H : Heap) (locs : List Loc), va_P D vwCl [(u, .inr (2, [.int (nI 0), .int (nI n), .int (nI w), .ref c1, .ref c2, .ref c3, .ref c4, .int e7, .int e8, .int e9, .int e10])), (c1, .inl (cI, 40, .inl F1)), (c2, .inl (cI, 40, .inl V)), (c3, .inl (cI, 40, .inl O)), (c4, .inl (cI, 40, .inl Y))] H → va_D A [(u, .inr (2, [.int (nI 0), .int (nI n), .int (nI w), .ref c1, .ref c2, .ref c3, .ref c4, .int e7, .int e8, .int e9, .int e10])), (c1, .inl (cI, 40, .inl F1)), (c2, .inl (cI, 40, .inl V)), (c3, .inl (cI, 40, .inl O)), (c4, .inl (cI, 40, .inl Y))] → va_S A s.heap H locs → ∀ (ls : Array Slot), lv_has ls 3 [(2, .int kk), (1, .int (nI (cw n f (-2)))), (0, .ref u)] → W p l e ({ frames := 1, cells := 0, slots := 0, locals := 23 } : Room) s m args below meth c H locs 0 0 (MQ below (qm_i (fun rr H1 => rr = nI (swp n f).2 ∧ ∃ F3 : Nat → Int32, MS n w F3 V (swp n f).1 g ∧ va_P D vwCl (mdw cI u c1 c2 c3 c4 (nI 0) n w F3 V O Y e7 e8 e9 e10) H1) A) args s 0 0 A) (F0 m 40 ls []) := by
      intro q
      induction q with
      | zero =>
        intro a kk F1 f1 hq hk S1 hc h2 H locs hP hD hS ls hl
        refine lv_iload_n hx hb dX2_sweep_40 rfl (lv_at hl 0 rfl) ?_
        refine lv_if_lt (tgt := 95) hx hb dX2_sweep_41 (by decide) (fun c41 => ?_) (fun c41 => ?_)
        · skip
          refine lv_iload_n hx hb dX2_sweep_95 rfl (lv_at hl 1 rfl) ?_
          refine lv_aload_n hx hb dX2_sweep_96 rfl (lv_at hl 2 rfl) ?_
          refine lv_bipush (v := (-2)) hx hb dX2_sweep_97 (by decide) ?_
          refine pv_i CF (m_X2_count l D cI u c1 c2 c3 c4 S1 O Y (nI 0) e7 e8 e9 e10 (-2)) (cwV 1 hts gX2_sweep_X2_count rfl rfl rfl k_X2_count ⟨Nat.le_of_ble_eq_true rfl, Nat.le_of_ble_eq_true rfl⟩) hK hP rfl rfl rfl rfl hl.1 rfl (Nat.le_of_ble_eq_true rfl) dX2_sweep_99 ⟨Nat.le_of_ble_eq_true rfl, Nat.le_of_ble_eq_true rfl⟩ ?_
          refine an_sub hx hb (by omega) dX2_sweep_102 ?_
          have e : (f1, a) = swp n f := h2
          exact em_i hx hb hr hlocks hS (⟨congrArg nI (by rw [← e]; show cw n f (-2) - cw n f1 (-2) = a; omega), F1, by rw [← e]; exact S1, hP⟩) dX2_sweep_103
        · skip
          exact absurd (show kk < 0 by rw [hk]; decide) c41
      | succ q ih =>
        intro a kk F1 f1 hq hk S1 hc h2 H locs hP hD hS ls hl
        refine lv_iload_n hx hb dX2_sweep_40 rfl (lv_at hl 0 rfl) ?_
        refine lv_if_lt (tgt := 95) hx hb dX2_sweep_41 (by decide) (fun c41 => ?_) (fun c41 => ?_)
        · skip
          exact absurd c41 (by rw [hk, kq_s]; exact nI_pos (by omega))
        · skip
          obtain rfl : kk = nI q := hk.trans (kq_s q)
          refine lv_aload_n hx hb dX2_sweep_44 rfl (lv_at hl 2 rfl) ?_
          refine va_get (D := D) (ci := 2) (v := .ref c1) (C := RX2) (T := TX2) (N := 11) hx hb hts (fun _ h => (List.mem_cons_of_mem _ (List.mem_append_right _ h))) hown hK hP 0 rfl rfl 3 (by decide) (hts _ (List.mem_of_getElem? (i := 3) rfl)) (fun _ h9 => h9) rfl dX2_sweep_45 ?_
          refine lv_iload_n hx hb dX2_sweep_48 rfl (lv_at hl 0 rfl) ?_
          refine lv_aload_n hx hb dX2_sweep_49 rfl (lv_at hl 2 rfl) ?_
          refine va_get (D := D) (ci := 2) (v := .int (nI n)) (C := RX2) (T := TX2) (N := 11) hx hb hts (fun _ h => (List.mem_cons_of_mem _ (List.mem_append_right _ h))) hown hK hP 0 rfl rfl 1 (by decide) (hts _ (List.mem_of_getElem? (i := 2) rfl)) (fun _ h9 => h9) rfl dX2_sweep_50 ?_
          refine an_rem hx hb (by omega) (by omega) (by omega) dX2_sweep_53 ?_
          refine al_i hx hb hK hP 1 0 rfl rfl (Nat.lt_of_lt_of_le (Nat.mod_lt _ (by omega)) hn) (by omega) dX2_sweep_54 ?_
          refine tp_i (y := (f1 (q % n))) (S1.2.2.2.1 _ (Nat.mod_lt _ (by omega))) ?_
          refine lv_bipush (v := (-2)) hx hb dX2_sweep_55 (by decide) ?_
          refine lv_icmp_ne (tgt := 89) hx hb dX2_sweep_57 (by decide) (fun c57 => ?_) (fun c57 => ?_)
          · skip
            refine lv_iinc (v := (kq q)) (lv' := [(2, .int (kq q)), (1, .int (nI (cw n f (-2)))), (0, .ref u)]) hx hb dX2_sweep_89 hl (k := 0) rfl rfl (by decide) rfl (fun ls hl => ?_)
            refine lv_goto (tgt := 40) hx hb dX2_sweep_92 (by decide) ?_
            exact ih a (kq q) F1 f1 (by omega) rfl S1 hc (sw_N (fun z => c57 z.1) h2) _ _ hP hD hS _ (lv_sub hl [0, 1, 2] rfl)
          · skip
            refine lv_aload_n hx hb dX2_sweep_60 rfl (lv_at hl 2 rfl) ?_
            refine va_get (D := D) (ci := 2) (v := .ref c1) (C := RX2) (T := TX2) (N := 11) hx hb hts (fun _ h => (List.mem_cons_of_mem _ (List.mem_append_right _ h))) hown hK hP 0 rfl rfl 3 (by decide) (hts _ (List.mem_of_getElem? (i := 3) rfl)) (fun _ h9 => h9) rfl dX2_sweep_61 ?_
            refine lv_iload_n hx hb dX2_sweep_64 rfl (lv_at hl 0 rfl) ?_
            refine lv_iconst (v := nI 1) hx hb dX2_sweep_65 (by decide) ?_
            refine an_add hx hb dX2_sweep_66 ?_
            refine lv_aload_n hx hb dX2_sweep_67 rfl (lv_at hl 2 rfl) ?_
            refine va_get (D := D) (ci := 2) (v := .int (nI n)) (C := RX2) (T := TX2) (N := 11) hx hb hts (fun _ h => (List.mem_cons_of_mem _ (List.mem_append_right _ h))) hown hK hP 0 rfl rfl 1 (by decide) (hts _ (List.mem_of_getElem? (i := 2) rfl)) (fun _ h9 => h9) rfl dX2_sweep_68 ?_
            refine an_rem hx hb (by omega) (by omega) (by omega) dX2_sweep_71 ?_
            refine al_i hx hb hK hP 1 0 rfl rfl (Nat.lt_of_lt_of_le (Nat.mod_lt _ (by omega)) hn) (by omega) dX2_sweep_72 ?_
            refine tp_i (y := (f1 ((q + 1) % n))) (S1.2.2.2.1 _ (Nat.mod_lt _ (by omega))) ?_
            refine lv_iconst (v := (-1)) hx hb dX2_sweep_73 (by decide) ?_
            refine lv_icmp_ne (tgt := 89) hx hb dX2_sweep_74 (by decide) (fun c74 => ?_) (fun c74 => ?_)
            · skip
              refine lv_iinc (v := (kq q)) (lv' := [(2, .int (kq q)), (1, .int (nI (cw n f (-2)))), (0, .ref u)]) hx hb dX2_sweep_89 hl (k := 0) rfl rfl (by decide) rfl (fun ls hl => ?_)
              refine lv_goto (tgt := 40) hx hb dX2_sweep_92 (by decide) ?_
              exact ih a (kq q) F1 f1 (by omega) rfl S1 hc (sw_N (fun z => c74 z.2) h2) _ _ hP hD hS _ (lv_sub hl [0, 1, 2] rfl)
            · skip
              refine lv_aload_n hx hb dX2_sweep_77 rfl (lv_at hl 2 rfl) ?_
              refine va_get (D := D) (ci := 2) (v := .ref c1) (C := RX2) (T := TX2) (N := 11) hx hb hts (fun _ h => (List.mem_cons_of_mem _ (List.mem_append_right _ h))) hown hK hP 0 rfl rfl 3 (by decide) (hts _ (List.mem_of_getElem? (i := 3) rfl)) (fun _ h9 => h9) rfl dX2_sweep_78 ?_
              refine lv_iload_n hx hb dX2_sweep_81 rfl (lv_at hl 0 rfl) ?_
              refine lv_aload_n hx hb dX2_sweep_82 rfl (lv_at hl 2 rfl) ?_
              refine va_get (D := D) (ci := 2) (v := .int (nI n)) (C := RX2) (T := TX2) (N := 11) hx hb hts (fun _ h => (List.mem_cons_of_mem _ (List.mem_append_right _ h))) hown hK hP 0 rfl rfl 1 (by decide) (hts _ (List.mem_of_getElem? (i := 2) rfl)) (fun _ h9 => h9) rfl dX2_sweep_83 ?_
              refine an_rem hx hb (by omega) (by omega) (by omega) dX2_sweep_86 ?_
              refine lv_iconst (v := (-1)) hx hb dX2_sweep_87 (by decide) ?_
              refine as_i hx hb hK hP hD hS 1 0 rfl rfl (k := (q % n)) (Nat.lt_of_lt_of_le (Nat.mod_lt _ (by omega)) hn) (by omega) dX2_sweep_88 (fun H locs hP hD hS => ?_)
              have hP : va_P D vwCl [(u, .inr (2, [.int (nI 0), .int (nI n), .int (nI w), .ref c1, .ref c2, .ref c3, .ref c4, .int e7, .int e8, .int e9, .int e10])), (c1, .inl (cI, 40, .inl (upd F1 (q % n) (-1)))), (c2, .inl (cI, 40, .inl V)), (c3, .inl (cI, 40, .inl O)), (c4, .inl (cI, 40, .inl Y))] H := hP
              have hD : va_D A [(u, .inr (2, [.int (nI 0), .int (nI n), .int (nI w), .ref c1, .ref c2, .ref c3, .ref c4, .int e7, .int e8, .int e9, .int e10])), (c1, .inl (cI, 40, .inl (upd F1 (q % n) (-1)))), (c2, .inl (cI, 40, .inl V)), (c3, .inl (cI, 40, .inl O)), (c4, .inl (cI, 40, .inl Y))] := hD
              refine lv_iinc (v := (kq q)) (lv' := [(2, .int (kq q)), (1, .int (nI (cw n f (-2)))), (0, .ref u)]) hx hb dX2_sweep_89 hl (k := 0) rfl rfl (by decide) rfl (fun ls hl => ?_)
              refine lv_goto (tgt := 40) hx hb dX2_sweep_92 (by decide) ?_
              exact ih (a + 1) (kq q) (upd F1 (q % n) (-1)) (upd f1 (q % n) (-1)) (by omega) rfl (S1.free (Nat.mod_lt _ (by omega)) c57) (by have := cw_free (Nat.mod_lt q (show 0 < n by omega)) c57; omega) (sw_Y c57 c74 h2) _ _ hP hD hS _ (lv_sub hl [0, 1, 2] rfl)
    exact LP40 (2 * n) n _ F2 (fun _ => -1) (by omega) (kq_p (by omega)) (S.all c17 hF2) (by rw [cw_0 (fun k _ => (show ¬ (-1 : Int32) = -2 by decide))]; omega) (by rw [swp, if_pos (by rw [← cw_ct]; exact c17)]; exact sw_none (by omega) (fun k _ => (show ¬ (-1 : Int32) = -2 by decide)) _ _) _ _ hP hD hS _ (lv_sub hl [0, 1, 2] rfl)
theorem k_X2_hang : yX2_hang.cls = RX2 ∧ yX2_hang.cls ≠ "java/lang/invoke/MethodHandle" ∧ yX2_hang.cls ≠ "java/lang/invoke/VarHandle" ∧ (parseMethodDescriptor yX2_hang.desc).map (fun d => d.parameters.length) = some 2 := by decide +kernel
set_option maxHeartbeats 4000000 in
set_option maxRecDepth 100000 in
theorem m_X2_hang (l : Launch) (D : va_G) (cI : ClassId) (u c1 c2 c3 c4 : Nat) {n w : Nat} {F V f g : Nat → Int32} (S : MS n w F V f g) (O Y : Nat → Int32) (e0 e7 e8 e9 e10 : Int32) (x y : Int32) (sz : Nat) : Met l yX2_hang wsX2_hang ({ frames := 3, cells := 0, slots := 0, locals := 68 } : Room) (PM D [(cI, .int)] [.ref u, .int x, .int y] sz (mdw cI u c1 c2 c3 c4 e0 n w F V O Y e7 e8 e9 e10)) (qm_i (fun rr H1 => ∃ (c d7 d8 d9 d10 : Int32) (F3 V3 f3 g3 : Nat → Int32), Qh n w f g x y c rr f3 g3 ∧ MS n w F3 V3 f3 g3 ∧ va_P D vwCl (mdw cI u c1 c2 c3 c4 c n w F3 V3 O Y d7 d8 d9 d10) H1) (va_A (mdw cI u c1 c2 c3 c4 e0 n w F V O Y e7 e8 e9 e10) sz)) 0 0 (va_A (mdw cI u c1 c2 c3 c4 e0 n w F V O Y e7 e8 e9 e10) sz) := by
  obtain ⟨hn3, hn, hw2, hF, hV, hO⟩ := id S
  refine bd_m (Qc := (fun A => qm_i (fun rr H1 => ∃ (c d7 d8 d9 d10 : Int32) (F3 V3 f3 g3 : Nat → Int32), Qh n w f g x y c rr f3 g3 ∧ MS n w F3 V3 f3 g3 ∧ va_P D vwCl (mdw cI u c1 c2 c3 c4 c n w F3 V3 O Y d7 d8 d9 d10) H1) A)) (cc := cX2_hang) (maxL := 4) (ret := (some .int)) (by decide) rfl (Nat.le_of_ble_eq_true rfl) ?_
  intro p e s m args below meth c ls A CF hr hlocks hK hP hD hA hS hl hin
  obtain ⟨hx, hb, hml, hown, hts⟩ := id CF
  have hl : lv_has ls 4 [(0, .ref u), (1, .int x), (2, .int y)] := hl
  have hP : va_P D vwCl [(u, .inr (2, [.int e0, .int (nI n), .int (nI w), .ref c1, .ref c2, .ref c3, .ref c4, .int e7, .int e8, .int e9, .int e10])), (c1, .inl (cI, 40, .inl F)), (c2, .inl (cI, 40, .inl V)), (c3, .inl (cI, 40, .inl O)), (c4, .inl (cI, 40, .inl Y))] s.heap := hP
  have hD : va_D A [(u, .inr (2, [.int e0, .int (nI n), .int (nI w), .ref c1, .ref c2, .ref c3, .ref c4, .int e7, .int e8, .int e9, .int e10])), (c1, .inl (cI, 40, .inl F)), (c2, .inl (cI, 40, .inl V)), (c3, .inl (cI, 40, .inl O)), (c4, .inl (cI, 40, .inl Y))] := hD
  generalize hH0 : s.heap = H at hP
  have hS : va_S A s.heap H [] := by rw [← hH0]; exact va_S.rf
  generalize hlc0 : ([] : List Loc) = locs at hS ⊢
  refine lv_aload_n hx hb dX2_hang_0 rfl (lv_at hl 0 rfl) ?_
  refine lv_iconst (v := nI 0) hx hb dX2_hang_1 (by decide) ?_
  refine va_put (D := D) (ci := 2) (v := .int (nI 0)) (ty := .int) (C := RX2) (T := TX2) (N := 11) hx hb hts (fun _ h => (List.mem_cons_of_mem _ (List.mem_append_right _ h))) tyX2 tyX2_ok nmX2 hown hK hP hD hS 0 rfl rfl 0 (by decide) (hts _ (List.mem_of_getElem? (i := 1) rfl)) (fun _ h9 => h9) rfl (by decide +kernel) rfl rfl (Nat.le_of_ble_eq_true rfl) dX2_hang_2 (fun H locs hP hD hS => ?_)
  have hP : va_P D vwCl [(u, .inr (2, [.int (nI 0), .int (nI n), .int (nI w), .ref c1, .ref c2, .ref c3, .ref c4, .int e7, .int e8, .int e9, .int e10])), (c1, .inl (cI, 40, .inl F)), (c2, .inl (cI, 40, .inl V)), (c3, .inl (cI, 40, .inl O)), (c4, .inl (cI, 40, .inl Y))] H := hP
  have hD : va_D A [(u, .inr (2, [.int (nI 0), .int (nI n), .int (nI w), .ref c1, .ref c2, .ref c3, .ref c4, .int e7, .int e8, .int e9, .int e10])), (c1, .inl (cI, 40, .inl F)), (c2, .inl (cI, 40, .inl V)), (c3, .inl (cI, 40, .inl O)), (c4, .inl (cI, 40, .inl Y))] := hD
  refine lv_iload_n hx hb dX2_hang_5 rfl (lv_at hl 1 rfl) ?_
  refine pz_i (wc := []) CF (m_X2_isNumber l D cI x) (va_cwS 1 hts gX2_hang_X2_isNumber rfl rfl rfl k_X2_isNumber.2 ⟨Nat.le_of_ble_eq_true rfl, Nat.le_of_ble_eq_true rfl⟩) hK (fun k q h => by simp at h) rfl hl.1 rfl (Nat.le_of_ble_eq_true rfl) dX2_hang_6 ⟨Nat.le_of_ble_eq_true rfl, Nat.le_of_ble_eq_true rfl⟩ ?_
  refine lv_if_eq (tgt := 22) hx hb dX2_hang_9 (by decide) (fun c9 => ?_) (fun c9 => ?_)
  · skip
    refine lv_aload_n hx hb dX2_hang_22 rfl (lv_at hl 0 rfl) ?_
    refine lv_iconst (v := nI 1) hx hb dX2_hang_23 (by decide) ?_
    have hPc : va_P D vwCl [(u, .inr (2, [.int (nI 0), .int (nI n), .int (nI w), .ref c1, .ref c2, .ref c3, .ref c4, .int e7, .int e8, .int e9, .int e10])), (c1, .inl (cI, 40, .inl F)), (c2, .inl (cI, 40, .inl V)), (c3, .inl (cI, 40, .inl O)), (c4, .inl (cI, 40, .inl Y))] H := hP.sub [0, 1, 2, 3, 4] rfl
    have hDc : va_D A [(u, .inr (2, [.int (nI 0), .int (nI n), .int (nI w), .ref c1, .ref c2, .ref c3, .ref c4, .int e7, .int e8, .int e9, .int e10])), (c1, .inl (cI, 40, .inl F)), (c2, .inl (cI, 40, .inl V)), (c3, .inl (cI, 40, .inl O)), (c4, .inl (cI, 40, .inl Y))] := hD.sub [0, 1, 2, 3, 4] (by decide) rfl
    have hFc := va_free (wc := [(u, .inr (2, [.int (nI 0), .int (nI n), .int (nI w), .ref c1, .ref c2, .ref c3, .ref c4, .int e7, .int e8, .int e9, .int e10])), (c1, .inl (cI, 40, .inl F)), (c2, .inl (cI, 40, .inl V)), (c3, .inl (cI, 40, .inl O)), (c4, .inl (cI, 40, .inl Y))]) hD hS hA [0, 1, 2, 3, 4] rfl
    refine pq_i (va_runV (rest := []) CF (m_X2_no l D cI u c1 c2 c3 c4 S O Y (nI 0) e7 e8 e9 e10 (nI 1) H.size) (cwV 1 hts gX2_hang_X2_no rfl rfl rfl k_X2_no ⟨Nat.le_of_ble_eq_true rfl, Nat.le_of_ble_eq_true rfl⟩) (mv_pre hK hPc hDc rfl rfl rfl) rfl rfl hl.1 rfl (lv_room (Nat.le_of_ble_eq_true rfl)) dX2_hang_24 ⟨Nat.le_of_ble_eq_true rfl, Nat.le_of_ble_eq_true rfl⟩) hS hFc (fun r1 H locs hB hk1 hS => ?_)
    obtain ⟨rfl, hP1⟩ := hB
    obtain ⟨hP, hD⟩ := jn (wb := [(u, .inr (2, [.int (nI 1), .int (nI n), .int (nI w), .ref c1, .ref c2, .ref c3, .ref c4, .int e7, .int e8, .int e9, .int e10])), (c1, .inl (cI, 40, .inl F)), (c2, .inl (cI, 40, .inl V)), (c3, .inl (cI, 40, .inl O)), (c4, .inl (cI, 40, .inl Y))]) (w1 := [(u, .inr (2, [.int (nI 1), .int (nI n), .int (nI w), .ref c1, .ref c2, .ref c3, .ref c4, .int e7, .int e8, .int e9, .int e10])), (c1, .inl (cI, 40, .inl F)), (c2, .inl (cI, 40, .inl V)), (c3, .inl (cI, 40, .inl O)), (c4, .inl (cI, 40, .inl Y))]) hP hD [0, 1, 2, 3, 4] [] rfl rfl rfl rfl 5 rfl (by decide) (by decide) hk1 hP1
    exact em_i hx hb hr hlocks hS (⟨_, _, _, _, _, F, V, f, g, Or.inl ⟨fun z => isI_no (by decide) (by decide) c9 z.1, rfl, rfl, rfl⟩, S, hP⟩) dX2_hang_27
  · skip
    refine lv_iload_n hx hb dX2_hang_12 rfl (lv_at hl 2 rfl) ?_
    refine lv_iconst (v := nI 1) hx hb dX2_hang_13 (by decide) ?_
    refine lv_bipush (v := nI 99) hx hb dX2_hang_14 (by decide) ?_
    refine pz_i (wc := []) CF (m_X2_isIn l D cI y (nI 1) (nI 99)) (va_cwS 3 hts gX2_hang_X2_isIn rfl rfl rfl k_X2_isIn.2 ⟨Nat.le_of_ble_eq_true rfl, Nat.le_of_ble_eq_true rfl⟩) hK (fun k q h => by simp at h) rfl hl.1 rfl (Nat.le_of_ble_eq_true rfl) dX2_hang_16 ⟨Nat.le_of_ble_eq_true rfl, Nat.le_of_ble_eq_true rfl⟩ ?_
    refine lv_if_ne (tgt := 28) hx hb dX2_hang_19 (by decide) (fun c19 => ?_) (fun c19 => ?_)
    · skip
      obtain ⟨v, -, hv9, rfl⟩ := isI_yes (a := 0) (b := 9999) (by decide) (by decide) c9
      obtain ⟨z, hz1, hz9, rfl⟩ := isI_yes (a := 1) (b := 99) (by decide) (by decide) c19
      refine lv_aload_n hx hb dX2_hang_28 rfl (lv_at hl 0 rfl) ?_
      refine lv_iload_n hx hb dX2_hang_29 rfl (lv_at hl 1 rfl) ?_
      have hPc : va_P D vwCl [(u, .inr (2, [.int (nI 0), .int (nI n), .int (nI w), .ref c1, .ref c2, .ref c3, .ref c4, .int e7, .int e8, .int e9, .int e10])), (c1, .inl (cI, 40, .inl F)), (c2, .inl (cI, 40, .inl V)), (c3, .inl (cI, 40, .inl O)), (c4, .inl (cI, 40, .inl Y))] H := hP.sub [0, 1, 2, 3, 4] rfl
      have hDc : va_D A [(u, .inr (2, [.int (nI 0), .int (nI n), .int (nI w), .ref c1, .ref c2, .ref c3, .ref c4, .int e7, .int e8, .int e9, .int e10])), (c1, .inl (cI, 40, .inl F)), (c2, .inl (cI, 40, .inl V)), (c3, .inl (cI, 40, .inl O)), (c4, .inl (cI, 40, .inl Y))] := hD.sub [0, 1, 2, 3, 4] (by decide) rfl
      have hFc := va_free (wc := [(u, .inr (2, [.int (nI 0), .int (nI n), .int (nI w), .ref c1, .ref c2, .ref c3, .ref c4, .int e7, .int e8, .int e9, .int e10])), (c1, .inl (cI, 40, .inl F)), (c2, .inl (cI, 40, .inl V)), (c3, .inl (cI, 40, .inl O)), (c4, .inl (cI, 40, .inl Y))]) hD hS hA [0, 1, 2, 3, 4] rfl
      refine pq_i (va_runV (rest := []) CF (m_X2_place l D cI u c1 c2 c3 c4 S O Y (nI 0) e7 e8 e9 e10 v hv9 H.size) (cwV 1 hts gX2_hang_X2_place rfl rfl rfl k_X2_place ⟨Nat.le_of_ble_eq_true rfl, Nat.le_of_ble_eq_true rfl⟩) (mv_pre hK hPc hDc rfl rfl rfl) rfl rfl hl.1 rfl (lv_room (Nat.le_of_ble_eq_true rfl)) dX2_hang_30 ⟨Nat.le_of_ble_eq_true rfl, Nat.le_of_ble_eq_true rfl⟩) hS hFc (fun r1 H locs hB hk1 hS => ?_)
      obtain ⟨rfl, d7, d8, d9, d10, hP1⟩ := hB
      obtain ⟨hP, hD⟩ := jn (wb := [(u, .inr (2, [.int (nI 0), .int (nI n), .int (nI w), .ref c1, .ref c2, .ref c3, .ref c4, .int d7, .int d8, .int d9, .int d10])), (c1, .inl (cI, 40, .inl F)), (c2, .inl (cI, 40, .inl V)), (c3, .inl (cI, 40, .inl O)), (c4, .inl (cI, 40, .inl Y))]) (w1 := [(u, .inr (2, [.int (nI 0), .int (nI n), .int (nI w), .ref c1, .ref c2, .ref c3, .ref c4, .int d7, .int d8, .int d9, .int d10])), (c1, .inl (cI, 40, .inl F)), (c2, .inl (cI, 40, .inl V)), (c3, .inl (cI, 40, .inl O)), (c4, .inl (cI, 40, .inl Y))]) hP hD [0, 1, 2, 3, 4] [] rfl rfl rfl rfl 5 rfl (by decide) (by decide) hk1 hP1
      refine lv_istore_n (lv' := [(3, .int (pl n w f v)), (0, .ref u), (1, .int (nI v)), (2, .int (nI z))]) hx hb dX2_hang_33 rfl hl (by decide) rfl (fun ls hl => ?_)
      refine lv_iload_n hx hb dX2_hang_34 rfl (lv_at hl 0 rfl) ?_
      refine lv_iconst (v := (-1)) hx hb dX2_hang_35 (by decide) ?_
      refine lv_icmp_ne (tgt := 47) hx hb dX2_hang_36 (by decide) (fun c36 => ?_) (fun c36 => ?_)
      · skip
        obtain ⟨k, hk, ek⟩ := pl_cases (show 0 < n by omega) c36
        rw [ek] at hl
        refine lv_aload_n hx hb dX2_hang_47 rfl (lv_at hl 1 rfl) ?_
        refine lv_iload_n hx hb dX2_hang_48 rfl (lv_at hl 0 rfl) ?_
        refine lv_iload_n hx hb dX2_hang_49 rfl (lv_at hl 2 rfl) ?_
        refine lv_iload_n hx hb dX2_hang_50 rfl (lv_at hl 3 rfl) ?_
        have hPc : va_P D vwCl [(u, .inr (2, [.int (nI 0), .int (nI n), .int (nI w), .ref c1, .ref c2, .ref c3, .ref c4, .int d7, .int d8, .int d9, .int d10])), (c1, .inl (cI, 40, .inl F)), (c2, .inl (cI, 40, .inl V)), (c3, .inl (cI, 40, .inl O)), (c4, .inl (cI, 40, .inl Y))] H := hP.sub [0, 1, 2, 3, 4] rfl
        have hDc : va_D A [(u, .inr (2, [.int (nI 0), .int (nI n), .int (nI w), .ref c1, .ref c2, .ref c3, .ref c4, .int d7, .int d8, .int d9, .int d10])), (c1, .inl (cI, 40, .inl F)), (c2, .inl (cI, 40, .inl V)), (c3, .inl (cI, 40, .inl O)), (c4, .inl (cI, 40, .inl Y))] := hD.sub [0, 1, 2, 3, 4] (by decide) rfl
        have hFc := va_free (wc := [(u, .inr (2, [.int (nI 0), .int (nI n), .int (nI w), .ref c1, .ref c2, .ref c3, .ref c4, .int d7, .int d8, .int d9, .int d10])), (c1, .inl (cI, 40, .inl F)), (c2, .inl (cI, 40, .inl V)), (c3, .inl (cI, 40, .inl O)), (c4, .inl (cI, 40, .inl Y))]) hD hS hA [0, 1, 2, 3, 4] rfl
        refine pq_i (va_runV (rest := []) CF (m_X2_hung l D cI u c1 c2 c3 c4 S O Y (nI 0) d7 d8 d9 d10 k (nI v) (nI z) (by omega) H.size) (cwV 3 hts gX2_hang_X2_hung rfl rfl rfl k_X2_hung ⟨Nat.le_of_ble_eq_true rfl, Nat.le_of_ble_eq_true rfl⟩) (mv_pre hK hPc hDc rfl rfl rfl) rfl rfl hl.1 rfl (lv_room (Nat.le_of_ble_eq_true rfl)) dX2_hang_51 ⟨Nat.le_of_ble_eq_true rfl, Nat.le_of_ble_eq_true rfl⟩) hS hFc (fun r1 H locs hB hk1 hS => ?_)
        obtain ⟨rfl, hP1⟩ := hB
        obtain ⟨hP, hD⟩ := jn (wb := [(u, .inr (2, [.int (nI 0), .int (nI n), .int (nI w), .ref c1, .ref c2, .ref c3, .ref c4, .int d7, .int d8, .int d9, .int d10])), (c1, .inl (cI, 40, .inl (upd F k (nI v)))), (c2, .inl (cI, 40, .inl (upd V k (nI z)))), (c3, .inl (cI, 40, .inl O)), (c4, .inl (cI, 40, .inl Y))]) (w1 := [(u, .inr (2, [.int (nI 0), .int (nI n), .int (nI w), .ref c1, .ref c2, .ref c3, .ref c4, .int d7, .int d8, .int d9, .int d10])), (c1, .inl (cI, 40, .inl (upd F k (nI v)))), (c2, .inl (cI, 40, .inl (upd V k (nI z)))), (c3, .inl (cI, 40, .inl O)), (c4, .inl (cI, 40, .inl Y))]) hP hD [0, 1, 2, 3, 4] [] rfl rfl rfl rfl 5 rfl (by decide) (by decide) hk1 hP1
        exact em_i hx hb hr hlocks hS (⟨_, _, _, _, _, _, _, upd f k (nI v), upd g k (nI z), Or.inr ⟨v, z, hv9, rfl, hz1, hz9, rfl, Or.inr ⟨k, hk, ek, rfl, rfl, rfl, rfl⟩⟩, S.put hv9 hz1 hz9, hP⟩) dX2_hang_54
      · skip
        refine lv_aload_n hx hb dX2_hang_39 rfl (lv_at hl 1 rfl) ?_
        refine lv_iconst (v := nI 2) hx hb dX2_hang_40 (by decide) ?_
        have hPc : va_P D vwCl [(u, .inr (2, [.int (nI 0), .int (nI n), .int (nI w), .ref c1, .ref c2, .ref c3, .ref c4, .int d7, .int d8, .int d9, .int d10])), (c1, .inl (cI, 40, .inl F)), (c2, .inl (cI, 40, .inl V)), (c3, .inl (cI, 40, .inl O)), (c4, .inl (cI, 40, .inl Y))] H := hP.sub [0, 1, 2, 3, 4] rfl
        have hDc : va_D A [(u, .inr (2, [.int (nI 0), .int (nI n), .int (nI w), .ref c1, .ref c2, .ref c3, .ref c4, .int d7, .int d8, .int d9, .int d10])), (c1, .inl (cI, 40, .inl F)), (c2, .inl (cI, 40, .inl V)), (c3, .inl (cI, 40, .inl O)), (c4, .inl (cI, 40, .inl Y))] := hD.sub [0, 1, 2, 3, 4] (by decide) rfl
        have hFc := va_free (wc := [(u, .inr (2, [.int (nI 0), .int (nI n), .int (nI w), .ref c1, .ref c2, .ref c3, .ref c4, .int d7, .int d8, .int d9, .int d10])), (c1, .inl (cI, 40, .inl F)), (c2, .inl (cI, 40, .inl V)), (c3, .inl (cI, 40, .inl O)), (c4, .inl (cI, 40, .inl Y))]) hD hS hA [0, 1, 2, 3, 4] rfl
        refine pq_i (va_runV (rest := []) CF (m_X2_no l D cI u c1 c2 c3 c4 S O Y (nI 0) d7 d8 d9 d10 (nI 2) H.size) (cwV 1 hts gX2_hang_X2_no rfl rfl rfl k_X2_no ⟨Nat.le_of_ble_eq_true rfl, Nat.le_of_ble_eq_true rfl⟩) (mv_pre hK hPc hDc rfl rfl rfl) rfl rfl hl.1 rfl (lv_room (Nat.le_of_ble_eq_true rfl)) dX2_hang_41 ⟨Nat.le_of_ble_eq_true rfl, Nat.le_of_ble_eq_true rfl⟩) hS hFc (fun r1 H locs hB hk1 hS => ?_)
        obtain ⟨rfl, hP1⟩ := hB
        obtain ⟨hP, hD⟩ := jn (wb := [(u, .inr (2, [.int (nI 2), .int (nI n), .int (nI w), .ref c1, .ref c2, .ref c3, .ref c4, .int d7, .int d8, .int d9, .int d10])), (c1, .inl (cI, 40, .inl F)), (c2, .inl (cI, 40, .inl V)), (c3, .inl (cI, 40, .inl O)), (c4, .inl (cI, 40, .inl Y))]) (w1 := [(u, .inr (2, [.int (nI 2), .int (nI n), .int (nI w), .ref c1, .ref c2, .ref c3, .ref c4, .int d7, .int d8, .int d9, .int d10])), (c1, .inl (cI, 40, .inl F)), (c2, .inl (cI, 40, .inl V)), (c3, .inl (cI, 40, .inl O)), (c4, .inl (cI, 40, .inl Y))]) hP hD [0, 1, 2, 3, 4] [] rfl rfl rfl rfl 5 rfl (by decide) (by decide) hk1 hP1
        refine lv_goto (tgt := 54) hx hb dX2_hang_44 (by decide) ?_
        exact em_i hx hb hr hlocks hS (⟨_, _, _, _, _, F, V, f, g, Or.inr ⟨v, z, hv9, rfl, hz1, hz9, rfl, Or.inl ⟨c36, rfl, rfl, rfl⟩⟩, S, hP⟩) dX2_hang_54
    · skip
      refine lv_aload_n hx hb dX2_hang_22 rfl (lv_at hl 0 rfl) ?_
      refine lv_iconst (v := nI 1) hx hb dX2_hang_23 (by decide) ?_
      have hPc : va_P D vwCl [(u, .inr (2, [.int (nI 0), .int (nI n), .int (nI w), .ref c1, .ref c2, .ref c3, .ref c4, .int e7, .int e8, .int e9, .int e10])), (c1, .inl (cI, 40, .inl F)), (c2, .inl (cI, 40, .inl V)), (c3, .inl (cI, 40, .inl O)), (c4, .inl (cI, 40, .inl Y))] H := hP.sub [0, 1, 2, 3, 4] rfl
      have hDc : va_D A [(u, .inr (2, [.int (nI 0), .int (nI n), .int (nI w), .ref c1, .ref c2, .ref c3, .ref c4, .int e7, .int e8, .int e9, .int e10])), (c1, .inl (cI, 40, .inl F)), (c2, .inl (cI, 40, .inl V)), (c3, .inl (cI, 40, .inl O)), (c4, .inl (cI, 40, .inl Y))] := hD.sub [0, 1, 2, 3, 4] (by decide) rfl
      have hFc := va_free (wc := [(u, .inr (2, [.int (nI 0), .int (nI n), .int (nI w), .ref c1, .ref c2, .ref c3, .ref c4, .int e7, .int e8, .int e9, .int e10])), (c1, .inl (cI, 40, .inl F)), (c2, .inl (cI, 40, .inl V)), (c3, .inl (cI, 40, .inl O)), (c4, .inl (cI, 40, .inl Y))]) hD hS hA [0, 1, 2, 3, 4] rfl
      refine pq_i (va_runV (rest := []) CF (m_X2_no l D cI u c1 c2 c3 c4 S O Y (nI 0) e7 e8 e9 e10 (nI 1) H.size) (cwV 1 hts gX2_hang_X2_no rfl rfl rfl k_X2_no ⟨Nat.le_of_ble_eq_true rfl, Nat.le_of_ble_eq_true rfl⟩) (mv_pre hK hPc hDc rfl rfl rfl) rfl rfl hl.1 rfl (lv_room (Nat.le_of_ble_eq_true rfl)) dX2_hang_24 ⟨Nat.le_of_ble_eq_true rfl, Nat.le_of_ble_eq_true rfl⟩) hS hFc (fun r1 H locs hB hk1 hS => ?_)
      obtain ⟨rfl, hP1⟩ := hB
      obtain ⟨hP, hD⟩ := jn (wb := [(u, .inr (2, [.int (nI 1), .int (nI n), .int (nI w), .ref c1, .ref c2, .ref c3, .ref c4, .int e7, .int e8, .int e9, .int e10])), (c1, .inl (cI, 40, .inl F)), (c2, .inl (cI, 40, .inl V)), (c3, .inl (cI, 40, .inl O)), (c4, .inl (cI, 40, .inl Y))]) (w1 := [(u, .inr (2, [.int (nI 1), .int (nI n), .int (nI w), .ref c1, .ref c2, .ref c3, .ref c4, .int e7, .int e8, .int e9, .int e10])), (c1, .inl (cI, 40, .inl F)), (c2, .inl (cI, 40, .inl V)), (c3, .inl (cI, 40, .inl O)), (c4, .inl (cI, 40, .inl Y))]) hP hD [0, 1, 2, 3, 4] [] rfl rfl rfl rfl 5 rfl (by decide) (by decide) hk1 hP1
      exact em_i hx hb hr hlocks hS (⟨_, _, _, _, _, F, V, f, g, Or.inl ⟨fun z => isI_no (by decide) (by decide) c19 z.2, rfl, rfl, rfl⟩, S, hP⟩) dX2_hang_27
theorem k_X2_take : yX2_take.cls = RX2 ∧ yX2_take.cls ≠ "java/lang/invoke/MethodHandle" ∧ yX2_take.cls ≠ "java/lang/invoke/VarHandle" ∧ (parseMethodDescriptor yX2_take.desc).map (fun d => d.parameters.length) = some 1 := by decide +kernel
set_option maxHeartbeats 4000000 in
set_option maxRecDepth 100000 in
theorem m_X2_take (l : Launch) (D : va_G) (cI : ClassId) (u c1 c2 c3 c4 : Nat) {n w : Nat} {F V f g : Nat → Int32} (S : MS n w F V f g) (O Y : Nat → Int32) (e0 e7 e8 e9 e10 : Int32) (x : Int32) (sz : Nat) : Met l yX2_take wsX2_take ({ frames := 2, cells := 0, slots := 0, locals := 47 } : Room) (PM D [(cI, .int)] [.ref u, .int x] sz (mdw cI u c1 c2 c3 c4 e0 n w F V O Y e7 e8 e9 e10)) (qm_i (fun rr H1 => ∃ (c d7 d8 d9 d10 : Int32) (F3 V3 f3 g3 : Nat → Int32), Qt n w f g x c rr f3 g3 ∧ MS n w F3 V3 f3 g3 ∧ va_P D vwCl (mdw cI u c1 c2 c3 c4 c n w F3 V3 O Y d7 d8 d9 d10) H1) (va_A (mdw cI u c1 c2 c3 c4 e0 n w F V O Y e7 e8 e9 e10) sz)) 0 0 (va_A (mdw cI u c1 c2 c3 c4 e0 n w F V O Y e7 e8 e9 e10) sz) := by
  obtain ⟨hn3, hn, hw2, hF, hV, hO⟩ := id S
  refine bd_m (Qc := (fun A => qm_i (fun rr H1 => ∃ (c d7 d8 d9 d10 : Int32) (F3 V3 f3 g3 : Nat → Int32), Qt n w f g x c rr f3 g3 ∧ MS n w F3 V3 f3 g3 ∧ va_P D vwCl (mdw cI u c1 c2 c3 c4 c n w F3 V3 O Y d7 d8 d9 d10) H1) A)) (cc := cX2_take) (maxL := 2) (ret := (some .int)) (by decide) rfl (Nat.le_of_ble_eq_true rfl) ?_
  intro p e s m args below meth c ls A CF hr hlocks hK hP hD hA hS hl hin
  obtain ⟨hx, hb, hml, hown, hts⟩ := id CF
  have hl : lv_has ls 2 [(0, .ref u), (1, .int x)] := hl
  have hP : va_P D vwCl [(u, .inr (2, [.int e0, .int (nI n), .int (nI w), .ref c1, .ref c2, .ref c3, .ref c4, .int e7, .int e8, .int e9, .int e10])), (c1, .inl (cI, 40, .inl F)), (c2, .inl (cI, 40, .inl V)), (c3, .inl (cI, 40, .inl O)), (c4, .inl (cI, 40, .inl Y))] s.heap := hP
  have hD : va_D A [(u, .inr (2, [.int e0, .int (nI n), .int (nI w), .ref c1, .ref c2, .ref c3, .ref c4, .int e7, .int e8, .int e9, .int e10])), (c1, .inl (cI, 40, .inl F)), (c2, .inl (cI, 40, .inl V)), (c3, .inl (cI, 40, .inl O)), (c4, .inl (cI, 40, .inl Y))] := hD
  generalize hH0 : s.heap = H at hP
  have hS : va_S A s.heap H [] := by rw [← hH0]; exact va_S.rf
  generalize hlc0 : ([] : List Loc) = locs at hS ⊢
  refine lv_aload_n hx hb dX2_take_0 rfl (lv_at hl 0 rfl) ?_
  refine lv_iconst (v := nI 0) hx hb dX2_take_1 (by decide) ?_
  refine va_put (D := D) (ci := 2) (v := .int (nI 0)) (ty := .int) (C := RX2) (T := TX2) (N := 11) hx hb hts (fun _ h => (List.mem_cons_of_mem _ (List.mem_append_right _ h))) tyX2 tyX2_ok nmX2 hown hK hP hD hS 0 rfl rfl 0 (by decide) (hts _ (List.mem_of_getElem? (i := 1) rfl)) (fun _ h9 => h9) rfl (by decide +kernel) rfl rfl (Nat.le_of_ble_eq_true rfl) dX2_take_2 (fun H locs hP hD hS => ?_)
  have hP : va_P D vwCl [(u, .inr (2, [.int (nI 0), .int (nI n), .int (nI w), .ref c1, .ref c2, .ref c3, .ref c4, .int e7, .int e8, .int e9, .int e10])), (c1, .inl (cI, 40, .inl F)), (c2, .inl (cI, 40, .inl V)), (c3, .inl (cI, 40, .inl O)), (c4, .inl (cI, 40, .inl Y))] H := hP
  have hD : va_D A [(u, .inr (2, [.int (nI 0), .int (nI n), .int (nI w), .ref c1, .ref c2, .ref c3, .ref c4, .int e7, .int e8, .int e9, .int e10])), (c1, .inl (cI, 40, .inl F)), (c2, .inl (cI, 40, .inl V)), (c3, .inl (cI, 40, .inl O)), (c4, .inl (cI, 40, .inl Y))] := hD
  refine lv_iload_n hx hb dX2_take_5 rfl (lv_at hl 1 rfl) ?_
  refine pz_i (wc := []) CF (m_X2_isNumber l D cI x) (va_cwS 1 hts gX2_take_X2_isNumber rfl rfl rfl k_X2_isNumber.2 ⟨Nat.le_of_ble_eq_true rfl, Nat.le_of_ble_eq_true rfl⟩) hK (fun k q h => by simp at h) rfl hl.1 rfl (Nat.le_of_ble_eq_true rfl) dX2_take_6 ⟨Nat.le_of_ble_eq_true rfl, Nat.le_of_ble_eq_true rfl⟩ ?_
  refine lv_if_ne (tgt := 18) hx hb dX2_take_9 (by decide) (fun c9 => ?_) (fun c9 => ?_)
  · skip
    obtain ⟨v, -, hv9, rfl⟩ := isI_yes (a := 0) (b := 9999) (by decide) (by decide) c9
    refine lv_aload_n hx hb dX2_take_18 rfl (lv_at hl 0 rfl) ?_
    refine lv_iload_n hx hb dX2_take_19 rfl (lv_at hl 1 rfl) ?_
    have hPc : va_P D vwCl [(u, .inr (2, [.int (nI 0), .int (nI n), .int (nI w), .ref c1, .ref c2, .ref c3, .ref c4, .int e7, .int e8, .int e9, .int e10])), (c1, .inl (cI, 40, .inl F)), (c2, .inl (cI, 40, .inl V)), (c3, .inl (cI, 40, .inl O)), (c4, .inl (cI, 40, .inl Y))] H := hP.sub [0, 1, 2, 3, 4] rfl
    have hDc : va_D A [(u, .inr (2, [.int (nI 0), .int (nI n), .int (nI w), .ref c1, .ref c2, .ref c3, .ref c4, .int e7, .int e8, .int e9, .int e10])), (c1, .inl (cI, 40, .inl F)), (c2, .inl (cI, 40, .inl V)), (c3, .inl (cI, 40, .inl O)), (c4, .inl (cI, 40, .inl Y))] := hD.sub [0, 1, 2, 3, 4] (by decide) rfl
    have hFc := va_free (wc := [(u, .inr (2, [.int (nI 0), .int (nI n), .int (nI w), .ref c1, .ref c2, .ref c3, .ref c4, .int e7, .int e8, .int e9, .int e10])), (c1, .inl (cI, 40, .inl F)), (c2, .inl (cI, 40, .inl V)), (c3, .inl (cI, 40, .inl O)), (c4, .inl (cI, 40, .inl Y))]) hD hS hA [0, 1, 2, 3, 4] rfl
    refine pq_v (va_runV (rest := []) CF (m_X2_lookNow l D cI u c1 c2 c3 c4 S O Y (nI 0) e7 e8 e9 e10 v hv9 H.size) (cwV 1 hts gX2_take_X2_lookNow rfl rfl rfl k_X2_lookNow ⟨Nat.le_of_ble_eq_true rfl, Nat.le_of_ble_eq_true rfl⟩) (mv_pre hK hPc hDc rfl rfl rfl) rfl rfl hl.1 rfl (lv_room (Nat.le_of_ble_eq_true rfl)) dX2_take_20 ⟨Nat.le_of_ble_eq_true rfl, Nat.le_of_ble_eq_true rfl⟩) hS hFc (fun H locs hB hk1 hS => ?_)
    have hP1 := hB
    obtain ⟨hP, hD⟩ := jn (wb := [(u, .inr (2, [.int (nI 0), .int (nI n), .int (nI w), .ref c1, .ref c2, .ref c3, .ref c4, .int (nI (lk n w f v)), .int (fd n w f v), .int (fr n w f v), .int (tk n w f v (lk n w f v))])), (c1, .inl (cI, 40, .inl F)), (c2, .inl (cI, 40, .inl V)), (c3, .inl (cI, 40, .inl O)), (c4, .inl (cI, 40, .inl Y))]) (w1 := [(u, .inr (2, [.int (nI 0), .int (nI n), .int (nI w), .ref c1, .ref c2, .ref c3, .ref c4, .int (nI (lk n w f v)), .int (fd n w f v), .int (fr n w f v), .int (tk n w f v (lk n w f v))])), (c1, .inl (cI, 40, .inl F)), (c2, .inl (cI, 40, .inl V)), (c3, .inl (cI, 40, .inl O)), (c4, .inl (cI, 40, .inl Y))]) hP hD [0, 1, 2, 3, 4] [] rfl rfl rfl rfl 5 rfl (by decide) (by decide) hk1 hP1
    refine lv_aload_n hx hb dX2_take_23 rfl (lv_at hl 0 rfl) ?_
    refine va_get (D := D) (ci := 2) (v := .int (fd n w f v)) (C := RX2) (T := TX2) (N := 11) hx hb hts (fun _ h => (List.mem_cons_of_mem _ (List.mem_append_right _ h))) hown hK hP 0 rfl rfl 8 (by decide) (hts _ (List.mem_of_getElem? (i := 2) rfl)) (fun _ h9 => h9) rfl dX2_take_24 ?_
    refine lv_iconst (v := (-1)) hx hb dX2_take_27 (by decide) ?_
    refine lv_icmp_ne (tgt := 37) hx hb dX2_take_28 (by decide) (fun c28 => ?_) (fun c28 => ?_)
    · skip
      obtain ⟨ek, efk⟩ := fd_cases (show 0 < n by omega) hn c28
      have hk := la_lt (show 0 < n by omega) w f v
      rw [ek] at hP hD
      refine lv_aload_n hx hb dX2_take_37 rfl (lv_at hl 0 rfl) ?_
      refine va_get (D := D) (ci := 2) (v := .ref c1) (C := RX2) (T := TX2) (N := 11) hx hb hts (fun _ h => (List.mem_cons_of_mem _ (List.mem_append_right _ h))) hown hK hP 0 rfl rfl 3 (by decide) (hts _ (List.mem_of_getElem? (i := 3) rfl)) (fun _ h9 => h9) rfl dX2_take_38 ?_
      refine lv_aload_n hx hb dX2_take_41 rfl (lv_at hl 0 rfl) ?_
      refine va_get (D := D) (ci := 2) (v := .int (nI (la n w f v))) (C := RX2) (T := TX2) (N := 11) hx hb hts (fun _ h => (List.mem_cons_of_mem _ (List.mem_append_right _ h))) hown hK hP 0 rfl rfl 8 (by decide) (hts _ (List.mem_of_getElem? (i := 2) rfl)) (fun _ h9 => h9) rfl dX2_take_42 ?_
      refine lv_bipush (v := (-2)) hx hb dX2_take_45 (by decide) ?_
      refine as_i hx hb hK hP hD hS 1 0 rfl rfl (k := (la n w f v)) (by omega) (by omega) dX2_take_47 (fun H locs hP hD hS => ?_)
      have hP : va_P D vwCl [(u, .inr (2, [.int (nI 0), .int (nI n), .int (nI w), .ref c1, .ref c2, .ref c3, .ref c4, .int (nI (lk n w f v)), .int (nI (la n w f v)), .int (fr n w f v), .int (tk n w f v (lk n w f v))])), (c1, .inl (cI, 40, .inl (upd F (la n w f v) (-2)))), (c2, .inl (cI, 40, .inl V)), (c3, .inl (cI, 40, .inl O)), (c4, .inl (cI, 40, .inl Y))] H := hP
      have hD : va_D A [(u, .inr (2, [.int (nI 0), .int (nI n), .int (nI w), .ref c1, .ref c2, .ref c3, .ref c4, .int (nI (lk n w f v)), .int (nI (la n w f v)), .int (fr n w f v), .int (tk n w f v (lk n w f v))])), (c1, .inl (cI, 40, .inl (upd F (la n w f v) (-2)))), (c2, .inl (cI, 40, .inl V)), (c3, .inl (cI, 40, .inl O)), (c4, .inl (cI, 40, .inl Y))] := hD
      refine lv_aload_n hx hb dX2_take_48 rfl (lv_at hl 0 rfl) ?_
      refine va_get (D := D) (ci := 2) (v := .ref c2) (C := RX2) (T := TX2) (N := 11) hx hb hts (fun _ h => (List.mem_cons_of_mem _ (List.mem_append_right _ h))) hown hK hP 0 rfl rfl 4 (by decide) (hts _ (List.mem_of_getElem? (i := 4) rfl)) (fun _ h9 => h9) rfl dX2_take_49 ?_
      refine lv_aload_n hx hb dX2_take_52 rfl (lv_at hl 0 rfl) ?_
      refine va_get (D := D) (ci := 2) (v := .int (nI (la n w f v))) (C := RX2) (T := TX2) (N := 11) hx hb hts (fun _ h => (List.mem_cons_of_mem _ (List.mem_append_right _ h))) hown hK hP 0 rfl rfl 8 (by decide) (hts _ (List.mem_of_getElem? (i := 2) rfl)) (fun _ h9 => h9) rfl dX2_take_53 ?_
      refine al_i hx hb hK hP 2 0 rfl rfl (by omega) (by omega) dX2_take_56 ?_
      refine tp_i (y := (g (la n w f v))) (hV _ hk (by rw [efk]; exact nI_pos' (by omega))) ?_
      exact em_i hx hb hr hlocks hS (⟨_, _, _, _, _, _, _, upd f (la n w f v) (-2), upd g (la n w f v) (nI 0), Or.inr ⟨v, hv9, rfl, Or.inr ⟨ek, rfl, rfl, rfl, rfl⟩⟩, S.tick _, hP⟩) dX2_take_57
    · skip
      refine lv_aload_n hx hb dX2_take_31 rfl (lv_at hl 0 rfl) ?_
      refine lv_iconst (v := nI 2) hx hb dX2_take_32 (by decide) ?_
      have hPc : va_P D vwCl [(u, .inr (2, [.int (nI 0), .int (nI n), .int (nI w), .ref c1, .ref c2, .ref c3, .ref c4, .int (nI (lk n w f v)), .int (fd n w f v), .int (fr n w f v), .int (tk n w f v (lk n w f v))])), (c1, .inl (cI, 40, .inl F)), (c2, .inl (cI, 40, .inl V)), (c3, .inl (cI, 40, .inl O)), (c4, .inl (cI, 40, .inl Y))] H := hP.sub [0, 1, 2, 3, 4] rfl
      have hDc : va_D A [(u, .inr (2, [.int (nI 0), .int (nI n), .int (nI w), .ref c1, .ref c2, .ref c3, .ref c4, .int (nI (lk n w f v)), .int (fd n w f v), .int (fr n w f v), .int (tk n w f v (lk n w f v))])), (c1, .inl (cI, 40, .inl F)), (c2, .inl (cI, 40, .inl V)), (c3, .inl (cI, 40, .inl O)), (c4, .inl (cI, 40, .inl Y))] := hD.sub [0, 1, 2, 3, 4] (by decide) rfl
      have hFc := va_free (wc := [(u, .inr (2, [.int (nI 0), .int (nI n), .int (nI w), .ref c1, .ref c2, .ref c3, .ref c4, .int (nI (lk n w f v)), .int (fd n w f v), .int (fr n w f v), .int (tk n w f v (lk n w f v))])), (c1, .inl (cI, 40, .inl F)), (c2, .inl (cI, 40, .inl V)), (c3, .inl (cI, 40, .inl O)), (c4, .inl (cI, 40, .inl Y))]) hD hS hA [0, 1, 2, 3, 4] rfl
      refine pq_i (va_runV (rest := []) CF (m_X2_no l D cI u c1 c2 c3 c4 S O Y (nI 0) (nI (lk n w f v)) (fd n w f v) (fr n w f v) (tk n w f v (lk n w f v)) (nI 2) H.size) (cwV 1 hts gX2_take_X2_no rfl rfl rfl k_X2_no ⟨Nat.le_of_ble_eq_true rfl, Nat.le_of_ble_eq_true rfl⟩) (mv_pre hK hPc hDc rfl rfl rfl) rfl rfl hl.1 rfl (lv_room (Nat.le_of_ble_eq_true rfl)) dX2_take_33 ⟨Nat.le_of_ble_eq_true rfl, Nat.le_of_ble_eq_true rfl⟩) hS hFc (fun r1 H locs hB hk1 hS => ?_)
      obtain ⟨rfl, hP1⟩ := hB
      obtain ⟨hP, hD⟩ := jn (wb := [(u, .inr (2, [.int (nI 2), .int (nI n), .int (nI w), .ref c1, .ref c2, .ref c3, .ref c4, .int (nI (lk n w f v)), .int (fd n w f v), .int (fr n w f v), .int (tk n w f v (lk n w f v))])), (c1, .inl (cI, 40, .inl F)), (c2, .inl (cI, 40, .inl V)), (c3, .inl (cI, 40, .inl O)), (c4, .inl (cI, 40, .inl Y))]) (w1 := [(u, .inr (2, [.int (nI 2), .int (nI n), .int (nI w), .ref c1, .ref c2, .ref c3, .ref c4, .int (nI (lk n w f v)), .int (fd n w f v), .int (fr n w f v), .int (tk n w f v (lk n w f v))])), (c1, .inl (cI, 40, .inl F)), (c2, .inl (cI, 40, .inl V)), (c3, .inl (cI, 40, .inl O)), (c4, .inl (cI, 40, .inl Y))]) hP hD [0, 1, 2, 3, 4] [] rfl rfl rfl rfl 5 rfl (by decide) (by decide) hk1 hP1
      exact em_i hx hb hr hlocks hS (⟨_, _, _, _, _, F, V, f, g, Or.inr ⟨v, hv9, rfl, Or.inl ⟨c28, rfl, rfl, rfl⟩⟩, S, hP⟩) dX2_take_36
  · skip
    refine lv_aload_n hx hb dX2_take_12 rfl (lv_at hl 0 rfl) ?_
    refine lv_iconst (v := nI 1) hx hb dX2_take_13 (by decide) ?_
    have hPc : va_P D vwCl [(u, .inr (2, [.int (nI 0), .int (nI n), .int (nI w), .ref c1, .ref c2, .ref c3, .ref c4, .int e7, .int e8, .int e9, .int e10])), (c1, .inl (cI, 40, .inl F)), (c2, .inl (cI, 40, .inl V)), (c3, .inl (cI, 40, .inl O)), (c4, .inl (cI, 40, .inl Y))] H := hP.sub [0, 1, 2, 3, 4] rfl
    have hDc : va_D A [(u, .inr (2, [.int (nI 0), .int (nI n), .int (nI w), .ref c1, .ref c2, .ref c3, .ref c4, .int e7, .int e8, .int e9, .int e10])), (c1, .inl (cI, 40, .inl F)), (c2, .inl (cI, 40, .inl V)), (c3, .inl (cI, 40, .inl O)), (c4, .inl (cI, 40, .inl Y))] := hD.sub [0, 1, 2, 3, 4] (by decide) rfl
    have hFc := va_free (wc := [(u, .inr (2, [.int (nI 0), .int (nI n), .int (nI w), .ref c1, .ref c2, .ref c3, .ref c4, .int e7, .int e8, .int e9, .int e10])), (c1, .inl (cI, 40, .inl F)), (c2, .inl (cI, 40, .inl V)), (c3, .inl (cI, 40, .inl O)), (c4, .inl (cI, 40, .inl Y))]) hD hS hA [0, 1, 2, 3, 4] rfl
    refine pq_i (va_runV (rest := []) CF (m_X2_no l D cI u c1 c2 c3 c4 S O Y (nI 0) e7 e8 e9 e10 (nI 1) H.size) (cwV 1 hts gX2_take_X2_no rfl rfl rfl k_X2_no ⟨Nat.le_of_ble_eq_true rfl, Nat.le_of_ble_eq_true rfl⟩) (mv_pre hK hPc hDc rfl rfl rfl) rfl rfl hl.1 rfl (lv_room (Nat.le_of_ble_eq_true rfl)) dX2_take_14 ⟨Nat.le_of_ble_eq_true rfl, Nat.le_of_ble_eq_true rfl⟩) hS hFc (fun r1 H locs hB hk1 hS => ?_)
    obtain ⟨rfl, hP1⟩ := hB
    obtain ⟨hP, hD⟩ := jn (wb := [(u, .inr (2, [.int (nI 1), .int (nI n), .int (nI w), .ref c1, .ref c2, .ref c3, .ref c4, .int e7, .int e8, .int e9, .int e10])), (c1, .inl (cI, 40, .inl F)), (c2, .inl (cI, 40, .inl V)), (c3, .inl (cI, 40, .inl O)), (c4, .inl (cI, 40, .inl Y))]) (w1 := [(u, .inr (2, [.int (nI 1), .int (nI n), .int (nI w), .ref c1, .ref c2, .ref c3, .ref c4, .int e7, .int e8, .int e9, .int e10])), (c1, .inl (cI, 40, .inl F)), (c2, .inl (cI, 40, .inl V)), (c3, .inl (cI, 40, .inl O)), (c4, .inl (cI, 40, .inl Y))]) hP hD [0, 1, 2, 3, 4] [] rfl rfl rfl rfl 5 rfl (by decide) (by decide) hk1 hP1
    exact em_i hx hb hr hlocks hS (⟨_, _, _, _, _, F, V, f, g, Or.inl ⟨isI_no (by decide) (by decide) c9, rfl, rfl, rfl⟩, S, hP⟩) dX2_take_17
theorem k_X2_rehang : yX2_rehang.cls = RX2 ∧ yX2_rehang.cls ≠ "java/lang/invoke/MethodHandle" ∧ yX2_rehang.cls ≠ "java/lang/invoke/VarHandle" ∧ (parseMethodDescriptor yX2_rehang.desc).map (fun d => d.parameters.length) = some 2 := by decide +kernel
set_option maxHeartbeats 4000000 in
set_option maxRecDepth 100000 in
theorem m_X2_rehang (l : Launch) (D : va_G) (cI : ClassId) (u c1 c2 c3 c4 : Nat) {n w : Nat} {F V f g : Nat → Int32} (S : MS n w F V f g) (O Y : Nat → Int32) (e0 e7 e8 e9 e10 : Int32) (x y : Int32) (sz : Nat) : Met l yX2_rehang wsX2_rehang ({ frames := 2, cells := 0, slots := 0, locals := 50 } : Room) (PM D [(cI, .int)] [.ref u, .int x, .int y] sz (mdw cI u c1 c2 c3 c4 e0 n w F V O Y e7 e8 e9 e10)) (qm_i (fun rr H1 => ∃ (c d7 d8 d9 d10 : Int32) (n3 w3 : Nat) (F3 V3 O3 Y3 f3 g3 : Nat → Int32), Qr n w f g x y c rr n3 w3 f3 g3 ∧ MS n3 w3 F3 V3 f3 g3 ∧ (va_P D vwCl (mdw cI u c1 c2 c3 c4 c n3 w3 F3 V3 O3 Y3 d7 d8 d9 d10) H1 ∨ va_P D vwCl [(u, .inr (2, [.int c, .int (nI n3), .int (nI w3), .ref c3, .ref c4, .ref c1, .ref c2, .int d7, .int d8, .int d9, .int d10])), (c1, .inl (cI, 40, .inl O3)), (c2, .inl (cI, 40, .inl Y3)), (c3, .inl (cI, 40, .inl F3)), (c4, .inl (cI, 40, .inl V3))] H1)) (va_A (mdw cI u c1 c2 c3 c4 e0 n w F V O Y e7 e8 e9 e10) sz)) 0 0 (va_A (mdw cI u c1 c2 c3 c4 e0 n w F V O Y e7 e8 e9 e10) sz) := by
  obtain ⟨hn3, hn, hw2, hF, hV, hO⟩ := id S
  refine bd_m (Qc := (fun A => qm_i (fun rr H1 => ∃ (c d7 d8 d9 d10 : Int32) (n3 w3 : Nat) (F3 V3 O3 Y3 f3 g3 : Nat → Int32), Qr n w f g x y c rr n3 w3 f3 g3 ∧ MS n3 w3 F3 V3 f3 g3 ∧ (va_P D vwCl (mdw cI u c1 c2 c3 c4 c n3 w3 F3 V3 O3 Y3 d7 d8 d9 d10) H1 ∨ va_P D vwCl [(u, .inr (2, [.int c, .int (nI n3), .int (nI w3), .ref c3, .ref c4, .ref c1, .ref c2, .int d7, .int d8, .int d9, .int d10])), (c1, .inl (cI, 40, .inl O3)), (c2, .inl (cI, 40, .inl Y3)), (c3, .inl (cI, 40, .inl F3)), (c4, .inl (cI, 40, .inl V3))] H1)) A)) (cc := cX2_rehang) (maxL := 5) (ret := (some .int)) (by decide) rfl (Nat.le_of_ble_eq_true rfl) ?_
  intro p e s m args below meth c ls A CF hr hlocks hK hP hD hA hS hl hin
  obtain ⟨hx, hb, hml, hown, hts⟩ := id CF
  have hl : lv_has ls 5 [(0, .ref u), (1, .int x), (2, .int y)] := hl
  have hP : va_P D vwCl [(u, .inr (2, [.int e0, .int (nI n), .int (nI w), .ref c1, .ref c2, .ref c3, .ref c4, .int e7, .int e8, .int e9, .int e10])), (c1, .inl (cI, 40, .inl F)), (c2, .inl (cI, 40, .inl V)), (c3, .inl (cI, 40, .inl O)), (c4, .inl (cI, 40, .inl Y))] s.heap := hP
  have hD : va_D A [(u, .inr (2, [.int e0, .int (nI n), .int (nI w), .ref c1, .ref c2, .ref c3, .ref c4, .int e7, .int e8, .int e9, .int e10])), (c1, .inl (cI, 40, .inl F)), (c2, .inl (cI, 40, .inl V)), (c3, .inl (cI, 40, .inl O)), (c4, .inl (cI, 40, .inl Y))] := hD
  generalize hH0 : s.heap = H at hP
  have hS : va_S A s.heap H [] := by rw [← hH0]; exact va_S.rf
  generalize hlc0 : ([] : List Loc) = locs at hS ⊢
  refine lv_aload_n hx hb dX2_rehang_0 rfl (lv_at hl 0 rfl) ?_
  refine lv_iconst (v := nI 0) hx hb dX2_rehang_1 (by decide) ?_
  refine va_put (D := D) (ci := 2) (v := .int (nI 0)) (ty := .int) (C := RX2) (T := TX2) (N := 11) hx hb hts (fun _ h => (List.mem_cons_of_mem _ (List.mem_append_right _ h))) tyX2 tyX2_ok nmX2 hown hK hP hD hS 0 rfl rfl 0 (by decide) (hts _ (List.mem_of_getElem? (i := 1) rfl)) (fun _ h9 => h9) rfl (by decide +kernel) rfl rfl (Nat.le_of_ble_eq_true rfl) dX2_rehang_2 (fun H locs hP hD hS => ?_)
  have hP : va_P D vwCl [(u, .inr (2, [.int (nI 0), .int (nI n), .int (nI w), .ref c1, .ref c2, .ref c3, .ref c4, .int e7, .int e8, .int e9, .int e10])), (c1, .inl (cI, 40, .inl F)), (c2, .inl (cI, 40, .inl V)), (c3, .inl (cI, 40, .inl O)), (c4, .inl (cI, 40, .inl Y))] H := hP
  have hD : va_D A [(u, .inr (2, [.int (nI 0), .int (nI n), .int (nI w), .ref c1, .ref c2, .ref c3, .ref c4, .int e7, .int e8, .int e9, .int e10])), (c1, .inl (cI, 40, .inl F)), (c2, .inl (cI, 40, .inl V)), (c3, .inl (cI, 40, .inl O)), (c4, .inl (cI, 40, .inl Y))] := hD
  refine lv_iload_n hx hb dX2_rehang_5 rfl (lv_at hl 1 rfl) ?_
  refine lv_iconst (v := nI 3) hx hb dX2_rehang_6 (by decide) ?_
  refine lv_bipush (v := nI 40) hx hb dX2_rehang_7 (by decide) ?_
  refine pz_i (wc := []) CF (m_X2_isIn l D cI x (nI 3) (nI 40)) (va_cwS 3 hts gX2_rehang_X2_isIn rfl rfl rfl k_X2_isIn.2 ⟨Nat.le_of_ble_eq_true rfl, Nat.le_of_ble_eq_true rfl⟩) hK (fun k q h => by simp at h) rfl hl.1 rfl (Nat.le_of_ble_eq_true rfl) dX2_rehang_9 ⟨Nat.le_of_ble_eq_true rfl, Nat.le_of_ble_eq_true rfl⟩ ?_
  refine lv_if_eq (tgt := 24) hx hb dX2_rehang_12 (by decide) (fun c12 => ?_) (fun c12 => ?_)
  · skip
    refine lv_aload_n hx hb dX2_rehang_24 rfl (lv_at hl 0 rfl) ?_
    refine lv_iconst (v := nI 1) hx hb dX2_rehang_25 (by decide) ?_
    have hPc : va_P D vwCl [(u, .inr (2, [.int (nI 0), .int (nI n), .int (nI w), .ref c1, .ref c2, .ref c3, .ref c4, .int e7, .int e8, .int e9, .int e10])), (c1, .inl (cI, 40, .inl F)), (c2, .inl (cI, 40, .inl V)), (c3, .inl (cI, 40, .inl O)), (c4, .inl (cI, 40, .inl Y))] H := hP.sub [0, 1, 2, 3, 4] rfl
    have hDc : va_D A [(u, .inr (2, [.int (nI 0), .int (nI n), .int (nI w), .ref c1, .ref c2, .ref c3, .ref c4, .int e7, .int e8, .int e9, .int e10])), (c1, .inl (cI, 40, .inl F)), (c2, .inl (cI, 40, .inl V)), (c3, .inl (cI, 40, .inl O)), (c4, .inl (cI, 40, .inl Y))] := hD.sub [0, 1, 2, 3, 4] (by decide) rfl
    have hFc := va_free (wc := [(u, .inr (2, [.int (nI 0), .int (nI n), .int (nI w), .ref c1, .ref c2, .ref c3, .ref c4, .int e7, .int e8, .int e9, .int e10])), (c1, .inl (cI, 40, .inl F)), (c2, .inl (cI, 40, .inl V)), (c3, .inl (cI, 40, .inl O)), (c4, .inl (cI, 40, .inl Y))]) hD hS hA [0, 1, 2, 3, 4] rfl
    refine pq_i (va_runV (rest := []) CF (m_X2_no l D cI u c1 c2 c3 c4 S O Y (nI 0) e7 e8 e9 e10 (nI 1) H.size) (cwV 1 hts gX2_rehang_X2_no rfl rfl rfl k_X2_no ⟨Nat.le_of_ble_eq_true rfl, Nat.le_of_ble_eq_true rfl⟩) (mv_pre hK hPc hDc rfl rfl rfl) rfl rfl hl.1 rfl (lv_room (Nat.le_of_ble_eq_true rfl)) dX2_rehang_26 ⟨Nat.le_of_ble_eq_true rfl, Nat.le_of_ble_eq_true rfl⟩) hS hFc (fun r1 H locs hB hk1 hS => ?_)
    obtain ⟨rfl, hP1⟩ := hB
    obtain ⟨hP, hD⟩ := jn (wb := [(u, .inr (2, [.int (nI 1), .int (nI n), .int (nI w), .ref c1, .ref c2, .ref c3, .ref c4, .int e7, .int e8, .int e9, .int e10])), (c1, .inl (cI, 40, .inl F)), (c2, .inl (cI, 40, .inl V)), (c3, .inl (cI, 40, .inl O)), (c4, .inl (cI, 40, .inl Y))]) (w1 := [(u, .inr (2, [.int (nI 1), .int (nI n), .int (nI w), .ref c1, .ref c2, .ref c3, .ref c4, .int e7, .int e8, .int e9, .int e10])), (c1, .inl (cI, 40, .inl F)), (c2, .inl (cI, 40, .inl V)), (c3, .inl (cI, 40, .inl O)), (c4, .inl (cI, 40, .inl Y))]) hP hD [0, 1, 2, 3, 4] [] rfl rfl rfl rfl 5 rfl (by decide) (by decide) hk1 hP1
    exact em_i hx hb hr hlocks hS (⟨_, _, _, _, _, n, w, F, V, _, _, f, g, Or.inl ⟨fun z => isI_no (by decide) (by decide) c12 z.1, rfl, rfl, rfl, rfl, rfl⟩, S, Or.inl hP⟩) dX2_rehang_29
  · skip
    refine lv_iload_n hx hb dX2_rehang_15 rfl (lv_at hl 2 rfl) ?_
    refine lv_iconst (v := nI 0) hx hb dX2_rehang_16 (by decide) ?_
    refine lv_iconst (v := nI 2) hx hb dX2_rehang_17 (by decide) ?_
    refine pz_i (wc := []) CF (m_X2_isIn l D cI y (nI 0) (nI 2)) (va_cwS 3 hts gX2_rehang_X2_isIn rfl rfl rfl k_X2_isIn.2 ⟨Nat.le_of_ble_eq_true rfl, Nat.le_of_ble_eq_true rfl⟩) hK (fun k q h => by simp at h) rfl hl.1 rfl (Nat.le_of_ble_eq_true rfl) dX2_rehang_18 ⟨Nat.le_of_ble_eq_true rfl, Nat.le_of_ble_eq_true rfl⟩ ?_
    refine lv_if_ne (tgt := 30) hx hb dX2_rehang_21 (by decide) (fun c21 => ?_) (fun c21 => ?_)
    · skip
      obtain ⟨N, hN3, hN40, ex⟩ := isI_yes (a := 3) (b := 40) (by decide) (by decide) c12
      obtain ⟨w1, -, hw1, ey⟩ := isI_yes (a := 0) (b := 2) (by decide) (by decide) c21
      rw [ex, ey] at hl
      refine lv_iconst (v := nI 0) hx hb dX2_rehang_30 (by decide) ?_
      refine lv_istore_n (lv' := [(3, .int (nI 0)), (0, .ref u), (1, .int (nI N)), (2, .int (nI w1))]) hx hb dX2_rehang_31 rfl hl (by decide) rfl (fun ls hl => ?_)
      have LP32 : ∀ (q i : Nat) (O4 : Nat → Int32), i + q = 40 → (∀ k, k < i → O4 k = -1) → ∀ (H : Heap) (locs : List Loc), va_P D vwCl [(u, .inr (2, [.int (nI 0), .int (nI n), .int (nI w), .ref c1, .ref c2, .ref c3, .ref c4, .int e7, .int e8, .int e9, .int e10])), (c1, .inl (cI, 40, .inl F)), (c2, .inl (cI, 40, .inl V)), (c3, .inl (cI, 40, .inl O4)), (c4, .inl (cI, 40, .inl Y))] H → va_D A [(u, .inr (2, [.int (nI 0), .int (nI n), .int (nI w), .ref c1, .ref c2, .ref c3, .ref c4, .int e7, .int e8, .int e9, .int e10])), (c1, .inl (cI, 40, .inl F)), (c2, .inl (cI, 40, .inl V)), (c3, .inl (cI, 40, .inl O4)), (c4, .inl (cI, 40, .inl Y))] → va_S A s.heap H locs → ∀ (ls : Array Slot), lv_has ls 5 [(3, .int (nI i)), (0, .ref u), (1, .int (nI N)), (2, .int (nI w1))] → W p l e ({ frames := 2, cells := 0, slots := 0, locals := 50 } : Room) s m args below meth c H locs 0 0 (MQ below (qm_i (fun rr H1 => ∃ (c d7 d8 d9 d10 : Int32) (n3 w3 : Nat) (F3 V3 O3 Y3 f3 g3 : Nat → Int32), Qr n w f g x y c rr n3 w3 f3 g3 ∧ MS n3 w3 F3 V3 f3 g3 ∧ (va_P D vwCl (mdw cI u c1 c2 c3 c4 c n3 w3 F3 V3 O3 Y3 d7 d8 d9 d10) H1 ∨ va_P D vwCl [(u, .inr (2, [.int c, .int (nI n3), .int (nI w3), .ref c3, .ref c4, .ref c1, .ref c2, .int d7, .int d8, .int d9, .int d10])), (c1, .inl (cI, 40, .inl O3)), (c2, .inl (cI, 40, .inl Y3)), (c3, .inl (cI, 40, .inl F3)), (c4, .inl (cI, 40, .inl V3))] H1)) A) args s 0 0 A) (F0 m 32 ls []) := by
        intro q
        induction q with
        | zero =>
          intro i O4 h1 h2 H locs hP hD hS ls hl
          refine lv_iload_n hx hb dX2_rehang_32 rfl (lv_at hl 0 rfl) ?_
          refine lv_bipush (v := nI 40) hx hb dX2_rehang_33 (by decide) ?_
          refine bn_ge (tgt := 51) hx hb dX2_rehang_35 (by decide) (by omega) (by omega) (fun c35 => ?_) (fun c35 => ?_)
          · skip
            refine lv_aload_n hx hb dX2_rehang_51 rfl (lv_at hl 1 rfl) ?_
            refine lv_iload_n hx hb dX2_rehang_52 rfl (lv_at hl 2 rfl) ?_
            refine lv_iload_n hx hb dX2_rehang_53 rfl (lv_at hl 3 rfl) ?_
            have hPc : va_P D vwCl [(u, .inr (2, [.int (nI 0), .int (nI n), .int (nI w), .ref c1, .ref c2, .ref c3, .ref c4, .int e7, .int e8, .int e9, .int e10])), (c1, .inl (cI, 40, .inl F)), (c2, .inl (cI, 40, .inl V)), (c3, .inl (cI, 40, .inl O4)), (c4, .inl (cI, 40, .inl Y))] H := hP.sub [0, 1, 2, 3, 4] rfl
            have hDc : va_D A [(u, .inr (2, [.int (nI 0), .int (nI n), .int (nI w), .ref c1, .ref c2, .ref c3, .ref c4, .int e7, .int e8, .int e9, .int e10])), (c1, .inl (cI, 40, .inl F)), (c2, .inl (cI, 40, .inl V)), (c3, .inl (cI, 40, .inl O4)), (c4, .inl (cI, 40, .inl Y))] := hD.sub [0, 1, 2, 3, 4] (by decide) rfl
            have hFc := va_free (wc := [(u, .inr (2, [.int (nI 0), .int (nI n), .int (nI w), .ref c1, .ref c2, .ref c3, .ref c4, .int e7, .int e8, .int e9, .int e10])), (c1, .inl (cI, 40, .inl F)), (c2, .inl (cI, 40, .inl V)), (c3, .inl (cI, 40, .inl O4)), (c4, .inl (cI, 40, .inl Y))]) hD hS hA [0, 1, 2, 3, 4] rfl
            refine pq_i (va_runV (rest := []) CF (m_X2_anew l D cI u c1 c2 c3 c4 S O4 Y (nI 0) e7 e8 e9 e10 N w1 hN3 hN40 hw1 H.size) (cwV 2 hts gX2_rehang_X2_anew rfl rfl rfl k_X2_anew ⟨Nat.le_of_ble_eq_true rfl, Nat.le_of_ble_eq_true rfl⟩) (mv_pre hK hPc hDc rfl rfl rfl) rfl rfl hl.1 rfl (lv_room (Nat.le_of_ble_eq_true rfl)) dX2_rehang_54 ⟨Nat.le_of_ble_eq_true rfl, Nat.le_of_ble_eq_true rfl⟩) hS hFc (fun r1 H locs hB hk1 hS => ?_)
            obtain ⟨rfl, O5, Y5, d7, d8, d9, d10, hR, hTU, hP1⟩ := hB
            obtain ⟨hP, hD⟩ := jn (wb := [(u, .inr (2, [.int (nI 0), .int (nI n), .int (nI w), .ref c1, .ref c2, .ref c3, .ref c4, .int d7, .int d8, .int d9, .int d10])), (c1, .inl (cI, 40, .inl F)), (c2, .inl (cI, 40, .inl V)), (c3, .inl (cI, 40, .inl O5)), (c4, .inl (cI, 40, .inl Y5))]) (w1 := [(u, .inr (2, [.int (nI 0), .int (nI n), .int (nI w), .ref c1, .ref c2, .ref c3, .ref c4, .int d7, .int d8, .int d9, .int d10])), (c1, .inl (cI, 40, .inl F)), (c2, .inl (cI, 40, .inl V)), (c3, .inl (cI, 40, .inl O5)), (c4, .inl (cI, 40, .inl Y5))]) hP hD [0, 1, 2, 3, 4] [] rfl rfl rfl rfl 5 rfl (by decide) (by decide) hk1 hP1
            refine lv_iconst (v := (-1)) hx hb dX2_rehang_57 (by decide) ?_
            refine lv_icmp_ne (tgt := 67) hx hb dX2_rehang_58 (by decide) (fun c58 => ?_) (fun c58 => ?_)
            · skip
              obtain ⟨T, U, z, hHG, h0⟩ := LW_ok (w := w1) (show 0 < N by omega) hN40 hO c58
              obtain ⟨hT, hY⟩ := hTU T U z hHG
              refine lv_aload_n hx hb dX2_rehang_67 rfl (lv_at hl 1 rfl) ?_
              refine pv_i CF (m_X2_moved l D cI u c1 c2 c3 c4 S O5 Y5 (nI 0) d7 d8 d9 d10 ) (cwV 0 hts gX2_rehang_X2_moved rfl rfl rfl k_X2_moved ⟨Nat.le_of_ble_eq_true rfl, Nat.le_of_ble_eq_true rfl⟩) hK hP rfl rfl rfl rfl hl.1 rfl (Nat.le_of_ble_eq_true rfl) dX2_rehang_68 ⟨Nat.le_of_ble_eq_true rfl, Nat.le_of_ble_eq_true rfl⟩ ?_
              refine lv_istore_n (lv' := [(3, .int (nI (mv n f O5))), (0, .ref u), (1, .int (nI N)), (2, .int (nI w1))]) hx hb dX2_rehang_71 rfl hl (by decide) rfl (fun ls hl => ?_)
              refine lv_aload_n hx hb dX2_rehang_72 rfl (lv_at hl 1 rfl) ?_
              refine va_get (D := D) (ci := 2) (v := .ref c1) (C := RX2) (T := TX2) (N := 11) hx hb hts (fun _ h => (List.mem_cons_of_mem _ (List.mem_append_right _ h))) hown hK hP 0 rfl rfl 3 (by decide) (hts _ (List.mem_of_getElem? (i := 3) rfl)) (fun _ h9 => h9) rfl dX2_rehang_73 ?_
              refine lv_astore (lv' := [(4, .ref c1), (3, .int (nI (mv n f O5))), (0, .ref u), (1, .int (nI N)), (2, .int (nI w1))]) hx hb dX2_rehang_76 hl (by decide) rfl (fun ls hl => ?_)
              refine lv_aload_n hx hb dX2_rehang_78 rfl (lv_at hl 2 rfl) ?_
              refine lv_aload_n hx hb dX2_rehang_79 rfl (lv_at hl 2 rfl) ?_
              refine va_get (D := D) (ci := 2) (v := .ref c3) (C := RX2) (T := TX2) (N := 11) hx hb hts (fun _ h => (List.mem_cons_of_mem _ (List.mem_append_right _ h))) hown hK hP 0 rfl rfl 5 (by decide) (hts _ (List.mem_of_getElem? (i := 2) rfl)) (fun _ h9 => h9) rfl dX2_rehang_80 ?_
              refine va_put (D := D) (ci := 2) (v := .ref c3) (ty := .array .int) (C := RX2) (T := TX2) (N := 11) hx hb hts (fun _ h => (List.mem_cons_of_mem _ (List.mem_append_right _ h))) tyX2 tyX2_ok nmX2 hown hK hP hD hS 0 rfl rfl 3 (by decide) (hts _ (List.mem_of_getElem? (i := 3) rfl)) (fun _ h9 => h9) rfl (by decide +kernel) rfl rfl (Nat.le_of_ble_eq_true rfl) dX2_rehang_83 (fun H locs hP hD hS => ?_)
              have hP : va_P D vwCl [(u, .inr (2, [.int (nI 0), .int (nI n), .int (nI w), .ref c3, .ref c2, .ref c3, .ref c4, .int d7, .int d8, .int d9, .int d10])), (c1, .inl (cI, 40, .inl F)), (c2, .inl (cI, 40, .inl V)), (c3, .inl (cI, 40, .inl O5)), (c4, .inl (cI, 40, .inl Y5))] H := hP
              have hD : va_D A [(u, .inr (2, [.int (nI 0), .int (nI n), .int (nI w), .ref c3, .ref c2, .ref c3, .ref c4, .int d7, .int d8, .int d9, .int d10])), (c1, .inl (cI, 40, .inl F)), (c2, .inl (cI, 40, .inl V)), (c3, .inl (cI, 40, .inl O5)), (c4, .inl (cI, 40, .inl Y5))] := hD
              refine lv_aload_n hx hb dX2_rehang_86 rfl (lv_at hl 2 rfl) ?_
              refine lv_aload hx hb dX2_rehang_87 (lv_at hl 0 rfl) ?_
              refine va_put (D := D) (ci := 2) (v := .ref c1) (ty := .array .int) (C := RX2) (T := TX2) (N := 11) hx hb hts (fun _ h => (List.mem_cons_of_mem _ (List.mem_append_right _ h))) tyX2 tyX2_ok nmX2 hown hK hP hD hS 0 rfl rfl 5 (by decide) (hts _ (List.mem_of_getElem? (i := 2) rfl)) (fun _ h9 => h9) rfl (by decide +kernel) rfl rfl (Nat.le_of_ble_eq_true rfl) dX2_rehang_89 (fun H locs hP hD hS => ?_)
              have hP : va_P D vwCl [(u, .inr (2, [.int (nI 0), .int (nI n), .int (nI w), .ref c3, .ref c2, .ref c1, .ref c4, .int d7, .int d8, .int d9, .int d10])), (c1, .inl (cI, 40, .inl F)), (c2, .inl (cI, 40, .inl V)), (c3, .inl (cI, 40, .inl O5)), (c4, .inl (cI, 40, .inl Y5))] H := hP
              have hD : va_D A [(u, .inr (2, [.int (nI 0), .int (nI n), .int (nI w), .ref c3, .ref c2, .ref c1, .ref c4, .int d7, .int d8, .int d9, .int d10])), (c1, .inl (cI, 40, .inl F)), (c2, .inl (cI, 40, .inl V)), (c3, .inl (cI, 40, .inl O5)), (c4, .inl (cI, 40, .inl Y5))] := hD
              refine lv_aload_n hx hb dX2_rehang_92 rfl (lv_at hl 2 rfl) ?_
              refine va_get (D := D) (ci := 2) (v := .ref c2) (C := RX2) (T := TX2) (N := 11) hx hb hts (fun _ h => (List.mem_cons_of_mem _ (List.mem_append_right _ h))) hown hK hP 0 rfl rfl 4 (by decide) (hts _ (List.mem_of_getElem? (i := 4) rfl)) (fun _ h9 => h9) rfl dX2_rehang_93 ?_
              refine lv_astore (lv' := [(4, .ref c2), (3, .int (nI (mv n f O5))), (0, .ref u), (1, .int (nI N)), (2, .int (nI w1))]) hx hb dX2_rehang_96 hl (by decide) rfl (fun ls hl => ?_)
              refine lv_aload_n hx hb dX2_rehang_98 rfl (lv_at hl 2 rfl) ?_
              refine lv_aload_n hx hb dX2_rehang_99 rfl (lv_at hl 2 rfl) ?_
              refine va_get (D := D) (ci := 2) (v := .ref c4) (C := RX2) (T := TX2) (N := 11) hx hb hts (fun _ h => (List.mem_cons_of_mem _ (List.mem_append_right _ h))) hown hK hP 0 rfl rfl 6 (by decide) (hts _ (List.mem_of_getElem? (i := 5) rfl)) (fun _ h9 => h9) rfl dX2_rehang_100 ?_
              refine va_put (D := D) (ci := 2) (v := .ref c4) (ty := .array .int) (C := RX2) (T := TX2) (N := 11) hx hb hts (fun _ h => (List.mem_cons_of_mem _ (List.mem_append_right _ h))) tyX2 tyX2_ok nmX2 hown hK hP hD hS 0 rfl rfl 4 (by decide) (hts _ (List.mem_of_getElem? (i := 4) rfl)) (fun _ h9 => h9) rfl (by decide +kernel) rfl rfl (Nat.le_of_ble_eq_true rfl) dX2_rehang_103 (fun H locs hP hD hS => ?_)
              have hP : va_P D vwCl [(u, .inr (2, [.int (nI 0), .int (nI n), .int (nI w), .ref c3, .ref c4, .ref c1, .ref c4, .int d7, .int d8, .int d9, .int d10])), (c1, .inl (cI, 40, .inl F)), (c2, .inl (cI, 40, .inl V)), (c3, .inl (cI, 40, .inl O5)), (c4, .inl (cI, 40, .inl Y5))] H := hP
              have hD : va_D A [(u, .inr (2, [.int (nI 0), .int (nI n), .int (nI w), .ref c3, .ref c4, .ref c1, .ref c4, .int d7, .int d8, .int d9, .int d10])), (c1, .inl (cI, 40, .inl F)), (c2, .inl (cI, 40, .inl V)), (c3, .inl (cI, 40, .inl O5)), (c4, .inl (cI, 40, .inl Y5))] := hD
              refine lv_aload_n hx hb dX2_rehang_106 rfl (lv_at hl 2 rfl) ?_
              refine lv_aload hx hb dX2_rehang_107 (lv_at hl 0 rfl) ?_
              refine va_put (D := D) (ci := 2) (v := .ref c2) (ty := .array .int) (C := RX2) (T := TX2) (N := 11) hx hb hts (fun _ h => (List.mem_cons_of_mem _ (List.mem_append_right _ h))) tyX2 tyX2_ok nmX2 hown hK hP hD hS 0 rfl rfl 6 (by decide) (hts _ (List.mem_of_getElem? (i := 5) rfl)) (fun _ h9 => h9) rfl (by decide +kernel) rfl rfl (Nat.le_of_ble_eq_true rfl) dX2_rehang_109 (fun H locs hP hD hS => ?_)
              have hP : va_P D vwCl [(u, .inr (2, [.int (nI 0), .int (nI n), .int (nI w), .ref c3, .ref c4, .ref c1, .ref c2, .int d7, .int d8, .int d9, .int d10])), (c1, .inl (cI, 40, .inl F)), (c2, .inl (cI, 40, .inl V)), (c3, .inl (cI, 40, .inl O5)), (c4, .inl (cI, 40, .inl Y5))] H := hP
              have hD : va_D A [(u, .inr (2, [.int (nI 0), .int (nI n), .int (nI w), .ref c3, .ref c4, .ref c1, .ref c2, .int d7, .int d8, .int d9, .int d10])), (c1, .inl (cI, 40, .inl F)), (c2, .inl (cI, 40, .inl V)), (c3, .inl (cI, 40, .inl O5)), (c4, .inl (cI, 40, .inl Y5))] := hD
              refine lv_aload_n hx hb dX2_rehang_112 rfl (lv_at hl 2 rfl) ?_
              refine lv_iload_n hx hb dX2_rehang_113 rfl (lv_at hl 3 rfl) ?_
              refine va_put (D := D) (ci := 2) (v := .int (nI N)) (ty := .int) (C := RX2) (T := TX2) (N := 11) hx hb hts (fun _ h => (List.mem_cons_of_mem _ (List.mem_append_right _ h))) tyX2 tyX2_ok nmX2 hown hK hP hD hS 0 rfl rfl 1 (by decide) (hts _ (List.mem_of_getElem? (i := 6) rfl)) (fun _ h9 => h9) rfl (by decide +kernel) rfl rfl (Nat.le_of_ble_eq_true rfl) dX2_rehang_114 (fun H locs hP hD hS => ?_)
              have hP : va_P D vwCl [(u, .inr (2, [.int (nI 0), .int (nI N), .int (nI w), .ref c3, .ref c4, .ref c1, .ref c2, .int d7, .int d8, .int d9, .int d10])), (c1, .inl (cI, 40, .inl F)), (c2, .inl (cI, 40, .inl V)), (c3, .inl (cI, 40, .inl O5)), (c4, .inl (cI, 40, .inl Y5))] H := hP
              have hD : va_D A [(u, .inr (2, [.int (nI 0), .int (nI N), .int (nI w), .ref c3, .ref c4, .ref c1, .ref c2, .int d7, .int d8, .int d9, .int d10])), (c1, .inl (cI, 40, .inl F)), (c2, .inl (cI, 40, .inl V)), (c3, .inl (cI, 40, .inl O5)), (c4, .inl (cI, 40, .inl Y5))] := hD
              refine lv_aload_n hx hb dX2_rehang_117 rfl (lv_at hl 2 rfl) ?_
              refine lv_iload_n hx hb dX2_rehang_118 rfl (lv_at hl 4 rfl) ?_
              refine va_put (D := D) (ci := 2) (v := .int (nI w1)) (ty := .int) (C := RX2) (T := TX2) (N := 11) hx hb hts (fun _ h => (List.mem_cons_of_mem _ (List.mem_append_right _ h))) tyX2 tyX2_ok nmX2 hown hK hP hD hS 0 rfl rfl 2 (by decide) (hts _ (List.mem_of_getElem? (i := 7) rfl)) (fun _ h9 => h9) rfl (by decide +kernel) rfl rfl (Nat.le_of_ble_eq_true rfl) dX2_rehang_119 (fun H locs hP hD hS => ?_)
              have hP : va_P D vwCl [(u, .inr (2, [.int (nI 0), .int (nI N), .int (nI w1), .ref c3, .ref c4, .ref c1, .ref c2, .int d7, .int d8, .int d9, .int d10])), (c1, .inl (cI, 40, .inl F)), (c2, .inl (cI, 40, .inl V)), (c3, .inl (cI, 40, .inl O5)), (c4, .inl (cI, 40, .inl Y5))] H := hP
              have hD : va_D A [(u, .inr (2, [.int (nI 0), .int (nI N), .int (nI w1), .ref c3, .ref c4, .ref c1, .ref c2, .int d7, .int d8, .int d9, .int d10])), (c1, .inl (cI, 40, .inl F)), (c2, .inl (cI, 40, .inl V)), (c3, .inl (cI, 40, .inl O5)), (c4, .inl (cI, 40, .inl Y5))] := hD
              refine lv_iload_n hx hb dX2_rehang_122 rfl (lv_at hl 1 rfl) ?_
              exact em_i hx hb hr hlocks hS (⟨_, _, _, _, _, N, w1, _, _, _, _, T, U, Or.inr ⟨N, w1, hN3, hN40, ex, hw1, ey, Or.inr ⟨T, U, z, hHG, rfl, congrArg nI (mv_cm hn hN40 hT (fun k a b => (hR k a).trans (h2 k (by omega))) (HG_nc (by omega) hO hHG)), rfl, rfl, rfl, rfl⟩⟩, ⟨hN3, hN40, hw1, hT, hY, HG_ok (by omega) hO hHG⟩, Or.inr hP⟩) dX2_rehang_123
            · skip
              refine lv_aload_n hx hb dX2_rehang_61 rfl (lv_at hl 1 rfl) ?_
              refine lv_iconst (v := nI 2) hx hb dX2_rehang_62 (by decide) ?_
              have hPc : va_P D vwCl [(u, .inr (2, [.int (nI 0), .int (nI n), .int (nI w), .ref c1, .ref c2, .ref c3, .ref c4, .int d7, .int d8, .int d9, .int d10])), (c1, .inl (cI, 40, .inl F)), (c2, .inl (cI, 40, .inl V)), (c3, .inl (cI, 40, .inl O5)), (c4, .inl (cI, 40, .inl Y5))] H := hP.sub [0, 1, 2, 3, 4] rfl
              have hDc : va_D A [(u, .inr (2, [.int (nI 0), .int (nI n), .int (nI w), .ref c1, .ref c2, .ref c3, .ref c4, .int d7, .int d8, .int d9, .int d10])), (c1, .inl (cI, 40, .inl F)), (c2, .inl (cI, 40, .inl V)), (c3, .inl (cI, 40, .inl O5)), (c4, .inl (cI, 40, .inl Y5))] := hD.sub [0, 1, 2, 3, 4] (by decide) rfl
              have hFc := va_free (wc := [(u, .inr (2, [.int (nI 0), .int (nI n), .int (nI w), .ref c1, .ref c2, .ref c3, .ref c4, .int d7, .int d8, .int d9, .int d10])), (c1, .inl (cI, 40, .inl F)), (c2, .inl (cI, 40, .inl V)), (c3, .inl (cI, 40, .inl O5)), (c4, .inl (cI, 40, .inl Y5))]) hD hS hA [0, 1, 2, 3, 4] rfl
              refine pq_i (va_runV (rest := []) CF (m_X2_no l D cI u c1 c2 c3 c4 S O5 Y5 (nI 0) d7 d8 d9 d10 (nI 2) H.size) (cwV 1 hts gX2_rehang_X2_no rfl rfl rfl k_X2_no ⟨Nat.le_of_ble_eq_true rfl, Nat.le_of_ble_eq_true rfl⟩) (mv_pre hK hPc hDc rfl rfl rfl) rfl rfl hl.1 rfl (lv_room (Nat.le_of_ble_eq_true rfl)) dX2_rehang_63 ⟨Nat.le_of_ble_eq_true rfl, Nat.le_of_ble_eq_true rfl⟩) hS hFc (fun r1 H locs hB hk1 hS => ?_)
              obtain ⟨rfl, hP1⟩ := hB
              obtain ⟨hP, hD⟩ := jn (wb := [(u, .inr (2, [.int (nI 2), .int (nI n), .int (nI w), .ref c1, .ref c2, .ref c3, .ref c4, .int d7, .int d8, .int d9, .int d10])), (c1, .inl (cI, 40, .inl F)), (c2, .inl (cI, 40, .inl V)), (c3, .inl (cI, 40, .inl O5)), (c4, .inl (cI, 40, .inl Y5))]) (w1 := [(u, .inr (2, [.int (nI 2), .int (nI n), .int (nI w), .ref c1, .ref c2, .ref c3, .ref c4, .int d7, .int d8, .int d9, .int d10])), (c1, .inl (cI, 40, .inl F)), (c2, .inl (cI, 40, .inl V)), (c3, .inl (cI, 40, .inl O5)), (c4, .inl (cI, 40, .inl Y5))]) hP hD [0, 1, 2, 3, 4] [] rfl rfl rfl rfl 5 rfl (by decide) (by decide) hk1 hP1
              exact em_i hx hb hr hlocks hS (⟨_, _, _, _, _, n, w, F, V, _, _, f, g, Or.inr ⟨N, w1, hN3, hN40, ex, hw1, ey, Or.inl ⟨LW_m1 (by omega) hN40 hO c58, rfl, rfl, rfl, rfl, rfl⟩⟩, S, Or.inl hP⟩) dX2_rehang_66
          · skip
            omega
        | succ q ih =>
          intro i O4 h1 h2 H locs hP hD hS ls hl
          refine lv_iload_n hx hb dX2_rehang_32 rfl (lv_at hl 0 rfl) ?_
          refine lv_bipush (v := nI 40) hx hb dX2_rehang_33 (by decide) ?_
          refine bn_ge (tgt := 51) hx hb dX2_rehang_35 (by decide) (by omega) (by omega) (fun c35 => ?_) (fun c35 => ?_)
          · skip
            omega
          · skip
            refine lv_aload_n hx hb dX2_rehang_38 rfl (lv_at hl 1 rfl) ?_
            refine va_get (D := D) (ci := 2) (v := .ref c3) (C := RX2) (T := TX2) (N := 11) hx hb hts (fun _ h => (List.mem_cons_of_mem _ (List.mem_append_right _ h))) hown hK hP 0 rfl rfl 5 (by decide) (hts _ (List.mem_of_getElem? (i := 2) rfl)) (fun _ h9 => h9) rfl dX2_rehang_39 ?_
            refine lv_iload_n hx hb dX2_rehang_42 rfl (lv_at hl 0 rfl) ?_
            refine lv_iconst (v := (-1)) hx hb dX2_rehang_43 (by decide) ?_
            refine as_i hx hb hK hP hD hS 3 0 rfl rfl (k := i) (by omega) (by omega) dX2_rehang_44 (fun H locs hP hD hS => ?_)
            have hP : va_P D vwCl [(u, .inr (2, [.int (nI 0), .int (nI n), .int (nI w), .ref c1, .ref c2, .ref c3, .ref c4, .int e7, .int e8, .int e9, .int e10])), (c1, .inl (cI, 40, .inl F)), (c2, .inl (cI, 40, .inl V)), (c3, .inl (cI, 40, .inl (upd O4 i (-1)))), (c4, .inl (cI, 40, .inl Y))] H := hP
            have hD : va_D A [(u, .inr (2, [.int (nI 0), .int (nI n), .int (nI w), .ref c1, .ref c2, .ref c3, .ref c4, .int e7, .int e8, .int e9, .int e10])), (c1, .inl (cI, 40, .inl F)), (c2, .inl (cI, 40, .inl V)), (c3, .inl (cI, 40, .inl (upd O4 i (-1)))), (c4, .inl (cI, 40, .inl Y))] := hD
            refine lv_iinc (v := (nI (i + 1))) (lv' := [(3, .int (nI (i + 1))), (0, .ref u), (1, .int (nI N)), (2, .int (nI w1))]) hx hb dX2_rehang_45 hl (k := 0) rfl (inc1 _) (by decide) rfl (fun ls hl => ?_)
            refine lv_goto (tgt := 32) hx hb dX2_rehang_48 (by decide) ?_
            exact ih (i + 1) (upd O4 i (-1)) (by omega) (up_all h2) _ _ hP hD hS _ (lv_sub hl [0, 1, 2, 3] rfl)
      exact LP32 40 0 O (by omega) (fun k hk => absurd hk (Nat.not_lt_zero k)) _ _ hP hD hS _ (lv_sub hl [0, 1, 2, 3] rfl)
    · skip
      refine lv_aload_n hx hb dX2_rehang_24 rfl (lv_at hl 0 rfl) ?_
      refine lv_iconst (v := nI 1) hx hb dX2_rehang_25 (by decide) ?_
      have hPc : va_P D vwCl [(u, .inr (2, [.int (nI 0), .int (nI n), .int (nI w), .ref c1, .ref c2, .ref c3, .ref c4, .int e7, .int e8, .int e9, .int e10])), (c1, .inl (cI, 40, .inl F)), (c2, .inl (cI, 40, .inl V)), (c3, .inl (cI, 40, .inl O)), (c4, .inl (cI, 40, .inl Y))] H := hP.sub [0, 1, 2, 3, 4] rfl
      have hDc : va_D A [(u, .inr (2, [.int (nI 0), .int (nI n), .int (nI w), .ref c1, .ref c2, .ref c3, .ref c4, .int e7, .int e8, .int e9, .int e10])), (c1, .inl (cI, 40, .inl F)), (c2, .inl (cI, 40, .inl V)), (c3, .inl (cI, 40, .inl O)), (c4, .inl (cI, 40, .inl Y))] := hD.sub [0, 1, 2, 3, 4] (by decide) rfl
      have hFc := va_free (wc := [(u, .inr (2, [.int (nI 0), .int (nI n), .int (nI w), .ref c1, .ref c2, .ref c3, .ref c4, .int e7, .int e8, .int e9, .int e10])), (c1, .inl (cI, 40, .inl F)), (c2, .inl (cI, 40, .inl V)), (c3, .inl (cI, 40, .inl O)), (c4, .inl (cI, 40, .inl Y))]) hD hS hA [0, 1, 2, 3, 4] rfl
      refine pq_i (va_runV (rest := []) CF (m_X2_no l D cI u c1 c2 c3 c4 S O Y (nI 0) e7 e8 e9 e10 (nI 1) H.size) (cwV 1 hts gX2_rehang_X2_no rfl rfl rfl k_X2_no ⟨Nat.le_of_ble_eq_true rfl, Nat.le_of_ble_eq_true rfl⟩) (mv_pre hK hPc hDc rfl rfl rfl) rfl rfl hl.1 rfl (lv_room (Nat.le_of_ble_eq_true rfl)) dX2_rehang_26 ⟨Nat.le_of_ble_eq_true rfl, Nat.le_of_ble_eq_true rfl⟩) hS hFc (fun r1 H locs hB hk1 hS => ?_)
      obtain ⟨rfl, hP1⟩ := hB
      obtain ⟨hP, hD⟩ := jn (wb := [(u, .inr (2, [.int (nI 1), .int (nI n), .int (nI w), .ref c1, .ref c2, .ref c3, .ref c4, .int e7, .int e8, .int e9, .int e10])), (c1, .inl (cI, 40, .inl F)), (c2, .inl (cI, 40, .inl V)), (c3, .inl (cI, 40, .inl O)), (c4, .inl (cI, 40, .inl Y))]) (w1 := [(u, .inr (2, [.int (nI 1), .int (nI n), .int (nI w), .ref c1, .ref c2, .ref c3, .ref c4, .int e7, .int e8, .int e9, .int e10])), (c1, .inl (cI, 40, .inl F)), (c2, .inl (cI, 40, .inl V)), (c3, .inl (cI, 40, .inl O)), (c4, .inl (cI, 40, .inl Y))]) hP hD [0, 1, 2, 3, 4] [] rfl rfl rfl rfl 5 rfl (by decide) (by decide) hk1 hP1
      exact em_i hx hb hr hlocks hS (⟨_, _, _, _, _, n, w, F, V, _, _, f, g, Or.inl ⟨fun z => isI_no (by decide) (by decide) c21 z.2, rfl, rfl, rfl, rfl, rfl⟩, S, Or.inl hP⟩) dX2_rehang_29
