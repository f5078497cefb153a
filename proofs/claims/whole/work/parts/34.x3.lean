/-! the reference: what reads -/
theorem k_X2_lookNow : yX2_lookNow.cls = RX2 ∧ yX2_lookNow.cls ≠ "java/lang/invoke/MethodHandle" ∧ yX2_lookNow.cls ≠ "java/lang/invoke/VarHandle" ∧ (parseMethodDescriptor yX2_lookNow.desc).map (fun d => d.parameters.length) = some 1 := by decide +kernel
set_option maxHeartbeats 4000000 in
set_option maxRecDepth 100000 in
theorem m_X2_lookNow (l : Launch) (D : va_G) (cI : ClassId) (u c1 c2 c3 c4 : Nat) {n w : Nat} {F V f g : Nat → Int32} (S : MS n w F V f g) (O Y : Nat → Int32) (e0 e7 e8 e9 e10 : Int32) (x : Nat) (hx9 : x ≤ 9999) (sz : Nat) : Met l yX2_lookNow wsX2_lookNow ({ frames := 1, cells := 0, slots := 0, locals := 26 } : Room) (PM D [(cI, .int)] [.ref u, .int (nI x)] sz (mdw cI u c1 c2 c3 c4 e0 n w F V O Y e7 e8 e9 e10)) (qm_v (fun H1 => va_P D vwCl (mdw cI u c1 c2 c3 c4 e0 n w F V O Y (nI (lk n w f x)) (fd n w f x) (fr n w f x) (tk n w f x (lk n w f x))) H1) (va_A (mdw cI u c1 c2 c3 c4 e0 n w F V O Y e7 e8 e9 e10) sz)) 0 0 (va_A (mdw cI u c1 c2 c3 c4 e0 n w F V O Y e7 e8 e9 e10) sz) := by
  obtain ⟨hn3, hn, hw2, hF, hV, hO⟩ := id S
  refine bd_m (Qc := (fun A => qm_v (fun H1 => va_P D vwCl (mdw cI u c1 c2 c3 c4 e0 n w F V O Y (nI (lk n w f x)) (fd n w f x) (fr n w f x) (tk n w f x (lk n w f x))) H1) A)) (cc := cX2_lookNow) (maxL := 2) (ret := none) (by decide) rfl (Nat.le_of_ble_eq_true rfl) ?_
  intro p e s m args below meth c ls A CF hr hlocks hK hP hD hA hS hl hin
  obtain ⟨hx, hb, hml, hown, hts⟩ := id CF
  have hl : lv_has ls 2 [(0, .ref u), (1, .int (nI x))] := hl
  have hP : va_P D vwCl [(u, .inr (2, [.int e0, .int (nI n), .int (nI w), .ref c1, .ref c2, .ref c3, .ref c4, .int e7, .int e8, .int e9, .int e10])), (c1, .inl (cI, 40, .inl F)), (c2, .inl (cI, 40, .inl V)), (c3, .inl (cI, 40, .inl O)), (c4, .inl (cI, 40, .inl Y))] s.heap := hP
  have hD : va_D A [(u, .inr (2, [.int e0, .int (nI n), .int (nI w), .ref c1, .ref c2, .ref c3, .ref c4, .int e7, .int e8, .int e9, .int e10])), (c1, .inl (cI, 40, .inl F)), (c2, .inl (cI, 40, .inl V)), (c3, .inl (cI, 40, .inl O)), (c4, .inl (cI, 40, .inl Y))] := hD
  generalize hH0 : s.heap = H at hP
  have hS : va_S A s.heap H [] := by rw [← hH0]; exact va_S.rf
  generalize hlc0 : ([] : List Loc) = locs at hS ⊢
  refine lv_aload_n hx hb dX2_lookNow_0 rfl (lv_at hl 0 rfl) ?_
  refine lv_aload_n hx hb dX2_lookNow_1 rfl (lv_at hl 0 rfl) ?_
  refine va_get (D := D) (ci := 2) (v := .ref c1) (C := RX2) (T := TX2) (N := 11) hx hb hts (fun _ h => (List.mem_cons_of_mem _ (List.mem_append_right _ h))) hown hK hP 0 rfl rfl 3 (by decide) (hts _ (List.mem_of_getElem? (i := 1) rfl)) (fun _ h9 => h9) rfl dX2_lookNow_2 ?_
  refine lv_aload_n hx hb dX2_lookNow_5 rfl (lv_at hl 0 rfl) ?_
  refine va_get (D := D) (ci := 2) (v := .int (nI n)) (C := RX2) (T := TX2) (N := 11) hx hb hts (fun _ h => (List.mem_cons_of_mem _ (List.mem_append_right _ h))) hown hK hP 0 rfl rfl 1 (by decide) (hts _ (List.mem_of_getElem? (i := 2) rfl)) (fun _ h9 => h9) rfl dX2_lookNow_6 ?_
  refine lv_aload_n hx hb dX2_lookNow_9 rfl (lv_at hl 0 rfl) ?_
  refine va_get (D := D) (ci := 2) (v := .int (nI w)) (C := RX2) (T := TX2) (N := 11) hx hb hts (fun _ h => (List.mem_cons_of_mem _ (List.mem_append_right _ h))) hown hK hP 0 rfl rfl 2 (by decide) (hts _ (List.mem_of_getElem? (i := 3) rfl)) (fun _ h9 => h9) rfl dX2_lookNow_10 ?_
  refine lv_iload_n hx hb dX2_lookNow_13 rfl (lv_at hl 1 rfl) ?_
  have hPc : va_P D vwCl [(u, .inr (2, [.int e0, .int (nI n), .int (nI w), .ref c1, .ref c2, .ref c3, .ref c4, .int e7, .int e8, .int e9, .int e10])), (c1, .inl (cI, 40, .inl F))] H := hP.sub [0, 1] rfl
  have hDc : va_D A [(u, .inr (2, [.int e0, .int (nI n), .int (nI w), .ref c1, .ref c2, .ref c3, .ref c4, .int e7, .int e8, .int e9, .int e10])), (c1, .inl (cI, 40, .inl F))] := hD.sub [0, 1] (by decide) rfl
  have hFc := va_free (wc := [(u, .inr (2, [.int e0, .int (nI n), .int (nI w), .ref c1, .ref c2, .ref c3, .ref c4, .int e7, .int e8, .int e9, .int e10])), (c1, .inl (cI, 40, .inl F))]) hD hS hA [0, 1] rfl
  refine pq_v (va_runV (rest := []) CF (m_X2_look l D cI u c1 c1 c2 c3 c4 n w x hn3 hn hw2 hx9 hF e0 (nI n) (nI w) e7 e8 e9 e10 H.size) (cwV 4 hts gX2_lookNow_X2_look rfl rfl rfl k_X2_look ⟨Nat.le_of_ble_eq_true rfl, Nat.le_of_ble_eq_true rfl⟩) (mv_pre hK hPc hDc rfl rfl rfl) rfl rfl hl.1 rfl (lv_room (Nat.le_of_ble_eq_true rfl)) dX2_lookNow_14 ⟨Nat.le_of_ble_eq_true rfl, Nat.le_of_ble_eq_true rfl⟩) hS hFc (fun H locs hB hk1 hS => ?_)
  obtain ⟨_, _, _, _, rfl, rfl, rfl, rfl, hP1⟩ := hB
  obtain ⟨hP, hD⟩ := jn (wb := [(u, .inr (2, [.int e0, .int (nI n), .int (nI w), .ref c1, .ref c2, .ref c3, .ref c4, .int (nI (lk n w f x)), .int (fd n w f x), .int (fr n w f x), .int (tk n w f x (lk n w f x))])), (c1, .inl (cI, 40, .inl F)), (c2, .inl (cI, 40, .inl V)), (c3, .inl (cI, 40, .inl O)), (c4, .inl (cI, 40, .inl Y))]) (w1 := [(u, .inr (2, [.int e0, .int (nI n), .int (nI w), .ref c1, .ref c2, .ref c3, .ref c4, .int (nI (lk n w f x)), .int (fd n w f x), .int (fr n w f x), .int (tk n w f x (lk n w f x))])), (c1, .inl (cI, 40, .inl F))]) hP hD [0, 1] [2, 3, 4] rfl rfl rfl rfl 5 rfl (by decide) (by decide) hk1 hP1
  exact em_v hx hb hr hlocks hS hP dX2_lookNow_17
theorem k_X2_hangs : yX2_hangs.cls = RX2 ∧ yX2_hangs.cls ≠ "java/lang/invoke/MethodHandle" ∧ yX2_hangs.cls ≠ "java/lang/invoke/VarHandle" ∧ (parseMethodDescriptor yX2_hangs.desc).map (fun d => d.parameters.length) = some 1 := by decide +kernel
set_option maxHeartbeats 4000000 in
set_option maxRecDepth 100000 in
theorem m_X2_hangs (l : Launch) (D : va_G) (cI : ClassId) (u c1 c2 c3 c4 : Nat) {n w : Nat} {F V f g : Nat → Int32} (S : MS n w F V f g) (O Y : Nat → Int32) (e0 e7 e8 e9 e10 : Int32) (x : Nat) (hx9 : x ≤ 9999) : Met l yX2_hangs wsX2_hangs ({ frames := 0, cells := 0, slots := 0, locals := 0 } : Room) (PR D [(cI, .int)] [.ref u, .int (nI x)] (mdw cI u c1 c2 c3 c4 e0 n w F V O Y e7 e8 e9 e10)) (vp_Si (fun r => r = nI (hs n f x))) 0 0 (fun _ => False) := by
  obtain ⟨hn3, hn, hw2, hF, hV, hO⟩ := id S
  refine bd_p (cc := cX2_hangs) (maxL := 3) (ret := (some .boolean)) (by decide) rfl (Nat.le_of_ble_eq_true rfl) ?_
  intro p e s m args below meth c ls CF hr hlocks hK hP hl
  obtain ⟨hx, hb, hml, hown, hts⟩ := id CF
  have hl : lv_has ls 3 [(0, .ref u), (1, .int (nI x))] := hl
  have hP : va_P D vwCl [(u, .inr (2, [.int e0, .int (nI n), .int (nI w), .ref c1, .ref c2, .ref c3, .ref c4, .int e7, .int e8, .int e9, .int e10])), (c1, .inl (cI, 40, .inl F)), (c2, .inl (cI, 40, .inl V)), (c3, .inl (cI, 40, .inl O)), (c4, .inl (cI, 40, .inl Y))] s.heap := hP
  refine lv_iconst (v := nI 0) hx hb dX2_hangs_0 (by decide) ?_
  refine lv_istore_n (lv' := [(2, .int (nI 0)), (0, .ref u), (1, .int (nI x))]) hx hb dX2_hangs_1 rfl hl (by decide) rfl (fun ls hl => ?_)
  have LP2 : ∀ (q i : Nat), i + q = n → fs (fun i => decide (f i = nI x)) q i = fs (fun i => decide (f i = nI x)) n 0 → ∀ (ls : Array Slot), lv_has ls 3 [(2, .int (nI i)), (0, .ref u), (1, .int (nI x))] → W p l e ({ frames := 0, cells := 0, slots := 0, locals := 0 } : Room) s m args below meth c s.heap [] 0 0 (MQ below (vp_Si (fun r => r = nI (hs n f x))) args s 0 0 (fun _ => False)) (F0 m 2 ls []) := by
    intro q
    induction q with
    | zero =>
      intro i h1 h2 ls hl
      refine lv_iload_n hx hb dX2_hangs_2 rfl (lv_at hl 0 rfl) ?_
      refine lv_aload_n hx hb dX2_hangs_3 rfl (lv_at hl 1 rfl) ?_
      refine va_get (D := D) (ci := 2) (v := .int (nI n)) (C := RX2) (T := TX2) (N := 11) hx hb hts (fun _ h => (List.mem_cons_of_mem _ (List.mem_append_right _ h))) hown hK hP 0 rfl rfl 1 (by decide) (hts _ (List.mem_of_getElem? (i := 1) rfl)) (fun _ h9 => h9) rfl dX2_hangs_4 ?_
      refine bn_ge (tgt := 28) hx hb dX2_hangs_7 (by decide) (by omega) (by omega) (fun c7 => ?_) (fun c7 => ?_)
      · skip
        refine lv_iconst (v := nI 0) hx hb dX2_hangs_28 (by decide) ?_
        exact en_z hx hb hr hlocks (Or.inl rfl) (congrArg nI (hs_z h2 h1)) dX2_hangs_29
      · skip
        omega
    | succ q ih =>
      intro i h1 h2 ls hl
      refine lv_iload_n hx hb dX2_hangs_2 rfl (lv_at hl 0 rfl) ?_
      refine lv_aload_n hx hb dX2_hangs_3 rfl (lv_at hl 1 rfl) ?_
      refine va_get (D := D) (ci := 2) (v := .int (nI n)) (C := RX2) (T := TX2) (N := 11) hx hb hts (fun _ h => (List.mem_cons_of_mem _ (List.mem_append_right _ h))) hown hK hP 0 rfl rfl 1 (by decide) (hts _ (List.mem_of_getElem? (i := 1) rfl)) (fun _ h9 => h9) rfl dX2_hangs_4 ?_
      refine bn_ge (tgt := 28) hx hb dX2_hangs_7 (by decide) (by omega) (by omega) (fun c7 => ?_) (fun c7 => ?_)
      · skip
        omega
      · skip
        refine lv_aload_n hx hb dX2_hangs_10 rfl (lv_at hl 1 rfl) ?_
        refine va_get (D := D) (ci := 2) (v := .ref c1) (C := RX2) (T := TX2) (N := 11) hx hb hts (fun _ h => (List.mem_cons_of_mem _ (List.mem_append_right _ h))) hown hK hP 0 rfl rfl 3 (by decide) (hts _ (List.mem_of_getElem? (i := 2) rfl)) (fun _ h9 => h9) rfl dX2_hangs_11 ?_
        refine lv_iload_n hx hb dX2_hangs_14 rfl (lv_at hl 0 rfl) ?_
        refine al_i hx hb hK hP 1 0 rfl rfl (by omega) (by omega) dX2_hangs_15 ?_
        refine tp_i (y := (f i)) (hF i (by omega)) ?_
        refine lv_iload_n hx hb dX2_hangs_16 rfl (lv_at hl 2 rfl) ?_
        refine lv_icmp_ne (tgt := 22) hx hb dX2_hangs_17 (by decide) (fun c17 => ?_) (fun c17 => ?_)
        · skip
          refine lv_iinc (v := (nI (i + 1))) (lv' := [(2, .int (nI (i + 1))), (0, .ref u), (1, .int (nI x))]) hx hb dX2_hangs_22 hl (k := 0) rfl (inc1 _) (by decide) rfl (fun ls hl => ?_)
          refine lv_goto (tgt := 2) hx hb dX2_hangs_25 (by decide) ?_
          exact ih (i + 1) (by omega) (hs_n h2 c17) _ (lv_sub hl [0, 1, 2] rfl)
        · skip
          refine lv_iconst (v := nI 1) hx hb dX2_hangs_20 (by decide) ?_
          exact en_z hx hb hr hlocks (Or.inr rfl) (congrArg nI (hs_y h2 c17 (by omega))) dX2_hangs_21
  exact LP2 n 0 (Nat.zero_add n) rfl _ (lv_sub hl [0, 1, 2] rfl)
theorem k_X2_place : yX2_place.cls = RX2 ∧ yX2_place.cls ≠ "java/lang/invoke/MethodHandle" ∧ yX2_place.cls ≠ "java/lang/invoke/VarHandle" ∧ (parseMethodDescriptor yX2_place.desc).map (fun d => d.parameters.length) = some 1 := by decide +kernel
set_option maxHeartbeats 4000000 in
set_option maxRecDepth 100000 in
theorem m_X2_place (l : Launch) (D : va_G) (cI : ClassId) (u c1 c2 c3 c4 : Nat) {n w : Nat} {F V f g : Nat → Int32} (S : MS n w F V f g) (O Y : Nat → Int32) (e0 e7 e8 e9 e10 : Int32) (x : Nat) (hx9 : x ≤ 9999) (sz : Nat) : Met l yX2_place wsX2_place ({ frames := 2, cells := 0, slots := 0, locals := 47 } : Room) (PM D [(cI, .int)] [.ref u, .int (nI x)] sz (mdw cI u c1 c2 c3 c4 e0 n w F V O Y e7 e8 e9 e10)) (qm_i (fun rr H1 => rr = pl n w f x ∧ ∃ d7 d8 d9 d10 : Int32, va_P D vwCl (mdw cI u c1 c2 c3 c4 e0 n w F V O Y d7 d8 d9 d10) H1) (va_A (mdw cI u c1 c2 c3 c4 e0 n w F V O Y e7 e8 e9 e10) sz)) 0 0 (va_A (mdw cI u c1 c2 c3 c4 e0 n w F V O Y e7 e8 e9 e10) sz) := by
  obtain ⟨hn3, hn, hw2, hF, hV, hO⟩ := id S
  refine bd_m (Qc := (fun A => qm_i (fun rr H1 => rr = pl n w f x ∧ ∃ d7 d8 d9 d10 : Int32, va_P D vwCl (mdw cI u c1 c2 c3 c4 e0 n w F V O Y d7 d8 d9 d10) H1) A)) (cc := cX2_place) (maxL := 2) (ret := (some .int)) (by decide) rfl (Nat.le_of_ble_eq_true rfl) ?_
  intro p e s m args below meth c ls A CF hr hlocks hK hP hD hA hS hl hin
  obtain ⟨hx, hb, hml, hown, hts⟩ := id CF
  have hl : lv_has ls 2 [(0, .ref u), (1, .int (nI x))] := hl
  have hP : va_P D vwCl [(u, .inr (2, [.int e0, .int (nI n), .int (nI w), .ref c1, .ref c2, .ref c3, .ref c4, .int e7, .int e8, .int e9, .int e10])), (c1, .inl (cI, 40, .inl F)), (c2, .inl (cI, 40, .inl V)), (c3, .inl (cI, 40, .inl O)), (c4, .inl (cI, 40, .inl Y))] s.heap := hP
  have hD : va_D A [(u, .inr (2, [.int e0, .int (nI n), .int (nI w), .ref c1, .ref c2, .ref c3, .ref c4, .int e7, .int e8, .int e9, .int e10])), (c1, .inl (cI, 40, .inl F)), (c2, .inl (cI, 40, .inl V)), (c3, .inl (cI, 40, .inl O)), (c4, .inl (cI, 40, .inl Y))] := hD
  generalize hH0 : s.heap = H at hP
  have hS : va_S A s.heap H [] := by rw [← hH0]; exact va_S.rf
  generalize hlc0 : ([] : List Loc) = locs at hS ⊢
  refine lv_aload_n hx hb dX2_place_0 rfl (lv_at hl 0 rfl) ?_
  refine lv_iload_n hx hb dX2_place_1 rfl (lv_at hl 1 rfl) ?_
  refine pv_i CF (m_X2_hangs l D cI u c1 c2 c3 c4 S O Y e0 e7 e8 e9 e10 x hx9) (cwV 1 hts gX2_place_X2_hangs rfl rfl rfl k_X2_hangs ⟨Nat.le_of_ble_eq_true rfl, Nat.le_of_ble_eq_true rfl⟩) hK hP rfl rfl rfl rfl hl.1 rfl (Nat.le_of_ble_eq_true rfl) dX2_place_2 ⟨Nat.le_of_ble_eq_true rfl, Nat.le_of_ble_eq_true rfl⟩ ?_
  refine bz_eq (tgt := 10) hx hb dX2_place_5 (by decide) (hs_lt n f x) (fun c5 => ?_) (fun c5 => ?_)
  · skip
    refine lv_aload_n hx hb dX2_place_10 rfl (lv_at hl 0 rfl) ?_
    refine lv_iload_n hx hb dX2_place_11 rfl (lv_at hl 1 rfl) ?_
    have hPc : va_P D vwCl [(u, .inr (2, [.int e0, .int (nI n), .int (nI w), .ref c1, .ref c2, .ref c3, .ref c4, .int e7, .int e8, .int e9, .int e10])), (c1, .inl (cI, 40, .inl F)), (c2, .inl (cI, 40, .inl V)), (c3, .inl (cI, 40, .inl O)), (c4, .inl (cI, 40, .inl Y))] H := hP.sub [0, 1, 2, 3, 4] rfl
    have hDc : va_D A [(u, .inr (2, [.int e0, .int (nI n), .int (nI w), .ref c1, .ref c2, .ref c3, .ref c4, .int e7, .int e8, .int e9, .int e10])), (c1, .inl (cI, 40, .inl F)), (c2, .inl (cI, 40, .inl V)), (c3, .inl (cI, 40, .inl O)), (c4, .inl (cI, 40, .inl Y))] := hD.sub [0, 1, 2, 3, 4] (by decide) rfl
    have hFc := va_free (wc := [(u, .inr (2, [.int e0, .int (nI n), .int (nI w), .ref c1, .ref c2, .ref c3, .ref c4, .int e7, .int e8, .int e9, .int e10])), (c1, .inl (cI, 40, .inl F)), (c2, .inl (cI, 40, .inl V)), (c3, .inl (cI, 40, .inl O)), (c4, .inl (cI, 40, .inl Y))]) hD hS hA [0, 1, 2, 3, 4] rfl
    refine pq_v (va_runV (rest := []) CF (m_X2_lookNow l D cI u c1 c2 c3 c4 S O Y e0 e7 e8 e9 e10 x hx9 H.size) (cwV 1 hts gX2_place_X2_lookNow rfl rfl rfl k_X2_lookNow ⟨Nat.le_of_ble_eq_true rfl, Nat.le_of_ble_eq_true rfl⟩) (mv_pre hK hPc hDc rfl rfl rfl) rfl rfl hl.1 rfl (lv_room (Nat.le_of_ble_eq_true rfl)) dX2_place_12 ⟨Nat.le_of_ble_eq_true rfl, Nat.le_of_ble_eq_true rfl⟩) hS hFc (fun H locs hB hk1 hS => ?_)
    have hP1 := hB
    obtain ⟨hP, hD⟩ := jn (wb := [(u, .inr (2, [.int e0, .int (nI n), .int (nI w), .ref c1, .ref c2, .ref c3, .ref c4, .int (nI (lk n w f x)), .int (fd n w f x), .int (fr n w f x), .int (tk n w f x (lk n w f x))])), (c1, .inl (cI, 40, .inl F)), (c2, .inl (cI, 40, .inl V)), (c3, .inl (cI, 40, .inl O)), (c4, .inl (cI, 40, .inl Y))]) (w1 := [(u, .inr (2, [.int e0, .int (nI n), .int (nI w), .ref c1, .ref c2, .ref c3, .ref c4, .int (nI (lk n w f x)), .int (fd n w f x), .int (fr n w f x), .int (tk n w f x (lk n w f x))])), (c1, .inl (cI, 40, .inl F)), (c2, .inl (cI, 40, .inl V)), (c3, .inl (cI, 40, .inl O)), (c4, .inl (cI, 40, .inl Y))]) hP hD [0, 1, 2, 3, 4] [] rfl rfl rfl rfl 5 rfl (by decide) (by decide) hk1 hP1
    refine lv_aload_n hx hb dX2_place_15 rfl (lv_at hl 0 rfl) ?_
    refine va_get (D := D) (ci := 2) (v := .int (tk n w f x (lk n w f x))) (C := RX2) (T := TX2) (N := 11) hx hb hts (fun _ h => (List.mem_cons_of_mem _ (List.mem_append_right _ h))) hown hK hP 0 rfl rfl 10 (by decide) (hts _ (List.mem_of_getElem? (i := 1) rfl)) (fun _ h9 => h9) rfl dX2_place_16 ?_
    refine lv_iconst (v := (-1)) hx hb dX2_place_19 (by decide) ?_
    refine lv_icmp_ne (tgt := 30) hx hb dX2_place_20 (by decide) (fun c20 => ?_) (fun c20 => ?_)
    · skip
      refine lv_aload_n hx hb dX2_place_30 rfl (lv_at hl 0 rfl) ?_
      refine va_get (D := D) (ci := 2) (v := .int (tk n w f x (lk n w f x))) (C := RX2) (T := TX2) (N := 11) hx hb hts (fun _ h => (List.mem_cons_of_mem _ (List.mem_append_right _ h))) hown hK hP 0 rfl rfl 10 (by decide) (hts _ (List.mem_of_getElem? (i := 1) rfl)) (fun _ h9 => h9) rfl dX2_place_31 ?_
      exact em_i hx hb hr hlocks hS (⟨by rw [pl, if_pos c5, op, if_neg c20], _, _, _, _, hP⟩) dX2_place_34
    · skip
      refine lv_aload_n hx hb dX2_place_23 rfl (lv_at hl 0 rfl) ?_
      refine va_get (D := D) (ci := 2) (v := .int (fr n w f x)) (C := RX2) (T := TX2) (N := 11) hx hb hts (fun _ h => (List.mem_cons_of_mem _ (List.mem_append_right _ h))) hown hK hP 0 rfl rfl 9 (by decide) (hts _ (List.mem_of_getElem? (i := 2) rfl)) (fun _ h9 => h9) rfl dX2_place_24 ?_
      refine lv_goto (tgt := 34) hx hb dX2_place_27 (by decide) ?_
      exact em_i hx hb hr hlocks hS (⟨by rw [pl, if_pos c5, op, if_pos c20], _, _, _, _, hP⟩) dX2_place_34
  · skip
    refine lv_iconst (v := (-1)) hx hb dX2_place_8 (by decide) ?_
    exact em_i hx hb hr hlocks hS (⟨(if_neg c5).symm, _, _, _, _, hP⟩) dX2_place_9
theorem k_X2_hung : yX2_hung.cls = RX2 ∧ yX2_hung.cls ≠ "java/lang/invoke/MethodHandle" ∧ yX2_hung.cls ≠ "java/lang/invoke/VarHandle" ∧ (parseMethodDescriptor yX2_hung.desc).map (fun d => d.parameters.length) = some 3 := by decide +kernel
set_option maxHeartbeats 4000000 in
set_option maxRecDepth 100000 in
theorem m_X2_hung (l : Launch) (D : va_G) (cI : ClassId) (u c1 c2 c3 c4 : Nat) {n w : Nat} {F V f g : Nat → Int32} (S : MS n w F V f g) (O Y : Nat → Int32) (e0 e7 e8 e9 e10 : Int32) (k : Nat) (x y : Int32) (hk : k < 40) (sz : Nat) : Met l yX2_hung wsX2_hung ({ frames := 0, cells := 0, slots := 0, locals := 0 } : Room) (PM D [(cI, .int)] [.ref u, .int (nI k), .int x, .int y] sz (mdw cI u c1 c2 c3 c4 e0 n w F V O Y e7 e8 e9 e10)) (qm_i (fun rr H1 => rr = nI k ∧ va_P D vwCl (mdw cI u c1 c2 c3 c4 e0 n w (upd F k x) (upd V k y) O Y e7 e8 e9 e10) H1) (va_A (mdw cI u c1 c2 c3 c4 e0 n w F V O Y e7 e8 e9 e10) sz)) 0 0 (va_A (mdw cI u c1 c2 c3 c4 e0 n w F V O Y e7 e8 e9 e10) sz) := by
  obtain ⟨hn3, hn, hw2, hF, hV, hO⟩ := id S
  refine bd_m (Qc := (fun A => qm_i (fun rr H1 => rr = nI k ∧ va_P D vwCl (mdw cI u c1 c2 c3 c4 e0 n w (upd F k x) (upd V k y) O Y e7 e8 e9 e10) H1) A)) (cc := cX2_hung) (maxL := 4) (ret := (some .int)) (by decide) rfl (Nat.le_of_ble_eq_true rfl) ?_
  intro p e s m args below meth c ls A CF hr hlocks hK hP hD hA hS hl hin
  obtain ⟨hx, hb, hml, hown, hts⟩ := id CF
  have hl : lv_has ls 4 [(0, .ref u), (1, .int (nI k)), (2, .int x), (3, .int y)] := hl
  have hP : va_P D vwCl [(u, .inr (2, [.int e0, .int (nI n), .int (nI w), .ref c1, .ref c2, .ref c3, .ref c4, .int e7, .int e8, .int e9, .int e10])), (c1, .inl (cI, 40, .inl F)), (c2, .inl (cI, 40, .inl V)), (c3, .inl (cI, 40, .inl O)), (c4, .inl (cI, 40, .inl Y))] s.heap := hP
  have hD : va_D A [(u, .inr (2, [.int e0, .int (nI n), .int (nI w), .ref c1, .ref c2, .ref c3, .ref c4, .int e7, .int e8, .int e9, .int e10])), (c1, .inl (cI, 40, .inl F)), (c2, .inl (cI, 40, .inl V)), (c3, .inl (cI, 40, .inl O)), (c4, .inl (cI, 40, .inl Y))] := hD
  generalize hH0 : s.heap = H at hP
  have hS : va_S A s.heap H [] := by rw [← hH0]; exact va_S.rf
  generalize hlc0 : ([] : List Loc) = locs at hS ⊢
  refine lv_aload_n hx hb dX2_hung_0 rfl (lv_at hl 0 rfl) ?_
  refine va_get (D := D) (ci := 2) (v := .ref c1) (C := RX2) (T := TX2) (N := 11) hx hb hts (fun _ h => (List.mem_cons_of_mem _ (List.mem_append_right _ h))) hown hK hP 0 rfl rfl 3 (by decide) (hts _ (List.mem_of_getElem? (i := 1) rfl)) (fun _ h9 => h9) rfl dX2_hung_1 ?_
  refine lv_iload_n hx hb dX2_hung_4 rfl (lv_at hl 1 rfl) ?_
  refine lv_iload_n hx hb dX2_hung_5 rfl (lv_at hl 2 rfl) ?_
  refine as_i hx hb hK hP hD hS 1 0 rfl rfl (k := k) (by omega) (by omega) dX2_hung_6 (fun H locs hP hD hS => ?_)
  have hP : va_P D vwCl [(u, .inr (2, [.int e0, .int (nI n), .int (nI w), .ref c1, .ref c2, .ref c3, .ref c4, .int e7, .int e8, .int e9, .int e10])), (c1, .inl (cI, 40, .inl (upd F k x))), (c2, .inl (cI, 40, .inl V)), (c3, .inl (cI, 40, .inl O)), (c4, .inl (cI, 40, .inl Y))] H := hP
  have hD : va_D A [(u, .inr (2, [.int e0, .int (nI n), .int (nI w), .ref c1, .ref c2, .ref c3, .ref c4, .int e7, .int e8, .int e9, .int e10])), (c1, .inl (cI, 40, .inl (upd F k x))), (c2, .inl (cI, 40, .inl V)), (c3, .inl (cI, 40, .inl O)), (c4, .inl (cI, 40, .inl Y))] := hD
  refine lv_aload_n hx hb dX2_hung_7 rfl (lv_at hl 0 rfl) ?_
  refine va_get (D := D) (ci := 2) (v := .ref c2) (C := RX2) (T := TX2) (N := 11) hx hb hts (fun _ h => (List.mem_cons_of_mem _ (List.mem_append_right _ h))) hown hK hP 0 rfl rfl 4 (by decide) (hts _ (List.mem_of_getElem? (i := 2) rfl)) (fun _ h9 => h9) rfl dX2_hung_8 ?_
  refine lv_iload_n hx hb dX2_hung_11 rfl (lv_at hl 1 rfl) ?_
  refine lv_iload_n hx hb dX2_hung_12 rfl (lv_at hl 3 rfl) ?_
  refine as_i hx hb hK hP hD hS 2 0 rfl rfl (k := k) (by omega) (by omega) dX2_hung_13 (fun H locs hP hD hS => ?_)
  have hP : va_P D vwCl [(u, .inr (2, [.int e0, .int (nI n), .int (nI w), .ref c1, .ref c2, .ref c3, .ref c4, .int e7, .int e8, .int e9, .int e10])), (c1, .inl (cI, 40, .inl (upd F k x))), (c2, .inl (cI, 40, .inl (upd V k y))), (c3, .inl (cI, 40, .inl O)), (c4, .inl (cI, 40, .inl Y))] H := hP
  have hD : va_D A [(u, .inr (2, [.int e0, .int (nI n), .int (nI w), .ref c1, .ref c2, .ref c3, .ref c4, .int e7, .int e8, .int e9, .int e10])), (c1, .inl (cI, 40, .inl (upd F k x))), (c2, .inl (cI, 40, .inl (upd V k y))), (c3, .inl (cI, 40, .inl O)), (c4, .inl (cI, 40, .inl Y))] := hD
  refine lv_iload_n hx hb dX2_hung_14 rfl (lv_at hl 1 rfl) ?_
  exact em_i hx hb hr hlocks hS (⟨rfl, hP⟩) dX2_hung_15
theorem k_X2_count : yX2_count.cls = RX2 ∧ yX2_count.cls ≠ "java/lang/invoke/MethodHandle" ∧ yX2_count.cls ≠ "java/lang/invoke/VarHandle" ∧ (parseMethodDescriptor yX2_count.desc).map (fun d => d.parameters.length) = some 1 := by decide +kernel
set_option maxHeartbeats 4000000 in
set_option maxRecDepth 100000 in
theorem m_X2_count (l : Launch) (D : va_G) (cI : ClassId) (u c1 c2 c3 c4 : Nat) {n w : Nat} {F V f g : Nat → Int32} (S : MS n w F V f g) (O Y : Nat → Int32) (e0 e7 e8 e9 e10 : Int32) (v : Int32) : Met l yX2_count wsX2_count ({ frames := 0, cells := 0, slots := 0, locals := 0 } : Room) (PR D [(cI, .int)] [.ref u, .int v] (mdw cI u c1 c2 c3 c4 e0 n w F V O Y e7 e8 e9 e10)) (vp_Si (fun r => r = nI (cw n f v))) 0 0 (fun _ => False) := by
  obtain ⟨hn3, hn, hw2, hF, hV, hO⟩ := id S
  refine bd_p (cc := cX2_count) (maxL := 4) (ret := (some .int)) (by decide) rfl (Nat.le_of_ble_eq_true rfl) ?_
  intro p e s m args below meth c ls CF hr hlocks hK hP hl
  obtain ⟨hx, hb, hml, hown, hts⟩ := id CF
  have hl : lv_has ls 4 [(0, .ref u), (1, .int v)] := hl
  have hP : va_P D vwCl [(u, .inr (2, [.int e0, .int (nI n), .int (nI w), .ref c1, .ref c2, .ref c3, .ref c4, .int e7, .int e8, .int e9, .int e10])), (c1, .inl (cI, 40, .inl F)), (c2, .inl (cI, 40, .inl V)), (c3, .inl (cI, 40, .inl O)), (c4, .inl (cI, 40, .inl Y))] s.heap := hP
  refine lv_iconst (v := nI 0) hx hb dX2_count_0 (by decide) ?_
  refine lv_istore_n (lv' := [(2, .int (nI 0)), (0, .ref u), (1, .int v)]) hx hb dX2_count_1 rfl hl (by decide) rfl (fun ls hl => ?_)
  refine lv_iconst (v := nI 0) hx hb dX2_count_2 (by decide) ?_
  refine lv_istore_n (lv' := [(3, .int (nI 0)), (2, .int (nI 0)), (0, .ref u), (1, .int v)]) hx hb dX2_count_3 rfl hl (by decide) rfl (fun ls hl => ?_)
  have LP4 : ∀ (q i a : Nat), i + q = n → fo (fun a i => if f i = v then a + 1 else a) q i a = cw n f v → ∀ (ls : Array Slot), lv_has ls 4 [(3, .int (nI i)), (2, .int (nI a)), (0, .ref u), (1, .int v)] → W p l e ({ frames := 0, cells := 0, slots := 0, locals := 0 } : Room) s m args below meth c s.heap [] 0 0 (MQ below (vp_Si (fun r => r = nI (cw n f v))) args s 0 0 (fun _ => False)) (F0 m 4 ls []) := by
    intro q
    induction q with
    | zero =>
      intro i a h1 h2 ls hl
      refine lv_iload_n hx hb dX2_count_4 rfl (lv_at hl 0 rfl) ?_
      refine lv_aload_n hx hb dX2_count_5 rfl (lv_at hl 2 rfl) ?_
      refine va_get (D := D) (ci := 2) (v := .int (nI n)) (C := RX2) (T := TX2) (N := 11) hx hb hts (fun _ h => (List.mem_cons_of_mem _ (List.mem_append_right _ h))) hown hK hP 0 rfl rfl 1 (by decide) (hts _ (List.mem_of_getElem? (i := 1) rfl)) (fun _ h9 => h9) rfl dX2_count_6 ?_
      refine bn_ge (tgt := 36) hx hb dX2_count_9 (by decide) (by omega) (by omega) (fun c9 => ?_) (fun c9 => ?_)
      · skip
        refine lv_iload_n hx hb dX2_count_36 rfl (lv_at hl 1 rfl) ?_
        exact en_i hx hb hr hlocks (congrArg nI h2) dX2_count_37
      · skip
        omega
    | succ q ih =>
      intro i a h1 h2 ls hl
      refine lv_iload_n hx hb dX2_count_4 rfl (lv_at hl 0 rfl) ?_
      refine lv_aload_n hx hb dX2_count_5 rfl (lv_at hl 2 rfl) ?_
      refine va_get (D := D) (ci := 2) (v := .int (nI n)) (C := RX2) (T := TX2) (N := 11) hx hb hts (fun _ h => (List.mem_cons_of_mem _ (List.mem_append_right _ h))) hown hK hP 0 rfl rfl 1 (by decide) (hts _ (List.mem_of_getElem? (i := 1) rfl)) (fun _ h9 => h9) rfl dX2_count_6 ?_
      refine bn_ge (tgt := 36) hx hb dX2_count_9 (by decide) (by omega) (by omega) (fun c9 => ?_) (fun c9 => ?_)
      · skip
        omega
      · skip
        refine lv_iload_n hx hb dX2_count_12 rfl (lv_at hl 1 rfl) ?_
        refine lv_aload_n hx hb dX2_count_13 rfl (lv_at hl 2 rfl) ?_
        refine va_get (D := D) (ci := 2) (v := .ref c1) (C := RX2) (T := TX2) (N := 11) hx hb hts (fun _ h => (List.mem_cons_of_mem _ (List.mem_append_right _ h))) hown hK hP 0 rfl rfl 3 (by decide) (hts _ (List.mem_of_getElem? (i := 2) rfl)) (fun _ h9 => h9) rfl dX2_count_14 ?_
        refine lv_iload_n hx hb dX2_count_17 rfl (lv_at hl 0 rfl) ?_
        refine al_i hx hb hK hP 1 0 rfl rfl (by omega) (by omega) dX2_count_18 ?_
        refine tp_i (y := (f i)) (hF i (by omega)) ?_
        refine lv_iload_n hx hb dX2_count_19 rfl (lv_at hl 3 rfl) ?_
        refine lv_icmp_ne (tgt := 27) hx hb dX2_count_20 (by decide) (fun c20 => ?_) (fun c20 => ?_)
        · skip
          refine lv_iconst (v := nI 0) hx hb dX2_count_27 (by decide) ?_
          refine an_add hx hb dX2_count_28 ?_
          refine tp_i (y := nI a) rfl ?_
          refine lv_istore_n (lv' := [(2, .int (nI a)), (3, .int (nI i)), (0, .ref u), (1, .int v)]) hx hb dX2_count_29 rfl hl (by decide) rfl (fun ls hl => ?_)
          refine lv_iinc (v := (nI (i + 1))) (lv' := [(3, .int (nI (i + 1))), (2, .int (nI a)), (0, .ref u), (1, .int v)]) hx hb dX2_count_30 hl (k := 1) rfl (inc1 _) (by decide) rfl (fun ls hl => ?_)
          refine lv_goto (tgt := 4) hx hb dX2_count_33 (by decide) ?_
          exact ih (i + 1) a (by omega) (by rw [fo_s, if_neg c20] at h2; exact h2) _ (lv_sub hl [0, 1, 2, 3] rfl)
        · skip
          refine lv_iconst (v := nI 1) hx hb dX2_count_23 (by decide) ?_
          refine lv_goto (tgt := 28) hx hb dX2_count_24 (by decide) ?_
          refine an_add hx hb dX2_count_28 ?_
          refine lv_istore_n (lv' := [(2, .int (nI (a + 1))), (3, .int (nI i)), (0, .ref u), (1, .int v)]) hx hb dX2_count_29 rfl hl (by decide) rfl (fun ls hl => ?_)
          refine lv_iinc (v := (nI (i + 1))) (lv' := [(3, .int (nI (i + 1))), (2, .int (nI (a + 1))), (0, .ref u), (1, .int v)]) hx hb dX2_count_30 hl (k := 1) rfl (inc1 _) (by decide) rfl (fun ls hl => ?_)
          refine lv_goto (tgt := 4) hx hb dX2_count_33 (by decide) ?_
          exact ih (i + 1) (a + 1) (by omega) (by rw [fo_s, if_pos c20] at h2; exact h2) _ (lv_sub hl [0, 1, 2, 3] rfl)
  exact LP4 n 0 0 (Nat.zero_add n) rfl _ (lv_sub hl [0, 1, 2, 3] rfl)
theorem k_X2_many : yX2_many.cls = RX2 ∧ yX2_many.cls ≠ "java/lang/invoke/MethodHandle" ∧ yX2_many.cls ≠ "java/lang/invoke/VarHandle" ∧ (parseMethodDescriptor yX2_many.desc).map (fun d => d.parameters.length) = some 0 := by decide +kernel
set_option maxHeartbeats 4000000 in
set_option maxRecDepth 100000 in
theorem m_X2_many (l : Launch) (D : va_G) (cI : ClassId) (u c1 c2 c3 c4 : Nat) {n w : Nat} {F V f g : Nat → Int32} (S : MS n w F V f g) (O Y : Nat → Int32) (e0 e7 e8 e9 e10 : Int32) : Met l yX2_many wsX2_many ({ frames := 0, cells := 0, slots := 0, locals := 0 } : Room) (PR D [(cI, .int)] [.ref u] (mdw cI u c1 c2 c3 c4 e0 n w F V O Y e7 e8 e9 e10)) (vp_Si (fun r => r = nI (ct n f (nI 1)))) 0 0 (fun _ => False) := by
  obtain ⟨hn3, hn, hw2, hF, hV, hO⟩ := id S
  refine bd_p (cc := cX2_many) (maxL := 3) (ret := (some .int)) (by decide) rfl (Nat.le_of_ble_eq_true rfl) ?_
  intro p e s m args below meth c ls CF hr hlocks hK hP hl
  obtain ⟨hx, hb, hml, hown, hts⟩ := id CF
  have hl : lv_has ls 3 [(0, .ref u)] := hl
  have hP : va_P D vwCl [(u, .inr (2, [.int e0, .int (nI n), .int (nI w), .ref c1, .ref c2, .ref c3, .ref c4, .int e7, .int e8, .int e9, .int e10])), (c1, .inl (cI, 40, .inl F)), (c2, .inl (cI, 40, .inl V)), (c3, .inl (cI, 40, .inl O)), (c4, .inl (cI, 40, .inl Y))] s.heap := hP
  refine lv_iconst (v := nI 0) hx hb dX2_many_0 (by decide) ?_
  refine lv_istore_n (lv' := [(1, .int (nI 0)), (0, .ref u)]) hx hb dX2_many_1 rfl hl (by decide) rfl (fun ls hl => ?_)
  refine lv_iconst (v := nI 0) hx hb dX2_many_2 (by decide) ?_
  refine lv_istore_n (lv' := [(2, .int (nI 0)), (1, .int (nI 0)), (0, .ref u)]) hx hb dX2_many_3 rfl hl (by decide) rfl (fun ls hl => ?_)
  have LP4 : ∀ (q i a : Nat), i + q = n → fo (fun a i => if 0 ≤ f i then a + 1 else a) q i a = mn n f → ∀ (ls : Array Slot), lv_has ls 3 [(2, .int (nI i)), (1, .int (nI a)), (0, .ref u)] → W p l e ({ frames := 0, cells := 0, slots := 0, locals := 0 } : Room) s m args below meth c s.heap [] 0 0 (MQ below (vp_Si (fun r => r = nI (ct n f (nI 1)))) args s 0 0 (fun _ => False)) (F0 m 4 ls []) := by
    intro q
    induction q with
    | zero =>
      intro i a h1 h2 ls hl
      refine lv_iload_n hx hb dX2_many_4 rfl (lv_at hl 0 rfl) ?_
      refine lv_aload_n hx hb dX2_many_5 rfl (lv_at hl 2 rfl) ?_
      refine va_get (D := D) (ci := 2) (v := .int (nI n)) (C := RX2) (T := TX2) (N := 11) hx hb hts (fun _ h => (List.mem_cons_of_mem _ (List.mem_append_right _ h))) hown hK hP 0 rfl rfl 1 (by decide) (hts _ (List.mem_of_getElem? (i := 1) rfl)) (fun _ h9 => h9) rfl dX2_many_6 ?_
      refine bn_ge (tgt := 35) hx hb dX2_many_9 (by decide) (by omega) (by omega) (fun c9 => ?_) (fun c9 => ?_)
      · skip
        refine lv_iload_n hx hb dX2_many_35 rfl (lv_at hl 1 rfl) ?_
        exact en_i hx hb hr hlocks (congrArg nI (h2.trans (mn_ct hO))) dX2_many_36
      · skip
        omega
    | succ q ih =>
      intro i a h1 h2 ls hl
      refine lv_iload_n hx hb dX2_many_4 rfl (lv_at hl 0 rfl) ?_
      refine lv_aload_n hx hb dX2_many_5 rfl (lv_at hl 2 rfl) ?_
      refine va_get (D := D) (ci := 2) (v := .int (nI n)) (C := RX2) (T := TX2) (N := 11) hx hb hts (fun _ h => (List.mem_cons_of_mem _ (List.mem_append_right _ h))) hown hK hP 0 rfl rfl 1 (by decide) (hts _ (List.mem_of_getElem? (i := 1) rfl)) (fun _ h9 => h9) rfl dX2_many_6 ?_
      refine bn_ge (tgt := 35) hx hb dX2_many_9 (by decide) (by omega) (by omega) (fun c9 => ?_) (fun c9 => ?_)
      · skip
        omega
      · skip
        refine lv_iload_n hx hb dX2_many_12 rfl (lv_at hl 1 rfl) ?_
        refine lv_aload_n hx hb dX2_many_13 rfl (lv_at hl 2 rfl) ?_
        refine va_get (D := D) (ci := 2) (v := .ref c1) (C := RX2) (T := TX2) (N := 11) hx hb hts (fun _ h => (List.mem_cons_of_mem _ (List.mem_append_right _ h))) hown hK hP 0 rfl rfl 3 (by decide) (hts _ (List.mem_of_getElem? (i := 2) rfl)) (fun _ h9 => h9) rfl dX2_many_14 ?_
        refine lv_iload_n hx hb dX2_many_17 rfl (lv_at hl 0 rfl) ?_
        refine al_i hx hb hK hP 1 0 rfl rfl (by omega) (by omega) dX2_many_18 ?_
        refine tp_i (y := (f i)) (hF i (by omega)) ?_
        refine lv_if_lt (tgt := 26) hx hb dX2_many_19 (by decide) (fun c19 => ?_) (fun c19 => ?_)
        · skip
          refine lv_iconst (v := nI 0) hx hb dX2_many_26 (by decide) ?_
          refine an_add hx hb dX2_many_27 ?_
          refine tp_i (y := nI a) rfl ?_
          refine lv_istore_n (lv' := [(1, .int (nI a)), (2, .int (nI i)), (0, .ref u)]) hx hb dX2_many_28 rfl hl (by decide) rfl (fun ls hl => ?_)
          refine lv_iinc (v := (nI (i + 1))) (lv' := [(2, .int (nI (i + 1))), (1, .int (nI a)), (0, .ref u)]) hx hb dX2_many_29 hl (k := 1) rfl (inc1 _) (by decide) rfl (fun ls hl => ?_)
          refine lv_goto (tgt := 4) hx hb dX2_many_32 (by decide) ?_
          exact ih (i + 1) a (by omega) (by rw [fo_s, if_neg (fun z => not_lt0 z c19)] at h2; exact h2) _ (lv_sub hl [0, 1, 2] rfl)
        · skip
          refine lv_iconst (v := nI 1) hx hb dX2_many_22 (by decide) ?_
          refine lv_goto (tgt := 27) hx hb dX2_many_23 (by decide) ?_
          refine an_add hx hb dX2_many_27 ?_
          refine lv_istore_n (lv' := [(1, .int (nI (a + 1))), (2, .int (nI i)), (0, .ref u)]) hx hb dX2_many_28 rfl hl (by decide) rfl (fun ls hl => ?_)
          refine lv_iinc (v := (nI (i + 1))) (lv' := [(2, .int (nI (i + 1))), (1, .int (nI (a + 1))), (0, .ref u)]) hx hb dX2_many_29 hl (k := 1) rfl (inc1 _) (by decide) rfl (fun ls hl => ?_)
          refine lv_goto (tgt := 4) hx hb dX2_many_32 (by decide) ?_
          exact ih (i + 1) (a + 1) (by omega) (by rw [fo_s, if_pos (ge0 c19)] at h2; exact h2) _ (lv_sub hl [0, 1, 2] rfl)
  exact LP4 n 0 0 (Nat.zero_add n) rfl _ (lv_sub hl [0, 1, 2] rfl)
theorem k_X2_state : yX2_state.cls = RX2 ∧ yX2_state.cls ≠ "java/lang/invoke/MethodHandle" ∧ yX2_state.cls ≠ "java/lang/invoke/VarHandle" ∧ (parseMethodDescriptor yX2_state.desc).map (fun d => d.parameters.length) = some 1 := by decide +kernel
set_option maxHeartbeats 4000000 in
set_option maxRecDepth 100000 in
theorem m_X2_state (l : Launch) (D : va_G) (cI : ClassId) (u c1 c2 c3 c4 : Nat) {n w : Nat} {F V f g : Nat → Int32} (S : MS n w F V f g) (O Y : Nat → Int32) (e0 e7 e8 e9 e10 : Int32) (k : Nat) (hk : k < n) : Met l yX2_state wsX2_state ({ frames := 0, cells := 0, slots := 0, locals := 0 } : Room) (PR D [(cI, .int)] [.ref u, .int (nI k)] (mdw cI u c1 c2 c3 c4 e0 n w F V O Y e7 e8 e9 e10)) (vp_Si (fun r => r = st (f k))) 0 0 (fun _ => False) := by
  obtain ⟨hn3, hn, hw2, hF, hV, hO⟩ := id S
  refine bd_p (cc := cX2_state) (maxL := 2) (ret := (some .int)) (by decide) rfl (Nat.le_of_ble_eq_true rfl) ?_
  intro p e s m args below meth c ls CF hr hlocks hK hP hl
  obtain ⟨hx, hb, hml, hown, hts⟩ := id CF
  have hl : lv_has ls 2 [(0, .ref u), (1, .int (nI k))] := hl
  have hP : va_P D vwCl [(u, .inr (2, [.int e0, .int (nI n), .int (nI w), .ref c1, .ref c2, .ref c3, .ref c4, .int e7, .int e8, .int e9, .int e10])), (c1, .inl (cI, 40, .inl F)), (c2, .inl (cI, 40, .inl V)), (c3, .inl (cI, 40, .inl O)), (c4, .inl (cI, 40, .inl Y))] s.heap := hP
  refine lv_aload_n hx hb dX2_state_0 rfl (lv_at hl 0 rfl) ?_
  refine va_get (D := D) (ci := 2) (v := .ref c1) (C := RX2) (T := TX2) (N := 11) hx hb hts (fun _ h => (List.mem_cons_of_mem _ (List.mem_append_right _ h))) hown hK hP 0 rfl rfl 3 (by decide) (hts _ (List.mem_of_getElem? (i := 1) rfl)) (fun _ h9 => h9) rfl dX2_state_1 ?_
  refine lv_iload_n hx hb dX2_state_4 rfl (lv_at hl 1 rfl) ?_
  refine al_i hx hb hK hP 1 0 rfl rfl (by omega) (by omega) dX2_state_5 ?_
  refine tp_i (y := (f k)) (hF k hk) ?_
  refine lv_iconst (v := (-1)) hx hb dX2_state_6 (by decide) ?_
  refine lv_icmp_ne (tgt := 14) hx hb dX2_state_7 (by decide) (fun c7 => ?_) (fun c7 => ?_)
  · skip
    refine lv_aload_n hx hb dX2_state_14 rfl (lv_at hl 0 rfl) ?_
    refine va_get (D := D) (ci := 2) (v := .ref c1) (C := RX2) (T := TX2) (N := 11) hx hb hts (fun _ h => (List.mem_cons_of_mem _ (List.mem_append_right _ h))) hown hK hP 0 rfl rfl 3 (by decide) (hts _ (List.mem_of_getElem? (i := 1) rfl)) (fun _ h9 => h9) rfl dX2_state_15 ?_
    refine lv_iload_n hx hb dX2_state_18 rfl (lv_at hl 1 rfl) ?_
    refine al_i hx hb hK hP 1 0 rfl rfl (by omega) (by omega) dX2_state_19 ?_
    refine tp_i (y := (f k)) (hF k hk) ?_
    refine lv_bipush (v := (-2)) hx hb dX2_state_20 (by decide) ?_
    refine lv_icmp_ne (tgt := 29) hx hb dX2_state_22 (by decide) (fun c22 => ?_) (fun c22 => ?_)
    · skip
      refine lv_iconst (v := nI 1) hx hb dX2_state_29 (by decide) ?_
      exact en_i hx hb hr hlocks (((if_neg c7).trans (if_neg c22)).symm) dX2_state_30
    · skip
      refine lv_iconst (v := nI 2) hx hb dX2_state_25 (by decide) ?_
      refine lv_goto (tgt := 30) hx hb dX2_state_26 (by decide) ?_
      exact en_i hx hb hr hlocks (((if_neg c7).trans (if_pos c22)).symm) dX2_state_30
  · skip
    refine lv_iconst (v := nI 0) hx hb dX2_state_10 (by decide) ?_
    refine lv_goto (tgt := 30) hx hb dX2_state_11 (by decide) ?_
    exact en_i hx hb hr hlocks ((if_pos c7).symm) dX2_state_30
theorem k_X2_coat : yX2_coat.cls = RX2 ∧ yX2_coat.cls ≠ "java/lang/invoke/MethodHandle" ∧ yX2_coat.cls ≠ "java/lang/invoke/VarHandle" ∧ (parseMethodDescriptor yX2_coat.desc).map (fun d => d.parameters.length) = some 1 := by decide +kernel
set_option maxHeartbeats 4000000 in
set_option maxRecDepth 100000 in
theorem m_X2_coat (l : Launch) (D : va_G) (cI : ClassId) (u c1 c2 c3 c4 : Nat) {n w : Nat} {F V f g : Nat → Int32} (S : MS n w F V f g) (O Y : Nat → Int32) (e0 e7 e8 e9 e10 : Int32) (k : Nat) (hk : k < n) : Met l yX2_coat wsX2_coat ({ frames := 1, cells := 0, slots := 0, locals := 21 } : Room) (PR D [(cI, .int)] [.ref u, .int (nI k)] (mdw cI u c1 c2 c3 c4 e0 n w F V O Y e7 e8 e9 e10)) (vp_Si (fun r => r = cn (f k))) 0 0 (fun _ => False) := by
  obtain ⟨hn3, hn, hw2, hF, hV, hO⟩ := id S
  refine bd_p (cc := cX2_coat) (maxL := 2) (ret := (some .int)) (by decide) rfl (Nat.le_of_ble_eq_true rfl) ?_
  intro p e s m args below meth c ls CF hr hlocks hK hP hl
  obtain ⟨hx, hb, hml, hown, hts⟩ := id CF
  have hl : lv_has ls 2 [(0, .ref u), (1, .int (nI k))] := hl
  have hP : va_P D vwCl [(u, .inr (2, [.int e0, .int (nI n), .int (nI w), .ref c1, .ref c2, .ref c3, .ref c4, .int e7, .int e8, .int e9, .int e10])), (c1, .inl (cI, 40, .inl F)), (c2, .inl (cI, 40, .inl V)), (c3, .inl (cI, 40, .inl O)), (c4, .inl (cI, 40, .inl Y))] s.heap := hP
  refine lv_iconst (v := (-1)) hx hb dX2_coat_0 (by decide) ?_
  refine lv_aload_n hx hb dX2_coat_1 rfl (lv_at hl 0 rfl) ?_
  refine va_get (D := D) (ci := 2) (v := .ref c1) (C := RX2) (T := TX2) (N := 11) hx hb hts (fun _ h => (List.mem_cons_of_mem _ (List.mem_append_right _ h))) hown hK hP 0 rfl rfl 3 (by decide) (hts _ (List.mem_of_getElem? (i := 1) rfl)) (fun _ h9 => h9) rfl dX2_coat_2 ?_
  refine lv_iload_n hx hb dX2_coat_5 rfl (lv_at hl 1 rfl) ?_
  refine al_i hx hb hK hP 1 0 rfl rfl (by omega) (by omega) dX2_coat_6 ?_
  refine tp_i (y := (f k)) (hF k hk) ?_
  refine va_mmax hx hb (hml.trans hl.1.symm) hown (hts _ (List.mem_of_getElem? (i := 2) rfl)) (hts _ (List.mem_of_getElem? (i := 3) rfl)) (hts _ (List.mem_of_getElem? (i := 4) rfl)) (hts _ (List.mem_of_getElem? (i := 5) rfl)) (Nat.le_of_ble_eq_true rfl) (Nat.le_of_ble_eq_true rfl) (Nat.zero_le _) (Nat.zero_le _) dX2_coat_7 ?_
  refine tp_i (y := cn (f k)) (cn_max (f k) (hO.three hk)) ?_
  exact en_i hx hb hr hlocks rfl dX2_coat_10
theorem k_X2_weightOn : yX2_weightOn.cls = RX2 ∧ yX2_weightOn.cls ≠ "java/lang/invoke/MethodHandle" ∧ yX2_weightOn.cls ≠ "java/lang/invoke/VarHandle" ∧ (parseMethodDescriptor yX2_weightOn.desc).map (fun d => d.parameters.length) = some 1 := by decide +kernel
set_option maxHeartbeats 4000000 in
set_option maxRecDepth 100000 in
theorem m_X2_weightOn (l : Launch) (D : va_G) (cI : ClassId) (u c1 c2 c3 c4 : Nat) {n w : Nat} {F V f g : Nat → Int32} (S : MS n w F V f g) (O Y : Nat → Int32) (e0 e7 e8 e9 e10 : Int32) (k : Nat) (hk : k < n) : Met l yX2_weightOn wsX2_weightOn ({ frames := 0, cells := 0, slots := 0, locals := 0 } : Room) (PR D [(cI, .int)] [.ref u, .int (nI k)] (mdw cI u c1 c2 c3 c4 e0 n w F V O Y e7 e8 e9 e10)) (vp_Si (fun r => r = g k)) 0 0 (fun _ => False) := by
  obtain ⟨hn3, hn, hw2, hF, hV, hO⟩ := id S
  refine bd_p (cc := cX2_weightOn) (maxL := 2) (ret := (some .int)) (by decide) rfl (Nat.le_of_ble_eq_true rfl) ?_
  intro p e s m args below meth c ls CF hr hlocks hK hP hl
  obtain ⟨hx, hb, hml, hown, hts⟩ := id CF
  have hl : lv_has ls 2 [(0, .ref u), (1, .int (nI k))] := hl
  have hP : va_P D vwCl [(u, .inr (2, [.int e0, .int (nI n), .int (nI w), .ref c1, .ref c2, .ref c3, .ref c4, .int e7, .int e8, .int e9, .int e10])), (c1, .inl (cI, 40, .inl F)), (c2, .inl (cI, 40, .inl V)), (c3, .inl (cI, 40, .inl O)), (c4, .inl (cI, 40, .inl Y))] s.heap := hP
  refine lv_aload_n hx hb dX2_weightOn_0 rfl (lv_at hl 0 rfl) ?_
  refine va_get (D := D) (ci := 2) (v := .ref c1) (C := RX2) (T := TX2) (N := 11) hx hb hts (fun _ h => (List.mem_cons_of_mem _ (List.mem_append_right _ h))) hown hK hP 0 rfl rfl 3 (by decide) (hts _ (List.mem_of_getElem? (i := 1) rfl)) (fun _ h9 => h9) rfl dX2_weightOn_1 ?_
  refine lv_iload_n hx hb dX2_weightOn_4 rfl (lv_at hl 1 rfl) ?_
  refine al_i hx hb hK hP 1 0 rfl rfl (by omega) (by omega) dX2_weightOn_5 ?_
  refine tp_i (y := (f k)) (hF k hk) ?_
  refine lv_if_ge (tgt := 13) hx hb dX2_weightOn_6 (by decide) (fun c6 => ?_) (fun c6 => ?_)
  · skip
    refine lv_aload_n hx hb dX2_weightOn_13 rfl (lv_at hl 0 rfl) ?_
    refine va_get (D := D) (ci := 2) (v := .ref c2) (C := RX2) (T := TX2) (N := 11) hx hb hts (fun _ h => (List.mem_cons_of_mem _ (List.mem_append_right _ h))) hown hK hP 0 rfl rfl 4 (by decide) (hts _ (List.mem_of_getElem? (i := 2) rfl)) (fun _ h9 => h9) rfl dX2_weightOn_14 ?_
    refine lv_iload_n hx hb dX2_weightOn_17 rfl (lv_at hl 1 rfl) ?_
    refine al_i hx hb hK hP 2 0 rfl rfl (by omega) (by omega) dX2_weightOn_18 ?_
    refine tp_i (y := (g k)) (hV k hk c6) ?_
    exact en_i hx hb hr hlocks rfl dX2_weightOn_19
  · skip
    refine lv_iconst (v := nI 0) hx hb dX2_weightOn_9 (by decide) ?_
    refine lv_goto (tgt := 19) hx hb dX2_weightOn_10 (by decide) ?_
    exact en_i hx hb hr hlocks ((hO.neg hk c6).2.symm) dX2_weightOn_19
theorem k_X2_all : yX2_all.cls = RX2 ∧ yX2_all.cls ≠ "java/lang/invoke/MethodHandle" ∧ yX2_all.cls ≠ "java/lang/invoke/VarHandle" ∧ (parseMethodDescriptor yX2_all.desc).map (fun d => d.parameters.length) = some 0 := by decide +kernel
set_option maxHeartbeats 4000000 in
set_option maxRecDepth 100000 in
theorem m_X2_all (l : Launch) (D : va_G) (cI : ClassId) (u c1 c2 c3 c4 : Nat) {n w : Nat} {F V f g : Nat → Int32} (S : MS n w F V f g) (O Y : Nat → Int32) (e0 e7 e8 e9 e10 : Int32) : Met l yX2_all wsX2_all ({ frames := 1, cells := 0, slots := 0, locals := 21 } : Room) (PR D [(cI, .int)] [.ref u] (mdw cI u c1 c2 c3 c4 e0 n w F V O Y e7 e8 e9 e10)) (vp_Si (fun r => r = wa n g)) 0 0 (fun _ => False) := by
  obtain ⟨hn3, hn, hw2, hF, hV, hO⟩ := id S
  refine bd_p (cc := cX2_all) (maxL := 3) (ret := (some .int)) (by decide) rfl (Nat.le_of_ble_eq_true rfl) ?_
  intro p e s m args below meth c ls CF hr hlocks hK hP hl
  obtain ⟨hx, hb, hml, hown, hts⟩ := id CF
  have hl : lv_has ls 3 [(0, .ref u)] := hl
  have hP : va_P D vwCl [(u, .inr (2, [.int e0, .int (nI n), .int (nI w), .ref c1, .ref c2, .ref c3, .ref c4, .int e7, .int e8, .int e9, .int e10])), (c1, .inl (cI, 40, .inl F)), (c2, .inl (cI, 40, .inl V)), (c3, .inl (cI, 40, .inl O)), (c4, .inl (cI, 40, .inl Y))] s.heap := hP
  refine lv_iconst (v := nI 0) hx hb dX2_all_0 (by decide) ?_
  refine lv_istore_n (lv' := [(1, .int (nI 0)), (0, .ref u)]) hx hb dX2_all_1 rfl hl (by decide) rfl (fun ls hl => ?_)
  refine lv_iconst (v := nI 0) hx hb dX2_all_2 (by decide) ?_
  refine lv_istore_n (lv' := [(2, .int (nI 0)), (1, .int (nI 0)), (0, .ref u)]) hx hb dX2_all_3 rfl hl (by decide) rfl (fun ls hl => ?_)
  have LP4 : ∀ (q i : Nat) (a : Int32), i + q = n → fo (fun a i => a + g i) q i a = wa n g → ∀ (ls : Array Slot), lv_has ls 3 [(2, .int (nI i)), (1, .int a), (0, .ref u)] → W p l e ({ frames := 1, cells := 0, slots := 0, locals := 21 } : Room) s m args below meth c s.heap [] 0 0 (MQ below (vp_Si (fun r => r = wa n g)) args s 0 0 (fun _ => False)) (F0 m 4 ls []) := by
    intro q
    induction q with
    | zero =>
      intro i a h1 h2 ls hl
      refine lv_iload_n hx hb dX2_all_4 rfl (lv_at hl 0 rfl) ?_
      refine lv_aload_n hx hb dX2_all_5 rfl (lv_at hl 2 rfl) ?_
      refine va_get (D := D) (ci := 2) (v := .int (nI n)) (C := RX2) (T := TX2) (N := 11) hx hb hts (fun _ h => (List.mem_cons_of_mem _ (List.mem_append_right _ h))) hown hK hP 0 rfl rfl 1 (by decide) (hts _ (List.mem_of_getElem? (i := 1) rfl)) (fun _ h9 => h9) rfl dX2_all_6 ?_
      refine bn_ge (tgt := 26) hx hb dX2_all_9 (by decide) (by omega) (by omega) (fun c9 => ?_) (fun c9 => ?_)
      · skip
        refine lv_iload_n hx hb dX2_all_26 rfl (lv_at hl 1 rfl) ?_
        exact en_i hx hb hr hlocks h2 dX2_all_27
      · skip
        omega
    | succ q ih =>
      intro i a h1 h2 ls hl
      refine lv_iload_n hx hb dX2_all_4 rfl (lv_at hl 0 rfl) ?_
      refine lv_aload_n hx hb dX2_all_5 rfl (lv_at hl 2 rfl) ?_
      refine va_get (D := D) (ci := 2) (v := .int (nI n)) (C := RX2) (T := TX2) (N := 11) hx hb hts (fun _ h => (List.mem_cons_of_mem _ (List.mem_append_right _ h))) hown hK hP 0 rfl rfl 1 (by decide) (hts _ (List.mem_of_getElem? (i := 1) rfl)) (fun _ h9 => h9) rfl dX2_all_6 ?_
      refine bn_ge (tgt := 26) hx hb dX2_all_9 (by decide) (by omega) (by omega) (fun c9 => ?_) (fun c9 => ?_)
      · skip
        omega
      · skip
        refine lv_iload_n hx hb dX2_all_12 rfl (lv_at hl 1 rfl) ?_
        refine lv_aload_n hx hb dX2_all_13 rfl (lv_at hl 2 rfl) ?_
        refine lv_iload_n hx hb dX2_all_14 rfl (lv_at hl 0 rfl) ?_
        refine pv_i CF (m_X2_weightOn l D cI u c1 c2 c3 c4 S O Y e0 e7 e8 e9 e10 i (by omega)) (cwV 1 hts gX2_all_X2_weightOn rfl rfl rfl k_X2_weightOn ⟨Nat.le_of_ble_eq_true rfl, Nat.le_of_ble_eq_true rfl⟩) hK hP rfl rfl rfl rfl hl.1 rfl (Nat.le_of_ble_eq_true rfl) dX2_all_15 ⟨Nat.le_of_ble_eq_true rfl, Nat.le_of_ble_eq_true rfl⟩ ?_
        refine lv_iadd hx hb dX2_all_18 ?_
        refine lv_istore_n (lv' := [(1, .int (a + (g i))), (2, .int (nI i)), (0, .ref u)]) hx hb dX2_all_19 rfl hl (by decide) rfl (fun ls hl => ?_)
        refine lv_iinc (v := (nI (i + 1))) (lv' := [(2, .int (nI (i + 1))), (1, .int (a + (g i))), (0, .ref u)]) hx hb dX2_all_20 hl (k := 1) rfl (inc1 _) (by decide) rfl (fun ls hl => ?_)
        refine lv_goto (tgt := 4) hx hb dX2_all_23 (by decide) ?_
        exact ih (i + 1) (a + g i) (by omega) h2 _ (lv_sub hl [0, 1, 2] rfl)
  exact LP4 n 0 (nI 0) (Nat.zero_add n) rfl _ (lv_sub hl [0, 1, 2] rfl)
theorem k_X2_heaviest : yX2_heaviest.cls = RX2 ∧ yX2_heaviest.cls ≠ "java/lang/invoke/MethodHandle" ∧ yX2_heaviest.cls ≠ "java/lang/invoke/VarHandle" ∧ (parseMethodDescriptor yX2_heaviest.desc).map (fun d => d.parameters.length) = some 0 := by decide +kernel
set_option maxHeartbeats 4000000 in
set_option maxRecDepth 100000 in
theorem m_X2_heaviest (l : Launch) (D : va_G) (cI : ClassId) (u c1 c2 c3 c4 : Nat) {n w : Nat} {F V f g : Nat → Int32} (S : MS n w F V f g) (O Y : Nat → Int32) (e0 e7 e8 e9 e10 : Int32) : Met l yX2_heaviest wsX2_heaviest ({ frames := 0, cells := 0, slots := 0, locals := 0 } : Room) (PR D [(cI, .int)] [.ref u] (mdw cI u c1 c2 c3 c4 e0 n w F V O Y e7 e8 e9 e10)) (vp_Si (fun r => r = (hv n g).1)) 0 0 (fun _ => False) := by
  obtain ⟨hn3, hn, hw2, hF, hV, hO⟩ := id S
  refine bd_p (cc := cX2_heaviest) (maxL := 3) (ret := (some .int)) (by decide) rfl (Nat.le_of_ble_eq_true rfl) ?_
  intro p e s m args below meth c ls CF hr hlocks hK hP hl
  obtain ⟨hx, hb, hml, hown, hts⟩ := id CF
  have hl : lv_has ls 3 [(0, .ref u)] := hl
  have hP : va_P D vwCl [(u, .inr (2, [.int e0, .int (nI n), .int (nI w), .ref c1, .ref c2, .ref c3, .ref c4, .int e7, .int e8, .int e9, .int e10])), (c1, .inl (cI, 40, .inl F)), (c2, .inl (cI, 40, .inl V)), (c3, .inl (cI, 40, .inl O)), (c4, .inl (cI, 40, .inl Y))] s.heap := hP
  refine lv_iconst (v := (-1)) hx hb dX2_heaviest_0 (by decide) ?_
  refine lv_istore_n (lv' := [(1, .int (-1)), (0, .ref u)]) hx hb dX2_heaviest_1 rfl hl (by decide) rfl (fun ls hl => ?_)
  refine lv_iconst (v := nI 0) hx hb dX2_heaviest_2 (by decide) ?_
  refine lv_istore_n (lv' := [(2, .int (nI 0)), (1, .int (-1)), (0, .ref u)]) hx hb dX2_heaviest_3 rfl hl (by decide) rfl (fun ls hl => ?_)
  have LP4 : ∀ (q i : Nat) (a b : Int32), i + q = n → ((a = -1 ∧ b = nI 0) ∨ ∃ k : Nat, k < n ∧ a = nI k ∧ b = g k ∧ 0 ≤ f k) → fo (fun (a : Int32 × Int32) i => if a.2 < g i then (nI i, g i) else a) q i (a, b) = hv n g → ∀ (ls : Array Slot), lv_has ls 3 [(2, .int (nI i)), (1, .int a), (0, .ref u)] → W p l e ({ frames := 0, cells := 0, slots := 0, locals := 0 } : Room) s m args below meth c s.heap [] 0 0 (MQ below (vp_Si (fun r => r = (hv n g).1)) args s 0 0 (fun _ => False)) (F0 m 4 ls []) := by
    intro q
    induction q with
    | zero =>
      intro i a b h1 hb9 h2 ls hl
      refine lv_iload_n hx hb dX2_heaviest_4 rfl (lv_at hl 0 rfl) ?_
      refine lv_aload_n hx hb dX2_heaviest_5 rfl (lv_at hl 2 rfl) ?_
      refine va_get (D := D) (ci := 2) (v := .int (nI n)) (C := RX2) (T := TX2) (N := 11) hx hb hts (fun _ h => (List.mem_cons_of_mem _ (List.mem_append_right _ h))) hown hK hP 0 rfl rfl 1 (by decide) (hts _ (List.mem_of_getElem? (i := 1) rfl)) (fun _ h9 => h9) rfl dX2_heaviest_6 ?_
      refine bn_ge (tgt := 49) hx hb dX2_heaviest_9 (by decide) (by omega) (by omega) (fun c9 => ?_) (fun c9 => ?_)
      · skip
        refine lv_iload_n hx hb dX2_heaviest_49 rfl (lv_at hl 1 rfl) ?_
        exact en_i hx hb hr hlocks (congrArg Prod.fst h2 : _) dX2_heaviest_50
      · skip
        omega
    | succ q ih =>
      intro i a b h1 hb9 h2 ls hl
      refine lv_iload_n hx hb dX2_heaviest_4 rfl (lv_at hl 0 rfl) ?_
      refine lv_aload_n hx hb dX2_heaviest_5 rfl (lv_at hl 2 rfl) ?_
      refine va_get (D := D) (ci := 2) (v := .int (nI n)) (C := RX2) (T := TX2) (N := 11) hx hb hts (fun _ h => (List.mem_cons_of_mem _ (List.mem_append_right _ h))) hown hK hP 0 rfl rfl 1 (by decide) (hts _ (List.mem_of_getElem? (i := 1) rfl)) (fun _ h9 => h9) rfl dX2_heaviest_6 ?_
      refine bn_ge (tgt := 49) hx hb dX2_heaviest_9 (by decide) (by omega) (by omega) (fun c9 => ?_) (fun c9 => ?_)
      · skip
        omega
      · skip
        refine lv_aload_n hx hb dX2_heaviest_12 rfl (lv_at hl 2 rfl) ?_
        refine va_get (D := D) (ci := 2) (v := .ref c1) (C := RX2) (T := TX2) (N := 11) hx hb hts (fun _ h => (List.mem_cons_of_mem _ (List.mem_append_right _ h))) hown hK hP 0 rfl rfl 3 (by decide) (hts _ (List.mem_of_getElem? (i := 2) rfl)) (fun _ h9 => h9) rfl dX2_heaviest_13 ?_
        refine lv_iload_n hx hb dX2_heaviest_16 rfl (lv_at hl 0 rfl) ?_
        refine al_i hx hb hK hP 1 0 rfl rfl (by omega) (by omega) dX2_heaviest_17 ?_
        refine tp_i (y := (f i)) (hF i (by omega)) ?_
        refine lv_if_lt (tgt := 43) hx hb dX2_heaviest_18 (by decide) (fun c18 => ?_) (fun c18 => ?_)
        · skip
          refine lv_iinc (v := (nI (i + 1))) (lv' := [(2, .int (nI (i + 1))), (1, .int a), (0, .ref u)]) hx hb dX2_heaviest_43 hl (k := 0) rfl (inc1 _) (by decide) rfl (fun ls hl => ?_)
          refine lv_goto (tgt := 4) hx hb dX2_heaviest_46 (by decide) ?_
          exact ih (i + 1) a b (by omega) hb9 (by rw [fo_s, if_neg (hv_no hO (by omega) (hv_b0 hO hb9) c18)] at h2; exact h2) _ (lv_sub hl [0, 1, 2] rfl)
        · skip
          refine lv_iload_n hx hb dX2_heaviest_21 rfl (lv_at hl 1 rfl) ?_
          refine lv_iconst (v := (-1)) hx hb dX2_heaviest_22 (by decide) ?_
          refine lv_icmp_eq (tgt := 41) hx hb dX2_heaviest_23 (by decide) (fun c23 => ?_) (fun c23 => ?_)
          · skip
            refine lv_iload_n hx hb dX2_heaviest_41 rfl (lv_at hl 0 rfl) ?_
            refine lv_istore_n (lv' := [(1, .int (nI i)), (2, .int (nI i)), (0, .ref u)]) hx hb dX2_heaviest_42 rfl hl (by decide) rfl (fun ls hl => ?_)
            refine lv_iinc (v := (nI (i + 1))) (lv' := [(2, .int (nI (i + 1))), (1, .int (nI i)), (0, .ref u)]) hx hb dX2_heaviest_43 hl (k := 1) rfl (inc1 _) (by decide) rfl (fun ls hl => ?_)
            refine lv_goto (tgt := 4) hx hb dX2_heaviest_46 (by decide) ?_
            exact ih (i + 1) (nI i) (g i) (by omega) (Or.inr ⟨i, by omega, rfl, rfl, ge0 c18⟩) (by rw [hv_a hn hb9 c23, fo_s, if_pos (hv_first hO (by omega) (ge0 c18))] at h2; exact h2) _ (lv_sub hl [0, 1, 2] rfl)
          · skip
            obtain ⟨k, hk, rfl, rfl, h0k⟩ := hv_k hb9 c23
            refine lv_aload_n hx hb dX2_heaviest_26 rfl (lv_at hl 2 rfl) ?_
            refine va_get (D := D) (ci := 2) (v := .ref c2) (C := RX2) (T := TX2) (N := 11) hx hb hts (fun _ h => (List.mem_cons_of_mem _ (List.mem_append_right _ h))) hown hK hP 0 rfl rfl 4 (by decide) (hts _ (List.mem_of_getElem? (i := 3) rfl)) (fun _ h9 => h9) rfl dX2_heaviest_27 ?_
            refine lv_iload_n hx hb dX2_heaviest_30 rfl (lv_at hl 0 rfl) ?_
            refine al_i hx hb hK hP 2 0 rfl rfl (by omega) (by omega) dX2_heaviest_31 ?_
            refine tp_i (y := (g i)) (hV i (by omega) (ge0 c18)) ?_
            refine lv_aload_n hx hb dX2_heaviest_32 rfl (lv_at hl 2 rfl) ?_
            refine va_get (D := D) (ci := 2) (v := .ref c2) (C := RX2) (T := TX2) (N := 11) hx hb hts (fun _ h => (List.mem_cons_of_mem _ (List.mem_append_right _ h))) hown hK hP 0 rfl rfl 4 (by decide) (hts _ (List.mem_of_getElem? (i := 3) rfl)) (fun _ h9 => h9) rfl dX2_heaviest_33 ?_
            refine lv_iload_n hx hb dX2_heaviest_36 rfl (lv_at hl 1 rfl) ?_
            refine al_i hx hb hK hP 2 0 rfl rfl (by omega) (by omega) dX2_heaviest_37 ?_
            refine tp_i (y := (g k)) (hV k hk h0k) ?_
            refine lv_icmp_le (tgt := 43) hx hb dX2_heaviest_38 (by decide) (fun c38 => ?_) (fun c38 => ?_)
            · skip
              refine lv_iinc (v := (nI (i + 1))) (lv' := [(2, .int (nI (i + 1))), (1, .int (nI k)), (0, .ref u)]) hx hb dX2_heaviest_43 hl (k := 0) rfl (inc1 _) (by decide) rfl (fun ls hl => ?_)
              refine lv_goto (tgt := 4) hx hb dX2_heaviest_46 (by decide) ?_
              exact ih (i + 1) (nI k) (g k) (by omega) (Or.inr ⟨k, hk, rfl, rfl, h0k⟩) (by rw [fo_s, if_neg (nlt_of_le c38)] at h2; exact h2) _ (lv_sub hl [0, 1, 2] rfl)
            · skip
              refine lv_iload_n hx hb dX2_heaviest_41 rfl (lv_at hl 0 rfl) ?_
              refine lv_istore_n (lv' := [(1, .int (nI i)), (2, .int (nI i)), (0, .ref u)]) hx hb dX2_heaviest_42 rfl hl (by decide) rfl (fun ls hl => ?_)
              refine lv_iinc (v := (nI (i + 1))) (lv' := [(2, .int (nI (i + 1))), (1, .int (nI i)), (0, .ref u)]) hx hb dX2_heaviest_43 hl (k := 1) rfl (inc1 _) (by decide) rfl (fun ls hl => ?_)
              refine lv_goto (tgt := 4) hx hb dX2_heaviest_46 (by decide) ?_
              exact ih (i + 1) (nI i) (g i) (by omega) (Or.inr ⟨i, by omega, rfl, rfl, ge0 c18⟩) (by rw [fo_s, if_pos (lt_of_nle c38)] at h2; exact h2) _ (lv_sub hl [0, 1, 2] rfl)
  exact LP4 n 0 (-1) (nI 0) (Nat.zero_add n) (Or.inl ⟨rfl, rfl⟩) rfl _ (lv_sub hl [0, 1, 2] rfl)
theorem k_X2_manyLooks : yX2_manyLooks.cls = RX2 ∧ yX2_manyLooks.cls ≠ "java/lang/invoke/MethodHandle" ∧ yX2_manyLooks.cls ≠ "java/lang/invoke/VarHandle" ∧ (parseMethodDescriptor yX2_manyLooks.desc).map (fun d => d.parameters.length) = some 1 := by decide +kernel
set_option maxHeartbeats 4000000 in
set_option maxRecDepth 100000 in
theorem m_X2_manyLooks (l : Launch) (D : va_G) (cI : ClassId) (u c1 c2 c3 c4 : Nat) {n w : Nat} {F V f g : Nat → Int32} (S : MS n w F V f g) (O Y : Nat → Int32) (e0 e7 e8 e9 e10 : Int32) (x : Nat) (hx9 : x ≤ 9999) (sz : Nat) : Met l yX2_manyLooks wsX2_manyLooks ({ frames := 2, cells := 0, slots := 0, locals := 47 } : Room) (PM D [(cI, .int)] [.ref u, .int (nI x)] sz (mdw cI u c1 c2 c3 c4 e0 n w F V O Y e7 e8 e9 e10)) (qm_i (fun rr H1 => rr = nI (lk n w f x) ∧ ∃ d8 d9 d10 : Int32, va_P D vwCl (mdw cI u c1 c2 c3 c4 e0 n w F V O Y (nI (lk n w f x)) d8 d9 d10) H1) (va_A (mdw cI u c1 c2 c3 c4 e0 n w F V O Y e7 e8 e9 e10) sz)) 0 0 (va_A (mdw cI u c1 c2 c3 c4 e0 n w F V O Y e7 e8 e9 e10) sz) := by
  obtain ⟨hn3, hn, hw2, hF, hV, hO⟩ := id S
  refine bd_m (Qc := (fun A => qm_i (fun rr H1 => rr = nI (lk n w f x) ∧ ∃ d8 d9 d10 : Int32, va_P D vwCl (mdw cI u c1 c2 c3 c4 e0 n w F V O Y (nI (lk n w f x)) d8 d9 d10) H1) A)) (cc := cX2_manyLooks) (maxL := 2) (ret := (some .int)) (by decide) rfl (Nat.le_of_ble_eq_true rfl) ?_
  intro p e s m args below meth c ls A CF hr hlocks hK hP hD hA hS hl hin
  obtain ⟨hx, hb, hml, hown, hts⟩ := id CF
  have hl : lv_has ls 2 [(0, .ref u), (1, .int (nI x))] := hl
  have hP : va_P D vwCl [(u, .inr (2, [.int e0, .int (nI n), .int (nI w), .ref c1, .ref c2, .ref c3, .ref c4, .int e7, .int e8, .int e9, .int e10])), (c1, .inl (cI, 40, .inl F)), (c2, .inl (cI, 40, .inl V)), (c3, .inl (cI, 40, .inl O)), (c4, .inl (cI, 40, .inl Y))] s.heap := hP
  have hD : va_D A [(u, .inr (2, [.int e0, .int (nI n), .int (nI w), .ref c1, .ref c2, .ref c3, .ref c4, .int e7, .int e8, .int e9, .int e10])), (c1, .inl (cI, 40, .inl F)), (c2, .inl (cI, 40, .inl V)), (c3, .inl (cI, 40, .inl O)), (c4, .inl (cI, 40, .inl Y))] := hD
  generalize hH0 : s.heap = H at hP
  have hS : va_S A s.heap H [] := by rw [← hH0]; exact va_S.rf
  generalize hlc0 : ([] : List Loc) = locs at hS ⊢
  refine lv_aload_n hx hb dX2_manyLooks_0 rfl (lv_at hl 0 rfl) ?_
  refine lv_iload_n hx hb dX2_manyLooks_1 rfl (lv_at hl 1 rfl) ?_
  have hPc : va_P D vwCl [(u, .inr (2, [.int e0, .int (nI n), .int (nI w), .ref c1, .ref c2, .ref c3, .ref c4, .int e7, .int e8, .int e9, .int e10])), (c1, .inl (cI, 40, .inl F)), (c2, .inl (cI, 40, .inl V)), (c3, .inl (cI, 40, .inl O)), (c4, .inl (cI, 40, .inl Y))] H := hP.sub [0, 1, 2, 3, 4] rfl
  have hDc : va_D A [(u, .inr (2, [.int e0, .int (nI n), .int (nI w), .ref c1, .ref c2, .ref c3, .ref c4, .int e7, .int e8, .int e9, .int e10])), (c1, .inl (cI, 40, .inl F)), (c2, .inl (cI, 40, .inl V)), (c3, .inl (cI, 40, .inl O)), (c4, .inl (cI, 40, .inl Y))] := hD.sub [0, 1, 2, 3, 4] (by decide) rfl
  have hFc := va_free (wc := [(u, .inr (2, [.int e0, .int (nI n), .int (nI w), .ref c1, .ref c2, .ref c3, .ref c4, .int e7, .int e8, .int e9, .int e10])), (c1, .inl (cI, 40, .inl F)), (c2, .inl (cI, 40, .inl V)), (c3, .inl (cI, 40, .inl O)), (c4, .inl (cI, 40, .inl Y))]) hD hS hA [0, 1, 2, 3, 4] rfl
  refine pq_v (va_runV (rest := []) CF (m_X2_lookNow l D cI u c1 c2 c3 c4 S O Y e0 e7 e8 e9 e10 x hx9 H.size) (cwV 1 hts gX2_manyLooks_X2_lookNow rfl rfl rfl k_X2_lookNow ⟨Nat.le_of_ble_eq_true rfl, Nat.le_of_ble_eq_true rfl⟩) (mv_pre hK hPc hDc rfl rfl rfl) rfl rfl hl.1 rfl (lv_room (Nat.le_of_ble_eq_true rfl)) dX2_manyLooks_2 ⟨Nat.le_of_ble_eq_true rfl, Nat.le_of_ble_eq_true rfl⟩) hS hFc (fun H locs hB hk1 hS => ?_)
  have hP1 := hB
  obtain ⟨hP, hD⟩ := jn (wb := [(u, .inr (2, [.int e0, .int (nI n), .int (nI w), .ref c1, .ref c2, .ref c3, .ref c4, .int (nI (lk n w f x)), .int (fd n w f x), .int (fr n w f x), .int (tk n w f x (lk n w f x))])), (c1, .inl (cI, 40, .inl F)), (c2, .inl (cI, 40, .inl V)), (c3, .inl (cI, 40, .inl O)), (c4, .inl (cI, 40, .inl Y))]) (w1 := [(u, .inr (2, [.int e0, .int (nI n), .int (nI w), .ref c1, .ref c2, .ref c3, .ref c4, .int (nI (lk n w f x)), .int (fd n w f x), .int (fr n w f x), .int (tk n w f x (lk n w f x))])), (c1, .inl (cI, 40, .inl F)), (c2, .inl (cI, 40, .inl V)), (c3, .inl (cI, 40, .inl O)), (c4, .inl (cI, 40, .inl Y))]) hP hD [0, 1, 2, 3, 4] [] rfl rfl rfl rfl 5 rfl (by decide) (by decide) hk1 hP1
  refine lv_aload_n hx hb dX2_manyLooks_5 rfl (lv_at hl 0 rfl) ?_
  refine va_get (D := D) (ci := 2) (v := .int (nI (lk n w f x))) (C := RX2) (T := TX2) (N := 11) hx hb hts (fun _ h => (List.mem_cons_of_mem _ (List.mem_append_right _ h))) hown hK hP 0 rfl rfl 7 (by decide) (hts _ (List.mem_of_getElem? (i := 1) rfl)) (fun _ h9 => h9) rfl dX2_manyLooks_6 ?_
  exact em_i hx hb hr hlocks hS (⟨rfl, _, _, _, hP⟩) dX2_manyLooks_9
theorem k_X2_looksForAll : yX2_looksForAll.cls = RX2 ∧ yX2_looksForAll.cls ≠ "java/lang/invoke/MethodHandle" ∧ yX2_looksForAll.cls ≠ "java/lang/invoke/VarHandle" ∧ (parseMethodDescriptor yX2_looksForAll.desc).map (fun d => d.parameters.length) = some 0 := by decide +kernel
set_option maxHeartbeats 4000000 in
set_option maxRecDepth 100000 in
theorem m_X2_looksForAll (l : Launch) (D : va_G) (cI : ClassId) (u c1 c2 c3 c4 : Nat) {n w : Nat} {F V f g : Nat → Int32} (S : MS n w F V f g) (O Y : Nat → Int32) (e0 e7 e8 e9 e10 : Int32) (sz : Nat) : Met l yX2_looksForAll wsX2_looksForAll ({ frames := 3, cells := 0, slots := 0, locals := 68 } : Room) (PM D [(cI, .int)] [.ref u] sz (mdw cI u c1 c2 c3 c4 e0 n w F V O Y e7 e8 e9 e10)) (qm_i (fun rr H1 => rr = nI (sm n w f) ∧ ∃ d7 d8 d9 d10 : Int32, va_P D vwCl (mdw cI u c1 c2 c3 c4 e0 n w F V O Y d7 d8 d9 d10) H1) (va_A (mdw cI u c1 c2 c3 c4 e0 n w F V O Y e7 e8 e9 e10) sz)) 0 0 (va_A (mdw cI u c1 c2 c3 c4 e0 n w F V O Y e7 e8 e9 e10) sz) := by
  obtain ⟨hn3, hn, hw2, hF, hV, hO⟩ := id S
  refine bd_m (Qc := (fun A => qm_i (fun rr H1 => rr = nI (sm n w f) ∧ ∃ d7 d8 d9 d10 : Int32, va_P D vwCl (mdw cI u c1 c2 c3 c4 e0 n w F V O Y d7 d8 d9 d10) H1) A)) (cc := cX2_looksForAll) (maxL := 3) (ret := (some .int)) (by decide) rfl (Nat.le_of_ble_eq_true rfl) ?_
  intro p e s m args below meth c ls A CF hr hlocks hK hP hD hA hS hl hin
  obtain ⟨hx, hb, hml, hown, hts⟩ := id CF
  have hl : lv_has ls 3 [(0, .ref u)] := hl
  have hP : va_P D vwCl [(u, .inr (2, [.int e0, .int (nI n), .int (nI w), .ref c1, .ref c2, .ref c3, .ref c4, .int e7, .int e8, .int e9, .int e10])), (c1, .inl (cI, 40, .inl F)), (c2, .inl (cI, 40, .inl V)), (c3, .inl (cI, 40, .inl O)), (c4, .inl (cI, 40, .inl Y))] s.heap := hP
  have hD : va_D A [(u, .inr (2, [.int e0, .int (nI n), .int (nI w), .ref c1, .ref c2, .ref c3, .ref c4, .int e7, .int e8, .int e9, .int e10])), (c1, .inl (cI, 40, .inl F)), (c2, .inl (cI, 40, .inl V)), (c3, .inl (cI, 40, .inl O)), (c4, .inl (cI, 40, .inl Y))] := hD
  generalize hH0 : s.heap = H at hP
  have hS : va_S A s.heap H [] := by rw [← hH0]; exact va_S.rf
  generalize hlc0 : ([] : List Loc) = locs at hS ⊢
  refine lv_iconst (v := nI 0) hx hb dX2_looksForAll_0 (by decide) ?_
  refine lv_istore_n (lv' := [(1, .int (nI 0)), (0, .ref u)]) hx hb dX2_looksForAll_1 rfl hl (by decide) rfl (fun ls hl => ?_)
  refine lv_iconst (v := nI 0) hx hb dX2_looksForAll_2 (by decide) ?_
  refine lv_istore_n (lv' := [(2, .int (nI 0)), (1, .int (nI 0)), (0, .ref u)]) hx hb dX2_looksForAll_3 rfl hl (by decide) rfl (fun ls hl => ?_)
  have LP4 : ∀ (q i a : Nat) (d7 d8 d9 d10 : Int32), i + q = n → fo (fun a i => a + lx n w f i) q i a = sm n w f → ∀ (H : Heap) (locs : List Loc), va_P D vwCl [(u, .inr (2, [.int e0, .int (nI n), .int (nI w), .ref c1, .ref c2, .ref c3, .ref c4, .int d7, .int d8, .int d9, .int d10])), (c1, .inl (cI, 40, .inl F)), (c2, .inl (cI, 40, .inl V)), (c3, .inl (cI, 40, .inl O)), (c4, .inl (cI, 40, .inl Y))] H → va_D A [(u, .inr (2, [.int e0, .int (nI n), .int (nI w), .ref c1, .ref c2, .ref c3, .ref c4, .int d7, .int d8, .int d9, .int d10])), (c1, .inl (cI, 40, .inl F)), (c2, .inl (cI, 40, .inl V)), (c3, .inl (cI, 40, .inl O)), (c4, .inl (cI, 40, .inl Y))] → va_S A s.heap H locs → ∀ (ls : Array Slot), lv_has ls 3 [(2, .int (nI i)), (1, .int (nI a)), (0, .ref u)] → W p l e ({ frames := 3, cells := 0, slots := 0, locals := 68 } : Room) s m args below meth c H locs 0 0 (MQ below (qm_i (fun rr H1 => rr = nI (sm n w f) ∧ ∃ d7 d8 d9 d10 : Int32, va_P D vwCl (mdw cI u c1 c2 c3 c4 e0 n w F V O Y d7 d8 d9 d10) H1) A) args s 0 0 A) (F0 m 4 ls []) := by
    intro q
    induction q with
    | zero =>
      intro i a d7 d8 d9 d10 h1 h2 H locs hP hD hS ls hl
      refine lv_iload_n hx hb dX2_looksForAll_4 rfl (lv_at hl 0 rfl) ?_
      refine lv_aload_n hx hb dX2_looksForAll_5 rfl (lv_at hl 2 rfl) ?_
      refine va_get (D := D) (ci := 2) (v := .int (nI n)) (C := RX2) (T := TX2) (N := 11) hx hb hts (fun _ h => (List.mem_cons_of_mem _ (List.mem_append_right _ h))) hown hK hP 0 rfl rfl 1 (by decide) (hts _ (List.mem_of_getElem? (i := 1) rfl)) (fun _ h9 => h9) rfl dX2_looksForAll_6 ?_
      refine bn_ge (tgt := 40) hx hb dX2_looksForAll_9 (by decide) (by omega) (by omega) (fun c9 => ?_) (fun c9 => ?_)
      · skip
        refine lv_iload_n hx hb dX2_looksForAll_40 rfl (lv_at hl 1 rfl) ?_
        exact em_i hx hb hr hlocks hS (⟨congrArg nI h2, _, _, _, _, hP⟩) dX2_looksForAll_41
      · skip
        omega
    | succ q ih =>
      intro i a d7 d8 d9 d10 h1 h2 H locs hP hD hS ls hl
      refine lv_iload_n hx hb dX2_looksForAll_4 rfl (lv_at hl 0 rfl) ?_
      refine lv_aload_n hx hb dX2_looksForAll_5 rfl (lv_at hl 2 rfl) ?_
      refine va_get (D := D) (ci := 2) (v := .int (nI n)) (C := RX2) (T := TX2) (N := 11) hx hb hts (fun _ h => (List.mem_cons_of_mem _ (List.mem_append_right _ h))) hown hK hP 0 rfl rfl 1 (by decide) (hts _ (List.mem_of_getElem? (i := 1) rfl)) (fun _ h9 => h9) rfl dX2_looksForAll_6 ?_
      refine bn_ge (tgt := 40) hx hb dX2_looksForAll_9 (by decide) (by omega) (by omega) (fun c9 => ?_) (fun c9 => ?_)
      · skip
        omega
      · skip
        refine lv_aload_n hx hb dX2_looksForAll_12 rfl (lv_at hl 2 rfl) ?_
        refine va_get (D := D) (ci := 2) (v := .ref c1) (C := RX2) (T := TX2) (N := 11) hx hb hts (fun _ h => (List.mem_cons_of_mem _ (List.mem_append_right _ h))) hown hK hP 0 rfl rfl 3 (by decide) (hts _ (List.mem_of_getElem? (i := 2) rfl)) (fun _ h9 => h9) rfl dX2_looksForAll_13 ?_
        refine lv_iload_n hx hb dX2_looksForAll_16 rfl (lv_at hl 0 rfl) ?_
        refine al_i hx hb hK hP 1 0 rfl rfl (by omega) (by omega) dX2_looksForAll_17 ?_
        refine tp_i (y := (f i)) (hF i (by omega)) ?_
        refine lv_if_lt (tgt := 34) hx hb dX2_looksForAll_18 (by decide) (fun c18 => ?_) (fun c18 => ?_)
        · skip
          refine lv_iinc (v := (nI (i + 1))) (lv' := [(2, .int (nI (i + 1))), (1, .int (nI a)), (0, .ref u)]) hx hb dX2_looksForAll_34 hl (k := 0) rfl (inc1 _) (by decide) rfl (fun ls hl => ?_)
          refine lv_goto (tgt := 4) hx hb dX2_looksForAll_37 (by decide) ?_
          exact ih (i + 1) a _ _ _ _ (by omega) (by rw [fo_s, lx_0 (fun z => not_lt0 z c18)] at h2; exact h2) _ _ hP hD hS _ (lv_sub hl [0, 1, 2] rfl)
        · skip
          refine lv_iload_n hx hb dX2_looksForAll_21 rfl (lv_at hl 1 rfl) ?_
          refine lv_aload_n hx hb dX2_looksForAll_22 rfl (lv_at hl 2 rfl) ?_
          refine lv_aload_n hx hb dX2_looksForAll_23 rfl (lv_at hl 2 rfl) ?_
          refine va_get (D := D) (ci := 2) (v := .ref c1) (C := RX2) (T := TX2) (N := 11) hx hb hts (fun _ h => (List.mem_cons_of_mem _ (List.mem_append_right _ h))) hown hK hP 0 rfl rfl 3 (by decide) (hts _ (List.mem_of_getElem? (i := 2) rfl)) (fun _ h9 => h9) rfl dX2_looksForAll_24 ?_
          refine lv_iload_n hx hb dX2_looksForAll_27 rfl (lv_at hl 0 rfl) ?_
          refine al_i hx hb hK hP 1 0 rfl rfl (by omega) (by omega) dX2_looksForAll_28 ?_
          refine tp_i (y := (f i)) (hF i (by omega)) ?_
          obtain ⟨x, hx9, ex, ez⟩ := hO.num (k := i) (by omega) (ge0 c18)
          refine tp_i (y := nI x) ex ?_
          have hPc : va_P D vwCl [(u, .inr (2, [.int e0, .int (nI n), .int (nI w), .ref c1, .ref c2, .ref c3, .ref c4, .int d7, .int d8, .int d9, .int d10])), (c1, .inl (cI, 40, .inl F)), (c2, .inl (cI, 40, .inl V)), (c3, .inl (cI, 40, .inl O)), (c4, .inl (cI, 40, .inl Y))] H := hP.sub [0, 1, 2, 3, 4] rfl
          have hDc : va_D A [(u, .inr (2, [.int e0, .int (nI n), .int (nI w), .ref c1, .ref c2, .ref c3, .ref c4, .int d7, .int d8, .int d9, .int d10])), (c1, .inl (cI, 40, .inl F)), (c2, .inl (cI, 40, .inl V)), (c3, .inl (cI, 40, .inl O)), (c4, .inl (cI, 40, .inl Y))] := hD.sub [0, 1, 2, 3, 4] (by decide) rfl
          have hFc := va_free (wc := [(u, .inr (2, [.int e0, .int (nI n), .int (nI w), .ref c1, .ref c2, .ref c3, .ref c4, .int d7, .int d8, .int d9, .int d10])), (c1, .inl (cI, 40, .inl F)), (c2, .inl (cI, 40, .inl V)), (c3, .inl (cI, 40, .inl O)), (c4, .inl (cI, 40, .inl Y))]) hD hS hA [0, 1, 2, 3, 4] rfl
          refine pq_i (va_runV (rest := [.int (nI a)]) CF (m_X2_manyLooks l D cI u c1 c2 c3 c4 S O Y e0 d7 d8 d9 d10 x hx9 H.size) (cwV 1 hts gX2_looksForAll_X2_manyLooks rfl rfl rfl k_X2_manyLooks ⟨Nat.le_of_ble_eq_true rfl, Nat.le_of_ble_eq_true rfl⟩) (mv_pre hK hPc hDc rfl rfl rfl) rfl rfl hl.1 rfl (lv_room (Nat.le_of_ble_eq_true rfl)) dX2_looksForAll_29 ⟨Nat.le_of_ble_eq_true rfl, Nat.le_of_ble_eq_true rfl⟩) hS hFc (fun r1 H locs hB hk1 hS => ?_)
          obtain ⟨rfl, d8, d9, d10, hP1⟩ := hB
          obtain ⟨hP, hD⟩ := jn (wb := [(u, .inr (2, [.int e0, .int (nI n), .int (nI w), .ref c1, .ref c2, .ref c3, .ref c4, .int (nI (lk n w f x)), .int d8, .int d9, .int d10])), (c1, .inl (cI, 40, .inl F)), (c2, .inl (cI, 40, .inl V)), (c3, .inl (cI, 40, .inl O)), (c4, .inl (cI, 40, .inl Y))]) (w1 := [(u, .inr (2, [.int e0, .int (nI n), .int (nI w), .ref c1, .ref c2, .ref c3, .ref c4, .int (nI (lk n w f x)), .int d8, .int d9, .int d10])), (c1, .inl (cI, 40, .inl F)), (c2, .inl (cI, 40, .inl V)), (c3, .inl (cI, 40, .inl O)), (c4, .inl (cI, 40, .inl Y))]) hP hD [0, 1, 2, 3, 4] [] rfl rfl rfl rfl 5 rfl (by decide) (by decide) hk1 hP1
          refine an_add hx hb dX2_looksForAll_32 ?_
          refine lv_istore_n (lv' := [(1, .int (nI (a + (lk n w f x)))), (2, .int (nI i)), (0, .ref u)]) hx hb dX2_looksForAll_33 rfl hl (by decide) rfl (fun ls hl => ?_)
          refine lv_iinc (v := (nI (i + 1))) (lv' := [(2, .int (nI (i + 1))), (1, .int (nI (a + (lk n w f x)))), (0, .ref u)]) hx hb dX2_looksForAll_34 hl (k := 1) rfl (inc1 _) (by decide) rfl (fun ls hl => ?_)
          refine lv_goto (tgt := 4) hx hb dX2_looksForAll_37 (by decide) ?_
          exact ih (i + 1) (a + lk n w f x) _ _ _ _ (by omega) (by rw [fo_s, lx_p (ge0 c18) ez] at h2; exact h2) _ _ hP hD hS _ (lv_sub hl [0, 1, 2] rfl)
  exact LP4 n 0 0 e7 e8 e9 e10 (Nat.zero_add n) rfl _ _ hP hD hS _ (lv_sub hl [0, 1, 2] rfl)
theorem k_X2_far : yX2_far.cls = RX2 ∧ yX2_far.cls ≠ "java/lang/invoke/MethodHandle" ∧ yX2_far.cls ≠ "java/lang/invoke/VarHandle" ∧ (parseMethodDescriptor yX2_far.desc).map (fun d => d.parameters.length) = some 0 := by decide +kernel
set_option maxHeartbeats 4000000 in
set_option maxRecDepth 100000 in
theorem m_X2_far (l : Launch) (D : va_G) (cI : ClassId) (u c1 c2 c3 c4 : Nat) {n w : Nat} {F V f g : Nat → Int32} (S : MS n w F V f g) (O Y : Nat → Int32) (e0 e7 e8 e9 e10 : Int32) (sz : Nat) : Met l yX2_far wsX2_far ({ frames := 3, cells := 0, slots := 0, locals := 68 } : Room) (PM D [(cI, .int)] [.ref u] sz (mdw cI u c1 c2 c3 c4 e0 n w F V O Y e7 e8 e9 e10)) (qm_i (fun rr H1 => rr = (fa n w f).1 ∧ ∃ d7 d8 d9 d10 : Int32, va_P D vwCl (mdw cI u c1 c2 c3 c4 e0 n w F V O Y d7 d8 d9 d10) H1) (va_A (mdw cI u c1 c2 c3 c4 e0 n w F V O Y e7 e8 e9 e10) sz)) 0 0 (va_A (mdw cI u c1 c2 c3 c4 e0 n w F V O Y e7 e8 e9 e10) sz) := by
  obtain ⟨hn3, hn, hw2, hF, hV, hO⟩ := id S
  refine bd_m (Qc := (fun A => qm_i (fun rr H1 => rr = (fa n w f).1 ∧ ∃ d7 d8 d9 d10 : Int32, va_P D vwCl (mdw cI u c1 c2 c3 c4 e0 n w F V O Y d7 d8 d9 d10) H1) A)) (cc := cX2_far) (maxL := 4) (ret := (some .int)) (by decide) rfl (Nat.le_of_ble_eq_true rfl) ?_
  intro p e s m args below meth c ls A CF hr hlocks hK hP hD hA hS hl hin
  obtain ⟨hx, hb, hml, hown, hts⟩ := id CF
  have hl : lv_has ls 4 [(0, .ref u)] := hl
  have hP : va_P D vwCl [(u, .inr (2, [.int e0, .int (nI n), .int (nI w), .ref c1, .ref c2, .ref c3, .ref c4, .int e7, .int e8, .int e9, .int e10])), (c1, .inl (cI, 40, .inl F)), (c2, .inl (cI, 40, .inl V)), (c3, .inl (cI, 40, .inl O)), (c4, .inl (cI, 40, .inl Y))] s.heap := hP
  have hD : va_D A [(u, .inr (2, [.int e0, .int (nI n), .int (nI w), .ref c1, .ref c2, .ref c3, .ref c4, .int e7, .int e8, .int e9, .int e10])), (c1, .inl (cI, 40, .inl F)), (c2, .inl (cI, 40, .inl V)), (c3, .inl (cI, 40, .inl O)), (c4, .inl (cI, 40, .inl Y))] := hD
  generalize hH0 : s.heap = H at hP
  have hS : va_S A s.heap H [] := by rw [← hH0]; exact va_S.rf
  generalize hlc0 : ([] : List Loc) = locs at hS ⊢
  refine lv_iconst (v := (-1)) hx hb dX2_far_0 (by decide) ?_
  refine lv_istore_n (lv' := [(1, .int (-1)), (0, .ref u)]) hx hb dX2_far_1 rfl hl (by decide) rfl (fun ls hl => ?_)
  refine lv_iconst (v := nI 0) hx hb dX2_far_2 (by decide) ?_
  refine lv_istore_n (lv' := [(2, .int (nI 0)), (1, .int (-1)), (0, .ref u)]) hx hb dX2_far_3 rfl hl (by decide) rfl (fun ls hl => ?_)
  refine lv_iconst (v := nI 0) hx hb dX2_far_4 (by decide) ?_
  refine lv_istore_n (lv' := [(3, .int (nI 0)), (2, .int (nI 0)), (1, .int (-1)), (0, .ref u)]) hx hb dX2_far_5 rfl hl (by decide) rfl (fun ls hl => ?_)
  have LP6 : ∀ (q i : Nat) (a : Int32) (b : Nat) (d7 d8 d9 d10 : Int32), i + q = n → b ≤ 40 → fo (fun (a : Int32 × Nat) i => if a.2 < lx n w f i then (f i, lx n w f i) else a) q i (a, b) = fa n w f → ∀ (H : Heap) (locs : List Loc), va_P D vwCl [(u, .inr (2, [.int e0, .int (nI n), .int (nI w), .ref c1, .ref c2, .ref c3, .ref c4, .int d7, .int d8, .int d9, .int d10])), (c1, .inl (cI, 40, .inl F)), (c2, .inl (cI, 40, .inl V)), (c3, .inl (cI, 40, .inl O)), (c4, .inl (cI, 40, .inl Y))] H → va_D A [(u, .inr (2, [.int e0, .int (nI n), .int (nI w), .ref c1, .ref c2, .ref c3, .ref c4, .int d7, .int d8, .int d9, .int d10])), (c1, .inl (cI, 40, .inl F)), (c2, .inl (cI, 40, .inl V)), (c3, .inl (cI, 40, .inl O)), (c4, .inl (cI, 40, .inl Y))] → va_S A s.heap H locs → ∀ (ls : Array Slot), lv_has ls 4 [(3, .int (nI i)), (2, .int (nI b)), (1, .int a), (0, .ref u)] → W p l e ({ frames := 3, cells := 0, slots := 0, locals := 68 } : Room) s m args below meth c H locs 0 0 (MQ below (qm_i (fun rr H1 => rr = (fa n w f).1 ∧ ∃ d7 d8 d9 d10 : Int32, va_P D vwCl (mdw cI u c1 c2 c3 c4 e0 n w F V O Y d7 d8 d9 d10) H1) A) args s 0 0 A) (F0 m 6 ls []) := by
    intro q
    induction q with
    | zero =>
      intro i a b d7 d8 d9 d10 h1 hb9 h2 H locs hP hD hS ls hl
      refine lv_iload_n hx hb dX2_far_6 rfl (lv_at hl 0 rfl) ?_
      refine lv_aload_n hx hb dX2_far_7 rfl (lv_at hl 3 rfl) ?_
      refine va_get (D := D) (ci := 2) (v := .int (nI n)) (C := RX2) (T := TX2) (N := 11) hx hb hts (fun _ h => (List.mem_cons_of_mem _ (List.mem_append_right _ h))) hown hK hP 0 rfl rfl 1 (by decide) (hts _ (List.mem_of_getElem? (i := 1) rfl)) (fun _ h9 => h9) rfl dX2_far_8 ?_
      refine bn_ge (tgt := 58) hx hb dX2_far_11 (by decide) (by omega) (by omega) (fun c11 => ?_) (fun c11 => ?_)
      · skip
        refine lv_iload_n hx hb dX2_far_58 rfl (lv_at hl 2 rfl) ?_
        exact em_i hx hb hr hlocks hS (⟨(congrArg Prod.fst h2 : _), _, _, _, _, hP⟩) dX2_far_59
      · skip
        omega
    | succ q ih =>
      intro i a b d7 d8 d9 d10 h1 hb9 h2 H locs hP hD hS ls hl
      refine lv_iload_n hx hb dX2_far_6 rfl (lv_at hl 0 rfl) ?_
      refine lv_aload_n hx hb dX2_far_7 rfl (lv_at hl 3 rfl) ?_
      refine va_get (D := D) (ci := 2) (v := .int (nI n)) (C := RX2) (T := TX2) (N := 11) hx hb hts (fun _ h => (List.mem_cons_of_mem _ (List.mem_append_right _ h))) hown hK hP 0 rfl rfl 1 (by decide) (hts _ (List.mem_of_getElem? (i := 1) rfl)) (fun _ h9 => h9) rfl dX2_far_8 ?_
      refine bn_ge (tgt := 58) hx hb dX2_far_11 (by decide) (by omega) (by omega) (fun c11 => ?_) (fun c11 => ?_)
      · skip
        omega
      · skip
        refine lv_aload_n hx hb dX2_far_14 rfl (lv_at hl 3 rfl) ?_
        refine va_get (D := D) (ci := 2) (v := .ref c1) (C := RX2) (T := TX2) (N := 11) hx hb hts (fun _ h => (List.mem_cons_of_mem _ (List.mem_append_right _ h))) hown hK hP 0 rfl rfl 3 (by decide) (hts _ (List.mem_of_getElem? (i := 2) rfl)) (fun _ h9 => h9) rfl dX2_far_15 ?_
        refine lv_iload_n hx hb dX2_far_18 rfl (lv_at hl 0 rfl) ?_
        refine al_i hx hb hK hP 1 0 rfl rfl (by omega) (by omega) dX2_far_19 ?_
        refine tp_i (y := (f i)) (hF i (by omega)) ?_
        refine lv_if_lt (tgt := 52) hx hb dX2_far_20 (by decide) (fun c20 => ?_) (fun c20 => ?_)
        · skip
          refine lv_iinc (v := (nI (i + 1))) (lv' := [(3, .int (nI (i + 1))), (2, .int (nI b)), (1, .int a), (0, .ref u)]) hx hb dX2_far_52 hl (k := 0) rfl (inc1 _) (by decide) rfl (fun ls hl => ?_)
          refine lv_goto (tgt := 6) hx hb dX2_far_55 (by decide) ?_
          exact ih (i + 1) a b _ _ _ _ (by omega) hb9 (by rw [fo_s, if_neg (by rw [lx_0 (fun z => not_lt0 z c20)]; exact Nat.not_lt_zero _)] at h2; exact h2) _ _ hP hD hS _ (lv_sub hl [0, 1, 2, 3] rfl)
        · skip
          refine lv_aload_n hx hb dX2_far_23 rfl (lv_at hl 3 rfl) ?_
          refine lv_aload_n hx hb dX2_far_24 rfl (lv_at hl 3 rfl) ?_
          refine va_get (D := D) (ci := 2) (v := .ref c1) (C := RX2) (T := TX2) (N := 11) hx hb hts (fun _ h => (List.mem_cons_of_mem _ (List.mem_append_right _ h))) hown hK hP 0 rfl rfl 3 (by decide) (hts _ (List.mem_of_getElem? (i := 2) rfl)) (fun _ h9 => h9) rfl dX2_far_25 ?_
          refine lv_iload_n hx hb dX2_far_28 rfl (lv_at hl 0 rfl) ?_
          refine al_i hx hb hK hP 1 0 rfl rfl (by omega) (by omega) dX2_far_29 ?_
          refine tp_i (y := (f i)) (hF i (by omega)) ?_
          obtain ⟨x, hx9, ex, ez⟩ := hO.num (k := i) (by omega) (ge0 c20)
          refine tp_i (y := nI x) ex ?_
          have hPc : va_P D vwCl [(u, .inr (2, [.int e0, .int (nI n), .int (nI w), .ref c1, .ref c2, .ref c3, .ref c4, .int d7, .int d8, .int d9, .int d10])), (c1, .inl (cI, 40, .inl F)), (c2, .inl (cI, 40, .inl V)), (c3, .inl (cI, 40, .inl O)), (c4, .inl (cI, 40, .inl Y))] H := hP.sub [0, 1, 2, 3, 4] rfl
          have hDc : va_D A [(u, .inr (2, [.int e0, .int (nI n), .int (nI w), .ref c1, .ref c2, .ref c3, .ref c4, .int d7, .int d8, .int d9, .int d10])), (c1, .inl (cI, 40, .inl F)), (c2, .inl (cI, 40, .inl V)), (c3, .inl (cI, 40, .inl O)), (c4, .inl (cI, 40, .inl Y))] := hD.sub [0, 1, 2, 3, 4] (by decide) rfl
          have hFc := va_free (wc := [(u, .inr (2, [.int e0, .int (nI n), .int (nI w), .ref c1, .ref c2, .ref c3, .ref c4, .int d7, .int d8, .int d9, .int d10])), (c1, .inl (cI, 40, .inl F)), (c2, .inl (cI, 40, .inl V)), (c3, .inl (cI, 40, .inl O)), (c4, .inl (cI, 40, .inl Y))]) hD hS hA [0, 1, 2, 3, 4] rfl
          refine pq_i (va_runV (rest := []) CF (m_X2_manyLooks l D cI u c1 c2 c3 c4 S O Y e0 d7 d8 d9 d10 x hx9 H.size) (cwV 1 hts gX2_far_X2_manyLooks rfl rfl rfl k_X2_manyLooks ⟨Nat.le_of_ble_eq_true rfl, Nat.le_of_ble_eq_true rfl⟩) (mv_pre hK hPc hDc rfl rfl rfl) rfl rfl hl.1 rfl (lv_room (Nat.le_of_ble_eq_true rfl)) dX2_far_30 ⟨Nat.le_of_ble_eq_true rfl, Nat.le_of_ble_eq_true rfl⟩) hS hFc (fun r1 H locs hB hk1 hS => ?_)
          obtain ⟨rfl, d8, d9, d10, hP1⟩ := hB
          obtain ⟨hP, hD⟩ := jn (wb := [(u, .inr (2, [.int e0, .int (nI n), .int (nI w), .ref c1, .ref c2, .ref c3, .ref c4, .int (nI (lk n w f x)), .int d8, .int d9, .int d10])), (c1, .inl (cI, 40, .inl F)), (c2, .inl (cI, 40, .inl V)), (c3, .inl (cI, 40, .inl O)), (c4, .inl (cI, 40, .inl Y))]) (w1 := [(u, .inr (2, [.int e0, .int (nI n), .int (nI w), .ref c1, .ref c2, .ref c3, .ref c4, .int (nI (lk n w f x)), .int d8, .int d9, .int d10])), (c1, .inl (cI, 40, .inl F)), (c2, .inl (cI, 40, .inl V)), (c3, .inl (cI, 40, .inl O)), (c4, .inl (cI, 40, .inl Y))]) hP hD [0, 1, 2, 3, 4] [] rfl rfl rfl rfl 5 rfl (by decide) (by decide) hk1 hP1
          have hlk := lk_le n w f x
          refine lv_iload_n hx hb dX2_far_33 rfl (lv_at hl 1 rfl) ?_
          refine bn_gt (tgt := 40) hx hb dX2_far_34 (by decide) (by omega) (by omega) (fun c34 => ?_) (fun c34 => ?_)
          · skip
            refine lv_aload_n hx hb dX2_far_40 rfl (lv_at hl 3 rfl) ?_
            refine va_get (D := D) (ci := 2) (v := .ref c1) (C := RX2) (T := TX2) (N := 11) hx hb hts (fun _ h => (List.mem_cons_of_mem _ (List.mem_append_right _ h))) hown hK hP 0 rfl rfl 3 (by decide) (hts _ (List.mem_of_getElem? (i := 2) rfl)) (fun _ h9 => h9) rfl dX2_far_41 ?_
            refine lv_iload_n hx hb dX2_far_44 rfl (lv_at hl 0 rfl) ?_
            refine al_i hx hb hK hP 1 0 rfl rfl (by omega) (by omega) dX2_far_45 ?_
            refine tp_i (y := (f i)) (hF i (by omega)) ?_
            refine lv_istore_n (lv' := [(1, .int (f i)), (3, .int (nI i)), (2, .int (nI b)), (0, .ref u)]) hx hb dX2_far_46 rfl hl (by decide) rfl (fun ls hl => ?_)
            refine lv_aload_n hx hb dX2_far_47 rfl (lv_at hl 3 rfl) ?_
            refine va_get (D := D) (ci := 2) (v := .int (nI (lk n w f x))) (C := RX2) (T := TX2) (N := 11) hx hb hts (fun _ h => (List.mem_cons_of_mem _ (List.mem_append_right _ h))) hown hK hP 0 rfl rfl 7 (by decide) (hts _ (List.mem_of_getElem? (i := 3) rfl)) (fun _ h9 => h9) rfl dX2_far_48 ?_
            refine lv_istore_n (lv' := [(2, .int (nI (lk n w f x))), (1, .int (f i)), (3, .int (nI i)), (0, .ref u)]) hx hb dX2_far_51 rfl hl (by decide) rfl (fun ls hl => ?_)
            refine lv_iinc (v := (nI (i + 1))) (lv' := [(3, .int (nI (i + 1))), (2, .int (nI (lk n w f x))), (1, .int (f i)), (0, .ref u)]) hx hb dX2_far_52 hl (k := 2) rfl (inc1 _) (by decide) rfl (fun ls hl => ?_)
            refine lv_goto (tgt := 6) hx hb dX2_far_55 (by decide) ?_
            exact ih (i + 1) (f i) (lk n w f x) _ _ _ _ (by omega) (Nat.le_trans (lk_le n w f x) hn) (by rw [fo_s, if_pos (by rw [lx_p (ge0 c20) ez]; omega), lx_p (ge0 c20) ez] at h2; exact h2) _ _ hP hD hS _ (lv_sub hl [0, 1, 2, 3] rfl)
          · skip
            refine lv_goto (tgt := 52) hx hb dX2_far_37 (by decide) ?_
            refine lv_iinc (v := (nI (i + 1))) (lv' := [(3, .int (nI (i + 1))), (2, .int (nI b)), (1, .int a), (0, .ref u)]) hx hb dX2_far_52 hl (k := 0) rfl (inc1 _) (by decide) rfl (fun ls hl => ?_)
            refine lv_goto (tgt := 6) hx hb dX2_far_55 (by decide) ?_
            exact ih (i + 1) a b _ _ _ _ (by omega) hb9 (by rw [fo_s, if_neg (by rw [lx_p (ge0 c20) ez]; omega)] at h2; exact h2) _ _ hP hD hS _ (lv_sub hl [0, 1, 2, 3] rfl)
  exact LP6 n 0 (-1) 0 e7 e8 e9 e10 (Nat.zero_add n) (by omega) rfl _ _ hP hD hS _ (lv_sub hl [0, 1, 2, 3] rfl)
theorem k_X2_rowsNow : yX2_rowsNow.cls = RX2 ∧ yX2_rowsNow.cls ≠ "java/lang/invoke/MethodHandle" ∧ yX2_rowsNow.cls ≠ "java/lang/invoke/VarHandle" ∧ (parseMethodDescriptor yX2_rowsNow.desc).map (fun d => d.parameters.length) = some 0 := by decide +kernel
set_option maxHeartbeats 4000000 in
set_option maxRecDepth 100000 in
theorem m_X2_rowsNow (l : Launch) (D : va_G) (cI : ClassId) (u c1 c2 c3 c4 : Nat) {n w : Nat} {F V f g : Nat → Int32} (S : MS n w F V f g) (O Y : Nat → Int32) (e0 e7 e8 e9 e10 : Int32) : Met l yX2_rowsNow wsX2_rowsNow ({ frames := 1, cells := 0, slots := 0, locals := 23 } : Room) (PR D [(cI, .int)] [.ref u] (mdw cI u c1 c2 c3 c4 e0 n w F V O Y e7 e8 e9 e10)) (vp_Si (fun r => r = nI (rc n f))) 0 0 (fun _ => False) := by
  obtain ⟨hn3, hn, hw2, hF, hV, hO⟩ := id S
  refine bd_p (cc := cX2_rowsNow) (maxL := 3) (ret := (some .int)) (by decide) rfl (Nat.le_of_ble_eq_true rfl) ?_
  intro p e s m args below meth c ls CF hr hlocks hK hP hl
  obtain ⟨hx, hb, hml, hown, hts⟩ := id CF
  have hl : lv_has ls 3 [(0, .ref u)] := hl
  have hP : va_P D vwCl [(u, .inr (2, [.int e0, .int (nI n), .int (nI w), .ref c1, .ref c2, .ref c3, .ref c4, .int e7, .int e8, .int e9, .int e10])), (c1, .inl (cI, 40, .inl F)), (c2, .inl (cI, 40, .inl V)), (c3, .inl (cI, 40, .inl O)), (c4, .inl (cI, 40, .inl Y))] s.heap := hP
  refine lv_iconst (v := nI 0) hx hb dX2_rowsNow_0 (by decide) ?_
  refine lv_istore_n (lv' := [(1, .int (nI 0)), (0, .ref u)]) hx hb dX2_rowsNow_1 rfl hl (by decide) rfl (fun ls hl => ?_)
  refine lv_iconst (v := nI 0) hx hb dX2_rowsNow_2 (by decide) ?_
  refine lv_istore_n (lv' := [(2, .int (nI 0)), (1, .int (nI 0)), (0, .ref u)]) hx hb dX2_rowsNow_3 rfl hl (by decide) rfl (fun ls hl => ?_)
  have LP4 : ∀ (q i a : Nat), i + q = n → fo (fun a i => if f i = -1 ∧ ¬ f ((i + 1) % n) = -1 then a + 1 else a) q i a = rs n f → ∀ (ls : Array Slot), lv_has ls 3 [(2, .int (nI i)), (1, .int (nI a)), (0, .ref u)] → W p l e ({ frames := 1, cells := 0, slots := 0, locals := 23 } : Room) s m args below meth c s.heap [] 0 0 (MQ below (vp_Si (fun r => r = nI (rc n f))) args s 0 0 (fun _ => False)) (F0 m 4 ls []) := by
    intro q
    induction q with
    | zero =>
      intro i a h1 h2 ls hl
      refine lv_iload_n hx hb dX2_rowsNow_4 rfl (lv_at hl 0 rfl) ?_
      refine lv_aload_n hx hb dX2_rowsNow_5 rfl (lv_at hl 2 rfl) ?_
      refine va_get (D := D) (ci := 2) (v := .int (nI n)) (C := RX2) (T := TX2) (N := 11) hx hb hts (fun _ h => (List.mem_cons_of_mem _ (List.mem_append_right _ h))) hown hK hP 0 rfl rfl 1 (by decide) (hts _ (List.mem_of_getElem? (i := 1) rfl)) (fun _ h9 => h9) rfl dX2_rowsNow_6 ?_
      refine bn_ge (tgt := 53) hx hb dX2_rowsNow_9 (by decide) (by omega) (by omega) (fun c9 => ?_) (fun c9 => ?_)
      · skip
        refine lv_aload_n hx hb dX2_rowsNow_53 rfl (lv_at hl 2 rfl) ?_
        refine lv_iconst (v := (-1)) hx hb dX2_rowsNow_54 (by decide) ?_
        refine pv_i CF (m_X2_count l D cI u c1 c2 c3 c4 S O Y e0 e7 e8 e9 e10 (-1)) (cwV 1 hts gX2_rowsNow_X2_count rfl rfl rfl k_X2_count ⟨Nat.le_of_ble_eq_true rfl, Nat.le_of_ble_eq_true rfl⟩) hK hP rfl rfl rfl rfl hl.1 rfl (Nat.le_of_ble_eq_true rfl) dX2_rowsNow_55 ⟨Nat.le_of_ble_eq_true rfl, Nat.le_of_ble_eq_true rfl⟩ ?_
        refine bz_ne (tgt := 65) hx hb dX2_rowsNow_58 (by decide) (Nat.lt_of_le_of_lt (cw_le n f (-1) n) (by omega)) (fun c58 => ?_) (fun c58 => ?_)
        · skip
          refine lv_iload_n hx hb dX2_rowsNow_65 rfl (lv_at hl 1 rfl) ?_
          exact en_i hx hb hr hlocks (congrArg nI (h2.trans (rc_1 (by omega) c58).symm)) dX2_rowsNow_66
        · skip
          refine lv_iconst (v := nI 1) hx hb dX2_rowsNow_61 (by decide) ?_
          refine lv_goto (tgt := 66) hx hb dX2_rowsNow_62 (by decide) ?_
          exact en_i hx hb hr hlocks (congrArg nI (rc_0 (by omega) c58).symm) dX2_rowsNow_66
      · skip
        omega
    | succ q ih =>
      intro i a h1 h2 ls hl
      refine lv_iload_n hx hb dX2_rowsNow_4 rfl (lv_at hl 0 rfl) ?_
      refine lv_aload_n hx hb dX2_rowsNow_5 rfl (lv_at hl 2 rfl) ?_
      refine va_get (D := D) (ci := 2) (v := .int (nI n)) (C := RX2) (T := TX2) (N := 11) hx hb hts (fun _ h => (List.mem_cons_of_mem _ (List.mem_append_right _ h))) hown hK hP 0 rfl rfl 1 (by decide) (hts _ (List.mem_of_getElem? (i := 1) rfl)) (fun _ h9 => h9) rfl dX2_rowsNow_6 ?_
      refine bn_ge (tgt := 53) hx hb dX2_rowsNow_9 (by decide) (by omega) (by omega) (fun c9 => ?_) (fun c9 => ?_)
      · skip
        omega
      · skip
        refine lv_iload_n hx hb dX2_rowsNow_12 rfl (lv_at hl 1 rfl) ?_
        refine lv_aload_n hx hb dX2_rowsNow_13 rfl (lv_at hl 2 rfl) ?_
        refine va_get (D := D) (ci := 2) (v := .ref c1) (C := RX2) (T := TX2) (N := 11) hx hb hts (fun _ h => (List.mem_cons_of_mem _ (List.mem_append_right _ h))) hown hK hP 0 rfl rfl 3 (by decide) (hts _ (List.mem_of_getElem? (i := 2) rfl)) (fun _ h9 => h9) rfl dX2_rowsNow_14 ?_
        refine lv_iload_n hx hb dX2_rowsNow_17 rfl (lv_at hl 0 rfl) ?_
        refine al_i hx hb hK hP 1 0 rfl rfl (by omega) (by omega) dX2_rowsNow_18 ?_
        refine tp_i (y := (f i)) (hF i (by omega)) ?_
        refine lv_iconst (v := (-1)) hx hb dX2_rowsNow_19 (by decide) ?_
        refine lv_icmp_ne (tgt := 44) hx hb dX2_rowsNow_20 (by decide) (fun c20 => ?_) (fun c20 => ?_)
        · skip
          refine lv_iconst (v := nI 0) hx hb dX2_rowsNow_44 (by decide) ?_
          refine an_add hx hb dX2_rowsNow_45 ?_
          refine tp_i (y := nI a) rfl ?_
          refine lv_istore_n (lv' := [(1, .int (nI a)), (2, .int (nI i)), (0, .ref u)]) hx hb dX2_rowsNow_46 rfl hl (by decide) rfl (fun ls hl => ?_)
          refine lv_iinc (v := (nI (i + 1))) (lv' := [(2, .int (nI (i + 1))), (1, .int (nI a)), (0, .ref u)]) hx hb dX2_rowsNow_47 hl (k := 1) rfl (inc1 _) (by decide) rfl (fun ls hl => ?_)
          refine lv_goto (tgt := 4) hx hb dX2_rowsNow_50 (by decide) ?_
          exact ih (i + 1) a (by omega) (by rw [fo_s, if_neg (fun z => c20 z.1)] at h2; exact h2) _ (lv_sub hl [0, 1, 2] rfl)
        · skip
          refine lv_aload_n hx hb dX2_rowsNow_23 rfl (lv_at hl 2 rfl) ?_
          refine va_get (D := D) (ci := 2) (v := .ref c1) (C := RX2) (T := TX2) (N := 11) hx hb hts (fun _ h => (List.mem_cons_of_mem _ (List.mem_append_right _ h))) hown hK hP 0 rfl rfl 3 (by decide) (hts _ (List.mem_of_getElem? (i := 2) rfl)) (fun _ h9 => h9) rfl dX2_rowsNow_24 ?_
          refine lv_iload_n hx hb dX2_rowsNow_27 rfl (lv_at hl 0 rfl) ?_
          refine lv_iconst (v := nI 1) hx hb dX2_rowsNow_28 (by decide) ?_
          refine an_add hx hb dX2_rowsNow_29 ?_
          refine lv_aload_n hx hb dX2_rowsNow_30 rfl (lv_at hl 2 rfl) ?_
          refine va_get (D := D) (ci := 2) (v := .int (nI n)) (C := RX2) (T := TX2) (N := 11) hx hb hts (fun _ h => (List.mem_cons_of_mem _ (List.mem_append_right _ h))) hown hK hP 0 rfl rfl 1 (by decide) (hts _ (List.mem_of_getElem? (i := 1) rfl)) (fun _ h9 => h9) rfl dX2_rowsNow_31 ?_
          refine an_rem hx hb (by omega) (by omega) (by omega) dX2_rowsNow_34 ?_
          refine al_i hx hb hK hP 1 0 rfl rfl (Nat.lt_of_lt_of_le (Nat.mod_lt _ (by omega)) hn) (by omega) dX2_rowsNow_35 ?_
          refine tp_i (y := (f ((i + 1) % n))) (hF _ (Nat.mod_lt _ (by omega))) ?_
          refine lv_iconst (v := (-1)) hx hb dX2_rowsNow_36 (by decide) ?_
          refine lv_icmp_eq (tgt := 44) hx hb dX2_rowsNow_37 (by decide) (fun c37 => ?_) (fun c37 => ?_)
          · skip
            refine lv_iconst (v := nI 0) hx hb dX2_rowsNow_44 (by decide) ?_
            refine an_add hx hb dX2_rowsNow_45 ?_
            refine tp_i (y := nI a) rfl ?_
            refine lv_istore_n (lv' := [(1, .int (nI a)), (2, .int (nI i)), (0, .ref u)]) hx hb dX2_rowsNow_46 rfl hl (by decide) rfl (fun ls hl => ?_)
            refine lv_iinc (v := (nI (i + 1))) (lv' := [(2, .int (nI (i + 1))), (1, .int (nI a)), (0, .ref u)]) hx hb dX2_rowsNow_47 hl (k := 1) rfl (inc1 _) (by decide) rfl (fun ls hl => ?_)
            refine lv_goto (tgt := 4) hx hb dX2_rowsNow_50 (by decide) ?_
            exact ih (i + 1) a (by omega) (by rw [fo_s, if_neg (fun z => z.2 c37)] at h2; exact h2) _ (lv_sub hl [0, 1, 2] rfl)
          · skip
            refine lv_iconst (v := nI 1) hx hb dX2_rowsNow_40 (by decide) ?_
            refine lv_goto (tgt := 45) hx hb dX2_rowsNow_41 (by decide) ?_
            refine an_add hx hb dX2_rowsNow_45 ?_
            refine lv_istore_n (lv' := [(1, .int (nI (a + 1))), (2, .int (nI i)), (0, .ref u)]) hx hb dX2_rowsNow_46 rfl hl (by decide) rfl (fun ls hl => ?_)
            refine lv_iinc (v := (nI (i + 1))) (lv' := [(2, .int (nI (i + 1))), (1, .int (nI (a + 1))), (0, .ref u)]) hx hb dX2_rowsNow_47 hl (k := 1) rfl (inc1 _) (by decide) rfl (fun ls hl => ?_)
            refine lv_goto (tgt := 4) hx hb dX2_rowsNow_50 (by decide) ?_
            exact ih (i + 1) (a + 1) (by omega) (by rw [fo_s, if_pos ⟨c20, c37⟩] at h2; exact h2) _ (lv_sub hl [0, 1, 2] rfl)
  exact LP4 n 0 0 (Nat.zero_add n) rfl _ (lv_sub hl [0, 1, 2] rfl)
theorem k_X2_rowOf : yX2_rowOf.cls = RX2 ∧ yX2_rowOf.cls ≠ "java/lang/invoke/MethodHandle" ∧ yX2_rowOf.cls ≠ "java/lang/invoke/VarHandle" ∧ (parseMethodDescriptor yX2_rowOf.desc).map (fun d => d.parameters.length) = some 1 := by decide +kernel
set_option maxHeartbeats 4000000 in
set_option maxRecDepth 100000 in
theorem m_X2_rowOf (l : Launch) (D : va_G) (cI : ClassId) (u c1 c2 c3 c4 : Nat) {n w : Nat} {F V f g : Nat → Int32} (S : MS n w F V f g) (O Y : Nat → Int32) (e0 e7 e8 e9 e10 : Int32) (k : Nat) (hk : k < n) : Met l yX2_rowOf wsX2_rowOf ({ frames := 1, cells := 0, slots := 0, locals := 21 } : Room) (PR D [(cI, .int)] [.ref u, .int (nI k)] (mdw cI u c1 c2 c3 c4 e0 n w F V O Y e7 e8 e9 e10)) (vp_Si (fun r => r = nI (rl n f k))) 0 0 (fun _ => False) := by
  obtain ⟨hn3, hn, hw2, hF, hV, hO⟩ := id S
  refine bd_p (cc := cX2_rowOf) (maxL := 4) (ret := (some .int)) (by decide) rfl (Nat.le_of_ble_eq_true rfl) ?_
  intro p e s m args below meth c ls CF hr hlocks hK hP hl
  obtain ⟨hx, hb, hml, hown, hts⟩ := id CF
  have hl : lv_has ls 4 [(0, .ref u), (1, .int (nI k))] := hl
  have hP : va_P D vwCl [(u, .inr (2, [.int e0, .int (nI n), .int (nI w), .ref c1, .ref c2, .ref c3, .ref c4, .int e7, .int e8, .int e9, .int e10])), (c1, .inl (cI, 40, .inl F)), (c2, .inl (cI, 40, .inl V)), (c3, .inl (cI, 40, .inl O)), (c4, .inl (cI, 40, .inl Y))] s.heap := hP
  refine lv_aload_n hx hb dX2_rowOf_0 rfl (lv_at hl 0 rfl) ?_
  refine va_get (D := D) (ci := 2) (v := .ref c1) (C := RX2) (T := TX2) (N := 11) hx hb hts (fun _ h => (List.mem_cons_of_mem _ (List.mem_append_right _ h))) hown hK hP 0 rfl rfl 3 (by decide) (hts _ (List.mem_of_getElem? (i := 1) rfl)) (fun _ h9 => h9) rfl dX2_rowOf_1 ?_
  refine lv_iload_n hx hb dX2_rowOf_4 rfl (lv_at hl 1 rfl) ?_
  refine al_i hx hb hK hP 1 0 rfl rfl (by omega) (by omega) dX2_rowOf_5 ?_
  refine tp_i (y := (f k)) (hF k hk) ?_
  refine lv_iconst (v := (-1)) hx hb dX2_rowOf_6 (by decide) ?_
  refine lv_icmp_ne (tgt := 12) hx hb dX2_rowOf_7 (by decide) (fun c7 => ?_) (fun c7 => ?_)
  · skip
    refine lv_iconst (v := nI 0) hx hb dX2_rowOf_12 (by decide) ?_
    refine lv_istore_n (lv' := [(2, .int (nI 0)), (0, .ref u), (1, .int (nI k))]) hx hb dX2_rowOf_13 rfl hl (by decide) rfl (fun ls hl => ?_)
    have LP14 : ∀ (q l1 : Nat), l1 + q = n → fs (fun j => decide (f ((k + j) % n) = -1)) q l1 = lf n f k → ∀ (ls : Array Slot), lv_has ls 4 [(2, .int (nI l1)), (0, .ref u), (1, .int (nI k))] → W p l e ({ frames := 1, cells := 0, slots := 0, locals := 21 } : Room) s m args below meth c s.heap [] 0 0 (MQ below (vp_Si (fun r => r = nI (rl n f k))) args s 0 0 (fun _ => False)) (F0 m 14 ls []) := by
      intro q
      induction q with
      | zero =>
        intro l1 h1 h2 ls hl
        refine lv_iload_n hx hb dX2_rowOf_14 rfl (lv_at hl 0 rfl) ?_
        refine lv_aload_n hx hb dX2_rowOf_15 rfl (lv_at hl 1 rfl) ?_
        refine va_get (D := D) (ci := 2) (v := .int (nI n)) (C := RX2) (T := TX2) (N := 11) hx hb hts (fun _ h => (List.mem_cons_of_mem _ (List.mem_append_right _ h))) hown hK hP 0 rfl rfl 1 (by decide) (hts _ (List.mem_of_getElem? (i := 2) rfl)) (fun _ h9 => h9) rfl dX2_rowOf_16 ?_
        refine bn_ge (tgt := 45) hx hb dX2_rowOf_19 (by decide) (by omega) (by omega) (fun c19 => ?_) (fun c19 => ?_)
        · skip
          have el : l1 = lf n f k := h2
          subst el
          have hlf := lf_pos (show 0 < n by omega) hk c7
          have hlf2 := lf_le n f k
          have hlb2 := lb_le n f k
          refine lv_iconst (v := nI 0) hx hb dX2_rowOf_45 (by decide) ?_
          refine lv_istore_n (lv' := [(3, .int (nI 0)), (2, .int (nI (lf n f k))), (0, .ref u), (1, .int (nI k))]) hx hb dX2_rowOf_46 rfl hl (by decide) rfl (fun ls hl => ?_)
          have LP47 : ∀ (q2 r1 : Nat), r1 + q2 = n → fs (fun j => decide (f ((k + n - j) % n) = -1)) q2 r1 = lb n f k → ∀ (ls : Array Slot), lv_has ls 4 [(3, .int (nI r1)), (2, .int (nI (lf n f k))), (0, .ref u), (1, .int (nI k))] → W p l e ({ frames := 1, cells := 0, slots := 0, locals := 21 } : Room) s m args below meth c s.heap [] 0 0 (MQ below (vp_Si (fun r => r = nI (rl n f k))) args s 0 0 (fun _ => False)) (F0 m 47 ls []) := by
            intro q2
            induction q2 with
            | zero =>
              intro r1 h3 h4 ls hl
              refine lv_iload_n hx hb dX2_rowOf_47 rfl (lv_at hl 0 rfl) ?_
              refine lv_aload_n hx hb dX2_rowOf_48 rfl (lv_at hl 2 rfl) ?_
              refine va_get (D := D) (ci := 2) (v := .int (nI n)) (C := RX2) (T := TX2) (N := 11) hx hb hts (fun _ h => (List.mem_cons_of_mem _ (List.mem_append_right _ h))) hown hK hP 0 rfl rfl 1 (by decide) (hts _ (List.mem_of_getElem? (i := 2) rfl)) (fun _ h9 => h9) rfl dX2_rowOf_49 ?_
              refine bn_ge (tgt := 83) hx hb dX2_rowOf_52 (by decide) (by omega) (by omega) (fun c52 => ?_) (fun c52 => ?_)
              · skip
                have er : r1 = lb n f k := h4
                subst er
                refine lv_aload_n hx hb dX2_rowOf_83 rfl (lv_at hl 2 rfl) ?_
                refine va_get (D := D) (ci := 2) (v := .int (nI n)) (C := RX2) (T := TX2) (N := 11) hx hb hts (fun _ h => (List.mem_cons_of_mem _ (List.mem_append_right _ h))) hown hK hP 0 rfl rfl 1 (by decide) (hts _ (List.mem_of_getElem? (i := 2) rfl)) (fun _ h9 => h9) rfl dX2_rowOf_84 ?_
                refine lv_iload_n hx hb dX2_rowOf_87 rfl (lv_at hl 0 rfl) ?_
                refine lv_iload_n hx hb dX2_rowOf_88 rfl (lv_at hl 1 rfl) ?_
                refine an_add hx hb dX2_rowOf_89 ?_
                refine lv_iconst (v := nI 1) hx hb dX2_rowOf_90 (by decide) ?_
                refine an_sub hx hb (by omega) dX2_rowOf_91 ?_
                refine va_mmin hx hb (hml.trans hl.1.symm) hown (hts _ (List.mem_of_getElem? (i := 3) rfl)) (hts _ (List.mem_of_getElem? (i := 4) rfl)) (hts _ (List.mem_of_getElem? (i := 5) rfl)) (hts _ (List.mem_of_getElem? (i := 6) rfl)) (Nat.le_of_ble_eq_true rfl) (Nat.le_of_ble_eq_true rfl) (Nat.zero_le _) (Nat.zero_le _) dX2_rowOf_92 ?_
                refine tp_i (y := nI (rl n f k)) (mn_rl (by omega) hn hk c7) ?_
                exact en_i hx hb hr hlocks rfl dX2_rowOf_95
              · skip
                omega
            | succ q2 ih =>
              intro r1 h3 h4 ls hl
              refine lv_iload_n hx hb dX2_rowOf_47 rfl (lv_at hl 0 rfl) ?_
              refine lv_aload_n hx hb dX2_rowOf_48 rfl (lv_at hl 2 rfl) ?_
              refine va_get (D := D) (ci := 2) (v := .int (nI n)) (C := RX2) (T := TX2) (N := 11) hx hb hts (fun _ h => (List.mem_cons_of_mem _ (List.mem_append_right _ h))) hown hK hP 0 rfl rfl 1 (by decide) (hts _ (List.mem_of_getElem? (i := 2) rfl)) (fun _ h9 => h9) rfl dX2_rowOf_49 ?_
              refine bn_ge (tgt := 83) hx hb dX2_rowOf_52 (by decide) (by omega) (by omega) (fun c52 => ?_) (fun c52 => ?_)
              · skip
                omega
              · skip
                refine lv_aload_n hx hb dX2_rowOf_55 rfl (lv_at hl 2 rfl) ?_
                refine va_get (D := D) (ci := 2) (v := .ref c1) (C := RX2) (T := TX2) (N := 11) hx hb hts (fun _ h => (List.mem_cons_of_mem _ (List.mem_append_right _ h))) hown hK hP 0 rfl rfl 3 (by decide) (hts _ (List.mem_of_getElem? (i := 1) rfl)) (fun _ h9 => h9) rfl dX2_rowOf_56 ?_
                refine lv_iload_n hx hb dX2_rowOf_59 rfl (lv_at hl 3 rfl) ?_
                refine lv_iload_n hx hb dX2_rowOf_60 rfl (lv_at hl 0 rfl) ?_
                refine lv_isub hx hb dX2_rowOf_61 ?_
                refine lv_aload_n hx hb dX2_rowOf_62 rfl (lv_at hl 2 rfl) ?_
                refine va_get (D := D) (ci := 2) (v := .int (nI n)) (C := RX2) (T := TX2) (N := 11) hx hb hts (fun _ h => (List.mem_cons_of_mem _ (List.mem_append_right _ h))) hown hK hP 0 rfl rfl 1 (by decide) (hts _ (List.mem_of_getElem? (i := 2) rfl)) (fun _ h9 => h9) rfl dX2_rowOf_63 ?_
                refine lv_iadd hx hb dX2_rowOf_66 ?_
                refine tp_i (y := (nI (k + n - r1))) (sb_ad (by omega)) ?_
                refine lv_aload_n hx hb dX2_rowOf_67 rfl (lv_at hl 2 rfl) ?_
                refine va_get (D := D) (ci := 2) (v := .int (nI n)) (C := RX2) (T := TX2) (N := 11) hx hb hts (fun _ h => (List.mem_cons_of_mem _ (List.mem_append_right _ h))) hown hK hP 0 rfl rfl 1 (by decide) (hts _ (List.mem_of_getElem? (i := 2) rfl)) (fun _ h9 => h9) rfl dX2_rowOf_68 ?_
                refine an_rem hx hb (by omega) (by omega) (by omega) dX2_rowOf_71 ?_
                refine al_i hx hb hK hP 1 0 rfl rfl (Nat.lt_of_lt_of_le (Nat.mod_lt _ (by omega)) hn) (by omega) dX2_rowOf_72 ?_
                refine tp_i (y := (f ((k + n - r1) % n))) (hF _ (Nat.mod_lt _ (by omega))) ?_
                refine lv_iconst (v := (-1)) hx hb dX2_rowOf_73 (by decide) ?_
                refine lv_icmp_eq (tgt := 83) hx hb dX2_rowOf_74 (by decide) (fun c74 => ?_) (fun c74 => ?_)
                · skip
                  have er : r1 = lb n f k := (lb_y h4 c74)
                  subst er
                  refine lv_aload_n hx hb dX2_rowOf_83 rfl (lv_at hl 2 rfl) ?_
                  refine va_get (D := D) (ci := 2) (v := .int (nI n)) (C := RX2) (T := TX2) (N := 11) hx hb hts (fun _ h => (List.mem_cons_of_mem _ (List.mem_append_right _ h))) hown hK hP 0 rfl rfl 1 (by decide) (hts _ (List.mem_of_getElem? (i := 2) rfl)) (fun _ h9 => h9) rfl dX2_rowOf_84 ?_
                  refine lv_iload_n hx hb dX2_rowOf_87 rfl (lv_at hl 0 rfl) ?_
                  refine lv_iload_n hx hb dX2_rowOf_88 rfl (lv_at hl 1 rfl) ?_
                  refine an_add hx hb dX2_rowOf_89 ?_
                  refine lv_iconst (v := nI 1) hx hb dX2_rowOf_90 (by decide) ?_
                  refine an_sub hx hb (by omega) dX2_rowOf_91 ?_
                  refine va_mmin hx hb (hml.trans hl.1.symm) hown (hts _ (List.mem_of_getElem? (i := 3) rfl)) (hts _ (List.mem_of_getElem? (i := 4) rfl)) (hts _ (List.mem_of_getElem? (i := 5) rfl)) (hts _ (List.mem_of_getElem? (i := 6) rfl)) (Nat.le_of_ble_eq_true rfl) (Nat.le_of_ble_eq_true rfl) (Nat.zero_le _) (Nat.zero_le _) dX2_rowOf_92 ?_
                  refine tp_i (y := nI (rl n f k)) (mn_rl (by omega) hn hk c7) ?_
                  exact en_i hx hb hr hlocks rfl dX2_rowOf_95
                · skip
                  refine lv_iinc (v := (nI (r1 + 1))) (lv' := [(3, .int (nI (r1 + 1))), (2, .int (nI (lf n f k))), (0, .ref u), (1, .int (nI k))]) hx hb dX2_rowOf_77 hl (k := 0) rfl (inc1 _) (by decide) rfl (fun ls hl => ?_)
                  refine lv_goto (tgt := 47) hx hb dX2_rowOf_80 (by decide) ?_
                  exact ih (r1 + 1) (by omega) (lb_n h4 c74) _ (lv_sub hl [0, 1, 2, 3] rfl)
          exact LP47 n 0 (Nat.zero_add n) rfl _ (lv_sub hl [0, 1, 2, 3] rfl)
        · skip
          omega
      | succ q ih =>
        intro l1 h1 h2 ls hl
        refine lv_iload_n hx hb dX2_rowOf_14 rfl (lv_at hl 0 rfl) ?_
        refine lv_aload_n hx hb dX2_rowOf_15 rfl (lv_at hl 1 rfl) ?_
        refine va_get (D := D) (ci := 2) (v := .int (nI n)) (C := RX2) (T := TX2) (N := 11) hx hb hts (fun _ h => (List.mem_cons_of_mem _ (List.mem_append_right _ h))) hown hK hP 0 rfl rfl 1 (by decide) (hts _ (List.mem_of_getElem? (i := 2) rfl)) (fun _ h9 => h9) rfl dX2_rowOf_16 ?_
        refine bn_ge (tgt := 45) hx hb dX2_rowOf_19 (by decide) (by omega) (by omega) (fun c19 => ?_) (fun c19 => ?_)
        · skip
          omega
        · skip
          refine lv_aload_n hx hb dX2_rowOf_22 rfl (lv_at hl 1 rfl) ?_
          refine va_get (D := D) (ci := 2) (v := .ref c1) (C := RX2) (T := TX2) (N := 11) hx hb hts (fun _ h => (List.mem_cons_of_mem _ (List.mem_append_right _ h))) hown hK hP 0 rfl rfl 3 (by decide) (hts _ (List.mem_of_getElem? (i := 1) rfl)) (fun _ h9 => h9) rfl dX2_rowOf_23 ?_
          refine lv_iload_n hx hb dX2_rowOf_26 rfl (lv_at hl 2 rfl) ?_
          refine lv_iload_n hx hb dX2_rowOf_27 rfl (lv_at hl 0 rfl) ?_
          refine an_add hx hb dX2_rowOf_28 ?_
          refine lv_aload_n hx hb dX2_rowOf_29 rfl (lv_at hl 1 rfl) ?_
          refine va_get (D := D) (ci := 2) (v := .int (nI n)) (C := RX2) (T := TX2) (N := 11) hx hb hts (fun _ h => (List.mem_cons_of_mem _ (List.mem_append_right _ h))) hown hK hP 0 rfl rfl 1 (by decide) (hts _ (List.mem_of_getElem? (i := 2) rfl)) (fun _ h9 => h9) rfl dX2_rowOf_30 ?_
          refine an_rem hx hb (by omega) (by omega) (by omega) dX2_rowOf_33 ?_
          refine al_i hx hb hK hP 1 0 rfl rfl (Nat.lt_of_lt_of_le (Nat.mod_lt _ (by omega)) hn) (by omega) dX2_rowOf_34 ?_
          refine tp_i (y := (f ((k + l1) % n))) (hF _ (Nat.mod_lt _ (by omega))) ?_
          refine lv_iconst (v := (-1)) hx hb dX2_rowOf_35 (by decide) ?_
          refine lv_icmp_eq (tgt := 45) hx hb dX2_rowOf_36 (by decide) (fun c36 => ?_) (fun c36 => ?_)
          · skip
            have el : l1 = lf n f k := (lf_y h2 c36)
            subst el
            have hlf := lf_pos (show 0 < n by omega) hk c7
            have hlf2 := lf_le n f k
            have hlb2 := lb_le n f k
            refine lv_iconst (v := nI 0) hx hb dX2_rowOf_45 (by decide) ?_
            refine lv_istore_n (lv' := [(3, .int (nI 0)), (2, .int (nI (lf n f k))), (0, .ref u), (1, .int (nI k))]) hx hb dX2_rowOf_46 rfl hl (by decide) rfl (fun ls hl => ?_)
            have LP47 : ∀ (q2 r1 : Nat), r1 + q2 = n → fs (fun j => decide (f ((k + n - j) % n) = -1)) q2 r1 = lb n f k → ∀ (ls : Array Slot), lv_has ls 4 [(3, .int (nI r1)), (2, .int (nI (lf n f k))), (0, .ref u), (1, .int (nI k))] → W p l e ({ frames := 1, cells := 0, slots := 0, locals := 21 } : Room) s m args below meth c s.heap [] 0 0 (MQ below (vp_Si (fun r => r = nI (rl n f k))) args s 0 0 (fun _ => False)) (F0 m 47 ls []) := by
              intro q2
              induction q2 with
              | zero =>
                intro r1 h3 h4 ls hl
                refine lv_iload_n hx hb dX2_rowOf_47 rfl (lv_at hl 0 rfl) ?_
                refine lv_aload_n hx hb dX2_rowOf_48 rfl (lv_at hl 2 rfl) ?_
                refine va_get (D := D) (ci := 2) (v := .int (nI n)) (C := RX2) (T := TX2) (N := 11) hx hb hts (fun _ h => (List.mem_cons_of_mem _ (List.mem_append_right _ h))) hown hK hP 0 rfl rfl 1 (by decide) (hts _ (List.mem_of_getElem? (i := 2) rfl)) (fun _ h9 => h9) rfl dX2_rowOf_49 ?_
                refine bn_ge (tgt := 83) hx hb dX2_rowOf_52 (by decide) (by omega) (by omega) (fun c52 => ?_) (fun c52 => ?_)
                · skip
                  have er : r1 = lb n f k := h4
                  subst er
                  refine lv_aload_n hx hb dX2_rowOf_83 rfl (lv_at hl 2 rfl) ?_
                  refine va_get (D := D) (ci := 2) (v := .int (nI n)) (C := RX2) (T := TX2) (N := 11) hx hb hts (fun _ h => (List.mem_cons_of_mem _ (List.mem_append_right _ h))) hown hK hP 0 rfl rfl 1 (by decide) (hts _ (List.mem_of_getElem? (i := 2) rfl)) (fun _ h9 => h9) rfl dX2_rowOf_84 ?_
                  refine lv_iload_n hx hb dX2_rowOf_87 rfl (lv_at hl 0 rfl) ?_
                  refine lv_iload_n hx hb dX2_rowOf_88 rfl (lv_at hl 1 rfl) ?_
                  refine an_add hx hb dX2_rowOf_89 ?_
                  refine lv_iconst (v := nI 1) hx hb dX2_rowOf_90 (by decide) ?_
                  refine an_sub hx hb (by omega) dX2_rowOf_91 ?_
                  refine va_mmin hx hb (hml.trans hl.1.symm) hown (hts _ (List.mem_of_getElem? (i := 3) rfl)) (hts _ (List.mem_of_getElem? (i := 4) rfl)) (hts _ (List.mem_of_getElem? (i := 5) rfl)) (hts _ (List.mem_of_getElem? (i := 6) rfl)) (Nat.le_of_ble_eq_true rfl) (Nat.le_of_ble_eq_true rfl) (Nat.zero_le _) (Nat.zero_le _) dX2_rowOf_92 ?_
                  refine tp_i (y := nI (rl n f k)) (mn_rl (by omega) hn hk c7) ?_
                  exact en_i hx hb hr hlocks rfl dX2_rowOf_95
                · skip
                  omega
              | succ q2 ih =>
                intro r1 h3 h4 ls hl
                refine lv_iload_n hx hb dX2_rowOf_47 rfl (lv_at hl 0 rfl) ?_
                refine lv_aload_n hx hb dX2_rowOf_48 rfl (lv_at hl 2 rfl) ?_
                refine va_get (D := D) (ci := 2) (v := .int (nI n)) (C := RX2) (T := TX2) (N := 11) hx hb hts (fun _ h => (List.mem_cons_of_mem _ (List.mem_append_right _ h))) hown hK hP 0 rfl rfl 1 (by decide) (hts _ (List.mem_of_getElem? (i := 2) rfl)) (fun _ h9 => h9) rfl dX2_rowOf_49 ?_
                refine bn_ge (tgt := 83) hx hb dX2_rowOf_52 (by decide) (by omega) (by omega) (fun c52 => ?_) (fun c52 => ?_)
                · skip
                  omega
                · skip
                  refine lv_aload_n hx hb dX2_rowOf_55 rfl (lv_at hl 2 rfl) ?_
                  refine va_get (D := D) (ci := 2) (v := .ref c1) (C := RX2) (T := TX2) (N := 11) hx hb hts (fun _ h => (List.mem_cons_of_mem _ (List.mem_append_right _ h))) hown hK hP 0 rfl rfl 3 (by decide) (hts _ (List.mem_of_getElem? (i := 1) rfl)) (fun _ h9 => h9) rfl dX2_rowOf_56 ?_
                  refine lv_iload_n hx hb dX2_rowOf_59 rfl (lv_at hl 3 rfl) ?_
                  refine lv_iload_n hx hb dX2_rowOf_60 rfl (lv_at hl 0 rfl) ?_
                  refine lv_isub hx hb dX2_rowOf_61 ?_
                  refine lv_aload_n hx hb dX2_rowOf_62 rfl (lv_at hl 2 rfl) ?_
                  refine va_get (D := D) (ci := 2) (v := .int (nI n)) (C := RX2) (T := TX2) (N := 11) hx hb hts (fun _ h => (List.mem_cons_of_mem _ (List.mem_append_right _ h))) hown hK hP 0 rfl rfl 1 (by decide) (hts _ (List.mem_of_getElem? (i := 2) rfl)) (fun _ h9 => h9) rfl dX2_rowOf_63 ?_
                  refine lv_iadd hx hb dX2_rowOf_66 ?_
                  refine tp_i (y := (nI (k + n - r1))) (sb_ad (by omega)) ?_
                  refine lv_aload_n hx hb dX2_rowOf_67 rfl (lv_at hl 2 rfl) ?_
                  refine va_get (D := D) (ci := 2) (v := .int (nI n)) (C := RX2) (T := TX2) (N := 11) hx hb hts (fun _ h => (List.mem_cons_of_mem _ (List.mem_append_right _ h))) hown hK hP 0 rfl rfl 1 (by decide) (hts _ (List.mem_of_getElem? (i := 2) rfl)) (fun _ h9 => h9) rfl dX2_rowOf_68 ?_
                  refine an_rem hx hb (by omega) (by omega) (by omega) dX2_rowOf_71 ?_
                  refine al_i hx hb hK hP 1 0 rfl rfl (Nat.lt_of_lt_of_le (Nat.mod_lt _ (by omega)) hn) (by omega) dX2_rowOf_72 ?_
                  refine tp_i (y := (f ((k + n - r1) % n))) (hF _ (Nat.mod_lt _ (by omega))) ?_
                  refine lv_iconst (v := (-1)) hx hb dX2_rowOf_73 (by decide) ?_
                  refine lv_icmp_eq (tgt := 83) hx hb dX2_rowOf_74 (by decide) (fun c74 => ?_) (fun c74 => ?_)
                  · skip
                    have er : r1 = lb n f k := (lb_y h4 c74)
                    subst er
                    refine lv_aload_n hx hb dX2_rowOf_83 rfl (lv_at hl 2 rfl) ?_
                    refine va_get (D := D) (ci := 2) (v := .int (nI n)) (C := RX2) (T := TX2) (N := 11) hx hb hts (fun _ h => (List.mem_cons_of_mem _ (List.mem_append_right _ h))) hown hK hP 0 rfl rfl 1 (by decide) (hts _ (List.mem_of_getElem? (i := 2) rfl)) (fun _ h9 => h9) rfl dX2_rowOf_84 ?_
                    refine lv_iload_n hx hb dX2_rowOf_87 rfl (lv_at hl 0 rfl) ?_
                    refine lv_iload_n hx hb dX2_rowOf_88 rfl (lv_at hl 1 rfl) ?_
                    refine an_add hx hb dX2_rowOf_89 ?_
                    refine lv_iconst (v := nI 1) hx hb dX2_rowOf_90 (by decide) ?_
                    refine an_sub hx hb (by omega) dX2_rowOf_91 ?_
                    refine va_mmin hx hb (hml.trans hl.1.symm) hown (hts _ (List.mem_of_getElem? (i := 3) rfl)) (hts _ (List.mem_of_getElem? (i := 4) rfl)) (hts _ (List.mem_of_getElem? (i := 5) rfl)) (hts _ (List.mem_of_getElem? (i := 6) rfl)) (Nat.le_of_ble_eq_true rfl) (Nat.le_of_ble_eq_true rfl) (Nat.zero_le _) (Nat.zero_le _) dX2_rowOf_92 ?_
                    refine tp_i (y := nI (rl n f k)) (mn_rl (by omega) hn hk c7) ?_
                    exact en_i hx hb hr hlocks rfl dX2_rowOf_95
                  · skip
                    refine lv_iinc (v := (nI (r1 + 1))) (lv' := [(3, .int (nI (r1 + 1))), (2, .int (nI (lf n f k))), (0, .ref u), (1, .int (nI k))]) hx hb dX2_rowOf_77 hl (k := 0) rfl (inc1 _) (by decide) rfl (fun ls hl => ?_)
                    refine lv_goto (tgt := 47) hx hb dX2_rowOf_80 (by decide) ?_
                    exact ih (r1 + 1) (by omega) (lb_n h4 c74) _ (lv_sub hl [0, 1, 2, 3] rfl)
            exact LP47 n 0 (Nat.zero_add n) rfl _ (lv_sub hl [0, 1, 2, 3] rfl)
          · skip
            refine lv_iinc (v := (nI (l1 + 1))) (lv' := [(2, .int (nI (l1 + 1))), (0, .ref u), (1, .int (nI k))]) hx hb dX2_rowOf_39 hl (k := 0) rfl (inc1 _) (by decide) rfl (fun ls hl => ?_)
            refine lv_goto (tgt := 14) hx hb dX2_rowOf_42 (by decide) ?_
            exact ih (l1 + 1) (by omega) (lf_n h2 c36) _ (lv_sub hl [0, 1, 2] rfl)
    exact LP14 n 0 (Nat.zero_add n) rfl _ (lv_sub hl [0, 1, 2] rfl)
  · skip
    refine lv_iconst (v := nI 0) hx hb dX2_rowOf_10 (by decide) ?_
    exact en_i hx hb hr hlocks (congrArg nI (if_pos c7).symm) dX2_rowOf_11
theorem k_X2_longest : yX2_longest.cls = RX2 ∧ yX2_longest.cls ≠ "java/lang/invoke/MethodHandle" ∧ yX2_longest.cls ≠ "java/lang/invoke/VarHandle" ∧ (parseMethodDescriptor yX2_longest.desc).map (fun d => d.parameters.length) = some 0 := by decide +kernel
set_option maxHeartbeats 4000000 in
set_option maxRecDepth 100000 in
theorem m_X2_longest (l : Launch) (D : va_G) (cI : ClassId) (u c1 c2 c3 c4 : Nat) {n w : Nat} {F V f g : Nat → Int32} (S : MS n w F V f g) (O Y : Nat → Int32) (e0 e7 e8 e9 e10 : Int32) : Met l yX2_longest wsX2_longest ({ frames := 2, cells := 0, slots := 0, locals := 44 } : Room) (PR D [(cI, .int)] [.ref u] (mdw cI u c1 c2 c3 c4 e0 n w F V O Y e7 e8 e9 e10)) (vp_Si (fun r => r = nI (lr n f))) 0 0 (fun _ => False) := by
  obtain ⟨hn3, hn, hw2, hF, hV, hO⟩ := id S
  refine bd_p (cc := cX2_longest) (maxL := 3) (ret := (some .int)) (by decide) rfl (Nat.le_of_ble_eq_true rfl) ?_
  intro p e s m args below meth c ls CF hr hlocks hK hP hl
  obtain ⟨hx, hb, hml, hown, hts⟩ := id CF
  have hl : lv_has ls 3 [(0, .ref u)] := hl
  have hP : va_P D vwCl [(u, .inr (2, [.int e0, .int (nI n), .int (nI w), .ref c1, .ref c2, .ref c3, .ref c4, .int e7, .int e8, .int e9, .int e10])), (c1, .inl (cI, 40, .inl F)), (c2, .inl (cI, 40, .inl V)), (c3, .inl (cI, 40, .inl O)), (c4, .inl (cI, 40, .inl Y))] s.heap := hP
  refine lv_iconst (v := nI 0) hx hb dX2_longest_0 (by decide) ?_
  refine lv_istore_n (lv' := [(1, .int (nI 0)), (0, .ref u)]) hx hb dX2_longest_1 rfl hl (by decide) rfl (fun ls hl => ?_)
  refine lv_iconst (v := nI 0) hx hb dX2_longest_2 (by decide) ?_
  refine lv_istore_n (lv' := [(2, .int (nI 0)), (1, .int (nI 0)), (0, .ref u)]) hx hb dX2_longest_3 rfl hl (by decide) rfl (fun ls hl => ?_)
  have LP4 : ∀ (q i a : Nat), i + q = n → a ≤ n → fo (fun a i => if a < rl n f i then rl n f i else a) q i a = lr n f → ∀ (ls : Array Slot), lv_has ls 3 [(2, .int (nI i)), (1, .int (nI a)), (0, .ref u)] → W p l e ({ frames := 2, cells := 0, slots := 0, locals := 44 } : Room) s m args below meth c s.heap [] 0 0 (MQ below (vp_Si (fun r => r = nI (lr n f))) args s 0 0 (fun _ => False)) (F0 m 4 ls []) := by
    intro q
    induction q with
    | zero =>
      intro i a h1 hb9 h2 ls hl
      refine lv_iload_n hx hb dX2_longest_4 rfl (lv_at hl 0 rfl) ?_
      refine lv_aload_n hx hb dX2_longest_5 rfl (lv_at hl 2 rfl) ?_
      refine va_get (D := D) (ci := 2) (v := .int (nI n)) (C := RX2) (T := TX2) (N := 11) hx hb hts (fun _ h => (List.mem_cons_of_mem _ (List.mem_append_right _ h))) hown hK hP 0 rfl rfl 1 (by decide) (hts _ (List.mem_of_getElem? (i := 1) rfl)) (fun _ h9 => h9) rfl dX2_longest_6 ?_
      refine bn_ge (tgt := 28) hx hb dX2_longest_9 (by decide) (by omega) (by omega) (fun c9 => ?_) (fun c9 => ?_)
      · skip
        refine lv_iload_n hx hb dX2_longest_28 rfl (lv_at hl 1 rfl) ?_
        exact en_i hx hb hr hlocks (congrArg nI h2) dX2_longest_29
      · skip
        omega
    | succ q ih =>
      intro i a h1 hb9 h2 ls hl
      refine lv_iload_n hx hb dX2_longest_4 rfl (lv_at hl 0 rfl) ?_
      refine lv_aload_n hx hb dX2_longest_5 rfl (lv_at hl 2 rfl) ?_
      refine va_get (D := D) (ci := 2) (v := .int (nI n)) (C := RX2) (T := TX2) (N := 11) hx hb hts (fun _ h => (List.mem_cons_of_mem _ (List.mem_append_right _ h))) hown hK hP 0 rfl rfl 1 (by decide) (hts _ (List.mem_of_getElem? (i := 1) rfl)) (fun _ h9 => h9) rfl dX2_longest_6 ?_
      refine bn_ge (tgt := 28) hx hb dX2_longest_9 (by decide) (by omega) (by omega) (fun c9 => ?_) (fun c9 => ?_)
      · skip
        omega
      · skip
        refine lv_iload_n hx hb dX2_longest_12 rfl (lv_at hl 1 rfl) ?_
        refine lv_aload_n hx hb dX2_longest_13 rfl (lv_at hl 2 rfl) ?_
        refine lv_iload_n hx hb dX2_longest_14 rfl (lv_at hl 0 rfl) ?_
        have hrl := rl_le (show 0 < n by omega) f i
        refine pv_i CF (m_X2_rowOf l D cI u c1 c2 c3 c4 S O Y e0 e7 e8 e9 e10 i (by omega)) (cwV 1 hts gX2_longest_X2_rowOf rfl rfl rfl k_X2_rowOf ⟨Nat.le_of_ble_eq_true rfl, Nat.le_of_ble_eq_true rfl⟩) hK hP rfl rfl rfl rfl hl.1 rfl (Nat.le_of_ble_eq_true rfl) dX2_longest_15 ⟨Nat.le_of_ble_eq_true rfl, Nat.le_of_ble_eq_true rfl⟩ ?_
        refine va_mmax hx hb (hml.trans hl.1.symm) hown (hts _ (List.mem_of_getElem? (i := 2) rfl)) (hts _ (List.mem_of_getElem? (i := 3) rfl)) (hts _ (List.mem_of_getElem? (i := 4) rfl)) (hts _ (List.mem_of_getElem? (i := 5) rfl)) (Nat.le_of_ble_eq_true rfl) (Nat.le_of_ble_eq_true rfl) (Nat.zero_le _) (Nat.zero_le _) dX2_longest_18 ?_
        refine tp_i (y := nI (if a < rl n f i then rl n f i else a)) (mx_n (by omega) (by omega)) ?_
        refine lv_istore_n (lv' := [(1, .int (nI (if a < rl n f i then rl n f i else a))), (2, .int (nI i)), (0, .ref u)]) hx hb dX2_longest_21 rfl hl (by decide) rfl (fun ls hl => ?_)
        refine lv_iinc (v := (nI (i + 1))) (lv' := [(2, .int (nI (i + 1))), (1, .int (nI (if a < rl n f i then rl n f i else a))), (0, .ref u)]) hx hb dX2_longest_22 hl (k := 1) rfl (inc1 _) (by decide) rfl (fun ls hl => ?_)
        refine lv_goto (tgt := 4) hx hb dX2_longest_25 (by decide) ?_
        exact ih (i + 1) (if a < rl n f i then rl n f i else a) (by omega) (by split <;> omega) h2 _ (lv_sub hl [0, 1, 2] rfl)
  exact LP4 n 0 0 (Nat.zero_add n) (Nat.zero_le n) rfl _ (lv_sub hl [0, 1, 2] rfl)
