/-! Rack: methods that read, on -/
theorem k_X0_countLooks : yX0_countLooks.cls = RX0 ∧ yX0_countLooks.cls ≠ "java/lang/invoke/MethodHandle" ∧ yX0_countLooks.cls ≠ "java/lang/invoke/VarHandle" ∧ (parseMethodDescriptor yX0_countLooks.desc).map (fun d => d.parameters.length) = some 1 := by decide +kernel
set_option maxHeartbeats 4000000 in
set_option maxRecDepth 100000 in
theorem m_X0_countLooks (l : Launch) (D : va_G) (cI : ClassId) (h a1 a2 : Nat) {n w : Nat} {F G f g : Nat → Int32} (S : RS n w F G f g) (x : Nat) (hx9 : x ≤ 9999) : Met l yX0_countLooks wsX0_countLooks ({ frames := 1, cells := 0, slots := 0, locals := 23 } : Room) (PR D [(cI, .int)] [.ref h, .int (nI x)] (rkw cI h a1 a2 n w F G)) (vp_Si (fun r => r = nI (lk n w f x))) 0 0 (fun _ => False) := by
  obtain ⟨hn3, hn, hw2, hF, hG, hO⟩ := id S
  refine bd_p (cc := cX0_countLooks) (maxL := 4) (ret := (some .int)) (by decide) rfl (Nat.le_of_ble_eq_true rfl) ?_
  intro p e s m args below meth c ls CF hr hlocks hK hP hl
  obtain ⟨hx, hb, hml, hown, hts⟩ := id CF
  have hl : lv_has ls 4 [(0, .ref h), (1, .int (nI x))] := hl
  have hP : va_P D vwCl [(h, .inr (0, [.ref a1, .ref a2, .int (nI n), .int (nI w)])), (a1, .inl (cI, 40, .inl F)), (a2, .inl (cI, 40, .inl G))] s.heap := hP
  refine lv_iconst (v := nI 0) hx hb dX0_countLooks_0 (by decide) ?_
  refine lv_istore_n (lv' := [(2, .int (nI 0)), (0, .ref h), (1, .int (nI x))]) hx hb dX0_countLooks_1 rfl hl (by decide) rfl (fun ls hl => ?_)
  have LP2 : ∀ (q i : Nat), i + q = n → fs (sp n w f x) q i = fs (sp n w f x) n 0 → ∀ (ls : Array Slot), lv_has ls 4 [(2, .int (nI i)), (0, .ref h), (1, .int (nI x))] → W p l e ({ frames := 1, cells := 0, slots := 0, locals := 23 } : Room) s m args below meth c s.heap [] 0 0 (MQ below (vp_Si (fun r => r = nI (lk n w f x))) args s 0 0 (fun _ => False)) (F0 m 2 ls []) := by
    intro q
    induction q with
    | zero =>
      intro i h1 h2 ls hl
      refine lv_iload_n hx hb dX0_countLooks_2 rfl (lv_at hl 0 rfl) ?_
      refine lv_aload_n hx hb dX0_countLooks_3 rfl (lv_at hl 1 rfl) ?_
      refine va_get (D := D) (ci := 0) (v := .int (nI n)) (C := RX0) (T := TX0) (N := 4) hx hb hts (fun _ h => (List.mem_cons_of_mem _ (List.mem_append_right _ h))) hown hK hP 0 rfl rfl 2 (by decide) (hts _ (List.mem_of_getElem? (i := 1) rfl)) (fun _ h9 => h9) rfl dX0_countLooks_4 ?_
      refine bn_ge (tgt := 41) hx hb dX0_countLooks_7 (by decide) (by omega) (by omega) (fun c7 => ?_) (fun c7 => ?_)
      · skip
        refine lv_aload_n hx hb dX0_countLooks_41 rfl (lv_at hl 1 rfl) ?_
        refine va_get (D := D) (ci := 0) (v := .int (nI n)) (C := RX0) (T := TX0) (N := 4) hx hb hts (fun _ h => (List.mem_cons_of_mem _ (List.mem_append_right _ h))) hown hK hP 0 rfl rfl 2 (by decide) (hts _ (List.mem_of_getElem? (i := 1) rfl)) (fun _ h9 => h9) rfl dX0_countLooks_42 ?_
        exact en_i hx hb hr hlocks (congrArg nI (lk_z h2 h1)) dX0_countLooks_45
      · skip
        omega
    | succ q ih =>
      intro i h1 h2 ls hl
      refine lv_iload_n hx hb dX0_countLooks_2 rfl (lv_at hl 0 rfl) ?_
      refine lv_aload_n hx hb dX0_countLooks_3 rfl (lv_at hl 1 rfl) ?_
      refine va_get (D := D) (ci := 0) (v := .int (nI n)) (C := RX0) (T := TX0) (N := 4) hx hb hts (fun _ h => (List.mem_cons_of_mem _ (List.mem_append_right _ h))) hown hK hP 0 rfl rfl 2 (by decide) (hts _ (List.mem_of_getElem? (i := 1) rfl)) (fun _ h9 => h9) rfl dX0_countLooks_4 ?_
      refine bn_ge (tgt := 41) hx hb dX0_countLooks_7 (by decide) (by omega) (by omega) (fun c7 => ?_) (fun c7 => ?_)
      · skip
        omega
      · skip
        refine lv_aload_n hx hb dX0_countLooks_10 rfl (lv_at hl 1 rfl) ?_
        refine lv_aload_n hx hb dX0_countLooks_11 rfl (lv_at hl 1 rfl) ?_
        refine lv_iload_n hx hb dX0_countLooks_12 rfl (lv_at hl 2 rfl) ?_
        refine lv_iload_n hx hb dX0_countLooks_13 rfl (lv_at hl 0 rfl) ?_
        refine pv_i CF (m_X0_hookInStep l D cI h a1 a2 S x i hx9 (by omega)) (cwV 2 hts gX0_countLooks_X0_hookInStep rfl rfl rfl k_X0_hookInStep ⟨Nat.le_of_ble_eq_true rfl, Nat.le_of_ble_eq_true rfl⟩) hK hP rfl rfl rfl rfl hl.1 rfl (Nat.le_of_ble_eq_true rfl) dX0_countLooks_14 ⟨Nat.zero_le _, Nat.zero_le _⟩ ?_
        refine pv_i CF (m_X0_heldOn l D cI h a1 a2 S (at_ n w x i) (Nat.lt_trans (at_lt (by omega) w x i) (by omega))) (cwV 1 hts gX0_countLooks_X0_heldOn rfl rfl rfl k_X0_heldOn ⟨Nat.le_of_ble_eq_true rfl, Nat.le_of_ble_eq_true rfl⟩) hK hP rfl rfl rfl rfl hl.1 rfl (Nat.le_of_ble_eq_true rfl) dX0_countLooks_17 ⟨Nat.zero_le _, Nat.zero_le _⟩ ?_
        refine tp_i (y := (f (at_ n w x i))) (hd_in (at_lt (by omega) w x i)) ?_
        refine lv_istore_n (lv' := [(3, .int (f (at_ n w x i))), (2, .int (nI i)), (0, .ref h), (1, .int (nI x))]) hx hb dX0_countLooks_20 rfl hl (by decide) rfl (fun ls hl => ?_)
        refine lv_iload_n hx hb dX0_countLooks_21 rfl (lv_at hl 0 rfl) ?_
        refine lv_iload_n hx hb dX0_countLooks_22 rfl (lv_at hl 3 rfl) ?_
        refine lv_icmp_eq (tgt := 31) hx hb dX0_countLooks_23 (by decide) (fun c23 => ?_) (fun c23 => ?_)
        · skip
          refine lv_iload_n hx hb dX0_countLooks_31 rfl (lv_at hl 1 rfl) ?_
          refine lv_iconst (v := nI 1) hx hb dX0_countLooks_32 (by decide) ?_
          refine an_add hx hb dX0_countLooks_33 ?_
          exact en_i hx hb hr hlocks (congrArg nI (lk_y h2 (Or.inl c23) (by omega))) dX0_countLooks_34
        · skip
          refine lv_iload_n hx hb dX0_countLooks_26 rfl (lv_at hl 0 rfl) ?_
          refine lv_iconst (v := (-1)) hx hb dX0_countLooks_27 (by decide) ?_
          refine lv_icmp_ne (tgt := 35) hx hb dX0_countLooks_28 (by decide) (fun c28 => ?_) (fun c28 => ?_)
          · skip
            refine lv_iinc (v := (nI (i + 1))) (lv' := [(2, .int (nI (i + 1))), (3, .int (f (at_ n w x i))), (0, .ref h), (1, .int (nI x))]) hx hb dX0_countLooks_35 hl (k := 1) rfl (inc1 _) (by decide) rfl (fun ls hl => ?_)
            refine lv_goto (tgt := 2) hx hb dX0_countLooks_38 (by decide) ?_
            exact ih (i + 1) (by omega) (lk_n h2 c23 c28) _ (lv_sub hl [0, 2, 3] rfl)
          · skip
            refine lv_iload_n hx hb dX0_countLooks_31 rfl (lv_at hl 1 rfl) ?_
            refine lv_iconst (v := nI 1) hx hb dX0_countLooks_32 (by decide) ?_
            refine an_add hx hb dX0_countLooks_33 ?_
            exact en_i hx hb hr hlocks (congrArg nI (lk_y h2 (Or.inr c28) (by omega))) dX0_countLooks_34
  exact LP2 n 0 (Nat.zero_add n) rfl _ (lv_sub hl [0, 1, 2] rfl)
theorem k_X0_whereFound : yX0_whereFound.cls = RX0 ∧ yX0_whereFound.cls ≠ "java/lang/invoke/MethodHandle" ∧ yX0_whereFound.cls ≠ "java/lang/invoke/VarHandle" ∧ (parseMethodDescriptor yX0_whereFound.desc).map (fun d => d.parameters.length) = some 1 := by decide +kernel
set_option maxHeartbeats 4000000 in
set_option maxRecDepth 100000 in
theorem m_X0_whereFound (l : Launch) (D : va_G) (cI : ClassId) (h a1 a2 : Nat) {n w : Nat} {F G f g : Nat → Int32} (S : RS n w F G f g) (x : Nat) (hx9 : x ≤ 9999) : Met l yX0_whereFound wsX0_whereFound ({ frames := 2, cells := 0, slots := 0, locals := 46 } : Room) (PR D [(cI, .int)] [.ref h, .int (nI x)] (rkw cI h a1 a2 n w F G)) (vp_Si (fun r => r = fd n w f x)) 0 0 (fun _ => False) := by
  obtain ⟨hn3, hn, hw2, hF, hG, hO⟩ := id S
  refine bd_p (cc := cX0_whereFound) (maxL := 3) (ret := (some .int)) (by decide) rfl (Nat.le_of_ble_eq_true rfl) ?_
  intro p e s m args below meth c ls CF hr hlocks hK hP hl
  obtain ⟨hx, hb, hml, hown, hts⟩ := id CF
  have hl : lv_has ls 3 [(0, .ref h), (1, .int (nI x))] := hl
  have hP : va_P D vwCl [(h, .inr (0, [.ref a1, .ref a2, .int (nI n), .int (nI w)])), (a1, .inl (cI, 40, .inl F)), (a2, .inl (cI, 40, .inl G))] s.heap := hP
  refine lv_aload_n hx hb dX0_whereFound_0 rfl (lv_at hl 0 rfl) ?_
  refine lv_iload_n hx hb dX0_whereFound_1 rfl (lv_at hl 1 rfl) ?_
  refine lv_aload_n hx hb dX0_whereFound_2 rfl (lv_at hl 0 rfl) ?_
  refine lv_iload_n hx hb dX0_whereFound_3 rfl (lv_at hl 1 rfl) ?_
  refine pv_i CF (m_X0_countLooks l D cI h a1 a2 S x hx9) (cwV 1 hts gX0_whereFound_X0_countLooks rfl rfl rfl k_X0_countLooks ⟨Nat.le_of_ble_eq_true rfl, Nat.le_of_ble_eq_true rfl⟩) hK hP rfl rfl rfl rfl hl.1 rfl (Nat.le_of_ble_eq_true rfl) dX0_whereFound_4 ⟨Nat.zero_le _, Nat.zero_le _⟩ ?_
  refine lv_iconst (v := nI 1) hx hb dX0_whereFound_7 (by decide) ?_
  refine an_sub hx hb (lk_pos (by omega) w f x) dX0_whereFound_8 ?_
  refine pv_i CF (m_X0_hookInStep l D cI h a1 a2 S x (lk n w f x - 1) hx9 (by have := lk_le n w f x; omega)) (cwV 2 hts gX0_whereFound_X0_hookInStep rfl rfl rfl k_X0_hookInStep ⟨Nat.le_of_ble_eq_true rfl, Nat.le_of_ble_eq_true rfl⟩) hK hP rfl rfl rfl rfl hl.1 rfl (Nat.le_of_ble_eq_true rfl) dX0_whereFound_9 ⟨Nat.zero_le _, Nat.zero_le _⟩ ?_
  refine lv_istore_n (lv' := [(2, .int (nI (la n w f x))), (0, .ref h), (1, .int (nI x))]) hx hb dX0_whereFound_12 rfl hl (by decide) rfl (fun ls hl => ?_)
  refine lv_aload_n hx hb dX0_whereFound_13 rfl (lv_at hl 1 rfl) ?_
  refine lv_iload_n hx hb dX0_whereFound_14 rfl (lv_at hl 0 rfl) ?_
  refine pv_i CF (m_X0_heldOn l D cI h a1 a2 S (la n w f x) (Nat.lt_trans (at_lt (by omega) w x _) (by omega))) (cwV 1 hts gX0_whereFound_X0_heldOn rfl rfl rfl k_X0_heldOn ⟨Nat.le_of_ble_eq_true rfl, Nat.le_of_ble_eq_true rfl⟩) hK hP rfl rfl rfl rfl hl.1 rfl (Nat.le_of_ble_eq_true rfl) dX0_whereFound_15 ⟨Nat.zero_le _, Nat.zero_le _⟩ ?_
  refine tp_i (y := (f (la n w f x))) (hd_in (at_lt (by omega) w x _)) ?_
  refine lv_iload_n hx hb dX0_whereFound_18 rfl (lv_at hl 2 rfl) ?_
  refine lv_icmp_ne (tgt := 26) hx hb dX0_whereFound_19 (by decide) (fun c19 => ?_) (fun c19 => ?_)
  · skip
    refine lv_iconst (v := (-1)) hx hb dX0_whereFound_26 (by decide) ?_
    exact en_i hx hb hr hlocks ((if_neg c19).symm) dX0_whereFound_27
  · skip
    refine lv_iload_n hx hb dX0_whereFound_22 rfl (lv_at hl 0 rfl) ?_
    refine lv_goto (tgt := 27) hx hb dX0_whereFound_23 (by decide) ?_
    exact en_i hx hb hr hlocks ((if_pos c19).symm) dX0_whereFound_27
theorem k_X0_hangs : yX0_hangs.cls = RX0 ∧ yX0_hangs.cls ≠ "java/lang/invoke/MethodHandle" ∧ yX0_hangs.cls ≠ "java/lang/invoke/VarHandle" ∧ (parseMethodDescriptor yX0_hangs.desc).map (fun d => d.parameters.length) = some 1 := by decide +kernel
set_option maxHeartbeats 4000000 in
set_option maxRecDepth 100000 in
theorem m_X0_hangs (l : Launch) (D : va_G) (cI : ClassId) (h a1 a2 : Nat) {n w : Nat} {F G f g : Nat → Int32} (S : RS n w F G f g) (x : Nat) (hx9 : x ≤ 9999) : Met l yX0_hangs wsX0_hangs ({ frames := 1, cells := 0, slots := 0, locals := 21 } : Room) (PR D [(cI, .int)] [.ref h, .int (nI x)] (rkw cI h a1 a2 n w F G)) (vp_Si (fun r => r = nI (hs n f x))) 0 0 (fun _ => False) := by
  obtain ⟨hn3, hn, hw2, hF, hG, hO⟩ := id S
  refine bd_p (cc := cX0_hangs) (maxL := 3) (ret := (some .boolean)) (by decide) rfl (Nat.le_of_ble_eq_true rfl) ?_
  intro p e s m args below meth c ls CF hr hlocks hK hP hl
  obtain ⟨hx, hb, hml, hown, hts⟩ := id CF
  have hl : lv_has ls 3 [(0, .ref h), (1, .int (nI x))] := hl
  have hP : va_P D vwCl [(h, .inr (0, [.ref a1, .ref a2, .int (nI n), .int (nI w)])), (a1, .inl (cI, 40, .inl F)), (a2, .inl (cI, 40, .inl G))] s.heap := hP
  refine lv_iconst (v := nI 0) hx hb dX0_hangs_0 (by decide) ?_
  refine lv_istore_n (lv' := [(2, .int (nI 0)), (0, .ref h), (1, .int (nI x))]) hx hb dX0_hangs_1 rfl hl (by decide) rfl (fun ls hl => ?_)
  have LP2 : ∀ (q i : Nat), i + q = n → fs (fun i => decide (f i = nI x)) q i = fs (fun i => decide (f i = nI x)) n 0 → ∀ (ls : Array Slot), lv_has ls 3 [(2, .int (nI i)), (0, .ref h), (1, .int (nI x))] → W p l e ({ frames := 1, cells := 0, slots := 0, locals := 21 } : Room) s m args below meth c s.heap [] 0 0 (MQ below (vp_Si (fun r => r = nI (hs n f x))) args s 0 0 (fun _ => False)) (F0 m 2 ls []) := by
    intro q
    induction q with
    | zero =>
      intro i h1 h2 ls hl
      refine lv_iload_n hx hb dX0_hangs_2 rfl (lv_at hl 0 rfl) ?_
      refine lv_aload_n hx hb dX0_hangs_3 rfl (lv_at hl 1 rfl) ?_
      refine va_get (D := D) (ci := 0) (v := .int (nI n)) (C := RX0) (T := TX0) (N := 4) hx hb hts (fun _ h => (List.mem_cons_of_mem _ (List.mem_append_right _ h))) hown hK hP 0 rfl rfl 2 (by decide) (hts _ (List.mem_of_getElem? (i := 1) rfl)) (fun _ h9 => h9) rfl dX0_hangs_4 ?_
      refine bn_ge (tgt := 27) hx hb dX0_hangs_7 (by decide) (by omega) (by omega) (fun c7 => ?_) (fun c7 => ?_)
      · skip
        refine lv_iconst (v := nI 0) hx hb dX0_hangs_27 (by decide) ?_
        exact en_z hx hb hr hlocks (Or.inl rfl) (congrArg nI (hs_z h2 h1)) dX0_hangs_28
      · skip
        omega
    | succ q ih =>
      intro i h1 h2 ls hl
      refine lv_iload_n hx hb dX0_hangs_2 rfl (lv_at hl 0 rfl) ?_
      refine lv_aload_n hx hb dX0_hangs_3 rfl (lv_at hl 1 rfl) ?_
      refine va_get (D := D) (ci := 0) (v := .int (nI n)) (C := RX0) (T := TX0) (N := 4) hx hb hts (fun _ h => (List.mem_cons_of_mem _ (List.mem_append_right _ h))) hown hK hP 0 rfl rfl 2 (by decide) (hts _ (List.mem_of_getElem? (i := 1) rfl)) (fun _ h9 => h9) rfl dX0_hangs_4 ?_
      refine bn_ge (tgt := 27) hx hb dX0_hangs_7 (by decide) (by omega) (by omega) (fun c7 => ?_) (fun c7 => ?_)
      · skip
        omega
      · skip
        refine lv_aload_n hx hb dX0_hangs_10 rfl (lv_at hl 1 rfl) ?_
        refine lv_iload_n hx hb dX0_hangs_11 rfl (lv_at hl 0 rfl) ?_
        refine pv_i CF (m_X0_heldOn l D cI h a1 a2 S i (by omega)) (cwV 1 hts gX0_hangs_X0_heldOn rfl rfl rfl k_X0_heldOn ⟨Nat.le_of_ble_eq_true rfl, Nat.le_of_ble_eq_true rfl⟩) hK hP rfl rfl rfl rfl hl.1 rfl (Nat.le_of_ble_eq_true rfl) dX0_hangs_12 ⟨Nat.zero_le _, Nat.zero_le _⟩ ?_
        refine tp_i (y := (f i)) (hd_in (by omega)) ?_
        refine lv_iload_n hx hb dX0_hangs_15 rfl (lv_at hl 2 rfl) ?_
        refine lv_icmp_ne (tgt := 21) hx hb dX0_hangs_16 (by decide) (fun c16 => ?_) (fun c16 => ?_)
        · skip
          refine lv_iinc (v := (nI (i + 1))) (lv' := [(2, .int (nI (i + 1))), (0, .ref h), (1, .int (nI x))]) hx hb dX0_hangs_21 hl (k := 0) rfl (inc1 _) (by decide) rfl (fun ls hl => ?_)
          refine lv_goto (tgt := 2) hx hb dX0_hangs_24 (by decide) ?_
          exact ih (i + 1) (by omega) (hs_n h2 c16) _ (lv_sub hl [0, 1, 2] rfl)
        · skip
          refine lv_iconst (v := nI 1) hx hb dX0_hangs_19 (by decide) ?_
          exact en_z hx hb hr hlocks (Or.inr rfl) (congrArg nI (hs_y h2 c16 (by omega))) dX0_hangs_20
  exact LP2 n 0 (Nat.zero_add n) rfl _ (lv_sub hl [0, 1, 2] rfl)
theorem k_X0_openHook : yX0_openHook.cls = RX0 ∧ yX0_openHook.cls ≠ "java/lang/invoke/MethodHandle" ∧ yX0_openHook.cls ≠ "java/lang/invoke/VarHandle" ∧ (parseMethodDescriptor yX0_openHook.desc).map (fun d => d.parameters.length) = some 1 := by decide +kernel
set_option maxHeartbeats 4000000 in
set_option maxRecDepth 100000 in
theorem m_X0_openHook (l : Launch) (D : va_G) (cI : ClassId) (h a1 a2 : Nat) {n w : Nat} {F G f g : Nat → Int32} (S : RS n w F G f g) (x : Nat) (hx9 : x ≤ 9999) : Met l yX0_openHook wsX0_openHook ({ frames := 2, cells := 0, slots := 0, locals := 46 } : Room) (PR D [(cI, .int)] [.ref h, .int (nI x)] (rkw cI h a1 a2 n w F G)) (vp_Si (fun r => r = op n w f x)) 0 0 (fun _ => False) := by
  obtain ⟨hn3, hn, hw2, hF, hG, hO⟩ := id S
  refine bd_p (cc := cX0_openHook) (maxL := 5) (ret := (some .int)) (by decide) rfl (Nat.le_of_ble_eq_true rfl) ?_
  intro p e s m args below meth c ls CF hr hlocks hK hP hl
  obtain ⟨hx, hb, hml, hown, hts⟩ := id CF
  have hl : lv_has ls 5 [(0, .ref h), (1, .int (nI x))] := hl
  have hP : va_P D vwCl [(h, .inr (0, [.ref a1, .ref a2, .int (nI n), .int (nI w)])), (a1, .inl (cI, 40, .inl F)), (a2, .inl (cI, 40, .inl G))] s.heap := hP
  have hlk := lk_le n w f x
  refine lv_aload_n hx hb dX0_openHook_0 rfl (lv_at hl 0 rfl) ?_
  refine lv_iload_n hx hb dX0_openHook_1 rfl (lv_at hl 1 rfl) ?_
  refine pv_i CF (m_X0_countLooks l D cI h a1 a2 S x hx9) (cwV 1 hts gX0_openHook_X0_countLooks rfl rfl rfl k_X0_countLooks ⟨Nat.le_of_ble_eq_true rfl, Nat.le_of_ble_eq_true rfl⟩) hK hP rfl rfl rfl rfl hl.1 rfl (Nat.le_of_ble_eq_true rfl) dX0_openHook_2 ⟨Nat.zero_le _, Nat.zero_le _⟩ ?_
  refine lv_istore_n (lv' := [(2, .int (nI (lk n w f x))), (0, .ref h), (1, .int (nI x))]) hx hb dX0_openHook_5 rfl hl (by decide) rfl (fun ls hl => ?_)
  refine lv_iconst (v := nI 0) hx hb dX0_openHook_6 (by decide) ?_
  refine lv_istore_n (lv' := [(3, .int (nI 0)), (2, .int (nI (lk n w f x))), (0, .ref h), (1, .int (nI x))]) hx hb dX0_openHook_7 rfl hl (by decide) rfl (fun ls hl => ?_)
  have LP8 : ∀ (q i : Nat), i + q = lk n w f x → tk n w f x i = -1 → ∀ (ls : Array Slot), lv_has ls 5 [(3, .int (nI i)), (2, .int (nI (lk n w f x))), (0, .ref h), (1, .int (nI x))] → W p l e ({ frames := 2, cells := 0, slots := 0, locals := 46 } : Room) s m args below meth c s.heap [] 0 0 (MQ below (vp_Si (fun r => r = op n w f x)) args s 0 0 (fun _ => False)) (F0 m 8 ls []) := by
    intro q
    induction q with
    | zero =>
      intro i h1 h2 ls hl
      refine lv_iload_n hx hb dX0_openHook_8 rfl (lv_at hl 0 rfl) ?_
      refine lv_iload_n hx hb dX0_openHook_9 rfl (lv_at hl 1 rfl) ?_
      refine bn_ge (tgt := 41) hx hb dX0_openHook_10 (by decide) (by omega) (by omega) (fun c10 => ?_) (fun c10 => ?_)
      · skip
        refine lv_aload_n hx hb dX0_openHook_41 rfl (lv_at hl 2 rfl) ?_
        refine lv_iload_n hx hb dX0_openHook_42 rfl (lv_at hl 3 rfl) ?_
        refine lv_iload_n hx hb dX0_openHook_43 rfl (lv_at hl 1 rfl) ?_
        refine lv_iconst (v := nI 1) hx hb dX0_openHook_44 (by decide) ?_
        refine an_sub hx hb (lk_pos (by omega) w f x) dX0_openHook_45 ?_
        refine pv_i CF (m_X0_hookInStep l D cI h a1 a2 S x (lk n w f x - 1) hx9 (by omega)) (cwV 2 hts gX0_openHook_X0_hookInStep rfl rfl rfl k_X0_hookInStep ⟨Nat.le_of_ble_eq_true rfl, Nat.le_of_ble_eq_true rfl⟩) hK hP rfl rfl rfl rfl hl.1 rfl (Nat.le_of_ble_eq_true rfl) dX0_openHook_46 ⟨Nat.zero_le _, Nat.zero_le _⟩ ?_
        refine lv_istore_n (lv' := [(3, .int (nI (la n w f x))), (2, .int (nI (lk n w f x))), (0, .ref h), (1, .int (nI x))]) hx hb dX0_openHook_49 rfl hl (by decide) rfl (fun ls hl => ?_)
        refine lv_aload_n hx hb dX0_openHook_50 rfl (lv_at hl 2 rfl) ?_
        refine lv_iload_n hx hb dX0_openHook_51 rfl (lv_at hl 0 rfl) ?_
        refine pv_i CF (m_X0_heldOn l D cI h a1 a2 S (la n w f x) (Nat.lt_trans (at_lt (by omega) w x _) (by omega))) (cwV 1 hts gX0_openHook_X0_heldOn rfl rfl rfl k_X0_heldOn ⟨Nat.le_of_ble_eq_true rfl, Nat.le_of_ble_eq_true rfl⟩) hK hP rfl rfl rfl rfl hl.1 rfl (Nat.le_of_ble_eq_true rfl) dX0_openHook_52 ⟨Nat.zero_le _, Nat.zero_le _⟩ ?_
        refine tp_i (y := (f (la n w f x))) (hd_in (at_lt (by omega) w x _)) ?_
        refine lv_iconst (v := (-1)) hx hb dX0_openHook_55 (by decide) ?_
        refine lv_icmp_ne (tgt := 63) hx hb dX0_openHook_56 (by decide) (fun c56 => ?_) (fun c56 => ?_)
        · skip
          refine lv_iconst (v := (-1)) hx hb dX0_openHook_63 (by decide) ?_
          exact en_i hx hb hr hlocks (((op_f h2 h1).trans (if_neg c56)).symm) dX0_openHook_64
        · skip
          refine lv_iload_n hx hb dX0_openHook_59 rfl (lv_at hl 0 rfl) ?_
          refine lv_goto (tgt := 64) hx hb dX0_openHook_60 (by decide) ?_
          exact en_i hx hb hr hlocks (((op_f h2 h1).trans (if_pos c56)).symm) dX0_openHook_64
      · skip
        omega
    | succ q ih =>
      intro i h1 h2 ls hl
      refine lv_iload_n hx hb dX0_openHook_8 rfl (lv_at hl 0 rfl) ?_
      refine lv_iload_n hx hb dX0_openHook_9 rfl (lv_at hl 1 rfl) ?_
      refine bn_ge (tgt := 41) hx hb dX0_openHook_10 (by decide) (by omega) (by omega) (fun c10 => ?_) (fun c10 => ?_)
      · skip
        omega
      · skip
        refine lv_aload_n hx hb dX0_openHook_13 rfl (lv_at hl 2 rfl) ?_
        refine lv_iload_n hx hb dX0_openHook_14 rfl (lv_at hl 3 rfl) ?_
        refine lv_iload_n hx hb dX0_openHook_15 rfl (lv_at hl 0 rfl) ?_
        refine pv_i CF (m_X0_hookInStep l D cI h a1 a2 S x i hx9 (by omega)) (cwV 2 hts gX0_openHook_X0_hookInStep rfl rfl rfl k_X0_hookInStep ⟨Nat.le_of_ble_eq_true rfl, Nat.le_of_ble_eq_true rfl⟩) hK hP rfl rfl rfl rfl hl.1 rfl (Nat.le_of_ble_eq_true rfl) dX0_openHook_16 ⟨Nat.zero_le _, Nat.zero_le _⟩ ?_
        refine lv_istore (lv' := [(4, .int (nI (at_ n w x i))), (3, .int (nI i)), (2, .int (nI (lk n w f x))), (0, .ref h), (1, .int (nI x))]) hx hb dX0_openHook_19 hl (by decide) rfl (fun ls hl => ?_)
        refine lv_aload_n hx hb dX0_openHook_21 rfl (lv_at hl 3 rfl) ?_
        refine lv_iload hx hb dX0_openHook_22 (lv_at hl 0 rfl) ?_
        refine pv_i CF (m_X0_heldOn l D cI h a1 a2 S (at_ n w x i) (Nat.lt_trans (at_lt (by omega) w x i) (by omega))) (cwV 1 hts gX0_openHook_X0_heldOn rfl rfl rfl k_X0_heldOn ⟨Nat.le_of_ble_eq_true rfl, Nat.le_of_ble_eq_true rfl⟩) hK hP rfl rfl rfl rfl hl.1 rfl (Nat.le_of_ble_eq_true rfl) dX0_openHook_24 ⟨Nat.zero_le _, Nat.zero_le _⟩ ?_
        refine tp_i (y := (f (at_ n w x i))) (hd_in (at_lt (by omega) w x i)) ?_
        refine lv_bipush (v := (-2)) hx hb dX0_openHook_27 (by decide) ?_
        refine lv_icmp_ne (tgt := 35) hx hb dX0_openHook_29 (by decide) (fun c29 => ?_) (fun c29 => ?_)
        · skip
          refine lv_iinc (v := (nI (i + 1))) (lv' := [(3, .int (nI (i + 1))), (4, .int (nI (at_ n w x i))), (2, .int (nI (lk n w f x))), (0, .ref h), (1, .int (nI x))]) hx hb dX0_openHook_35 hl (k := 1) rfl (inc1 _) (by decide) rfl (fun ls hl => ?_)
          refine lv_goto (tgt := 8) hx hb dX0_openHook_38 (by decide) ?_
          exact ih (i + 1) (by omega) (tk_no h2 c29) _ (lv_sub hl [0, 2, 3, 4] rfl)
        · skip
          refine lv_iload hx hb dX0_openHook_32 (lv_at hl 0 rfl) ?_
          exact en_i hx hb hr hlocks (op_t (by omega) hn h2 c29 (by omega)) dX0_openHook_34
  exact LP8 (lk n w f x) 0 (Nat.zero_add _) rfl _ (lv_sub hl [0, 1, 2, 3] rfl)
theorem k_X0_placeOf : yX0_placeOf.cls = RX0 ∧ yX0_placeOf.cls ≠ "java/lang/invoke/MethodHandle" ∧ yX0_placeOf.cls ≠ "java/lang/invoke/VarHandle" ∧ (parseMethodDescriptor yX0_placeOf.desc).map (fun d => d.parameters.length) = some 1 := by decide +kernel
set_option maxHeartbeats 4000000 in
set_option maxRecDepth 100000 in
theorem m_X0_placeOf (l : Launch) (D : va_G) (cI : ClassId) (h a1 a2 : Nat) {n w : Nat} {F G f g : Nat → Int32} (S : RS n w F G f g) (x : Nat) (hx9 : x ≤ 9999) : Met l yX0_placeOf wsX0_placeOf ({ frames := 3, cells := 0, slots := 0, locals := 70 } : Room) (PR D [(cI, .int)] [.ref h, .int (nI x)] (rkw cI h a1 a2 n w F G)) (vp_Si (fun r => r = pl n w f x)) 0 0 (fun _ => False) := by
  obtain ⟨hn3, hn, hw2, hF, hG, hO⟩ := id S
  refine bd_p (cc := cX0_placeOf) (maxL := 2) (ret := (some .int)) (by decide) rfl (Nat.le_of_ble_eq_true rfl) ?_
  intro p e s m args below meth c ls CF hr hlocks hK hP hl
  obtain ⟨hx, hb, hml, hown, hts⟩ := id CF
  have hl : lv_has ls 2 [(0, .ref h), (1, .int (nI x))] := hl
  have hP : va_P D vwCl [(h, .inr (0, [.ref a1, .ref a2, .int (nI n), .int (nI w)])), (a1, .inl (cI, 40, .inl F)), (a2, .inl (cI, 40, .inl G))] s.heap := hP
  refine lv_aload_n hx hb dX0_placeOf_0 rfl (lv_at hl 0 rfl) ?_
  refine lv_iload_n hx hb dX0_placeOf_1 rfl (lv_at hl 1 rfl) ?_
  refine pv_i CF (m_X0_hangs l D cI h a1 a2 S x hx9) (cwV 1 hts gX0_placeOf_X0_hangs rfl rfl rfl k_X0_hangs ⟨Nat.le_of_ble_eq_true rfl, Nat.le_of_ble_eq_true rfl⟩) hK hP rfl rfl rfl rfl hl.1 rfl (Nat.le_of_ble_eq_true rfl) dX0_placeOf_2 ⟨Nat.zero_le _, Nat.zero_le _⟩ ?_
  refine bz_eq (tgt := 12) hx hb dX0_placeOf_5 (by decide) (hs_lt n f x) (fun c5 => ?_) (fun c5 => ?_)
  · skip
    refine lv_aload_n hx hb dX0_placeOf_12 rfl (lv_at hl 0 rfl) ?_
    refine lv_iload_n hx hb dX0_placeOf_13 rfl (lv_at hl 1 rfl) ?_
    refine pv_i CF (m_X0_openHook l D cI h a1 a2 S x hx9) (cwV 1 hts gX0_placeOf_X0_openHook rfl rfl rfl k_X0_openHook ⟨Nat.le_of_ble_eq_true rfl, Nat.le_of_ble_eq_true rfl⟩) hK hP rfl rfl rfl rfl hl.1 rfl (Nat.le_of_ble_eq_true rfl) dX0_placeOf_14 ⟨Nat.zero_le _, Nat.zero_le _⟩ ?_
    exact en_i hx hb hr hlocks ((if_pos c5).symm) dX0_placeOf_17
  · skip
    refine lv_iconst (v := (-1)) hx hb dX0_placeOf_8 (by decide) ?_
    refine lv_goto (tgt := 17) hx hb dX0_placeOf_9 (by decide) ?_
    exact en_i hx hb hr hlocks ((if_neg c5).symm) dX0_placeOf_17
theorem k_X0_looksForAll : yX0_looksForAll.cls = RX0 ∧ yX0_looksForAll.cls ≠ "java/lang/invoke/MethodHandle" ∧ yX0_looksForAll.cls ≠ "java/lang/invoke/VarHandle" ∧ (parseMethodDescriptor yX0_looksForAll.desc).map (fun d => d.parameters.length) = some 0 := by decide +kernel
set_option maxHeartbeats 4000000 in
set_option maxRecDepth 100000 in
theorem m_X0_looksForAll (l : Launch) (D : va_G) (cI : ClassId) (h a1 a2 : Nat) {n w : Nat} {F G f g : Nat → Int32} (S : RS n w F G f g) : Met l yX0_looksForAll wsX0_looksForAll ({ frames := 2, cells := 0, slots := 0, locals := 46 } : Room) (PR D [(cI, .int)] [.ref h] (rkw cI h a1 a2 n w F G)) (vp_Si (fun r => r = nI (sm n w f))) 0 0 (fun _ => False) := by
  obtain ⟨hn3, hn, hw2, hF, hG, hO⟩ := id S
  refine bd_p (cc := cX0_looksForAll) (maxL := 4) (ret := (some .int)) (by decide) rfl (Nat.le_of_ble_eq_true rfl) ?_
  intro p e s m args below meth c ls CF hr hlocks hK hP hl
  obtain ⟨hx, hb, hml, hown, hts⟩ := id CF
  have hl : lv_has ls 4 [(0, .ref h)] := hl
  have hP : va_P D vwCl [(h, .inr (0, [.ref a1, .ref a2, .int (nI n), .int (nI w)])), (a1, .inl (cI, 40, .inl F)), (a2, .inl (cI, 40, .inl G))] s.heap := hP
  refine lv_iconst (v := nI 0) hx hb dX0_looksForAll_0 (by decide) ?_
  refine lv_istore_n (lv' := [(1, .int (nI 0)), (0, .ref h)]) hx hb dX0_looksForAll_1 rfl hl (by decide) rfl (fun ls hl => ?_)
  refine lv_iconst (v := nI 0) hx hb dX0_looksForAll_2 (by decide) ?_
  refine lv_istore_n (lv' := [(2, .int (nI 0)), (1, .int (nI 0)), (0, .ref h)]) hx hb dX0_looksForAll_3 rfl hl (by decide) rfl (fun ls hl => ?_)
  have LP4 : ∀ (q i a : Nat), i + q = n → fo (fun a i => a + lx n w f i) q i a = sm n w f → ∀ (ls : Array Slot), lv_has ls 4 [(2, .int (nI i)), (1, .int (nI a)), (0, .ref h)] → W p l e ({ frames := 2, cells := 0, slots := 0, locals := 46 } : Room) s m args below meth c s.heap [] 0 0 (MQ below (vp_Si (fun r => r = nI (sm n w f))) args s 0 0 (fun _ => False)) (F0 m 4 ls []) := by
    intro q
    induction q with
    | zero =>
      intro i a h1 h2 ls hl
      refine lv_iload_n hx hb dX0_looksForAll_4 rfl (lv_at hl 0 rfl) ?_
      refine lv_aload_n hx hb dX0_looksForAll_5 rfl (lv_at hl 2 rfl) ?_
      refine va_get (D := D) (ci := 0) (v := .int (nI n)) (C := RX0) (T := TX0) (N := 4) hx hb hts (fun _ h => (List.mem_cons_of_mem _ (List.mem_append_right _ h))) hown hK hP 0 rfl rfl 2 (by decide) (hts _ (List.mem_of_getElem? (i := 1) rfl)) (fun _ h9 => h9) rfl dX0_looksForAll_6 ?_
      refine bn_ge (tgt := 36) hx hb dX0_looksForAll_9 (by decide) (by omega) (by omega) (fun c9 => ?_) (fun c9 => ?_)
      · skip
        refine lv_iload_n hx hb dX0_looksForAll_36 rfl (lv_at hl 1 rfl) ?_
        exact en_i hx hb hr hlocks (congrArg nI h2) dX0_looksForAll_37
      · skip
        omega
    | succ q ih =>
      intro i a h1 h2 ls hl
      refine lv_iload_n hx hb dX0_looksForAll_4 rfl (lv_at hl 0 rfl) ?_
      refine lv_aload_n hx hb dX0_looksForAll_5 rfl (lv_at hl 2 rfl) ?_
      refine va_get (D := D) (ci := 0) (v := .int (nI n)) (C := RX0) (T := TX0) (N := 4) hx hb hts (fun _ h => (List.mem_cons_of_mem _ (List.mem_append_right _ h))) hown hK hP 0 rfl rfl 2 (by decide) (hts _ (List.mem_of_getElem? (i := 1) rfl)) (fun _ h9 => h9) rfl dX0_looksForAll_6 ?_
      refine bn_ge (tgt := 36) hx hb dX0_looksForAll_9 (by decide) (by omega) (by omega) (fun c9 => ?_) (fun c9 => ?_)
      · skip
        omega
      · skip
        refine lv_aload_n hx hb dX0_looksForAll_12 rfl (lv_at hl 2 rfl) ?_
        refine lv_iload_n hx hb dX0_looksForAll_13 rfl (lv_at hl 0 rfl) ?_
        refine pv_i CF (m_X0_heldOn l D cI h a1 a2 S i (by omega)) (cwV 1 hts gX0_looksForAll_X0_heldOn rfl rfl rfl k_X0_heldOn ⟨Nat.le_of_ble_eq_true rfl, Nat.le_of_ble_eq_true rfl⟩) hK hP rfl rfl rfl rfl hl.1 rfl (Nat.le_of_ble_eq_true rfl) dX0_looksForAll_14 ⟨Nat.zero_le _, Nat.zero_le _⟩ ?_
        refine tp_i (y := (f i)) (hd_in (by omega)) ?_
        refine lv_istore_n (lv' := [(3, .int (f i)), (2, .int (nI i)), (1, .int (nI a)), (0, .ref h)]) hx hb dX0_looksForAll_17 rfl hl (by decide) rfl (fun ls hl => ?_)
        refine lv_iload_n hx hb dX0_looksForAll_18 rfl (lv_at hl 0 rfl) ?_
        refine lv_if_lt (tgt := 30) hx hb dX0_looksForAll_19 (by decide) (fun c19 => ?_) (fun c19 => ?_)
        · skip
          refine lv_iinc (v := (nI (i + 1))) (lv' := [(2, .int (nI (i + 1))), (3, .int (f i)), (1, .int (nI a)), (0, .ref h)]) hx hb dX0_looksForAll_30 hl (k := 1) rfl (inc1 _) (by decide) rfl (fun ls hl => ?_)
          refine lv_goto (tgt := 4) hx hb dX0_looksForAll_33 (by decide) ?_
          exact ih (i + 1) a (by omega) (by rw [fo_s, lx_0 (fun z => not_lt0 z c19)] at h2; exact h2) _ (lv_sub hl [0, 2, 3] rfl)
        · skip
          refine lv_iload_n hx hb dX0_looksForAll_22 rfl (lv_at hl 2 rfl) ?_
          refine lv_aload_n hx hb dX0_looksForAll_23 rfl (lv_at hl 3 rfl) ?_
          refine lv_iload_n hx hb dX0_looksForAll_24 rfl (lv_at hl 0 rfl) ?_
          obtain ⟨x, hx9, ex, ez⟩ := hO.num (k := i) (by omega) (ge0 c19)
          refine tp_i (y := nI x) ex ?_
          refine pv_i CF (m_X0_countLooks l D cI h a1 a2 S x hx9) (cwV 1 hts gX0_looksForAll_X0_countLooks rfl rfl rfl k_X0_countLooks ⟨Nat.le_of_ble_eq_true rfl, Nat.le_of_ble_eq_true rfl⟩) hK hP rfl rfl rfl rfl hl.1 rfl (Nat.le_of_ble_eq_true rfl) dX0_looksForAll_25 ⟨Nat.zero_le _, Nat.zero_le _⟩ ?_
          refine an_add hx hb dX0_looksForAll_28 ?_
          refine lv_istore_n (lv' := [(1, .int (nI (a + (lk n w f x)))), (3, .int (f i)), (2, .int (nI i)), (0, .ref h)]) hx hb dX0_looksForAll_29 rfl hl (by decide) rfl (fun ls hl => ?_)
          refine lv_iinc (v := (nI (i + 1))) (lv' := [(2, .int (nI (i + 1))), (1, .int (nI (a + (lk n w f x)))), (3, .int (f i)), (0, .ref h)]) hx hb dX0_looksForAll_30 hl (k := 2) rfl (inc1 _) (by decide) rfl (fun ls hl => ?_)
          refine lv_goto (tgt := 4) hx hb dX0_looksForAll_33 (by decide) ?_
          exact ih (i + 1) (a + lk n w f x) (by omega) (by rw [fo_s, lx_p (ge0 c19) ez] at h2; exact h2) _ (lv_sub hl [0, 1, 3] rfl)
  exact LP4 n 0 0 (Nat.zero_add n) rfl _ (lv_sub hl [0, 1, 2] rfl)
theorem k_X0_coatWithMostLooks : yX0_coatWithMostLooks.cls = RX0 ∧ yX0_coatWithMostLooks.cls ≠ "java/lang/invoke/MethodHandle" ∧ yX0_coatWithMostLooks.cls ≠ "java/lang/invoke/VarHandle" ∧ (parseMethodDescriptor yX0_coatWithMostLooks.desc).map (fun d => d.parameters.length) = some 0 := by decide +kernel
set_option maxHeartbeats 4000000 in
set_option maxRecDepth 100000 in
theorem m_X0_coatWithMostLooks (l : Launch) (D : va_G) (cI : ClassId) (h a1 a2 : Nat) {n w : Nat} {F G f g : Nat → Int32} (S : RS n w F G f g) : Met l yX0_coatWithMostLooks wsX0_coatWithMostLooks ({ frames := 2, cells := 0, slots := 0, locals := 46 } : Room) (PR D [(cI, .int)] [.ref h] (rkw cI h a1 a2 n w F G)) (vp_Si (fun r => r = (fa n w f).1)) 0 0 (fun _ => False) := by
  obtain ⟨hn3, hn, hw2, hF, hG, hO⟩ := id S
  refine bd_p (cc := cX0_coatWithMostLooks) (maxL := 6) (ret := (some .int)) (by decide) rfl (Nat.le_of_ble_eq_true rfl) ?_
  intro p e s m args below meth c ls CF hr hlocks hK hP hl
  obtain ⟨hx, hb, hml, hown, hts⟩ := id CF
  have hl : lv_has ls 6 [(0, .ref h)] := hl
  have hP : va_P D vwCl [(h, .inr (0, [.ref a1, .ref a2, .int (nI n), .int (nI w)])), (a1, .inl (cI, 40, .inl F)), (a2, .inl (cI, 40, .inl G))] s.heap := hP
  refine lv_iconst (v := (-1)) hx hb dX0_coatWithMostLooks_0 (by decide) ?_
  refine lv_istore_n (lv' := [(1, .int (-1)), (0, .ref h)]) hx hb dX0_coatWithMostLooks_1 rfl hl (by decide) rfl (fun ls hl => ?_)
  refine lv_iconst (v := nI 0) hx hb dX0_coatWithMostLooks_2 (by decide) ?_
  refine lv_istore_n (lv' := [(2, .int (nI 0)), (1, .int (-1)), (0, .ref h)]) hx hb dX0_coatWithMostLooks_3 rfl hl (by decide) rfl (fun ls hl => ?_)
  refine lv_iconst (v := nI 0) hx hb dX0_coatWithMostLooks_4 (by decide) ?_
  refine lv_istore_n (lv' := [(3, .int (nI 0)), (2, .int (nI 0)), (1, .int (-1)), (0, .ref h)]) hx hb dX0_coatWithMostLooks_5 rfl hl (by decide) rfl (fun ls hl => ?_)
  have LP6 : ∀ (q i : Nat) (a : Int32) (b : Nat), i + q = n → b ≤ 40 → fo (fun (a : Int32 × Nat) i => if a.2 < lx n w f i then (f i, lx n w f i) else a) q i (a, b) = fa n w f → ∀ (ls : Array Slot), lv_has ls 6 [(3, .int (nI i)), (2, .int (nI b)), (1, .int a), (0, .ref h)] → W p l e ({ frames := 2, cells := 0, slots := 0, locals := 46 } : Room) s m args below meth c s.heap [] 0 0 (MQ below (vp_Si (fun r => r = (fa n w f).1)) args s 0 0 (fun _ => False)) (F0 m 6 ls []) := by
    intro q
    induction q with
    | zero =>
      intro i a b h1 hb9 h2 ls hl
      refine lv_iload_n hx hb dX0_coatWithMostLooks_6 rfl (lv_at hl 0 rfl) ?_
      refine lv_aload_n hx hb dX0_coatWithMostLooks_7 rfl (lv_at hl 3 rfl) ?_
      refine va_get (D := D) (ci := 0) (v := .int (nI n)) (C := RX0) (T := TX0) (N := 4) hx hb hts (fun _ h => (List.mem_cons_of_mem _ (List.mem_append_right _ h))) hown hK hP 0 rfl rfl 2 (by decide) (hts _ (List.mem_of_getElem? (i := 1) rfl)) (fun _ h9 => h9) rfl dX0_coatWithMostLooks_8 ?_
      refine bn_ge (tgt := 56) hx hb dX0_coatWithMostLooks_11 (by decide) (by omega) (by omega) (fun c11 => ?_) (fun c11 => ?_)
      · skip
        refine lv_iload_n hx hb dX0_coatWithMostLooks_56 rfl (lv_at hl 2 rfl) ?_
        exact en_i hx hb hr hlocks (congrArg Prod.fst h2 : _) dX0_coatWithMostLooks_57
      · skip
        omega
    | succ q ih =>
      intro i a b h1 hb9 h2 ls hl
      refine lv_iload_n hx hb dX0_coatWithMostLooks_6 rfl (lv_at hl 0 rfl) ?_
      refine lv_aload_n hx hb dX0_coatWithMostLooks_7 rfl (lv_at hl 3 rfl) ?_
      refine va_get (D := D) (ci := 0) (v := .int (nI n)) (C := RX0) (T := TX0) (N := 4) hx hb hts (fun _ h => (List.mem_cons_of_mem _ (List.mem_append_right _ h))) hown hK hP 0 rfl rfl 2 (by decide) (hts _ (List.mem_of_getElem? (i := 1) rfl)) (fun _ h9 => h9) rfl dX0_coatWithMostLooks_8 ?_
      refine bn_ge (tgt := 56) hx hb dX0_coatWithMostLooks_11 (by decide) (by omega) (by omega) (fun c11 => ?_) (fun c11 => ?_)
      · skip
        omega
      · skip
        refine lv_aload_n hx hb dX0_coatWithMostLooks_14 rfl (lv_at hl 3 rfl) ?_
        refine lv_iload_n hx hb dX0_coatWithMostLooks_15 rfl (lv_at hl 0 rfl) ?_
        refine pv_i CF (m_X0_heldOn l D cI h a1 a2 S i (by omega)) (cwV 1 hts gX0_coatWithMostLooks_X0_heldOn rfl rfl rfl k_X0_heldOn ⟨Nat.le_of_ble_eq_true rfl, Nat.le_of_ble_eq_true rfl⟩) hK hP rfl rfl rfl rfl hl.1 rfl (Nat.le_of_ble_eq_true rfl) dX0_coatWithMostLooks_16 ⟨Nat.zero_le _, Nat.zero_le _⟩ ?_
        refine tp_i (y := (f i)) (hd_in (by omega)) ?_
        refine lv_istore (lv' := [(4, .int (f i)), (3, .int (nI i)), (2, .int (nI b)), (1, .int a), (0, .ref h)]) hx hb dX0_coatWithMostLooks_19 hl (by decide) rfl (fun ls hl => ?_)
        refine lv_iload hx hb dX0_coatWithMostLooks_21 (lv_at hl 0 rfl) ?_
        refine lv_if_lt (tgt := 35) hx hb dX0_coatWithMostLooks_23 (by decide) (fun c23 => ?_) (fun c23 => ?_)
        · skip
          refine lv_iconst (v := nI 0) hx hb dX0_coatWithMostLooks_35 (by decide) ?_
          have HL : lx n w f i = 0 := lx_0 (fun z => not_lt0 z c23)
          have HLb : 0 ≤ 40 := by rw [← HL]; exact Nat.le_trans (lx_le n w f i) hn
          refine lv_istore (lv' := [(5, .int (nI 0)), (4, .int (f i)), (3, .int (nI i)), (2, .int (nI b)), (1, .int a), (0, .ref h)]) hx hb dX0_coatWithMostLooks_36 hl (by decide) rfl (fun ls hl => ?_)
          refine lv_iload hx hb dX0_coatWithMostLooks_38 (lv_at hl 0 rfl) ?_
          refine lv_iload_n hx hb dX0_coatWithMostLooks_40 rfl (lv_at hl 3 rfl) ?_
          refine bn_le (tgt := 50) hx hb dX0_coatWithMostLooks_41 (by decide) (by omega) (by omega) (fun c41 => ?_) (fun c41 => ?_)
          · skip
            refine lv_iinc (v := (nI (i + 1))) (lv' := [(3, .int (nI (i + 1))), (5, .int (nI 0)), (4, .int (f i)), (2, .int (nI b)), (1, .int a), (0, .ref h)]) hx hb dX0_coatWithMostLooks_50 hl (k := 2) rfl (inc1 _) (by decide) rfl (fun ls hl => ?_)
            refine lv_goto (tgt := 6) hx hb dX0_coatWithMostLooks_53 (by decide) ?_
            exact ih (i + 1) a b (by omega) hb9 (by rw [fo_s, if_neg (by rw [HL]; omega)] at h2; exact h2) _ (lv_sub hl [0, 3, 4, 5] rfl)
          · skip
            refine lv_iload hx hb dX0_coatWithMostLooks_44 (lv_at hl 1 rfl) ?_
            refine lv_istore_n (lv' := [(1, .int (f i)), (5, .int (nI 0)), (4, .int (f i)), (3, .int (nI i)), (2, .int (nI b)), (0, .ref h)]) hx hb dX0_coatWithMostLooks_46 rfl hl (by decide) rfl (fun ls hl => ?_)
            refine lv_iload hx hb dX0_coatWithMostLooks_47 (lv_at hl 1 rfl) ?_
            refine lv_istore_n (lv' := [(2, .int (nI 0)), (1, .int (f i)), (5, .int (nI 0)), (4, .int (f i)), (3, .int (nI i)), (0, .ref h)]) hx hb dX0_coatWithMostLooks_49 rfl hl (by decide) rfl (fun ls hl => ?_)
            refine lv_iinc (v := (nI (i + 1))) (lv' := [(3, .int (nI (i + 1))), (2, .int (nI 0)), (1, .int (f i)), (5, .int (nI 0)), (4, .int (f i)), (0, .ref h)]) hx hb dX0_coatWithMostLooks_50 hl (k := 4) rfl (inc1 _) (by decide) rfl (fun ls hl => ?_)
            refine lv_goto (tgt := 6) hx hb dX0_coatWithMostLooks_53 (by decide) ?_
            exact ih (i + 1) (f i) 0 (by omega) (HLb) (by rw [fo_s, if_pos (by rw [HL]; omega), HL] at h2; exact h2) _ (lv_sub hl [0, 1, 2, 5] rfl)
        · skip
          refine lv_aload_n hx hb dX0_coatWithMostLooks_26 rfl (lv_at hl 4 rfl) ?_
          refine lv_iload hx hb dX0_coatWithMostLooks_27 (lv_at hl 0 rfl) ?_
          obtain ⟨x, hx9, ex, ez⟩ := hO.num (k := i) (by omega) (ge0 c23)
          refine tp_i (y := nI x) ex ?_
          refine pv_i CF (m_X0_countLooks l D cI h a1 a2 S x hx9) (cwV 1 hts gX0_coatWithMostLooks_X0_countLooks rfl rfl rfl k_X0_countLooks ⟨Nat.le_of_ble_eq_true rfl, Nat.le_of_ble_eq_true rfl⟩) hK hP rfl rfl rfl rfl hl.1 rfl (Nat.le_of_ble_eq_true rfl) dX0_coatWithMostLooks_29 ⟨Nat.zero_le _, Nat.zero_le _⟩ ?_
          refine lv_goto (tgt := 36) hx hb dX0_coatWithMostLooks_32 (by decide) ?_
          have HL : lx n w f i = (lk n w f x) := lx_p (ge0 c23) ez
          have HLb : (lk n w f x) ≤ 40 := by rw [← HL]; exact Nat.le_trans (lx_le n w f i) hn
          refine lv_istore (lv' := [(5, .int (nI (lk n w f x))), (4, .int (f i)), (3, .int (nI i)), (2, .int (nI b)), (1, .int a), (0, .ref h)]) hx hb dX0_coatWithMostLooks_36 hl (by decide) rfl (fun ls hl => ?_)
          refine lv_iload hx hb dX0_coatWithMostLooks_38 (lv_at hl 0 rfl) ?_
          refine lv_iload_n hx hb dX0_coatWithMostLooks_40 rfl (lv_at hl 3 rfl) ?_
          refine bn_le (tgt := 50) hx hb dX0_coatWithMostLooks_41 (by decide) (by omega) (by omega) (fun c41 => ?_) (fun c41 => ?_)
          · skip
            refine lv_iinc (v := (nI (i + 1))) (lv' := [(3, .int (nI (i + 1))), (5, .int (nI (lk n w f x))), (4, .int (f i)), (2, .int (nI b)), (1, .int a), (0, .ref h)]) hx hb dX0_coatWithMostLooks_50 hl (k := 2) rfl (inc1 _) (by decide) rfl (fun ls hl => ?_)
            refine lv_goto (tgt := 6) hx hb dX0_coatWithMostLooks_53 (by decide) ?_
            exact ih (i + 1) a b (by omega) hb9 (by rw [fo_s, if_neg (by rw [HL]; omega)] at h2; exact h2) _ (lv_sub hl [0, 3, 4, 5] rfl)
          · skip
            refine lv_iload hx hb dX0_coatWithMostLooks_44 (lv_at hl 1 rfl) ?_
            refine lv_istore_n (lv' := [(1, .int (f i)), (5, .int (nI (lk n w f x))), (4, .int (f i)), (3, .int (nI i)), (2, .int (nI b)), (0, .ref h)]) hx hb dX0_coatWithMostLooks_46 rfl hl (by decide) rfl (fun ls hl => ?_)
            refine lv_iload hx hb dX0_coatWithMostLooks_47 (lv_at hl 1 rfl) ?_
            refine lv_istore_n (lv' := [(2, .int (nI (lk n w f x))), (1, .int (f i)), (5, .int (nI (lk n w f x))), (4, .int (f i)), (3, .int (nI i)), (0, .ref h)]) hx hb dX0_coatWithMostLooks_49 rfl hl (by decide) rfl (fun ls hl => ?_)
            refine lv_iinc (v := (nI (i + 1))) (lv' := [(3, .int (nI (i + 1))), (2, .int (nI (lk n w f x))), (1, .int (f i)), (5, .int (nI (lk n w f x))), (4, .int (f i)), (0, .ref h)]) hx hb dX0_coatWithMostLooks_50 hl (k := 4) rfl (inc1 _) (by decide) rfl (fun ls hl => ?_)
            refine lv_goto (tgt := 6) hx hb dX0_coatWithMostLooks_53 (by decide) ?_
            exact ih (i + 1) (f i) (lk n w f x) (by omega) (HLb) (by rw [fo_s, if_pos (by rw [HL]; omega), HL] at h2; exact h2) _ (lv_sub hl [0, 1, 2, 5] rfl)
  exact LP6 n 0 (-1) 0 (Nat.zero_add n) (by omega) rfl _ (lv_sub hl [0, 1, 2, 3] rfl)
theorem k_X0_behind : yX0_behind.cls = RX0 ∧ yX0_behind.cls ≠ "java/lang/invoke/MethodHandle" ∧ yX0_behind.cls ≠ "java/lang/invoke/VarHandle" ∧ (parseMethodDescriptor yX0_behind.desc).map (fun d => d.parameters.length) = some 1 := by decide +kernel
set_option maxHeartbeats 4000000 in
set_option maxRecDepth 100000 in
theorem m_X0_behind (l : Launch) (D : va_G) (cI : ClassId) (h a1 a2 : Nat) {n w : Nat} {F G f g : Nat → Int32} (S : RS n w F G f g) (k : Nat) (hk : k < n) : Met l yX0_behind wsX0_behind ({ frames := 0, cells := 0, slots := 0, locals := 0 } : Room) (PR D [(cI, .int)] [.ref h, .int (nI k)] (rkw cI h a1 a2 n w F G)) (vp_Si (fun r => r = nI (bh n k))) 0 0 (fun _ => False) := by
  obtain ⟨hn3, hn, hw2, hF, hG, hO⟩ := id S
  refine bd_p (cc := cX0_behind) (maxL := 2) (ret := (some .int)) (by decide) rfl (Nat.le_of_ble_eq_true rfl) ?_
  intro p e s m args below meth c ls CF hr hlocks hK hP hl
  obtain ⟨hx, hb, hml, hown, hts⟩ := id CF
  have hl : lv_has ls 2 [(0, .ref h), (1, .int (nI k))] := hl
  have hP : va_P D vwCl [(h, .inr (0, [.ref a1, .ref a2, .int (nI n), .int (nI w)])), (a1, .inl (cI, 40, .inl F)), (a2, .inl (cI, 40, .inl G))] s.heap := hP
  refine lv_iload_n hx hb dX0_behind_0 rfl (lv_at hl 1 rfl) ?_
  refine lv_iconst (v := nI 1) hx hb dX0_behind_1 (by decide) ?_
  refine an_add hx hb dX0_behind_2 ?_
  refine lv_aload_n hx hb dX0_behind_3 rfl (lv_at hl 0 rfl) ?_
  refine va_get (D := D) (ci := 0) (v := .int (nI n)) (C := RX0) (T := TX0) (N := 4) hx hb hts (fun _ h => (List.mem_cons_of_mem _ (List.mem_append_right _ h))) hown hK hP 0 rfl rfl 2 (by decide) (hts _ (List.mem_of_getElem? (i := 1) rfl)) (fun _ h9 => h9) rfl dX0_behind_4 ?_
  refine bn_ge (tgt := 16) hx hb dX0_behind_7 (by decide) (by omega) (by omega) (fun c7 => ?_) (fun c7 => ?_)
  · skip
    refine lv_iconst (v := nI 0) hx hb dX0_behind_16 (by decide) ?_
    exact en_i hx hb hr hlocks (congrArg nI (if_neg (by omega)).symm) dX0_behind_17
  · skip
    refine lv_iload_n hx hb dX0_behind_10 rfl (lv_at hl 1 rfl) ?_
    refine lv_iconst (v := nI 1) hx hb dX0_behind_11 (by decide) ?_
    refine an_add hx hb dX0_behind_12 ?_
    refine lv_goto (tgt := 17) hx hb dX0_behind_13 (by decide) ?_
    exact en_i hx hb hr hlocks (congrArg nI (if_pos c7).symm) dX0_behind_17
theorem k_X0_before : yX0_before.cls = RX0 ∧ yX0_before.cls ≠ "java/lang/invoke/MethodHandle" ∧ yX0_before.cls ≠ "java/lang/invoke/VarHandle" ∧ (parseMethodDescriptor yX0_before.desc).map (fun d => d.parameters.length) = some 1 := by decide +kernel
set_option maxHeartbeats 4000000 in
set_option maxRecDepth 100000 in
theorem m_X0_before (l : Launch) (D : va_G) (cI : ClassId) (h a1 a2 : Nat) {n w : Nat} {F G f g : Nat → Int32} (S : RS n w F G f g) (k : Nat) (hk : k < n) : Met l yX0_before wsX0_before ({ frames := 0, cells := 0, slots := 0, locals := 0 } : Room) (PR D [(cI, .int)] [.ref h, .int (nI k)] (rkw cI h a1 a2 n w F G)) (vp_Si (fun r => r = nI (bf n k))) 0 0 (fun _ => False) := by
  obtain ⟨hn3, hn, hw2, hF, hG, hO⟩ := id S
  refine bd_p (cc := cX0_before) (maxL := 2) (ret := (some .int)) (by decide) rfl (Nat.le_of_ble_eq_true rfl) ?_
  intro p e s m args below meth c ls CF hr hlocks hK hP hl
  obtain ⟨hx, hb, hml, hown, hts⟩ := id CF
  have hl : lv_has ls 2 [(0, .ref h), (1, .int (nI k))] := hl
  have hP : va_P D vwCl [(h, .inr (0, [.ref a1, .ref a2, .int (nI n), .int (nI w)])), (a1, .inl (cI, 40, .inl F)), (a2, .inl (cI, 40, .inl G))] s.heap := hP
  refine lv_iload_n hx hb dX0_before_0 rfl (lv_at hl 1 rfl) ?_
  refine bz_le (tgt := 10) hx hb dX0_before_1 (by decide) (by omega) (fun c1 => ?_) (fun c1 => ?_)
  · skip
    refine lv_aload_n hx hb dX0_before_10 rfl (lv_at hl 0 rfl) ?_
    refine va_get (D := D) (ci := 0) (v := .int (nI n)) (C := RX0) (T := TX0) (N := 4) hx hb hts (fun _ h => (List.mem_cons_of_mem _ (List.mem_append_right _ h))) hown hK hP 0 rfl rfl 2 (by decide) (hts _ (List.mem_of_getElem? (i := 1) rfl)) (fun _ h9 => h9) rfl dX0_before_11 ?_
    refine lv_iconst (v := nI 1) hx hb dX0_before_14 (by decide) ?_
    refine an_sub hx hb (by omega) dX0_before_15 ?_
    exact en_i hx hb hr hlocks (congrArg nI (if_neg (by omega)).symm) dX0_before_16
  · skip
    refine lv_iload_n hx hb dX0_before_4 rfl (lv_at hl 1 rfl) ?_
    refine lv_iconst (v := nI 1) hx hb dX0_before_5 (by decide) ?_
    refine an_sub hx hb (by omega) dX0_before_6 ?_
    refine lv_goto (tgt := 16) hx hb dX0_before_7 (by decide) ?_
    exact en_i hx hb hr hlocks (congrArg nI (if_pos c1).symm) dX0_before_16
theorem k_X0_rowLength : yX0_rowLength.cls = RX0 ∧ yX0_rowLength.cls ≠ "java/lang/invoke/MethodHandle" ∧ yX0_rowLength.cls ≠ "java/lang/invoke/VarHandle" ∧ (parseMethodDescriptor yX0_rowLength.desc).map (fun d => d.parameters.length) = some 1 := by decide +kernel
set_option maxHeartbeats 4000000 in
set_option maxRecDepth 100000 in
theorem m_X0_rowLength (l : Launch) (D : va_G) (cI : ClassId) (h a1 a2 : Nat) {n w : Nat} {F G f g : Nat → Int32} (S : RS n w F G f g) (k : Nat) (hk : k < n) : Met l yX0_rowLength wsX0_rowLength ({ frames := 1, cells := 0, slots := 0, locals := 21 } : Room) (PR D [(cI, .int)] [.ref h, .int (nI k)] (rkw cI h a1 a2 n w F G)) (vp_Si (fun r => r = nI (rl n f k))) 0 0 (fun _ => False) := by
  obtain ⟨hn3, hn, hw2, hF, hG, hO⟩ := id S
  refine bd_p (cc := cX0_rowLength) (maxL := 5) (ret := (some .int)) (by decide) rfl (Nat.le_of_ble_eq_true rfl) ?_
  intro p e s m args below meth c ls CF hr hlocks hK hP hl
  obtain ⟨hx, hb, hml, hown, hts⟩ := id CF
  have hl : lv_has ls 5 [(0, .ref h), (1, .int (nI k))] := hl
  have hP : va_P D vwCl [(h, .inr (0, [.ref a1, .ref a2, .int (nI n), .int (nI w)])), (a1, .inl (cI, 40, .inl F)), (a2, .inl (cI, 40, .inl G))] s.heap := hP
  refine lv_aload_n hx hb dX0_rowLength_0 rfl (lv_at hl 0 rfl) ?_
  refine lv_iload_n hx hb dX0_rowLength_1 rfl (lv_at hl 1 rfl) ?_
  refine pv_i CF (m_X0_heldOn l D cI h a1 a2 S k (by omega)) (cwV 1 hts gX0_rowLength_X0_heldOn rfl rfl rfl k_X0_heldOn ⟨Nat.le_of_ble_eq_true rfl, Nat.le_of_ble_eq_true rfl⟩) hK hP rfl rfl rfl rfl hl.1 rfl (Nat.le_of_ble_eq_true rfl) dX0_rowLength_2 ⟨Nat.zero_le _, Nat.zero_le _⟩ ?_
  refine tp_i (y := (f k)) (hd_in hk) ?_
  refine lv_iconst (v := (-1)) hx hb dX0_rowLength_5 (by decide) ?_
  refine lv_icmp_ne (tgt := 11) hx hb dX0_rowLength_6 (by decide) (fun c6 => ?_) (fun c6 => ?_)
  · skip
    refine lv_iconst (v := nI 1) hx hb dX0_rowLength_11 (by decide) ?_
    refine lv_istore_n (lv' := [(2, .int (nI 1)), (0, .ref h), (1, .int (nI k))]) hx hb dX0_rowLength_12 rfl hl (by decide) rfl (fun ls hl => ?_)
    refine lv_aload_n hx hb dX0_rowLength_13 rfl (lv_at hl 1 rfl) ?_
    refine lv_iload_n hx hb dX0_rowLength_14 rfl (lv_at hl 2 rfl) ?_
    refine pv_i CF (m_X0_behind l D cI h a1 a2 S k hk) (cwV 1 hts gX0_rowLength_X0_behind rfl rfl rfl k_X0_behind ⟨Nat.le_of_ble_eq_true rfl, Nat.le_of_ble_eq_true rfl⟩) hK hP rfl rfl rfl rfl hl.1 rfl (Nat.le_of_ble_eq_true rfl) dX0_rowLength_15 ⟨Nat.zero_le _, Nat.zero_le _⟩ ?_
    refine lv_istore_n (lv' := [(3, .int (nI (bh n k))), (2, .int (nI 1)), (0, .ref h), (1, .int (nI k))]) hx hb dX0_rowLength_18 rfl hl (by decide) rfl (fun ls hl => ?_)
    have LP19 : ∀ (q L j : Nat), L + q = n → j < n → fw n f q L j = fw n f (n - 1) 1 (bh n k) → ∀ (ls : Array Slot), lv_has ls 5 [(3, .int (nI j)), (2, .int (nI L)), (0, .ref h), (1, .int (nI k))] → W p l e ({ frames := 1, cells := 0, slots := 0, locals := 21 } : Room) s m args below meth c s.heap [] 0 0 (MQ below (vp_Si (fun r => r = nI (rl n f k))) args s 0 0 (fun _ => False)) (F0 m 19 ls []) := by
      intro q
      induction q with
      | zero =>
        intro L j h1 hj h2 ls hl
        refine lv_iload_n hx hb dX0_rowLength_19 rfl (lv_at hl 1 rfl) ?_
        refine lv_aload_n hx hb dX0_rowLength_20 rfl (lv_at hl 2 rfl) ?_
        refine va_get (D := D) (ci := 0) (v := .int (nI n)) (C := RX0) (T := TX0) (N := 4) hx hb hts (fun _ h => (List.mem_cons_of_mem _ (List.mem_append_right _ h))) hown hK hP 0 rfl rfl 2 (by decide) (hts _ (List.mem_of_getElem? (i := 1) rfl)) (fun _ h9 => h9) rfl dX0_rowLength_21 ?_
        refine bn_ge (tgt := 48) hx hb dX0_rowLength_24 (by decide) (by omega) (by omega) (fun c24 => ?_) (fun c24 => ?_)
        · skip
          have HR : bw n f (n - L) L (bf n k) = rl n f k := by
            have h3 : L = fw n f (n - 1) 1 (bh n k) := h2
            rw [rl, if_neg c6, ← h3]
          refine lv_aload_n hx hb dX0_rowLength_48 rfl (lv_at hl 2 rfl) ?_
          refine lv_iload_n hx hb dX0_rowLength_49 rfl (lv_at hl 3 rfl) ?_
          refine pv_i CF (m_X0_before l D cI h a1 a2 S k hk) (cwV 1 hts gX0_rowLength_X0_before rfl rfl rfl k_X0_before ⟨Nat.le_of_ble_eq_true rfl, Nat.le_of_ble_eq_true rfl⟩) hK hP rfl rfl rfl rfl hl.1 rfl (Nat.le_of_ble_eq_true rfl) dX0_rowLength_50 ⟨Nat.zero_le _, Nat.zero_le _⟩ ?_
          refine lv_istore (lv' := [(4, .int (nI (bf n k))), (3, .int (nI j)), (2, .int (nI L)), (0, .ref h), (1, .int (nI k))]) hx hb dX0_rowLength_53 hl (by decide) rfl (fun ls hl => ?_)
          have LPb : ∀ (q M j : Nat), M + q = n → j < n → bw n f q M j = rl n f k → ∀ (ls : Array Slot), lv_has ls 5 [(4, .int (nI j)), (2, .int (nI M)), (0, .ref h), (1, .int (nI k))] → W p l e ({ frames := 1, cells := 0, slots := 0, locals := 21 } : Room) s m args below meth c s.heap [] 0 0 (MQ below (vp_Si (fun r => r = nI (rl n f k))) args s 0 0 (fun _ => False)) (F0 m 55 ls []) := by
            intro q
            induction q with
            | zero =>
              intro M j g1 hj g2 ls hl
              refine lv_iload_n hx hb dX0_rowLength_55 rfl (lv_at hl 1 rfl) ?_
              refine lv_aload_n hx hb dX0_rowLength_56 rfl (lv_at hl 2 rfl) ?_
              refine va_get (D := D) (ci := 0) (v := .int (nI n)) (C := RX0) (T := TX0) (N := 4) hx hb hts (fun _ h => (List.mem_cons_of_mem _ (List.mem_append_right _ h))) hown hK hP 0 rfl rfl 2 (by decide) (hts _ (List.mem_of_getElem? (i := 1) rfl)) (fun _ h9 => h9) rfl dX0_rowLength_57 ?_
              refine bn_ge (tgt := 87) hx hb dX0_rowLength_60 (by decide) (by omega) (by omega) (fun c60 => ?_) (fun c60 => ?_)
              · skip
                refine lv_iload_n hx hb dX0_rowLength_87 rfl (lv_at hl 1 rfl) ?_
                exact en_i hx hb hr hlocks (congrArg nI g2) dX0_rowLength_88
              · skip
                omega
            | succ q ih =>
              intro M j g1 hj g2 ls hl
              refine lv_iload_n hx hb dX0_rowLength_55 rfl (lv_at hl 1 rfl) ?_
              refine lv_aload_n hx hb dX0_rowLength_56 rfl (lv_at hl 2 rfl) ?_
              refine va_get (D := D) (ci := 0) (v := .int (nI n)) (C := RX0) (T := TX0) (N := 4) hx hb hts (fun _ h => (List.mem_cons_of_mem _ (List.mem_append_right _ h))) hown hK hP 0 rfl rfl 2 (by decide) (hts _ (List.mem_of_getElem? (i := 1) rfl)) (fun _ h9 => h9) rfl dX0_rowLength_57 ?_
              refine bn_ge (tgt := 87) hx hb dX0_rowLength_60 (by decide) (by omega) (by omega) (fun c60 => ?_) (fun c60 => ?_)
              · skip
                omega
              · skip
                refine lv_aload_n hx hb dX0_rowLength_63 rfl (lv_at hl 2 rfl) ?_
                refine lv_iload hx hb dX0_rowLength_64 (lv_at hl 0 rfl) ?_
                refine pv_i CF (m_X0_heldOn l D cI h a1 a2 S j (by omega)) (cwV 1 hts gX0_rowLength_X0_heldOn rfl rfl rfl k_X0_heldOn ⟨Nat.le_of_ble_eq_true rfl, Nat.le_of_ble_eq_true rfl⟩) hK hP rfl rfl rfl rfl hl.1 rfl (Nat.le_of_ble_eq_true rfl) dX0_rowLength_66 ⟨Nat.zero_le _, Nat.zero_le _⟩ ?_
                refine tp_i (y := (f j)) (hd_in hj) ?_
                refine lv_iconst (v := (-1)) hx hb dX0_rowLength_69 (by decide) ?_
                refine lv_icmp_eq (tgt := 87) hx hb dX0_rowLength_70 (by decide) (fun c70 => ?_) (fun c70 => ?_)
                · skip
                  refine lv_iload_n hx hb dX0_rowLength_87 rfl (lv_at hl 1 rfl) ?_
                  exact en_i hx hb hr hlocks (congrArg nI ((bw_y c70).symm.trans g2)) dX0_rowLength_88
                · skip
                  refine lv_iinc (v := (nI (M + 1))) (lv' := [(2, .int (nI (M + 1))), (4, .int (nI j)), (0, .ref h), (1, .int (nI k))]) hx hb dX0_rowLength_73 hl (k := 1) rfl (inc1 _) (by decide) rfl (fun ls hl => ?_)
                  refine lv_aload_n hx hb dX0_rowLength_76 rfl (lv_at hl 2 rfl) ?_
                  refine lv_iload hx hb dX0_rowLength_77 (lv_at hl 1 rfl) ?_
                  refine pv_i CF (m_X0_before l D cI h a1 a2 S j hj) (cwV 1 hts gX0_rowLength_X0_before rfl rfl rfl k_X0_before ⟨Nat.le_of_ble_eq_true rfl, Nat.le_of_ble_eq_true rfl⟩) hK hP rfl rfl rfl rfl hl.1 rfl (Nat.le_of_ble_eq_true rfl) dX0_rowLength_79 ⟨Nat.zero_le _, Nat.zero_le _⟩ ?_
                  refine lv_istore (lv' := [(4, .int (nI (bf n j))), (2, .int (nI (M + 1))), (0, .ref h), (1, .int (nI k))]) hx hb dX0_rowLength_82 hl (by decide) rfl (fun ls hl => ?_)
                  refine lv_goto (tgt := 55) hx hb dX0_rowLength_84 (by decide) ?_
                  exact ih (M + 1) (bf n j) (by omega) (bf_lt hj) ((bw_n c70).symm.trans g2) _ (lv_sub hl [0, 1, 2, 3] rfl)
          exact LPb (n - L) L (bf n k) (by omega) (bf_lt hk) HR _ (lv_sub hl [0, 2, 3, 4] rfl)
        · skip
          omega
      | succ q ih =>
        intro L j h1 hj h2 ls hl
        refine lv_iload_n hx hb dX0_rowLength_19 rfl (lv_at hl 1 rfl) ?_
        refine lv_aload_n hx hb dX0_rowLength_20 rfl (lv_at hl 2 rfl) ?_
        refine va_get (D := D) (ci := 0) (v := .int (nI n)) (C := RX0) (T := TX0) (N := 4) hx hb hts (fun _ h => (List.mem_cons_of_mem _ (List.mem_append_right _ h))) hown hK hP 0 rfl rfl 2 (by decide) (hts _ (List.mem_of_getElem? (i := 1) rfl)) (fun _ h9 => h9) rfl dX0_rowLength_21 ?_
        refine bn_ge (tgt := 48) hx hb dX0_rowLength_24 (by decide) (by omega) (by omega) (fun c24 => ?_) (fun c24 => ?_)
        · skip
          omega
        · skip
          refine lv_aload_n hx hb dX0_rowLength_27 rfl (lv_at hl 2 rfl) ?_
          refine lv_iload_n hx hb dX0_rowLength_28 rfl (lv_at hl 0 rfl) ?_
          refine pv_i CF (m_X0_heldOn l D cI h a1 a2 S j (by omega)) (cwV 1 hts gX0_rowLength_X0_heldOn rfl rfl rfl k_X0_heldOn ⟨Nat.le_of_ble_eq_true rfl, Nat.le_of_ble_eq_true rfl⟩) hK hP rfl rfl rfl rfl hl.1 rfl (Nat.le_of_ble_eq_true rfl) dX0_rowLength_29 ⟨Nat.zero_le _, Nat.zero_le _⟩ ?_
          refine tp_i (y := (f j)) (hd_in hj) ?_
          refine lv_iconst (v := (-1)) hx hb dX0_rowLength_32 (by decide) ?_
          refine lv_icmp_eq (tgt := 48) hx hb dX0_rowLength_33 (by decide) (fun c33 => ?_) (fun c33 => ?_)
          · skip
            have HR : bw n f (n - L) L (bf n k) = rl n f k := by
              have h3 : L = fw n f (n - 1) 1 (bh n k) := (fw_y c33).symm.trans h2
              rw [rl, if_neg c6, ← h3]
            refine lv_aload_n hx hb dX0_rowLength_48 rfl (lv_at hl 2 rfl) ?_
            refine lv_iload_n hx hb dX0_rowLength_49 rfl (lv_at hl 3 rfl) ?_
            refine pv_i CF (m_X0_before l D cI h a1 a2 S k hk) (cwV 1 hts gX0_rowLength_X0_before rfl rfl rfl k_X0_before ⟨Nat.le_of_ble_eq_true rfl, Nat.le_of_ble_eq_true rfl⟩) hK hP rfl rfl rfl rfl hl.1 rfl (Nat.le_of_ble_eq_true rfl) dX0_rowLength_50 ⟨Nat.zero_le _, Nat.zero_le _⟩ ?_
            refine lv_istore (lv' := [(4, .int (nI (bf n k))), (3, .int (nI j)), (2, .int (nI L)), (0, .ref h), (1, .int (nI k))]) hx hb dX0_rowLength_53 hl (by decide) rfl (fun ls hl => ?_)
            have LPb : ∀ (q M j : Nat), M + q = n → j < n → bw n f q M j = rl n f k → ∀ (ls : Array Slot), lv_has ls 5 [(4, .int (nI j)), (2, .int (nI M)), (0, .ref h), (1, .int (nI k))] → W p l e ({ frames := 1, cells := 0, slots := 0, locals := 21 } : Room) s m args below meth c s.heap [] 0 0 (MQ below (vp_Si (fun r => r = nI (rl n f k))) args s 0 0 (fun _ => False)) (F0 m 55 ls []) := by
              intro q
              induction q with
              | zero =>
                intro M j g1 hj g2 ls hl
                refine lv_iload_n hx hb dX0_rowLength_55 rfl (lv_at hl 1 rfl) ?_
                refine lv_aload_n hx hb dX0_rowLength_56 rfl (lv_at hl 2 rfl) ?_
                refine va_get (D := D) (ci := 0) (v := .int (nI n)) (C := RX0) (T := TX0) (N := 4) hx hb hts (fun _ h => (List.mem_cons_of_mem _ (List.mem_append_right _ h))) hown hK hP 0 rfl rfl 2 (by decide) (hts _ (List.mem_of_getElem? (i := 1) rfl)) (fun _ h9 => h9) rfl dX0_rowLength_57 ?_
                refine bn_ge (tgt := 87) hx hb dX0_rowLength_60 (by decide) (by omega) (by omega) (fun c60 => ?_) (fun c60 => ?_)
                · skip
                  refine lv_iload_n hx hb dX0_rowLength_87 rfl (lv_at hl 1 rfl) ?_
                  exact en_i hx hb hr hlocks (congrArg nI g2) dX0_rowLength_88
                · skip
                  omega
              | succ q ih =>
                intro M j g1 hj g2 ls hl
                refine lv_iload_n hx hb dX0_rowLength_55 rfl (lv_at hl 1 rfl) ?_
                refine lv_aload_n hx hb dX0_rowLength_56 rfl (lv_at hl 2 rfl) ?_
                refine va_get (D := D) (ci := 0) (v := .int (nI n)) (C := RX0) (T := TX0) (N := 4) hx hb hts (fun _ h => (List.mem_cons_of_mem _ (List.mem_append_right _ h))) hown hK hP 0 rfl rfl 2 (by decide) (hts _ (List.mem_of_getElem? (i := 1) rfl)) (fun _ h9 => h9) rfl dX0_rowLength_57 ?_
                refine bn_ge (tgt := 87) hx hb dX0_rowLength_60 (by decide) (by omega) (by omega) (fun c60 => ?_) (fun c60 => ?_)
                · skip
                  omega
                · skip
                  refine lv_aload_n hx hb dX0_rowLength_63 rfl (lv_at hl 2 rfl) ?_
                  refine lv_iload hx hb dX0_rowLength_64 (lv_at hl 0 rfl) ?_
                  refine pv_i CF (m_X0_heldOn l D cI h a1 a2 S j (by omega)) (cwV 1 hts gX0_rowLength_X0_heldOn rfl rfl rfl k_X0_heldOn ⟨Nat.le_of_ble_eq_true rfl, Nat.le_of_ble_eq_true rfl⟩) hK hP rfl rfl rfl rfl hl.1 rfl (Nat.le_of_ble_eq_true rfl) dX0_rowLength_66 ⟨Nat.zero_le _, Nat.zero_le _⟩ ?_
                  refine tp_i (y := (f j)) (hd_in hj) ?_
                  refine lv_iconst (v := (-1)) hx hb dX0_rowLength_69 (by decide) ?_
                  refine lv_icmp_eq (tgt := 87) hx hb dX0_rowLength_70 (by decide) (fun c70 => ?_) (fun c70 => ?_)
                  · skip
                    refine lv_iload_n hx hb dX0_rowLength_87 rfl (lv_at hl 1 rfl) ?_
                    exact en_i hx hb hr hlocks (congrArg nI ((bw_y c70).symm.trans g2)) dX0_rowLength_88
                  · skip
                    refine lv_iinc (v := (nI (M + 1))) (lv' := [(2, .int (nI (M + 1))), (4, .int (nI j)), (0, .ref h), (1, .int (nI k))]) hx hb dX0_rowLength_73 hl (k := 1) rfl (inc1 _) (by decide) rfl (fun ls hl => ?_)
                    refine lv_aload_n hx hb dX0_rowLength_76 rfl (lv_at hl 2 rfl) ?_
                    refine lv_iload hx hb dX0_rowLength_77 (lv_at hl 1 rfl) ?_
                    refine pv_i CF (m_X0_before l D cI h a1 a2 S j hj) (cwV 1 hts gX0_rowLength_X0_before rfl rfl rfl k_X0_before ⟨Nat.le_of_ble_eq_true rfl, Nat.le_of_ble_eq_true rfl⟩) hK hP rfl rfl rfl rfl hl.1 rfl (Nat.le_of_ble_eq_true rfl) dX0_rowLength_79 ⟨Nat.zero_le _, Nat.zero_le _⟩ ?_
                    refine lv_istore (lv' := [(4, .int (nI (bf n j))), (2, .int (nI (M + 1))), (0, .ref h), (1, .int (nI k))]) hx hb dX0_rowLength_82 hl (by decide) rfl (fun ls hl => ?_)
                    refine lv_goto (tgt := 55) hx hb dX0_rowLength_84 (by decide) ?_
                    exact ih (M + 1) (bf n j) (by omega) (bf_lt hj) ((bw_n c70).symm.trans g2) _ (lv_sub hl [0, 1, 2, 3] rfl)
            exact LPb (n - L) L (bf n k) (by omega) (bf_lt hk) HR _ (lv_sub hl [0, 2, 3, 4] rfl)
          · skip
            refine lv_iinc (v := (nI (L + 1))) (lv' := [(2, .int (nI (L + 1))), (3, .int (nI j)), (0, .ref h), (1, .int (nI k))]) hx hb dX0_rowLength_36 hl (k := 1) rfl (inc1 _) (by decide) rfl (fun ls hl => ?_)
            refine lv_aload_n hx hb dX0_rowLength_39 rfl (lv_at hl 2 rfl) ?_
            refine lv_iload_n hx hb dX0_rowLength_40 rfl (lv_at hl 1 rfl) ?_
            refine pv_i CF (m_X0_behind l D cI h a1 a2 S j hj) (cwV 1 hts gX0_rowLength_X0_behind rfl rfl rfl k_X0_behind ⟨Nat.le_of_ble_eq_true rfl, Nat.le_of_ble_eq_true rfl⟩) hK hP rfl rfl rfl rfl hl.1 rfl (Nat.le_of_ble_eq_true rfl) dX0_rowLength_41 ⟨Nat.zero_le _, Nat.zero_le _⟩ ?_
            refine lv_istore_n (lv' := [(3, .int (nI (bh n j))), (2, .int (nI (L + 1))), (0, .ref h), (1, .int (nI k))]) hx hb dX0_rowLength_44 rfl hl (by decide) rfl (fun ls hl => ?_)
            refine lv_goto (tgt := 19) hx hb dX0_rowLength_45 (by decide) ?_
            exact ih (L + 1) (bh n j) (by omega) (bh_lt (by omega)) ((fw_n c33).symm.trans h2) _ (lv_sub hl [0, 1, 2, 3] rfl)
    exact LP19 (n - 1) 1 (bh n k) (by omega) (bh_lt (by omega)) rfl _ (lv_sub hl [0, 1, 2, 3] rfl)
  · skip
    refine lv_iconst (v := nI 0) hx hb dX0_rowLength_9 (by decide) ?_
    exact en_i hx hb hr hlocks (congrArg nI (if_pos c6).symm) dX0_rowLength_10
theorem k_X0_rowCount : yX0_rowCount.cls = RX0 ∧ yX0_rowCount.cls ≠ "java/lang/invoke/MethodHandle" ∧ yX0_rowCount.cls ≠ "java/lang/invoke/VarHandle" ∧ (parseMethodDescriptor yX0_rowCount.desc).map (fun d => d.parameters.length) = some 0 := by decide +kernel
set_option maxHeartbeats 4000000 in
set_option maxRecDepth 100000 in
theorem m_X0_rowCount (l : Launch) (D : va_G) (cI : ClassId) (h a1 a2 : Nat) {n w : Nat} {F G f g : Nat → Int32} (S : RS n w F G f g) : Met l yX0_rowCount wsX0_rowCount ({ frames := 1, cells := 0, slots := 0, locals := 21 } : Room) (PR D [(cI, .int)] [.ref h] (rkw cI h a1 a2 n w F G)) (vp_Si (fun r => r = nI (rc n f))) 0 0 (fun _ => False) := by
  obtain ⟨hn3, hn, hw2, hF, hG, hO⟩ := id S
  refine bd_p (cc := cX0_rowCount) (maxL := 4) (ret := (some .int)) (by decide) rfl (Nat.le_of_ble_eq_true rfl) ?_
  intro p e s m args below meth c ls CF hr hlocks hK hP hl
  obtain ⟨hx, hb, hml, hown, hts⟩ := id CF
  have hl : lv_has ls 4 [(0, .ref h)] := hl
  have hP : va_P D vwCl [(h, .inr (0, [.ref a1, .ref a2, .int (nI n), .int (nI w)])), (a1, .inl (cI, 40, .inl F)), (a2, .inl (cI, 40, .inl G))] s.heap := hP
  refine lv_iconst (v := nI 0) hx hb dX0_rowCount_0 (by decide) ?_
  refine lv_istore_n (lv' := [(1, .int (nI 0)), (0, .ref h)]) hx hb dX0_rowCount_1 rfl hl (by decide) rfl (fun ls hl => ?_)
  refine lv_iconst (v := nI 0) hx hb dX0_rowCount_2 (by decide) ?_
  refine lv_istore_n (lv' := [(2, .int (nI 0)), (1, .int (nI 0)), (0, .ref h)]) hx hb dX0_rowCount_3 rfl hl (by decide) rfl (fun ls hl => ?_)
  refine lv_iconst (v := nI 0) hx hb dX0_rowCount_4 (by decide) ?_
  refine lv_istore_n (lv' := [(3, .int (nI 0)), (2, .int (nI 0)), (1, .int (nI 0)), (0, .ref h)]) hx hb dX0_rowCount_5 rfl hl (by decide) rfl (fun ls hl => ?_)
  have LP6 : ∀ (q i a b : Nat), i + q = n → b ≤ i → fo (fun (a : Nat × Nat) i => if f i = -1 then a else (a.1 + (if f (bh n i) = -1 then 1 else 0), a.2 + 1)) q i (a, b) = rcs n f → ∀ (ls : Array Slot), lv_has ls 4 [(3, .int (nI i)), (2, .int (nI b)), (1, .int (nI a)), (0, .ref h)] → W p l e ({ frames := 1, cells := 0, slots := 0, locals := 21 } : Room) s m args below meth c s.heap [] 0 0 (MQ below (vp_Si (fun r => r = nI (rc n f))) args s 0 0 (fun _ => False)) (F0 m 6 ls []) := by
    intro q
    induction q with
    | zero =>
      intro i a b h1 hb9 h2 ls hl
      refine lv_iload_n hx hb dX0_rowCount_6 rfl (lv_at hl 0 rfl) ?_
      refine lv_aload_n hx hb dX0_rowCount_7 rfl (lv_at hl 3 rfl) ?_
      refine va_get (D := D) (ci := 0) (v := .int (nI n)) (C := RX0) (T := TX0) (N := 4) hx hb hts (fun _ h => (List.mem_cons_of_mem _ (List.mem_append_right _ h))) hown hK hP 0 rfl rfl 2 (by decide) (hts _ (List.mem_of_getElem? (i := 1) rfl)) (fun _ h9 => h9) rfl dX0_rowCount_8 ?_
      refine bn_ge (tgt := 53) hx hb dX0_rowCount_11 (by decide) (by omega) (by omega) (fun c11 => ?_) (fun c11 => ?_)
      · skip
        have h3 : rcs n f = (a, b) := h2.symm
        refine lv_iload_n hx hb dX0_rowCount_53 rfl (lv_at hl 1 rfl) ?_
        refine lv_aload_n hx hb dX0_rowCount_54 rfl (lv_at hl 3 rfl) ?_
        refine va_get (D := D) (ci := 0) (v := .int (nI n)) (C := RX0) (T := TX0) (N := 4) hx hb hts (fun _ h => (List.mem_cons_of_mem _ (List.mem_append_right _ h))) hown hK hP 0 rfl rfl 2 (by decide) (hts _ (List.mem_of_getElem? (i := 1) rfl)) (fun _ h9 => h9) rfl dX0_rowCount_55 ?_
        refine bn_ne (tgt := 65) hx hb dX0_rowCount_58 (by decide) (by omega) (by omega) (fun c58 => ?_) (fun c58 => ?_)
        · skip
          refine lv_iload_n hx hb dX0_rowCount_65 rfl (lv_at hl 2 rfl) ?_
          exact en_i hx hb hr hlocks (by rw [rc, h3, if_neg c58]) dX0_rowCount_66
        · skip
          refine lv_iconst (v := nI 1) hx hb dX0_rowCount_61 (by decide) ?_
          refine lv_goto (tgt := 66) hx hb dX0_rowCount_62 (by decide) ?_
          exact en_i hx hb hr hlocks (by rw [rc, h3, if_pos c58]) dX0_rowCount_66
      · skip
        omega
    | succ q ih =>
      intro i a b h1 hb9 h2 ls hl
      refine lv_iload_n hx hb dX0_rowCount_6 rfl (lv_at hl 0 rfl) ?_
      refine lv_aload_n hx hb dX0_rowCount_7 rfl (lv_at hl 3 rfl) ?_
      refine va_get (D := D) (ci := 0) (v := .int (nI n)) (C := RX0) (T := TX0) (N := 4) hx hb hts (fun _ h => (List.mem_cons_of_mem _ (List.mem_append_right _ h))) hown hK hP 0 rfl rfl 2 (by decide) (hts _ (List.mem_of_getElem? (i := 1) rfl)) (fun _ h9 => h9) rfl dX0_rowCount_8 ?_
      refine bn_ge (tgt := 53) hx hb dX0_rowCount_11 (by decide) (by omega) (by omega) (fun c11 => ?_) (fun c11 => ?_)
      · skip
        omega
      · skip
        refine lv_aload_n hx hb dX0_rowCount_14 rfl (lv_at hl 3 rfl) ?_
        refine lv_iload_n hx hb dX0_rowCount_15 rfl (lv_at hl 0 rfl) ?_
        refine pv_i CF (m_X0_heldOn l D cI h a1 a2 S i (by omega)) (cwV 1 hts gX0_rowCount_X0_heldOn rfl rfl rfl k_X0_heldOn ⟨Nat.le_of_ble_eq_true rfl, Nat.le_of_ble_eq_true rfl⟩) hK hP rfl rfl rfl rfl hl.1 rfl (Nat.le_of_ble_eq_true rfl) dX0_rowCount_16 ⟨Nat.zero_le _, Nat.zero_le _⟩ ?_
        refine tp_i (y := (f i)) (hd_in (by omega)) ?_
        refine lv_iconst (v := (-1)) hx hb dX0_rowCount_19 (by decide) ?_
        refine lv_icmp_eq (tgt := 47) hx hb dX0_rowCount_20 (by decide) (fun c20 => ?_) (fun c20 => ?_)
        · skip
          refine lv_iinc (v := (nI (i + 1))) (lv' := [(3, .int (nI (i + 1))), (2, .int (nI b)), (1, .int (nI a)), (0, .ref h)]) hx hb dX0_rowCount_47 hl (k := 0) rfl (inc1 _) (by decide) rfl (fun ls hl => ?_)
          refine lv_goto (tgt := 6) hx hb dX0_rowCount_50 (by decide) ?_
          exact ih (i + 1) a b (by omega) (by omega) (by rw [fo_s, if_pos c20] at h2; exact h2) _ (lv_sub hl [0, 1, 2, 3] rfl)
        · skip
          refine lv_iinc (v := (nI (b + 1))) (lv' := [(2, .int (nI (b + 1))), (3, .int (nI i)), (1, .int (nI a)), (0, .ref h)]) hx hb dX0_rowCount_23 hl (k := 1) rfl (inc1 _) (by decide) rfl (fun ls hl => ?_)
          refine lv_iload_n hx hb dX0_rowCount_26 rfl (lv_at hl 2 rfl) ?_
          refine lv_aload_n hx hb dX0_rowCount_27 rfl (lv_at hl 3 rfl) ?_
          refine lv_aload_n hx hb dX0_rowCount_28 rfl (lv_at hl 3 rfl) ?_
          refine lv_iload_n hx hb dX0_rowCount_29 rfl (lv_at hl 1 rfl) ?_
          refine pv_i CF (m_X0_behind l D cI h a1 a2 S i (by omega)) (cwV 1 hts gX0_rowCount_X0_behind rfl rfl rfl k_X0_behind ⟨Nat.le_of_ble_eq_true rfl, Nat.le_of_ble_eq_true rfl⟩) hK hP rfl rfl rfl rfl hl.1 rfl (Nat.le_of_ble_eq_true rfl) dX0_rowCount_30 ⟨Nat.zero_le _, Nat.zero_le _⟩ ?_
          refine pv_i CF (m_X0_heldOn l D cI h a1 a2 S (bh n i) (Nat.lt_trans (bh_lt (by omega)) (by omega))) (cwV 1 hts gX0_rowCount_X0_heldOn rfl rfl rfl k_X0_heldOn ⟨Nat.le_of_ble_eq_true rfl, Nat.le_of_ble_eq_true rfl⟩) hK hP rfl rfl rfl rfl hl.1 rfl (Nat.le_of_ble_eq_true rfl) dX0_rowCount_33 ⟨Nat.zero_le _, Nat.zero_le _⟩ ?_
          refine tp_i (y := (f (bh n i))) (hd_in (bh_lt (by omega))) ?_
          refine lv_iconst (v := (-1)) hx hb dX0_rowCount_36 (by decide) ?_
          refine lv_icmp_ne (tgt := 44) hx hb dX0_rowCount_37 (by decide) (fun c37 => ?_) (fun c37 => ?_)
          · skip
            refine lv_iconst (v := nI 0) hx hb dX0_rowCount_44 (by decide) ?_
            refine an_add hx hb dX0_rowCount_45 ?_
            refine lv_istore_n (lv' := [(1, .int (nI (a + 0))), (2, .int (nI (b + 1))), (3, .int (nI i)), (0, .ref h)]) hx hb dX0_rowCount_46 rfl hl (by decide) rfl (fun ls hl => ?_)
            refine lv_iinc (v := (nI (i + 1))) (lv' := [(3, .int (nI (i + 1))), (1, .int (nI (a + 0))), (2, .int (nI (b + 1))), (0, .ref h)]) hx hb dX0_rowCount_47 hl (k := 2) rfl (inc1 _) (by decide) rfl (fun ls hl => ?_)
            refine lv_goto (tgt := 6) hx hb dX0_rowCount_50 (by decide) ?_
            exact ih (i + 1) (a + 0) (b + 1) (by omega) (by omega) (by rw [fo_s, if_neg c20, if_neg c37] at h2; exact h2) _ (lv_sub hl [0, 2, 1, 3] rfl)
          · skip
            refine lv_iconst (v := nI 1) hx hb dX0_rowCount_40 (by decide) ?_
            refine lv_goto (tgt := 45) hx hb dX0_rowCount_41 (by decide) ?_
            refine an_add hx hb dX0_rowCount_45 ?_
            refine lv_istore_n (lv' := [(1, .int (nI (a + 1))), (2, .int (nI (b + 1))), (3, .int (nI i)), (0, .ref h)]) hx hb dX0_rowCount_46 rfl hl (by decide) rfl (fun ls hl => ?_)
            refine lv_iinc (v := (nI (i + 1))) (lv' := [(3, .int (nI (i + 1))), (1, .int (nI (a + 1))), (2, .int (nI (b + 1))), (0, .ref h)]) hx hb dX0_rowCount_47 hl (k := 2) rfl (inc1 _) (by decide) rfl (fun ls hl => ?_)
            refine lv_goto (tgt := 6) hx hb dX0_rowCount_50 (by decide) ?_
            exact ih (i + 1) (a + 1) (b + 1) (by omega) (by omega) (by rw [fo_s, if_neg c20, if_pos c37] at h2; exact h2) _ (lv_sub hl [0, 2, 1, 3] rfl)
  exact LP6 n 0 0 0 (Nat.zero_add n) (Nat.le_refl 0) rfl _ (lv_sub hl [0, 1, 2, 3] rfl)
theorem k_X0_longestRowLength : yX0_longestRowLength.cls = RX0 ∧ yX0_longestRowLength.cls ≠ "java/lang/invoke/MethodHandle" ∧ yX0_longestRowLength.cls ≠ "java/lang/invoke/VarHandle" ∧ (parseMethodDescriptor yX0_longestRowLength.desc).map (fun d => d.parameters.length) = some 0 := by decide +kernel
set_option maxHeartbeats 4000000 in
set_option maxRecDepth 100000 in
theorem m_X0_longestRowLength (l : Launch) (D : va_G) (cI : ClassId) (h a1 a2 : Nat) {n w : Nat} {F G f g : Nat → Int32} (S : RS n w F G f g) : Met l yX0_longestRowLength wsX0_longestRowLength ({ frames := 2, cells := 0, slots := 0, locals := 45 } : Room) (PR D [(cI, .int)] [.ref h] (rkw cI h a1 a2 n w F G)) (vp_Si (fun r => r = nI (lr n f))) 0 0 (fun _ => False) := by
  obtain ⟨hn3, hn, hw2, hF, hG, hO⟩ := id S
  refine bd_p (cc := cX0_longestRowLength) (maxL := 4) (ret := (some .int)) (by decide) rfl (Nat.le_of_ble_eq_true rfl) ?_
  intro p e s m args below meth c ls CF hr hlocks hK hP hl
  obtain ⟨hx, hb, hml, hown, hts⟩ := id CF
  have hl : lv_has ls 4 [(0, .ref h)] := hl
  have hP : va_P D vwCl [(h, .inr (0, [.ref a1, .ref a2, .int (nI n), .int (nI w)])), (a1, .inl (cI, 40, .inl F)), (a2, .inl (cI, 40, .inl G))] s.heap := hP
  refine lv_iconst (v := nI 0) hx hb dX0_longestRowLength_0 (by decide) ?_
  refine lv_istore_n (lv' := [(1, .int (nI 0)), (0, .ref h)]) hx hb dX0_longestRowLength_1 rfl hl (by decide) rfl (fun ls hl => ?_)
  refine lv_iconst (v := nI 0) hx hb dX0_longestRowLength_2 (by decide) ?_
  refine lv_istore_n (lv' := [(2, .int (nI 0)), (1, .int (nI 0)), (0, .ref h)]) hx hb dX0_longestRowLength_3 rfl hl (by decide) rfl (fun ls hl => ?_)
  have LP4 : ∀ (q i a : Nat), i + q = n → a ≤ n → fo (fun a i => if a < rl n f i then rl n f i else a) q i a = lr n f → ∀ (ls : Array Slot), lv_has ls 4 [(2, .int (nI i)), (1, .int (nI a)), (0, .ref h)] → W p l e ({ frames := 2, cells := 0, slots := 0, locals := 45 } : Room) s m args below meth c s.heap [] 0 0 (MQ below (vp_Si (fun r => r = nI (lr n f))) args s 0 0 (fun _ => False)) (F0 m 4 ls []) := by
    intro q
    induction q with
    | zero =>
      intro i a h1 hb9 h2 ls hl
      refine lv_iload_n hx hb dX0_longestRowLength_4 rfl (lv_at hl 0 rfl) ?_
      refine lv_aload_n hx hb dX0_longestRowLength_5 rfl (lv_at hl 2 rfl) ?_
      refine va_get (D := D) (ci := 0) (v := .int (nI n)) (C := RX0) (T := TX0) (N := 4) hx hb hts (fun _ h => (List.mem_cons_of_mem _ (List.mem_append_right _ h))) hown hK hP 0 rfl rfl 2 (by decide) (hts _ (List.mem_of_getElem? (i := 1) rfl)) (fun _ h9 => h9) rfl dX0_longestRowLength_6 ?_
      refine bn_ge (tgt := 35) hx hb dX0_longestRowLength_9 (by decide) (by omega) (by omega) (fun c9 => ?_) (fun c9 => ?_)
      · skip
        refine lv_iload_n hx hb dX0_longestRowLength_35 rfl (lv_at hl 1 rfl) ?_
        exact en_i hx hb hr hlocks (congrArg nI h2) dX0_longestRowLength_36
      · skip
        omega
    | succ q ih =>
      intro i a h1 hb9 h2 ls hl
      refine lv_iload_n hx hb dX0_longestRowLength_4 rfl (lv_at hl 0 rfl) ?_
      refine lv_aload_n hx hb dX0_longestRowLength_5 rfl (lv_at hl 2 rfl) ?_
      refine va_get (D := D) (ci := 0) (v := .int (nI n)) (C := RX0) (T := TX0) (N := 4) hx hb hts (fun _ h => (List.mem_cons_of_mem _ (List.mem_append_right _ h))) hown hK hP 0 rfl rfl 2 (by decide) (hts _ (List.mem_of_getElem? (i := 1) rfl)) (fun _ h9 => h9) rfl dX0_longestRowLength_6 ?_
      refine bn_ge (tgt := 35) hx hb dX0_longestRowLength_9 (by decide) (by omega) (by omega) (fun c9 => ?_) (fun c9 => ?_)
      · skip
        omega
      · skip
        refine lv_aload_n hx hb dX0_longestRowLength_12 rfl (lv_at hl 2 rfl) ?_
        refine lv_iload_n hx hb dX0_longestRowLength_13 rfl (lv_at hl 0 rfl) ?_
        have hrl := rl_le (show 0 < n by omega) f i
        refine pv_i CF (m_X0_rowLength l D cI h a1 a2 S i (by omega)) (cwV 1 hts gX0_longestRowLength_X0_rowLength rfl rfl rfl k_X0_rowLength ⟨Nat.le_of_ble_eq_true rfl, Nat.le_of_ble_eq_true rfl⟩) hK hP rfl rfl rfl rfl hl.1 rfl (Nat.le_of_ble_eq_true rfl) dX0_longestRowLength_14 ⟨Nat.zero_le _, Nat.zero_le _⟩ ?_
        refine lv_istore_n (lv' := [(3, .int (nI (rl n f i))), (2, .int (nI i)), (1, .int (nI a)), (0, .ref h)]) hx hb dX0_longestRowLength_17 rfl hl (by decide) rfl (fun ls hl => ?_)
        refine lv_iload_n hx hb dX0_longestRowLength_18 rfl (lv_at hl 0 rfl) ?_
        refine lv_iload_n hx hb dX0_longestRowLength_19 rfl (lv_at hl 2 rfl) ?_
        refine bn_le (tgt := 27) hx hb dX0_longestRowLength_20 (by decide) (by omega) (by omega) (fun c20 => ?_) (fun c20 => ?_)
        · skip
          refine lv_iload_n hx hb dX0_longestRowLength_27 rfl (lv_at hl 2 rfl) ?_
          refine lv_istore_n (lv' := [(1, .int (nI a)), (3, .int (nI (rl n f i))), (2, .int (nI i)), (0, .ref h)]) hx hb dX0_longestRowLength_28 rfl hl (by decide) rfl (fun ls hl => ?_)
          refine lv_iinc (v := (nI (i + 1))) (lv' := [(2, .int (nI (i + 1))), (1, .int (nI a)), (3, .int (nI (rl n f i))), (0, .ref h)]) hx hb dX0_longestRowLength_29 hl (k := 2) rfl (inc1 _) (by decide) rfl (fun ls hl => ?_)
          refine lv_goto (tgt := 4) hx hb dX0_longestRowLength_32 (by decide) ?_
          exact ih (i + 1) a (by omega) (by omega) (by rw [fo_s, if_neg (by omega)] at h2; exact h2) _ (lv_sub hl [0, 1, 3] rfl)
        · skip
          refine lv_iload_n hx hb dX0_longestRowLength_23 rfl (lv_at hl 0 rfl) ?_
          refine lv_goto (tgt := 28) hx hb dX0_longestRowLength_24 (by decide) ?_
          refine lv_istore_n (lv' := [(1, .int (nI (rl n f i))), (3, .int (nI (rl n f i))), (2, .int (nI i)), (0, .ref h)]) hx hb dX0_longestRowLength_28 rfl hl (by decide) rfl (fun ls hl => ?_)
          refine lv_iinc (v := (nI (i + 1))) (lv' := [(2, .int (nI (i + 1))), (1, .int (nI (rl n f i))), (3, .int (nI (rl n f i))), (0, .ref h)]) hx hb dX0_longestRowLength_29 hl (k := 2) rfl (inc1 _) (by decide) rfl (fun ls hl => ?_)
          refine lv_goto (tgt := 4) hx hb dX0_longestRowLength_32 (by decide) ?_
          exact ih (i + 1) (rl n f i) (by omega) (by omega) (by rw [fo_s, if_pos (by omega)] at h2; exact h2) _ (lv_sub hl [0, 1, 3] rfl)
  exact LP4 n 0 0 (Nat.zero_add n) (Nat.zero_le n) rfl _ (lv_sub hl [0, 1, 2] rfl)
