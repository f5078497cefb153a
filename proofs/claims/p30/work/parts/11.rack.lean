/-! Rack: methods that read -/
theorem not_lt0 {x : Int32} (h : 0 ≤ x) : ¬ x < 0 := fun q => absurd h (fun h => by rw [Int32.le_iff_toInt_le] at h; rw [Int32.lt_iff_toInt_lt] at q; omega)
theorem ge0 {x : Int32} (h : ¬ x < 0) : 0 ≤ x := by rw [Int32.lt_iff_toInt_lt] at h; rw [Int32.le_iff_toInt_le]; omega
theorem lt_of_nle {x y : Int32} (h : ¬ x ≤ y) : y < x := by rw [Int32.le_iff_toInt_le] at h; rw [Int32.lt_iff_toInt_lt]; omega
theorem nlt_of_le {x y : Int32} (h : x ≤ y) : ¬ y < x := by rw [Int32.le_iff_toInt_le] at h; rw [Int32.lt_iff_toInt_lt]; omega
theorem sq_small {k : Nat} (h : k ≤ 40) : k * (k + 1) < 2 ^ 31 := Nat.lt_of_le_of_lt (Nat.mul_le_mul h (Nat.succ_le_succ h)) (by decide)
theorem st_small2 {x k n : Nat} (hx : x ≤ 9999) (hk : k ≤ 40) (h3 : 3 ≤ n) (hn : n ≤ 40) : x + k * (1 + ((x / n) % (n - 1))) < 2 ^ 31 := by
  have h1 : (x / n) % (n - 1) < n - 1 := Nat.mod_lt _ (by omega)
  have h2 : k * (1 + ((x / n) % (n - 1))) ≤ 40 * 40 := Nat.mul_le_mul hk (by omega)
  omega
theorem st_small3 {x k : Nat} (hx : x ≤ 9999) (hk : k ≤ 40) : x + (k * (k + 1)) / 2 < 2 ^ 31 := by
  have h2 : k * (k + 1) ≤ 40 * 41 := Nat.mul_le_mul hk (by omega)
  omega
theorem div_small {x n : Nat} (h : x ≤ 9999) : x / n < 2 ^ 31 := Nat.lt_of_le_of_lt (Nat.div_le_self x n) (by omega)
theorem k_X0_heldOn : yX0_heldOn.cls = RX0 ∧ yX0_heldOn.cls ≠ "java/lang/invoke/MethodHandle" ∧ yX0_heldOn.cls ≠ "java/lang/invoke/VarHandle" ∧ (parseMethodDescriptor yX0_heldOn.desc).map (fun d => d.parameters.length) = some 1 := by decide +kernel
set_option maxHeartbeats 4000000 in
set_option maxRecDepth 100000 in
theorem m_X0_heldOn (l : Launch) (D : va_G) (cI : ClassId) (h a1 a2 : Nat) {n w : Nat} {F G f g : Nat → Int32} (S : RS n w F G f g) (k : Nat) (hk : k < 2 ^ 31) : Met l yX0_heldOn wsX0_heldOn ({ frames := 0, cells := 0, slots := 0, locals := 0 } : Room) (PR D [(cI, .int)] [.ref h, .int (nI k)] (rkw cI h a1 a2 n w F G)) (vp_Si (fun r => r = hd n f k)) 0 0 (fun _ => False) := by
  obtain ⟨hn3, hn, hw2, hF, hG, hO⟩ := id S
  refine bd_p (cc := cX0_heldOn) (maxL := 2) (ret := (some .int)) (by decide) rfl (Nat.le_of_ble_eq_true rfl) ?_
  intro p e s m args below meth c ls CF hr hlocks hK hP hl
  obtain ⟨hx, hb, hml, hown, hts⟩ := id CF
  have hl : lv_has ls 2 [(0, .ref h), (1, .int (nI k))] := hl
  have hP : va_P D vwCl [(h, .inr (0, [.ref a1, .ref a2, .int (nI n), .int (nI w)])), (a1, .inl (cI, 40, .inl F)), (a2, .inl (cI, 40, .inl G))] s.heap := hP
  refine lv_iload_n hx hb dX0_heldOn_0 rfl (lv_at hl 1 rfl) ?_
  refine bz_lt (tgt := 30) hx hb dX0_heldOn_1 (by decide) (by omega) ?_
  refine lv_iload_n hx hb dX0_heldOn_4 rfl (lv_at hl 1 rfl) ?_
  refine lv_aload_n hx hb dX0_heldOn_5 rfl (lv_at hl 0 rfl) ?_
  refine va_get (D := D) (ci := 0) (v := .int (nI n)) (C := RX0) (T := TX0) (N := 4) hx hb hts (fun _ h => (List.mem_cons_of_mem _ (List.mem_append_right _ h))) hown hK hP 0 rfl rfl 2 (by decide) (hts _ (List.mem_of_getElem? (i := 1) rfl)) (fun _ h9 => h9) rfl dX0_heldOn_6 ?_
  refine bn_ge (tgt := 30) hx hb dX0_heldOn_9 (by decide) (by omega) (by omega) (fun c9 => ?_) (fun c9 => ?_)
  · skip
    refine lv_iconst (v := (-1)) hx hb dX0_heldOn_30 (by decide) ?_
    exact en_i hx hb hr hlocks ((if_neg (by omega)).symm) dX0_heldOn_31
  · skip
    refine lv_iload_n hx hb dX0_heldOn_12 rfl (lv_at hl 1 rfl) ?_
    refine lv_aload_n hx hb dX0_heldOn_13 rfl (lv_at hl 0 rfl) ?_
    refine va_get (D := D) (ci := 0) (v := .ref a1) (C := RX0) (T := TX0) (N := 4) hx hb hts (fun _ h => (List.mem_cons_of_mem _ (List.mem_append_right _ h))) hown hK hP 0 rfl rfl 0 (by decide) (hts _ (List.mem_of_getElem? (i := 2) rfl)) (fun _ h9 => h9) rfl dX0_heldOn_14 ?_
    refine va_alen (v := nI 40) hx hb hK hP 1 0 rfl rfl rfl dX0_heldOn_17 ?_
    refine bn_ge (tgt := 30) hx hb dX0_heldOn_18 (by decide) (by omega) (by omega) (fun c18 => ?_) (fun c18 => ?_)
    · skip
      omega
    · skip
      refine lv_aload_n hx hb dX0_heldOn_21 rfl (lv_at hl 0 rfl) ?_
      refine va_get (D := D) (ci := 0) (v := .ref a1) (C := RX0) (T := TX0) (N := 4) hx hb hts (fun _ h => (List.mem_cons_of_mem _ (List.mem_append_right _ h))) hown hK hP 0 rfl rfl 0 (by decide) (hts _ (List.mem_of_getElem? (i := 2) rfl)) (fun _ h9 => h9) rfl dX0_heldOn_22 ?_
      refine lv_iload_n hx hb dX0_heldOn_25 rfl (lv_at hl 1 rfl) ?_
      refine al_i hx hb hK hP 1 0 rfl rfl (by omega) (by omega) dX0_heldOn_26 ?_
      refine lv_goto (tgt := 31) hx hb dX0_heldOn_27 (by decide) ?_
      exact en_i hx hb hr hlocks ((hF k c9).trans (if_pos c9).symm) dX0_heldOn_31
theorem k_X0_hookCount : yX0_hookCount.cls = RX0 ∧ yX0_hookCount.cls ≠ "java/lang/invoke/MethodHandle" ∧ yX0_hookCount.cls ≠ "java/lang/invoke/VarHandle" ∧ (parseMethodDescriptor yX0_hookCount.desc).map (fun d => d.parameters.length) = some 0 := by decide +kernel
set_option maxHeartbeats 4000000 in
set_option maxRecDepth 100000 in
theorem m_X0_hookCount (l : Launch) (D : va_G) (cI : ClassId) (h a1 a2 : Nat) {n w : Nat} {F G f g : Nat → Int32} (S : RS n w F G f g) : Met l yX0_hookCount wsX0_hookCount ({ frames := 0, cells := 0, slots := 0, locals := 0 } : Room) (PR D [(cI, .int)] [.ref h] (rkw cI h a1 a2 n w F G)) (vp_Si (fun r => r = nI n)) 0 0 (fun _ => False) := by
  obtain ⟨hn3, hn, hw2, hF, hG, hO⟩ := id S
  refine bd_p (cc := cX0_hookCount) (maxL := 1) (ret := (some .int)) (by decide) rfl (Nat.le_of_ble_eq_true rfl) ?_
  intro p e s m args below meth c ls CF hr hlocks hK hP hl
  obtain ⟨hx, hb, hml, hown, hts⟩ := id CF
  have hl : lv_has ls 1 [(0, .ref h)] := hl
  have hP : va_P D vwCl [(h, .inr (0, [.ref a1, .ref a2, .int (nI n), .int (nI w)])), (a1, .inl (cI, 40, .inl F)), (a2, .inl (cI, 40, .inl G))] s.heap := hP
  refine lv_aload_n hx hb dX0_hookCount_0 rfl (lv_at hl 0 rfl) ?_
  refine va_get (D := D) (ci := 0) (v := .int (nI n)) (C := RX0) (T := TX0) (N := 4) hx hb hts (fun _ h => (List.mem_cons_of_mem _ (List.mem_append_right _ h))) hown hK hP 0 rfl rfl 2 (by decide) (hts _ (List.mem_of_getElem? (i := 1) rfl)) (fun _ h9 => h9) rfl dX0_hookCount_1 ?_
  exact en_i hx hb hr hlocks rfl dX0_hookCount_4
theorem k_X0_usherWay : yX0_usherWay.cls = RX0 ∧ yX0_usherWay.cls ≠ "java/lang/invoke/MethodHandle" ∧ yX0_usherWay.cls ≠ "java/lang/invoke/VarHandle" ∧ (parseMethodDescriptor yX0_usherWay.desc).map (fun d => d.parameters.length) = some 0 := by decide +kernel
set_option maxHeartbeats 4000000 in
set_option maxRecDepth 100000 in
theorem m_X0_usherWay (l : Launch) (D : va_G) (cI : ClassId) (h a1 a2 : Nat) {n w : Nat} {F G f g : Nat → Int32} (S : RS n w F G f g) : Met l yX0_usherWay wsX0_usherWay ({ frames := 0, cells := 0, slots := 0, locals := 0 } : Room) (PR D [(cI, .int)] [.ref h] (rkw cI h a1 a2 n w F G)) (vp_Si (fun r => r = nI w)) 0 0 (fun _ => False) := by
  obtain ⟨hn3, hn, hw2, hF, hG, hO⟩ := id S
  refine bd_p (cc := cX0_usherWay) (maxL := 1) (ret := (some .int)) (by decide) rfl (Nat.le_of_ble_eq_true rfl) ?_
  intro p e s m args below meth c ls CF hr hlocks hK hP hl
  obtain ⟨hx, hb, hml, hown, hts⟩ := id CF
  have hl : lv_has ls 1 [(0, .ref h)] := hl
  have hP : va_P D vwCl [(h, .inr (0, [.ref a1, .ref a2, .int (nI n), .int (nI w)])), (a1, .inl (cI, 40, .inl F)), (a2, .inl (cI, 40, .inl G))] s.heap := hP
  refine lv_aload_n hx hb dX0_usherWay_0 rfl (lv_at hl 0 rfl) ?_
  refine va_get (D := D) (ci := 0) (v := .int (nI w)) (C := RX0) (T := TX0) (N := 4) hx hb hts (fun _ h => (List.mem_cons_of_mem _ (List.mem_append_right _ h))) hown hK hP 0 rfl rfl 3 (by decide) (hts _ (List.mem_of_getElem? (i := 1) rfl)) (fun _ h9 => h9) rfl dX0_usherWay_1 ?_
  exact en_i hx hb hr hlocks rfl dX0_usherWay_4
theorem k_X0_weightOn : yX0_weightOn.cls = RX0 ∧ yX0_weightOn.cls ≠ "java/lang/invoke/MethodHandle" ∧ yX0_weightOn.cls ≠ "java/lang/invoke/VarHandle" ∧ (parseMethodDescriptor yX0_weightOn.desc).map (fun d => d.parameters.length) = some 1 := by decide +kernel
set_option maxHeartbeats 4000000 in
set_option maxRecDepth 100000 in
theorem m_X0_weightOn (l : Launch) (D : va_G) (cI : ClassId) (h a1 a2 : Nat) {n w : Nat} {F G f g : Nat → Int32} (S : RS n w F G f g) (k : Nat) (hk : k < 2 ^ 31) : Met l yX0_weightOn wsX0_weightOn ({ frames := 0, cells := 0, slots := 0, locals := 0 } : Room) (PR D [(cI, .int)] [.ref h, .int (nI k)] (rkw cI h a1 a2 n w F G)) (vp_Si (fun r => r = hw n g k)) 0 0 (fun _ => False) := by
  obtain ⟨hn3, hn, hw2, hF, hG, hO⟩ := id S
  refine bd_p (cc := cX0_weightOn) (maxL := 2) (ret := (some .int)) (by decide) rfl (Nat.le_of_ble_eq_true rfl) ?_
  intro p e s m args below meth c ls CF hr hlocks hK hP hl
  obtain ⟨hx, hb, hml, hown, hts⟩ := id CF
  have hl : lv_has ls 2 [(0, .ref h), (1, .int (nI k))] := hl
  have hP : va_P D vwCl [(h, .inr (0, [.ref a1, .ref a2, .int (nI n), .int (nI w)])), (a1, .inl (cI, 40, .inl F)), (a2, .inl (cI, 40, .inl G))] s.heap := hP
  refine lv_iload_n hx hb dX0_weightOn_0 rfl (lv_at hl 1 rfl) ?_
  refine bz_lt (tgt := 30) hx hb dX0_weightOn_1 (by decide) (by omega) ?_
  refine lv_iload_n hx hb dX0_weightOn_4 rfl (lv_at hl 1 rfl) ?_
  refine lv_aload_n hx hb dX0_weightOn_5 rfl (lv_at hl 0 rfl) ?_
  refine va_get (D := D) (ci := 0) (v := .int (nI n)) (C := RX0) (T := TX0) (N := 4) hx hb hts (fun _ h => (List.mem_cons_of_mem _ (List.mem_append_right _ h))) hown hK hP 0 rfl rfl 2 (by decide) (hts _ (List.mem_of_getElem? (i := 1) rfl)) (fun _ h9 => h9) rfl dX0_weightOn_6 ?_
  refine bn_ge (tgt := 30) hx hb dX0_weightOn_9 (by decide) (by omega) (by omega) (fun c9 => ?_) (fun c9 => ?_)
  · skip
    refine lv_iconst (v := nI 0) hx hb dX0_weightOn_30 (by decide) ?_
    exact en_i hx hb hr hlocks ((if_neg (by omega)).symm) dX0_weightOn_31
  · skip
    refine lv_iload_n hx hb dX0_weightOn_12 rfl (lv_at hl 1 rfl) ?_
    refine lv_aload_n hx hb dX0_weightOn_13 rfl (lv_at hl 0 rfl) ?_
    refine va_get (D := D) (ci := 0) (v := .ref a2) (C := RX0) (T := TX0) (N := 4) hx hb hts (fun _ h => (List.mem_cons_of_mem _ (List.mem_append_right _ h))) hown hK hP 0 rfl rfl 1 (by decide) (hts _ (List.mem_of_getElem? (i := 2) rfl)) (fun _ h9 => h9) rfl dX0_weightOn_14 ?_
    refine va_alen (v := nI 40) hx hb hK hP 2 0 rfl rfl rfl dX0_weightOn_17 ?_
    refine bn_ge (tgt := 30) hx hb dX0_weightOn_18 (by decide) (by omega) (by omega) (fun c18 => ?_) (fun c18 => ?_)
    · skip
      omega
    · skip
      refine lv_aload_n hx hb dX0_weightOn_21 rfl (lv_at hl 0 rfl) ?_
      refine va_get (D := D) (ci := 0) (v := .ref a2) (C := RX0) (T := TX0) (N := 4) hx hb hts (fun _ h => (List.mem_cons_of_mem _ (List.mem_append_right _ h))) hown hK hP 0 rfl rfl 1 (by decide) (hts _ (List.mem_of_getElem? (i := 2) rfl)) (fun _ h9 => h9) rfl dX0_weightOn_22 ?_
      refine lv_iload_n hx hb dX0_weightOn_25 rfl (lv_at hl 1 rfl) ?_
      refine al_i hx hb hK hP 2 0 rfl rfl (by omega) (by omega) dX0_weightOn_26 ?_
      refine lv_goto (tgt := 31) hx hb dX0_weightOn_27 (by decide) ?_
      exact en_i hx hb hr hlocks ((hG k c9).trans (if_pos c9).symm) dX0_weightOn_31
theorem k_X0_stateOn : yX0_stateOn.cls = RX0 ∧ yX0_stateOn.cls ≠ "java/lang/invoke/MethodHandle" ∧ yX0_stateOn.cls ≠ "java/lang/invoke/VarHandle" ∧ (parseMethodDescriptor yX0_stateOn.desc).map (fun d => d.parameters.length) = some 1 := by decide +kernel
set_option maxHeartbeats 4000000 in
set_option maxRecDepth 100000 in
theorem m_X0_stateOn (l : Launch) (D : va_G) (cI : ClassId) (h a1 a2 : Nat) {n w : Nat} {F G f g : Nat → Int32} (S : RS n w F G f g) (k : Nat) (hk : k < 2 ^ 31) : Met l yX0_stateOn wsX0_stateOn ({ frames := 1, cells := 0, slots := 0, locals := 21 } : Room) (PR D [(cI, .int)] [.ref h, .int (nI k)] (rkw cI h a1 a2 n w F G)) (vp_Si (fun r => r = st (hd n f k))) 0 0 (fun _ => False) := by
  obtain ⟨hn3, hn, hw2, hF, hG, hO⟩ := id S
  refine bd_p (cc := cX0_stateOn) (maxL := 3) (ret := (some .int)) (by decide) rfl (Nat.le_of_ble_eq_true rfl) ?_
  intro p e s m args below meth c ls CF hr hlocks hK hP hl
  obtain ⟨hx, hb, hml, hown, hts⟩ := id CF
  have hl : lv_has ls 3 [(0, .ref h), (1, .int (nI k))] := hl
  have hP : va_P D vwCl [(h, .inr (0, [.ref a1, .ref a2, .int (nI n), .int (nI w)])), (a1, .inl (cI, 40, .inl F)), (a2, .inl (cI, 40, .inl G))] s.heap := hP
  refine lv_aload_n hx hb dX0_stateOn_0 rfl (lv_at hl 0 rfl) ?_
  refine lv_iload_n hx hb dX0_stateOn_1 rfl (lv_at hl 1 rfl) ?_
  refine pv_i CF (m_X0_heldOn l D cI h a1 a2 S k hk) (cwV 1 hts gX0_stateOn_X0_heldOn rfl rfl rfl k_X0_heldOn ⟨Nat.le_of_ble_eq_true rfl, Nat.le_of_ble_eq_true rfl⟩) hK hP rfl rfl rfl rfl hl.1 rfl (Nat.le_of_ble_eq_true rfl) dX0_stateOn_2 ⟨Nat.zero_le _, Nat.zero_le _⟩ ?_
  refine lv_istore_n (lv' := [(2, .int (hd n f k)), (0, .ref h), (1, .int (nI k))]) hx hb dX0_stateOn_5 rfl hl (by decide) rfl (fun ls hl => ?_)
  refine lv_iload_n hx hb dX0_stateOn_6 rfl (lv_at hl 0 rfl) ?_
  refine lv_iconst (v := (-1)) hx hb dX0_stateOn_7 (by decide) ?_
  refine lv_icmp_ne (tgt := 13) hx hb dX0_stateOn_8 (by decide) (fun c8 => ?_) (fun c8 => ?_)
  · skip
    refine lv_iload_n hx hb dX0_stateOn_13 rfl (lv_at hl 0 rfl) ?_
    refine lv_bipush (v := (-2)) hx hb dX0_stateOn_14 (by decide) ?_
    refine lv_icmp_ne (tgt := 23) hx hb dX0_stateOn_16 (by decide) (fun c16 => ?_) (fun c16 => ?_)
    · skip
      refine lv_iconst (v := nI 1) hx hb dX0_stateOn_23 (by decide) ?_
      exact en_i hx hb hr hlocks (((if_neg c8).trans (if_neg c16)).symm) dX0_stateOn_24
    · skip
      refine lv_iconst (v := nI 2) hx hb dX0_stateOn_19 (by decide) ?_
      refine lv_goto (tgt := 24) hx hb dX0_stateOn_20 (by decide) ?_
      exact en_i hx hb hr hlocks (((if_neg c8).trans (if_pos c16)).symm) dX0_stateOn_24
  · skip
    refine lv_iconst (v := nI 0) hx hb dX0_stateOn_11 (by decide) ?_
    exact en_i hx hb hr hlocks ((if_pos c8).symm) dX0_stateOn_12
theorem k_X0_coatOn : yX0_coatOn.cls = RX0 ∧ yX0_coatOn.cls ≠ "java/lang/invoke/MethodHandle" ∧ yX0_coatOn.cls ≠ "java/lang/invoke/VarHandle" ∧ (parseMethodDescriptor yX0_coatOn.desc).map (fun d => d.parameters.length) = some 1 := by decide +kernel
set_option maxHeartbeats 4000000 in
set_option maxRecDepth 100000 in
theorem m_X0_coatOn (l : Launch) (D : va_G) (cI : ClassId) (h a1 a2 : Nat) {n w : Nat} {F G f g : Nat → Int32} (S : RS n w F G f g) (k : Nat) (hk : k < 2 ^ 31) : Met l yX0_coatOn wsX0_coatOn ({ frames := 1, cells := 0, slots := 0, locals := 21 } : Room) (PR D [(cI, .int)] [.ref h, .int (nI k)] (rkw cI h a1 a2 n w F G)) (vp_Si (fun r => r = cn (hd n f k))) 0 0 (fun _ => False) := by
  obtain ⟨hn3, hn, hw2, hF, hG, hO⟩ := id S
  refine bd_p (cc := cX0_coatOn) (maxL := 3) (ret := (some .int)) (by decide) rfl (Nat.le_of_ble_eq_true rfl) ?_
  intro p e s m args below meth c ls CF hr hlocks hK hP hl
  obtain ⟨hx, hb, hml, hown, hts⟩ := id CF
  have hl : lv_has ls 3 [(0, .ref h), (1, .int (nI k))] := hl
  have hP : va_P D vwCl [(h, .inr (0, [.ref a1, .ref a2, .int (nI n), .int (nI w)])), (a1, .inl (cI, 40, .inl F)), (a2, .inl (cI, 40, .inl G))] s.heap := hP
  refine lv_aload_n hx hb dX0_coatOn_0 rfl (lv_at hl 0 rfl) ?_
  refine lv_iload_n hx hb dX0_coatOn_1 rfl (lv_at hl 1 rfl) ?_
  refine pv_i CF (m_X0_heldOn l D cI h a1 a2 S k hk) (cwV 1 hts gX0_coatOn_X0_heldOn rfl rfl rfl k_X0_heldOn ⟨Nat.le_of_ble_eq_true rfl, Nat.le_of_ble_eq_true rfl⟩) hK hP rfl rfl rfl rfl hl.1 rfl (Nat.le_of_ble_eq_true rfl) dX0_coatOn_2 ⟨Nat.zero_le _, Nat.zero_le _⟩ ?_
  refine lv_istore_n (lv' := [(2, .int (hd n f k)), (0, .ref h), (1, .int (nI k))]) hx hb dX0_coatOn_5 rfl hl (by decide) rfl (fun ls hl => ?_)
  refine lv_iload_n hx hb dX0_coatOn_6 rfl (lv_at hl 0 rfl) ?_
  refine lv_if_lt (tgt := 14) hx hb dX0_coatOn_7 (by decide) (fun c7 => ?_) (fun c7 => ?_)
  · skip
    refine lv_iconst (v := (-1)) hx hb dX0_coatOn_14 (by decide) ?_
    exact en_i hx hb hr hlocks ((if_neg (fun z => absurd c7 (not_lt0 z))).symm) dX0_coatOn_15
  · skip
    refine lv_iload_n hx hb dX0_coatOn_10 rfl (lv_at hl 0 rfl) ?_
    refine lv_goto (tgt := 15) hx hb dX0_coatOn_11 (by decide) ?_
    exact en_i hx hb hr hlocks ((if_pos (ge0 c7)).symm) dX0_coatOn_15
theorem k_X0_countInState : yX0_countInState.cls = RX0 ∧ yX0_countInState.cls ≠ "java/lang/invoke/MethodHandle" ∧ yX0_countInState.cls ≠ "java/lang/invoke/VarHandle" ∧ (parseMethodDescriptor yX0_countInState.desc).map (fun d => d.parameters.length) = some 1 := by decide +kernel
set_option maxHeartbeats 4000000 in
set_option maxRecDepth 100000 in
theorem m_X0_countInState (l : Launch) (D : va_G) (cI : ClassId) (h a1 a2 : Nat) {n w : Nat} {F G f g : Nat → Int32} (S : RS n w F G f g) (v : Int32) : Met l yX0_countInState wsX0_countInState ({ frames := 2, cells := 0, slots := 0, locals := 43 } : Room) (PR D [(cI, .int)] [.ref h, .int v] (rkw cI h a1 a2 n w F G)) (vp_Si (fun r => r = nI (ct n f v))) 0 0 (fun _ => False) := by
  obtain ⟨hn3, hn, hw2, hF, hG, hO⟩ := id S
  refine bd_p (cc := cX0_countInState) (maxL := 4) (ret := (some .int)) (by decide) rfl (Nat.le_of_ble_eq_true rfl) ?_
  intro p e s m args below meth c ls CF hr hlocks hK hP hl
  obtain ⟨hx, hb, hml, hown, hts⟩ := id CF
  have hl : lv_has ls 4 [(0, .ref h), (1, .int v)] := hl
  have hP : va_P D vwCl [(h, .inr (0, [.ref a1, .ref a2, .int (nI n), .int (nI w)])), (a1, .inl (cI, 40, .inl F)), (a2, .inl (cI, 40, .inl G))] s.heap := hP
  refine lv_iconst (v := nI 0) hx hb dX0_countInState_0 (by decide) ?_
  refine lv_istore_n (lv' := [(2, .int (nI 0)), (0, .ref h), (1, .int v)]) hx hb dX0_countInState_1 rfl hl (by decide) rfl (fun ls hl => ?_)
  refine lv_iconst (v := nI 0) hx hb dX0_countInState_2 (by decide) ?_
  refine lv_istore_n (lv' := [(3, .int (nI 0)), (2, .int (nI 0)), (0, .ref h), (1, .int v)]) hx hb dX0_countInState_3 rfl hl (by decide) rfl (fun ls hl => ?_)
  have LP4 : ∀ (q i a : Nat), i + q = n → fo (fun a i => if st (f i) = v then a + 1 else a) q i a = ct n f v → ∀ (ls : Array Slot), lv_has ls 4 [(3, .int (nI i)), (2, .int (nI a)), (0, .ref h), (1, .int v)] → W p l e ({ frames := 2, cells := 0, slots := 0, locals := 43 } : Room) s m args below meth c s.heap [] 0 0 (MQ below (vp_Si (fun r => r = nI (ct n f v))) args s 0 0 (fun _ => False)) (F0 m 4 ls []) := by
    intro q
    induction q with
    | zero =>
      intro i a h1 h2 ls hl
      refine lv_iload_n hx hb dX0_countInState_4 rfl (lv_at hl 0 rfl) ?_
      refine lv_aload_n hx hb dX0_countInState_5 rfl (lv_at hl 2 rfl) ?_
      refine va_get (D := D) (ci := 0) (v := .int (nI n)) (C := RX0) (T := TX0) (N := 4) hx hb hts (fun _ h => (List.mem_cons_of_mem _ (List.mem_append_right _ h))) hown hK hP 0 rfl rfl 2 (by decide) (hts _ (List.mem_of_getElem? (i := 1) rfl)) (fun _ h9 => h9) rfl dX0_countInState_6 ?_
      refine bn_ge (tgt := 30) hx hb dX0_countInState_9 (by decide) (by omega) (by omega) (fun c9 => ?_) (fun c9 => ?_)
      · skip
        refine lv_iload_n hx hb dX0_countInState_30 rfl (lv_at hl 1 rfl) ?_
        exact en_i hx hb hr hlocks (congrArg nI h2) dX0_countInState_31
      · skip
        omega
    | succ q ih =>
      intro i a h1 h2 ls hl
      refine lv_iload_n hx hb dX0_countInState_4 rfl (lv_at hl 0 rfl) ?_
      refine lv_aload_n hx hb dX0_countInState_5 rfl (lv_at hl 2 rfl) ?_
      refine va_get (D := D) (ci := 0) (v := .int (nI n)) (C := RX0) (T := TX0) (N := 4) hx hb hts (fun _ h => (List.mem_cons_of_mem _ (List.mem_append_right _ h))) hown hK hP 0 rfl rfl 2 (by decide) (hts _ (List.mem_of_getElem? (i := 1) rfl)) (fun _ h9 => h9) rfl dX0_countInState_6 ?_
      refine bn_ge (tgt := 30) hx hb dX0_countInState_9 (by decide) (by omega) (by omega) (fun c9 => ?_) (fun c9 => ?_)
      · skip
        omega
      · skip
        refine lv_aload_n hx hb dX0_countInState_12 rfl (lv_at hl 2 rfl) ?_
        refine lv_iload_n hx hb dX0_countInState_13 rfl (lv_at hl 0 rfl) ?_
        refine pv_i CF (m_X0_stateOn l D cI h a1 a2 S i (by omega)) (cwV 1 hts gX0_countInState_X0_stateOn rfl rfl rfl k_X0_stateOn ⟨Nat.le_of_ble_eq_true rfl, Nat.le_of_ble_eq_true rfl⟩) hK hP rfl rfl rfl rfl hl.1 rfl (Nat.le_of_ble_eq_true rfl) dX0_countInState_14 ⟨Nat.zero_le _, Nat.zero_le _⟩ ?_
        refine lv_iload_n hx hb dX0_countInState_17 rfl (lv_at hl 3 rfl) ?_
        refine lv_icmp_ne (tgt := 24) hx hb dX0_countInState_18 (by decide) (fun c18 => ?_) (fun c18 => ?_)
        · skip
          rw [show hd n f i = f i from if_pos (by omega)] at c18
          refine lv_iinc (v := (nI (i + 1))) (lv' := [(3, .int (nI (i + 1))), (2, .int (nI a)), (0, .ref h), (1, .int v)]) hx hb dX0_countInState_24 hl (k := 0) rfl (inc1 _) (by decide) rfl (fun ls hl => ?_)
          refine lv_goto (tgt := 4) hx hb dX0_countInState_27 (by decide) ?_
          exact ih (i + 1) a (by omega) (by rw [fo_s, if_neg c18] at h2; exact h2) _ (lv_sub hl [0, 1, 2, 3] rfl)
        · skip
          rw [show hd n f i = f i from if_pos (by omega)] at c18
          refine lv_iinc (v := (nI (a + 1))) (lv' := [(2, .int (nI (a + 1))), (3, .int (nI i)), (0, .ref h), (1, .int v)]) hx hb dX0_countInState_21 hl (k := 1) rfl (inc1 _) (by decide) rfl (fun ls hl => ?_)
          refine lv_iinc (v := (nI (i + 1))) (lv' := [(3, .int (nI (i + 1))), (2, .int (nI (a + 1))), (0, .ref h), (1, .int v)]) hx hb dX0_countInState_24 hl (k := 1) rfl (inc1 _) (by decide) rfl (fun ls hl => ?_)
          refine lv_goto (tgt := 4) hx hb dX0_countInState_27 (by decide) ?_
          exact ih (i + 1) (a + 1) (by omega) (by rw [fo_s, if_pos c18] at h2; exact h2) _ (lv_sub hl [0, 1, 2, 3] rfl)
  exact LP4 n 0 0 (Nat.zero_add n) rfl _ (lv_sub hl [0, 1, 2, 3] rfl)
theorem k_X0_weightOfAll : yX0_weightOfAll.cls = RX0 ∧ yX0_weightOfAll.cls ≠ "java/lang/invoke/MethodHandle" ∧ yX0_weightOfAll.cls ≠ "java/lang/invoke/VarHandle" ∧ (parseMethodDescriptor yX0_weightOfAll.desc).map (fun d => d.parameters.length) = some 0 := by decide +kernel
set_option maxHeartbeats 4000000 in
set_option maxRecDepth 100000 in
theorem m_X0_weightOfAll (l : Launch) (D : va_G) (cI : ClassId) (h a1 a2 : Nat) {n w : Nat} {F G f g : Nat → Int32} (S : RS n w F G f g) : Met l yX0_weightOfAll wsX0_weightOfAll ({ frames := 1, cells := 0, slots := 0, locals := 21 } : Room) (PR D [(cI, .int)] [.ref h] (rkw cI h a1 a2 n w F G)) (vp_Si (fun r => r = wa n g)) 0 0 (fun _ => False) := by
  obtain ⟨hn3, hn, hw2, hF, hG, hO⟩ := id S
  refine bd_p (cc := cX0_weightOfAll) (maxL := 3) (ret := (some .int)) (by decide) rfl (Nat.le_of_ble_eq_true rfl) ?_
  intro p e s m args below meth c ls CF hr hlocks hK hP hl
  obtain ⟨hx, hb, hml, hown, hts⟩ := id CF
  have hl : lv_has ls 3 [(0, .ref h)] := hl
  have hP : va_P D vwCl [(h, .inr (0, [.ref a1, .ref a2, .int (nI n), .int (nI w)])), (a1, .inl (cI, 40, .inl F)), (a2, .inl (cI, 40, .inl G))] s.heap := hP
  refine lv_iconst (v := nI 0) hx hb dX0_weightOfAll_0 (by decide) ?_
  refine lv_istore_n (lv' := [(1, .int (nI 0)), (0, .ref h)]) hx hb dX0_weightOfAll_1 rfl hl (by decide) rfl (fun ls hl => ?_)
  refine lv_iconst (v := nI 0) hx hb dX0_weightOfAll_2 (by decide) ?_
  refine lv_istore_n (lv' := [(2, .int (nI 0)), (1, .int (nI 0)), (0, .ref h)]) hx hb dX0_weightOfAll_3 rfl hl (by decide) rfl (fun ls hl => ?_)
  have LP4 : ∀ (q i : Nat) (a : Int32), i + q = n → fo (fun a i => a + g i) q i a = wa n g → ∀ (ls : Array Slot), lv_has ls 3 [(2, .int (nI i)), (1, .int a), (0, .ref h)] → W p l e ({ frames := 1, cells := 0, slots := 0, locals := 21 } : Room) s m args below meth c s.heap [] 0 0 (MQ below (vp_Si (fun r => r = wa n g)) args s 0 0 (fun _ => False)) (F0 m 4 ls []) := by
    intro q
    induction q with
    | zero =>
      intro i a h1 h2 ls hl
      refine lv_iload_n hx hb dX0_weightOfAll_4 rfl (lv_at hl 0 rfl) ?_
      refine lv_aload_n hx hb dX0_weightOfAll_5 rfl (lv_at hl 2 rfl) ?_
      refine va_get (D := D) (ci := 0) (v := .int (nI n)) (C := RX0) (T := TX0) (N := 4) hx hb hts (fun _ h => (List.mem_cons_of_mem _ (List.mem_append_right _ h))) hown hK hP 0 rfl rfl 2 (by decide) (hts _ (List.mem_of_getElem? (i := 1) rfl)) (fun _ h9 => h9) rfl dX0_weightOfAll_6 ?_
      refine bn_ge (tgt := 26) hx hb dX0_weightOfAll_9 (by decide) (by omega) (by omega) (fun c9 => ?_) (fun c9 => ?_)
      · skip
        refine lv_iload_n hx hb dX0_weightOfAll_26 rfl (lv_at hl 1 rfl) ?_
        exact en_i hx hb hr hlocks h2 dX0_weightOfAll_27
      · skip
        omega
    | succ q ih =>
      intro i a h1 h2 ls hl
      refine lv_iload_n hx hb dX0_weightOfAll_4 rfl (lv_at hl 0 rfl) ?_
      refine lv_aload_n hx hb dX0_weightOfAll_5 rfl (lv_at hl 2 rfl) ?_
      refine va_get (D := D) (ci := 0) (v := .int (nI n)) (C := RX0) (T := TX0) (N := 4) hx hb hts (fun _ h => (List.mem_cons_of_mem _ (List.mem_append_right _ h))) hown hK hP 0 rfl rfl 2 (by decide) (hts _ (List.mem_of_getElem? (i := 1) rfl)) (fun _ h9 => h9) rfl dX0_weightOfAll_6 ?_
      refine bn_ge (tgt := 26) hx hb dX0_weightOfAll_9 (by decide) (by omega) (by omega) (fun c9 => ?_) (fun c9 => ?_)
      · skip
        omega
      · skip
        refine lv_iload_n hx hb dX0_weightOfAll_12 rfl (lv_at hl 1 rfl) ?_
        refine lv_aload_n hx hb dX0_weightOfAll_13 rfl (lv_at hl 2 rfl) ?_
        refine lv_iload_n hx hb dX0_weightOfAll_14 rfl (lv_at hl 0 rfl) ?_
        refine pv_i CF (m_X0_weightOn l D cI h a1 a2 S i (by omega)) (cwV 1 hts gX0_weightOfAll_X0_weightOn rfl rfl rfl k_X0_weightOn ⟨Nat.le_of_ble_eq_true rfl, Nat.le_of_ble_eq_true rfl⟩) hK hP rfl rfl rfl rfl hl.1 rfl (Nat.le_of_ble_eq_true rfl) dX0_weightOfAll_15 ⟨Nat.zero_le _, Nat.zero_le _⟩ ?_
        refine tp_i (y := (g i)) (if_pos (by omega)) ?_
        refine lv_iadd hx hb dX0_weightOfAll_18 ?_
        refine lv_istore_n (lv' := [(1, .int (a + (g i))), (2, .int (nI i)), (0, .ref h)]) hx hb dX0_weightOfAll_19 rfl hl (by decide) rfl (fun ls hl => ?_)
        refine lv_iinc (v := (nI (i + 1))) (lv' := [(2, .int (nI (i + 1))), (1, .int (a + (g i))), (0, .ref h)]) hx hb dX0_weightOfAll_20 hl (k := 1) rfl (inc1 _) (by decide) rfl (fun ls hl => ?_)
        refine lv_goto (tgt := 4) hx hb dX0_weightOfAll_23 (by decide) ?_
        exact ih (i + 1) (a + g i) (by omega) h2 _ (lv_sub hl [0, 1, 2] rfl)
  exact LP4 n 0 (nI 0) (Nat.zero_add n) rfl _ (lv_sub hl [0, 1, 2] rfl)
theorem k_X0_hookOfHeaviest : yX0_hookOfHeaviest.cls = RX0 ∧ yX0_hookOfHeaviest.cls ≠ "java/lang/invoke/MethodHandle" ∧ yX0_hookOfHeaviest.cls ≠ "java/lang/invoke/VarHandle" ∧ (parseMethodDescriptor yX0_hookOfHeaviest.desc).map (fun d => d.parameters.length) = some 0 := by decide +kernel
set_option maxHeartbeats 4000000 in
set_option maxRecDepth 100000 in
theorem m_X0_hookOfHeaviest (l : Launch) (D : va_G) (cI : ClassId) (h a1 a2 : Nat) {n w : Nat} {F G f g : Nat → Int32} (S : RS n w F G f g) : Met l yX0_hookOfHeaviest wsX0_hookOfHeaviest ({ frames := 1, cells := 0, slots := 0, locals := 21 } : Room) (PR D [(cI, .int)] [.ref h] (rkw cI h a1 a2 n w F G)) (vp_Si (fun r => r = (hv n g).1)) 0 0 (fun _ => False) := by
  obtain ⟨hn3, hn, hw2, hF, hG, hO⟩ := id S
  refine bd_p (cc := cX0_hookOfHeaviest) (maxL := 4) (ret := (some .int)) (by decide) rfl (Nat.le_of_ble_eq_true rfl) ?_
  intro p e s m args below meth c ls CF hr hlocks hK hP hl
  obtain ⟨hx, hb, hml, hown, hts⟩ := id CF
  have hl : lv_has ls 4 [(0, .ref h)] := hl
  have hP : va_P D vwCl [(h, .inr (0, [.ref a1, .ref a2, .int (nI n), .int (nI w)])), (a1, .inl (cI, 40, .inl F)), (a2, .inl (cI, 40, .inl G))] s.heap := hP
  refine lv_iconst (v := (-1)) hx hb dX0_hookOfHeaviest_0 (by decide) ?_
  refine lv_istore_n (lv' := [(1, .int (-1)), (0, .ref h)]) hx hb dX0_hookOfHeaviest_1 rfl hl (by decide) rfl (fun ls hl => ?_)
  refine lv_iconst (v := nI 0) hx hb dX0_hookOfHeaviest_2 (by decide) ?_
  refine lv_istore_n (lv' := [(2, .int (nI 0)), (1, .int (-1)), (0, .ref h)]) hx hb dX0_hookOfHeaviest_3 rfl hl (by decide) rfl (fun ls hl => ?_)
  refine lv_iconst (v := nI 0) hx hb dX0_hookOfHeaviest_4 (by decide) ?_
  refine lv_istore_n (lv' := [(3, .int (nI 0)), (2, .int (nI 0)), (1, .int (-1)), (0, .ref h)]) hx hb dX0_hookOfHeaviest_5 rfl hl (by decide) rfl (fun ls hl => ?_)
  have LP6 : ∀ (q i : Nat) (a b : Int32), i + q = n → fo (fun (a : Int32 × Int32) i => if a.2 < g i then (nI i, g i) else a) q i (a, b) = hv n g → ∀ (ls : Array Slot), lv_has ls 4 [(3, .int (nI i)), (2, .int b), (1, .int a), (0, .ref h)] → W p l e ({ frames := 1, cells := 0, slots := 0, locals := 21 } : Room) s m args below meth c s.heap [] 0 0 (MQ below (vp_Si (fun r => r = (hv n g).1)) args s 0 0 (fun _ => False)) (F0 m 6 ls []) := by
    intro q
    induction q with
    | zero =>
      intro i a b h1 h2 ls hl
      refine lv_iload_n hx hb dX0_hookOfHeaviest_6 rfl (lv_at hl 0 rfl) ?_
      refine lv_aload_n hx hb dX0_hookOfHeaviest_7 rfl (lv_at hl 3 rfl) ?_
      refine va_get (D := D) (ci := 0) (v := .int (nI n)) (C := RX0) (T := TX0) (N := 4) hx hb hts (fun _ h => (List.mem_cons_of_mem _ (List.mem_append_right _ h))) hown hK hP 0 rfl rfl 2 (by decide) (hts _ (List.mem_of_getElem? (i := 1) rfl)) (fun _ h9 => h9) rfl dX0_hookOfHeaviest_8 ?_
      refine bn_ge (tgt := 37) hx hb dX0_hookOfHeaviest_11 (by decide) (by omega) (by omega) (fun c11 => ?_) (fun c11 => ?_)
      · skip
        refine lv_iload_n hx hb dX0_hookOfHeaviest_37 rfl (lv_at hl 2 rfl) ?_
        exact en_i hx hb hr hlocks (congrArg Prod.fst h2 : _) dX0_hookOfHeaviest_38
      · skip
        omega
    | succ q ih =>
      intro i a b h1 h2 ls hl
      refine lv_iload_n hx hb dX0_hookOfHeaviest_6 rfl (lv_at hl 0 rfl) ?_
      refine lv_aload_n hx hb dX0_hookOfHeaviest_7 rfl (lv_at hl 3 rfl) ?_
      refine va_get (D := D) (ci := 0) (v := .int (nI n)) (C := RX0) (T := TX0) (N := 4) hx hb hts (fun _ h => (List.mem_cons_of_mem _ (List.mem_append_right _ h))) hown hK hP 0 rfl rfl 2 (by decide) (hts _ (List.mem_of_getElem? (i := 1) rfl)) (fun _ h9 => h9) rfl dX0_hookOfHeaviest_8 ?_
      refine bn_ge (tgt := 37) hx hb dX0_hookOfHeaviest_11 (by decide) (by omega) (by omega) (fun c11 => ?_) (fun c11 => ?_)
      · skip
        omega
      · skip
        refine lv_aload_n hx hb dX0_hookOfHeaviest_14 rfl (lv_at hl 3 rfl) ?_
        refine lv_iload_n hx hb dX0_hookOfHeaviest_15 rfl (lv_at hl 0 rfl) ?_
        refine pv_i CF (m_X0_weightOn l D cI h a1 a2 S i (by omega)) (cwV 1 hts gX0_hookOfHeaviest_X0_weightOn rfl rfl rfl k_X0_weightOn ⟨Nat.le_of_ble_eq_true rfl, Nat.le_of_ble_eq_true rfl⟩) hK hP rfl rfl rfl rfl hl.1 rfl (Nat.le_of_ble_eq_true rfl) dX0_hookOfHeaviest_16 ⟨Nat.zero_le _, Nat.zero_le _⟩ ?_
        refine tp_i (y := (g i)) (if_pos (by omega)) ?_
        refine lv_iload_n hx hb dX0_hookOfHeaviest_19 rfl (lv_at hl 1 rfl) ?_
        refine lv_icmp_le (tgt := 31) hx hb dX0_hookOfHeaviest_20 (by decide) (fun c20 => ?_) (fun c20 => ?_)
        · skip
          refine lv_iinc (v := (nI (i + 1))) (lv' := [(3, .int (nI (i + 1))), (2, .int b), (1, .int a), (0, .ref h)]) hx hb dX0_hookOfHeaviest_31 hl (k := 0) rfl (inc1 _) (by decide) rfl (fun ls hl => ?_)
          refine lv_goto (tgt := 6) hx hb dX0_hookOfHeaviest_34 (by decide) ?_
          exact ih (i + 1) a b (by omega) (by rw [fo_s, if_neg (nlt_of_le c20)] at h2; exact h2) _ (lv_sub hl [0, 1, 2, 3] rfl)
        · skip
          refine lv_iload_n hx hb dX0_hookOfHeaviest_23 rfl (lv_at hl 0 rfl) ?_
          refine lv_istore_n (lv' := [(1, .int (nI i)), (3, .int (nI i)), (2, .int b), (0, .ref h)]) hx hb dX0_hookOfHeaviest_24 rfl hl (by decide) rfl (fun ls hl => ?_)
          refine lv_aload_n hx hb dX0_hookOfHeaviest_25 rfl (lv_at hl 3 rfl) ?_
          refine lv_iload_n hx hb dX0_hookOfHeaviest_26 rfl (lv_at hl 1 rfl) ?_
          refine pv_i CF (m_X0_weightOn l D cI h a1 a2 S i (by omega)) (cwV 1 hts gX0_hookOfHeaviest_X0_weightOn rfl rfl rfl k_X0_weightOn ⟨Nat.le_of_ble_eq_true rfl, Nat.le_of_ble_eq_true rfl⟩) hK hP rfl rfl rfl rfl hl.1 rfl (Nat.le_of_ble_eq_true rfl) dX0_hookOfHeaviest_27 ⟨Nat.zero_le _, Nat.zero_le _⟩ ?_
          refine tp_i (y := (g i)) (if_pos (by omega)) ?_
          refine lv_istore_n (lv' := [(2, .int (g i)), (1, .int (nI i)), (3, .int (nI i)), (0, .ref h)]) hx hb dX0_hookOfHeaviest_30 rfl hl (by decide) rfl (fun ls hl => ?_)
          refine lv_iinc (v := (nI (i + 1))) (lv' := [(3, .int (nI (i + 1))), (2, .int (g i)), (1, .int (nI i)), (0, .ref h)]) hx hb dX0_hookOfHeaviest_31 hl (k := 2) rfl (inc1 _) (by decide) rfl (fun ls hl => ?_)
          refine lv_goto (tgt := 6) hx hb dX0_hookOfHeaviest_34 (by decide) ?_
          exact ih (i + 1) (nI i) (g i) (by omega) (by rw [fo_s, if_pos (lt_of_nle c20)] at h2; exact h2) _ (lv_sub hl [0, 1, 2, 3] rfl)
  exact LP6 n 0 (-1) (nI 0) (Nat.zero_add n) rfl _ (lv_sub hl [0, 1, 2, 3] rfl)
theorem k_X0_hookInStep : yX0_hookInStep.cls = RX0 ∧ yX0_hookInStep.cls ≠ "java/lang/invoke/MethodHandle" ∧ yX0_hookInStep.cls ≠ "java/lang/invoke/VarHandle" ∧ (parseMethodDescriptor yX0_hookInStep.desc).map (fun d => d.parameters.length) = some 2 := by decide +kernel
set_option maxHeartbeats 4000000 in
set_option maxRecDepth 100000 in
theorem m_X0_hookInStep (l : Launch) (D : va_G) (cI : ClassId) (h a1 a2 : Nat) {n w : Nat} {F G f g : Nat → Int32} (S : RS n w F G f g) (x k : Nat) (hx9 : x ≤ 9999) (hk : k ≤ 40) : Met l yX0_hookInStep wsX0_hookInStep ({ frames := 0, cells := 0, slots := 0, locals := 0 } : Room) (PR D [(cI, .int)] [.ref h, .int (nI x), .int (nI k)] (rkw cI h a1 a2 n w F G)) (vp_Si (fun r => r = nI (at_ n w x k))) 0 0 (fun _ => False) := by
  obtain ⟨hn3, hn, hw2, hF, hG, hO⟩ := id S
  refine bd_p (cc := cX0_hookInStep) (maxL := 4) (ret := (some .int)) (by decide) rfl (Nat.le_of_ble_eq_true rfl) ?_
  intro p e s m args below meth c ls CF hr hlocks hK hP hl
  obtain ⟨hx, hb, hml, hown, hts⟩ := id CF
  have hl : lv_has ls 4 [(0, .ref h), (1, .int (nI x)), (2, .int (nI k))] := hl
  have hP : va_P D vwCl [(h, .inr (0, [.ref a1, .ref a2, .int (nI n), .int (nI w)])), (a1, .inl (cI, 40, .inl F)), (a2, .inl (cI, 40, .inl G))] s.heap := hP
  refine lv_aload_n hx hb dX0_hookInStep_0 rfl (lv_at hl 0 rfl) ?_
  refine va_get (D := D) (ci := 0) (v := .int (nI n)) (C := RX0) (T := TX0) (N := 4) hx hb hts (fun _ h => (List.mem_cons_of_mem _ (List.mem_append_right _ h))) hown hK hP 0 rfl rfl 2 (by decide) (hts _ (List.mem_of_getElem? (i := 1) rfl)) (fun _ h9 => h9) rfl dX0_hookInStep_1 ?_
  refine lv_iconst (v := nI 3) hx hb dX0_hookInStep_4 (by decide) ?_
  refine bn_ge (tgt := 10) hx hb dX0_hookInStep_5 (by decide) (by omega) (by omega) (fun c5 => ?_) (fun c5 => ?_)
  · skip
    refine lv_iload_n hx hb dX0_hookInStep_10 rfl (lv_at hl 2 rfl) ?_
    refine lv_istore_n (lv' := [(3, .int (nI k)), (0, .ref h), (1, .int (nI x)), (2, .int (nI k))]) hx hb dX0_hookInStep_11 rfl hl (by decide) rfl (fun ls hl => ?_)
    refine lv_aload_n hx hb dX0_hookInStep_12 rfl (lv_at hl 1 rfl) ?_
    refine va_get (D := D) (ci := 0) (v := .int (nI w)) (C := RX0) (T := TX0) (N := 4) hx hb hts (fun _ h => (List.mem_cons_of_mem _ (List.mem_append_right _ h))) hown hK hP 0 rfl rfl 3 (by decide) (hts _ (List.mem_of_getElem? (i := 2) rfl)) (fun _ h9 => h9) rfl dX0_hookInStep_13 ?_
    refine lv_iconst (v := nI 1) hx hb dX0_hookInStep_16 (by decide) ?_
    refine bn_ne (tgt := 31) hx hb dX0_hookInStep_17 (by decide) (by omega) (by omega) (fun c17 => ?_) (fun c17 => ?_)
    · skip
      refine lv_aload_n hx hb dX0_hookInStep_31 rfl (lv_at hl 1 rfl) ?_
      refine va_get (D := D) (ci := 0) (v := .int (nI w)) (C := RX0) (T := TX0) (N := 4) hx hb hts (fun _ h => (List.mem_cons_of_mem _ (List.mem_append_right _ h))) hown hK hP 0 rfl rfl 3 (by decide) (hts _ (List.mem_of_getElem? (i := 2) rfl)) (fun _ h9 => h9) rfl dX0_hookInStep_32 ?_
      refine lv_iconst (v := nI 2) hx hb dX0_hookInStep_35 (by decide) ?_
      refine bn_ne (tgt := 57) hx hb dX0_hookInStep_36 (by decide) (by omega) (by omega) (fun c36 => ?_) (fun c36 => ?_)
      · skip
        have ho : of_ n w x k = k := by rw [of_, if_neg c17, if_neg c36]
        refine lv_iload_n hx hb dX0_hookInStep_57 rfl (lv_at hl 2 rfl) ?_
        refine lv_iload_n hx hb dX0_hookInStep_58 rfl (lv_at hl 0 rfl) ?_
        refine an_add hx hb dX0_hookInStep_59 ?_
        refine lv_aload_n hx hb dX0_hookInStep_60 rfl (lv_at hl 1 rfl) ?_
        refine va_get (D := D) (ci := 0) (v := .int (nI n)) (C := RX0) (T := TX0) (N := 4) hx hb hts (fun _ h => (List.mem_cons_of_mem _ (List.mem_append_right _ h))) hown hK hP 0 rfl rfl 2 (by decide) (hts _ (List.mem_of_getElem? (i := 1) rfl)) (fun _ h9 => h9) rfl dX0_hookInStep_61 ?_
        refine an_rem hx hb (by omega) (by omega) (by omega) dX0_hookInStep_64 ?_
        exact en_i hx hb hr hlocks (by rw [at_, ho]) dX0_hookInStep_65
      · skip
        refine lv_iload_n hx hb dX0_hookInStep_39 rfl (lv_at hl 3 rfl) ?_
        refine lv_iconst (v := nI 1) hx hb dX0_hookInStep_40 (by decide) ?_
        refine lv_iload_n hx hb dX0_hookInStep_41 rfl (lv_at hl 2 rfl) ?_
        refine lv_aload_n hx hb dX0_hookInStep_42 rfl (lv_at hl 1 rfl) ?_
        refine va_get (D := D) (ci := 0) (v := .int (nI n)) (C := RX0) (T := TX0) (N := 4) hx hb hts (fun _ h => (List.mem_cons_of_mem _ (List.mem_append_right _ h))) hown hK hP 0 rfl rfl 2 (by decide) (hts _ (List.mem_of_getElem? (i := 1) rfl)) (fun _ h9 => h9) rfl dX0_hookInStep_43 ?_
        refine an_div hx hb (by omega) (by omega) (by omega) dX0_hookInStep_46 ?_
        refine lv_aload_n hx hb dX0_hookInStep_47 rfl (lv_at hl 1 rfl) ?_
        refine va_get (D := D) (ci := 0) (v := .int (nI n)) (C := RX0) (T := TX0) (N := 4) hx hb hts (fun _ h => (List.mem_cons_of_mem _ (List.mem_append_right _ h))) hown hK hP 0 rfl rfl 2 (by decide) (hts _ (List.mem_of_getElem? (i := 1) rfl)) (fun _ h9 => h9) rfl dX0_hookInStep_48 ?_
        refine lv_iconst (v := nI 1) hx hb dX0_hookInStep_51 (by decide) ?_
        refine an_sub hx hb (by omega) dX0_hookInStep_52 ?_
        refine an_rem hx hb (div_small hx9) (by omega) (by omega) dX0_hookInStep_53 ?_
        refine an_add hx hb dX0_hookInStep_54 ?_
        refine an_mul hx hb dX0_hookInStep_55 ?_
        refine lv_istore_n (lv' := [(3, .int (nI (k * (1 + ((x / n) % (n - 1)))))), (0, .ref h), (1, .int (nI x)), (2, .int (nI k))]) hx hb dX0_hookInStep_56 rfl hl (by decide) rfl (fun ls hl => ?_)
        have ho : of_ n w x k = (k * (1 + ((x / n) % (n - 1)))) := by rw [of_, if_neg c17, if_pos c36]
        refine lv_iload_n hx hb dX0_hookInStep_57 rfl (lv_at hl 2 rfl) ?_
        refine lv_iload_n hx hb dX0_hookInStep_58 rfl (lv_at hl 0 rfl) ?_
        refine an_add hx hb dX0_hookInStep_59 ?_
        refine lv_aload_n hx hb dX0_hookInStep_60 rfl (lv_at hl 1 rfl) ?_
        refine va_get (D := D) (ci := 0) (v := .int (nI n)) (C := RX0) (T := TX0) (N := 4) hx hb hts (fun _ h => (List.mem_cons_of_mem _ (List.mem_append_right _ h))) hown hK hP 0 rfl rfl 2 (by decide) (hts _ (List.mem_of_getElem? (i := 1) rfl)) (fun _ h9 => h9) rfl dX0_hookInStep_61 ?_
        refine an_rem hx hb (st_small2 hx9 hk hn3 hn) (by omega) (by omega) dX0_hookInStep_64 ?_
        exact en_i hx hb hr hlocks (by rw [at_, ho]) dX0_hookInStep_65
    · skip
      refine lv_iload_n hx hb dX0_hookInStep_20 rfl (lv_at hl 3 rfl) ?_
      refine lv_iload_n hx hb dX0_hookInStep_21 rfl (lv_at hl 3 rfl) ?_
      refine lv_iconst (v := nI 1) hx hb dX0_hookInStep_22 (by decide) ?_
      refine an_add hx hb dX0_hookInStep_23 ?_
      refine an_mul hx hb dX0_hookInStep_24 ?_
      refine lv_iconst (v := nI 2) hx hb dX0_hookInStep_25 (by decide) ?_
      refine an_div hx hb (sq_small hk) (by decide) (by decide) dX0_hookInStep_26 ?_
      refine lv_istore_n (lv' := [(3, .int (nI ((k * (k + 1)) / 2))), (0, .ref h), (1, .int (nI x)), (2, .int (nI k))]) hx hb dX0_hookInStep_27 rfl hl (by decide) rfl (fun ls hl => ?_)
      refine lv_goto (tgt := 57) hx hb dX0_hookInStep_28 (by decide) ?_
      have ho : of_ n w x k = ((k * (k + 1)) / 2) := by rw [of_, if_pos c17]
      refine lv_iload_n hx hb dX0_hookInStep_57 rfl (lv_at hl 2 rfl) ?_
      refine lv_iload_n hx hb dX0_hookInStep_58 rfl (lv_at hl 0 rfl) ?_
      refine an_add hx hb dX0_hookInStep_59 ?_
      refine lv_aload_n hx hb dX0_hookInStep_60 rfl (lv_at hl 1 rfl) ?_
      refine va_get (D := D) (ci := 0) (v := .int (nI n)) (C := RX0) (T := TX0) (N := 4) hx hb hts (fun _ h => (List.mem_cons_of_mem _ (List.mem_append_right _ h))) hown hK hP 0 rfl rfl 2 (by decide) (hts _ (List.mem_of_getElem? (i := 1) rfl)) (fun _ h9 => h9) rfl dX0_hookInStep_61 ?_
      refine an_rem hx hb (st_small3 hx9 hk) (by omega) (by omega) dX0_hookInStep_64 ?_
      exact en_i hx hb hr hlocks (by rw [at_, ho]) dX0_hookInStep_65
  · skip
    omega
