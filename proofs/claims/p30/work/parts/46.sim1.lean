/-! hooks by hand: methods that read -/
/-- the cells of hooks by hand -/
abbrev smw (cI cZ : ClassId) (u c1 c2 c3 n w : Nat) (C V Z : Nat → Int32) : va_W := [(u, .inr (2, [.int (nI w), .ref c1, .ref c2, .ref c3])), (c1, .inl (cI, n, .inl C)), (c2, .inl (cI, n, .inl V)), (c3, .inl (cZ, n, .inl Z))]
theorem k_X2_isFree : yX2_isFree.cls = RX2 ∧ yX2_isFree.cls ≠ "java/lang/invoke/MethodHandle" ∧ yX2_isFree.cls ≠ "java/lang/invoke/VarHandle" ∧ (parseMethodDescriptor yX2_isFree.desc).map (fun d => d.parameters.length) = some 1 := by decide +kernel
set_option maxHeartbeats 4000000 in
set_option maxRecDepth 100000 in
theorem m_X2_isFree (l : Launch) (D : va_G) (cI cZ : ClassId) (u c1 c2 c3 : Nat) {n w : Nat} {C V Z f g : Nat → Int32} (S : SS n w C V Z f g) (k : Nat) (hk : k < n) : Met l yX2_isFree wsX2_isFree ({ frames := 0, cells := 0, slots := 0, locals := 0 } : Room) (PR D [(cI, .int), (cZ, .boolean)] [.ref u, .int (nI k)] (smw cI cZ u c1 c2 c3 n w C V Z)) (vp_Si (fun r => r = fz (f k))) 0 0 (fun _ => False) := by
  obtain ⟨hn3, hn, hw2, hC, hV, hZ, hO⟩ := id S
  refine bd_p (cc := cX2_isFree) (maxL := 2) (ret := (some .boolean)) (by decide) rfl (Nat.le_of_ble_eq_true rfl) ?_
  intro p e s m args below meth c ls CF hr hlocks hK hP hl
  obtain ⟨hx, hb, hml, hown, hts⟩ := id CF
  have hl : lv_has ls 2 [(0, .ref u), (1, .int (nI k))] := hl
  have hP : va_P D vwCl [(u, .inr (2, [.int (nI w), .ref c1, .ref c2, .ref c3])), (c1, .inl (cI, n, .inl C)), (c2, .inl (cI, n, .inl V)), (c3, .inl (cZ, n, .inl Z))] s.heap := hP
  refine lv_aload_n hx hb dX2_isFree_0 rfl (lv_at hl 0 rfl) ?_
  refine va_get (D := D) (ci := 2) (v := .ref c1) (C := RX2) (T := TX2) (N := 4) hx hb hts (fun _ h => (List.mem_cons_of_mem _ (List.mem_append_right _ h))) hown hK hP 0 rfl rfl 1 (by decide) (hts _ (List.mem_of_getElem? (i := 1) rfl)) (fun _ h9 => h9) rfl dX2_isFree_1 ?_
  refine lv_iload_n hx hb dX2_isFree_4 rfl (lv_at hl 1 rfl) ?_
  refine al_i hx hb hK hP 1 0 rfl rfl (by omega) (by omega) dX2_isFree_5 ?_
  refine tp_i (y := (cn (f k))) (hC k hk) ?_
  refine lv_if_ge (tgt := 22) hx hb dX2_isFree_6 (by decide) (fun c6 => ?_) (fun c6 => ?_)
  · skip
    refine lv_iconst (v := nI 0) hx hb dX2_isFree_22 (by decide) ?_
    exact en_z hx hb hr hlocks (by decide) (fz_c c6) dX2_isFree_23
  · skip
    refine lv_aload_n hx hb dX2_isFree_9 rfl (lv_at hl 0 rfl) ?_
    refine va_get (D := D) (ci := 2) (v := .ref c3) (C := RX2) (T := TX2) (N := 4) hx hb hts (fun _ h => (List.mem_cons_of_mem _ (List.mem_append_right _ h))) hown hK hP 0 rfl rfl 3 (by decide) (hts _ (List.mem_of_getElem? (i := 2) rfl)) (fun _ h9 => h9) rfl dX2_isFree_10 ?_
    refine lv_iload_n hx hb dX2_isFree_13 rfl (lv_at hl 1 rfl) ?_
    refine al_z hx hb hK hP 3 1 rfl rfl (by omega) (by omega) dX2_isFree_14 ?_
    refine tp_i (y := (tz (f k))) (hZ k hk) ?_
    refine lv_if_ne (tgt := 22) hx hb dX2_isFree_15 (by decide) (fun c15 => ?_) (fun c15 => ?_)
    · skip
      refine lv_iconst (v := nI 0) hx hb dX2_isFree_22 (by decide) ?_
      exact en_z hx hb hr hlocks (by decide) (fz_t c15) dX2_isFree_23
    · skip
      refine lv_iconst (v := nI 1) hx hb dX2_isFree_18 (by decide) ?_
      refine lv_goto (tgt := 23) hx hb dX2_isFree_19 (by decide) ?_
      exact en_z hx hb hr hlocks (by decide) (fz_y (hO.three hk) c6 c15) dX2_isFree_23
theorem k_X2_at : yX2_at.cls = RX2 ∧ yX2_at.cls ≠ "java/lang/invoke/MethodHandle" ∧ yX2_at.cls ≠ "java/lang/invoke/VarHandle" ∧ (parseMethodDescriptor yX2_at.desc).map (fun d => d.parameters.length) = some 2 := by decide +kernel
set_option maxHeartbeats 4000000 in
set_option maxRecDepth 100000 in
theorem m_X2_at (l : Launch) (D : va_G) (cI cZ : ClassId) (u c1 c2 c3 : Nat) {n w : Nat} {C V Z f g : Nat → Int32} (S : SS n w C V Z f g) (x k : Nat) (hx9 : x ≤ 9999) (hk : k ≤ 40) : Met l yX2_at wsX2_at ({ frames := 0, cells := 0, slots := 0, locals := 0 } : Room) (PR D [(cI, .int), (cZ, .boolean)] [.ref u, .int (nI x), .int (nI k)] (smw cI cZ u c1 c2 c3 n w C V Z)) (vp_Si (fun r => r = nI (at_ n w x k))) 0 0 (fun _ => False) := by
  obtain ⟨hn3, hn, hw2, hC, hV, hZ, hO⟩ := id S
  refine bd_p (cc := cX2_at) (maxL := 4) (ret := (some .int)) (by decide) rfl (Nat.le_of_ble_eq_true rfl) ?_
  intro p e s m args below meth c ls CF hr hlocks hK hP hl
  obtain ⟨hx, hb, hml, hown, hts⟩ := id CF
  have hl : lv_has ls 4 [(0, .ref u), (1, .int (nI x)), (2, .int (nI k))] := hl
  have hP : va_P D vwCl [(u, .inr (2, [.int (nI w), .ref c1, .ref c2, .ref c3])), (c1, .inl (cI, n, .inl C)), (c2, .inl (cI, n, .inl V)), (c3, .inl (cZ, n, .inl Z))] s.heap := hP
  refine lv_aload_n hx hb dX2_at_0 rfl (lv_at hl 0 rfl) ?_
  refine va_get (D := D) (ci := 2) (v := .ref c1) (C := RX2) (T := TX2) (N := 4) hx hb hts (fun _ h => (List.mem_cons_of_mem _ (List.mem_append_right _ h))) hown hK hP 0 rfl rfl 1 (by decide) (hts _ (List.mem_of_getElem? (i := 1) rfl)) (fun _ h9 => h9) rfl dX2_at_1 ?_
  refine va_alen (v := nI n) hx hb hK hP 1 0 rfl rfl rfl dX2_at_4 ?_
  refine lv_istore_n (lv' := [(3, .int (nI n)), (0, .ref u), (1, .int (nI x)), (2, .int (nI k))]) hx hb dX2_at_5 rfl hl (by decide) rfl (fun ls hl => ?_)
  refine lv_aload_n hx hb dX2_at_6 rfl (lv_at hl 1 rfl) ?_
  refine va_get (D := D) (ci := 2) (v := .int (nI w)) (C := RX2) (T := TX2) (N := 4) hx hb hts (fun _ h => (List.mem_cons_of_mem _ (List.mem_append_right _ h))) hown hK hP 0 rfl rfl 0 (by decide) (hts _ (List.mem_of_getElem? (i := 2) rfl)) (fun _ h9 => h9) rfl dX2_at_7 ?_
  refine bz_ne (tgt := 21) hx hb dX2_at_10 (by decide) (by omega) (fun c10 => ?_) (fun c10 => ?_)
  · skip
    refine lv_aload_n hx hb dX2_at_21 rfl (lv_at hl 1 rfl) ?_
    refine va_get (D := D) (ci := 2) (v := .int (nI w)) (C := RX2) (T := TX2) (N := 4) hx hb hts (fun _ h => (List.mem_cons_of_mem _ (List.mem_append_right _ h))) hown hK hP 0 rfl rfl 0 (by decide) (hts _ (List.mem_of_getElem? (i := 2) rfl)) (fun _ h9 => h9) rfl dX2_at_22 ?_
    refine lv_iconst (v := nI 1) hx hb dX2_at_25 (by decide) ?_
    refine bn_ne (tgt := 43) hx hb dX2_at_26 (by decide) (by omega) (by omega) (fun c26 => ?_) (fun c26 => ?_)
    · skip
      refine lv_iload_n hx hb dX2_at_43 rfl (lv_at hl 2 rfl) ?_
      refine lv_iload_n hx hb dX2_at_44 rfl (lv_at hl 3 rfl) ?_
      refine lv_iconst (v := nI 1) hx hb dX2_at_45 (by decide) ?_
      refine lv_iload_n hx hb dX2_at_46 rfl (lv_at hl 2 rfl) ?_
      refine lv_iload_n hx hb dX2_at_47 rfl (lv_at hl 0 rfl) ?_
      refine an_div hx hb (by omega) (by omega) (by omega) dX2_at_48 ?_
      refine lv_iload_n hx hb dX2_at_49 rfl (lv_at hl 0 rfl) ?_
      refine lv_iconst (v := nI 1) hx hb dX2_at_50 (by decide) ?_
      refine an_sub hx hb (by omega) dX2_at_51 ?_
      refine an_rem hx hb (div_small hx9) (by omega) (by omega) dX2_at_52 ?_
      refine an_add hx hb dX2_at_53 ?_
      refine an_mul hx hb dX2_at_54 ?_
      refine an_add hx hb dX2_at_55 ?_
      refine lv_iload_n hx hb dX2_at_56 rfl (lv_at hl 0 rfl) ?_
      refine an_rem hx hb (st_small2 hx9 hk hn3 hn) (by omega) (by omega) dX2_at_57 ?_
      exact en_i hx hb hr hlocks (congrArg nI (by rw [at_, of_, if_neg c26, if_pos (by omega)])) dX2_at_58
    · skip
      refine lv_iload_n hx hb dX2_at_29 rfl (lv_at hl 2 rfl) ?_
      refine lv_iload_n hx hb dX2_at_30 rfl (lv_at hl 3 rfl) ?_
      refine lv_iload_n hx hb dX2_at_31 rfl (lv_at hl 3 rfl) ?_
      refine lv_iconst (v := nI 1) hx hb dX2_at_32 (by decide) ?_
      refine an_add hx hb dX2_at_33 ?_
      refine an_mul hx hb dX2_at_34 ?_
      refine lv_iconst (v := nI 2) hx hb dX2_at_35 (by decide) ?_
      refine an_div hx hb (sq_small hk) (by decide) (by decide) dX2_at_36 ?_
      refine an_add hx hb dX2_at_37 ?_
      refine lv_iload_n hx hb dX2_at_38 rfl (lv_at hl 0 rfl) ?_
      refine an_rem hx hb (st_small3 hx9 hk) (by omega) (by omega) dX2_at_39 ?_
      refine lv_goto (tgt := 58) hx hb dX2_at_40 (by decide) ?_
      exact en_i hx hb hr hlocks (congrArg nI (by rw [at_, of_, if_pos c26])) dX2_at_58
  · skip
    refine lv_iload_n hx hb dX2_at_13 rfl (lv_at hl 2 rfl) ?_
    refine lv_iload_n hx hb dX2_at_14 rfl (lv_at hl 3 rfl) ?_
    refine an_add hx hb dX2_at_15 ?_
    refine lv_iload_n hx hb dX2_at_16 rfl (lv_at hl 0 rfl) ?_
    refine an_rem hx hb (by omega) (by omega) (by omega) dX2_at_17 ?_
    refine lv_goto (tgt := 58) hx hb dX2_at_18 (by decide) ?_
    exact en_i hx hb hr hlocks (congrArg nI (by rw [at_, of_, if_neg (by omega), if_neg (by omega)])) dX2_at_58
theorem k_X2_looks : yX2_looks.cls = RX2 ∧ yX2_looks.cls ≠ "java/lang/invoke/MethodHandle" ∧ yX2_looks.cls ≠ "java/lang/invoke/VarHandle" ∧ (parseMethodDescriptor yX2_looks.desc).map (fun d => d.parameters.length) = some 1 := by decide +kernel
set_option maxHeartbeats 4000000 in
set_option maxRecDepth 100000 in
theorem m_X2_looks (l : Launch) (D : va_G) (cI cZ : ClassId) (u c1 c2 c3 : Nat) {n w : Nat} {C V Z f g : Nat → Int32} (S : SS n w C V Z f g) (x : Nat) (hx9 : x ≤ 9999) : Met l yX2_looks wsX2_looks ({ frames := 1, cells := 0, slots := 0, locals := 23 } : Room) (PR D [(cI, .int), (cZ, .boolean)] [.ref u, .int (nI x)] (smw cI cZ u c1 c2 c3 n w C V Z)) (vp_Si (fun r => r = nI (lk n w f x))) 0 0 (fun _ => False) := by
  obtain ⟨hn3, hn, hw2, hC, hV, hZ, hO⟩ := id S
  refine bd_p (cc := cX2_looks) (maxL := 3) (ret := (some .int)) (by decide) rfl (Nat.le_of_ble_eq_true rfl) ?_
  intro p e s m args below meth c ls CF hr hlocks hK hP hl
  obtain ⟨hx, hb, hml, hown, hts⟩ := id CF
  have hl : lv_has ls 3 [(0, .ref u), (1, .int (nI x))] := hl
  have hP : va_P D vwCl [(u, .inr (2, [.int (nI w), .ref c1, .ref c2, .ref c3])), (c1, .inl (cI, n, .inl C)), (c2, .inl (cI, n, .inl V)), (c3, .inl (cZ, n, .inl Z))] s.heap := hP
  refine lv_iconst (v := nI 0) hx hb dX2_looks_0 (by decide) ?_
  refine lv_istore_n (lv' := [(2, .int (nI 0)), (0, .ref u), (1, .int (nI x))]) hx hb dX2_looks_1 rfl hl (by decide) rfl (fun ls hl => ?_)
  have LP2 : ∀ (q i : Nat), i + q = n → fs (sp n w f x) q i = fs (sp n w f x) n 0 → ∀ (ls : Array Slot), lv_has ls 3 [(2, .int (nI i)), (0, .ref u), (1, .int (nI x))] → W p l e ({ frames := 1, cells := 0, slots := 0, locals := 23 } : Room) s m args below meth c s.heap [] 0 0 (MQ below (vp_Si (fun r => r = nI (lk n w f x))) args s 0 0 (fun _ => False)) (F0 m 2 ls []) := by
    intro q
    induction q with
    | zero =>
      intro i h1 h2 ls hl
      refine lv_iload_n hx hb dX2_looks_2 rfl (lv_at hl 0 rfl) ?_
      refine lv_aload_n hx hb dX2_looks_3 rfl (lv_at hl 1 rfl) ?_
      refine va_get (D := D) (ci := 2) (v := .ref c1) (C := RX2) (T := TX2) (N := 4) hx hb hts (fun _ h => (List.mem_cons_of_mem _ (List.mem_append_right _ h))) hown hK hP 0 rfl rfl 1 (by decide) (hts _ (List.mem_of_getElem? (i := 1) rfl)) (fun _ h9 => h9) rfl dX2_looks_4 ?_
      refine va_alen (v := nI n) hx hb hK hP 1 0 rfl rfl rfl dX2_looks_7 ?_
      refine bn_ge (tgt := 49) hx hb dX2_looks_8 (by decide) (by omega) (by omega) (fun c8 => ?_) (fun c8 => ?_)
      · skip
        refine lv_aload_n hx hb dX2_looks_49 rfl (lv_at hl 1 rfl) ?_
        refine va_get (D := D) (ci := 2) (v := .ref c1) (C := RX2) (T := TX2) (N := 4) hx hb hts (fun _ h => (List.mem_cons_of_mem _ (List.mem_append_right _ h))) hown hK hP 0 rfl rfl 1 (by decide) (hts _ (List.mem_of_getElem? (i := 1) rfl)) (fun _ h9 => h9) rfl dX2_looks_50 ?_
        refine va_alen (v := nI n) hx hb hK hP 1 0 rfl rfl rfl dX2_looks_53 ?_
        exact en_i hx hb hr hlocks (congrArg nI (lk_z h2 h1)) dX2_looks_54
      · skip
        omega
    | succ q ih =>
      intro i h1 h2 ls hl
      refine lv_iload_n hx hb dX2_looks_2 rfl (lv_at hl 0 rfl) ?_
      refine lv_aload_n hx hb dX2_looks_3 rfl (lv_at hl 1 rfl) ?_
      refine va_get (D := D) (ci := 2) (v := .ref c1) (C := RX2) (T := TX2) (N := 4) hx hb hts (fun _ h => (List.mem_cons_of_mem _ (List.mem_append_right _ h))) hown hK hP 0 rfl rfl 1 (by decide) (hts _ (List.mem_of_getElem? (i := 1) rfl)) (fun _ h9 => h9) rfl dX2_looks_4 ?_
      refine va_alen (v := nI n) hx hb hK hP 1 0 rfl rfl rfl dX2_looks_7 ?_
      refine bn_ge (tgt := 49) hx hb dX2_looks_8 (by decide) (by omega) (by omega) (fun c8 => ?_) (fun c8 => ?_)
      · skip
        omega
      · skip
        refine lv_aload_n hx hb dX2_looks_11 rfl (lv_at hl 1 rfl) ?_
        refine va_get (D := D) (ci := 2) (v := .ref c1) (C := RX2) (T := TX2) (N := 4) hx hb hts (fun _ h => (List.mem_cons_of_mem _ (List.mem_append_right _ h))) hown hK hP 0 rfl rfl 1 (by decide) (hts _ (List.mem_of_getElem? (i := 1) rfl)) (fun _ h9 => h9) rfl dX2_looks_12 ?_
        refine lv_aload_n hx hb dX2_looks_15 rfl (lv_at hl 1 rfl) ?_
        refine lv_iload_n hx hb dX2_looks_16 rfl (lv_at hl 2 rfl) ?_
        refine lv_iload_n hx hb dX2_looks_17 rfl (lv_at hl 0 rfl) ?_
        refine pv_i CF (m_X2_at l D cI cZ u c1 c2 c3 S x i hx9 (by omega)) (cwV 2 hts gX2_looks_X2_at rfl rfl rfl k_X2_at ⟨Nat.le_of_ble_eq_true rfl, Nat.le_of_ble_eq_true rfl⟩) hK hP rfl rfl rfl rfl hl.1 rfl (Nat.le_of_ble_eq_true rfl) dX2_looks_18 ⟨Nat.le_of_ble_eq_true rfl, Nat.le_of_ble_eq_true rfl⟩ ?_
        refine al_i hx hb hK hP 1 0 rfl rfl (at_lt (by omega) w x i) (by omega) dX2_looks_21 ?_
        refine tp_i (y := (cn (f (at_ n w x i)))) (hC _ (at_lt (by omega) w x i)) ?_
        refine lv_iload_n hx hb dX2_looks_22 rfl (lv_at hl 2 rfl) ?_
        refine lv_icmp_eq (tgt := 39) hx hb dX2_looks_23 (by decide) (fun c23 => ?_) (fun c23 => ?_)
        · skip
          refine lv_iload_n hx hb dX2_looks_39 rfl (lv_at hl 0 rfl) ?_
          refine lv_iconst (v := nI 1) hx hb dX2_looks_40 (by decide) ?_
          refine an_add hx hb dX2_looks_41 ?_
          exact en_i hx hb hr hlocks (congrArg nI (lk_y h2 (Or.inl (cn_nx hx9 c23)) (by omega))) dX2_looks_42
        · skip
          refine lv_aload_n hx hb dX2_looks_26 rfl (lv_at hl 1 rfl) ?_
          refine lv_aload_n hx hb dX2_looks_27 rfl (lv_at hl 1 rfl) ?_
          refine lv_iload_n hx hb dX2_looks_28 rfl (lv_at hl 2 rfl) ?_
          refine lv_iload_n hx hb dX2_looks_29 rfl (lv_at hl 0 rfl) ?_
          refine pv_i CF (m_X2_at l D cI cZ u c1 c2 c3 S x i hx9 (by omega)) (cwV 2 hts gX2_looks_X2_at rfl rfl rfl k_X2_at ⟨Nat.le_of_ble_eq_true rfl, Nat.le_of_ble_eq_true rfl⟩) hK hP rfl rfl rfl rfl hl.1 rfl (Nat.le_of_ble_eq_true rfl) dX2_looks_30 ⟨Nat.le_of_ble_eq_true rfl, Nat.le_of_ble_eq_true rfl⟩ ?_
          refine pv_i CF (m_X2_isFree l D cI cZ u c1 c2 c3 S (at_ n w x i) (at_lt (by omega) w x i)) (cwV 1 hts gX2_looks_X2_isFree rfl rfl rfl k_X2_isFree ⟨Nat.le_of_ble_eq_true rfl, Nat.le_of_ble_eq_true rfl⟩) hK hP rfl rfl rfl rfl hl.1 rfl (Nat.le_of_ble_eq_true rfl) dX2_looks_33 ⟨Nat.le_of_ble_eq_true rfl, Nat.le_of_ble_eq_true rfl⟩ ?_
          refine lv_if_eq (tgt := 43) hx hb dX2_looks_36 (by decide) (fun c36 => ?_) (fun c36 => ?_)
          · skip
            refine lv_iinc (v := (nI (i + 1))) (lv' := [(2, .int (nI (i + 1))), (0, .ref u), (1, .int (nI x))]) hx hb dX2_looks_43 hl (k := 0) rfl (inc1 _) (by decide) rfl (fun ls hl => ?_)
            refine lv_goto (tgt := 2) hx hb dX2_looks_46 (by decide) ?_
            exact ih (i + 1) (by omega) (lk_n h2 (fun z => c23 (nx_cn hx9 z)) (fz_0 c36)) _ (lv_sub hl [0, 1, 2] rfl)
          · skip
            refine lv_iload_n hx hb dX2_looks_39 rfl (lv_at hl 0 rfl) ?_
            refine lv_iconst (v := nI 1) hx hb dX2_looks_40 (by decide) ?_
            refine an_add hx hb dX2_looks_41 ?_
            exact en_i hx hb hr hlocks (congrArg nI (lk_y h2 (Or.inr (fz_1 c36)) (by omega))) dX2_looks_42
  exact LP2 n 0 (Nat.zero_add n) rfl _ (lv_sub hl [0, 1, 2] rfl)
theorem k_X2_find : yX2_find.cls = RX2 ∧ yX2_find.cls ≠ "java/lang/invoke/MethodHandle" ∧ yX2_find.cls ≠ "java/lang/invoke/VarHandle" ∧ (parseMethodDescriptor yX2_find.desc).map (fun d => d.parameters.length) = some 1 := by decide +kernel
set_option maxHeartbeats 4000000 in
set_option maxRecDepth 100000 in
theorem m_X2_find (l : Launch) (D : va_G) (cI cZ : ClassId) (u c1 c2 c3 : Nat) {n w : Nat} {C V Z f g : Nat → Int32} (S : SS n w C V Z f g) (x : Nat) (hx9 : x ≤ 9999) : Met l yX2_find wsX2_find ({ frames := 2, cells := 0, slots := 0, locals := 45 } : Room) (PR D [(cI, .int), (cZ, .boolean)] [.ref u, .int (nI x)] (smw cI cZ u c1 c2 c3 n w C V Z)) (vp_Si (fun r => r = fd n w f x)) 0 0 (fun _ => False) := by
  obtain ⟨hn3, hn, hw2, hC, hV, hZ, hO⟩ := id S
  refine bd_p (cc := cX2_find) (maxL := 3) (ret := (some .int)) (by decide) rfl (Nat.le_of_ble_eq_true rfl) ?_
  intro p e s m args below meth c ls CF hr hlocks hK hP hl
  obtain ⟨hx, hb, hml, hown, hts⟩ := id CF
  have hl : lv_has ls 3 [(0, .ref u), (1, .int (nI x))] := hl
  have hP : va_P D vwCl [(u, .inr (2, [.int (nI w), .ref c1, .ref c2, .ref c3])), (c1, .inl (cI, n, .inl C)), (c2, .inl (cI, n, .inl V)), (c3, .inl (cZ, n, .inl Z))] s.heap := hP
  refine lv_aload_n hx hb dX2_find_0 rfl (lv_at hl 0 rfl) ?_
  refine lv_iload_n hx hb dX2_find_1 rfl (lv_at hl 1 rfl) ?_
  refine lv_aload_n hx hb dX2_find_2 rfl (lv_at hl 0 rfl) ?_
  refine lv_iload_n hx hb dX2_find_3 rfl (lv_at hl 1 rfl) ?_
  refine pv_i CF (m_X2_looks l D cI cZ u c1 c2 c3 S x hx9) (cwV 1 hts gX2_find_X2_looks rfl rfl rfl k_X2_looks ⟨Nat.le_of_ble_eq_true rfl, Nat.le_of_ble_eq_true rfl⟩) hK hP rfl rfl rfl rfl hl.1 rfl (Nat.le_of_ble_eq_true rfl) dX2_find_4 ⟨Nat.le_of_ble_eq_true rfl, Nat.le_of_ble_eq_true rfl⟩ ?_
  refine lv_iconst (v := nI 1) hx hb dX2_find_7 (by decide) ?_
  refine an_sub hx hb (lk_pos (by omega) w f x) dX2_find_8 ?_
  refine pv_i CF (m_X2_at l D cI cZ u c1 c2 c3 S x (lk n w f x - 1) hx9 (by have := lk_le n w f x; omega)) (cwV 2 hts gX2_find_X2_at rfl rfl rfl k_X2_at ⟨Nat.le_of_ble_eq_true rfl, Nat.le_of_ble_eq_true rfl⟩) hK hP rfl rfl rfl rfl hl.1 rfl (Nat.le_of_ble_eq_true rfl) dX2_find_9 ⟨Nat.le_of_ble_eq_true rfl, Nat.le_of_ble_eq_true rfl⟩ ?_
  refine lv_istore_n (lv' := [(2, .int (nI (la n w f x))), (0, .ref u), (1, .int (nI x))]) hx hb dX2_find_12 rfl hl (by decide) rfl (fun ls hl => ?_)
  refine lv_aload_n hx hb dX2_find_13 rfl (lv_at hl 1 rfl) ?_
  refine va_get (D := D) (ci := 2) (v := .ref c1) (C := RX2) (T := TX2) (N := 4) hx hb hts (fun _ h => (List.mem_cons_of_mem _ (List.mem_append_right _ h))) hown hK hP 0 rfl rfl 1 (by decide) (hts _ (List.mem_of_getElem? (i := 1) rfl)) (fun _ h9 => h9) rfl dX2_find_14 ?_
  refine lv_iload_n hx hb dX2_find_17 rfl (lv_at hl 0 rfl) ?_
  refine al_i hx hb hK hP 1 0 rfl rfl (at_lt (by omega) w x _) (by omega) dX2_find_18 ?_
  refine tp_i (y := (cn (f (la n w f x)))) (hC _ (at_lt (by omega) w x _)) ?_
  refine lv_iload_n hx hb dX2_find_19 rfl (lv_at hl 2 rfl) ?_
  refine lv_icmp_ne (tgt := 27) hx hb dX2_find_20 (by decide) (fun c20 => ?_) (fun c20 => ?_)
  · skip
    refine lv_iconst (v := (-1)) hx hb dX2_find_27 (by decide) ?_
    exact en_i hx hb hr hlocks ((if_neg (fun z => c20 (nx_cn hx9 z))).symm) dX2_find_28
  · skip
    refine lv_iload_n hx hb dX2_find_23 rfl (lv_at hl 0 rfl) ?_
    refine lv_goto (tgt := 28) hx hb dX2_find_24 (by decide) ?_
    exact en_i hx hb hr hlocks ((if_pos (cn_nx hx9 c20)).symm) dX2_find_28
theorem k_X2_hangs : yX2_hangs.cls = RX2 ∧ yX2_hangs.cls ≠ "java/lang/invoke/MethodHandle" ∧ yX2_hangs.cls ≠ "java/lang/invoke/VarHandle" ∧ (parseMethodDescriptor yX2_hangs.desc).map (fun d => d.parameters.length) = some 1 := by decide +kernel
set_option maxHeartbeats 4000000 in
set_option maxRecDepth 100000 in
theorem m_X2_hangs (l : Launch) (D : va_G) (cI cZ : ClassId) (u c1 c2 c3 : Nat) {n w : Nat} {C V Z f g : Nat → Int32} (S : SS n w C V Z f g) (x : Nat) (hx9 : x ≤ 9999) : Met l yX2_hangs wsX2_hangs ({ frames := 0, cells := 0, slots := 0, locals := 0 } : Room) (PR D [(cI, .int), (cZ, .boolean)] [.ref u, .int (nI x)] (smw cI cZ u c1 c2 c3 n w C V Z)) (vp_Si (fun r => r = nI (hs n f x))) 0 0 (fun _ => False) := by
  obtain ⟨hn3, hn, hw2, hC, hV, hZ, hO⟩ := id S
  refine bd_p (cc := cX2_hangs) (maxL := 6) (ret := (some .boolean)) (by decide) rfl (Nat.le_of_ble_eq_true rfl) ?_
  intro p e s m args below meth c ls CF hr hlocks hK hP hl
  obtain ⟨hx, hb, hml, hown, hts⟩ := id CF
  have hl : lv_has ls 6 [(0, .ref u), (1, .int (nI x))] := hl
  have hP : va_P D vwCl [(u, .inr (2, [.int (nI w), .ref c1, .ref c2, .ref c3])), (c1, .inl (cI, n, .inl C)), (c2, .inl (cI, n, .inl V)), (c3, .inl (cZ, n, .inl Z))] s.heap := hP
  refine lv_aload_n hx hb dX2_hangs_0 rfl (lv_at hl 0 rfl) ?_
  refine va_get (D := D) (ci := 2) (v := .ref c1) (C := RX2) (T := TX2) (N := 4) hx hb hts (fun _ h => (List.mem_cons_of_mem _ (List.mem_append_right _ h))) hown hK hP 0 rfl rfl 1 (by decide) (hts _ (List.mem_of_getElem? (i := 1) rfl)) (fun _ h9 => h9) rfl dX2_hangs_1 ?_
  refine lv_astore_n (lv' := [(2, .ref c1), (0, .ref u), (1, .int (nI x))]) hx hb dX2_hangs_4 rfl hl (by decide) rfl (fun ls hl => ?_)
  refine lv_aload_n hx hb dX2_hangs_5 rfl (lv_at hl 0 rfl) ?_
  refine va_alen (v := nI n) hx hb hK hP 1 0 rfl rfl rfl dX2_hangs_6 ?_
  refine lv_istore_n (lv' := [(3, .int (nI n)), (2, .ref c1), (0, .ref u), (1, .int (nI x))]) hx hb dX2_hangs_7 rfl hl (by decide) rfl (fun ls hl => ?_)
  refine lv_iconst (v := nI 0) hx hb dX2_hangs_8 (by decide) ?_
  refine lv_istore (lv' := [(4, .int (nI 0)), (3, .int (nI n)), (2, .ref c1), (0, .ref u), (1, .int (nI x))]) hx hb dX2_hangs_9 hl (by decide) rfl (fun ls hl => ?_)
  have LP11 : ∀ (q i : Nat), i + q = n → fs (fun i => decide (f i = nI x)) q i = fs (fun i => decide (f i = nI x)) n 0 → ∀ (ls : Array Slot), lv_has ls 6 [(4, .int (nI i)), (3, .int (nI n)), (2, .ref c1), (0, .ref u), (1, .int (nI x))] → W p l e ({ frames := 0, cells := 0, slots := 0, locals := 0 } : Room) s m args below meth c s.heap [] 0 0 (MQ below (vp_Si (fun r => r = nI (hs n f x))) args s 0 0 (fun _ => False)) (F0 m 11 ls []) := by
    intro q
    induction q with
    | zero =>
      intro i h1 h2 ls hl
      refine lv_iload hx hb dX2_hangs_11 (lv_at hl 0 rfl) ?_
      refine lv_iload_n hx hb dX2_hangs_13 rfl (lv_at hl 1 rfl) ?_
      refine bn_ge (tgt := 37) hx hb dX2_hangs_14 (by decide) (by omega) (by omega) (fun c14 => ?_) (fun c14 => ?_)
      · skip
        refine lv_iconst (v := nI 0) hx hb dX2_hangs_37 (by decide) ?_
        exact en_z hx hb hr hlocks (Or.inl rfl) (congrArg nI (hs_z h2 h1)) dX2_hangs_38
      · skip
        omega
    | succ q ih =>
      intro i h1 h2 ls hl
      refine lv_iload hx hb dX2_hangs_11 (lv_at hl 0 rfl) ?_
      refine lv_iload_n hx hb dX2_hangs_13 rfl (lv_at hl 1 rfl) ?_
      refine bn_ge (tgt := 37) hx hb dX2_hangs_14 (by decide) (by omega) (by omega) (fun c14 => ?_) (fun c14 => ?_)
      · skip
        omega
      · skip
        refine lv_aload_n hx hb dX2_hangs_17 rfl (lv_at hl 2 rfl) ?_
        refine lv_iload hx hb dX2_hangs_18 (lv_at hl 0 rfl) ?_
        refine al_i hx hb hK hP 1 0 rfl rfl (by omega) (by omega) dX2_hangs_20 ?_
        refine tp_i (y := (cn (f i))) (hC i (by omega)) ?_
        refine lv_istore (lv' := [(5, .int (cn (f i))), (4, .int (nI i)), (3, .int (nI n)), (2, .ref c1), (0, .ref u), (1, .int (nI x))]) hx hb dX2_hangs_21 hl (by decide) rfl (fun ls hl => ?_)
        refine lv_iload hx hb dX2_hangs_23 (lv_at hl 0 rfl) ?_
        refine lv_iload_n hx hb dX2_hangs_25 rfl (lv_at hl 5 rfl) ?_
        refine lv_icmp_ne (tgt := 31) hx hb dX2_hangs_26 (by decide) (fun c26 => ?_) (fun c26 => ?_)
        · skip
          refine lv_iinc (v := (nI (i + 1))) (lv' := [(4, .int (nI (i + 1))), (5, .int (cn (f i))), (3, .int (nI n)), (2, .ref c1), (0, .ref u), (1, .int (nI x))]) hx hb dX2_hangs_31 hl (k := 1) rfl (inc1 _) (by decide) rfl (fun ls hl => ?_)
          refine lv_goto (tgt := 11) hx hb dX2_hangs_34 (by decide) ?_
          exact ih (i + 1) (by omega) (hs_n h2 (fun z => c26 (nx_cn hx9 z))) _ (lv_sub hl [0, 2, 3, 4, 5] rfl)
        · skip
          refine lv_iconst (v := nI 1) hx hb dX2_hangs_29 (by decide) ?_
          exact en_z hx hb hr hlocks (Or.inr rfl) (congrArg nI (hs_y h2 (cn_nx hx9 c26) (by omega))) dX2_hangs_30
  exact LP11 n 0 (Nat.zero_add n) rfl _ (lv_sub hl [0, 1, 2, 3, 4] rfl)
theorem k_X2_place : yX2_place.cls = RX2 ∧ yX2_place.cls ≠ "java/lang/invoke/MethodHandle" ∧ yX2_place.cls ≠ "java/lang/invoke/VarHandle" ∧ (parseMethodDescriptor yX2_place.desc).map (fun d => d.parameters.length) = some 1 := by decide +kernel
set_option maxHeartbeats 4000000 in
set_option maxRecDepth 100000 in
theorem m_X2_place (l : Launch) (D : va_G) (cI cZ : ClassId) (u c1 c2 c3 : Nat) {n w : Nat} {C V Z f g : Nat → Int32} (S : SS n w C V Z f g) (x : Nat) (hx9 : x ≤ 9999) : Met l yX2_place wsX2_place ({ frames := 2, cells := 0, slots := 0, locals := 45 } : Room) (PR D [(cI, .int), (cZ, .boolean)] [.ref u, .int (nI x)] (smw cI cZ u c1 c2 c3 n w C V Z)) (vp_Si (fun r => r = pl n w f x)) 0 0 (fun _ => False) := by
  obtain ⟨hn3, hn, hw2, hC, hV, hZ, hO⟩ := id S
  refine bd_p (cc := cX2_place) (maxL := 4) (ret := (some .int)) (by decide) rfl (Nat.le_of_ble_eq_true rfl) ?_
  intro p e s m args below meth c ls CF hr hlocks hK hP hl
  obtain ⟨hx, hb, hml, hown, hts⟩ := id CF
  have hl : lv_has ls 4 [(0, .ref u), (1, .int (nI x))] := hl
  have hP : va_P D vwCl [(u, .inr (2, [.int (nI w), .ref c1, .ref c2, .ref c3])), (c1, .inl (cI, n, .inl C)), (c2, .inl (cI, n, .inl V)), (c3, .inl (cZ, n, .inl Z))] s.heap := hP
  have hlk := lk_le n w f x
  refine lv_aload_n hx hb dX2_place_0 rfl (lv_at hl 0 rfl) ?_
  refine lv_iload_n hx hb dX2_place_1 rfl (lv_at hl 1 rfl) ?_
  refine pv_i CF (m_X2_hangs l D cI cZ u c1 c2 c3 S x hx9) (cwV 1 hts gX2_place_X2_hangs rfl rfl rfl k_X2_hangs ⟨Nat.le_of_ble_eq_true rfl, Nat.le_of_ble_eq_true rfl⟩) hK hP rfl rfl rfl rfl hl.1 rfl (Nat.le_of_ble_eq_true rfl) dX2_place_2 ⟨Nat.le_of_ble_eq_true rfl, Nat.le_of_ble_eq_true rfl⟩ ?_
  refine bz_eq (tgt := 10) hx hb dX2_place_5 (by decide) (hs_lt n f x) (fun c5 => ?_) (fun c5 => ?_)
  · skip
    refine lv_aload_n hx hb dX2_place_10 rfl (lv_at hl 0 rfl) ?_
    refine lv_iload_n hx hb dX2_place_11 rfl (lv_at hl 1 rfl) ?_
    refine pv_i CF (m_X2_looks l D cI cZ u c1 c2 c3 S x hx9) (cwV 1 hts gX2_place_X2_looks rfl rfl rfl k_X2_looks ⟨Nat.le_of_ble_eq_true rfl, Nat.le_of_ble_eq_true rfl⟩) hK hP rfl rfl rfl rfl hl.1 rfl (Nat.le_of_ble_eq_true rfl) dX2_place_12 ⟨Nat.le_of_ble_eq_true rfl, Nat.le_of_ble_eq_true rfl⟩ ?_
    refine lv_istore_n (lv' := [(2, .int (nI (lk n w f x))), (0, .ref u), (1, .int (nI x))]) hx hb dX2_place_15 rfl hl (by decide) rfl (fun ls hl => ?_)
    refine lv_iconst (v := nI 0) hx hb dX2_place_16 (by decide) ?_
    refine lv_istore_n (lv' := [(3, .int (nI 0)), (2, .int (nI (lk n w f x))), (0, .ref u), (1, .int (nI x))]) hx hb dX2_place_17 rfl hl (by decide) rfl (fun ls hl => ?_)
    have LP18 : ∀ (q i : Nat), i + q = lk n w f x → tk n w f x i = -1 → ∀ (ls : Array Slot), lv_has ls 4 [(3, .int (nI i)), (2, .int (nI (lk n w f x))), (0, .ref u), (1, .int (nI x))] → W p l e ({ frames := 2, cells := 0, slots := 0, locals := 45 } : Room) s m args below meth c s.heap [] 0 0 (MQ below (vp_Si (fun r => r = pl n w f x)) args s 0 0 (fun _ => False)) (F0 m 18 ls []) := by
      intro q
      induction q with
      | zero =>
        intro i h1 h2 ls hl
        refine lv_iload_n hx hb dX2_place_18 rfl (lv_at hl 0 rfl) ?_
        refine lv_iload_n hx hb dX2_place_19 rfl (lv_at hl 1 rfl) ?_
        refine bn_ge (tgt := 50) hx hb dX2_place_20 (by decide) (by omega) (by omega) (fun c20 => ?_) (fun c20 => ?_)
        · skip
          refine lv_aload_n hx hb dX2_place_50 rfl (lv_at hl 2 rfl) ?_
          refine lv_aload_n hx hb dX2_place_51 rfl (lv_at hl 2 rfl) ?_
          refine lv_iload_n hx hb dX2_place_52 rfl (lv_at hl 3 rfl) ?_
          refine lv_iload_n hx hb dX2_place_53 rfl (lv_at hl 1 rfl) ?_
          refine lv_iconst (v := nI 1) hx hb dX2_place_54 (by decide) ?_
          refine an_sub hx hb (lk_pos (by omega) w f x) dX2_place_55 ?_
          refine pv_i CF (m_X2_at l D cI cZ u c1 c2 c3 S x (lk n w f x - 1) hx9 (by omega)) (cwV 2 hts gX2_place_X2_at rfl rfl rfl k_X2_at ⟨Nat.le_of_ble_eq_true rfl, Nat.le_of_ble_eq_true rfl⟩) hK hP rfl rfl rfl rfl hl.1 rfl (Nat.le_of_ble_eq_true rfl) dX2_place_56 ⟨Nat.le_of_ble_eq_true rfl, Nat.le_of_ble_eq_true rfl⟩ ?_
          refine pv_i CF (m_X2_isFree l D cI cZ u c1 c2 c3 S (la n w f x) (at_lt (by omega) w x _)) (cwV 1 hts gX2_place_X2_isFree rfl rfl rfl k_X2_isFree ⟨Nat.le_of_ble_eq_true rfl, Nat.le_of_ble_eq_true rfl⟩) hK hP rfl rfl rfl rfl hl.1 rfl (Nat.le_of_ble_eq_true rfl) dX2_place_59 ⟨Nat.le_of_ble_eq_true rfl, Nat.le_of_ble_eq_true rfl⟩ ?_
          refine lv_if_eq (tgt := 76) hx hb dX2_place_62 (by decide) (fun c62 => ?_) (fun c62 => ?_)
          · skip
            refine lv_iconst (v := (-1)) hx hb dX2_place_76 (by decide) ?_
            exact en_i hx hb hr hlocks (((if_pos c5).trans ((op_f h2 h1).trans (if_neg (fz_0 c62)))).symm) dX2_place_77
          · skip
            refine lv_aload_n hx hb dX2_place_65 rfl (lv_at hl 2 rfl) ?_
            refine lv_iload_n hx hb dX2_place_66 rfl (lv_at hl 3 rfl) ?_
            refine lv_iload_n hx hb dX2_place_67 rfl (lv_at hl 1 rfl) ?_
            refine lv_iconst (v := nI 1) hx hb dX2_place_68 (by decide) ?_
            refine an_sub hx hb (lk_pos (by omega) w f x) dX2_place_69 ?_
            refine pv_i CF (m_X2_at l D cI cZ u c1 c2 c3 S x (lk n w f x - 1) hx9 (by omega)) (cwV 2 hts gX2_place_X2_at rfl rfl rfl k_X2_at ⟨Nat.le_of_ble_eq_true rfl, Nat.le_of_ble_eq_true rfl⟩) hK hP rfl rfl rfl rfl hl.1 rfl (Nat.le_of_ble_eq_true rfl) dX2_place_70 ⟨Nat.le_of_ble_eq_true rfl, Nat.le_of_ble_eq_true rfl⟩ ?_
            refine lv_goto (tgt := 77) hx hb dX2_place_73 (by decide) ?_
            exact en_i hx hb hr hlocks (((if_pos c5).trans ((op_f h2 h1).trans (if_pos (fz_1 c62)))).symm) dX2_place_77
        · skip
          omega
      | succ q ih =>
        intro i h1 h2 ls hl
        refine lv_iload_n hx hb dX2_place_18 rfl (lv_at hl 0 rfl) ?_
        refine lv_iload_n hx hb dX2_place_19 rfl (lv_at hl 1 rfl) ?_
        refine bn_ge (tgt := 50) hx hb dX2_place_20 (by decide) (by omega) (by omega) (fun c20 => ?_) (fun c20 => ?_)
        · skip
          omega
        · skip
          refine lv_aload_n hx hb dX2_place_23 rfl (lv_at hl 2 rfl) ?_
          refine va_get (D := D) (ci := 2) (v := .ref c3) (C := RX2) (T := TX2) (N := 4) hx hb hts (fun _ h => (List.mem_cons_of_mem _ (List.mem_append_right _ h))) hown hK hP 0 rfl rfl 3 (by decide) (hts _ (List.mem_of_getElem? (i := 1) rfl)) (fun _ h9 => h9) rfl dX2_place_24 ?_
          refine lv_aload_n hx hb dX2_place_27 rfl (lv_at hl 2 rfl) ?_
          refine lv_iload_n hx hb dX2_place_28 rfl (lv_at hl 3 rfl) ?_
          refine lv_iload_n hx hb dX2_place_29 rfl (lv_at hl 0 rfl) ?_
          refine pv_i CF (m_X2_at l D cI cZ u c1 c2 c3 S x i hx9 (by omega)) (cwV 2 hts gX2_place_X2_at rfl rfl rfl k_X2_at ⟨Nat.le_of_ble_eq_true rfl, Nat.le_of_ble_eq_true rfl⟩) hK hP rfl rfl rfl rfl hl.1 rfl (Nat.le_of_ble_eq_true rfl) dX2_place_30 ⟨Nat.le_of_ble_eq_true rfl, Nat.le_of_ble_eq_true rfl⟩ ?_
          refine al_z hx hb hK hP 3 1 rfl rfl (at_lt (by omega) w x i) (by omega) dX2_place_33 ?_
          refine tp_i (y := (tz (f (at_ n w x i)))) (hZ _ (at_lt (by omega) w x i)) ?_
          refine lv_if_eq (tgt := 44) hx hb dX2_place_34 (by decide) (fun c34 => ?_) (fun c34 => ?_)
          · skip
            refine lv_iinc (v := (nI (i + 1))) (lv' := [(3, .int (nI (i + 1))), (2, .int (nI (lk n w f x))), (0, .ref u), (1, .int (nI x))]) hx hb dX2_place_44 hl (k := 0) rfl (inc1 _) (by decide) rfl (fun ls hl => ?_)
            refine lv_goto (tgt := 18) hx hb dX2_place_47 (by decide) ?_
            exact ih (i + 1) (by omega) (tk_no h2 (tz_0 c34)) _ (lv_sub hl [0, 1, 2, 3] rfl)
          · skip
            refine lv_aload_n hx hb dX2_place_37 rfl (lv_at hl 2 rfl) ?_
            refine lv_iload_n hx hb dX2_place_38 rfl (lv_at hl 3 rfl) ?_
            refine lv_iload_n hx hb dX2_place_39 rfl (lv_at hl 0 rfl) ?_
            refine pv_i CF (m_X2_at l D cI cZ u c1 c2 c3 S x i hx9 (by omega)) (cwV 2 hts gX2_place_X2_at rfl rfl rfl k_X2_at ⟨Nat.le_of_ble_eq_true rfl, Nat.le_of_ble_eq_true rfl⟩) hK hP rfl rfl rfl rfl hl.1 rfl (Nat.le_of_ble_eq_true rfl) dX2_place_40 ⟨Nat.le_of_ble_eq_true rfl, Nat.le_of_ble_eq_true rfl⟩ ?_
            exact en_i hx hb hr hlocks ((op_t (by omega) hn h2 (tz_1 c34) (by omega)).trans (if_pos c5).symm) dX2_place_43
    exact LP18 (lk n w f x) 0 (Nat.zero_add _) rfl _ (lv_sub hl [0, 1, 2, 3] rfl)
  · skip
    refine lv_iconst (v := (-1)) hx hb dX2_place_8 (by decide) ?_
    exact en_i hx hb hr hlocks ((if_neg c5).symm) dX2_place_9
theorem k_X2_allLooks : yX2_allLooks.cls = RX2 ∧ yX2_allLooks.cls ≠ "java/lang/invoke/MethodHandle" ∧ yX2_allLooks.cls ≠ "java/lang/invoke/VarHandle" ∧ (parseMethodDescriptor yX2_allLooks.desc).map (fun d => d.parameters.length) = some 0 := by decide +kernel
set_option maxHeartbeats 4000000 in
set_option maxRecDepth 100000 in
theorem m_X2_allLooks (l : Launch) (D : va_G) (cI cZ : ClassId) (u c1 c2 c3 : Nat) {n w : Nat} {C V Z f g : Nat → Int32} (S : SS n w C V Z f g) : Met l yX2_allLooks wsX2_allLooks ({ frames := 2, cells := 0, slots := 0, locals := 45 } : Room) (PR D [(cI, .int), (cZ, .boolean)] [.ref u] (smw cI cZ u c1 c2 c3 n w C V Z)) (vp_Si (fun r => r = nI (sm n w f))) 0 0 (fun _ => False) := by
  obtain ⟨hn3, hn, hw2, hC, hV, hZ, hO⟩ := id S
  refine bd_p (cc := cX2_allLooks) (maxL := 6) (ret := (some .int)) (by decide) rfl (Nat.le_of_ble_eq_true rfl) ?_
  intro p e s m args below meth c ls CF hr hlocks hK hP hl
  obtain ⟨hx, hb, hml, hown, hts⟩ := id CF
  have hl : lv_has ls 6 [(0, .ref u)] := hl
  have hP : va_P D vwCl [(u, .inr (2, [.int (nI w), .ref c1, .ref c2, .ref c3])), (c1, .inl (cI, n, .inl C)), (c2, .inl (cI, n, .inl V)), (c3, .inl (cZ, n, .inl Z))] s.heap := hP
  refine lv_iconst (v := nI 0) hx hb dX2_allLooks_0 (by decide) ?_
  refine lv_istore_n (lv' := [(1, .int (nI 0)), (0, .ref u)]) hx hb dX2_allLooks_1 rfl hl (by decide) rfl (fun ls hl => ?_)
  refine lv_aload_n hx hb dX2_allLooks_2 rfl (lv_at hl 1 rfl) ?_
  refine va_get (D := D) (ci := 2) (v := .ref c1) (C := RX2) (T := TX2) (N := 4) hx hb hts (fun _ h => (List.mem_cons_of_mem _ (List.mem_append_right _ h))) hown hK hP 0 rfl rfl 1 (by decide) (hts _ (List.mem_of_getElem? (i := 1) rfl)) (fun _ h9 => h9) rfl dX2_allLooks_3 ?_
  refine lv_astore_n (lv' := [(2, .ref c1), (1, .int (nI 0)), (0, .ref u)]) hx hb dX2_allLooks_6 rfl hl (by decide) rfl (fun ls hl => ?_)
  refine lv_aload_n hx hb dX2_allLooks_7 rfl (lv_at hl 0 rfl) ?_
  refine va_alen (v := nI n) hx hb hK hP 1 0 rfl rfl rfl dX2_allLooks_8 ?_
  refine lv_istore_n (lv' := [(3, .int (nI n)), (2, .ref c1), (1, .int (nI 0)), (0, .ref u)]) hx hb dX2_allLooks_9 rfl hl (by decide) rfl (fun ls hl => ?_)
  refine lv_iconst (v := nI 0) hx hb dX2_allLooks_10 (by decide) ?_
  refine lv_istore (lv' := [(4, .int (nI 0)), (3, .int (nI n)), (2, .ref c1), (1, .int (nI 0)), (0, .ref u)]) hx hb dX2_allLooks_11 hl (by decide) rfl (fun ls hl => ?_)
  have LP13 : ∀ (q i a : Nat), i + q = n → fo (fun a i => a + lx n w f i) q i a = sm n w f → ∀ (ls : Array Slot), lv_has ls 6 [(4, .int (nI i)), (3, .int (nI n)), (2, .ref c1), (1, .int (nI a)), (0, .ref u)] → W p l e ({ frames := 2, cells := 0, slots := 0, locals := 45 } : Room) s m args below meth c s.heap [] 0 0 (MQ below (vp_Si (fun r => r = nI (sm n w f))) args s 0 0 (fun _ => False)) (F0 m 13 ls []) := by
    intro q
    induction q with
    | zero =>
      intro i a h1 h2 ls hl
      refine lv_iload hx hb dX2_allLooks_13 (lv_at hl 0 rfl) ?_
      refine lv_iload_n hx hb dX2_allLooks_15 rfl (lv_at hl 1 rfl) ?_
      refine bn_ge (tgt := 49) hx hb dX2_allLooks_16 (by decide) (by omega) (by omega) (fun c16 => ?_) (fun c16 => ?_)
      · skip
        refine lv_iload_n hx hb dX2_allLooks_49 rfl (lv_at hl 3 rfl) ?_
        exact en_i hx hb hr hlocks (congrArg nI h2) dX2_allLooks_50
      · skip
        omega
    | succ q ih =>
      intro i a h1 h2 ls hl
      refine lv_iload hx hb dX2_allLooks_13 (lv_at hl 0 rfl) ?_
      refine lv_iload_n hx hb dX2_allLooks_15 rfl (lv_at hl 1 rfl) ?_
      refine bn_ge (tgt := 49) hx hb dX2_allLooks_16 (by decide) (by omega) (by omega) (fun c16 => ?_) (fun c16 => ?_)
      · skip
        omega
      · skip
        refine lv_aload_n hx hb dX2_allLooks_19 rfl (lv_at hl 2 rfl) ?_
        refine lv_iload hx hb dX2_allLooks_20 (lv_at hl 0 rfl) ?_
        refine al_i hx hb hK hP 1 0 rfl rfl (by omega) (by omega) dX2_allLooks_22 ?_
        refine tp_i (y := (cn (f i))) (hC i (by omega)) ?_
        refine lv_istore (lv' := [(5, .int (cn (f i))), (4, .int (nI i)), (3, .int (nI n)), (2, .ref c1), (1, .int (nI a)), (0, .ref u)]) hx hb dX2_allLooks_23 hl (by decide) rfl (fun ls hl => ?_)
        refine lv_iload_n hx hb dX2_allLooks_25 rfl (lv_at hl 4 rfl) ?_
        refine lv_iload hx hb dX2_allLooks_26 (lv_at hl 0 rfl) ?_
        refine lv_if_ge (tgt := 35) hx hb dX2_allLooks_28 (by decide) (fun c28 => ?_) (fun c28 => ?_)
        · skip
          refine lv_aload_n hx hb dX2_allLooks_35 rfl (lv_at hl 5 rfl) ?_
          refine lv_iload hx hb dX2_allLooks_36 (lv_at hl 0 rfl) ?_
          obtain ⟨x, hx9, ex, ez⟩ := hO.num (k := i) (by omega) (cn_0 c28)
          refine tp_i (y := nI x) ((cn_id (cn_0 c28)).trans ex) ?_
          refine pv_i CF (m_X2_looks l D cI cZ u c1 c2 c3 S x hx9) (cwV 1 hts gX2_allLooks_X2_looks rfl rfl rfl k_X2_looks ⟨Nat.le_of_ble_eq_true rfl, Nat.le_of_ble_eq_true rfl⟩) hK hP rfl rfl rfl rfl hl.1 rfl (Nat.le_of_ble_eq_true rfl) dX2_allLooks_38 ⟨Nat.le_of_ble_eq_true rfl, Nat.le_of_ble_eq_true rfl⟩ ?_
          refine an_add hx hb dX2_allLooks_41 ?_
          refine lv_istore_n (lv' := [(1, .int (nI (a + (lk n w f x)))), (5, .int (cn (f i))), (4, .int (nI i)), (3, .int (nI n)), (2, .ref c1), (0, .ref u)]) hx hb dX2_allLooks_42 rfl hl (by decide) rfl (fun ls hl => ?_)
          refine lv_iinc (v := (nI (i + 1))) (lv' := [(4, .int (nI (i + 1))), (1, .int (nI (a + (lk n w f x)))), (5, .int (cn (f i))), (3, .int (nI n)), (2, .ref c1), (0, .ref u)]) hx hb dX2_allLooks_43 hl (k := 2) rfl (inc1 _) (by decide) rfl (fun ls hl => ?_)
          refine lv_goto (tgt := 13) hx hb dX2_allLooks_46 (by decide) ?_
          exact ih (i + 1) (a + lk n w f x) (by omega) (by rw [fo_s, lx_p (cn_0 c28) ez] at h2; exact h2) _ (lv_sub hl [0, 3, 4, 1, 5] rfl)
        · skip
          refine lv_iconst (v := nI 0) hx hb dX2_allLooks_31 (by decide) ?_
          refine lv_goto (tgt := 41) hx hb dX2_allLooks_32 (by decide) ?_
          refine an_add hx hb dX2_allLooks_41 ?_
          refine lv_istore_n (lv' := [(1, .int (nI (a + 0))), (5, .int (cn (f i))), (4, .int (nI i)), (3, .int (nI n)), (2, .ref c1), (0, .ref u)]) hx hb dX2_allLooks_42 rfl hl (by decide) rfl (fun ls hl => ?_)
          refine lv_iinc (v := (nI (i + 1))) (lv' := [(4, .int (nI (i + 1))), (1, .int (nI (a + 0))), (5, .int (cn (f i))), (3, .int (nI n)), (2, .ref c1), (0, .ref u)]) hx hb dX2_allLooks_43 hl (k := 2) rfl (inc1 _) (by decide) rfl (fun ls hl => ?_)
          refine lv_goto (tgt := 13) hx hb dX2_allLooks_46 (by decide) ?_
          exact ih (i + 1) (a + 0) (by omega) (by rw [fo_s, lx_0 (cn_n c28)] at h2; exact h2) _ (lv_sub hl [0, 3, 4, 1, 5] rfl)
  exact LP13 n 0 0 (Nat.zero_add n) rfl _ (lv_sub hl [0, 1, 2, 3, 4] rfl)
theorem k_X2_tickets : yX2_tickets.cls = RX2 ∧ yX2_tickets.cls ≠ "java/lang/invoke/MethodHandle" ∧ yX2_tickets.cls ≠ "java/lang/invoke/VarHandle" ∧ (parseMethodDescriptor yX2_tickets.desc).map (fun d => d.parameters.length) = some 0 := by decide +kernel
set_option maxHeartbeats 4000000 in
set_option maxRecDepth 100000 in
theorem m_X2_tickets (l : Launch) (D : va_G) (cI cZ : ClassId) (u c1 c2 c3 : Nat) {n w : Nat} {C V Z f g : Nat → Int32} (S : SS n w C V Z f g) : Met l yX2_tickets wsX2_tickets ({ frames := 0, cells := 0, slots := 0, locals := 0 } : Room) (PR D [(cI, .int), (cZ, .boolean)] [.ref u] (smw cI cZ u c1 c2 c3 n w C V Z)) (vp_Si (fun r => r = nI (ct n f (nI 2)))) 0 0 (fun _ => False) := by
  obtain ⟨hn3, hn, hw2, hC, hV, hZ, hO⟩ := id S
  refine bd_p (cc := cX2_tickets) (maxL := 6) (ret := (some .int)) (by decide) rfl (Nat.le_of_ble_eq_true rfl) ?_
  intro p e s m args below meth c ls CF hr hlocks hK hP hl
  obtain ⟨hx, hb, hml, hown, hts⟩ := id CF
  have hl : lv_has ls 6 [(0, .ref u)] := hl
  have hP : va_P D vwCl [(u, .inr (2, [.int (nI w), .ref c1, .ref c2, .ref c3])), (c1, .inl (cI, n, .inl C)), (c2, .inl (cI, n, .inl V)), (c3, .inl (cZ, n, .inl Z))] s.heap := hP
  refine lv_iconst (v := nI 0) hx hb dX2_tickets_0 (by decide) ?_
  refine lv_istore_n (lv' := [(1, .int (nI 0)), (0, .ref u)]) hx hb dX2_tickets_1 rfl hl (by decide) rfl (fun ls hl => ?_)
  refine lv_aload_n hx hb dX2_tickets_2 rfl (lv_at hl 1 rfl) ?_
  refine va_get (D := D) (ci := 2) (v := .ref c3) (C := RX2) (T := TX2) (N := 4) hx hb hts (fun _ h => (List.mem_cons_of_mem _ (List.mem_append_right _ h))) hown hK hP 0 rfl rfl 3 (by decide) (hts _ (List.mem_of_getElem? (i := 1) rfl)) (fun _ h9 => h9) rfl dX2_tickets_3 ?_
  refine lv_astore_n (lv' := [(2, .ref c3), (1, .int (nI 0)), (0, .ref u)]) hx hb dX2_tickets_6 rfl hl (by decide) rfl (fun ls hl => ?_)
  refine lv_aload_n hx hb dX2_tickets_7 rfl (lv_at hl 0 rfl) ?_
  refine va_alen (v := nI n) hx hb hK hP 3 1 rfl rfl rfl dX2_tickets_8 ?_
  refine lv_istore_n (lv' := [(3, .int (nI n)), (2, .ref c3), (1, .int (nI 0)), (0, .ref u)]) hx hb dX2_tickets_9 rfl hl (by decide) rfl (fun ls hl => ?_)
  refine lv_iconst (v := nI 0) hx hb dX2_tickets_10 (by decide) ?_
  refine lv_istore (lv' := [(4, .int (nI 0)), (3, .int (nI n)), (2, .ref c3), (1, .int (nI 0)), (0, .ref u)]) hx hb dX2_tickets_11 hl (by decide) rfl (fun ls hl => ?_)
  have LP13 : ∀ (q i a : Nat), i + q = n → fo (fun a i => if st (f i) = nI 2 then a + 1 else a) q i a = ct n f (nI 2) → ∀ (ls : Array Slot), lv_has ls 6 [(4, .int (nI i)), (3, .int (nI n)), (2, .ref c3), (1, .int (nI a)), (0, .ref u)] → W p l e ({ frames := 0, cells := 0, slots := 0, locals := 0 } : Room) s m args below meth c s.heap [] 0 0 (MQ below (vp_Si (fun r => r = nI (ct n f (nI 2)))) args s 0 0 (fun _ => False)) (F0 m 13 ls []) := by
    intro q
    induction q with
    | zero =>
      intro i a h1 h2 ls hl
      refine lv_iload hx hb dX2_tickets_13 (lv_at hl 0 rfl) ?_
      refine lv_iload_n hx hb dX2_tickets_15 rfl (lv_at hl 1 rfl) ?_
      refine bn_ge (tgt := 44) hx hb dX2_tickets_16 (by decide) (by omega) (by omega) (fun c16 => ?_) (fun c16 => ?_)
      · skip
        refine lv_iload_n hx hb dX2_tickets_44 rfl (lv_at hl 3 rfl) ?_
        exact en_i hx hb hr hlocks (congrArg nI h2) dX2_tickets_45
      · skip
        omega
    | succ q ih =>
      intro i a h1 h2 ls hl
      refine lv_iload hx hb dX2_tickets_13 (lv_at hl 0 rfl) ?_
      refine lv_iload_n hx hb dX2_tickets_15 rfl (lv_at hl 1 rfl) ?_
      refine bn_ge (tgt := 44) hx hb dX2_tickets_16 (by decide) (by omega) (by omega) (fun c16 => ?_) (fun c16 => ?_)
      · skip
        omega
      · skip
        refine lv_aload_n hx hb dX2_tickets_19 rfl (lv_at hl 2 rfl) ?_
        refine lv_iload hx hb dX2_tickets_20 (lv_at hl 0 rfl) ?_
        refine al_z hx hb hK hP 3 1 rfl rfl (by omega) (by omega) dX2_tickets_22 ?_
        refine tp_i (y := (tz (f i))) (hZ i (by omega)) ?_
        refine lv_istore (lv' := [(5, .int (tz (f i))), (4, .int (nI i)), (3, .int (nI n)), (2, .ref c3), (1, .int (nI a)), (0, .ref u)]) hx hb dX2_tickets_23 hl (by decide) rfl (fun ls hl => ?_)
        refine lv_iload_n hx hb dX2_tickets_25 rfl (lv_at hl 4 rfl) ?_
        refine lv_iload hx hb dX2_tickets_26 (lv_at hl 0 rfl) ?_
        refine lv_if_eq (tgt := 35) hx hb dX2_tickets_28 (by decide) (fun c28 => ?_) (fun c28 => ?_)
        · skip
          refine lv_iconst (v := nI 0) hx hb dX2_tickets_35 (by decide) ?_
          refine an_add hx hb dX2_tickets_36 ?_
          refine lv_istore_n (lv' := [(1, .int (nI (a + 0))), (5, .int (tz (f i))), (4, .int (nI i)), (3, .int (nI n)), (2, .ref c3), (0, .ref u)]) hx hb dX2_tickets_37 rfl hl (by decide) rfl (fun ls hl => ?_)
          refine lv_iinc (v := (nI (i + 1))) (lv' := [(4, .int (nI (i + 1))), (1, .int (nI (a + 0))), (5, .int (tz (f i))), (3, .int (nI n)), (2, .ref c3), (0, .ref u)]) hx hb dX2_tickets_38 hl (k := 2) rfl (inc1 _) (by decide) rfl (fun ls hl => ?_)
          refine lv_goto (tgt := 13) hx hb dX2_tickets_41 (by decide) ?_
          exact ih (i + 1) (a + 0) (by omega) (by rw [fo_s, if_neg (st_t0 c28)] at h2; exact h2) _ (lv_sub hl [0, 3, 4, 1, 5] rfl)
        · skip
          refine lv_iconst (v := nI 1) hx hb dX2_tickets_31 (by decide) ?_
          refine lv_goto (tgt := 36) hx hb dX2_tickets_32 (by decide) ?_
          refine an_add hx hb dX2_tickets_36 ?_
          refine lv_istore_n (lv' := [(1, .int (nI (a + 1))), (5, .int (tz (f i))), (4, .int (nI i)), (3, .int (nI n)), (2, .ref c3), (0, .ref u)]) hx hb dX2_tickets_37 rfl hl (by decide) rfl (fun ls hl => ?_)
          refine lv_iinc (v := (nI (i + 1))) (lv' := [(4, .int (nI (i + 1))), (1, .int (nI (a + 1))), (5, .int (tz (f i))), (3, .int (nI n)), (2, .ref c3), (0, .ref u)]) hx hb dX2_tickets_38 hl (k := 2) rfl (inc1 _) (by decide) rfl (fun ls hl => ?_)
          refine lv_goto (tgt := 13) hx hb dX2_tickets_41 (by decide) ?_
          exact ih (i + 1) (a + 1) (by omega) (by rw [fo_s, if_pos (st_t1 c28)] at h2; exact h2) _ (lv_sub hl [0, 3, 4, 1, 5] rfl)
  exact LP13 n 0 0 (Nat.zero_add n) rfl _ (lv_sub hl [0, 1, 2, 3, 4] rfl)
theorem k_X2_row : yX2_row.cls = RX2 ∧ yX2_row.cls ≠ "java/lang/invoke/MethodHandle" ∧ yX2_row.cls ≠ "java/lang/invoke/VarHandle" ∧ (parseMethodDescriptor yX2_row.desc).map (fun d => d.parameters.length) = some 1 := by decide +kernel
set_option maxHeartbeats 4000000 in
set_option maxRecDepth 100000 in
theorem m_X2_row (l : Launch) (D : va_G) (cI cZ : ClassId) (u c1 c2 c3 : Nat) {n w : Nat} {C V Z f g : Nat → Int32} (S : SS n w C V Z f g) (h : Nat) (hh : h < n) : Met l yX2_row wsX2_row ({ frames := 1, cells := 0, slots := 0, locals := 21 } : Room) (PR D [(cI, .int), (cZ, .boolean)] [.ref u, .int (nI h)] (smw cI cZ u c1 c2 c3 n w C V Z)) (vp_Si (fun r => r = nI (rl n f h))) 0 0 (fun _ => False) := by
  obtain ⟨hn3, hn, hw2, hC, hV, hZ, hO⟩ := id S
  refine bd_p (cc := cX2_row) (maxL := 4) (ret := (some .int)) (by decide) rfl (Nat.le_of_ble_eq_true rfl) ?_
  intro p e s m args below meth c ls CF hr hlocks hK hP hl
  obtain ⟨hx, hb, hml, hown, hts⟩ := id CF
  have hl : lv_has ls 4 [(0, .ref u), (1, .int (nI h))] := hl
  have hP : va_P D vwCl [(u, .inr (2, [.int (nI w), .ref c1, .ref c2, .ref c3])), (c1, .inl (cI, n, .inl C)), (c2, .inl (cI, n, .inl V)), (c3, .inl (cZ, n, .inl Z))] s.heap := hP
  refine lv_aload_n hx hb dX2_row_0 rfl (lv_at hl 0 rfl) ?_
  refine lv_iload_n hx hb dX2_row_1 rfl (lv_at hl 1 rfl) ?_
  refine pv_i CF (m_X2_isFree l D cI cZ u c1 c2 c3 S h hh) (cwV 1 hts gX2_row_X2_isFree rfl rfl rfl k_X2_isFree ⟨Nat.le_of_ble_eq_true rfl, Nat.le_of_ble_eq_true rfl⟩) hK hP rfl rfl rfl rfl hl.1 rfl (Nat.le_of_ble_eq_true rfl) dX2_row_2 ⟨Nat.le_of_ble_eq_true rfl, Nat.le_of_ble_eq_true rfl⟩ ?_
  refine lv_if_eq (tgt := 10) hx hb dX2_row_5 (by decide) (fun c5 => ?_) (fun c5 => ?_)
  · skip
    refine lv_iload_n hx hb dX2_row_10 rfl (lv_at hl 1 rfl) ?_
    refine tp_i (y := (nI ((h + n - 0) % n))) (congrArg nI (by rw [Nat.sub_zero, Nat.add_mod_right, Nat.mod_eq_of_lt hh])) ?_
    refine lv_istore_n (lv' := [(2, .int (nI ((h + n - 0) % n))), (0, .ref u), (1, .int (nI h))]) hx hb dX2_row_11 rfl hl (by decide) rfl (fun ls hl => ?_)
    refine lv_iconst (v := nI 0) hx hb dX2_row_12 (by decide) ?_
    refine lv_istore_n (lv' := [(3, .int (nI 0)), (2, .int (nI ((h + n - 0) % n))), (0, .ref u), (1, .int (nI h))]) hx hb dX2_row_13 rfl hl (by decide) rfl (fun ls hl => ?_)
    have LP14 : ∀ (q k : Nat), k + q = n → (∀ j, j ≤ k → ¬ f ((h + n - j) % n) = -1) → ∀ (ls : Array Slot), lv_has ls 4 [(3, .int (nI k)), (2, .int (nI ((h + n - k) % n))), (0, .ref u), (1, .int (nI h))] → W p l e ({ frames := 1, cells := 0, slots := 0, locals := 21 } : Room) s m args below meth c s.heap [] 0 0 (MQ below (vp_Si (fun r => r = nI (rl n f h))) args s 0 0 (fun _ => False)) (F0 m 14 ls []) := by
      intro q
      induction q with
      | zero =>
        intro k h1 hns ls hl
        refine lv_iload_n hx hb dX2_row_14 rfl (lv_at hl 0 rfl) ?_
        refine lv_aload_n hx hb dX2_row_15 rfl (lv_at hl 2 rfl) ?_
        refine va_get (D := D) (ci := 2) (v := .ref c1) (C := RX2) (T := TX2) (N := 4) hx hb hts (fun _ h => (List.mem_cons_of_mem _ (List.mem_append_right _ h))) hown hK hP 0 rfl rfl 1 (by decide) (hts _ (List.mem_of_getElem? (i := 1) rfl)) (fun _ h9 => h9) rfl dX2_row_16 ?_
        refine va_alen (v := nI n) hx hb hK hP 1 0 rfl rfl rfl dX2_row_19 ?_
        refine bn_ge (tgt := 67) hx hb dX2_row_20 (by decide) (by omega) (by omega) (fun c20 => ?_) (fun c20 => ?_)
        · skip
          have HL : lf n f ((h + n - k) % n) = rl n f h := row_a (by omega) hh (by omega) hns
          refine lv_iconst (v := nI 0) hx hb dX2_row_67 (by decide) ?_
          refine lv_istore_n (lv' := [(3, .int (nI 0)), (2, .int (nI ((h + n - k) % n))), (0, .ref u), (1, .int (nI h))]) hx hb dX2_row_68 rfl hl (by decide) rfl (fun ls hl => ?_)
          have LPb : ∀ (q j9 : Nat), j9 + q = n → fs (fun j => decide (f (((h + n - k) % n + j) % n) = -1)) q j9 = lf n f ((h + n - k) % n) → ∀ (ls : Array Slot), lv_has ls 4 [(3, .int (nI j9)), (2, .int (nI ((h + n - k) % n))), (0, .ref u), (1, .int (nI h))] → W p l e ({ frames := 1, cells := 0, slots := 0, locals := 21 } : Room) s m args below meth c s.heap [] 0 0 (MQ below (vp_Si (fun r => r = nI (rl n f h))) args s 0 0 (fun _ => False)) (F0 m 69 ls []) := by
            intro q
            induction q with
            | zero =>
              intro j9 g1 g2 ls hl
              refine lv_iload_n hx hb dX2_row_69 rfl (lv_at hl 0 rfl) ?_
              refine lv_aload_n hx hb dX2_row_70 rfl (lv_at hl 2 rfl) ?_
              refine va_get (D := D) (ci := 2) (v := .ref c1) (C := RX2) (T := TX2) (N := 4) hx hb hts (fun _ h => (List.mem_cons_of_mem _ (List.mem_append_right _ h))) hown hK hP 0 rfl rfl 1 (by decide) (hts _ (List.mem_of_getElem? (i := 1) rfl)) (fun _ h9 => h9) rfl dX2_row_71 ?_
              refine va_alen (v := nI n) hx hb hK hP 1 0 rfl rfl rfl dX2_row_74 ?_
              refine bn_ge (tgt := 100) hx hb dX2_row_75 (by decide) (by omega) (by omega) (fun c75 => ?_) (fun c75 => ?_)
              · skip
                refine lv_iload_n hx hb dX2_row_100 rfl (lv_at hl 0 rfl) ?_
                exact en_i hx hb hr hlocks (congrArg nI (((fs_z _ _).symm.trans g2).trans HL)) dX2_row_101
              · skip
                omega
            | succ q ih =>
              intro j9 g1 g2 ls hl
              refine lv_iload_n hx hb dX2_row_69 rfl (lv_at hl 0 rfl) ?_
              refine lv_aload_n hx hb dX2_row_70 rfl (lv_at hl 2 rfl) ?_
              refine va_get (D := D) (ci := 2) (v := .ref c1) (C := RX2) (T := TX2) (N := 4) hx hb hts (fun _ h => (List.mem_cons_of_mem _ (List.mem_append_right _ h))) hown hK hP 0 rfl rfl 1 (by decide) (hts _ (List.mem_of_getElem? (i := 1) rfl)) (fun _ h9 => h9) rfl dX2_row_71 ?_
              refine va_alen (v := nI n) hx hb hK hP 1 0 rfl rfl rfl dX2_row_74 ?_
              refine bn_ge (tgt := 100) hx hb dX2_row_75 (by decide) (by omega) (by omega) (fun c75 => ?_) (fun c75 => ?_)
              · skip
                omega
              · skip
                refine lv_aload_n hx hb dX2_row_78 rfl (lv_at hl 2 rfl) ?_
                refine lv_iload_n hx hb dX2_row_79 rfl (lv_at hl 1 rfl) ?_
                refine lv_iload_n hx hb dX2_row_80 rfl (lv_at hl 0 rfl) ?_
                refine an_add hx hb dX2_row_81 ?_
                refine lv_aload_n hx hb dX2_row_82 rfl (lv_at hl 2 rfl) ?_
                refine va_get (D := D) (ci := 2) (v := .ref c1) (C := RX2) (T := TX2) (N := 4) hx hb hts (fun _ h => (List.mem_cons_of_mem _ (List.mem_append_right _ h))) hown hK hP 0 rfl rfl 1 (by decide) (hts _ (List.mem_of_getElem? (i := 1) rfl)) (fun _ h9 => h9) rfl dX2_row_83 ?_
                refine va_alen (v := nI n) hx hb hK hP 1 0 rfl rfl rfl dX2_row_86 ?_
                refine an_rem hx hb (by have := Nat.mod_lt (h + n - k) (show 0 < n by omega); omega) (by omega) (by omega) dX2_row_87 ?_
                refine pv_i CF (m_X2_isFree l D cI cZ u c1 c2 c3 S (((h + n - k) % n + j9) % n) (Nat.mod_lt _ (by omega))) (cwV 1 hts gX2_row_X2_isFree rfl rfl rfl k_X2_isFree ⟨Nat.le_of_ble_eq_true rfl, Nat.le_of_ble_eq_true rfl⟩) hK hP rfl rfl rfl rfl hl.1 rfl (Nat.le_of_ble_eq_true rfl) dX2_row_88 ⟨Nat.le_of_ble_eq_true rfl, Nat.le_of_ble_eq_true rfl⟩ ?_
                refine lv_if_ne (tgt := 100) hx hb dX2_row_91 (by decide) (fun c91 => ?_) (fun c91 => ?_)
                · skip
                  refine lv_iload_n hx hb dX2_row_100 rfl (lv_at hl 0 rfl) ?_
                  exact en_i hx hb hr hlocks (congrArg nI ((lf_y g2 (fz_1 c91)).trans HL)) dX2_row_101
                · skip
                  refine lv_iinc (v := (nI (j9 + 1))) (lv' := [(3, .int (nI (j9 + 1))), (2, .int (nI ((h + n - k) % n))), (0, .ref u), (1, .int (nI h))]) hx hb dX2_row_94 hl (k := 0) rfl (inc1 _) (by decide) rfl (fun ls hl => ?_)
                  refine lv_goto (tgt := 69) hx hb dX2_row_97 (by decide) ?_
                  exact ih (j9 + 1) (by omega) (lf_n g2 (fz_0 c91)) _ (lv_sub hl [0, 1, 2, 3] rfl)
          exact LPb n 0 (Nat.zero_add n) rfl _ (lv_sub hl [0, 1, 2, 3] rfl)
        · skip
          omega
      | succ q ih =>
        intro k h1 hns ls hl
        refine lv_iload_n hx hb dX2_row_14 rfl (lv_at hl 0 rfl) ?_
        refine lv_aload_n hx hb dX2_row_15 rfl (lv_at hl 2 rfl) ?_
        refine va_get (D := D) (ci := 2) (v := .ref c1) (C := RX2) (T := TX2) (N := 4) hx hb hts (fun _ h => (List.mem_cons_of_mem _ (List.mem_append_right _ h))) hown hK hP 0 rfl rfl 1 (by decide) (hts _ (List.mem_of_getElem? (i := 1) rfl)) (fun _ h9 => h9) rfl dX2_row_16 ?_
        refine va_alen (v := nI n) hx hb hK hP 1 0 rfl rfl rfl dX2_row_19 ?_
        refine bn_ge (tgt := 67) hx hb dX2_row_20 (by decide) (by omega) (by omega) (fun c20 => ?_) (fun c20 => ?_)
        · skip
          omega
        · skip
          refine lv_aload_n hx hb dX2_row_23 rfl (lv_at hl 2 rfl) ?_
          refine lv_iload_n hx hb dX2_row_24 rfl (lv_at hl 1 rfl) ?_
          refine lv_aload_n hx hb dX2_row_25 rfl (lv_at hl 2 rfl) ?_
          refine va_get (D := D) (ci := 2) (v := .ref c1) (C := RX2) (T := TX2) (N := 4) hx hb hts (fun _ h => (List.mem_cons_of_mem _ (List.mem_append_right _ h))) hown hK hP 0 rfl rfl 1 (by decide) (hts _ (List.mem_of_getElem? (i := 1) rfl)) (fun _ h9 => h9) rfl dX2_row_26 ?_
          refine va_alen (v := nI n) hx hb hK hP 1 0 rfl rfl rfl dX2_row_29 ?_
          refine an_add hx hb dX2_row_30 ?_
          refine lv_iconst (v := nI 1) hx hb dX2_row_31 (by decide) ?_
          refine an_sub hx hb (by omega) dX2_row_32 ?_
          refine lv_aload_n hx hb dX2_row_33 rfl (lv_at hl 2 rfl) ?_
          refine va_get (D := D) (ci := 2) (v := .ref c1) (C := RX2) (T := TX2) (N := 4) hx hb hts (fun _ h => (List.mem_cons_of_mem _ (List.mem_append_right _ h))) hown hK hP 0 rfl rfl 1 (by decide) (hts _ (List.mem_of_getElem? (i := 1) rfl)) (fun _ h9 => h9) rfl dX2_row_34 ?_
          refine va_alen (v := nI n) hx hb hK hP 1 0 rfl rfl rfl dX2_row_37 ?_
          refine an_rem hx hb (by have := Nat.mod_lt (h + n - k) (show 0 < n by omega); omega) (by omega) (by omega) dX2_row_38 ?_
          refine pv_i CF (m_X2_isFree l D cI cZ u c1 c2 c3 S (((h + n - k) % n + n - 1) % n) (Nat.mod_lt _ (by omega))) (cwV 1 hts gX2_row_X2_isFree rfl rfl rfl k_X2_isFree ⟨Nat.le_of_ble_eq_true rfl, Nat.le_of_ble_eq_true rfl⟩) hK hP rfl rfl rfl rfl hl.1 rfl (Nat.le_of_ble_eq_true rfl) dX2_row_39 ⟨Nat.le_of_ble_eq_true rfl, Nat.le_of_ble_eq_true rfl⟩ ?_
          refine lv_if_ne (tgt := 67) hx hb dX2_row_42 (by decide) (fun c42 => ?_) (fun c42 => ?_)
          · skip
            have HL : lf n f ((h + n - k) % n) = rl n f h := row_b (by omega) hh (by omega) hns (by rw [← row_m (n := n) (h := h) (k := k) (by omega) (by omega)]; exact fz_1 c42)
            refine lv_iconst (v := nI 0) hx hb dX2_row_67 (by decide) ?_
            refine lv_istore_n (lv' := [(3, .int (nI 0)), (2, .int (nI ((h + n - k) % n))), (0, .ref u), (1, .int (nI h))]) hx hb dX2_row_68 rfl hl (by decide) rfl (fun ls hl => ?_)
            have LPb : ∀ (q j9 : Nat), j9 + q = n → fs (fun j => decide (f (((h + n - k) % n + j) % n) = -1)) q j9 = lf n f ((h + n - k) % n) → ∀ (ls : Array Slot), lv_has ls 4 [(3, .int (nI j9)), (2, .int (nI ((h + n - k) % n))), (0, .ref u), (1, .int (nI h))] → W p l e ({ frames := 1, cells := 0, slots := 0, locals := 21 } : Room) s m args below meth c s.heap [] 0 0 (MQ below (vp_Si (fun r => r = nI (rl n f h))) args s 0 0 (fun _ => False)) (F0 m 69 ls []) := by
              intro q
              induction q with
              | zero =>
                intro j9 g1 g2 ls hl
                refine lv_iload_n hx hb dX2_row_69 rfl (lv_at hl 0 rfl) ?_
                refine lv_aload_n hx hb dX2_row_70 rfl (lv_at hl 2 rfl) ?_
                refine va_get (D := D) (ci := 2) (v := .ref c1) (C := RX2) (T := TX2) (N := 4) hx hb hts (fun _ h => (List.mem_cons_of_mem _ (List.mem_append_right _ h))) hown hK hP 0 rfl rfl 1 (by decide) (hts _ (List.mem_of_getElem? (i := 1) rfl)) (fun _ h9 => h9) rfl dX2_row_71 ?_
                refine va_alen (v := nI n) hx hb hK hP 1 0 rfl rfl rfl dX2_row_74 ?_
                refine bn_ge (tgt := 100) hx hb dX2_row_75 (by decide) (by omega) (by omega) (fun c75 => ?_) (fun c75 => ?_)
                · skip
                  refine lv_iload_n hx hb dX2_row_100 rfl (lv_at hl 0 rfl) ?_
                  exact en_i hx hb hr hlocks (congrArg nI (((fs_z _ _).symm.trans g2).trans HL)) dX2_row_101
                · skip
                  omega
              | succ q ih =>
                intro j9 g1 g2 ls hl
                refine lv_iload_n hx hb dX2_row_69 rfl (lv_at hl 0 rfl) ?_
                refine lv_aload_n hx hb dX2_row_70 rfl (lv_at hl 2 rfl) ?_
                refine va_get (D := D) (ci := 2) (v := .ref c1) (C := RX2) (T := TX2) (N := 4) hx hb hts (fun _ h => (List.mem_cons_of_mem _ (List.mem_append_right _ h))) hown hK hP 0 rfl rfl 1 (by decide) (hts _ (List.mem_of_getElem? (i := 1) rfl)) (fun _ h9 => h9) rfl dX2_row_71 ?_
                refine va_alen (v := nI n) hx hb hK hP 1 0 rfl rfl rfl dX2_row_74 ?_
                refine bn_ge (tgt := 100) hx hb dX2_row_75 (by decide) (by omega) (by omega) (fun c75 => ?_) (fun c75 => ?_)
                · skip
                  omega
                · skip
                  refine lv_aload_n hx hb dX2_row_78 rfl (lv_at hl 2 rfl) ?_
                  refine lv_iload_n hx hb dX2_row_79 rfl (lv_at hl 1 rfl) ?_
                  refine lv_iload_n hx hb dX2_row_80 rfl (lv_at hl 0 rfl) ?_
                  refine an_add hx hb dX2_row_81 ?_
                  refine lv_aload_n hx hb dX2_row_82 rfl (lv_at hl 2 rfl) ?_
                  refine va_get (D := D) (ci := 2) (v := .ref c1) (C := RX2) (T := TX2) (N := 4) hx hb hts (fun _ h => (List.mem_cons_of_mem _ (List.mem_append_right _ h))) hown hK hP 0 rfl rfl 1 (by decide) (hts _ (List.mem_of_getElem? (i := 1) rfl)) (fun _ h9 => h9) rfl dX2_row_83 ?_
                  refine va_alen (v := nI n) hx hb hK hP 1 0 rfl rfl rfl dX2_row_86 ?_
                  refine an_rem hx hb (by have := Nat.mod_lt (h + n - k) (show 0 < n by omega); omega) (by omega) (by omega) dX2_row_87 ?_
                  refine pv_i CF (m_X2_isFree l D cI cZ u c1 c2 c3 S (((h + n - k) % n + j9) % n) (Nat.mod_lt _ (by omega))) (cwV 1 hts gX2_row_X2_isFree rfl rfl rfl k_X2_isFree ⟨Nat.le_of_ble_eq_true rfl, Nat.le_of_ble_eq_true rfl⟩) hK hP rfl rfl rfl rfl hl.1 rfl (Nat.le_of_ble_eq_true rfl) dX2_row_88 ⟨Nat.le_of_ble_eq_true rfl, Nat.le_of_ble_eq_true rfl⟩ ?_
                  refine lv_if_ne (tgt := 100) hx hb dX2_row_91 (by decide) (fun c91 => ?_) (fun c91 => ?_)
                  · skip
                    refine lv_iload_n hx hb dX2_row_100 rfl (lv_at hl 0 rfl) ?_
                    exact en_i hx hb hr hlocks (congrArg nI ((lf_y g2 (fz_1 c91)).trans HL)) dX2_row_101
                  · skip
                    refine lv_iinc (v := (nI (j9 + 1))) (lv' := [(3, .int (nI (j9 + 1))), (2, .int (nI ((h + n - k) % n))), (0, .ref u), (1, .int (nI h))]) hx hb dX2_row_94 hl (k := 0) rfl (inc1 _) (by decide) rfl (fun ls hl => ?_)
                    refine lv_goto (tgt := 69) hx hb dX2_row_97 (by decide) ?_
                    exact ih (j9 + 1) (by omega) (lf_n g2 (fz_0 c91)) _ (lv_sub hl [0, 1, 2, 3] rfl)
            exact LPb n 0 (Nat.zero_add n) rfl _ (lv_sub hl [0, 1, 2, 3] rfl)
          · skip
            refine lv_iload_n hx hb dX2_row_45 rfl (lv_at hl 1 rfl) ?_
            refine lv_aload_n hx hb dX2_row_46 rfl (lv_at hl 2 rfl) ?_
            refine va_get (D := D) (ci := 2) (v := .ref c1) (C := RX2) (T := TX2) (N := 4) hx hb hts (fun _ h => (List.mem_cons_of_mem _ (List.mem_append_right _ h))) hown hK hP 0 rfl rfl 1 (by decide) (hts _ (List.mem_of_getElem? (i := 1) rfl)) (fun _ h9 => h9) rfl dX2_row_47 ?_
            refine va_alen (v := nI n) hx hb hK hP 1 0 rfl rfl rfl dX2_row_50 ?_
            refine an_add hx hb dX2_row_51 ?_
            refine lv_iconst (v := nI 1) hx hb dX2_row_52 (by decide) ?_
            refine an_sub hx hb (by omega) dX2_row_53 ?_
            refine lv_aload_n hx hb dX2_row_54 rfl (lv_at hl 2 rfl) ?_
            refine va_get (D := D) (ci := 2) (v := .ref c1) (C := RX2) (T := TX2) (N := 4) hx hb hts (fun _ h => (List.mem_cons_of_mem _ (List.mem_append_right _ h))) hown hK hP 0 rfl rfl 1 (by decide) (hts _ (List.mem_of_getElem? (i := 1) rfl)) (fun _ h9 => h9) rfl dX2_row_55 ?_
            refine va_alen (v := nI n) hx hb hK hP 1 0 rfl rfl rfl dX2_row_58 ?_
            refine an_rem hx hb (by have := Nat.mod_lt (h + n - k) (show 0 < n by omega); omega) (by omega) (by omega) dX2_row_59 ?_
            refine lv_istore_n (lv' := [(2, .int (nI (((((h + n - k) % n) + n) - 1) % n))), (3, .int (nI k)), (0, .ref u), (1, .int (nI h))]) hx hb dX2_row_60 rfl hl (by decide) rfl (fun ls hl => ?_)
            refine lv_iinc (v := (nI (k + 1))) (lv' := [(3, .int (nI (k + 1))), (2, .int (nI (((((h + n - k) % n) + n) - 1) % n))), (0, .ref u), (1, .int (nI h))]) hx hb dX2_row_61 hl (k := 1) rfl (inc1 _) (by decide) rfl (fun ls hl => ?_)
            refine lv_goto (tgt := 14) hx hb dX2_row_64 (by decide) ?_
            rw [row_m (n := n) (h := h) (k := k) (by omega) (by omega)] at hl
            exact ih (k + 1) (by omega) (row_s hns (by rw [← row_m (n := n) (h := h) (k := k) (by omega) (by omega)]; exact fz_0 c42)) _ (lv_sub hl [0, 1, 2, 3] rfl)
    exact LP14 n 0 (Nat.zero_add n) (row_0 hh (fz_0 c5)) _ (lv_sub hl [0, 1, 2, 3] rfl)
  · skip
    refine lv_iconst (v := nI 0) hx hb dX2_row_8 (by decide) ?_
    exact en_i hx hb hr hlocks (congrArg nI (if_pos (fz_1 c5)).symm) dX2_row_9
