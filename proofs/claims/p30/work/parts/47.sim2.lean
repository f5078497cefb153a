/-! hooks by hand: what makes and changes them -/
theorem ar_oneZ {D : va_G} {cl : List vw_C} {tys : List (ClassId × FieldType)} {s : State} (hK : va_K D cl tys s) (i j : Nat) {c1 c2 : ClassId} (h1 : tys[i]? = some (c1, .boolean)) (h2 : tys[j]? = some (c2, .boolean)) : c1 = c2 := by
  have e1 : s.vm.findClass ("[" ++ FieldType.boolean.toString) = some c1 := (hK.2 i _ h1).2
  have e2 : s.vm.findClass ("[" ++ FieldType.boolean.toString) = some c2 := (hK.2 j _ h2).2
  exact Option.some.inj (e1.symm.trans e2)
theorem n4_small {n : Nat} (h : n ≤ 40) : n * componentBytes .int ≤ 536870912 := Nat.le_trans (Nat.mul_le_mul_right _ h) (Nat.le_of_ble_eq_true rfl)
theorem n1_small {n : Nat} (h : n ≤ 40) : n * componentBytes .boolean ≤ 536870912 := Nat.le_trans (Nat.mul_le_mul_right _ h) (Nat.le_of_ble_eq_true rfl)
theorem k_X2_hang : yX2_hang.cls = RX2 ∧ yX2_hang.cls ≠ "java/lang/invoke/MethodHandle" ∧ yX2_hang.cls ≠ "java/lang/invoke/VarHandle" ∧ (parseMethodDescriptor yX2_hang.desc).map (fun d => d.parameters.length) = some 3 := by decide +kernel
set_option maxHeartbeats 4000000 in
set_option maxRecDepth 100000 in
theorem m_X2_hang (l : Launch) (D : va_G) (cI cZ : ClassId) (u c1 c2 c3 n w : Nat) (C V Z : Nat → Int32) (k : Nat) (x y : Int32) (hk : k < n) (hn : n ≤ 40) (sz : Nat) : Met l yX2_hang wsX2_hang ({ frames := 0, cells := 0, slots := 0, locals := 0 } : Room) (PM D [(cI, .int), (cZ, .boolean)] [.ref u, .int (nI k), .int x, .int y] sz (smw cI cZ u c1 c2 c3 n w C V Z)) (qm_v (fun H1 => va_P D vwCl (smw cI cZ u c1 c2 c3 n w (upd C k x) (upd V k y) (upd Z k (nI 0))) H1) (va_A (smw cI cZ u c1 c2 c3 n w C V Z) sz)) 0 0 (va_A (smw cI cZ u c1 c2 c3 n w C V Z) sz) := by
  refine bd_m (Qc := (fun A => qm_v (fun H1 => va_P D vwCl (smw cI cZ u c1 c2 c3 n w (upd C k x) (upd V k y) (upd Z k (nI 0))) H1) A)) (cc := cX2_hang) (maxL := 4) (ret := none) (by decide) rfl (Nat.le_of_ble_eq_true rfl) ?_
  intro p e s m args below meth c ls A CF hr hlocks hK hP hD hA hS hl hin
  obtain ⟨hx, hb, hml, hown, hts⟩ := id CF
  have hl : lv_has ls 4 [(0, .ref u), (1, .int (nI k)), (2, .int x), (3, .int y)] := hl
  have hP : va_P D vwCl [(u, .inr (2, [.int (nI w), .ref c1, .ref c2, .ref c3])), (c1, .inl (cI, n, .inl C)), (c2, .inl (cI, n, .inl V)), (c3, .inl (cZ, n, .inl Z))] s.heap := hP
  have hD : va_D A [(u, .inr (2, [.int (nI w), .ref c1, .ref c2, .ref c3])), (c1, .inl (cI, n, .inl C)), (c2, .inl (cI, n, .inl V)), (c3, .inl (cZ, n, .inl Z))] := hD
  generalize hH0 : s.heap = H at hP
  have hS : va_S A s.heap H [] := by rw [← hH0]; exact va_S.rf
  generalize hlc0 : ([] : List Loc) = locs at hS ⊢
  refine lv_aload_n hx hb dX2_hang_0 rfl (lv_at hl 0 rfl) ?_
  refine va_get (D := D) (ci := 2) (v := .ref c1) (C := RX2) (T := TX2) (N := 4) hx hb hts (fun _ h => (List.mem_cons_of_mem _ (List.mem_append_right _ h))) hown hK hP 0 rfl rfl 1 (by decide) (hts _ (List.mem_of_getElem? (i := 1) rfl)) (fun _ h9 => h9) rfl dX2_hang_1 ?_
  refine lv_iload_n hx hb dX2_hang_4 rfl (lv_at hl 1 rfl) ?_
  refine lv_iload_n hx hb dX2_hang_5 rfl (lv_at hl 2 rfl) ?_
  refine as_i hx hb hK hP hD hS 1 0 rfl rfl (k := k) (by omega) (by omega) dX2_hang_6 (fun H locs hP hD hS => ?_)
  have hP : va_P D vwCl [(u, .inr (2, [.int (nI w), .ref c1, .ref c2, .ref c3])), (c1, .inl (cI, n, .inl (upd C k x))), (c2, .inl (cI, n, .inl V)), (c3, .inl (cZ, n, .inl Z))] H := hP
  have hD : va_D A [(u, .inr (2, [.int (nI w), .ref c1, .ref c2, .ref c3])), (c1, .inl (cI, n, .inl (upd C k x))), (c2, .inl (cI, n, .inl V)), (c3, .inl (cZ, n, .inl Z))] := hD
  refine lv_aload_n hx hb dX2_hang_7 rfl (lv_at hl 0 rfl) ?_
  refine va_get (D := D) (ci := 2) (v := .ref c2) (C := RX2) (T := TX2) (N := 4) hx hb hts (fun _ h => (List.mem_cons_of_mem _ (List.mem_append_right _ h))) hown hK hP 0 rfl rfl 2 (by decide) (hts _ (List.mem_of_getElem? (i := 2) rfl)) (fun _ h9 => h9) rfl dX2_hang_8 ?_
  refine lv_iload_n hx hb dX2_hang_11 rfl (lv_at hl 1 rfl) ?_
  refine lv_iload_n hx hb dX2_hang_12 rfl (lv_at hl 3 rfl) ?_
  refine as_i hx hb hK hP hD hS 2 0 rfl rfl (k := k) (by omega) (by omega) dX2_hang_13 (fun H locs hP hD hS => ?_)
  have hP : va_P D vwCl [(u, .inr (2, [.int (nI w), .ref c1, .ref c2, .ref c3])), (c1, .inl (cI, n, .inl (upd C k x))), (c2, .inl (cI, n, .inl (upd V k y))), (c3, .inl (cZ, n, .inl Z))] H := hP
  have hD : va_D A [(u, .inr (2, [.int (nI w), .ref c1, .ref c2, .ref c3])), (c1, .inl (cI, n, .inl (upd C k x))), (c2, .inl (cI, n, .inl (upd V k y))), (c3, .inl (cZ, n, .inl Z))] := hD
  refine lv_aload_n hx hb dX2_hang_14 rfl (lv_at hl 0 rfl) ?_
  refine va_get (D := D) (ci := 2) (v := .ref c3) (C := RX2) (T := TX2) (N := 4) hx hb hts (fun _ h => (List.mem_cons_of_mem _ (List.mem_append_right _ h))) hown hK hP 0 rfl rfl 3 (by decide) (hts _ (List.mem_of_getElem? (i := 3) rfl)) (fun _ h9 => h9) rfl dX2_hang_15 ?_
  refine lv_iload_n hx hb dX2_hang_18 rfl (lv_at hl 1 rfl) ?_
  refine lv_iconst (v := nI 0) hx hb dX2_hang_19 (by decide) ?_
  refine as_z hx hb hK hP hD hS 3 1 rfl rfl (k := k) nar_0 (by omega) (by omega) dX2_hang_20 (fun H locs hP hD hS => ?_)
  have hP : va_P D vwCl [(u, .inr (2, [.int (nI w), .ref c1, .ref c2, .ref c3])), (c1, .inl (cI, n, .inl (upd C k x))), (c2, .inl (cI, n, .inl (upd V k y))), (c3, .inl (cZ, n, .inl (upd Z k (nI 0))))] H := hP
  have hD : va_D A [(u, .inr (2, [.int (nI w), .ref c1, .ref c2, .ref c3])), (c1, .inl (cI, n, .inl (upd C k x))), (c2, .inl (cI, n, .inl (upd V k y))), (c3, .inl (cZ, n, .inl (upd Z k (nI 0))))] := hD
  exact em_v hx hb hr hlocks hS hP dX2_hang_21
theorem k_X2_init : yX2_init.cls ≠ "java/lang/invoke/MethodHandle" ∧ yX2_init.cls ≠ "java/lang/invoke/VarHandle" ∧ (parseMethodDescriptor yX2_init.desc).map (fun d => d.parameters.length) = some 0 := by decide +kernel
set_option maxHeartbeats 4000000 in
set_option maxRecDepth 100000 in
theorem m_X2_init (l : Launch) (D : va_G) (cI cZ : ClassId) (u : Nat) (sz : Nat) : Met l yX2_init wsX2_init ({ frames := 1, cells := 3, slots := 24, locals := 12 } : Room) (PM D [(cI, .int), (cZ, .boolean)] [.ref u] sz [(u, .inr (2, [.int (nI 0), .null, .null, .null]))]) (qm_v ((fun (A : Nat → Prop) H1 => ∃ (c1 c2 c3 : Nat) (C V Z : Nat → Int32), (∀ k, k < 8 → C k = -1) ∧ (∀ k, k < 8 → Z k = nI 0) ∧ va_P D vwCl (smw cI cZ u c1 c2 c3 8 0 C V Z) H1 ∧ va_D A (smw cI cZ u c1 c2 c3 8 0 C V Z)) (va_A [(u, .inr (2, [.int (nI 0), .null, .null, .null]))] sz)) (va_A [(u, .inr (2, [.int (nI 0), .null, .null, .null]))] sz)) 3 24 (va_A [(u, .inr (2, [.int (nI 0), .null, .null, .null]))] sz) := by
  refine bd_m (Qc := (fun A => qm_v ((fun (A : Nat → Prop) H1 => ∃ (c1 c2 c3 : Nat) (C V Z : Nat → Int32), (∀ k, k < 8 → C k = -1) ∧ (∀ k, k < 8 → Z k = nI 0) ∧ va_P D vwCl (smw cI cZ u c1 c2 c3 8 0 C V Z) H1 ∧ va_D A (smw cI cZ u c1 c2 c3 8 0 C V Z)) A) A)) (cc := cX2_init) (maxL := 1) (ret := none) (by decide) rfl (Nat.le_of_ble_eq_true rfl) ?_
  intro p e s m args below meth c ls A CF hr hlocks hK hP hD hA hS hl hin
  obtain ⟨hx, hb, hml, hown, hts⟩ := id CF
  have hl : lv_has ls 1 [(0, .ref u)] := hl
  have hP : va_P D vwCl [(u, .inr (2, [.int (nI 0), .null, .null, .null]))] s.heap := hP
  have hD : va_D A [(u, .inr (2, [.int (nI 0), .null, .null, .null]))] := hD
  generalize hH0 : s.heap = H at hP
  have hS : va_S A s.heap H [] := by rw [← hH0]; exact va_S.rf
  generalize hlc0 : ([] : List Loc) = locs at hS ⊢
  refine lv_aload_n hx hb dX2_init_0 rfl (lv_at hl 0 rfl) ?_
  refine W.objInit hx hb hown (hts _ (List.mem_of_getElem? (i := 1) rfl)) (hts _ (List.mem_of_getElem? (i := 2) rfl)) (hts _ (List.mem_of_getElem? (i := 3) rfl)) rfl (by rw [hml]; exact hl.1) rfl dX2_init_1 (Nat.le_of_ble_eq_true rfl) (Nat.le_of_ble_eq_true rfl) ?_
  refine W.eq (g2 := F0 m 4 ls []) rfl ?_
  refine lv_aload_n hx hb dX2_init_4 rfl (lv_at hl 0 rfl) ?_
  refine lv_bipush (v := nI 8) hx hb dX2_init_5 (by decide) ?_
  refine va_newa (ty := .int) (a0 := (8, .inl (fun _ => 0))) hx hb (hts _ (List.mem_of_getElem? (i := 4) rfl)) rfl hK hP hD hS hA (fun _ => rfl) (nI_pos (by decide)) (nI_clamp (by decide)) (Nat.le_of_ble_eq_true rfl) (Nat.le_of_ble_eq_true rfl) (Nat.le_of_ble_eq_true rfl) dX2_init_7 (fun q7 cA H hK1 hP hD hS => ?_)
  obtain rfl : cI = cA := ar_one hK1 0 2 rfl rfl
  have hP : va_P D vwCl [(u, .inr (2, [.int (nI 0), .null, .null, .null])), (q7, .inl (cI, 8, .inl (fun _ => 0)))] H := hP
  have hD : va_D A [(u, .inr (2, [.int (nI 0), .null, .null, .null])), (q7, .inl (cI, 8, .inl (fun _ => 0)))] := hD
  refine lv_dup hx hb dX2_init_9 rfl ?_
  refine lv_iconst (v := nI 0) hx hb dX2_init_10 (by decide) ?_
  refine lv_iconst (v := (-1)) hx hb dX2_init_11 (by decide) ?_
  refine as_i hx hb hK hP hD hS 1 0 rfl rfl (k := 0) (by omega) (by omega) dX2_init_12 (fun H locs hP hD hS => ?_)
  have hP : va_P D vwCl [(u, .inr (2, [.int (nI 0), .null, .null, .null])), (q7, .inl (cI, 8, .inl (upd (fun _ => 0) 0 (-1))))] H := hP
  have hD : va_D A [(u, .inr (2, [.int (nI 0), .null, .null, .null])), (q7, .inl (cI, 8, .inl (upd (fun _ => 0) 0 (-1))))] := hD
  refine lv_dup hx hb dX2_init_13 rfl ?_
  refine lv_iconst (v := nI 1) hx hb dX2_init_14 (by decide) ?_
  refine lv_iconst (v := (-1)) hx hb dX2_init_15 (by decide) ?_
  refine as_i hx hb hK hP hD hS 1 0 rfl rfl (k := 1) (by omega) (by omega) dX2_init_16 (fun H locs hP hD hS => ?_)
  have hP : va_P D vwCl [(u, .inr (2, [.int (nI 0), .null, .null, .null])), (q7, .inl (cI, 8, .inl (upd (upd (fun _ => 0) 0 (-1)) 1 (-1))))] H := hP
  have hD : va_D A [(u, .inr (2, [.int (nI 0), .null, .null, .null])), (q7, .inl (cI, 8, .inl (upd (upd (fun _ => 0) 0 (-1)) 1 (-1))))] := hD
  refine lv_dup hx hb dX2_init_17 rfl ?_
  refine lv_iconst (v := nI 2) hx hb dX2_init_18 (by decide) ?_
  refine lv_iconst (v := (-1)) hx hb dX2_init_19 (by decide) ?_
  refine as_i hx hb hK hP hD hS 1 0 rfl rfl (k := 2) (by omega) (by omega) dX2_init_20 (fun H locs hP hD hS => ?_)
  have hP : va_P D vwCl [(u, .inr (2, [.int (nI 0), .null, .null, .null])), (q7, .inl (cI, 8, .inl (upd (upd (upd (fun _ => 0) 0 (-1)) 1 (-1)) 2 (-1))))] H := hP
  have hD : va_D A [(u, .inr (2, [.int (nI 0), .null, .null, .null])), (q7, .inl (cI, 8, .inl (upd (upd (upd (fun _ => 0) 0 (-1)) 1 (-1)) 2 (-1))))] := hD
  refine lv_dup hx hb dX2_init_21 rfl ?_
  refine lv_iconst (v := nI 3) hx hb dX2_init_22 (by decide) ?_
  refine lv_iconst (v := (-1)) hx hb dX2_init_23 (by decide) ?_
  refine as_i hx hb hK hP hD hS 1 0 rfl rfl (k := 3) (by omega) (by omega) dX2_init_24 (fun H locs hP hD hS => ?_)
  have hP : va_P D vwCl [(u, .inr (2, [.int (nI 0), .null, .null, .null])), (q7, .inl (cI, 8, .inl (upd (upd (upd (upd (fun _ => 0) 0 (-1)) 1 (-1)) 2 (-1)) 3 (-1))))] H := hP
  have hD : va_D A [(u, .inr (2, [.int (nI 0), .null, .null, .null])), (q7, .inl (cI, 8, .inl (upd (upd (upd (upd (fun _ => 0) 0 (-1)) 1 (-1)) 2 (-1)) 3 (-1))))] := hD
  refine lv_dup hx hb dX2_init_25 rfl ?_
  refine lv_iconst (v := nI 4) hx hb dX2_init_26 (by decide) ?_
  refine lv_iconst (v := (-1)) hx hb dX2_init_27 (by decide) ?_
  refine as_i hx hb hK hP hD hS 1 0 rfl rfl (k := 4) (by omega) (by omega) dX2_init_28 (fun H locs hP hD hS => ?_)
  have hP : va_P D vwCl [(u, .inr (2, [.int (nI 0), .null, .null, .null])), (q7, .inl (cI, 8, .inl (upd (upd (upd (upd (upd (fun _ => 0) 0 (-1)) 1 (-1)) 2 (-1)) 3 (-1)) 4 (-1))))] H := hP
  have hD : va_D A [(u, .inr (2, [.int (nI 0), .null, .null, .null])), (q7, .inl (cI, 8, .inl (upd (upd (upd (upd (upd (fun _ => 0) 0 (-1)) 1 (-1)) 2 (-1)) 3 (-1)) 4 (-1))))] := hD
  refine lv_dup hx hb dX2_init_29 rfl ?_
  refine lv_iconst (v := nI 5) hx hb dX2_init_30 (by decide) ?_
  refine lv_iconst (v := (-1)) hx hb dX2_init_31 (by decide) ?_
  refine as_i hx hb hK hP hD hS 1 0 rfl rfl (k := 5) (by omega) (by omega) dX2_init_32 (fun H locs hP hD hS => ?_)
  have hP : va_P D vwCl [(u, .inr (2, [.int (nI 0), .null, .null, .null])), (q7, .inl (cI, 8, .inl (upd (upd (upd (upd (upd (upd (fun _ => 0) 0 (-1)) 1 (-1)) 2 (-1)) 3 (-1)) 4 (-1)) 5 (-1))))] H := hP
  have hD : va_D A [(u, .inr (2, [.int (nI 0), .null, .null, .null])), (q7, .inl (cI, 8, .inl (upd (upd (upd (upd (upd (upd (fun _ => 0) 0 (-1)) 1 (-1)) 2 (-1)) 3 (-1)) 4 (-1)) 5 (-1))))] := hD
  refine lv_dup hx hb dX2_init_33 rfl ?_
  refine lv_bipush (v := nI 6) hx hb dX2_init_34 (by decide) ?_
  refine lv_iconst (v := (-1)) hx hb dX2_init_36 (by decide) ?_
  refine as_i hx hb hK hP hD hS 1 0 rfl rfl (k := 6) (by omega) (by omega) dX2_init_37 (fun H locs hP hD hS => ?_)
  have hP : va_P D vwCl [(u, .inr (2, [.int (nI 0), .null, .null, .null])), (q7, .inl (cI, 8, .inl (upd (upd (upd (upd (upd (upd (upd (fun _ => 0) 0 (-1)) 1 (-1)) 2 (-1)) 3 (-1)) 4 (-1)) 5 (-1)) 6 (-1))))] H := hP
  have hD : va_D A [(u, .inr (2, [.int (nI 0), .null, .null, .null])), (q7, .inl (cI, 8, .inl (upd (upd (upd (upd (upd (upd (upd (fun _ => 0) 0 (-1)) 1 (-1)) 2 (-1)) 3 (-1)) 4 (-1)) 5 (-1)) 6 (-1))))] := hD
  refine lv_dup hx hb dX2_init_38 rfl ?_
  refine lv_bipush (v := nI 7) hx hb dX2_init_39 (by decide) ?_
  refine lv_iconst (v := (-1)) hx hb dX2_init_41 (by decide) ?_
  refine as_i hx hb hK hP hD hS 1 0 rfl rfl (k := 7) (by omega) (by omega) dX2_init_42 (fun H locs hP hD hS => ?_)
  have hP : va_P D vwCl [(u, .inr (2, [.int (nI 0), .null, .null, .null])), (q7, .inl (cI, 8, .inl (upd (upd (upd (upd (upd (upd (upd (upd (fun _ => 0) 0 (-1)) 1 (-1)) 2 (-1)) 3 (-1)) 4 (-1)) 5 (-1)) 6 (-1)) 7 (-1))))] H := hP
  have hD : va_D A [(u, .inr (2, [.int (nI 0), .null, .null, .null])), (q7, .inl (cI, 8, .inl (upd (upd (upd (upd (upd (upd (upd (upd (fun _ => 0) 0 (-1)) 1 (-1)) 2 (-1)) 3 (-1)) 4 (-1)) 5 (-1)) 6 (-1)) 7 (-1))))] := hD
  refine va_put (D := D) (ci := 2) (v := .ref q7) (ty := .array .int) (C := RX2) (T := TX2) (N := 4) hx hb hts (fun _ h => (List.mem_cons_of_mem _ (List.mem_append_right _ h))) tyX2 tyX2_ok nmX2 hown hK hP hD hS 0 rfl rfl 1 (by decide) (hts _ (List.mem_of_getElem? (i := 5) rfl)) (fun _ h9 => h9) rfl (by decide +kernel) rfl rfl (Nat.le_of_ble_eq_true rfl) dX2_init_43 (fun H locs hP hD hS => ?_)
  have hP : va_P D vwCl [(u, .inr (2, [.int (nI 0), .ref q7, .null, .null])), (q7, .inl (cI, 8, .inl (upd (upd (upd (upd (upd (upd (upd (upd (fun _ => 0) 0 (-1)) 1 (-1)) 2 (-1)) 3 (-1)) 4 (-1)) 5 (-1)) 6 (-1)) 7 (-1))))] H := hP
  have hD : va_D A [(u, .inr (2, [.int (nI 0), .ref q7, .null, .null])), (q7, .inl (cI, 8, .inl (upd (upd (upd (upd (upd (upd (upd (upd (fun _ => 0) 0 (-1)) 1 (-1)) 2 (-1)) 3 (-1)) 4 (-1)) 5 (-1)) 6 (-1)) 7 (-1))))] := hD
  refine lv_aload_n hx hb dX2_init_46 rfl (lv_at hl 0 rfl) ?_
  refine lv_bipush (v := nI 8) hx hb dX2_init_47 (by decide) ?_
  refine va_newa (ty := .int) (a0 := (8, .inl (fun _ => 0))) hx hb (hts _ (List.mem_of_getElem? (i := 4) rfl)) rfl hK hP hD hS hA (fun _ => rfl) (nI_pos (by decide)) (nI_clamp (by decide)) (Nat.le_of_ble_eq_true rfl) (Nat.le_of_ble_eq_true rfl) (Nat.le_of_ble_eq_true rfl) dX2_init_49 (fun q49 cA H hK1 hP hD hS => ?_)
  obtain rfl : cI = cA := ar_one hK1 0 2 rfl rfl
  have hP : va_P D vwCl [(u, .inr (2, [.int (nI 0), .ref q7, .null, .null])), (q7, .inl (cI, 8, .inl (upd (upd (upd (upd (upd (upd (upd (upd (fun _ => 0) 0 (-1)) 1 (-1)) 2 (-1)) 3 (-1)) 4 (-1)) 5 (-1)) 6 (-1)) 7 (-1)))), (q49, .inl (cI, 8, .inl (fun _ => 0)))] H := hP
  have hD : va_D A [(u, .inr (2, [.int (nI 0), .ref q7, .null, .null])), (q7, .inl (cI, 8, .inl (upd (upd (upd (upd (upd (upd (upd (upd (fun _ => 0) 0 (-1)) 1 (-1)) 2 (-1)) 3 (-1)) 4 (-1)) 5 (-1)) 6 (-1)) 7 (-1)))), (q49, .inl (cI, 8, .inl (fun _ => 0)))] := hD
  refine va_put (D := D) (ci := 2) (v := .ref q49) (ty := .array .int) (C := RX2) (T := TX2) (N := 4) hx hb hts (fun _ h => (List.mem_cons_of_mem _ (List.mem_append_right _ h))) tyX2 tyX2_ok nmX2 hown hK hP hD hS 0 rfl rfl 2 (by decide) (hts _ (List.mem_of_getElem? (i := 6) rfl)) (fun _ h9 => h9) rfl (by decide +kernel) rfl rfl (Nat.le_of_ble_eq_true rfl) dX2_init_51 (fun H locs hP hD hS => ?_)
  have hP : va_P D vwCl [(u, .inr (2, [.int (nI 0), .ref q7, .ref q49, .null])), (q7, .inl (cI, 8, .inl (upd (upd (upd (upd (upd (upd (upd (upd (fun _ => 0) 0 (-1)) 1 (-1)) 2 (-1)) 3 (-1)) 4 (-1)) 5 (-1)) 6 (-1)) 7 (-1)))), (q49, .inl (cI, 8, .inl (fun _ => 0)))] H := hP
  have hD : va_D A [(u, .inr (2, [.int (nI 0), .ref q7, .ref q49, .null])), (q7, .inl (cI, 8, .inl (upd (upd (upd (upd (upd (upd (upd (upd (fun _ => 0) 0 (-1)) 1 (-1)) 2 (-1)) 3 (-1)) 4 (-1)) 5 (-1)) 6 (-1)) 7 (-1)))), (q49, .inl (cI, 8, .inl (fun _ => 0)))] := hD
  refine lv_aload_n hx hb dX2_init_54 rfl (lv_at hl 0 rfl) ?_
  refine lv_bipush (v := nI 8) hx hb dX2_init_55 (by decide) ?_
  refine va_newa (ty := .boolean) (a0 := (8, .inl (fun _ => 0))) hx hb (hts _ (List.mem_of_getElem? (i := 7) rfl)) rfl hK hP hD hS hA (fun _ => rfl) (nI_pos (by decide)) (nI_clamp (by decide)) (Nat.le_of_ble_eq_true rfl) (Nat.le_of_ble_eq_true rfl) (Nat.le_of_ble_eq_true rfl) dX2_init_57 (fun q57 cA H hK1 hP hD hS => ?_)
  obtain rfl : cZ = cA := ar_oneZ hK1 1 2 rfl rfl
  have hP : va_P D vwCl [(u, .inr (2, [.int (nI 0), .ref q7, .ref q49, .null])), (q7, .inl (cI, 8, .inl (upd (upd (upd (upd (upd (upd (upd (upd (fun _ => 0) 0 (-1)) 1 (-1)) 2 (-1)) 3 (-1)) 4 (-1)) 5 (-1)) 6 (-1)) 7 (-1)))), (q49, .inl (cI, 8, .inl (fun _ => 0))), (q57, .inl (cZ, 8, .inl (fun _ => 0)))] H := hP
  have hD : va_D A [(u, .inr (2, [.int (nI 0), .ref q7, .ref q49, .null])), (q7, .inl (cI, 8, .inl (upd (upd (upd (upd (upd (upd (upd (upd (fun _ => 0) 0 (-1)) 1 (-1)) 2 (-1)) 3 (-1)) 4 (-1)) 5 (-1)) 6 (-1)) 7 (-1)))), (q49, .inl (cI, 8, .inl (fun _ => 0))), (q57, .inl (cZ, 8, .inl (fun _ => 0)))] := hD
  refine va_put (D := D) (ci := 2) (v := .ref q57) (ty := .array .boolean) (C := RX2) (T := TX2) (N := 4) hx hb hts (fun _ h => (List.mem_cons_of_mem _ (List.mem_append_right _ h))) tyX2 tyX2_ok nmX2 hown hK hP hD hS 0 rfl rfl 3 (by decide) (hts _ (List.mem_of_getElem? (i := 8) rfl)) (fun _ h9 => h9) rfl (by decide +kernel) rfl rfl (Nat.le_of_ble_eq_true rfl) dX2_init_59 (fun H locs hP hD hS => ?_)
  have hP : va_P D vwCl [(u, .inr (2, [.int (nI 0), .ref q7, .ref q49, .ref q57])), (q7, .inl (cI, 8, .inl (upd (upd (upd (upd (upd (upd (upd (upd (fun _ => 0) 0 (-1)) 1 (-1)) 2 (-1)) 3 (-1)) 4 (-1)) 5 (-1)) 6 (-1)) 7 (-1)))), (q49, .inl (cI, 8, .inl (fun _ => 0))), (q57, .inl (cZ, 8, .inl (fun _ => 0)))] H := hP
  have hD : va_D A [(u, .inr (2, [.int (nI 0), .ref q7, .ref q49, .ref q57])), (q7, .inl (cI, 8, .inl (upd (upd (upd (upd (upd (upd (upd (upd (fun _ => 0) 0 (-1)) 1 (-1)) 2 (-1)) 3 (-1)) 4 (-1)) 5 (-1)) 6 (-1)) 7 (-1)))), (q49, .inl (cI, 8, .inl (fun _ => 0))), (q57, .inl (cZ, 8, .inl (fun _ => 0)))] := hD
  exact em_v hx hb hr hlocks hS (⟨q7, q49, q57, _, _, _, (fun k hk => by rcases (show k = 0 ∨ k = 1 ∨ k = 2 ∨ k = 3 ∨ k = 4 ∨ k = 5 ∨ k = 6 ∨ k = 7 by omega) with rfl | rfl | rfl | rfl | rfl | rfl | rfl | rfl <;> rfl), (fun _ _ => rfl), hP, hD⟩) dX2_init_62
theorem k_X2_bare : yX2_bare.cls = RX2 ∧ yX2_bare.cls ≠ "java/lang/invoke/MethodHandle" ∧ yX2_bare.cls ≠ "java/lang/invoke/VarHandle" ∧ (parseMethodDescriptor yX2_bare.desc).map (fun d => d.parameters.length) = some 2 := by decide +kernel
set_option maxHeartbeats 4000000 in
set_option maxRecDepth 100000 in
theorem m_X2_bare (l : Launch) (D : va_G) (cI cZ : ClassId) (u c1 c2 c3 n w : Nat) (C V Z : Nat → Int32) (N w1 : Nat) (hN3 : 3 ≤ N) (hN40 : N ≤ 40) (hw1 : w1 ≤ 2) (sz : Nat) : Met l yX2_bare wsX2_bare ({ frames := 2, cells := 7, slots := 148, locals := 32 } : Room) (PM D [(cI, .int), (cZ, .boolean)] [.ref u, .int (nI N), .int (nI w1)] sz (smw cI cZ u c1 c2 c3 n w C V Z)) (qm_r ((fun (A : Nat → Prop) (r : Option Nat) H1 => ∃ (q d1 d2 d3 : Nat) (C2 V2 Z2 : Nat → Int32), r = some q ∧ (∀ k, k < N → C2 k = -1) ∧ (∀ k, k < N → Z2 k = nI 0) ∧ va_P D vwCl ((smw cI cZ u c1 c2 c3 n w C V Z) ++ (smw cI cZ q d1 d2 d3 N w1 C2 V2 Z2)) H1 ∧ va_D A ((smw cI cZ u c1 c2 c3 n w C V Z) ++ (smw cI cZ q d1 d2 d3 N w1 C2 V2 Z2))) (va_A (smw cI cZ u c1 c2 c3 n w C V Z) sz)) (va_A (smw cI cZ u c1 c2 c3 n w C V Z) sz)) 7 148 (va_A (smw cI cZ u c1 c2 c3 n w C V Z) sz) := by
  refine bd_m (Qc := (fun A => qm_r ((fun (A : Nat → Prop) (r : Option Nat) H1 => ∃ (q d1 d2 d3 : Nat) (C2 V2 Z2 : Nat → Int32), r = some q ∧ (∀ k, k < N → C2 k = -1) ∧ (∀ k, k < N → Z2 k = nI 0) ∧ va_P D vwCl ((smw cI cZ u c1 c2 c3 n w C V Z) ++ (smw cI cZ q d1 d2 d3 N w1 C2 V2 Z2)) H1 ∧ va_D A ((smw cI cZ u c1 c2 c3 n w C V Z) ++ (smw cI cZ q d1 d2 d3 N w1 C2 V2 Z2))) A) A)) (cc := cX2_bare) (maxL := 5) (ret := (some (.object "CoatHooksLaw$Sim"))) (by decide) rfl (Nat.le_of_ble_eq_true rfl) ?_
  intro p e s m args below meth c ls A CF hr hlocks hK hP hD hA hS hl hin
  obtain ⟨hx, hb, hml, hown, hts⟩ := id CF
  have hl : lv_has ls 5 [(0, .ref u), (1, .int (nI N)), (2, .int (nI w1))] := hl
  have hP : va_P D vwCl [(u, .inr (2, [.int (nI w), .ref c1, .ref c2, .ref c3])), (c1, .inl (cI, n, .inl C)), (c2, .inl (cI, n, .inl V)), (c3, .inl (cZ, n, .inl Z))] s.heap := hP
  have hD : va_D A [(u, .inr (2, [.int (nI w), .ref c1, .ref c2, .ref c3])), (c1, .inl (cI, n, .inl C)), (c2, .inl (cI, n, .inl V)), (c3, .inl (cZ, n, .inl Z))] := hD
  generalize hH0 : s.heap = H at hP
  have hS : va_S A s.heap H [] := by rw [← hH0]; exact va_S.rf
  generalize hlc0 : ([] : List Loc) = locs at hS ⊢
  refine va_new (ci := 2) (fs := [.int (nI 0), .null, .null, .null]) (C := RX2) (T := TX2) (N := 4) hx hb hts (fun _ h => (List.mem_cons_of_mem _ (List.mem_append_right _ h))) tyX2 tyX2_ok hown (hts _ (List.mem_of_getElem? (i := 1) rfl)) (hts _ (List.mem_of_getElem? (i := 2) rfl)) (hts _ (List.mem_of_getElem? (i := 3) rfl)) hK hP hD hS hA rfl (fun j hj => by rcases (show j = 0 ∨ j = 1 ∨ j = 2 ∨ j = 3 by omega) with rfl | rfl | rfl | rfl <;> rfl) (Nat.le_of_ble_eq_true rfl) (Nat.le_of_ble_eq_true rfl) dX2_bare_0 (fun q0 H hP hD hS => ?_)
  have hP : va_P D vwCl [(u, .inr (2, [.int (nI w), .ref c1, .ref c2, .ref c3])), (c1, .inl (cI, n, .inl C)), (c2, .inl (cI, n, .inl V)), (c3, .inl (cZ, n, .inl Z)), (q0, .inr (2, [.int (nI 0), .null, .null, .null]))] H := hP
  have hD : va_D A [(u, .inr (2, [.int (nI w), .ref c1, .ref c2, .ref c3])), (c1, .inl (cI, n, .inl C)), (c2, .inl (cI, n, .inl V)), (c3, .inl (cZ, n, .inl Z)), (q0, .inr (2, [.int (nI 0), .null, .null, .null]))] := hD
  refine lv_dup hx hb dX2_bare_3 rfl ?_
  have hPc : va_P D vwCl [(q0, .inr (2, [.int (nI 0), .null, .null, .null]))] H := hP.sub [4] rfl
  have hDc : va_D A [(q0, .inr (2, [.int (nI 0), .null, .null, .null]))] := hD.sub [4] (by decide) rfl
  have hFc := va_free (wc := [(q0, .inr (2, [.int (nI 0), .null, .null, .null]))]) hD hS hA [4] rfl
  refine pq_v (va_runI (As := []) (rest := [.ref q0]) CF (m_X2_init l D cI cZ q0 H.size) (cwI 0 hts gX2_bare_X2_init rfl rfl rfl (hts _ (List.mem_of_getElem? (i := 3) rfl)) (hts _ (List.mem_of_getElem? (i := 10) rfl)) (hts _ (List.mem_of_getElem? (i := 11) rfl)) rfl k_X2_init ⟨Nat.le_of_ble_eq_true rfl, Nat.le_of_ble_eq_true rfl⟩) (ms_pre hK hPc hDc) rfl rfl hl.1 rfl (lv_room (Nat.le_of_ble_eq_true rfl)) dX2_bare_4 ⟨Nat.le_of_ble_eq_true rfl, Nat.le_of_ble_eq_true rfl⟩) hS hFc (fun H locs hB hk1 hS => ?_)
  obtain ⟨d1, d2, d3, C0, V0, Z0, hC0, hZ0, hP1, hD1⟩ := hB
  obtain ⟨hP, hD⟩ := va_join (wr := [(u, .inr (2, [.int (nI w), .ref c1, .ref c2, .ref c3])), (c1, .inl (cI, n, .inl C)), (c2, .inl (cI, n, .inl V)), (c3, .inl (cZ, n, .inl Z))]) (w1 := [(q0, .inr (2, [.int (nI 0), .ref d1, .ref d2, .ref d3])), (d1, .inl (cI, 8, .inl C0)), (d2, .inl (cI, 8, .inl V0)), (d3, .inl (cZ, 8, .inl Z0))]) hP hD [4] [0, 1, 2, 3] rfl rfl (by decide) (by decide) hk1 hFc hP1 hD1
  have hP : va_P D vwCl [(u, .inr (2, [.int (nI w), .ref c1, .ref c2, .ref c3])), (c1, .inl (cI, n, .inl C)), (c2, .inl (cI, n, .inl V)), (c3, .inl (cZ, n, .inl Z)), (q0, .inr (2, [.int (nI 0), .ref d1, .ref d2, .ref d3])), (d1, .inl (cI, 8, .inl C0)), (d2, .inl (cI, 8, .inl V0)), (d3, .inl (cZ, 8, .inl Z0))] H := hP
  have hD : va_D A [(u, .inr (2, [.int (nI w), .ref c1, .ref c2, .ref c3])), (c1, .inl (cI, n, .inl C)), (c2, .inl (cI, n, .inl V)), (c3, .inl (cZ, n, .inl Z)), (q0, .inr (2, [.int (nI 0), .ref d1, .ref d2, .ref d3])), (d1, .inl (cI, 8, .inl C0)), (d2, .inl (cI, 8, .inl V0)), (d3, .inl (cZ, 8, .inl Z0))] := hD
  refine lv_astore_n (lv' := [(3, .ref q0), (0, .ref u), (1, .int (nI N)), (2, .int (nI w1))]) hx hb dX2_bare_7 rfl hl (by decide) rfl (fun ls hl => ?_)
  refine lv_aload_n hx hb dX2_bare_8 rfl (lv_at hl 0 rfl) ?_
  refine lv_iload_n hx hb dX2_bare_9 rfl (lv_at hl 3 rfl) ?_
  refine va_put (D := D) (ci := 2) (v := .int (nI w1)) (ty := .int) (C := RX2) (T := TX2) (N := 4) hx hb hts (fun _ h => (List.mem_cons_of_mem _ (List.mem_append_right _ h))) tyX2 tyX2_ok nmX2 hown hK hP hD hS 4 rfl rfl 0 (by decide) (hts _ (List.mem_of_getElem? (i := 4) rfl)) (fun _ h9 => h9) rfl (by decide +kernel) rfl rfl (Nat.le_of_ble_eq_true rfl) dX2_bare_10 (fun H locs hP hD hS => ?_)
  have hP : va_P D vwCl [(u, .inr (2, [.int (nI w), .ref c1, .ref c2, .ref c3])), (c1, .inl (cI, n, .inl C)), (c2, .inl (cI, n, .inl V)), (c3, .inl (cZ, n, .inl Z)), (q0, .inr (2, [.int (nI w1), .ref d1, .ref d2, .ref d3])), (d1, .inl (cI, 8, .inl C0)), (d2, .inl (cI, 8, .inl V0)), (d3, .inl (cZ, 8, .inl Z0))] H := hP
  have hD : va_D A [(u, .inr (2, [.int (nI w), .ref c1, .ref c2, .ref c3])), (c1, .inl (cI, n, .inl C)), (c2, .inl (cI, n, .inl V)), (c3, .inl (cZ, n, .inl Z)), (q0, .inr (2, [.int (nI w1), .ref d1, .ref d2, .ref d3])), (d1, .inl (cI, 8, .inl C0)), (d2, .inl (cI, 8, .inl V0)), (d3, .inl (cZ, 8, .inl Z0))] := hD
  refine lv_aload_n hx hb dX2_bare_13 rfl (lv_at hl 0 rfl) ?_
  refine lv_iload_n hx hb dX2_bare_14 rfl (lv_at hl 2 rfl) ?_
  refine va_newa (ty := .int) (a0 := (N, .inl (fun _ => 0))) hx hb (hts _ (List.mem_of_getElem? (i := 5) rfl)) rfl hK hP hD hS hA (fun _ => rfl) (nI_pos (by omega)) (nI_clamp (by omega)) (n4_small (by omega)) (Nat.le_of_ble_eq_true rfl) (by show _ + N ≤ 148; omega) dX2_bare_15 (fun q15 cA H hK1 hP hD hS => ?_)
  obtain rfl : cI = cA := ar_one hK1 0 2 rfl rfl
  have hP : va_P D vwCl [(u, .inr (2, [.int (nI w), .ref c1, .ref c2, .ref c3])), (c1, .inl (cI, n, .inl C)), (c2, .inl (cI, n, .inl V)), (c3, .inl (cZ, n, .inl Z)), (q0, .inr (2, [.int (nI w1), .ref d1, .ref d2, .ref d3])), (d1, .inl (cI, 8, .inl C0)), (d2, .inl (cI, 8, .inl V0)), (d3, .inl (cZ, 8, .inl Z0)), (q15, .inl (cI, N, .inl (fun _ => 0)))] H := hP
  have hD : va_D A [(u, .inr (2, [.int (nI w), .ref c1, .ref c2, .ref c3])), (c1, .inl (cI, n, .inl C)), (c2, .inl (cI, n, .inl V)), (c3, .inl (cZ, n, .inl Z)), (q0, .inr (2, [.int (nI w1), .ref d1, .ref d2, .ref d3])), (d1, .inl (cI, 8, .inl C0)), (d2, .inl (cI, 8, .inl V0)), (d3, .inl (cZ, 8, .inl Z0)), (q15, .inl (cI, N, .inl (fun _ => 0)))] := hD
  refine va_put (D := D) (ci := 2) (v := .ref q15) (ty := .array .int) (C := RX2) (T := TX2) (N := 4) hx hb hts (fun _ h => (List.mem_cons_of_mem _ (List.mem_append_right _ h))) tyX2 tyX2_ok nmX2 hown hK hP hD hS 4 rfl rfl 1 (by decide) (hts _ (List.mem_of_getElem? (i := 6) rfl)) (fun _ h9 => h9) rfl (by decide +kernel) rfl rfl (Nat.le_of_ble_eq_true rfl) dX2_bare_17 (fun H locs hP hD hS => ?_)
  have hP : va_P D vwCl [(u, .inr (2, [.int (nI w), .ref c1, .ref c2, .ref c3])), (c1, .inl (cI, n, .inl C)), (c2, .inl (cI, n, .inl V)), (c3, .inl (cZ, n, .inl Z)), (q0, .inr (2, [.int (nI w1), .ref q15, .ref d2, .ref d3])), (d1, .inl (cI, 8, .inl C0)), (d2, .inl (cI, 8, .inl V0)), (d3, .inl (cZ, 8, .inl Z0)), (q15, .inl (cI, N, .inl (fun _ => 0)))] H := hP
  have hD : va_D A [(u, .inr (2, [.int (nI w), .ref c1, .ref c2, .ref c3])), (c1, .inl (cI, n, .inl C)), (c2, .inl (cI, n, .inl V)), (c3, .inl (cZ, n, .inl Z)), (q0, .inr (2, [.int (nI w1), .ref q15, .ref d2, .ref d3])), (d1, .inl (cI, 8, .inl C0)), (d2, .inl (cI, 8, .inl V0)), (d3, .inl (cZ, 8, .inl Z0)), (q15, .inl (cI, N, .inl (fun _ => 0)))] := hD
  have hP := hP.sub (ws' := [(u, .inr (2, [.int (nI w), .ref c1, .ref c2, .ref c3])), (c1, .inl (cI, n, .inl C)), (c2, .inl (cI, n, .inl V)), (c3, .inl (cZ, n, .inl Z)), (q0, .inr (2, [.int (nI w1), .ref q15, .ref d2, .ref d3])), (q15, .inl (cI, N, .inl (fun _ => 0)))]) [0, 1, 2, 3, 4, 8] rfl
  have hD := hD.sub (ws' := [(u, .inr (2, [.int (nI w), .ref c1, .ref c2, .ref c3])), (c1, .inl (cI, n, .inl C)), (c2, .inl (cI, n, .inl V)), (c3, .inl (cZ, n, .inl Z)), (q0, .inr (2, [.int (nI w1), .ref q15, .ref d2, .ref d3])), (q15, .inl (cI, N, .inl (fun _ => 0)))]) [0, 1, 2, 3, 4, 8] (by decide) rfl
  have hP : va_P D vwCl [(u, .inr (2, [.int (nI w), .ref c1, .ref c2, .ref c3])), (c1, .inl (cI, n, .inl C)), (c2, .inl (cI, n, .inl V)), (c3, .inl (cZ, n, .inl Z)), (q0, .inr (2, [.int (nI w1), .ref q15, .ref d2, .ref d3])), (q15, .inl (cI, N, .inl (fun _ => 0)))] H := hP
  have hD : va_D A [(u, .inr (2, [.int (nI w), .ref c1, .ref c2, .ref c3])), (c1, .inl (cI, n, .inl C)), (c2, .inl (cI, n, .inl V)), (c3, .inl (cZ, n, .inl Z)), (q0, .inr (2, [.int (nI w1), .ref q15, .ref d2, .ref d3])), (q15, .inl (cI, N, .inl (fun _ => 0)))] := hD
  refine lv_iconst (v := nI 0) hx hb dX2_bare_20 (by decide) ?_
  refine lv_istore (lv' := [(4, .int (nI 0)), (3, .ref q0), (0, .ref u), (1, .int (nI N)), (2, .int (nI w1))]) hx hb dX2_bare_21 hl (by decide) rfl (fun ls hl => ?_)
  have LP23 : ∀ (q i : Nat) (C2 : Nat → Int32), i + q = N → (∀ k, k < i → C2 k = -1) → ∀ (H : Heap) (locs : List Loc), va_P D vwCl [(u, .inr (2, [.int (nI w), .ref c1, .ref c2, .ref c3])), (c1, .inl (cI, n, .inl C)), (c2, .inl (cI, n, .inl V)), (c3, .inl (cZ, n, .inl Z)), (q0, .inr (2, [.int (nI w1), .ref q15, .ref d2, .ref d3])), (q15, .inl (cI, N, .inl C2))] H → va_D A [(u, .inr (2, [.int (nI w), .ref c1, .ref c2, .ref c3])), (c1, .inl (cI, n, .inl C)), (c2, .inl (cI, n, .inl V)), (c3, .inl (cZ, n, .inl Z)), (q0, .inr (2, [.int (nI w1), .ref q15, .ref d2, .ref d3])), (q15, .inl (cI, N, .inl C2))] → va_S A s.heap H locs → ∀ (ls : Array Slot), lv_has ls 5 [(4, .int (nI i)), (3, .ref q0), (0, .ref u), (1, .int (nI N)), (2, .int (nI w1))] → W p l e ({ frames := 2, cells := 7, slots := 148, locals := 32 } : Room) s m args below meth c H locs (0 + 1 + 3 + 1) (0 + 4 + 24 + N) (MQ below (qm_r ((fun (A : Nat → Prop) (r : Option Nat) H1 => ∃ (q d1 d2 d3 : Nat) (C2 V2 Z2 : Nat → Int32), r = some q ∧ (∀ k, k < N → C2 k = -1) ∧ (∀ k, k < N → Z2 k = nI 0) ∧ va_P D vwCl ((smw cI cZ u c1 c2 c3 n w C V Z) ++ (smw cI cZ q d1 d2 d3 N w1 C2 V2 Z2)) H1 ∧ va_D A ((smw cI cZ u c1 c2 c3 n w C V Z) ++ (smw cI cZ q d1 d2 d3 N w1 C2 V2 Z2))) A) A) args s 7 148 A) (F0 m 23 ls []) := by
    intro q
    induction q with
    | zero =>
      intro i C2 h1 h2 H locs hP hD hS ls hl
      refine lv_iload hx hb dX2_bare_23 (lv_at hl 0 rfl) ?_
      refine lv_iload_n hx hb dX2_bare_25 rfl (lv_at hl 3 rfl) ?_
      refine bn_ge (tgt := 43) hx hb dX2_bare_26 (by decide) (by omega) (by omega) (fun c26 => ?_) (fun c26 => ?_)
      · skip
        refine lv_aload_n hx hb dX2_bare_43 rfl (lv_at hl 1 rfl) ?_
        refine lv_iload_n hx hb dX2_bare_44 rfl (lv_at hl 3 rfl) ?_
        refine va_newa (ty := .int) (a0 := (N, .inl (fun _ => 0))) hx hb (hts _ (List.mem_of_getElem? (i := 5) rfl)) rfl hK hP hD hS hA (fun _ => rfl) (nI_pos (by omega)) (nI_clamp (by omega)) (n4_small (by omega)) (Nat.le_of_ble_eq_true rfl) (by show _ + N ≤ 148; omega) dX2_bare_45 (fun q45 cA H hK1 hP hD hS => ?_)
        obtain rfl : cI = cA := ar_one hK1 0 2 rfl rfl
        have hP : va_P D vwCl [(u, .inr (2, [.int (nI w), .ref c1, .ref c2, .ref c3])), (c1, .inl (cI, n, .inl C)), (c2, .inl (cI, n, .inl V)), (c3, .inl (cZ, n, .inl Z)), (q0, .inr (2, [.int (nI w1), .ref q15, .ref d2, .ref d3])), (q15, .inl (cI, N, .inl C2)), (q45, .inl (cI, N, .inl (fun _ => 0)))] H := hP
        have hD : va_D A [(u, .inr (2, [.int (nI w), .ref c1, .ref c2, .ref c3])), (c1, .inl (cI, n, .inl C)), (c2, .inl (cI, n, .inl V)), (c3, .inl (cZ, n, .inl Z)), (q0, .inr (2, [.int (nI w1), .ref q15, .ref d2, .ref d3])), (q15, .inl (cI, N, .inl C2)), (q45, .inl (cI, N, .inl (fun _ => 0)))] := hD
        refine va_put (D := D) (ci := 2) (v := .ref q45) (ty := .array .int) (C := RX2) (T := TX2) (N := 4) hx hb hts (fun _ h => (List.mem_cons_of_mem _ (List.mem_append_right _ h))) tyX2 tyX2_ok nmX2 hown hK hP hD hS 4 rfl rfl 2 (by decide) (hts _ (List.mem_of_getElem? (i := 7) rfl)) (fun _ h9 => h9) rfl (by decide +kernel) rfl rfl (Nat.le_of_ble_eq_true rfl) dX2_bare_47 (fun H locs hP hD hS => ?_)
        have hP : va_P D vwCl [(u, .inr (2, [.int (nI w), .ref c1, .ref c2, .ref c3])), (c1, .inl (cI, n, .inl C)), (c2, .inl (cI, n, .inl V)), (c3, .inl (cZ, n, .inl Z)), (q0, .inr (2, [.int (nI w1), .ref q15, .ref q45, .ref d3])), (q15, .inl (cI, N, .inl C2)), (q45, .inl (cI, N, .inl (fun _ => 0)))] H := hP
        have hD : va_D A [(u, .inr (2, [.int (nI w), .ref c1, .ref c2, .ref c3])), (c1, .inl (cI, n, .inl C)), (c2, .inl (cI, n, .inl V)), (c3, .inl (cZ, n, .inl Z)), (q0, .inr (2, [.int (nI w1), .ref q15, .ref q45, .ref d3])), (q15, .inl (cI, N, .inl C2)), (q45, .inl (cI, N, .inl (fun _ => 0)))] := hD
        have hP := hP.sub (ws' := [(u, .inr (2, [.int (nI w), .ref c1, .ref c2, .ref c3])), (c1, .inl (cI, n, .inl C)), (c2, .inl (cI, n, .inl V)), (c3, .inl (cZ, n, .inl Z)), (q0, .inr (2, [.int (nI w1), .ref q15, .ref q45, .ref d3])), (q15, .inl (cI, N, .inl C2)), (q45, .inl (cI, N, .inl (fun _ => 0)))]) [0, 1, 2, 3, 4, 5, 6] rfl
        have hD := hD.sub (ws' := [(u, .inr (2, [.int (nI w), .ref c1, .ref c2, .ref c3])), (c1, .inl (cI, n, .inl C)), (c2, .inl (cI, n, .inl V)), (c3, .inl (cZ, n, .inl Z)), (q0, .inr (2, [.int (nI w1), .ref q15, .ref q45, .ref d3])), (q15, .inl (cI, N, .inl C2)), (q45, .inl (cI, N, .inl (fun _ => 0)))]) [0, 1, 2, 3, 4, 5, 6] (by decide) rfl
        have hP : va_P D vwCl [(u, .inr (2, [.int (nI w), .ref c1, .ref c2, .ref c3])), (c1, .inl (cI, n, .inl C)), (c2, .inl (cI, n, .inl V)), (c3, .inl (cZ, n, .inl Z)), (q0, .inr (2, [.int (nI w1), .ref q15, .ref q45, .ref d3])), (q15, .inl (cI, N, .inl C2)), (q45, .inl (cI, N, .inl (fun _ => 0)))] H := hP
        have hD : va_D A [(u, .inr (2, [.int (nI w), .ref c1, .ref c2, .ref c3])), (c1, .inl (cI, n, .inl C)), (c2, .inl (cI, n, .inl V)), (c3, .inl (cZ, n, .inl Z)), (q0, .inr (2, [.int (nI w1), .ref q15, .ref q45, .ref d3])), (q15, .inl (cI, N, .inl C2)), (q45, .inl (cI, N, .inl (fun _ => 0)))] := hD
        refine lv_aload_n hx hb dX2_bare_50 rfl (lv_at hl 1 rfl) ?_
        refine lv_iload_n hx hb dX2_bare_51 rfl (lv_at hl 3 rfl) ?_
        refine va_newa (ty := .boolean) (a0 := (N, .inl (fun _ => 0))) hx hb (hts _ (List.mem_of_getElem? (i := 8) rfl)) rfl hK hP hD hS hA (fun _ => rfl) (nI_pos (by omega)) (nI_clamp (by omega)) (n1_small (by omega)) (Nat.le_of_ble_eq_true rfl) (by show _ + N ≤ 148; omega) dX2_bare_52 (fun q52 cA H hK1 hP hD hS => ?_)
        obtain rfl : cZ = cA := ar_oneZ hK1 1 2 rfl rfl
        have hP : va_P D vwCl [(u, .inr (2, [.int (nI w), .ref c1, .ref c2, .ref c3])), (c1, .inl (cI, n, .inl C)), (c2, .inl (cI, n, .inl V)), (c3, .inl (cZ, n, .inl Z)), (q0, .inr (2, [.int (nI w1), .ref q15, .ref q45, .ref d3])), (q15, .inl (cI, N, .inl C2)), (q45, .inl (cI, N, .inl (fun _ => 0))), (q52, .inl (cZ, N, .inl (fun _ => 0)))] H := hP
        have hD : va_D A [(u, .inr (2, [.int (nI w), .ref c1, .ref c2, .ref c3])), (c1, .inl (cI, n, .inl C)), (c2, .inl (cI, n, .inl V)), (c3, .inl (cZ, n, .inl Z)), (q0, .inr (2, [.int (nI w1), .ref q15, .ref q45, .ref d3])), (q15, .inl (cI, N, .inl C2)), (q45, .inl (cI, N, .inl (fun _ => 0))), (q52, .inl (cZ, N, .inl (fun _ => 0)))] := hD
        refine va_put (D := D) (ci := 2) (v := .ref q52) (ty := .array .boolean) (C := RX2) (T := TX2) (N := 4) hx hb hts (fun _ h => (List.mem_cons_of_mem _ (List.mem_append_right _ h))) tyX2 tyX2_ok nmX2 hown hK hP hD hS 4 rfl rfl 3 (by decide) (hts _ (List.mem_of_getElem? (i := 9) rfl)) (fun _ h9 => h9) rfl (by decide +kernel) rfl rfl (Nat.le_of_ble_eq_true rfl) dX2_bare_54 (fun H locs hP hD hS => ?_)
        have hP : va_P D vwCl [(u, .inr (2, [.int (nI w), .ref c1, .ref c2, .ref c3])), (c1, .inl (cI, n, .inl C)), (c2, .inl (cI, n, .inl V)), (c3, .inl (cZ, n, .inl Z)), (q0, .inr (2, [.int (nI w1), .ref q15, .ref q45, .ref q52])), (q15, .inl (cI, N, .inl C2)), (q45, .inl (cI, N, .inl (fun _ => 0))), (q52, .inl (cZ, N, .inl (fun _ => 0)))] H := hP
        have hD : va_D A [(u, .inr (2, [.int (nI w), .ref c1, .ref c2, .ref c3])), (c1, .inl (cI, n, .inl C)), (c2, .inl (cI, n, .inl V)), (c3, .inl (cZ, n, .inl Z)), (q0, .inr (2, [.int (nI w1), .ref q15, .ref q45, .ref q52])), (q15, .inl (cI, N, .inl C2)), (q45, .inl (cI, N, .inl (fun _ => 0))), (q52, .inl (cZ, N, .inl (fun _ => 0)))] := hD
        have hP := hP.sub (ws' := [(u, .inr (2, [.int (nI w), .ref c1, .ref c2, .ref c3])), (c1, .inl (cI, n, .inl C)), (c2, .inl (cI, n, .inl V)), (c3, .inl (cZ, n, .inl Z)), (q0, .inr (2, [.int (nI w1), .ref q15, .ref q45, .ref q52])), (q15, .inl (cI, N, .inl C2)), (q45, .inl (cI, N, .inl (fun _ => 0))), (q52, .inl (cZ, N, .inl (fun _ => 0)))]) [0, 1, 2, 3, 4, 5, 6, 7] rfl
        have hD := hD.sub (ws' := [(u, .inr (2, [.int (nI w), .ref c1, .ref c2, .ref c3])), (c1, .inl (cI, n, .inl C)), (c2, .inl (cI, n, .inl V)), (c3, .inl (cZ, n, .inl Z)), (q0, .inr (2, [.int (nI w1), .ref q15, .ref q45, .ref q52])), (q15, .inl (cI, N, .inl C2)), (q45, .inl (cI, N, .inl (fun _ => 0))), (q52, .inl (cZ, N, .inl (fun _ => 0)))]) [0, 1, 2, 3, 4, 5, 6, 7] (by decide) rfl
        have hP : va_P D vwCl [(u, .inr (2, [.int (nI w), .ref c1, .ref c2, .ref c3])), (c1, .inl (cI, n, .inl C)), (c2, .inl (cI, n, .inl V)), (c3, .inl (cZ, n, .inl Z)), (q0, .inr (2, [.int (nI w1), .ref q15, .ref q45, .ref q52])), (q15, .inl (cI, N, .inl C2)), (q45, .inl (cI, N, .inl (fun _ => 0))), (q52, .inl (cZ, N, .inl (fun _ => 0)))] H := hP
        have hD : va_D A [(u, .inr (2, [.int (nI w), .ref c1, .ref c2, .ref c3])), (c1, .inl (cI, n, .inl C)), (c2, .inl (cI, n, .inl V)), (c3, .inl (cZ, n, .inl Z)), (q0, .inr (2, [.int (nI w1), .ref q15, .ref q45, .ref q52])), (q15, .inl (cI, N, .inl C2)), (q45, .inl (cI, N, .inl (fun _ => 0))), (q52, .inl (cZ, N, .inl (fun _ => 0)))] := hD
        refine lv_aload_n hx hb dX2_bare_57 rfl (lv_at hl 1 rfl) ?_
        refine w_widen (k := 7) (n := 148) (Nat.le_of_ble_eq_true rfl) (by omega) ?_
        exact em_r (r := some q0) hx hb hr hlocks hS rfl (⟨q0, q15, q45, q52, C2, _, _, rfl, fun k hk => h2 k (by omega), (fun _ _ => rfl), hP, hD⟩) dX2_bare_58
      · skip
        omega
    | succ q ih =>
      intro i C2 h1 h2 H locs hP hD hS ls hl
      refine lv_iload hx hb dX2_bare_23 (lv_at hl 0 rfl) ?_
      refine lv_iload_n hx hb dX2_bare_25 rfl (lv_at hl 3 rfl) ?_
      refine bn_ge (tgt := 43) hx hb dX2_bare_26 (by decide) (by omega) (by omega) (fun c26 => ?_) (fun c26 => ?_)
      · skip
        omega
      · skip
        refine lv_aload_n hx hb dX2_bare_29 rfl (lv_at hl 1 rfl) ?_
        refine va_get (D := D) (ci := 2) (v := .ref q15) (C := RX2) (T := TX2) (N := 4) hx hb hts (fun _ h => (List.mem_cons_of_mem _ (List.mem_append_right _ h))) hown hK hP 4 rfl rfl 1 (by decide) (hts _ (List.mem_of_getElem? (i := 6) rfl)) (fun _ h9 => h9) rfl dX2_bare_30 ?_
        refine lv_iload hx hb dX2_bare_33 (lv_at hl 0 rfl) ?_
        refine lv_iconst (v := (-1)) hx hb dX2_bare_35 (by decide) ?_
        refine as_i hx hb hK hP hD hS 5 0 rfl rfl (k := i) (by omega) (by omega) dX2_bare_36 (fun H locs hP hD hS => ?_)
        have hP : va_P D vwCl [(u, .inr (2, [.int (nI w), .ref c1, .ref c2, .ref c3])), (c1, .inl (cI, n, .inl C)), (c2, .inl (cI, n, .inl V)), (c3, .inl (cZ, n, .inl Z)), (q0, .inr (2, [.int (nI w1), .ref q15, .ref d2, .ref d3])), (q15, .inl (cI, N, .inl (upd C2 i (-1))))] H := hP
        have hD : va_D A [(u, .inr (2, [.int (nI w), .ref c1, .ref c2, .ref c3])), (c1, .inl (cI, n, .inl C)), (c2, .inl (cI, n, .inl V)), (c3, .inl (cZ, n, .inl Z)), (q0, .inr (2, [.int (nI w1), .ref q15, .ref d2, .ref d3])), (q15, .inl (cI, N, .inl (upd C2 i (-1))))] := hD
        refine lv_iinc (v := (nI (i + 1))) (lv' := [(4, .int (nI (i + 1))), (3, .ref q0), (0, .ref u), (1, .int (nI N)), (2, .int (nI w1))]) hx hb dX2_bare_37 hl (k := 0) rfl (inc1 _) (by decide) rfl (fun ls hl => ?_)
        refine lv_goto (tgt := 23) hx hb dX2_bare_40 (by decide) ?_
        exact ih (i + 1) (upd C2 i (-1)) (by omega) (up_all h2) _ _ hP hD hS _ (lv_sub hl [0, 1, 2, 3, 4] rfl)
  exact LP23 N 0 (fun _ => 0) (Nat.zero_add N) (fun k hk => absurd hk (Nat.not_lt_zero k)) _ _ hP hD hS _ (lv_sub hl [0, 1, 2, 3, 4] rfl)
theorem k_X2_anew : yX2_anew.cls = RX2 ∧ yX2_anew.cls ≠ "java/lang/invoke/MethodHandle" ∧ yX2_anew.cls ≠ "java/lang/invoke/VarHandle" ∧ (parseMethodDescriptor yX2_anew.desc).map (fun d => d.parameters.length) = some 2 := by decide +kernel
set_option maxHeartbeats 4000000 in
set_option maxRecDepth 100000 in
theorem m_X2_anew (l : Launch) (D : va_G) (cI cZ : ClassId) (u c1 c2 c3 : Nat) {n w : Nat} {C V Z f g : Nat → Int32} (S : SS n w C V Z f g) (hd : Ds n f) (N w1 : Nat) (hN3 : 3 ≤ N) (hN40 : N ≤ 40) (hw1 : w1 ≤ 2) (sz : Nat) : Met l yX2_anew wsX2_anew ({ frames := 3, cells := 7, slots := 148, locals := 68 } : Room) (PM D [(cI, .int), (cZ, .boolean)] [.ref u, .int (nI N), .int (nI w1)] sz (smw cI cZ u c1 c2 c3 n w C V Z)) (qm_r ((fun (A : Nat → Prop) (r : Option Nat) H1 => (r = none ∧ HG n f g N w1 = none ∧ va_P D vwCl (smw cI cZ u c1 c2 c3 n w C V Z) H1) ∨ ∃ (nb d1 d2 d3 : Nat) (C4 V4 Z4 T U : Nat → Int32) (z : Nat), r = some nb ∧ HG n f g N w1 = some (T, U, z) ∧ SS N w1 C4 V4 Z4 T U ∧ nt N T ∧ va_P D vwCl ((smw cI cZ u c1 c2 c3 n w C V Z) ++ (smw cI cZ nb d1 d2 d3 N w1 C4 V4 Z4)) H1 ∧ va_D A ((smw cI cZ u c1 c2 c3 n w C V Z) ++ (smw cI cZ nb d1 d2 d3 N w1 C4 V4 Z4))) (va_A (smw cI cZ u c1 c2 c3 n w C V Z) sz)) (va_A (smw cI cZ u c1 c2 c3 n w C V Z) sz)) 7 148 (va_A (smw cI cZ u c1 c2 c3 n w C V Z) sz) := by
  obtain ⟨hn3, hn, hw2, hC, hV, hZ, hO⟩ := id S
  refine bd_m (Qc := (fun A => qm_r ((fun (A : Nat → Prop) (r : Option Nat) H1 => (r = none ∧ HG n f g N w1 = none ∧ va_P D vwCl (smw cI cZ u c1 c2 c3 n w C V Z) H1) ∨ ∃ (nb d1 d2 d3 : Nat) (C4 V4 Z4 T U : Nat → Int32) (z : Nat), r = some nb ∧ HG n f g N w1 = some (T, U, z) ∧ SS N w1 C4 V4 Z4 T U ∧ nt N T ∧ va_P D vwCl ((smw cI cZ u c1 c2 c3 n w C V Z) ++ (smw cI cZ nb d1 d2 d3 N w1 C4 V4 Z4)) H1 ∧ va_D A ((smw cI cZ u c1 c2 c3 n w C V Z) ++ (smw cI cZ nb d1 d2 d3 N w1 C4 V4 Z4))) A) A)) (cc := cX2_anew) (maxL := 6) (ret := (some (.object "CoatHooksLaw$Sim"))) (by decide) rfl (Nat.le_of_ble_eq_true rfl) ?_
  intro p e s m args below meth c ls A CF hr hlocks hK hP hD hA hS hl hin
  obtain ⟨hx, hb, hml, hown, hts⟩ := id CF
  have hl : lv_has ls 6 [(0, .ref u), (1, .int (nI N)), (2, .int (nI w1))] := hl
  have hP : va_P D vwCl [(u, .inr (2, [.int (nI w), .ref c1, .ref c2, .ref c3])), (c1, .inl (cI, n, .inl C)), (c2, .inl (cI, n, .inl V)), (c3, .inl (cZ, n, .inl Z))] s.heap := hP
  have hD : va_D A [(u, .inr (2, [.int (nI w), .ref c1, .ref c2, .ref c3])), (c1, .inl (cI, n, .inl C)), (c2, .inl (cI, n, .inl V)), (c3, .inl (cZ, n, .inl Z))] := hD
  generalize hH0 : s.heap = H at hP
  have hS : va_S A s.heap H [] := by rw [← hH0]; exact va_S.rf
  generalize hlc0 : ([] : List Loc) = locs at hS ⊢
  refine lv_aload_n hx hb dX2_anew_0 rfl (lv_at hl 0 rfl) ?_
  refine lv_iload_n hx hb dX2_anew_1 rfl (lv_at hl 1 rfl) ?_
  refine lv_iload_n hx hb dX2_anew_2 rfl (lv_at hl 2 rfl) ?_
  have hPc : va_P D vwCl [(u, .inr (2, [.int (nI w), .ref c1, .ref c2, .ref c3])), (c1, .inl (cI, n, .inl C)), (c2, .inl (cI, n, .inl V)), (c3, .inl (cZ, n, .inl Z))] H := hP.sub [0, 1, 2, 3] rfl
  have hDc : va_D A [(u, .inr (2, [.int (nI w), .ref c1, .ref c2, .ref c3])), (c1, .inl (cI, n, .inl C)), (c2, .inl (cI, n, .inl V)), (c3, .inl (cZ, n, .inl Z))] := hD.sub [0, 1, 2, 3] (by decide) rfl
  have hFc := va_free (wc := [(u, .inr (2, [.int (nI w), .ref c1, .ref c2, .ref c3])), (c1, .inl (cI, n, .inl C)), (c2, .inl (cI, n, .inl V)), (c3, .inl (cZ, n, .inl Z))]) hD hS hA [0, 1, 2, 3] rfl
  refine pq_r (va_runV (rest := []) CF (m_X2_bare l D cI cZ u c1 c2 c3 n w C V Z N w1 hN3 hN40 hw1 H.size) (cwV 2 hts gX2_anew_X2_bare rfl rfl rfl k_X2_bare ⟨Nat.le_of_ble_eq_true rfl, Nat.le_of_ble_eq_true rfl⟩) (mv_pre hK hPc hDc rfl rfl rfl) rfl rfl hl.1 rfl (lv_room (Nat.le_of_ble_eq_true rfl)) dX2_anew_3 ⟨Nat.le_of_ble_eq_true rfl, Nat.le_of_ble_eq_true rfl⟩) hS hFc (fun r1 H locs hB hk1 hS => ?_)
  obtain ⟨nb, d1, d2, d3, C2, V2, Z2, rfl, hC2, hZ2, hP1, hD1⟩ := hB
  have hP : va_P D vwCl [(u, .inr (2, [.int (nI w), .ref c1, .ref c2, .ref c3])), (c1, .inl (cI, n, .inl C)), (c2, .inl (cI, n, .inl V)), (c3, .inl (cZ, n, .inl Z)), (nb, .inr (2, [.int (nI w1), .ref d1, .ref d2, .ref d3])), (d1, .inl (cI, N, .inl C2)), (d2, .inl (cI, N, .inl V2)), (d3, .inl (cZ, N, .inl Z2))] H := hP1
  have hD : va_D A [(u, .inr (2, [.int (nI w), .ref c1, .ref c2, .ref c3])), (c1, .inl (cI, n, .inl C)), (c2, .inl (cI, n, .inl V)), (c3, .inl (cZ, n, .inl Z)), (nb, .inr (2, [.int (nI w1), .ref d1, .ref d2, .ref d3])), (d1, .inl (cI, N, .inl C2)), (d2, .inl (cI, N, .inl V2)), (d3, .inl (cZ, N, .inl Z2))] := hD1.weaken (fun _ _ _ h => hFc _ h)
  refine W.eq (g2 := F0 m 6 ls [.ref nb]) rfl ?_
  refine lv_astore_n (lv' := [(3, .ref nb), (0, .ref u), (1, .int (nI N)), (2, .int (nI w1))]) hx hb dX2_anew_6 rfl hl (by decide) rfl (fun ls hl => ?_)
  refine lv_iconst (v := nI 0) hx hb dX2_anew_7 (by decide) ?_
  refine lv_istore (lv' := [(4, .int (nI 0)), (3, .ref nb), (0, .ref u), (1, .int (nI N)), (2, .int (nI w1))]) hx hb dX2_anew_8 hl (by decide) rfl (fun ls hl => ?_)
  have LP10 : ∀ (q i z : Nat) (C4 V4 Z4 T U : Nat → Int32), i + q = n → SS N w1 C4 V4 Z4 T U → nt N T → cmf i N f T → hg N w1 f g q i T U z = HG n f g N w1 → ∀ (H : Heap) (locs : List Loc), va_P D vwCl [(u, .inr (2, [.int (nI w), .ref c1, .ref c2, .ref c3])), (c1, .inl (cI, n, .inl C)), (c2, .inl (cI, n, .inl V)), (c3, .inl (cZ, n, .inl Z)), (nb, .inr (2, [.int (nI w1), .ref d1, .ref d2, .ref d3])), (d1, .inl (cI, N, .inl C4)), (d2, .inl (cI, N, .inl V4)), (d3, .inl (cZ, N, .inl Z4))] H → va_D A [(u, .inr (2, [.int (nI w), .ref c1, .ref c2, .ref c3])), (c1, .inl (cI, n, .inl C)), (c2, .inl (cI, n, .inl V)), (c3, .inl (cZ, n, .inl Z)), (nb, .inr (2, [.int (nI w1), .ref d1, .ref d2, .ref d3])), (d1, .inl (cI, N, .inl C4)), (d2, .inl (cI, N, .inl V4)), (d3, .inl (cZ, N, .inl Z4))] → va_S A s.heap H locs → ∀ (ls : Array Slot), lv_has ls 6 [(4, .int (nI i)), (3, .ref nb), (0, .ref u), (1, .int (nI N)), (2, .int (nI w1))] → W p l e ({ frames := 3, cells := 7, slots := 148, locals := 68 } : Room) s m args below meth c H locs (0 + 7) (0 + 148) (MQ below (qm_r ((fun (A : Nat → Prop) (r : Option Nat) H1 => (r = none ∧ HG n f g N w1 = none ∧ va_P D vwCl (smw cI cZ u c1 c2 c3 n w C V Z) H1) ∨ ∃ (nb d1 d2 d3 : Nat) (C4 V4 Z4 T U : Nat → Int32) (z : Nat), r = some nb ∧ HG n f g N w1 = some (T, U, z) ∧ SS N w1 C4 V4 Z4 T U ∧ nt N T ∧ va_P D vwCl ((smw cI cZ u c1 c2 c3 n w C V Z) ++ (smw cI cZ nb d1 d2 d3 N w1 C4 V4 Z4)) H1 ∧ va_D A ((smw cI cZ u c1 c2 c3 n w C V Z) ++ (smw cI cZ nb d1 d2 d3 N w1 C4 V4 Z4))) A) A) args s 7 148 A) (F0 m 10 ls []) := by
    intro q
    induction q with
    | zero =>
      intro i z C4 V4 Z4 T U h1 S4 hT hcm h2 H locs hP hD hS ls hl
      refine lv_iload hx hb dX2_anew_10 (lv_at hl 0 rfl) ?_
      refine lv_aload_n hx hb dX2_anew_12 rfl (lv_at hl 2 rfl) ?_
      refine va_get (D := D) (ci := 2) (v := .ref c1) (C := RX2) (T := TX2) (N := 4) hx hb hts (fun _ h => (List.mem_cons_of_mem _ (List.mem_append_right _ h))) hown hK hP 0 rfl rfl 1 (by decide) (hts _ (List.mem_of_getElem? (i := 1) rfl)) (fun _ h9 => h9) rfl dX2_anew_13 ?_
      refine va_alen (v := nI n) hx hb hK hP 1 0 rfl rfl rfl dX2_anew_16 ?_
      refine bn_ge (tgt := 79) hx hb dX2_anew_17 (by decide) (by omega) (by omega) (fun c17 => ?_) (fun c17 => ?_)
      · skip
        refine lv_aload_n hx hb dX2_anew_79 rfl (lv_at hl 1 rfl) ?_
        refine w_widen (k := 7) (n := 148) (Nat.le_of_ble_eq_true rfl) (Nat.le_of_ble_eq_true rfl) ?_
        exact em_r (r := some nb) hx hb hr hlocks hS rfl (Or.inr ⟨nb, d1, d2, d3, C4, V4, Z4, T, U, z, rfl, h2.symm, S4, hT, hP, hD⟩) dX2_anew_80
      · skip
        omega
    | succ q ih =>
      intro i z C4 V4 Z4 T U h1 S4 hT hcm h2 H locs hP hD hS ls hl
      refine lv_iload hx hb dX2_anew_10 (lv_at hl 0 rfl) ?_
      refine lv_aload_n hx hb dX2_anew_12 rfl (lv_at hl 2 rfl) ?_
      refine va_get (D := D) (ci := 2) (v := .ref c1) (C := RX2) (T := TX2) (N := 4) hx hb hts (fun _ h => (List.mem_cons_of_mem _ (List.mem_append_right _ h))) hown hK hP 0 rfl rfl 1 (by decide) (hts _ (List.mem_of_getElem? (i := 1) rfl)) (fun _ h9 => h9) rfl dX2_anew_13 ?_
      refine va_alen (v := nI n) hx hb hK hP 1 0 rfl rfl rfl dX2_anew_16 ?_
      refine bn_ge (tgt := 79) hx hb dX2_anew_17 (by decide) (by omega) (by omega) (fun c17 => ?_) (fun c17 => ?_)
      · skip
        omega
      · skip
        refine lv_aload_n hx hb dX2_anew_20 rfl (lv_at hl 2 rfl) ?_
        refine va_get (D := D) (ci := 2) (v := .ref c1) (C := RX2) (T := TX2) (N := 4) hx hb hts (fun _ h => (List.mem_cons_of_mem _ (List.mem_append_right _ h))) hown hK hP 0 rfl rfl 1 (by decide) (hts _ (List.mem_of_getElem? (i := 1) rfl)) (fun _ h9 => h9) rfl dX2_anew_21 ?_
        refine lv_iload hx hb dX2_anew_24 (lv_at hl 0 rfl) ?_
        refine al_i hx hb hK hP 1 0 rfl rfl (by omega) (by omega) dX2_anew_26 ?_
        refine tp_i (y := (cn (f i))) (hC i (by omega)) ?_
        refine lv_if_ge (tgt := 33) hx hb dX2_anew_27 (by decide) (fun c27 => ?_) (fun c27 => ?_)
        · skip
          refine lv_aload_n hx hb dX2_anew_33 rfl (lv_at hl 1 rfl) ?_
          refine lv_aload_n hx hb dX2_anew_34 rfl (lv_at hl 2 rfl) ?_
          refine va_get (D := D) (ci := 2) (v := .ref c1) (C := RX2) (T := TX2) (N := 4) hx hb hts (fun _ h => (List.mem_cons_of_mem _ (List.mem_append_right _ h))) hown hK hP 0 rfl rfl 1 (by decide) (hts _ (List.mem_of_getElem? (i := 1) rfl)) (fun _ h9 => h9) rfl dX2_anew_35 ?_
          refine lv_iload hx hb dX2_anew_38 (lv_at hl 0 rfl) ?_
          refine al_i hx hb hK hP 1 0 rfl rfl (by omega) (by omega) dX2_anew_40 ?_
          refine tp_i (y := (cn (f i))) (hC i (by omega)) ?_
          obtain ⟨x, hx9, ex, ez⟩ := hO.num (k := i) (by omega) (cn_0 c27)
          refine tp_i (y := nI x) ((cn_id (cn_0 c27)).trans ex) ?_
          refine pv_i CF (m_X2_place l D cI cZ nb d1 d2 d3 S4 x hx9) (cwV 1 hts gX2_anew_X2_place rfl rfl rfl k_X2_place ⟨Nat.le_of_ble_eq_true rfl, Nat.le_of_ble_eq_true rfl⟩) hK (hP.sub [4, 5, 6, 7] rfl) rfl rfl rfl rfl hl.1 rfl (Nat.le_of_ble_eq_true rfl) dX2_anew_41 ⟨Nat.le_of_ble_eq_true rfl, Nat.le_of_ble_eq_true rfl⟩ ?_
          refine tp_i (y := (op N w1 T x)) (pl_op (cmf_hs hd (by omega) hx9 ex hcm)) ?_
          refine lv_istore (lv' := [(5, .int (op N w1 T x)), (4, .int (nI i)), (3, .ref nb), (0, .ref u), (1, .int (nI N)), (2, .int (nI w1))]) hx hb dX2_anew_44 hl (by decide) rfl (fun ls hl => ?_)
          refine lv_iload hx hb dX2_anew_46 (lv_at hl 0 rfl) ?_
          refine lv_if_ge (tgt := 53) hx hb dX2_anew_48 (by decide) (fun c48 => ?_) (fun c48 => ?_)
          · skip
            obtain ⟨hfr, eop⟩ := nt_free (by omega) hT (ge_m1 c48)
            rw [eop] at hl
            refine lv_aload_n hx hb dX2_anew_53 rfl (lv_at hl 2 rfl) ?_
            refine lv_iload hx hb dX2_anew_54 (lv_at hl 0 rfl) ?_
            refine lv_aload_n hx hb dX2_anew_56 rfl (lv_at hl 3 rfl) ?_
            refine va_get (D := D) (ci := 2) (v := .ref c1) (C := RX2) (T := TX2) (N := 4) hx hb hts (fun _ h => (List.mem_cons_of_mem _ (List.mem_append_right _ h))) hown hK hP 0 rfl rfl 1 (by decide) (hts _ (List.mem_of_getElem? (i := 1) rfl)) (fun _ h9 => h9) rfl dX2_anew_57 ?_
            refine lv_iload hx hb dX2_anew_60 (lv_at hl 1 rfl) ?_
            refine al_i hx hb hK hP 1 0 rfl rfl (by omega) (by omega) dX2_anew_62 ?_
            refine tp_i (y := (nI x)) ((hC i (by omega)).trans ((cn_id (cn_0 c27)).trans ex)) ?_
            refine lv_aload_n hx hb dX2_anew_63 rfl (lv_at hl 3 rfl) ?_
            refine va_get (D := D) (ci := 2) (v := .ref c2) (C := RX2) (T := TX2) (N := 4) hx hb hts (fun _ h => (List.mem_cons_of_mem _ (List.mem_append_right _ h))) hown hK hP 0 rfl rfl 2 (by decide) (hts _ (List.mem_of_getElem? (i := 2) rfl)) (fun _ h9 => h9) rfl dX2_anew_64 ?_
            refine lv_iload hx hb dX2_anew_67 (lv_at hl 1 rfl) ?_
            refine al_i hx hb hK hP 2 0 rfl rfl (by omega) (by omega) dX2_anew_69 ?_
            refine tp_i (y := (g i)) (hV i (by omega) (cn_0 c27)) ?_
            obtain ⟨y, hy1, hy2, ey⟩ := hO.wt (k := i) (by omega) (cn_0 c27)
            have hPc : va_P D vwCl [(nb, .inr (2, [.int (nI w1), .ref d1, .ref d2, .ref d3])), (d1, .inl (cI, N, .inl C4)), (d2, .inl (cI, N, .inl V4)), (d3, .inl (cZ, N, .inl Z4))] H := hP.sub [4, 5, 6, 7] rfl
            have hDc : va_D A [(nb, .inr (2, [.int (nI w1), .ref d1, .ref d2, .ref d3])), (d1, .inl (cI, N, .inl C4)), (d2, .inl (cI, N, .inl V4)), (d3, .inl (cZ, N, .inl Z4))] := hD.sub [4, 5, 6, 7] (by decide) rfl
            have hFc := va_free (wc := [(nb, .inr (2, [.int (nI w1), .ref d1, .ref d2, .ref d3])), (d1, .inl (cI, N, .inl C4)), (d2, .inl (cI, N, .inl V4)), (d3, .inl (cZ, N, .inl Z4))]) hD hS hA [4, 5, 6, 7] rfl
            refine pq_v (va_runV (rest := []) CF (m_X2_hang l D cI cZ nb d1 d2 d3 N w1 C4 V4 Z4 (la N w1 T x) (nI x) (g i) (la_lt (by omega) w1 T x) hN40 H.size) (cwV 3 hts gX2_anew_X2_hang rfl rfl rfl k_X2_hang ⟨Nat.le_of_ble_eq_true rfl, Nat.le_of_ble_eq_true rfl⟩) (mv_pre hK hPc hDc rfl rfl rfl) rfl rfl hl.1 rfl (lv_room (Nat.le_of_ble_eq_true rfl)) dX2_anew_70 ⟨Nat.le_of_ble_eq_true rfl, Nat.le_of_ble_eq_true rfl⟩) hS hFc (fun H locs hB hk1 hS => ?_)
            have hP1 := hB
            obtain ⟨hP, hD⟩ := jn (wb := [(u, .inr (2, [.int (nI w), .ref c1, .ref c2, .ref c3])), (c1, .inl (cI, n, .inl C)), (c2, .inl (cI, n, .inl V)), (c3, .inl (cZ, n, .inl Z)), (nb, .inr (2, [.int (nI w1), .ref d1, .ref d2, .ref d3])), (d1, .inl (cI, N, .inl (upd C4 (la N w1 T x) (nI x)))), (d2, .inl (cI, N, .inl (upd V4 (la N w1 T x) (g i)))), (d3, .inl (cZ, N, .inl (upd Z4 (la N w1 T x) (nI 0))))]) (w1 := [(nb, .inr (2, [.int (nI w1), .ref d1, .ref d2, .ref d3])), (d1, .inl (cI, N, .inl (upd C4 (la N w1 T x) (nI x)))), (d2, .inl (cI, N, .inl (upd V4 (la N w1 T x) (g i)))), (d3, .inl (cZ, N, .inl (upd Z4 (la N w1 T x) (nI 0))))]) hP hD [4, 5, 6, 7] [0, 1, 2, 3] rfl rfl rfl rfl 8 rfl (by decide) (by decide) hk1 hP1
            refine lv_iinc (v := (nI (i + 1))) (lv' := [(4, .int (nI (i + 1))), (5, .int (nI (la N w1 T x))), (3, .ref nb), (0, .ref u), (1, .int (nI N)), (2, .int (nI w1))]) hx hb dX2_anew_73 hl (k := 1) rfl (inc1 _) (by decide) rfl (fun ls hl => ?_)
            refine lv_goto (tgt := 10) hx hb dX2_anew_76 (by decide) ?_
            exact ih (i + 1) (z + lk N w1 T x) (upd C4 (la N w1 T x) (nI x)) (upd V4 (la N w1 T x) (g i)) (upd Z4 (la N w1 T x) (nI 0)) (upd T (la N w1 T x) (nI x)) (upd U (la N w1 T x) (g i)) (by omega) (S4.put hx9 hy1 hy2 ey) (nt_put hT hx9) (cmf_put hcm ex.symm) (hg_y (cn_0 c27) ex ez hfr h2) _ _ hP hD hS _ (lv_sub hl [0, 2, 3, 4, 5] rfl)
          · skip
            refine lv_null hx hb dX2_anew_51 ?_
            refine w_widen (k := 7) (n := 148) (Nat.le_of_ble_eq_true rfl) (Nat.le_of_ble_eq_true rfl) ?_
            exact em_r (r := none) hx hb hr hlocks hS rfl (Or.inl ⟨rfl, hg_no (cn_0 c27) ez (nt_full (by omega) hN40 hT (op_neg (by omega) hN40 c48)) h2, hP.sub [0, 1, 2, 3] rfl⟩) dX2_anew_52
        · skip
          refine lv_goto (tgt := 73) hx hb dX2_anew_30 (by decide) ?_
          refine lv_iinc (v := (nI (i + 1))) (lv' := [(4, .int (nI (i + 1))), (3, .ref nb), (0, .ref u), (1, .int (nI N)), (2, .int (nI w1))]) hx hb dX2_anew_73 hl (k := 0) rfl (inc1 _) (by decide) rfl (fun ls hl => ?_)
          refine lv_goto (tgt := 10) hx hb dX2_anew_76 (by decide) ?_
          exact ih (i + 1) z C4 V4 Z4 T U (by omega) S4 hT (cmf_s hcm) (hg_n (cn_n c27) h2) _ _ hP hD hS _ (lv_sub hl [0, 1, 2, 3, 4] rfl)
  exact LP10 n 0 0 C2 V2 Z2 (fun _ => -1) (fun _ => nI 0) (Nat.zero_add n) (SS.clear hN3 hN40 hw1 hC2 hZ2) (fun k hk => by show (-1 : Int32) ≠ -2; decide) cmf_0 rfl _ _ hP hD hS _ (lv_sub hl [0, 1, 2, 3, 4] rfl)
theorem k_X2_looksWith : yX2_looksWith.cls = RX2 ∧ yX2_looksWith.cls ≠ "java/lang/invoke/MethodHandle" ∧ yX2_looksWith.cls ≠ "java/lang/invoke/VarHandle" ∧ (parseMethodDescriptor yX2_looksWith.desc).map (fun d => d.parameters.length) = some 2 := by decide +kernel
set_option maxHeartbeats 4000000 in
set_option maxRecDepth 100000 in
theorem m_X2_looksWith (l : Launch) (D : va_G) (cI cZ : ClassId) (u c1 c2 c3 : Nat) {n w : Nat} {C V Z f g : Nat → Int32} (S : SS n w C V Z f g) (hd : Ds n f) (N w1 : Nat) (hN3 : 3 ≤ N) (hN40 : N ≤ 40) (hw1 : w1 ≤ 2) (sz : Nat) : Met l yX2_looksWith wsX2_looksWith ({ frames := 4, cells := 7, slots := 148, locals := 93 } : Room) (PM D [(cI, .int), (cZ, .boolean)] [.ref u, .int (nI N), .int (nI w1)] sz (smw cI cZ u c1 c2 c3 n w C V Z)) (qm_i (fun rr H1 => rr = LW n f g N w1 ∧ va_P D vwCl (smw cI cZ u c1 c2 c3 n w C V Z) H1) (va_A (smw cI cZ u c1 c2 c3 n w C V Z) sz)) 7 148 (va_A (smw cI cZ u c1 c2 c3 n w C V Z) sz) := by
  obtain ⟨hn3, hn, hw2, hC, hV, hZ, hO⟩ := id S
  refine bd_m (Qc := (fun A => qm_i (fun rr H1 => rr = LW n f g N w1 ∧ va_P D vwCl (smw cI cZ u c1 c2 c3 n w C V Z) H1) A)) (cc := cX2_looksWith) (maxL := 4) (ret := (some .int)) (by decide) rfl (Nat.le_of_ble_eq_true rfl) ?_
  intro p e s m args below meth c ls A CF hr hlocks hK hP hD hA hS hl hin
  obtain ⟨hx, hb, hml, hown, hts⟩ := id CF
  have hl : lv_has ls 4 [(0, .ref u), (1, .int (nI N)), (2, .int (nI w1))] := hl
  have hP : va_P D vwCl [(u, .inr (2, [.int (nI w), .ref c1, .ref c2, .ref c3])), (c1, .inl (cI, n, .inl C)), (c2, .inl (cI, n, .inl V)), (c3, .inl (cZ, n, .inl Z))] s.heap := hP
  have hD : va_D A [(u, .inr (2, [.int (nI w), .ref c1, .ref c2, .ref c3])), (c1, .inl (cI, n, .inl C)), (c2, .inl (cI, n, .inl V)), (c3, .inl (cZ, n, .inl Z))] := hD
  generalize hH0 : s.heap = H at hP
  have hS : va_S A s.heap H [] := by rw [← hH0]; exact va_S.rf
  generalize hlc0 : ([] : List Loc) = locs at hS ⊢
  refine lv_aload_n hx hb dX2_looksWith_0 rfl (lv_at hl 0 rfl) ?_
  refine lv_iload_n hx hb dX2_looksWith_1 rfl (lv_at hl 1 rfl) ?_
  refine lv_iload_n hx hb dX2_looksWith_2 rfl (lv_at hl 2 rfl) ?_
  have hPc : va_P D vwCl [(u, .inr (2, [.int (nI w), .ref c1, .ref c2, .ref c3])), (c1, .inl (cI, n, .inl C)), (c2, .inl (cI, n, .inl V)), (c3, .inl (cZ, n, .inl Z))] H := hP.sub [0, 1, 2, 3] rfl
  have hDc : va_D A [(u, .inr (2, [.int (nI w), .ref c1, .ref c2, .ref c3])), (c1, .inl (cI, n, .inl C)), (c2, .inl (cI, n, .inl V)), (c3, .inl (cZ, n, .inl Z))] := hD.sub [0, 1, 2, 3] (by decide) rfl
  have hFc := va_free (wc := [(u, .inr (2, [.int (nI w), .ref c1, .ref c2, .ref c3])), (c1, .inl (cI, n, .inl C)), (c2, .inl (cI, n, .inl V)), (c3, .inl (cZ, n, .inl Z))]) hD hS hA [0, 1, 2, 3] rfl
  refine pq_r (va_runV (rest := []) CF (m_X2_anew l D cI cZ u c1 c2 c3 S hd N w1 hN3 hN40 hw1 H.size) (cwV 2 hts gX2_looksWith_X2_anew rfl rfl rfl k_X2_anew ⟨Nat.le_of_ble_eq_true rfl, Nat.le_of_ble_eq_true rfl⟩) (mv_pre hK hPc hDc rfl rfl rfl) rfl rfl hl.1 rfl (lv_room (Nat.le_of_ble_eq_true rfl)) dX2_looksWith_3 ⟨Nat.le_of_ble_eq_true rfl, Nat.le_of_ble_eq_true rfl⟩) hS hFc (fun r1 H locs hB hk1 hS => ?_)
  rcases hB with ⟨rfl, hHG, hP1⟩ | ⟨nb, d1, d2, d3, C4, V4, Z4, T, U, z, rfl, hHG, S4, hT, hP1, hD1⟩
  · skip
    have hP : va_P D vwCl [(u, .inr (2, [.int (nI w), .ref c1, .ref c2, .ref c3])), (c1, .inl (cI, n, .inl C)), (c2, .inl (cI, n, .inl V)), (c3, .inl (cZ, n, .inl Z))] H := hP1
    refine W.eq (g2 := F0 m 6 ls [.null]) rfl ?_
    refine lv_astore_nN (lv' := [(3, .null), (0, .ref u), (1, .int (nI N)), (2, .int (nI w1))]) hx hb dX2_looksWith_6 rfl hl (by decide) rfl (fun ls hl => ?_)
    refine lv_aload_nN hx hb dX2_looksWith_7 rfl (lv_at hl 0 rfl) ?_
    refine lv_ifnonnullN hx hb dX2_looksWith_8 ?_
    refine lv_iconst (v := (-1)) hx hb dX2_looksWith_11 (by decide) ?_
    refine lv_goto (tgt := 19) hx hb dX2_looksWith_12 (by decide) ?_
    refine w_widen (k := 7) (n := 148) (Nat.le_of_ble_eq_true rfl) (Nat.le_of_ble_eq_true rfl) ?_
    exact em_i hx hb hr hlocks hS (⟨(LW_none hHG).symm, hP⟩) dX2_looksWith_19
  · skip
    have hP : va_P D vwCl [(u, .inr (2, [.int (nI w), .ref c1, .ref c2, .ref c3])), (c1, .inl (cI, n, .inl C)), (c2, .inl (cI, n, .inl V)), (c3, .inl (cZ, n, .inl Z)), (nb, .inr (2, [.int (nI w1), .ref d1, .ref d2, .ref d3])), (d1, .inl (cI, N, .inl C4)), (d2, .inl (cI, N, .inl V4)), (d3, .inl (cZ, N, .inl Z4))] H := hP1
    refine W.eq (g2 := F0 m 6 ls [.ref nb]) rfl ?_
    refine lv_astore_n (lv' := [(3, .ref nb), (0, .ref u), (1, .int (nI N)), (2, .int (nI w1))]) hx hb dX2_looksWith_6 rfl hl (by decide) rfl (fun ls hl => ?_)
    refine lv_aload_n hx hb dX2_looksWith_7 rfl (lv_at hl 0 rfl) ?_
    refine lv_ifnonnull (tgt := 15) hx hb dX2_looksWith_8 (by decide) ?_
    refine lv_aload_n hx hb dX2_looksWith_15 rfl (lv_at hl 0 rfl) ?_
    refine pv_i CF (m_X2_allLooks l D cI cZ nb d1 d2 d3 S4) (cwV 0 hts gX2_looksWith_X2_allLooks rfl rfl rfl k_X2_allLooks ⟨Nat.le_of_ble_eq_true rfl, Nat.le_of_ble_eq_true rfl⟩) hK (hP.sub [4, 5, 6, 7] rfl) rfl rfl rfl rfl hl.1 rfl (Nat.le_of_ble_eq_true rfl) dX2_looksWith_16 ⟨Nat.le_of_ble_eq_true rfl, Nat.le_of_ble_eq_true rfl⟩ ?_
    refine w_widen (k := 7) (n := 148) (Nat.le_of_ble_eq_true rfl) (Nat.le_of_ble_eq_true rfl) ?_
    exact em_i hx hb hr hlocks hS (⟨by rw [LW_some hHG, HG_sum (by omega) hO hHG], hP.sub [0, 1, 2, 3] rfl⟩) dX2_looksWith_19
theorem k_X2_sweep : yX2_sweep.cls = RX2 ∧ yX2_sweep.cls ≠ "java/lang/invoke/MethodHandle" ∧ yX2_sweep.cls ≠ "java/lang/invoke/VarHandle" ∧ (parseMethodDescriptor yX2_sweep.desc).map (fun d => d.parameters.length) = some 0 := by decide +kernel
set_option maxHeartbeats 4000000 in
set_option maxRecDepth 100000 in
theorem m_X2_sweep (l : Launch) (D : va_G) (cI cZ : ClassId) (u c1 c2 c3 : Nat) {n w : Nat} {C V Z f g : Nat → Int32} (S : SS n w C V Z f g) (sz : Nat) : Met l yX2_sweep wsX2_sweep ({ frames := 1, cells := 1, slots := 40, locals := 25 } : Room) (PM D [(cI, .int), (cZ, .boolean)] [.ref u] sz (smw cI cZ u c1 c2 c3 n w C V Z)) (qm_i ((fun (A : Nat → Prop) rr H1 => rr = nI (swp n f).2 ∧ ∃ (c3 : Nat) (Z1 : Nat → Int32), SS n w C V Z1 (swp n f).1 g ∧ va_P D vwCl (smw cI cZ u c1 c2 c3 n w C V Z1) H1 ∧ va_D A (smw cI cZ u c1 c2 c3 n w C V Z1)) (va_A (smw cI cZ u c1 c2 c3 n w C V Z) sz)) (va_A (smw cI cZ u c1 c2 c3 n w C V Z) sz)) 1 40 (va_A (smw cI cZ u c1 c2 c3 n w C V Z) sz) := by
  obtain ⟨hn3, hn, hw2, hC, hV, hZ, hO⟩ := id S
  refine bd_m (Qc := (fun A => qm_i ((fun (A : Nat → Prop) rr H1 => rr = nI (swp n f).2 ∧ ∃ (c3 : Nat) (Z1 : Nat → Int32), SS n w C V Z1 (swp n f).1 g ∧ va_P D vwCl (smw cI cZ u c1 c2 c3 n w C V Z1) H1 ∧ va_D A (smw cI cZ u c1 c2 c3 n w C V Z1)) A) A)) (cc := cX2_sweep) (maxL := 4) (ret := (some .int)) (by decide) rfl (Nat.le_of_ble_eq_true rfl) ?_
  intro p e s m args below meth c ls A CF hr hlocks hK hP hD hA hS hl hin
  obtain ⟨hx, hb, hml, hown, hts⟩ := id CF
  have hl : lv_has ls 4 [(0, .ref u)] := hl
  have hP : va_P D vwCl [(u, .inr (2, [.int (nI w), .ref c1, .ref c2, .ref c3])), (c1, .inl (cI, n, .inl C)), (c2, .inl (cI, n, .inl V)), (c3, .inl (cZ, n, .inl Z))] s.heap := hP
  have hD : va_D A [(u, .inr (2, [.int (nI w), .ref c1, .ref c2, .ref c3])), (c1, .inl (cI, n, .inl C)), (c2, .inl (cI, n, .inl V)), (c3, .inl (cZ, n, .inl Z))] := hD
  generalize hH0 : s.heap = H at hP
  have hS : va_S A s.heap H [] := by rw [← hH0]; exact va_S.rf
  generalize hlc0 : ([] : List Loc) = locs at hS ⊢
  have hct := ct_le n f (nI 2) n
  have hct : ct n f (nI 2) ≤ n := hct
  have EX : ∀ (c3 : Nat) (Z1 f1 : Nat → Int32), SS n w C V Z1 f1 g → Inv_ n (sb n f) (swp n f).1 f1 → Stb n f1 → ∀ (H : Heap) (locs : List Loc), va_P D vwCl [(u, .inr (2, [.int (nI w), .ref c1, .ref c2, .ref c3])), (c1, .inl (cI, n, .inl C)), (c2, .inl (cI, n, .inl V)), (c3, .inl (cZ, n, .inl Z1))] H → va_D A [(u, .inr (2, [.int (nI w), .ref c1, .ref c2, .ref c3])), (c1, .inl (cI, n, .inl C)), (c2, .inl (cI, n, .inl V)), (c3, .inl (cZ, n, .inl Z1))] → va_S A s.heap H locs → ∀ (ls : Array Slot), lv_has ls 4 [(0, .ref u), (1, .int (nI (ct n f (nI 2)))), (2, .int (nI 0))] → W p l e ({ frames := 1, cells := 1, slots := 40, locals := 25 } : Room) s m args below meth c H locs 1 40 (MQ below (qm_i ((fun (A : Nat → Prop) rr H1 => rr = nI (swp n f).2 ∧ ∃ (c3 : Nat) (Z1 : Nat → Int32), SS n w C V Z1 (swp n f).1 g ∧ va_P D vwCl (smw cI cZ u c1 c2 c3 n w C V Z1) H1 ∧ va_D A (smw cI cZ u c1 c2 c3 n w C V Z1)) A) A) args s 1 40 A) (F0 m 23 ls []) := by
    intro c3 Z1 f1 S1 hI hst1 H locs hP hD hS ls hl
    refine lv_iload_n hx hb dX2_sweep_23 rfl (lv_at hl 2 rfl) ?_
    refine bz_eq (tgt := 86) hx hb dX2_sweep_24 (by decide) (by omega) (fun c24 => ?_) (fun c24 => ?_)
    · skip
      refine lv_iload_n hx hb dX2_sweep_86 rfl (lv_at hl 1 rfl) ?_
      refine lv_aload_n hx hb dX2_sweep_87 rfl (lv_at hl 0 rfl) ?_
      refine pv_i CF (m_X2_tickets l D cI cZ u c1 c2 c3 S1) (cwV 0 hts gX2_sweep_X2_tickets rfl rfl rfl k_X2_tickets ⟨Nat.le_of_ble_eq_true rfl, Nat.le_of_ble_eq_true rfl⟩) hK hP rfl rfl rfl rfl hl.1 rfl (Nat.le_of_ble_eq_true rfl) dX2_sweep_88 ⟨Nat.le_of_ble_eq_true rfl, Nat.le_of_ble_eq_true rfl⟩ ?_
      have e9 : ct n f1 (nI 2) = ct n (swp n f).1 (nI 2) := ct_ext (swp_eq (by omega) hst1 hI)
      have e8 := swp_cnt (show 0 < n by omega) f
      refine an_sub hx hb (by omega) dX2_sweep_91 ?_
      exact em_i hx hb hr hlocks hS (⟨congrArg nI (by omega), c3, Z1, S1.ext (swp_eq (by omega) hst1 hI), hP, hD⟩) dX2_sweep_92
    · skip
      exact absurd rfl c24
  have L21 : ∀ (c3 : Nat) (Z : Nat → Int32), SS n w C V Z (sb n f) g → ∀ (H : Heap) (locs : List Loc), va_P D vwCl [(u, .inr (2, [.int (nI w), .ref c1, .ref c2, .ref c3])), (c1, .inl (cI, n, .inl C)), (c2, .inl (cI, n, .inl V)), (c3, .inl (cZ, n, .inl Z))] H → va_D A [(u, .inr (2, [.int (nI w), .ref c1, .ref c2, .ref c3])), (c1, .inl (cI, n, .inl C)), (c2, .inl (cI, n, .inl V)), (c3, .inl (cZ, n, .inl Z))] → va_S A s.heap H locs → ∀ (ls : Array Slot), lv_has ls 4 [(0, .ref u), (1, .int (nI (ct n f (nI 2))))] → W p l e ({ frames := 1, cells := 1, slots := 40, locals := 25 } : Room) s m args below meth c H locs 1 40 (MQ below (qm_i ((fun (A : Nat → Prop) rr H1 => rr = nI (swp n f).2 ∧ ∃ (c3 : Nat) (Z1 : Nat → Int32), SS n w C V Z1 (swp n f).1 g ∧ va_P D vwCl (smw cI cZ u c1 c2 c3 n w C V Z1) H1 ∧ va_D A (smw cI cZ u c1 c2 c3 n w C V Z1)) A) A) args s 1 40 A) (F0 m 21 ls []) := by
    intro c3 Z S0 H locs hP hD hS ls hl
    refine lv_iconst (v := nI 1) hx hb dX2_sweep_21 (by decide) ?_
    refine lv_istore_n (lv' := [(2, .int (nI 1)), (0, .ref u), (1, .int (nI (ct n f (nI 2))))]) hx hb dX2_sweep_22 rfl hl (by decide) rfl (fun ls hl => ?_)
    have LP23 : ∀ (q : Nat) (Z1 f1 : Nat → Int32), ct n f1 (nI 2) ≤ q → SS n w C V Z1 f1 g → Inv_ n (sb n f) (swp n f).1 f1 → ∀ (H : Heap) (locs : List Loc), va_P D vwCl [(u, .inr (2, [.int (nI w), .ref c1, .ref c2, .ref c3])), (c1, .inl (cI, n, .inl C)), (c2, .inl (cI, n, .inl V)), (c3, .inl (cZ, n, .inl Z1))] H → va_D A [(u, .inr (2, [.int (nI w), .ref c1, .ref c2, .ref c3])), (c1, .inl (cI, n, .inl C)), (c2, .inl (cI, n, .inl V)), (c3, .inl (cZ, n, .inl Z1))] → va_S A s.heap H locs → ∀ (ls : Array Slot), lv_has ls 4 [(2, .int (nI 1)), (0, .ref u), (1, .int (nI (ct n f (nI 2))))] → W p l e ({ frames := 1, cells := 1, slots := 40, locals := 25 } : Room) s m args below meth c H locs 1 40 (MQ below (qm_i ((fun (A : Nat → Prop) rr H1 => rr = nI (swp n f).2 ∧ ∃ (c3 : Nat) (Z1 : Nat → Int32), SS n w C V Z1 (swp n f).1 g ∧ va_P D vwCl (smw cI cZ u c1 c2 c3 n w C V Z1) H1 ∧ va_D A (smw cI cZ u c1 c2 c3 n w C V Z1)) A) A) args s 1 40 A) (F0 m 23 ls []) := by
      intro q
      induction q with
      | zero =>
        intro Z1 f1 hq S1 hI H locs hP hD hS ls hl
        refine lv_iload_n hx hb dX2_sweep_23 rfl (lv_at hl 0 rfl) ?_
        refine bz_eq (tgt := 86) hx hb dX2_sweep_24 (by decide) (by omega) (fun c24 => ?_) (fun c24 => ?_)
        · skip
          omega
        · skip
          refine lv_iconst (v := nI 0) hx hb dX2_sweep_27 (by decide) ?_
          refine lv_istore_n (lv' := [(2, .int (nI 0)), (0, .ref u), (1, .int (nI (ct n f (nI 2))))]) hx hb dX2_sweep_28 rfl hl (by decide) rfl (fun ls hl => ?_)
          refine lv_iconst (v := nI 0) hx hb dX2_sweep_29 (by decide) ?_
          refine lv_istore_n (lv' := [(3, .int (nI 0)), (2, .int (nI 0)), (0, .ref u), (1, .int (nI (ct n f (nI 2))))]) hx hb dX2_sweep_30 rfl hl (by decide) rfl (fun ls hl => ?_)
          have LP31 : ∀ (q2 j b : Nat) (Z2 f2 : Nat → Int32), j + q2 = n → SS n w C V Z2 f2 g → Inv_ n (sb n f) (swp n f).1 f2 → b ≤ 1 → ct n f2 (nI 2) + b ≤ ct n f1 (nI 2) → (b = 0 → ∀ k, k < j → ¬ (f2 k = -2 ∧ f2 ((k + 1) % n) = -1)) → ∀ (H : Heap) (locs : List Loc), va_P D vwCl [(u, .inr (2, [.int (nI w), .ref c1, .ref c2, .ref c3])), (c1, .inl (cI, n, .inl C)), (c2, .inl (cI, n, .inl V)), (c3, .inl (cZ, n, .inl Z2))] H → va_D A [(u, .inr (2, [.int (nI w), .ref c1, .ref c2, .ref c3])), (c1, .inl (cI, n, .inl C)), (c2, .inl (cI, n, .inl V)), (c3, .inl (cZ, n, .inl Z2))] → va_S A s.heap H locs → ∀ (ls : Array Slot), lv_has ls 4 [(3, .int (nI j)), (2, .int (nI b)), (0, .ref u), (1, .int (nI (ct n f (nI 2))))] → W p l e ({ frames := 1, cells := 1, slots := 40, locals := 25 } : Room) s m args below meth c H locs 1 40 (MQ below (qm_i ((fun (A : Nat → Prop) rr H1 => rr = nI (swp n f).2 ∧ ∃ (c3 : Nat) (Z1 : Nat → Int32), SS n w C V Z1 (swp n f).1 g ∧ va_P D vwCl (smw cI cZ u c1 c2 c3 n w C V Z1) H1 ∧ va_D A (smw cI cZ u c1 c2 c3 n w C V Z1)) A) A) args s 1 40 A) (F0 m 31 ls []) := by
            intro q2
            induction q2 with
            | zero =>
              intro j b Z2 f2 g1 S2 hI2 hb1 hb0 hst H locs hP hD hS ls hl
              refine lv_iload_n hx hb dX2_sweep_31 rfl (lv_at hl 0 rfl) ?_
              refine lv_aload_n hx hb dX2_sweep_32 rfl (lv_at hl 2 rfl) ?_
              refine va_get (D := D) (ci := 2) (v := .ref c1) (C := RX2) (T := TX2) (N := 4) hx hb hts (fun _ h => (List.mem_cons_of_mem _ (List.mem_append_right _ h))) hown hK hP 0 rfl rfl 1 (by decide) (hts _ (List.mem_of_getElem? (i := 1) rfl)) (fun _ h9 => h9) rfl dX2_sweep_33 ?_
              refine va_alen (v := nI n) hx hb hK hP 1 0 rfl rfl rfl dX2_sweep_36 ?_
              refine bn_ge (tgt := 83) hx hb dX2_sweep_37 (by decide) (by omega) (by omega) (fun c37 => ?_) (fun c37 => ?_)
              · skip
                refine lv_goto (tgt := 23) hx hb dX2_sweep_83 (by decide) ?_
                rcases (show b = 0 ∨ b = 1 by omega) with rfl | rfl
                · exact EX c3 Z2 f2 S2 hI2 (fun k hk => hst rfl k (by omega)) _ _ hP hD hS _ (lv_sub hl [2, 3, 1] rfl)
                · exact absurd hb0 (by omega)
              · skip
                omega
            | succ q2 ih2 =>
              intro j b Z2 f2 g1 S2 hI2 hb1 hb0 hst H locs hP hD hS ls hl
              refine lv_iload_n hx hb dX2_sweep_31 rfl (lv_at hl 0 rfl) ?_
              refine lv_aload_n hx hb dX2_sweep_32 rfl (lv_at hl 2 rfl) ?_
              refine va_get (D := D) (ci := 2) (v := .ref c1) (C := RX2) (T := TX2) (N := 4) hx hb hts (fun _ h => (List.mem_cons_of_mem _ (List.mem_append_right _ h))) hown hK hP 0 rfl rfl 1 (by decide) (hts _ (List.mem_of_getElem? (i := 1) rfl)) (fun _ h9 => h9) rfl dX2_sweep_33 ?_
              refine va_alen (v := nI n) hx hb hK hP 1 0 rfl rfl rfl dX2_sweep_36 ?_
              refine bn_ge (tgt := 83) hx hb dX2_sweep_37 (by decide) (by omega) (by omega) (fun c37 => ?_) (fun c37 => ?_)
              · skip
                omega
              · skip
                refine lv_aload_n hx hb dX2_sweep_40 rfl (lv_at hl 2 rfl) ?_
                refine va_get (D := D) (ci := 2) (v := .ref c3) (C := RX2) (T := TX2) (N := 4) hx hb hts (fun _ h => (List.mem_cons_of_mem _ (List.mem_append_right _ h))) hown hK hP 0 rfl rfl 3 (by decide) (hts _ (List.mem_of_getElem? (i := 3) rfl)) (fun _ h9 => h9) rfl dX2_sweep_41 ?_
                refine lv_iload_n hx hb dX2_sweep_44 rfl (lv_at hl 0 rfl) ?_
                refine al_z hx hb hK hP 3 1 rfl rfl (by omega) (by omega) dX2_sweep_45 ?_
                refine tp_i (y := (tz (f2 j))) ((S2.2.2.2.2.2.1) j (by omega)) ?_
                refine lv_if_eq (tgt := 77) hx hb dX2_sweep_46 (by decide) (fun c46 => ?_) (fun c46 => ?_)
                · skip
                  refine lv_iinc (v := (nI (j + 1))) (lv' := [(3, .int (nI (j + 1))), (2, .int (nI b)), (0, .ref u), (1, .int (nI (ct n f (nI 2))))]) hx hb dX2_sweep_77 hl (k := 0) rfl (inc1 _) (by decide) rfl (fun ls hl => ?_)
                  refine lv_goto (tgt := 31) hx hb dX2_sweep_80 (by decide) ?_
                  exact ih2 (j + 1) b Z2 f2 (by omega) S2 hI2 hb1 hb0 (fun h => stb_s (hst h) (fun z => tz_0 c46 z.1)) _ _ hP hD hS _ (lv_sub hl [0, 1, 2, 3] rfl)
                · skip
                  refine lv_aload_n hx hb dX2_sweep_49 rfl (lv_at hl 2 rfl) ?_
                  refine lv_iload_n hx hb dX2_sweep_50 rfl (lv_at hl 0 rfl) ?_
                  refine lv_iconst (v := nI 1) hx hb dX2_sweep_51 (by decide) ?_
                  refine an_add hx hb dX2_sweep_52 ?_
                  refine lv_aload_n hx hb dX2_sweep_53 rfl (lv_at hl 2 rfl) ?_
                  refine va_get (D := D) (ci := 2) (v := .ref c1) (C := RX2) (T := TX2) (N := 4) hx hb hts (fun _ h => (List.mem_cons_of_mem _ (List.mem_append_right _ h))) hown hK hP 0 rfl rfl 1 (by decide) (hts _ (List.mem_of_getElem? (i := 1) rfl)) (fun _ h9 => h9) rfl dX2_sweep_54 ?_
                  refine va_alen (v := nI n) hx hb hK hP 1 0 rfl rfl rfl dX2_sweep_57 ?_
                  refine an_rem hx hb (by omega) (by omega) (by omega) dX2_sweep_58 ?_
                  refine pv_i CF (m_X2_isFree l D cI cZ u c1 c2 c3 S2 ((j + 1) % n) (Nat.mod_lt _ (by omega))) (cwV 1 hts gX2_sweep_X2_isFree rfl rfl rfl k_X2_isFree ⟨Nat.le_of_ble_eq_true rfl, Nat.le_of_ble_eq_true rfl⟩) hK hP rfl rfl rfl rfl hl.1 rfl (Nat.le_of_ble_eq_true rfl) dX2_sweep_59 ⟨Nat.le_of_ble_eq_true rfl, Nat.le_of_ble_eq_true rfl⟩ ?_
                  refine lv_if_ne (tgt := 68) hx hb dX2_sweep_62 (by decide) (fun c62 => ?_) (fun c62 => ?_)
                  · skip
                    refine lv_aload_n hx hb dX2_sweep_68 rfl (lv_at hl 2 rfl) ?_
                    refine va_get (D := D) (ci := 2) (v := .ref c3) (C := RX2) (T := TX2) (N := 4) hx hb hts (fun _ h => (List.mem_cons_of_mem _ (List.mem_append_right _ h))) hown hK hP 0 rfl rfl 3 (by decide) (hts _ (List.mem_of_getElem? (i := 3) rfl)) (fun _ h9 => h9) rfl dX2_sweep_69 ?_
                    refine lv_iload_n hx hb dX2_sweep_72 rfl (lv_at hl 0 rfl) ?_
                    refine lv_iconst (v := nI 0) hx hb dX2_sweep_73 (by decide) ?_
                    refine as_z hx hb hK hP hD hS 3 1 rfl rfl (k := j) nar_0 (by omega) (by omega) dX2_sweep_74 (fun H locs hP hD hS => ?_)
                    have hP : va_P D vwCl [(u, .inr (2, [.int (nI w), .ref c1, .ref c2, .ref c3])), (c1, .inl (cI, n, .inl C)), (c2, .inl (cI, n, .inl V)), (c3, .inl (cZ, n, .inl (upd Z2 j (nI 0))))] H := hP
                    have hD : va_D A [(u, .inr (2, [.int (nI w), .ref c1, .ref c2, .ref c3])), (c1, .inl (cI, n, .inl C)), (c2, .inl (cI, n, .inl V)), (c3, .inl (cZ, n, .inl (upd Z2 j (nI 0))))] := hD
                    refine lv_iconst (v := nI 1) hx hb dX2_sweep_75 (by decide) ?_
                    refine lv_istore_n (lv' := [(2, .int (nI 1)), (3, .int (nI j)), (0, .ref u), (1, .int (nI (ct n f (nI 2))))]) hx hb dX2_sweep_76 rfl hl (by decide) rfl (fun ls hl => ?_)
                    refine lv_iinc (v := (nI (j + 1))) (lv' := [(3, .int (nI (j + 1))), (2, .int (nI 1)), (0, .ref u), (1, .int (nI (ct n f (nI 2))))]) hx hb dX2_sweep_77 hl (k := 1) rfl (inc1 _) (by decide) rfl (fun ls hl => ?_)
                    refine lv_goto (tgt := 31) hx hb dX2_sweep_80 (by decide) ?_
                    exact ih2 (j + 1) 1 (upd Z2 j (nI 0)) (upd f2 j (-1)) (by omega) (S2.free (by omega) (tz_1 c46)) (inv_step (by omega) (swp_stb (by omega) f) (swp_fin (by omega) f) hI2 (by omega) (tz_1 c46) (fz_1 c62)) (by omega) (by have := ct_free (show j < n by omega) (tz_1 c46); omega) (fun h => absurd h (by omega)) _ _ hP hD hS _ (lv_sub hl [0, 1, 2, 3] rfl)
                  · skip
                    refine lv_goto (tgt := 77) hx hb dX2_sweep_65 (by decide) ?_
                    refine lv_iinc (v := (nI (j + 1))) (lv' := [(3, .int (nI (j + 1))), (2, .int (nI b)), (0, .ref u), (1, .int (nI (ct n f (nI 2))))]) hx hb dX2_sweep_77 hl (k := 0) rfl (inc1 _) (by decide) rfl (fun ls hl => ?_)
                    refine lv_goto (tgt := 31) hx hb dX2_sweep_80 (by decide) ?_
                    exact ih2 (j + 1) b Z2 f2 (by omega) S2 hI2 hb1 hb0 (fun h => stb_s (hst h) (fun z => fz_0 c62 z.2)) _ _ hP hD hS _ (lv_sub hl [0, 1, 2, 3] rfl)
          exact LP31 n 0 0 Z1 f1 (Nat.zero_add n) S1 hI (by omega) (by omega) (fun _ k hk => absurd hk (Nat.not_lt_zero k)) _ _ hP hD hS _ (lv_sub hl [0, 1, 2, 3] rfl)
      | succ q ih =>
        intro Z1 f1 hq S1 hI H locs hP hD hS ls hl
        refine lv_iload_n hx hb dX2_sweep_23 rfl (lv_at hl 0 rfl) ?_
        refine bz_eq (tgt := 86) hx hb dX2_sweep_24 (by decide) (by omega) (fun c24 => ?_) (fun c24 => ?_)
        · skip
          omega
        · skip
          refine lv_iconst (v := nI 0) hx hb dX2_sweep_27 (by decide) ?_
          refine lv_istore_n (lv' := [(2, .int (nI 0)), (0, .ref u), (1, .int (nI (ct n f (nI 2))))]) hx hb dX2_sweep_28 rfl hl (by decide) rfl (fun ls hl => ?_)
          refine lv_iconst (v := nI 0) hx hb dX2_sweep_29 (by decide) ?_
          refine lv_istore_n (lv' := [(3, .int (nI 0)), (2, .int (nI 0)), (0, .ref u), (1, .int (nI (ct n f (nI 2))))]) hx hb dX2_sweep_30 rfl hl (by decide) rfl (fun ls hl => ?_)
          have LP31 : ∀ (q2 j b : Nat) (Z2 f2 : Nat → Int32), j + q2 = n → SS n w C V Z2 f2 g → Inv_ n (sb n f) (swp n f).1 f2 → b ≤ 1 → ct n f2 (nI 2) + b ≤ ct n f1 (nI 2) → (b = 0 → ∀ k, k < j → ¬ (f2 k = -2 ∧ f2 ((k + 1) % n) = -1)) → ∀ (H : Heap) (locs : List Loc), va_P D vwCl [(u, .inr (2, [.int (nI w), .ref c1, .ref c2, .ref c3])), (c1, .inl (cI, n, .inl C)), (c2, .inl (cI, n, .inl V)), (c3, .inl (cZ, n, .inl Z2))] H → va_D A [(u, .inr (2, [.int (nI w), .ref c1, .ref c2, .ref c3])), (c1, .inl (cI, n, .inl C)), (c2, .inl (cI, n, .inl V)), (c3, .inl (cZ, n, .inl Z2))] → va_S A s.heap H locs → ∀ (ls : Array Slot), lv_has ls 4 [(3, .int (nI j)), (2, .int (nI b)), (0, .ref u), (1, .int (nI (ct n f (nI 2))))] → W p l e ({ frames := 1, cells := 1, slots := 40, locals := 25 } : Room) s m args below meth c H locs 1 40 (MQ below (qm_i ((fun (A : Nat → Prop) rr H1 => rr = nI (swp n f).2 ∧ ∃ (c3 : Nat) (Z1 : Nat → Int32), SS n w C V Z1 (swp n f).1 g ∧ va_P D vwCl (smw cI cZ u c1 c2 c3 n w C V Z1) H1 ∧ va_D A (smw cI cZ u c1 c2 c3 n w C V Z1)) A) A) args s 1 40 A) (F0 m 31 ls []) := by
            intro q2
            induction q2 with
            | zero =>
              intro j b Z2 f2 g1 S2 hI2 hb1 hb0 hst H locs hP hD hS ls hl
              refine lv_iload_n hx hb dX2_sweep_31 rfl (lv_at hl 0 rfl) ?_
              refine lv_aload_n hx hb dX2_sweep_32 rfl (lv_at hl 2 rfl) ?_
              refine va_get (D := D) (ci := 2) (v := .ref c1) (C := RX2) (T := TX2) (N := 4) hx hb hts (fun _ h => (List.mem_cons_of_mem _ (List.mem_append_right _ h))) hown hK hP 0 rfl rfl 1 (by decide) (hts _ (List.mem_of_getElem? (i := 1) rfl)) (fun _ h9 => h9) rfl dX2_sweep_33 ?_
              refine va_alen (v := nI n) hx hb hK hP 1 0 rfl rfl rfl dX2_sweep_36 ?_
              refine bn_ge (tgt := 83) hx hb dX2_sweep_37 (by decide) (by omega) (by omega) (fun c37 => ?_) (fun c37 => ?_)
              · skip
                refine lv_goto (tgt := 23) hx hb dX2_sweep_83 (by decide) ?_
                rcases (show b = 0 ∨ b = 1 by omega) with rfl | rfl
                · exact EX c3 Z2 f2 S2 hI2 (fun k hk => hst rfl k (by omega)) _ _ hP hD hS _ (lv_sub hl [2, 3, 1] rfl)
                · exact ih Z2 f2 (by omega) S2 hI2 _ _ hP hD hS _ (lv_sub hl [1, 2, 3] rfl)
              · skip
                omega
            | succ q2 ih2 =>
              intro j b Z2 f2 g1 S2 hI2 hb1 hb0 hst H locs hP hD hS ls hl
              refine lv_iload_n hx hb dX2_sweep_31 rfl (lv_at hl 0 rfl) ?_
              refine lv_aload_n hx hb dX2_sweep_32 rfl (lv_at hl 2 rfl) ?_
              refine va_get (D := D) (ci := 2) (v := .ref c1) (C := RX2) (T := TX2) (N := 4) hx hb hts (fun _ h => (List.mem_cons_of_mem _ (List.mem_append_right _ h))) hown hK hP 0 rfl rfl 1 (by decide) (hts _ (List.mem_of_getElem? (i := 1) rfl)) (fun _ h9 => h9) rfl dX2_sweep_33 ?_
              refine va_alen (v := nI n) hx hb hK hP 1 0 rfl rfl rfl dX2_sweep_36 ?_
              refine bn_ge (tgt := 83) hx hb dX2_sweep_37 (by decide) (by omega) (by omega) (fun c37 => ?_) (fun c37 => ?_)
              · skip
                omega
              · skip
                refine lv_aload_n hx hb dX2_sweep_40 rfl (lv_at hl 2 rfl) ?_
                refine va_get (D := D) (ci := 2) (v := .ref c3) (C := RX2) (T := TX2) (N := 4) hx hb hts (fun _ h => (List.mem_cons_of_mem _ (List.mem_append_right _ h))) hown hK hP 0 rfl rfl 3 (by decide) (hts _ (List.mem_of_getElem? (i := 3) rfl)) (fun _ h9 => h9) rfl dX2_sweep_41 ?_
                refine lv_iload_n hx hb dX2_sweep_44 rfl (lv_at hl 0 rfl) ?_
                refine al_z hx hb hK hP 3 1 rfl rfl (by omega) (by omega) dX2_sweep_45 ?_
                refine tp_i (y := (tz (f2 j))) ((S2.2.2.2.2.2.1) j (by omega)) ?_
                refine lv_if_eq (tgt := 77) hx hb dX2_sweep_46 (by decide) (fun c46 => ?_) (fun c46 => ?_)
                · skip
                  refine lv_iinc (v := (nI (j + 1))) (lv' := [(3, .int (nI (j + 1))), (2, .int (nI b)), (0, .ref u), (1, .int (nI (ct n f (nI 2))))]) hx hb dX2_sweep_77 hl (k := 0) rfl (inc1 _) (by decide) rfl (fun ls hl => ?_)
                  refine lv_goto (tgt := 31) hx hb dX2_sweep_80 (by decide) ?_
                  exact ih2 (j + 1) b Z2 f2 (by omega) S2 hI2 hb1 hb0 (fun h => stb_s (hst h) (fun z => tz_0 c46 z.1)) _ _ hP hD hS _ (lv_sub hl [0, 1, 2, 3] rfl)
                · skip
                  refine lv_aload_n hx hb dX2_sweep_49 rfl (lv_at hl 2 rfl) ?_
                  refine lv_iload_n hx hb dX2_sweep_50 rfl (lv_at hl 0 rfl) ?_
                  refine lv_iconst (v := nI 1) hx hb dX2_sweep_51 (by decide) ?_
                  refine an_add hx hb dX2_sweep_52 ?_
                  refine lv_aload_n hx hb dX2_sweep_53 rfl (lv_at hl 2 rfl) ?_
                  refine va_get (D := D) (ci := 2) (v := .ref c1) (C := RX2) (T := TX2) (N := 4) hx hb hts (fun _ h => (List.mem_cons_of_mem _ (List.mem_append_right _ h))) hown hK hP 0 rfl rfl 1 (by decide) (hts _ (List.mem_of_getElem? (i := 1) rfl)) (fun _ h9 => h9) rfl dX2_sweep_54 ?_
                  refine va_alen (v := nI n) hx hb hK hP 1 0 rfl rfl rfl dX2_sweep_57 ?_
                  refine an_rem hx hb (by omega) (by omega) (by omega) dX2_sweep_58 ?_
                  refine pv_i CF (m_X2_isFree l D cI cZ u c1 c2 c3 S2 ((j + 1) % n) (Nat.mod_lt _ (by omega))) (cwV 1 hts gX2_sweep_X2_isFree rfl rfl rfl k_X2_isFree ⟨Nat.le_of_ble_eq_true rfl, Nat.le_of_ble_eq_true rfl⟩) hK hP rfl rfl rfl rfl hl.1 rfl (Nat.le_of_ble_eq_true rfl) dX2_sweep_59 ⟨Nat.le_of_ble_eq_true rfl, Nat.le_of_ble_eq_true rfl⟩ ?_
                  refine lv_if_ne (tgt := 68) hx hb dX2_sweep_62 (by decide) (fun c62 => ?_) (fun c62 => ?_)
                  · skip
                    refine lv_aload_n hx hb dX2_sweep_68 rfl (lv_at hl 2 rfl) ?_
                    refine va_get (D := D) (ci := 2) (v := .ref c3) (C := RX2) (T := TX2) (N := 4) hx hb hts (fun _ h => (List.mem_cons_of_mem _ (List.mem_append_right _ h))) hown hK hP 0 rfl rfl 3 (by decide) (hts _ (List.mem_of_getElem? (i := 3) rfl)) (fun _ h9 => h9) rfl dX2_sweep_69 ?_
                    refine lv_iload_n hx hb dX2_sweep_72 rfl (lv_at hl 0 rfl) ?_
                    refine lv_iconst (v := nI 0) hx hb dX2_sweep_73 (by decide) ?_
                    refine as_z hx hb hK hP hD hS 3 1 rfl rfl (k := j) nar_0 (by omega) (by omega) dX2_sweep_74 (fun H locs hP hD hS => ?_)
                    have hP : va_P D vwCl [(u, .inr (2, [.int (nI w), .ref c1, .ref c2, .ref c3])), (c1, .inl (cI, n, .inl C)), (c2, .inl (cI, n, .inl V)), (c3, .inl (cZ, n, .inl (upd Z2 j (nI 0))))] H := hP
                    have hD : va_D A [(u, .inr (2, [.int (nI w), .ref c1, .ref c2, .ref c3])), (c1, .inl (cI, n, .inl C)), (c2, .inl (cI, n, .inl V)), (c3, .inl (cZ, n, .inl (upd Z2 j (nI 0))))] := hD
                    refine lv_iconst (v := nI 1) hx hb dX2_sweep_75 (by decide) ?_
                    refine lv_istore_n (lv' := [(2, .int (nI 1)), (3, .int (nI j)), (0, .ref u), (1, .int (nI (ct n f (nI 2))))]) hx hb dX2_sweep_76 rfl hl (by decide) rfl (fun ls hl => ?_)
                    refine lv_iinc (v := (nI (j + 1))) (lv' := [(3, .int (nI (j + 1))), (2, .int (nI 1)), (0, .ref u), (1, .int (nI (ct n f (nI 2))))]) hx hb dX2_sweep_77 hl (k := 1) rfl (inc1 _) (by decide) rfl (fun ls hl => ?_)
                    refine lv_goto (tgt := 31) hx hb dX2_sweep_80 (by decide) ?_
                    exact ih2 (j + 1) 1 (upd Z2 j (nI 0)) (upd f2 j (-1)) (by omega) (S2.free (by omega) (tz_1 c46)) (inv_step (by omega) (swp_stb (by omega) f) (swp_fin (by omega) f) hI2 (by omega) (tz_1 c46) (fz_1 c62)) (by omega) (by have := ct_free (show j < n by omega) (tz_1 c46); omega) (fun h => absurd h (by omega)) _ _ hP hD hS _ (lv_sub hl [0, 1, 2, 3] rfl)
                  · skip
                    refine lv_goto (tgt := 77) hx hb dX2_sweep_65 (by decide) ?_
                    refine lv_iinc (v := (nI (j + 1))) (lv' := [(3, .int (nI (j + 1))), (2, .int (nI b)), (0, .ref u), (1, .int (nI (ct n f (nI 2))))]) hx hb dX2_sweep_77 hl (k := 0) rfl (inc1 _) (by decide) rfl (fun ls hl => ?_)
                    refine lv_goto (tgt := 31) hx hb dX2_sweep_80 (by decide) ?_
                    exact ih2 (j + 1) b Z2 f2 (by omega) S2 hI2 hb1 hb0 (fun h => stb_s (hst h) (fun z => fz_0 c62 z.2)) _ _ hP hD hS _ (lv_sub hl [0, 1, 2, 3] rfl)
          exact LP31 n 0 0 Z1 f1 (Nat.zero_add n) S1 hI (by omega) (by omega) (fun _ k hk => absurd hk (Nat.not_lt_zero k)) _ _ hP hD hS _ (lv_sub hl [0, 1, 2, 3] rfl)
    exact LP23 (ct n (sb n f) (nI 2)) Z (sb n f) (Nat.le_refl _) S0 inv_0 _ _ hP hD hS _ (lv_sub hl [0, 1, 2] rfl)
  refine lv_aload_n hx hb dX2_sweep_0 rfl (lv_at hl 0 rfl) ?_
  refine pv_i CF (m_X2_tickets l D cI cZ u c1 c2 c3 S ) (cwV 0 hts gX2_sweep_X2_tickets rfl rfl rfl k_X2_tickets ⟨Nat.le_of_ble_eq_true rfl, Nat.le_of_ble_eq_true rfl⟩) hK hP rfl rfl rfl rfl hl.1 rfl (Nat.le_of_ble_eq_true rfl) dX2_sweep_1 ⟨Nat.le_of_ble_eq_true rfl, Nat.le_of_ble_eq_true rfl⟩ ?_
  refine lv_istore_n (lv' := [(1, .int (nI (ct n f (nI 2)))), (0, .ref u)]) hx hb dX2_sweep_4 rfl hl (by decide) rfl (fun ls hl => ?_)
  refine lv_iload_n hx hb dX2_sweep_5 rfl (lv_at hl 0 rfl) ?_
  refine lv_aload_n hx hb dX2_sweep_6 rfl (lv_at hl 1 rfl) ?_
  refine va_get (D := D) (ci := 2) (v := .ref c1) (C := RX2) (T := TX2) (N := 4) hx hb hts (fun _ h => (List.mem_cons_of_mem _ (List.mem_append_right _ h))) hown hK hP 0 rfl rfl 1 (by decide) (hts _ (List.mem_of_getElem? (i := 1) rfl)) (fun _ h9 => h9) rfl dX2_sweep_7 ?_
  refine va_alen (v := nI n) hx hb hK hP 1 0 rfl rfl rfl dX2_sweep_10 ?_
  refine bn_ne (tgt := 21) hx hb dX2_sweep_11 (by decide) (Nat.lt_of_le_of_lt (ct_le n f (nI 2) n) (by omega)) (by omega) (fun c11 => ?_) (fun c11 => ?_)
  · skip
    refine w_widen (k := 1) (n := 40) (Nat.le_of_ble_eq_true rfl) (by omega) ?_
    exact L21 c3 Z (by rw [sb_n c11]; exact S) _ _ hP hD hS _ (lv_sub hl [1, 0] rfl)
  · skip
    refine lv_aload_n hx hb dX2_sweep_14 rfl (lv_at hl 1 rfl) ?_
    refine lv_iload_n hx hb dX2_sweep_15 rfl (lv_at hl 0 rfl) ?_
    refine tp_i (y := (nI n)) (congrArg nI c11) ?_
    refine va_newa (ty := .boolean) (a0 := (n, .inl (fun _ => 0))) hx hb (hts _ (List.mem_of_getElem? (i := 2) rfl)) rfl hK hP hD hS hA (fun _ => rfl) (nI_pos (by omega)) (nI_clamp (by omega)) (n1_small (by omega)) (Nat.le_of_ble_eq_true rfl) (by show _ + n ≤ 40; omega) dX2_sweep_16 (fun q16 cA H hK1 hP hD hS => ?_)
    obtain rfl : cZ = cA := ar_oneZ hK1 1 2 rfl rfl
    have hP : va_P D vwCl [(u, .inr (2, [.int (nI w), .ref c1, .ref c2, .ref c3])), (c1, .inl (cI, n, .inl C)), (c2, .inl (cI, n, .inl V)), (c3, .inl (cZ, n, .inl Z)), (q16, .inl (cZ, n, .inl (fun _ => 0)))] H := hP
    have hD : va_D A [(u, .inr (2, [.int (nI w), .ref c1, .ref c2, .ref c3])), (c1, .inl (cI, n, .inl C)), (c2, .inl (cI, n, .inl V)), (c3, .inl (cZ, n, .inl Z)), (q16, .inl (cZ, n, .inl (fun _ => 0)))] := hD
    refine va_put (D := D) (ci := 2) (v := .ref q16) (ty := .array .boolean) (C := RX2) (T := TX2) (N := 4) hx hb hts (fun _ h => (List.mem_cons_of_mem _ (List.mem_append_right _ h))) tyX2 tyX2_ok nmX2 hown hK hP hD hS 0 rfl rfl 3 (by decide) (hts _ (List.mem_of_getElem? (i := 3) rfl)) (fun _ h9 => h9) rfl (by decide +kernel) rfl rfl (Nat.le_of_ble_eq_true rfl) dX2_sweep_18 (fun H locs hP hD hS => ?_)
    have hP : va_P D vwCl [(u, .inr (2, [.int (nI w), .ref c1, .ref c2, .ref q16])), (c1, .inl (cI, n, .inl C)), (c2, .inl (cI, n, .inl V)), (c3, .inl (cZ, n, .inl Z)), (q16, .inl (cZ, n, .inl (fun _ => 0)))] H := hP
    have hD : va_D A [(u, .inr (2, [.int (nI w), .ref c1, .ref c2, .ref q16])), (c1, .inl (cI, n, .inl C)), (c2, .inl (cI, n, .inl V)), (c3, .inl (cZ, n, .inl Z)), (q16, .inl (cZ, n, .inl (fun _ => 0)))] := hD
    have hP := hP.sub (ws' := [(u, .inr (2, [.int (nI w), .ref c1, .ref c2, .ref q16])), (c1, .inl (cI, n, .inl C)), (c2, .inl (cI, n, .inl V)), (q16, .inl (cZ, n, .inl (fun _ => 0)))]) [0, 1, 2, 4] rfl
    have hD := hD.sub (ws' := [(u, .inr (2, [.int (nI w), .ref c1, .ref c2, .ref q16])), (c1, .inl (cI, n, .inl C)), (c2, .inl (cI, n, .inl V)), (q16, .inl (cZ, n, .inl (fun _ => 0)))]) [0, 1, 2, 4] (by decide) rfl
    refine w_widen (k := 1) (n := 40) (Nat.le_of_ble_eq_true rfl) (by omega) ?_
    exact L21 q16 (fun _ => 0) (by rw [sb_y c11]; exact S.all c11 (fun _ _ => rfl)) _ _ hP hD hS _ (lv_sub hl [1, 0] rfl)
