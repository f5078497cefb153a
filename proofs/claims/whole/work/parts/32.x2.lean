/-! the reference: looking -/
theorem at_small {N w x k : Nat} (hx : x ≤ 9999) (h3 : 3 ≤ N) (h40 : N ≤ 40) (hw : w ≤ 2) (hk : k ≤ 40) : at_ N w x k + inc_ N w x k < 2 ^ 31 := by
  have h1 := at_lt (show 0 < N by omega) w x k
  have h2 : inc_ N w x k ≤ 100 := by
    unfold inc_
    split
    · omega
    · split
      · omega
      · have := Nat.mod_lt (x / N) (show 0 < N - 1 by omega)
        omega
  omega
/-- the reference's cells -/
abbrev mdw (cI : ClassId) (u c1 c2 c3 c4 : Nat) (e0 : Int32) (n w : Nat) (F V O Y : Nat → Int32) (e7 e8 e9 e10 : Int32) : va_W := [(u, .inr (2, [.int e0, .int (nI n), .int (nI w), .ref c1, .ref c2, .ref c3, .ref c4, .int e7, .int e8, .int e9, .int e10])), (c1, .inl (cI, 40, .inl F)), (c2, .inl (cI, 40, .inl V)), (c3, .inl (cI, 40, .inl O)), (c4, .inl (cI, 40, .inl Y))]
theorem k_X2_isIn : yX2_isIn.cls = RX2 ∧ yX2_isIn.cls ≠ "java/lang/invoke/MethodHandle" ∧ yX2_isIn.cls ≠ "java/lang/invoke/VarHandle" ∧ (parseMethodDescriptor yX2_isIn.desc).map (fun d => d.parameters.length) = some 3 := by decide +kernel
set_option maxHeartbeats 4000000 in
set_option maxRecDepth 100000 in
theorem m_X2_isIn (l : Launch) (D : va_G) (cI : ClassId) (x y z : Int32) : Met l yX2_isIn wsX2_isIn ({ frames := 0, cells := 0, slots := 0, locals := 0 } : Room) (PR D [(cI, .int)] [.int x, .int y, .int z] []) (vp_Si (fun r => r = isI x y z)) 0 0 (fun _ => False) := by
  refine bd_p (cc := cX2_isIn) (maxL := 3) (ret := (some .boolean)) (by decide) rfl (Nat.le_of_ble_eq_true rfl) ?_
  intro p e s m args below meth c ls CF hr hlocks hK hP hl
  obtain ⟨hx, hb, hml, hown, hts⟩ := id CF
  have hl : lv_has ls 3 [(0, .int x), (1, .int y), (2, .int z)] := hl
  have hP : va_P D vwCl [] s.heap := hP
  refine lv_iload_n hx hb dX2_isIn_0 rfl (lv_at hl 0 rfl) ?_
  refine lv_iload_n hx hb dX2_isIn_1 rfl (lv_at hl 1 rfl) ?_
  refine lv_icmp_lt (tgt := 14) hx hb dX2_isIn_2 (by decide) (fun c2 => ?_) (fun c2 => ?_)
  · skip
    refine lv_iconst (v := nI 0) hx hb dX2_isIn_14 (by decide) ?_
    exact en_z hx hb hr hlocks (Or.inl rfl) ((if_neg (fun q => nlt_of_le q.1 c2)).symm) dX2_isIn_15
  · skip
    refine lv_iload_n hx hb dX2_isIn_5 rfl (lv_at hl 0 rfl) ?_
    refine lv_iload_n hx hb dX2_isIn_6 rfl (lv_at hl 2 rfl) ?_
    refine lv_icmp_gt (tgt := 14) hx hb dX2_isIn_7 (by decide) (fun c7 => ?_) (fun c7 => ?_)
    · skip
      refine lv_iconst (v := nI 0) hx hb dX2_isIn_14 (by decide) ?_
      exact en_z hx hb hr hlocks (Or.inl rfl) ((if_neg (fun q => nlt_of_le q.2 c7)).symm) dX2_isIn_15
    · skip
      refine lv_iconst (v := nI 1) hx hb dX2_isIn_10 (by decide) ?_
      refine lv_goto (tgt := 15) hx hb dX2_isIn_11 (by decide) ?_
      exact en_z hx hb hr hlocks (Or.inr rfl) ((if_pos ⟨le_of_nlt c2, le_of_nlt c7⟩).symm) dX2_isIn_15
theorem k_X2_isNumber : yX2_isNumber.cls = RX2 ∧ yX2_isNumber.cls ≠ "java/lang/invoke/MethodHandle" ∧ yX2_isNumber.cls ≠ "java/lang/invoke/VarHandle" ∧ (parseMethodDescriptor yX2_isNumber.desc).map (fun d => d.parameters.length) = some 1 := by decide +kernel
set_option maxHeartbeats 4000000 in
set_option maxRecDepth 100000 in
theorem m_X2_isNumber (l : Launch) (D : va_G) (cI : ClassId) (x : Int32) : Met l yX2_isNumber wsX2_isNumber ({ frames := 1, cells := 0, slots := 0, locals := 22 } : Room) (PR D [(cI, .int)] [.int x] []) (vp_Si (fun r => r = isI x (nI 0) (nI 9999))) 0 0 (fun _ => False) := by
  refine bd_p (cc := cX2_isNumber) (maxL := 1) (ret := (some .boolean)) (by decide) rfl (Nat.le_of_ble_eq_true rfl) ?_
  intro p e s m args below meth c ls CF hr hlocks hK hP hl
  obtain ⟨hx, hb, hml, hown, hts⟩ := id CF
  have hl : lv_has ls 1 [(0, .int x)] := hl
  have hP : va_P D vwCl [] s.heap := hP
  refine lv_iload_n hx hb dX2_isNumber_0 rfl (lv_at hl 0 rfl) ?_
  refine lv_iconst (v := nI 0) hx hb dX2_isNumber_1 (by decide) ?_
  refine lv_sipush (v := nI 9999) hx hb dX2_isNumber_2 (by decide) ?_
  refine pz_i (wc := []) CF (m_X2_isIn l D cI x (nI 0) (nI 9999)) (va_cwS 3 hts gX2_isNumber_X2_isIn rfl rfl rfl k_X2_isIn.2 ⟨Nat.le_of_ble_eq_true rfl, Nat.le_of_ble_eq_true rfl⟩) hK (fun k q h => by simp at h) rfl hl.1 rfl (Nat.le_of_ble_eq_true rfl) dX2_isNumber_5 ⟨Nat.le_of_ble_eq_true rfl, Nat.le_of_ble_eq_true rfl⟩ ?_
  exact en_z hx hb hr hlocks (isI_01 _ _ _) rfl dX2_isNumber_8
theorem k_X2_isHook : yX2_isHook.cls = RX2 ∧ yX2_isHook.cls ≠ "java/lang/invoke/MethodHandle" ∧ yX2_isHook.cls ≠ "java/lang/invoke/VarHandle" ∧ (parseMethodDescriptor yX2_isHook.desc).map (fun d => d.parameters.length) = some 1 := by decide +kernel
set_option maxHeartbeats 4000000 in
set_option maxRecDepth 100000 in
theorem m_X2_isHook (l : Launch) (D : va_G) (cI : ClassId) (u c1 c2 c3 c4 : Nat) {n w : Nat} {F V f g : Nat → Int32} (S : MS n w F V f g) (O Y : Nat → Int32) (e0 e7 e8 e9 e10 : Int32) (x : Int32) : Met l yX2_isHook wsX2_isHook ({ frames := 1, cells := 0, slots := 0, locals := 22 } : Room) (PR D [(cI, .int)] [.ref u, .int x] (mdw cI u c1 c2 c3 c4 e0 n w F V O Y e7 e8 e9 e10)) (vp_Si (fun r => r = isI x (nI 0) (nI (n - 1)))) 0 0 (fun _ => False) := by
  obtain ⟨hn3, hn, hw2, hF, hV, hO⟩ := id S
  refine bd_p (cc := cX2_isHook) (maxL := 2) (ret := (some .boolean)) (by decide) rfl (Nat.le_of_ble_eq_true rfl) ?_
  intro p e s m args below meth c ls CF hr hlocks hK hP hl
  obtain ⟨hx, hb, hml, hown, hts⟩ := id CF
  have hl : lv_has ls 2 [(0, .ref u), (1, .int x)] := hl
  have hP : va_P D vwCl [(u, .inr (2, [.int e0, .int (nI n), .int (nI w), .ref c1, .ref c2, .ref c3, .ref c4, .int e7, .int e8, .int e9, .int e10])), (c1, .inl (cI, 40, .inl F)), (c2, .inl (cI, 40, .inl V)), (c3, .inl (cI, 40, .inl O)), (c4, .inl (cI, 40, .inl Y))] s.heap := hP
  refine lv_iload_n hx hb dX2_isHook_0 rfl (lv_at hl 1 rfl) ?_
  refine lv_iconst (v := nI 0) hx hb dX2_isHook_1 (by decide) ?_
  refine lv_aload_n hx hb dX2_isHook_2 rfl (lv_at hl 0 rfl) ?_
  refine va_get (D := D) (ci := 2) (v := .int (nI n)) (C := RX2) (T := TX2) (N := 11) hx hb hts (fun _ h => (List.mem_cons_of_mem _ (List.mem_append_right _ h))) hown hK hP 0 rfl rfl 1 (by decide) (hts _ (List.mem_of_getElem? (i := 1) rfl)) (fun _ h9 => h9) rfl dX2_isHook_3 ?_
  refine lv_iconst (v := nI 1) hx hb dX2_isHook_6 (by decide) ?_
  refine an_sub hx hb (by omega) dX2_isHook_7 ?_
  refine pz_i (wc := []) CF (m_X2_isIn l D cI x (nI 0) (nI (n - 1))) (va_cwS 3 hts gX2_isHook_X2_isIn rfl rfl rfl k_X2_isIn.2 ⟨Nat.le_of_ble_eq_true rfl, Nat.le_of_ble_eq_true rfl⟩) hK (fun k q h => by simp at h) rfl hl.1 rfl (Nat.le_of_ble_eq_true rfl) dX2_isHook_8 ⟨Nat.le_of_ble_eq_true rfl, Nat.le_of_ble_eq_true rfl⟩ ?_
  exact en_z hx hb hr hlocks (isI_01 _ _ _) rfl dX2_isHook_11
theorem k_X2_thrown : yX2_thrown.cls = RX2 ∧ yX2_thrown.cls ≠ "java/lang/invoke/MethodHandle" ∧ yX2_thrown.cls ≠ "java/lang/invoke/VarHandle" ∧ (parseMethodDescriptor yX2_thrown.desc).map (fun d => d.parameters.length) = some 0 := by decide +kernel
set_option maxHeartbeats 4000000 in
set_option maxRecDepth 100000 in
theorem m_X2_thrown (l : Launch) (D : va_G) (cI : ClassId) (u c1 c2 c3 c4 : Nat) {n w : Nat} {F V f g : Nat → Int32} (S : MS n w F V f g) (O Y : Nat → Int32) (e0 e7 e8 e9 e10 : Int32) : Met l yX2_thrown wsX2_thrown ({ frames := 0, cells := 0, slots := 0, locals := 0 } : Room) (PR D [(cI, .int)] [.ref u] (mdw cI u c1 c2 c3 c4 e0 n w F V O Y e7 e8 e9 e10)) (vp_Si (fun r => r = e0)) 0 0 (fun _ => False) := by
  obtain ⟨hn3, hn, hw2, hF, hV, hO⟩ := id S
  refine bd_p (cc := cX2_thrown) (maxL := 1) (ret := (some .int)) (by decide) rfl (Nat.le_of_ble_eq_true rfl) ?_
  intro p e s m args below meth c ls CF hr hlocks hK hP hl
  obtain ⟨hx, hb, hml, hown, hts⟩ := id CF
  have hl : lv_has ls 1 [(0, .ref u)] := hl
  have hP : va_P D vwCl [(u, .inr (2, [.int e0, .int (nI n), .int (nI w), .ref c1, .ref c2, .ref c3, .ref c4, .int e7, .int e8, .int e9, .int e10])), (c1, .inl (cI, 40, .inl F)), (c2, .inl (cI, 40, .inl V)), (c3, .inl (cI, 40, .inl O)), (c4, .inl (cI, 40, .inl Y))] s.heap := hP
  refine lv_aload_n hx hb dX2_thrown_0 rfl (lv_at hl 0 rfl) ?_
  refine va_get (D := D) (ci := 2) (v := .int e0) (C := RX2) (T := TX2) (N := 11) hx hb hts (fun _ h => (List.mem_cons_of_mem _ (List.mem_append_right _ h))) hown hK hP 0 rfl rfl 0 (by decide) (hts _ (List.mem_of_getElem? (i := 1) rfl)) (fun _ h9 => h9) rfl dX2_thrown_1 ?_
  exact en_i hx hb hr hlocks rfl dX2_thrown_4
theorem k_X2_no : yX2_no.cls = RX2 ∧ yX2_no.cls ≠ "java/lang/invoke/MethodHandle" ∧ yX2_no.cls ≠ "java/lang/invoke/VarHandle" ∧ (parseMethodDescriptor yX2_no.desc).map (fun d => d.parameters.length) = some 1 := by decide +kernel
set_option maxHeartbeats 4000000 in
set_option maxRecDepth 100000 in
theorem m_X2_no (l : Launch) (D : va_G) (cI : ClassId) (u c1 c2 c3 c4 : Nat) {n w : Nat} {F V f g : Nat → Int32} (S : MS n w F V f g) (O Y : Nat → Int32) (e0 e7 e8 e9 e10 : Int32) (x : Int32) (sz : Nat) : Met l yX2_no wsX2_no ({ frames := 0, cells := 0, slots := 0, locals := 0 } : Room) (PM D [(cI, .int)] [.ref u, .int x] sz (mdw cI u c1 c2 c3 c4 e0 n w F V O Y e7 e8 e9 e10)) (qm_i (fun rr H1 => rr = nI 0 ∧ va_P D vwCl (mdw cI u c1 c2 c3 c4 x n w F V O Y e7 e8 e9 e10) H1) (va_A (mdw cI u c1 c2 c3 c4 e0 n w F V O Y e7 e8 e9 e10) sz)) 0 0 (va_A (mdw cI u c1 c2 c3 c4 e0 n w F V O Y e7 e8 e9 e10) sz) := by
  obtain ⟨hn3, hn, hw2, hF, hV, hO⟩ := id S
  refine bd_m (Qc := (fun A => qm_i (fun rr H1 => rr = nI 0 ∧ va_P D vwCl (mdw cI u c1 c2 c3 c4 x n w F V O Y e7 e8 e9 e10) H1) A)) (cc := cX2_no) (maxL := 2) (ret := (some .int)) (by decide) rfl (Nat.le_of_ble_eq_true rfl) ?_
  intro p e s m args below meth c ls A CF hr hlocks hK hP hD hA hS hl hin
  obtain ⟨hx, hb, hml, hown, hts⟩ := id CF
  have hl : lv_has ls 2 [(0, .ref u), (1, .int x)] := hl
  have hP : va_P D vwCl [(u, .inr (2, [.int e0, .int (nI n), .int (nI w), .ref c1, .ref c2, .ref c3, .ref c4, .int e7, .int e8, .int e9, .int e10])), (c1, .inl (cI, 40, .inl F)), (c2, .inl (cI, 40, .inl V)), (c3, .inl (cI, 40, .inl O)), (c4, .inl (cI, 40, .inl Y))] s.heap := hP
  have hD : va_D A [(u, .inr (2, [.int e0, .int (nI n), .int (nI w), .ref c1, .ref c2, .ref c3, .ref c4, .int e7, .int e8, .int e9, .int e10])), (c1, .inl (cI, 40, .inl F)), (c2, .inl (cI, 40, .inl V)), (c3, .inl (cI, 40, .inl O)), (c4, .inl (cI, 40, .inl Y))] := hD
  generalize hH0 : s.heap = H at hP
  have hS : va_S A s.heap H [] := by rw [← hH0]; exact va_S.rf
  generalize hlc0 : ([] : List Loc) = locs at hS ⊢
  refine lv_aload_n hx hb dX2_no_0 rfl (lv_at hl 0 rfl) ?_
  refine lv_iload_n hx hb dX2_no_1 rfl (lv_at hl 1 rfl) ?_
  refine va_put (D := D) (ci := 2) (v := .int x) (ty := .int) (C := RX2) (T := TX2) (N := 11) hx hb hts (fun _ h => (List.mem_cons_of_mem _ (List.mem_append_right _ h))) tyX2 tyX2_ok nmX2 hown hK hP hD hS 0 rfl rfl 0 (by decide) (hts _ (List.mem_of_getElem? (i := 1) rfl)) (fun _ h9 => h9) rfl (by decide +kernel) rfl rfl (Nat.le_of_ble_eq_true rfl) dX2_no_2 (fun H locs hP hD hS => ?_)
  have hP : va_P D vwCl [(u, .inr (2, [.int x, .int (nI n), .int (nI w), .ref c1, .ref c2, .ref c3, .ref c4, .int e7, .int e8, .int e9, .int e10])), (c1, .inl (cI, 40, .inl F)), (c2, .inl (cI, 40, .inl V)), (c3, .inl (cI, 40, .inl O)), (c4, .inl (cI, 40, .inl Y))] H := hP
  have hD : va_D A [(u, .inr (2, [.int x, .int (nI n), .int (nI w), .ref c1, .ref c2, .ref c3, .ref c4, .int e7, .int e8, .int e9, .int e10])), (c1, .inl (cI, 40, .inl F)), (c2, .inl (cI, 40, .inl V)), (c3, .inl (cI, 40, .inl O)), (c4, .inl (cI, 40, .inl Y))] := hD
  refine lv_iconst (v := nI 0) hx hb dX2_no_5 (by decide) ?_
  exact em_i hx hb hr hlocks hS (⟨rfl, hP⟩) dX2_no_6
theorem k_X2_ok : yX2_ok.cls = RX2 ∧ yX2_ok.cls ≠ "java/lang/invoke/MethodHandle" ∧ yX2_ok.cls ≠ "java/lang/invoke/VarHandle" ∧ (parseMethodDescriptor yX2_ok.desc).map (fun d => d.parameters.length) = some 1 := by decide +kernel
set_option maxHeartbeats 4000000 in
set_option maxRecDepth 100000 in
theorem m_X2_ok (l : Launch) (D : va_G) (cI : ClassId) (u c1 c2 c3 c4 : Nat) {n w : Nat} {F V f g : Nat → Int32} (S : MS n w F V f g) (O Y : Nat → Int32) (e0 e7 e8 e9 e10 : Int32) (x : Int32) (sz : Nat) : Met l yX2_ok wsX2_ok ({ frames := 0, cells := 0, slots := 0, locals := 0 } : Room) (PM D [(cI, .int)] [.ref u, .int x] sz (mdw cI u c1 c2 c3 c4 e0 n w F V O Y e7 e8 e9 e10)) (qm_i (fun rr H1 => rr = x ∧ va_P D vwCl (mdw cI u c1 c2 c3 c4 (nI 0) n w F V O Y e7 e8 e9 e10) H1) (va_A (mdw cI u c1 c2 c3 c4 e0 n w F V O Y e7 e8 e9 e10) sz)) 0 0 (va_A (mdw cI u c1 c2 c3 c4 e0 n w F V O Y e7 e8 e9 e10) sz) := by
  obtain ⟨hn3, hn, hw2, hF, hV, hO⟩ := id S
  refine bd_m (Qc := (fun A => qm_i (fun rr H1 => rr = x ∧ va_P D vwCl (mdw cI u c1 c2 c3 c4 (nI 0) n w F V O Y e7 e8 e9 e10) H1) A)) (cc := cX2_ok) (maxL := 2) (ret := (some .int)) (by decide) rfl (Nat.le_of_ble_eq_true rfl) ?_
  intro p e s m args below meth c ls A CF hr hlocks hK hP hD hA hS hl hin
  obtain ⟨hx, hb, hml, hown, hts⟩ := id CF
  have hl : lv_has ls 2 [(0, .ref u), (1, .int x)] := hl
  have hP : va_P D vwCl [(u, .inr (2, [.int e0, .int (nI n), .int (nI w), .ref c1, .ref c2, .ref c3, .ref c4, .int e7, .int e8, .int e9, .int e10])), (c1, .inl (cI, 40, .inl F)), (c2, .inl (cI, 40, .inl V)), (c3, .inl (cI, 40, .inl O)), (c4, .inl (cI, 40, .inl Y))] s.heap := hP
  have hD : va_D A [(u, .inr (2, [.int e0, .int (nI n), .int (nI w), .ref c1, .ref c2, .ref c3, .ref c4, .int e7, .int e8, .int e9, .int e10])), (c1, .inl (cI, 40, .inl F)), (c2, .inl (cI, 40, .inl V)), (c3, .inl (cI, 40, .inl O)), (c4, .inl (cI, 40, .inl Y))] := hD
  generalize hH0 : s.heap = H at hP
  have hS : va_S A s.heap H [] := by rw [← hH0]; exact va_S.rf
  generalize hlc0 : ([] : List Loc) = locs at hS ⊢
  refine lv_aload_n hx hb dX2_ok_0 rfl (lv_at hl 0 rfl) ?_
  refine lv_iconst (v := nI 0) hx hb dX2_ok_1 (by decide) ?_
  refine va_put (D := D) (ci := 2) (v := .int (nI 0)) (ty := .int) (C := RX2) (T := TX2) (N := 11) hx hb hts (fun _ h => (List.mem_cons_of_mem _ (List.mem_append_right _ h))) tyX2 tyX2_ok nmX2 hown hK hP hD hS 0 rfl rfl 0 (by decide) (hts _ (List.mem_of_getElem? (i := 1) rfl)) (fun _ h9 => h9) rfl (by decide +kernel) rfl rfl (Nat.le_of_ble_eq_true rfl) dX2_ok_2 (fun H locs hP hD hS => ?_)
  have hP : va_P D vwCl [(u, .inr (2, [.int (nI 0), .int (nI n), .int (nI w), .ref c1, .ref c2, .ref c3, .ref c4, .int e7, .int e8, .int e9, .int e10])), (c1, .inl (cI, 40, .inl F)), (c2, .inl (cI, 40, .inl V)), (c3, .inl (cI, 40, .inl O)), (c4, .inl (cI, 40, .inl Y))] H := hP
  have hD : va_D A [(u, .inr (2, [.int (nI 0), .int (nI n), .int (nI w), .ref c1, .ref c2, .ref c3, .ref c4, .int e7, .int e8, .int e9, .int e10])), (c1, .inl (cI, 40, .inl F)), (c2, .inl (cI, 40, .inl V)), (c3, .inl (cI, 40, .inl O)), (c4, .inl (cI, 40, .inl Y))] := hD
  refine lv_iload_n hx hb dX2_ok_5 rfl (lv_at hl 1 rfl) ?_
  exact em_i hx hb hr hlocks hS (⟨rfl, hP⟩) dX2_ok_6
theorem k_X2_clear : yX2_clear.cls = RX2 ∧ yX2_clear.cls ≠ "java/lang/invoke/MethodHandle" ∧ yX2_clear.cls ≠ "java/lang/invoke/VarHandle" ∧ (parseMethodDescriptor yX2_clear.desc).map (fun d => d.parameters.length) = some 2 := by decide +kernel
set_option maxHeartbeats 4000000 in
set_option maxRecDepth 100000 in
theorem m_X2_clear (l : Launch) (D : va_G) (cI : ClassId) (ca : Nat) (M : Nat) (hM : M ≤ 40) (Fx : Nat → Int32) (sz : Nat) : Met l yX2_clear wsX2_clear ({ frames := 0, cells := 0, slots := 0, locals := 0 } : Room) (PM D [(cI, .int)] [.ref ca, .int (nI M)] sz [(ca, .inl (cI, 40, .inl Fx))]) (qm_v (fun H1 => ∃ F2 : Nat → Int32, (∀ k, k < M → F2 k = -1) ∧ (∀ k, M ≤ k → F2 k = Fx k) ∧ va_P D vwCl [(ca, .inl (cI, 40, .inl F2))] H1) (va_A [(ca, .inl (cI, 40, .inl Fx))] sz)) 0 0 (va_A [(ca, .inl (cI, 40, .inl Fx))] sz) := by
  refine bd_m (Qc := (fun A => qm_v (fun H1 => ∃ F2 : Nat → Int32, (∀ k, k < M → F2 k = -1) ∧ (∀ k, M ≤ k → F2 k = Fx k) ∧ va_P D vwCl [(ca, .inl (cI, 40, .inl F2))] H1) A)) (cc := cX2_clear) (maxL := 3) (ret := none) (by decide) rfl (Nat.le_of_ble_eq_true rfl) ?_
  intro p e s m args below meth c ls A CF hr hlocks hK hP hD hA hS hl hin
  obtain ⟨hx, hb, hml, hown, hts⟩ := id CF
  have hl : lv_has ls 3 [(0, .ref ca), (1, .int (nI M))] := hl
  have hP : va_P D vwCl [(ca, .inl (cI, 40, .inl Fx))] s.heap := hP
  have hD : va_D A [(ca, .inl (cI, 40, .inl Fx))] := hD
  generalize hH0 : s.heap = H at hP
  have hS : va_S A s.heap H [] := by rw [← hH0]; exact va_S.rf
  generalize hlc0 : ([] : List Loc) = locs at hS ⊢
  refine lv_iconst (v := nI 0) hx hb dX2_clear_0 (by decide) ?_
  refine lv_istore_n (lv' := [(2, .int (nI 0)), (0, .ref ca), (1, .int (nI M))]) hx hb dX2_clear_1 rfl hl (by decide) rfl (fun ls hl => ?_)
  have LP2 : ∀ (q i : Nat) (F1 : Nat → Int32), i + q = M → (∀ k, k < i → F1 k = -1) → (∀ k, M ≤ k → F1 k = Fx k) → ∀ (H : Heap) (locs : List Loc), va_P D vwCl [(ca, .inl (cI, 40, .inl F1))] H → va_D A [(ca, .inl (cI, 40, .inl F1))] → va_S A s.heap H locs → ∀ (ls : Array Slot), lv_has ls 3 [(2, .int (nI i)), (0, .ref ca), (1, .int (nI M))] → W p l e ({ frames := 0, cells := 0, slots := 0, locals := 0 } : Room) s m args below meth c H locs 0 0 (MQ below (qm_v (fun H1 => ∃ F2 : Nat → Int32, (∀ k, k < M → F2 k = -1) ∧ (∀ k, M ≤ k → F2 k = Fx k) ∧ va_P D vwCl [(ca, .inl (cI, 40, .inl F2))] H1) A) args s 0 0 A) (F0 m 2 ls []) := by
    intro q
    induction q with
    | zero =>
      intro i F1 h1 h2 h3 H locs hP hD hS ls hl
      refine lv_iload_n hx hb dX2_clear_2 rfl (lv_at hl 0 rfl) ?_
      refine lv_iload_n hx hb dX2_clear_3 rfl (lv_at hl 2 rfl) ?_
      refine bn_ge (tgt := 17) hx hb dX2_clear_4 (by decide) (by omega) (by omega) (fun c4 => ?_) (fun c4 => ?_)
      · skip
        exact em_v hx hb hr hlocks hS (⟨F1, fun k hk => h2 k (by omega), h3, hP⟩) dX2_clear_17
      · skip
        omega
    | succ q ih =>
      intro i F1 h1 h2 h3 H locs hP hD hS ls hl
      refine lv_iload_n hx hb dX2_clear_2 rfl (lv_at hl 0 rfl) ?_
      refine lv_iload_n hx hb dX2_clear_3 rfl (lv_at hl 2 rfl) ?_
      refine bn_ge (tgt := 17) hx hb dX2_clear_4 (by decide) (by omega) (by omega) (fun c4 => ?_) (fun c4 => ?_)
      · skip
        omega
      · skip
        refine lv_aload_n hx hb dX2_clear_7 rfl (lv_at hl 1 rfl) ?_
        refine lv_iload_n hx hb dX2_clear_8 rfl (lv_at hl 0 rfl) ?_
        refine lv_iconst (v := (-1)) hx hb dX2_clear_9 (by decide) ?_
        refine as_i hx hb hK hP hD hS 0 0 rfl rfl (k := i) (by omega) (by omega) dX2_clear_10 (fun H locs hP hD hS => ?_)
        have hP : va_P D vwCl [(ca, .inl (cI, 40, .inl (upd F1 i (-1))))] H := hP
        have hD : va_D A [(ca, .inl (cI, 40, .inl (upd F1 i (-1))))] := hD
        refine lv_iinc (v := (nI (i + 1))) (lv' := [(2, .int (nI (i + 1))), (0, .ref ca), (1, .int (nI M))]) hx hb dX2_clear_11 hl (k := 0) rfl (inc1 _) (by decide) rfl (fun ls hl => ?_)
        refine lv_goto (tgt := 2) hx hb dX2_clear_14 (by decide) ?_
        exact ih (i + 1) (upd F1 i (-1)) (by omega) (up_all h2) (fun k hk => by rw [upd_ne (by omega)]; exact h3 k hk) _ _ hP hD hS _ (lv_sub hl [0, 1, 2] rfl)
  exact LP2 M 0 Fx (Nat.zero_add M) (fun k hk => absurd hk (Nat.not_lt_zero k)) (fun k hk => rfl) _ _ hP hD hS _ (lv_sub hl [0, 1, 2] rfl)
theorem k_X2_look : yX2_look.cls = RX2 ∧ yX2_look.cls ≠ "java/lang/invoke/MethodHandle" ∧ yX2_look.cls ≠ "java/lang/invoke/VarHandle" ∧ (parseMethodDescriptor yX2_look.desc).map (fun d => d.parameters.length) = some 4 := by decide +kernel
set_option maxHeartbeats 4000000 in
set_option maxRecDepth 100000 in
theorem m_X2_look (l : Launch) (D : va_G) (cI : ClassId) (u ca c1 c2 c3 c4 N w1 x : Nat) (hN3 : 3 ≤ N) (hN40 : N ≤ 40) (hw1 : w1 ≤ 2) (hx9 : x ≤ 9999) {Fx T : Nat → Int32} (hT : ∀ k, k < N → Fx k = T k) (e0 en ew e7 e8 e9 e10 : Int32) (sz : Nat) : Met l yX2_look wsX2_look ({ frames := 0, cells := 0, slots := 0, locals := 0 } : Room) (PM D [(cI, .int)] [.ref u, .ref ca, .int (nI N), .int (nI w1), .int (nI x)] sz [(u, .inr (2, [.int e0, .int en, .int ew, .ref c1, .ref c2, .ref c3, .ref c4, .int e7, .int e8, .int e9, .int e10])), (ca, .inl (cI, 40, .inl Fx))]) (qm_v (fun H1 => ∃ d7 d8 d9 d10 : Int32, d7 = nI (lk N w1 T x) ∧ d8 = fd N w1 T x ∧ d9 = fr N w1 T x ∧ d10 = tk N w1 T x (lk N w1 T x) ∧ va_P D vwCl [(u, .inr (2, [.int e0, .int en, .int ew, .ref c1, .ref c2, .ref c3, .ref c4, .int d7, .int d8, .int d9, .int d10])), (ca, .inl (cI, 40, .inl Fx))] H1) (va_A [(u, .inr (2, [.int e0, .int en, .int ew, .ref c1, .ref c2, .ref c3, .ref c4, .int e7, .int e8, .int e9, .int e10])), (ca, .inl (cI, 40, .inl Fx))] sz)) 0 0 (va_A [(u, .inr (2, [.int e0, .int en, .int ew, .ref c1, .ref c2, .ref c3, .ref c4, .int e7, .int e8, .int e9, .int e10])), (ca, .inl (cI, 40, .inl Fx))] sz) := by
  refine bd_m (Qc := (fun A => qm_v (fun H1 => ∃ d7 d8 d9 d10 : Int32, d7 = nI (lk N w1 T x) ∧ d8 = fd N w1 T x ∧ d9 = fr N w1 T x ∧ d10 = tk N w1 T x (lk N w1 T x) ∧ va_P D vwCl [(u, .inr (2, [.int e0, .int en, .int ew, .ref c1, .ref c2, .ref c3, .ref c4, .int d7, .int d8, .int d9, .int d10])), (ca, .inl (cI, 40, .inl Fx))] H1) A)) (cc := cX2_look) (maxL := 7) (ret := none) (by decide) rfl (Nat.le_of_ble_eq_true rfl) ?_
  intro p e s m args below meth c ls A CF hr hlocks hK hP hD hA hS hl hin
  obtain ⟨hx, hb, hml, hown, hts⟩ := id CF
  have hl : lv_has ls 7 [(0, .ref u), (1, .ref ca), (2, .int (nI N)), (3, .int (nI w1)), (4, .int (nI x))] := hl
  have hP : va_P D vwCl [(u, .inr (2, [.int e0, .int en, .int ew, .ref c1, .ref c2, .ref c3, .ref c4, .int e7, .int e8, .int e9, .int e10])), (ca, .inl (cI, 40, .inl Fx))] s.heap := hP
  have hD : va_D A [(u, .inr (2, [.int e0, .int en, .int ew, .ref c1, .ref c2, .ref c3, .ref c4, .int e7, .int e8, .int e9, .int e10])), (ca, .inl (cI, 40, .inl Fx))] := hD
  generalize hH0 : s.heap = H at hP
  have hS : va_S A s.heap H [] := by rw [← hH0]; exact va_S.rf
  generalize hlc0 : ([] : List Loc) = locs at hS ⊢
  refine lv_aload_n hx hb dX2_look_0 rfl (lv_at hl 0 rfl) ?_
  refine lv_iconst (v := nI 0) hx hb dX2_look_1 (by decide) ?_
  refine va_put (D := D) (ci := 2) (v := .int (nI 0)) (ty := .int) (C := RX2) (T := TX2) (N := 11) hx hb hts (fun _ h => (List.mem_cons_of_mem _ (List.mem_append_right _ h))) tyX2 tyX2_ok nmX2 hown hK hP hD hS 0 rfl rfl 7 (by decide) (hts _ (List.mem_of_getElem? (i := 1) rfl)) (fun _ h9 => h9) rfl (by decide +kernel) rfl rfl (Nat.le_of_ble_eq_true rfl) dX2_look_2 (fun H locs hP hD hS => ?_)
  have hP : va_P D vwCl [(u, .inr (2, [.int e0, .int en, .int ew, .ref c1, .ref c2, .ref c3, .ref c4, .int (nI 0), .int e8, .int e9, .int e10])), (ca, .inl (cI, 40, .inl Fx))] H := hP
  have hD : va_D A [(u, .inr (2, [.int e0, .int en, .int ew, .ref c1, .ref c2, .ref c3, .ref c4, .int (nI 0), .int e8, .int e9, .int e10])), (ca, .inl (cI, 40, .inl Fx))] := hD
  refine lv_aload_n hx hb dX2_look_5 rfl (lv_at hl 0 rfl) ?_
  refine lv_iconst (v := (-1)) hx hb dX2_look_6 (by decide) ?_
  refine va_put (D := D) (ci := 2) (v := .int (-1)) (ty := .int) (C := RX2) (T := TX2) (N := 11) hx hb hts (fun _ h => (List.mem_cons_of_mem _ (List.mem_append_right _ h))) tyX2 tyX2_ok nmX2 hown hK hP hD hS 0 rfl rfl 8 (by decide) (hts _ (List.mem_of_getElem? (i := 2) rfl)) (fun _ h9 => h9) rfl (by decide +kernel) rfl rfl (Nat.le_of_ble_eq_true rfl) dX2_look_7 (fun H locs hP hD hS => ?_)
  have hP : va_P D vwCl [(u, .inr (2, [.int e0, .int en, .int ew, .ref c1, .ref c2, .ref c3, .ref c4, .int (nI 0), .int (-1), .int e9, .int e10])), (ca, .inl (cI, 40, .inl Fx))] H := hP
  have hD : va_D A [(u, .inr (2, [.int e0, .int en, .int ew, .ref c1, .ref c2, .ref c3, .ref c4, .int (nI 0), .int (-1), .int e9, .int e10])), (ca, .inl (cI, 40, .inl Fx))] := hD
  refine lv_aload_n hx hb dX2_look_10 rfl (lv_at hl 0 rfl) ?_
  refine lv_iconst (v := (-1)) hx hb dX2_look_11 (by decide) ?_
  refine va_put (D := D) (ci := 2) (v := .int (-1)) (ty := .int) (C := RX2) (T := TX2) (N := 11) hx hb hts (fun _ h => (List.mem_cons_of_mem _ (List.mem_append_right _ h))) tyX2 tyX2_ok nmX2 hown hK hP hD hS 0 rfl rfl 9 (by decide) (hts _ (List.mem_of_getElem? (i := 3) rfl)) (fun _ h9 => h9) rfl (by decide +kernel) rfl rfl (Nat.le_of_ble_eq_true rfl) dX2_look_12 (fun H locs hP hD hS => ?_)
  have hP : va_P D vwCl [(u, .inr (2, [.int e0, .int en, .int ew, .ref c1, .ref c2, .ref c3, .ref c4, .int (nI 0), .int (-1), .int (-1), .int e10])), (ca, .inl (cI, 40, .inl Fx))] H := hP
  have hD : va_D A [(u, .inr (2, [.int e0, .int en, .int ew, .ref c1, .ref c2, .ref c3, .ref c4, .int (nI 0), .int (-1), .int (-1), .int e10])), (ca, .inl (cI, 40, .inl Fx))] := hD
  refine lv_aload_n hx hb dX2_look_15 rfl (lv_at hl 0 rfl) ?_
  refine lv_iconst (v := (-1)) hx hb dX2_look_16 (by decide) ?_
  refine va_put (D := D) (ci := 2) (v := .int (-1)) (ty := .int) (C := RX2) (T := TX2) (N := 11) hx hb hts (fun _ h => (List.mem_cons_of_mem _ (List.mem_append_right _ h))) tyX2 tyX2_ok nmX2 hown hK hP hD hS 0 rfl rfl 10 (by decide) (hts _ (List.mem_of_getElem? (i := 4) rfl)) (fun _ h9 => h9) rfl (by decide +kernel) rfl rfl (Nat.le_of_ble_eq_true rfl) dX2_look_17 (fun H locs hP hD hS => ?_)
  have hP : va_P D vwCl [(u, .inr (2, [.int e0, .int en, .int ew, .ref c1, .ref c2, .ref c3, .ref c4, .int (nI 0), .int (-1), .int (-1), .int (-1)])), (ca, .inl (cI, 40, .inl Fx))] H := hP
  have hD : va_D A [(u, .inr (2, [.int e0, .int en, .int ew, .ref c1, .ref c2, .ref c3, .ref c4, .int (nI 0), .int (-1), .int (-1), .int (-1)])), (ca, .inl (cI, 40, .inl Fx))] := hD
  refine lv_iload hx hb dX2_look_20 (lv_at hl 4 rfl) ?_
  refine lv_iload_n hx hb dX2_look_22 rfl (lv_at hl 2 rfl) ?_
  refine an_rem hx hb (by omega) (by omega) (by omega) dX2_look_23 ?_
  refine tp_i (y := (nI (at_ N w1 x 0))) (congrArg nI at_0) ?_
  refine lv_istore (lv' := [(5, .int (nI (at_ N w1 x 0))), (0, .ref u), (1, .ref ca), (2, .int (nI N)), (3, .int (nI w1)), (4, .int (nI x))]) hx hb dX2_look_24 hl (by decide) rfl (fun ls hl => ?_)
  refine lv_iconst (v := nI 1) hx hb dX2_look_26 (by decide) ?_
  refine lv_iload hx hb dX2_look_27 (lv_at hl 5 rfl) ?_
  refine lv_iload_n hx hb dX2_look_29 rfl (lv_at hl 3 rfl) ?_
  refine an_div hx hb (by omega) (by omega) (by omega) dX2_look_30 ?_
  refine lv_iload_n hx hb dX2_look_31 rfl (lv_at hl 3 rfl) ?_
  refine lv_iconst (v := nI 1) hx hb dX2_look_32 (by decide) ?_
  refine an_sub hx hb (by omega) dX2_look_33 ?_
  refine an_rem hx hb (div_small hx9) (by omega) (by omega) dX2_look_34 ?_
  refine an_add hx hb dX2_look_35 ?_
  refine lv_istore (lv' := [(6, .int (nI (1 + ((x / N) % (N - 1))))), (5, .int (nI (at_ N w1 x 0))), (0, .ref u), (1, .ref ca), (2, .int (nI N)), (3, .int (nI w1)), (4, .int (nI x))]) hx hb dX2_look_36 hl (by decide) rfl (fun ls hl => ?_)
  have LP38 : ∀ (q k : Nat), k + q = N → (∀ j, j < k → sp N w1 T x j = false) → ∀ (H : Heap) (locs : List Loc), va_P D vwCl [(u, .inr (2, [.int e0, .int en, .int ew, .ref c1, .ref c2, .ref c3, .ref c4, .int (nI k), .int (-1), .int (-1), .int (tk N w1 T x k)])), (ca, .inl (cI, 40, .inl Fx))] H → va_D A [(u, .inr (2, [.int e0, .int en, .int ew, .ref c1, .ref c2, .ref c3, .ref c4, .int (nI k), .int (-1), .int (-1), .int (tk N w1 T x k)])), (ca, .inl (cI, 40, .inl Fx))] → va_S A s.heap H locs → ∀ (ls : Array Slot), lv_has ls 7 [(6, .int (nI (1 + ((x / N) % (N - 1))))), (5, .int (nI (at_ N w1 x k))), (0, .ref u), (1, .ref ca), (2, .int (nI N)), (3, .int (nI w1)), (4, .int (nI x))] → W p l e ({ frames := 0, cells := 0, slots := 0, locals := 0 } : Room) s m args below meth c H locs 0 0 (MQ below (qm_v (fun H1 => ∃ d7 d8 d9 d10 : Int32, d7 = nI (lk N w1 T x) ∧ d8 = fd N w1 T x ∧ d9 = fr N w1 T x ∧ d10 = tk N w1 T x (lk N w1 T x) ∧ va_P D vwCl [(u, .inr (2, [.int e0, .int en, .int ew, .ref c1, .ref c2, .ref c3, .ref c4, .int d7, .int d8, .int d9, .int d10])), (ca, .inl (cI, 40, .inl Fx))] H1) A) args s 0 0 A) (F0 m 38 ls []) := by
    intro q
    induction q with
    | zero =>
      intro k h1 hns H locs hP hD hS ls hl
      refine lv_aload_n hx hb dX2_look_38 rfl (lv_at hl 2 rfl) ?_
      refine va_get (D := D) (ci := 2) (v := .int (nI k)) (C := RX2) (T := TX2) (N := 11) hx hb hts (fun _ h => (List.mem_cons_of_mem _ (List.mem_append_right _ h))) hown hK hP 0 rfl rfl 7 (by decide) (hts _ (List.mem_of_getElem? (i := 1) rfl)) (fun _ h9 => h9) rfl dX2_look_39 ?_
      refine lv_iload_n hx hb dX2_look_42 rfl (lv_at hl 4 rfl) ?_
      refine bn_ge (tgt := 162) hx hb dX2_look_43 (by decide) (by omega) (by omega) (fun c43 => ?_) (fun c43 => ?_)
      · skip
        have hk : k = N := by omega
        subst hk
        exact em_v hx hb hr hlocks hS (⟨_, _, _, _, congrArg nI (lk_all hns).symm, (if_neg (la_all (by omega) hns).1).symm, (if_neg (la_all (by omega) hns).2).symm, by rw [lk_all hns], hP⟩) dX2_look_162
      · skip
        omega
    | succ q ih =>
      intro k h1 hns H locs hP hD hS ls hl
      refine lv_aload_n hx hb dX2_look_38 rfl (lv_at hl 2 rfl) ?_
      refine va_get (D := D) (ci := 2) (v := .int (nI k)) (C := RX2) (T := TX2) (N := 11) hx hb hts (fun _ h => (List.mem_cons_of_mem _ (List.mem_append_right _ h))) hown hK hP 0 rfl rfl 7 (by decide) (hts _ (List.mem_of_getElem? (i := 1) rfl)) (fun _ h9 => h9) rfl dX2_look_39 ?_
      refine lv_iload_n hx hb dX2_look_42 rfl (lv_at hl 4 rfl) ?_
      refine bn_ge (tgt := 162) hx hb dX2_look_43 (by decide) (by omega) (by omega) (fun c43 => ?_) (fun c43 => ?_)
      · skip
        omega
      · skip
        refine lv_aload_n hx hb dX2_look_46 rfl (lv_at hl 2 rfl) ?_
        refine va_get (D := D) (ci := 2) (v := .int (-1)) (C := RX2) (T := TX2) (N := 11) hx hb hts (fun _ h => (List.mem_cons_of_mem _ (List.mem_append_right _ h))) hown hK hP 0 rfl rfl 8 (by decide) (hts _ (List.mem_of_getElem? (i := 2) rfl)) (fun _ h9 => h9) rfl dX2_look_47 ?_
        refine lv_iconst (v := (-1)) hx hb dX2_look_50 (by decide) ?_
        refine lv_icmp_ne (tgt := 162) hx hb dX2_look_51 (by decide) (fun c51 => ?_) (fun c51 => ?_)
        · skip
          exact absurd rfl c51
        · skip
          refine lv_aload_n hx hb dX2_look_54 rfl (lv_at hl 2 rfl) ?_
          refine va_get (D := D) (ci := 2) (v := .int (-1)) (C := RX2) (T := TX2) (N := 11) hx hb hts (fun _ h => (List.mem_cons_of_mem _ (List.mem_append_right _ h))) hown hK hP 0 rfl rfl 9 (by decide) (hts _ (List.mem_of_getElem? (i := 3) rfl)) (fun _ h9 => h9) rfl dX2_look_55 ?_
          refine lv_iconst (v := (-1)) hx hb dX2_look_58 (by decide) ?_
          refine lv_icmp_ne (tgt := 162) hx hb dX2_look_59 (by decide) (fun c59 => ?_) (fun c59 => ?_)
          · skip
            exact absurd rfl c59
          · skip
            have c43h : k < N := by omega
            refine lv_aload_n hx hb dX2_look_62 rfl (lv_at hl 3 rfl) ?_
            refine lv_iload hx hb dX2_look_63 (lv_at hl 1 rfl) ?_
            refine al_i hx hb hK hP 1 0 rfl rfl (Nat.lt_of_lt_of_le (at_lt (by omega) w1 x k) hN40) (by omega) dX2_look_65 ?_
            refine tp_i (y := (T (at_ N w1 x k))) (hT _ (at_lt (by omega) w1 x k)) ?_
            refine lv_iload hx hb dX2_look_66 (lv_at hl 6 rfl) ?_
            refine lv_icmp_ne (tgt := 80) hx hb dX2_look_68 (by decide) (fun c68 => ?_) (fun c68 => ?_)
            · skip
              refine lv_aload_n hx hb dX2_look_80 rfl (lv_at hl 3 rfl) ?_
              refine lv_iload hx hb dX2_look_81 (lv_at hl 1 rfl) ?_
              refine al_i hx hb hK hP 1 0 rfl rfl (Nat.lt_of_lt_of_le (at_lt (by omega) w1 x k) hN40) (by omega) dX2_look_83 ?_
              refine tp_i (y := (T (at_ N w1 x k))) (hT _ (at_lt (by omega) w1 x k)) ?_
              refine lv_iconst (v := (-1)) hx hb dX2_look_84 (by decide) ?_
              refine lv_icmp_ne (tgt := 97) hx hb dX2_look_85 (by decide) (fun c85 => ?_) (fun c85 => ?_)
              · skip
                refine lv_aload_n hx hb dX2_look_97 rfl (lv_at hl 3 rfl) ?_
                refine lv_iload hx hb dX2_look_98 (lv_at hl 1 rfl) ?_
                refine al_i hx hb hK hP 1 0 rfl rfl (Nat.lt_of_lt_of_le (at_lt (by omega) w1 x k) hN40) (by omega) dX2_look_100 ?_
                refine tp_i (y := (T (at_ N w1 x k))) (hT _ (at_lt (by omega) w1 x k)) ?_
                refine lv_bipush (v := (-2)) hx hb dX2_look_101 (by decide) ?_
                refine lv_icmp_ne (tgt := 120) hx hb dX2_look_103 (by decide) (fun c103 => ?_) (fun c103 => ?_)
                · skip
                  refine lv_aload_n hx hb dX2_look_120 rfl (lv_at hl 2 rfl) ?_
                  refine lv_dup hx hb dX2_look_121 rfl ?_
                  refine va_get (D := D) (ci := 2) (v := .int (nI k)) (C := RX2) (T := TX2) (N := 11) hx hb hts (fun _ h => (List.mem_cons_of_mem _ (List.mem_append_right _ h))) hown hK hP 0 rfl rfl 7 (by decide) (hts _ (List.mem_of_getElem? (i := 1) rfl)) (fun _ h9 => h9) rfl dX2_look_122 ?_
                  refine lv_iconst (v := nI 1) hx hb dX2_look_125 (by decide) ?_
                  refine an_add hx hb dX2_look_126 ?_
                  refine va_put (D := D) (ci := 2) (v := .int (nI (k + 1))) (ty := .int) (C := RX2) (T := TX2) (N := 11) hx hb hts (fun _ h => (List.mem_cons_of_mem _ (List.mem_append_right _ h))) tyX2 tyX2_ok nmX2 hown hK hP hD hS 0 rfl rfl 7 (by decide) (hts _ (List.mem_of_getElem? (i := 1) rfl)) (fun _ h9 => h9) rfl (by decide +kernel) rfl rfl (Nat.le_of_ble_eq_true rfl) dX2_look_127 (fun H locs hP hD hS => ?_)
                  have hP : va_P D vwCl [(u, .inr (2, [.int e0, .int en, .int ew, .ref c1, .ref c2, .ref c3, .ref c4, .int (nI (k + 1)), .int (-1), .int (-1), .int (tk N w1 T x k)])), (ca, .inl (cI, 40, .inl Fx))] H := hP
                  have hD : va_D A [(u, .inr (2, [.int e0, .int en, .int ew, .ref c1, .ref c2, .ref c3, .ref c4, .int (nI (k + 1)), .int (-1), .int (-1), .int (tk N w1 T x k)])), (ca, .inl (cI, 40, .inl Fx))] := hD
                  refine lv_iload hx hb dX2_look_130 (lv_at hl 1 rfl) ?_
                  refine lv_iload_n hx hb dX2_look_132 rfl (lv_at hl 5 rfl) ?_
                  refine bz_ne (tgt := 140) hx hb dX2_look_133 (by decide) (by omega) (fun c133 => ?_) (fun c133 => ?_)
                  · skip
                    refine lv_iload_n hx hb dX2_look_140 rfl (lv_at hl 5 rfl) ?_
                    refine lv_iconst (v := nI 1) hx hb dX2_look_141 (by decide) ?_
                    refine bn_ne (tgt := 152) hx hb dX2_look_142 (by decide) (by omega) (by omega) (fun c142 => ?_) (fun c142 => ?_)
                    · skip
                      refine lv_iload hx hb dX2_look_152 (lv_at hl 0 rfl) ?_
                      refine tp_i (y := nI (inc_ N w1 x k)) (congrArg nI (inc_s c133 c142)) ?_
                      refine an_add hx hb dX2_look_154 ?_
                      refine lv_iload_n hx hb dX2_look_155 rfl (lv_at hl 4 rfl) ?_
                      refine an_rem hx hb (at_small hx9 (show 3 ≤ N by omega) hN40 hw1 (by omega)) (by omega) (by omega) dX2_look_156 ?_
                      refine tp_i (y := (nI (at_ N w1 x (k + 1)))) (congrArg nI (at_step hw1)) ?_
                      refine lv_istore (lv' := [(5, .int (nI (at_ N w1 x (k + 1)))), (6, .int (nI (1 + ((x / N) % (N - 1))))), (0, .ref u), (1, .ref ca), (2, .int (nI N)), (3, .int (nI w1)), (4, .int (nI x))]) hx hb dX2_look_157 hl (by decide) rfl (fun ls hl => ?_)
                      refine lv_goto (tgt := 38) hx hb dX2_look_159 (by decide) ?_
                      have et : tk N w1 T x k = tk N w1 T x (k + 1) := (tk_stop c103).symm
                      rw [et] at hP hD
                      exact ih (k + 1) (by omega) (ns_s hns c68 c85) _ _ hP hD hS _ (lv_sub hl [1, 0, 2, 3, 4, 5, 6] rfl)
                    · skip
                      refine lv_aload_n hx hb dX2_look_145 rfl (lv_at hl 2 rfl) ?_
                      refine va_get (D := D) (ci := 2) (v := .int (nI (k + 1))) (C := RX2) (T := TX2) (N := 11) hx hb hts (fun _ h => (List.mem_cons_of_mem _ (List.mem_append_right _ h))) hown hK hP 0 rfl rfl 7 (by decide) (hts _ (List.mem_of_getElem? (i := 1) rfl)) (fun _ h9 => h9) rfl dX2_look_146 ?_
                      refine lv_goto (tgt := 154) hx hb dX2_look_149 (by decide) ?_
                      refine tp_i (y := nI (inc_ N w1 x k)) (congrArg nI (inc_1 c142)) ?_
                      refine an_add hx hb dX2_look_154 ?_
                      refine lv_iload_n hx hb dX2_look_155 rfl (lv_at hl 4 rfl) ?_
                      refine an_rem hx hb (at_small hx9 (show 3 ≤ N by omega) hN40 hw1 (by omega)) (by omega) (by omega) dX2_look_156 ?_
                      refine tp_i (y := (nI (at_ N w1 x (k + 1)))) (congrArg nI (at_step hw1)) ?_
                      refine lv_istore (lv' := [(5, .int (nI (at_ N w1 x (k + 1)))), (6, .int (nI (1 + ((x / N) % (N - 1))))), (0, .ref u), (1, .ref ca), (2, .int (nI N)), (3, .int (nI w1)), (4, .int (nI x))]) hx hb dX2_look_157 hl (by decide) rfl (fun ls hl => ?_)
                      refine lv_goto (tgt := 38) hx hb dX2_look_159 (by decide) ?_
                      have et : tk N w1 T x k = tk N w1 T x (k + 1) := (tk_stop c103).symm
                      rw [et] at hP hD
                      exact ih (k + 1) (by omega) (ns_s hns c68 c85) _ _ hP hD hS _ (lv_sub hl [1, 0, 2, 3, 4, 5, 6] rfl)
                  · skip
                    refine lv_iconst (v := nI 1) hx hb dX2_look_136 (by decide) ?_
                    refine lv_goto (tgt := 154) hx hb dX2_look_137 (by decide) ?_
                    refine tp_i (y := nI (inc_ N w1 x k)) (congrArg nI (inc_0 c133)) ?_
                    refine an_add hx hb dX2_look_154 ?_
                    refine lv_iload_n hx hb dX2_look_155 rfl (lv_at hl 4 rfl) ?_
                    refine an_rem hx hb (at_small hx9 (show 3 ≤ N by omega) hN40 hw1 (by omega)) (by omega) (by omega) dX2_look_156 ?_
                    refine tp_i (y := (nI (at_ N w1 x (k + 1)))) (congrArg nI (at_step hw1)) ?_
                    refine lv_istore (lv' := [(5, .int (nI (at_ N w1 x (k + 1)))), (6, .int (nI (1 + ((x / N) % (N - 1))))), (0, .ref u), (1, .ref ca), (2, .int (nI N)), (3, .int (nI w1)), (4, .int (nI x))]) hx hb dX2_look_157 hl (by decide) rfl (fun ls hl => ?_)
                    refine lv_goto (tgt := 38) hx hb dX2_look_159 (by decide) ?_
                    have et : tk N w1 T x k = tk N w1 T x (k + 1) := (tk_stop c103).symm
                    rw [et] at hP hD
                    exact ih (k + 1) (by omega) (ns_s hns c68 c85) _ _ hP hD hS _ (lv_sub hl [1, 0, 2, 3, 4, 5, 6] rfl)
                · skip
                  refine lv_aload_n hx hb dX2_look_106 rfl (lv_at hl 2 rfl) ?_
                  refine va_get (D := D) (ci := 2) (v := .int (tk N w1 T x k)) (C := RX2) (T := TX2) (N := 11) hx hb hts (fun _ h => (List.mem_cons_of_mem _ (List.mem_append_right _ h))) hown hK hP 0 rfl rfl 10 (by decide) (hts _ (List.mem_of_getElem? (i := 4) rfl)) (fun _ h9 => h9) rfl dX2_look_107 ?_
                  refine lv_iconst (v := (-1)) hx hb dX2_look_110 (by decide) ?_
                  refine lv_icmp_ne (tgt := 120) hx hb dX2_look_111 (by decide) (fun c111 => ?_) (fun c111 => ?_)
                  · skip
                    refine lv_aload_n hx hb dX2_look_120 rfl (lv_at hl 2 rfl) ?_
                    refine lv_dup hx hb dX2_look_121 rfl ?_
                    refine va_get (D := D) (ci := 2) (v := .int (nI k)) (C := RX2) (T := TX2) (N := 11) hx hb hts (fun _ h => (List.mem_cons_of_mem _ (List.mem_append_right _ h))) hown hK hP 0 rfl rfl 7 (by decide) (hts _ (List.mem_of_getElem? (i := 1) rfl)) (fun _ h9 => h9) rfl dX2_look_122 ?_
                    refine lv_iconst (v := nI 1) hx hb dX2_look_125 (by decide) ?_
                    refine an_add hx hb dX2_look_126 ?_
                    refine va_put (D := D) (ci := 2) (v := .int (nI (k + 1))) (ty := .int) (C := RX2) (T := TX2) (N := 11) hx hb hts (fun _ h => (List.mem_cons_of_mem _ (List.mem_append_right _ h))) tyX2 tyX2_ok nmX2 hown hK hP hD hS 0 rfl rfl 7 (by decide) (hts _ (List.mem_of_getElem? (i := 1) rfl)) (fun _ h9 => h9) rfl (by decide +kernel) rfl rfl (Nat.le_of_ble_eq_true rfl) dX2_look_127 (fun H locs hP hD hS => ?_)
                    have hP : va_P D vwCl [(u, .inr (2, [.int e0, .int en, .int ew, .ref c1, .ref c2, .ref c3, .ref c4, .int (nI (k + 1)), .int (-1), .int (-1), .int (tk N w1 T x k)])), (ca, .inl (cI, 40, .inl Fx))] H := hP
                    have hD : va_D A [(u, .inr (2, [.int e0, .int en, .int ew, .ref c1, .ref c2, .ref c3, .ref c4, .int (nI (k + 1)), .int (-1), .int (-1), .int (tk N w1 T x k)])), (ca, .inl (cI, 40, .inl Fx))] := hD
                    refine lv_iload hx hb dX2_look_130 (lv_at hl 1 rfl) ?_
                    refine lv_iload_n hx hb dX2_look_132 rfl (lv_at hl 5 rfl) ?_
                    refine bz_ne (tgt := 140) hx hb dX2_look_133 (by decide) (by omega) (fun c133 => ?_) (fun c133 => ?_)
                    · skip
                      refine lv_iload_n hx hb dX2_look_140 rfl (lv_at hl 5 rfl) ?_
                      refine lv_iconst (v := nI 1) hx hb dX2_look_141 (by decide) ?_
                      refine bn_ne (tgt := 152) hx hb dX2_look_142 (by decide) (by omega) (by omega) (fun c142 => ?_) (fun c142 => ?_)
                      · skip
                        refine lv_iload hx hb dX2_look_152 (lv_at hl 0 rfl) ?_
                        refine tp_i (y := nI (inc_ N w1 x k)) (congrArg nI (inc_s c133 c142)) ?_
                        refine an_add hx hb dX2_look_154 ?_
                        refine lv_iload_n hx hb dX2_look_155 rfl (lv_at hl 4 rfl) ?_
                        refine an_rem hx hb (at_small hx9 (show 3 ≤ N by omega) hN40 hw1 (by omega)) (by omega) (by omega) dX2_look_156 ?_
                        refine tp_i (y := (nI (at_ N w1 x (k + 1)))) (congrArg nI (at_step hw1)) ?_
                        refine lv_istore (lv' := [(5, .int (nI (at_ N w1 x (k + 1)))), (6, .int (nI (1 + ((x / N) % (N - 1))))), (0, .ref u), (1, .ref ca), (2, .int (nI N)), (3, .int (nI w1)), (4, .int (nI x))]) hx hb dX2_look_157 hl (by decide) rfl (fun ls hl => ?_)
                        refine lv_goto (tgt := 38) hx hb dX2_look_159 (by decide) ?_
                        have et : tk N w1 T x k = tk N w1 T x (k + 1) := (tk_more c111).symm
                        rw [et] at hP hD
                        exact ih (k + 1) (by omega) (ns_s hns c68 c85) _ _ hP hD hS _ (lv_sub hl [1, 0, 2, 3, 4, 5, 6] rfl)
                      · skip
                        refine lv_aload_n hx hb dX2_look_145 rfl (lv_at hl 2 rfl) ?_
                        refine va_get (D := D) (ci := 2) (v := .int (nI (k + 1))) (C := RX2) (T := TX2) (N := 11) hx hb hts (fun _ h => (List.mem_cons_of_mem _ (List.mem_append_right _ h))) hown hK hP 0 rfl rfl 7 (by decide) (hts _ (List.mem_of_getElem? (i := 1) rfl)) (fun _ h9 => h9) rfl dX2_look_146 ?_
                        refine lv_goto (tgt := 154) hx hb dX2_look_149 (by decide) ?_
                        refine tp_i (y := nI (inc_ N w1 x k)) (congrArg nI (inc_1 c142)) ?_
                        refine an_add hx hb dX2_look_154 ?_
                        refine lv_iload_n hx hb dX2_look_155 rfl (lv_at hl 4 rfl) ?_
                        refine an_rem hx hb (at_small hx9 (show 3 ≤ N by omega) hN40 hw1 (by omega)) (by omega) (by omega) dX2_look_156 ?_
                        refine tp_i (y := (nI (at_ N w1 x (k + 1)))) (congrArg nI (at_step hw1)) ?_
                        refine lv_istore (lv' := [(5, .int (nI (at_ N w1 x (k + 1)))), (6, .int (nI (1 + ((x / N) % (N - 1))))), (0, .ref u), (1, .ref ca), (2, .int (nI N)), (3, .int (nI w1)), (4, .int (nI x))]) hx hb dX2_look_157 hl (by decide) rfl (fun ls hl => ?_)
                        refine lv_goto (tgt := 38) hx hb dX2_look_159 (by decide) ?_
                        have et : tk N w1 T x k = tk N w1 T x (k + 1) := (tk_more c111).symm
                        rw [et] at hP hD
                        exact ih (k + 1) (by omega) (ns_s hns c68 c85) _ _ hP hD hS _ (lv_sub hl [1, 0, 2, 3, 4, 5, 6] rfl)
                    · skip
                      refine lv_iconst (v := nI 1) hx hb dX2_look_136 (by decide) ?_
                      refine lv_goto (tgt := 154) hx hb dX2_look_137 (by decide) ?_
                      refine tp_i (y := nI (inc_ N w1 x k)) (congrArg nI (inc_0 c133)) ?_
                      refine an_add hx hb dX2_look_154 ?_
                      refine lv_iload_n hx hb dX2_look_155 rfl (lv_at hl 4 rfl) ?_
                      refine an_rem hx hb (at_small hx9 (show 3 ≤ N by omega) hN40 hw1 (by omega)) (by omega) (by omega) dX2_look_156 ?_
                      refine tp_i (y := (nI (at_ N w1 x (k + 1)))) (congrArg nI (at_step hw1)) ?_
                      refine lv_istore (lv' := [(5, .int (nI (at_ N w1 x (k + 1)))), (6, .int (nI (1 + ((x / N) % (N - 1))))), (0, .ref u), (1, .ref ca), (2, .int (nI N)), (3, .int (nI w1)), (4, .int (nI x))]) hx hb dX2_look_157 hl (by decide) rfl (fun ls hl => ?_)
                      refine lv_goto (tgt := 38) hx hb dX2_look_159 (by decide) ?_
                      have et : tk N w1 T x k = tk N w1 T x (k + 1) := (tk_more c111).symm
                      rw [et] at hP hD
                      exact ih (k + 1) (by omega) (ns_s hns c68 c85) _ _ hP hD hS _ (lv_sub hl [1, 0, 2, 3, 4, 5, 6] rfl)
                  · skip
                    refine lv_aload_n hx hb dX2_look_114 rfl (lv_at hl 2 rfl) ?_
                    refine lv_iload hx hb dX2_look_115 (lv_at hl 1 rfl) ?_
                    refine va_put (D := D) (ci := 2) (v := .int (nI (at_ N w1 x k))) (ty := .int) (C := RX2) (T := TX2) (N := 11) hx hb hts (fun _ h => (List.mem_cons_of_mem _ (List.mem_append_right _ h))) tyX2 tyX2_ok nmX2 hown hK hP hD hS 0 rfl rfl 10 (by decide) (hts _ (List.mem_of_getElem? (i := 4) rfl)) (fun _ h9 => h9) rfl (by decide +kernel) rfl rfl (Nat.le_of_ble_eq_true rfl) dX2_look_117 (fun H locs hP hD hS => ?_)
                    have hP : va_P D vwCl [(u, .inr (2, [.int e0, .int en, .int ew, .ref c1, .ref c2, .ref c3, .ref c4, .int (nI k), .int (-1), .int (-1), .int (nI (at_ N w1 x k))])), (ca, .inl (cI, 40, .inl Fx))] H := hP
                    have hD : va_D A [(u, .inr (2, [.int e0, .int en, .int ew, .ref c1, .ref c2, .ref c3, .ref c4, .int (nI k), .int (-1), .int (-1), .int (nI (at_ N w1 x k))])), (ca, .inl (cI, 40, .inl Fx))] := hD
                    refine lv_aload_n hx hb dX2_look_120 rfl (lv_at hl 2 rfl) ?_
                    refine lv_dup hx hb dX2_look_121 rfl ?_
                    refine va_get (D := D) (ci := 2) (v := .int (nI k)) (C := RX2) (T := TX2) (N := 11) hx hb hts (fun _ h => (List.mem_cons_of_mem _ (List.mem_append_right _ h))) hown hK hP 0 rfl rfl 7 (by decide) (hts _ (List.mem_of_getElem? (i := 1) rfl)) (fun _ h9 => h9) rfl dX2_look_122 ?_
                    refine lv_iconst (v := nI 1) hx hb dX2_look_125 (by decide) ?_
                    refine an_add hx hb dX2_look_126 ?_
                    refine va_put (D := D) (ci := 2) (v := .int (nI (k + 1))) (ty := .int) (C := RX2) (T := TX2) (N := 11) hx hb hts (fun _ h => (List.mem_cons_of_mem _ (List.mem_append_right _ h))) tyX2 tyX2_ok nmX2 hown hK hP hD hS 0 rfl rfl 7 (by decide) (hts _ (List.mem_of_getElem? (i := 1) rfl)) (fun _ h9 => h9) rfl (by decide +kernel) rfl rfl (Nat.le_of_ble_eq_true rfl) dX2_look_127 (fun H locs hP hD hS => ?_)
                    have hP : va_P D vwCl [(u, .inr (2, [.int e0, .int en, .int ew, .ref c1, .ref c2, .ref c3, .ref c4, .int (nI (k + 1)), .int (-1), .int (-1), .int (nI (at_ N w1 x k))])), (ca, .inl (cI, 40, .inl Fx))] H := hP
                    have hD : va_D A [(u, .inr (2, [.int e0, .int en, .int ew, .ref c1, .ref c2, .ref c3, .ref c4, .int (nI (k + 1)), .int (-1), .int (-1), .int (nI (at_ N w1 x k))])), (ca, .inl (cI, 40, .inl Fx))] := hD
                    refine lv_iload hx hb dX2_look_130 (lv_at hl 1 rfl) ?_
                    refine lv_iload_n hx hb dX2_look_132 rfl (lv_at hl 5 rfl) ?_
                    refine bz_ne (tgt := 140) hx hb dX2_look_133 (by decide) (by omega) (fun c133 => ?_) (fun c133 => ?_)
                    · skip
                      refine lv_iload_n hx hb dX2_look_140 rfl (lv_at hl 5 rfl) ?_
                      refine lv_iconst (v := nI 1) hx hb dX2_look_141 (by decide) ?_
                      refine bn_ne (tgt := 152) hx hb dX2_look_142 (by decide) (by omega) (by omega) (fun c142 => ?_) (fun c142 => ?_)
                      · skip
                        refine lv_iload hx hb dX2_look_152 (lv_at hl 0 rfl) ?_
                        refine tp_i (y := nI (inc_ N w1 x k)) (congrArg nI (inc_s c133 c142)) ?_
                        refine an_add hx hb dX2_look_154 ?_
                        refine lv_iload_n hx hb dX2_look_155 rfl (lv_at hl 4 rfl) ?_
                        refine an_rem hx hb (at_small hx9 (show 3 ≤ N by omega) hN40 hw1 (by omega)) (by omega) (by omega) dX2_look_156 ?_
                        refine tp_i (y := (nI (at_ N w1 x (k + 1)))) (congrArg nI (at_step hw1)) ?_
                        refine lv_istore (lv' := [(5, .int (nI (at_ N w1 x (k + 1)))), (6, .int (nI (1 + ((x / N) % (N - 1))))), (0, .ref u), (1, .ref ca), (2, .int (nI N)), (3, .int (nI w1)), (4, .int (nI x))]) hx hb dX2_look_157 hl (by decide) rfl (fun ls hl => ?_)
                        refine lv_goto (tgt := 38) hx hb dX2_look_159 (by decide) ?_
                        have et : nI (at_ N w1 x k) = tk N w1 T x (k + 1) := (tk_hit c111 c103).symm
                        rw [et] at hP hD
                        exact ih (k + 1) (by omega) (ns_s hns c68 c85) _ _ hP hD hS _ (lv_sub hl [1, 0, 2, 3, 4, 5, 6] rfl)
                      · skip
                        refine lv_aload_n hx hb dX2_look_145 rfl (lv_at hl 2 rfl) ?_
                        refine va_get (D := D) (ci := 2) (v := .int (nI (k + 1))) (C := RX2) (T := TX2) (N := 11) hx hb hts (fun _ h => (List.mem_cons_of_mem _ (List.mem_append_right _ h))) hown hK hP 0 rfl rfl 7 (by decide) (hts _ (List.mem_of_getElem? (i := 1) rfl)) (fun _ h9 => h9) rfl dX2_look_146 ?_
                        refine lv_goto (tgt := 154) hx hb dX2_look_149 (by decide) ?_
                        refine tp_i (y := nI (inc_ N w1 x k)) (congrArg nI (inc_1 c142)) ?_
                        refine an_add hx hb dX2_look_154 ?_
                        refine lv_iload_n hx hb dX2_look_155 rfl (lv_at hl 4 rfl) ?_
                        refine an_rem hx hb (at_small hx9 (show 3 ≤ N by omega) hN40 hw1 (by omega)) (by omega) (by omega) dX2_look_156 ?_
                        refine tp_i (y := (nI (at_ N w1 x (k + 1)))) (congrArg nI (at_step hw1)) ?_
                        refine lv_istore (lv' := [(5, .int (nI (at_ N w1 x (k + 1)))), (6, .int (nI (1 + ((x / N) % (N - 1))))), (0, .ref u), (1, .ref ca), (2, .int (nI N)), (3, .int (nI w1)), (4, .int (nI x))]) hx hb dX2_look_157 hl (by decide) rfl (fun ls hl => ?_)
                        refine lv_goto (tgt := 38) hx hb dX2_look_159 (by decide) ?_
                        have et : nI (at_ N w1 x k) = tk N w1 T x (k + 1) := (tk_hit c111 c103).symm
                        rw [et] at hP hD
                        exact ih (k + 1) (by omega) (ns_s hns c68 c85) _ _ hP hD hS _ (lv_sub hl [1, 0, 2, 3, 4, 5, 6] rfl)
                    · skip
                      refine lv_iconst (v := nI 1) hx hb dX2_look_136 (by decide) ?_
                      refine lv_goto (tgt := 154) hx hb dX2_look_137 (by decide) ?_
                      refine tp_i (y := nI (inc_ N w1 x k)) (congrArg nI (inc_0 c133)) ?_
                      refine an_add hx hb dX2_look_154 ?_
                      refine lv_iload_n hx hb dX2_look_155 rfl (lv_at hl 4 rfl) ?_
                      refine an_rem hx hb (at_small hx9 (show 3 ≤ N by omega) hN40 hw1 (by omega)) (by omega) (by omega) dX2_look_156 ?_
                      refine tp_i (y := (nI (at_ N w1 x (k + 1)))) (congrArg nI (at_step hw1)) ?_
                      refine lv_istore (lv' := [(5, .int (nI (at_ N w1 x (k + 1)))), (6, .int (nI (1 + ((x / N) % (N - 1))))), (0, .ref u), (1, .ref ca), (2, .int (nI N)), (3, .int (nI w1)), (4, .int (nI x))]) hx hb dX2_look_157 hl (by decide) rfl (fun ls hl => ?_)
                      refine lv_goto (tgt := 38) hx hb dX2_look_159 (by decide) ?_
                      have et : nI (at_ N w1 x k) = tk N w1 T x (k + 1) := (tk_hit c111 c103).symm
                      rw [et] at hP hD
                      exact ih (k + 1) (by omega) (ns_s hns c68 c85) _ _ hP hD hS _ (lv_sub hl [1, 0, 2, 3, 4, 5, 6] rfl)
              · skip
                refine lv_aload_n hx hb dX2_look_88 rfl (lv_at hl 2 rfl) ?_
                refine lv_iload hx hb dX2_look_89 (lv_at hl 1 rfl) ?_
                refine va_put (D := D) (ci := 2) (v := .int (nI (at_ N w1 x k))) (ty := .int) (C := RX2) (T := TX2) (N := 11) hx hb hts (fun _ h => (List.mem_cons_of_mem _ (List.mem_append_right _ h))) tyX2 tyX2_ok nmX2 hown hK hP hD hS 0 rfl rfl 9 (by decide) (hts _ (List.mem_of_getElem? (i := 3) rfl)) (fun _ h9 => h9) rfl (by decide +kernel) rfl rfl (Nat.le_of_ble_eq_true rfl) dX2_look_91 (fun H locs hP hD hS => ?_)
                have hP : va_P D vwCl [(u, .inr (2, [.int e0, .int en, .int ew, .ref c1, .ref c2, .ref c3, .ref c4, .int (nI k), .int (-1), .int (nI (at_ N w1 x k)), .int (tk N w1 T x k)])), (ca, .inl (cI, 40, .inl Fx))] H := hP
                have hD : va_D A [(u, .inr (2, [.int e0, .int en, .int ew, .ref c1, .ref c2, .ref c3, .ref c4, .int (nI k), .int (-1), .int (nI (at_ N w1 x k)), .int (tk N w1 T x k)])), (ca, .inl (cI, 40, .inl Fx))] := hD
                refine lv_goto (tgt := 120) hx hb dX2_look_94 (by decide) ?_
                refine lv_aload_n hx hb dX2_look_120 rfl (lv_at hl 2 rfl) ?_
                refine lv_dup hx hb dX2_look_121 rfl ?_
                refine va_get (D := D) (ci := 2) (v := .int (nI k)) (C := RX2) (T := TX2) (N := 11) hx hb hts (fun _ h => (List.mem_cons_of_mem _ (List.mem_append_right _ h))) hown hK hP 0 rfl rfl 7 (by decide) (hts _ (List.mem_of_getElem? (i := 1) rfl)) (fun _ h9 => h9) rfl dX2_look_122 ?_
                refine lv_iconst (v := nI 1) hx hb dX2_look_125 (by decide) ?_
                refine an_add hx hb dX2_look_126 ?_
                refine va_put (D := D) (ci := 2) (v := .int (nI (k + 1))) (ty := .int) (C := RX2) (T := TX2) (N := 11) hx hb hts (fun _ h => (List.mem_cons_of_mem _ (List.mem_append_right _ h))) tyX2 tyX2_ok nmX2 hown hK hP hD hS 0 rfl rfl 7 (by decide) (hts _ (List.mem_of_getElem? (i := 1) rfl)) (fun _ h9 => h9) rfl (by decide +kernel) rfl rfl (Nat.le_of_ble_eq_true rfl) dX2_look_127 (fun H locs hP hD hS => ?_)
                have hP : va_P D vwCl [(u, .inr (2, [.int e0, .int en, .int ew, .ref c1, .ref c2, .ref c3, .ref c4, .int (nI (k + 1)), .int (-1), .int (nI (at_ N w1 x k)), .int (tk N w1 T x k)])), (ca, .inl (cI, 40, .inl Fx))] H := hP
                have hD : va_D A [(u, .inr (2, [.int e0, .int en, .int ew, .ref c1, .ref c2, .ref c3, .ref c4, .int (nI (k + 1)), .int (-1), .int (nI (at_ N w1 x k)), .int (tk N w1 T x k)])), (ca, .inl (cI, 40, .inl Fx))] := hD
                refine lv_iload hx hb dX2_look_130 (lv_at hl 1 rfl) ?_
                refine lv_iload_n hx hb dX2_look_132 rfl (lv_at hl 5 rfl) ?_
                refine bz_ne (tgt := 140) hx hb dX2_look_133 (by decide) (by omega) (fun c133 => ?_) (fun c133 => ?_)
                · skip
                  refine lv_iload_n hx hb dX2_look_140 rfl (lv_at hl 5 rfl) ?_
                  refine lv_iconst (v := nI 1) hx hb dX2_look_141 (by decide) ?_
                  refine bn_ne (tgt := 152) hx hb dX2_look_142 (by decide) (by omega) (by omega) (fun c142 => ?_) (fun c142 => ?_)
                  · skip
                    refine lv_iload hx hb dX2_look_152 (lv_at hl 0 rfl) ?_
                    refine tp_i (y := nI (inc_ N w1 x k)) (congrArg nI (inc_s c133 c142)) ?_
                    refine an_add hx hb dX2_look_154 ?_
                    refine lv_iload_n hx hb dX2_look_155 rfl (lv_at hl 4 rfl) ?_
                    refine an_rem hx hb (at_small hx9 (show 3 ≤ N by omega) hN40 hw1 (by omega)) (by omega) (by omega) dX2_look_156 ?_
                    refine tp_i (y := (nI (at_ N w1 x (k + 1)))) (congrArg nI (at_step hw1)) ?_
                    refine lv_istore (lv' := [(5, .int (nI (at_ N w1 x (k + 1)))), (6, .int (nI (1 + ((x / N) % (N - 1))))), (0, .ref u), (1, .ref ca), (2, .int (nI N)), (3, .int (nI w1)), (4, .int (nI x))]) hx hb dX2_look_157 hl (by decide) rfl (fun ls hl => ?_)
                    refine lv_goto (tgt := 38) hx hb dX2_look_159 (by decide) ?_
                    refine lv_aload_n hx hb dX2_look_38 rfl (lv_at hl 2 rfl) ?_
                    refine va_get (D := D) (ci := 2) (v := .int (nI (k + 1))) (C := RX2) (T := TX2) (N := 11) hx hb hts (fun _ h => (List.mem_cons_of_mem _ (List.mem_append_right _ h))) hown hK hP 0 rfl rfl 7 (by decide) (hts _ (List.mem_of_getElem? (i := 1) rfl)) (fun _ h9 => h9) rfl dX2_look_39 ?_
                    refine lv_iload_n hx hb dX2_look_42 rfl (lv_at hl 4 rfl) ?_
                    refine bn_ge (tgt := 162) hx hb dX2_look_43 (by decide) (by omega) (by omega) (fun c43 => ?_) (fun c43 => ?_)
                    · skip
                      exact em_v hx hb hr hlocks hS (⟨_, _, _, _, congrArg nI (lk_at c43h hns (Or.inr c85)).symm, by rw [fd, la_at c43h hns (Or.inr c85), if_neg c68], by rw [fr, la_at c43h hns (Or.inr c85), if_pos c85], by rw [lk_at c43h hns (Or.inr c85), tk_stop (by rw [c85]; decide)], hP⟩) dX2_look_162
                    · skip
                      refine lv_aload_n hx hb dX2_look_46 rfl (lv_at hl 2 rfl) ?_
                      refine va_get (D := D) (ci := 2) (v := .int (-1)) (C := RX2) (T := TX2) (N := 11) hx hb hts (fun _ h => (List.mem_cons_of_mem _ (List.mem_append_right _ h))) hown hK hP 0 rfl rfl 8 (by decide) (hts _ (List.mem_of_getElem? (i := 2) rfl)) (fun _ h9 => h9) rfl dX2_look_47 ?_
                      refine lv_iconst (v := (-1)) hx hb dX2_look_50 (by decide) ?_
                      refine lv_icmp_ne (tgt := 162) hx hb dX2_look_51 (by decide) (fun c51 => ?_) (fun c51 => ?_)
                      · skip
                        exact absurd rfl c51
                      · skip
                        refine lv_aload_n hx hb dX2_look_54 rfl (lv_at hl 2 rfl) ?_
                        refine va_get (D := D) (ci := 2) (v := .int (nI (at_ N w1 x k))) (C := RX2) (T := TX2) (N := 11) hx hb hts (fun _ h => (List.mem_cons_of_mem _ (List.mem_append_right _ h))) hown hK hP 0 rfl rfl 9 (by decide) (hts _ (List.mem_of_getElem? (i := 3) rfl)) (fun _ h9 => h9) rfl dX2_look_55 ?_
                        refine lv_iconst (v := (-1)) hx hb dX2_look_58 (by decide) ?_
                        refine lv_icmp_ne (tgt := 162) hx hb dX2_look_59 (by decide) (fun c59 => ?_) (fun c59 => ?_)
                        · skip
                          exact em_v hx hb hr hlocks hS (⟨_, _, _, _, congrArg nI (lk_at c43h hns (Or.inr c85)).symm, by rw [fd, la_at c43h hns (Or.inr c85), if_neg c68], by rw [fr, la_at c43h hns (Or.inr c85), if_pos c85], by rw [lk_at c43h hns (Or.inr c85), tk_stop (by rw [c85]; decide)], hP⟩) dX2_look_162
                        · skip
                          exact absurd c59 (ne_m1 (Nat.lt_trans (at_lt (by omega) w1 x k) (by omega)))
                  · skip
                    refine lv_aload_n hx hb dX2_look_145 rfl (lv_at hl 2 rfl) ?_
                    refine va_get (D := D) (ci := 2) (v := .int (nI (k + 1))) (C := RX2) (T := TX2) (N := 11) hx hb hts (fun _ h => (List.mem_cons_of_mem _ (List.mem_append_right _ h))) hown hK hP 0 rfl rfl 7 (by decide) (hts _ (List.mem_of_getElem? (i := 1) rfl)) (fun _ h9 => h9) rfl dX2_look_146 ?_
                    refine lv_goto (tgt := 154) hx hb dX2_look_149 (by decide) ?_
                    refine tp_i (y := nI (inc_ N w1 x k)) (congrArg nI (inc_1 c142)) ?_
                    refine an_add hx hb dX2_look_154 ?_
                    refine lv_iload_n hx hb dX2_look_155 rfl (lv_at hl 4 rfl) ?_
                    refine an_rem hx hb (at_small hx9 (show 3 ≤ N by omega) hN40 hw1 (by omega)) (by omega) (by omega) dX2_look_156 ?_
                    refine tp_i (y := (nI (at_ N w1 x (k + 1)))) (congrArg nI (at_step hw1)) ?_
                    refine lv_istore (lv' := [(5, .int (nI (at_ N w1 x (k + 1)))), (6, .int (nI (1 + ((x / N) % (N - 1))))), (0, .ref u), (1, .ref ca), (2, .int (nI N)), (3, .int (nI w1)), (4, .int (nI x))]) hx hb dX2_look_157 hl (by decide) rfl (fun ls hl => ?_)
                    refine lv_goto (tgt := 38) hx hb dX2_look_159 (by decide) ?_
                    refine lv_aload_n hx hb dX2_look_38 rfl (lv_at hl 2 rfl) ?_
                    refine va_get (D := D) (ci := 2) (v := .int (nI (k + 1))) (C := RX2) (T := TX2) (N := 11) hx hb hts (fun _ h => (List.mem_cons_of_mem _ (List.mem_append_right _ h))) hown hK hP 0 rfl rfl 7 (by decide) (hts _ (List.mem_of_getElem? (i := 1) rfl)) (fun _ h9 => h9) rfl dX2_look_39 ?_
                    refine lv_iload_n hx hb dX2_look_42 rfl (lv_at hl 4 rfl) ?_
                    refine bn_ge (tgt := 162) hx hb dX2_look_43 (by decide) (by omega) (by omega) (fun c43 => ?_) (fun c43 => ?_)
                    · skip
                      exact em_v hx hb hr hlocks hS (⟨_, _, _, _, congrArg nI (lk_at c43h hns (Or.inr c85)).symm, by rw [fd, la_at c43h hns (Or.inr c85), if_neg c68], by rw [fr, la_at c43h hns (Or.inr c85), if_pos c85], by rw [lk_at c43h hns (Or.inr c85), tk_stop (by rw [c85]; decide)], hP⟩) dX2_look_162
                    · skip
                      refine lv_aload_n hx hb dX2_look_46 rfl (lv_at hl 2 rfl) ?_
                      refine va_get (D := D) (ci := 2) (v := .int (-1)) (C := RX2) (T := TX2) (N := 11) hx hb hts (fun _ h => (List.mem_cons_of_mem _ (List.mem_append_right _ h))) hown hK hP 0 rfl rfl 8 (by decide) (hts _ (List.mem_of_getElem? (i := 2) rfl)) (fun _ h9 => h9) rfl dX2_look_47 ?_
                      refine lv_iconst (v := (-1)) hx hb dX2_look_50 (by decide) ?_
                      refine lv_icmp_ne (tgt := 162) hx hb dX2_look_51 (by decide) (fun c51 => ?_) (fun c51 => ?_)
                      · skip
                        exact absurd rfl c51
                      · skip
                        refine lv_aload_n hx hb dX2_look_54 rfl (lv_at hl 2 rfl) ?_
                        refine va_get (D := D) (ci := 2) (v := .int (nI (at_ N w1 x k))) (C := RX2) (T := TX2) (N := 11) hx hb hts (fun _ h => (List.mem_cons_of_mem _ (List.mem_append_right _ h))) hown hK hP 0 rfl rfl 9 (by decide) (hts _ (List.mem_of_getElem? (i := 3) rfl)) (fun _ h9 => h9) rfl dX2_look_55 ?_
                        refine lv_iconst (v := (-1)) hx hb dX2_look_58 (by decide) ?_
                        refine lv_icmp_ne (tgt := 162) hx hb dX2_look_59 (by decide) (fun c59 => ?_) (fun c59 => ?_)
                        · skip
                          exact em_v hx hb hr hlocks hS (⟨_, _, _, _, congrArg nI (lk_at c43h hns (Or.inr c85)).symm, by rw [fd, la_at c43h hns (Or.inr c85), if_neg c68], by rw [fr, la_at c43h hns (Or.inr c85), if_pos c85], by rw [lk_at c43h hns (Or.inr c85), tk_stop (by rw [c85]; decide)], hP⟩) dX2_look_162
                        · skip
                          exact absurd c59 (ne_m1 (Nat.lt_trans (at_lt (by omega) w1 x k) (by omega)))
                · skip
                  refine lv_iconst (v := nI 1) hx hb dX2_look_136 (by decide) ?_
                  refine lv_goto (tgt := 154) hx hb dX2_look_137 (by decide) ?_
                  refine tp_i (y := nI (inc_ N w1 x k)) (congrArg nI (inc_0 c133)) ?_
                  refine an_add hx hb dX2_look_154 ?_
                  refine lv_iload_n hx hb dX2_look_155 rfl (lv_at hl 4 rfl) ?_
                  refine an_rem hx hb (at_small hx9 (show 3 ≤ N by omega) hN40 hw1 (by omega)) (by omega) (by omega) dX2_look_156 ?_
                  refine tp_i (y := (nI (at_ N w1 x (k + 1)))) (congrArg nI (at_step hw1)) ?_
                  refine lv_istore (lv' := [(5, .int (nI (at_ N w1 x (k + 1)))), (6, .int (nI (1 + ((x / N) % (N - 1))))), (0, .ref u), (1, .ref ca), (2, .int (nI N)), (3, .int (nI w1)), (4, .int (nI x))]) hx hb dX2_look_157 hl (by decide) rfl (fun ls hl => ?_)
                  refine lv_goto (tgt := 38) hx hb dX2_look_159 (by decide) ?_
                  refine lv_aload_n hx hb dX2_look_38 rfl (lv_at hl 2 rfl) ?_
                  refine va_get (D := D) (ci := 2) (v := .int (nI (k + 1))) (C := RX2) (T := TX2) (N := 11) hx hb hts (fun _ h => (List.mem_cons_of_mem _ (List.mem_append_right _ h))) hown hK hP 0 rfl rfl 7 (by decide) (hts _ (List.mem_of_getElem? (i := 1) rfl)) (fun _ h9 => h9) rfl dX2_look_39 ?_
                  refine lv_iload_n hx hb dX2_look_42 rfl (lv_at hl 4 rfl) ?_
                  refine bn_ge (tgt := 162) hx hb dX2_look_43 (by decide) (by omega) (by omega) (fun c43 => ?_) (fun c43 => ?_)
                  · skip
                    exact em_v hx hb hr hlocks hS (⟨_, _, _, _, congrArg nI (lk_at c43h hns (Or.inr c85)).symm, by rw [fd, la_at c43h hns (Or.inr c85), if_neg c68], by rw [fr, la_at c43h hns (Or.inr c85), if_pos c85], by rw [lk_at c43h hns (Or.inr c85), tk_stop (by rw [c85]; decide)], hP⟩) dX2_look_162
                  · skip
                    refine lv_aload_n hx hb dX2_look_46 rfl (lv_at hl 2 rfl) ?_
                    refine va_get (D := D) (ci := 2) (v := .int (-1)) (C := RX2) (T := TX2) (N := 11) hx hb hts (fun _ h => (List.mem_cons_of_mem _ (List.mem_append_right _ h))) hown hK hP 0 rfl rfl 8 (by decide) (hts _ (List.mem_of_getElem? (i := 2) rfl)) (fun _ h9 => h9) rfl dX2_look_47 ?_
                    refine lv_iconst (v := (-1)) hx hb dX2_look_50 (by decide) ?_
                    refine lv_icmp_ne (tgt := 162) hx hb dX2_look_51 (by decide) (fun c51 => ?_) (fun c51 => ?_)
                    · skip
                      exact absurd rfl c51
                    · skip
                      refine lv_aload_n hx hb dX2_look_54 rfl (lv_at hl 2 rfl) ?_
                      refine va_get (D := D) (ci := 2) (v := .int (nI (at_ N w1 x k))) (C := RX2) (T := TX2) (N := 11) hx hb hts (fun _ h => (List.mem_cons_of_mem _ (List.mem_append_right _ h))) hown hK hP 0 rfl rfl 9 (by decide) (hts _ (List.mem_of_getElem? (i := 3) rfl)) (fun _ h9 => h9) rfl dX2_look_55 ?_
                      refine lv_iconst (v := (-1)) hx hb dX2_look_58 (by decide) ?_
                      refine lv_icmp_ne (tgt := 162) hx hb dX2_look_59 (by decide) (fun c59 => ?_) (fun c59 => ?_)
                      · skip
                        exact em_v hx hb hr hlocks hS (⟨_, _, _, _, congrArg nI (lk_at c43h hns (Or.inr c85)).symm, by rw [fd, la_at c43h hns (Or.inr c85), if_neg c68], by rw [fr, la_at c43h hns (Or.inr c85), if_pos c85], by rw [lk_at c43h hns (Or.inr c85), tk_stop (by rw [c85]; decide)], hP⟩) dX2_look_162
                      · skip
                        exact absurd c59 (ne_m1 (Nat.lt_trans (at_lt (by omega) w1 x k) (by omega)))
            · skip
              refine lv_aload_n hx hb dX2_look_71 rfl (lv_at hl 2 rfl) ?_
              refine lv_iload hx hb dX2_look_72 (lv_at hl 1 rfl) ?_
              refine va_put (D := D) (ci := 2) (v := .int (nI (at_ N w1 x k))) (ty := .int) (C := RX2) (T := TX2) (N := 11) hx hb hts (fun _ h => (List.mem_cons_of_mem _ (List.mem_append_right _ h))) tyX2 tyX2_ok nmX2 hown hK hP hD hS 0 rfl rfl 8 (by decide) (hts _ (List.mem_of_getElem? (i := 2) rfl)) (fun _ h9 => h9) rfl (by decide +kernel) rfl rfl (Nat.le_of_ble_eq_true rfl) dX2_look_74 (fun H locs hP hD hS => ?_)
              have hP : va_P D vwCl [(u, .inr (2, [.int e0, .int en, .int ew, .ref c1, .ref c2, .ref c3, .ref c4, .int (nI k), .int (nI (at_ N w1 x k)), .int (-1), .int (tk N w1 T x k)])), (ca, .inl (cI, 40, .inl Fx))] H := hP
              have hD : va_D A [(u, .inr (2, [.int e0, .int en, .int ew, .ref c1, .ref c2, .ref c3, .ref c4, .int (nI k), .int (nI (at_ N w1 x k)), .int (-1), .int (tk N w1 T x k)])), (ca, .inl (cI, 40, .inl Fx))] := hD
              refine lv_goto (tgt := 120) hx hb dX2_look_77 (by decide) ?_
              refine lv_aload_n hx hb dX2_look_120 rfl (lv_at hl 2 rfl) ?_
              refine lv_dup hx hb dX2_look_121 rfl ?_
              refine va_get (D := D) (ci := 2) (v := .int (nI k)) (C := RX2) (T := TX2) (N := 11) hx hb hts (fun _ h => (List.mem_cons_of_mem _ (List.mem_append_right _ h))) hown hK hP 0 rfl rfl 7 (by decide) (hts _ (List.mem_of_getElem? (i := 1) rfl)) (fun _ h9 => h9) rfl dX2_look_122 ?_
              refine lv_iconst (v := nI 1) hx hb dX2_look_125 (by decide) ?_
              refine an_add hx hb dX2_look_126 ?_
              refine va_put (D := D) (ci := 2) (v := .int (nI (k + 1))) (ty := .int) (C := RX2) (T := TX2) (N := 11) hx hb hts (fun _ h => (List.mem_cons_of_mem _ (List.mem_append_right _ h))) tyX2 tyX2_ok nmX2 hown hK hP hD hS 0 rfl rfl 7 (by decide) (hts _ (List.mem_of_getElem? (i := 1) rfl)) (fun _ h9 => h9) rfl (by decide +kernel) rfl rfl (Nat.le_of_ble_eq_true rfl) dX2_look_127 (fun H locs hP hD hS => ?_)
              have hP : va_P D vwCl [(u, .inr (2, [.int e0, .int en, .int ew, .ref c1, .ref c2, .ref c3, .ref c4, .int (nI (k + 1)), .int (nI (at_ N w1 x k)), .int (-1), .int (tk N w1 T x k)])), (ca, .inl (cI, 40, .inl Fx))] H := hP
              have hD : va_D A [(u, .inr (2, [.int e0, .int en, .int ew, .ref c1, .ref c2, .ref c3, .ref c4, .int (nI (k + 1)), .int (nI (at_ N w1 x k)), .int (-1), .int (tk N w1 T x k)])), (ca, .inl (cI, 40, .inl Fx))] := hD
              refine lv_iload hx hb dX2_look_130 (lv_at hl 1 rfl) ?_
              refine lv_iload_n hx hb dX2_look_132 rfl (lv_at hl 5 rfl) ?_
              refine bz_ne (tgt := 140) hx hb dX2_look_133 (by decide) (by omega) (fun c133 => ?_) (fun c133 => ?_)
              · skip
                refine lv_iload_n hx hb dX2_look_140 rfl (lv_at hl 5 rfl) ?_
                refine lv_iconst (v := nI 1) hx hb dX2_look_141 (by decide) ?_
                refine bn_ne (tgt := 152) hx hb dX2_look_142 (by decide) (by omega) (by omega) (fun c142 => ?_) (fun c142 => ?_)
                · skip
                  refine lv_iload hx hb dX2_look_152 (lv_at hl 0 rfl) ?_
                  refine tp_i (y := nI (inc_ N w1 x k)) (congrArg nI (inc_s c133 c142)) ?_
                  refine an_add hx hb dX2_look_154 ?_
                  refine lv_iload_n hx hb dX2_look_155 rfl (lv_at hl 4 rfl) ?_
                  refine an_rem hx hb (at_small hx9 (show 3 ≤ N by omega) hN40 hw1 (by omega)) (by omega) (by omega) dX2_look_156 ?_
                  refine tp_i (y := (nI (at_ N w1 x (k + 1)))) (congrArg nI (at_step hw1)) ?_
                  refine lv_istore (lv' := [(5, .int (nI (at_ N w1 x (k + 1)))), (6, .int (nI (1 + ((x / N) % (N - 1))))), (0, .ref u), (1, .ref ca), (2, .int (nI N)), (3, .int (nI w1)), (4, .int (nI x))]) hx hb dX2_look_157 hl (by decide) rfl (fun ls hl => ?_)
                  refine lv_goto (tgt := 38) hx hb dX2_look_159 (by decide) ?_
                  refine lv_aload_n hx hb dX2_look_38 rfl (lv_at hl 2 rfl) ?_
                  refine va_get (D := D) (ci := 2) (v := .int (nI (k + 1))) (C := RX2) (T := TX2) (N := 11) hx hb hts (fun _ h => (List.mem_cons_of_mem _ (List.mem_append_right _ h))) hown hK hP 0 rfl rfl 7 (by decide) (hts _ (List.mem_of_getElem? (i := 1) rfl)) (fun _ h9 => h9) rfl dX2_look_39 ?_
                  refine lv_iload_n hx hb dX2_look_42 rfl (lv_at hl 4 rfl) ?_
                  refine bn_ge (tgt := 162) hx hb dX2_look_43 (by decide) (by omega) (by omega) (fun c43 => ?_) (fun c43 => ?_)
                  · skip
                    exact em_v hx hb hr hlocks hS (⟨_, _, _, _, congrArg nI (lk_at c43h hns (Or.inl c68)).symm, by rw [fd, la_at c43h hns (Or.inl c68), if_pos c68], by rw [fr, la_at c43h hns (Or.inl c68), if_neg (nx_m1 hx9 c68)], by rw [lk_at c43h hns (Or.inl c68), tk_stop (nx_m2 hx9 c68)], hP⟩) dX2_look_162
                  · skip
                    refine lv_aload_n hx hb dX2_look_46 rfl (lv_at hl 2 rfl) ?_
                    refine va_get (D := D) (ci := 2) (v := .int (nI (at_ N w1 x k))) (C := RX2) (T := TX2) (N := 11) hx hb hts (fun _ h => (List.mem_cons_of_mem _ (List.mem_append_right _ h))) hown hK hP 0 rfl rfl 8 (by decide) (hts _ (List.mem_of_getElem? (i := 2) rfl)) (fun _ h9 => h9) rfl dX2_look_47 ?_
                    refine lv_iconst (v := (-1)) hx hb dX2_look_50 (by decide) ?_
                    refine lv_icmp_ne (tgt := 162) hx hb dX2_look_51 (by decide) (fun c51 => ?_) (fun c51 => ?_)
                    · skip
                      exact em_v hx hb hr hlocks hS (⟨_, _, _, _, congrArg nI (lk_at c43h hns (Or.inl c68)).symm, by rw [fd, la_at c43h hns (Or.inl c68), if_pos c68], by rw [fr, la_at c43h hns (Or.inl c68), if_neg (nx_m1 hx9 c68)], by rw [lk_at c43h hns (Or.inl c68), tk_stop (nx_m2 hx9 c68)], hP⟩) dX2_look_162
                    · skip
                      exact absurd c51 (ne_m1 (Nat.lt_trans (at_lt (by omega) w1 x k) (by omega)))
                · skip
                  refine lv_aload_n hx hb dX2_look_145 rfl (lv_at hl 2 rfl) ?_
                  refine va_get (D := D) (ci := 2) (v := .int (nI (k + 1))) (C := RX2) (T := TX2) (N := 11) hx hb hts (fun _ h => (List.mem_cons_of_mem _ (List.mem_append_right _ h))) hown hK hP 0 rfl rfl 7 (by decide) (hts _ (List.mem_of_getElem? (i := 1) rfl)) (fun _ h9 => h9) rfl dX2_look_146 ?_
                  refine lv_goto (tgt := 154) hx hb dX2_look_149 (by decide) ?_
                  refine tp_i (y := nI (inc_ N w1 x k)) (congrArg nI (inc_1 c142)) ?_
                  refine an_add hx hb dX2_look_154 ?_
                  refine lv_iload_n hx hb dX2_look_155 rfl (lv_at hl 4 rfl) ?_
                  refine an_rem hx hb (at_small hx9 (show 3 ≤ N by omega) hN40 hw1 (by omega)) (by omega) (by omega) dX2_look_156 ?_
                  refine tp_i (y := (nI (at_ N w1 x (k + 1)))) (congrArg nI (at_step hw1)) ?_
                  refine lv_istore (lv' := [(5, .int (nI (at_ N w1 x (k + 1)))), (6, .int (nI (1 + ((x / N) % (N - 1))))), (0, .ref u), (1, .ref ca), (2, .int (nI N)), (3, .int (nI w1)), (4, .int (nI x))]) hx hb dX2_look_157 hl (by decide) rfl (fun ls hl => ?_)
                  refine lv_goto (tgt := 38) hx hb dX2_look_159 (by decide) ?_
                  refine lv_aload_n hx hb dX2_look_38 rfl (lv_at hl 2 rfl) ?_
                  refine va_get (D := D) (ci := 2) (v := .int (nI (k + 1))) (C := RX2) (T := TX2) (N := 11) hx hb hts (fun _ h => (List.mem_cons_of_mem _ (List.mem_append_right _ h))) hown hK hP 0 rfl rfl 7 (by decide) (hts _ (List.mem_of_getElem? (i := 1) rfl)) (fun _ h9 => h9) rfl dX2_look_39 ?_
                  refine lv_iload_n hx hb dX2_look_42 rfl (lv_at hl 4 rfl) ?_
                  refine bn_ge (tgt := 162) hx hb dX2_look_43 (by decide) (by omega) (by omega) (fun c43 => ?_) (fun c43 => ?_)
                  · skip
                    exact em_v hx hb hr hlocks hS (⟨_, _, _, _, congrArg nI (lk_at c43h hns (Or.inl c68)).symm, by rw [fd, la_at c43h hns (Or.inl c68), if_pos c68], by rw [fr, la_at c43h hns (Or.inl c68), if_neg (nx_m1 hx9 c68)], by rw [lk_at c43h hns (Or.inl c68), tk_stop (nx_m2 hx9 c68)], hP⟩) dX2_look_162
                  · skip
                    refine lv_aload_n hx hb dX2_look_46 rfl (lv_at hl 2 rfl) ?_
                    refine va_get (D := D) (ci := 2) (v := .int (nI (at_ N w1 x k))) (C := RX2) (T := TX2) (N := 11) hx hb hts (fun _ h => (List.mem_cons_of_mem _ (List.mem_append_right _ h))) hown hK hP 0 rfl rfl 8 (by decide) (hts _ (List.mem_of_getElem? (i := 2) rfl)) (fun _ h9 => h9) rfl dX2_look_47 ?_
                    refine lv_iconst (v := (-1)) hx hb dX2_look_50 (by decide) ?_
                    refine lv_icmp_ne (tgt := 162) hx hb dX2_look_51 (by decide) (fun c51 => ?_) (fun c51 => ?_)
                    · skip
                      exact em_v hx hb hr hlocks hS (⟨_, _, _, _, congrArg nI (lk_at c43h hns (Or.inl c68)).symm, by rw [fd, la_at c43h hns (Or.inl c68), if_pos c68], by rw [fr, la_at c43h hns (Or.inl c68), if_neg (nx_m1 hx9 c68)], by rw [lk_at c43h hns (Or.inl c68), tk_stop (nx_m2 hx9 c68)], hP⟩) dX2_look_162
                    · skip
                      exact absurd c51 (ne_m1 (Nat.lt_trans (at_lt (by omega) w1 x k) (by omega)))
              · skip
                refine lv_iconst (v := nI 1) hx hb dX2_look_136 (by decide) ?_
                refine lv_goto (tgt := 154) hx hb dX2_look_137 (by decide) ?_
                refine tp_i (y := nI (inc_ N w1 x k)) (congrArg nI (inc_0 c133)) ?_
                refine an_add hx hb dX2_look_154 ?_
                refine lv_iload_n hx hb dX2_look_155 rfl (lv_at hl 4 rfl) ?_
                refine an_rem hx hb (at_small hx9 (show 3 ≤ N by omega) hN40 hw1 (by omega)) (by omega) (by omega) dX2_look_156 ?_
                refine tp_i (y := (nI (at_ N w1 x (k + 1)))) (congrArg nI (at_step hw1)) ?_
                refine lv_istore (lv' := [(5, .int (nI (at_ N w1 x (k + 1)))), (6, .int (nI (1 + ((x / N) % (N - 1))))), (0, .ref u), (1, .ref ca), (2, .int (nI N)), (3, .int (nI w1)), (4, .int (nI x))]) hx hb dX2_look_157 hl (by decide) rfl (fun ls hl => ?_)
                refine lv_goto (tgt := 38) hx hb dX2_look_159 (by decide) ?_
                refine lv_aload_n hx hb dX2_look_38 rfl (lv_at hl 2 rfl) ?_
                refine va_get (D := D) (ci := 2) (v := .int (nI (k + 1))) (C := RX2) (T := TX2) (N := 11) hx hb hts (fun _ h => (List.mem_cons_of_mem _ (List.mem_append_right _ h))) hown hK hP 0 rfl rfl 7 (by decide) (hts _ (List.mem_of_getElem? (i := 1) rfl)) (fun _ h9 => h9) rfl dX2_look_39 ?_
                refine lv_iload_n hx hb dX2_look_42 rfl (lv_at hl 4 rfl) ?_
                refine bn_ge (tgt := 162) hx hb dX2_look_43 (by decide) (by omega) (by omega) (fun c43 => ?_) (fun c43 => ?_)
                · skip
                  exact em_v hx hb hr hlocks hS (⟨_, _, _, _, congrArg nI (lk_at c43h hns (Or.inl c68)).symm, by rw [fd, la_at c43h hns (Or.inl c68), if_pos c68], by rw [fr, la_at c43h hns (Or.inl c68), if_neg (nx_m1 hx9 c68)], by rw [lk_at c43h hns (Or.inl c68), tk_stop (nx_m2 hx9 c68)], hP⟩) dX2_look_162
                · skip
                  refine lv_aload_n hx hb dX2_look_46 rfl (lv_at hl 2 rfl) ?_
                  refine va_get (D := D) (ci := 2) (v := .int (nI (at_ N w1 x k))) (C := RX2) (T := TX2) (N := 11) hx hb hts (fun _ h => (List.mem_cons_of_mem _ (List.mem_append_right _ h))) hown hK hP 0 rfl rfl 8 (by decide) (hts _ (List.mem_of_getElem? (i := 2) rfl)) (fun _ h9 => h9) rfl dX2_look_47 ?_
                  refine lv_iconst (v := (-1)) hx hb dX2_look_50 (by decide) ?_
                  refine lv_icmp_ne (tgt := 162) hx hb dX2_look_51 (by decide) (fun c51 => ?_) (fun c51 => ?_)
                  · skip
                    exact em_v hx hb hr hlocks hS (⟨_, _, _, _, congrArg nI (lk_at c43h hns (Or.inl c68)).symm, by rw [fd, la_at c43h hns (Or.inl c68), if_pos c68], by rw [fr, la_at c43h hns (Or.inl c68), if_neg (nx_m1 hx9 c68)], by rw [lk_at c43h hns (Or.inl c68), tk_stop (nx_m2 hx9 c68)], hP⟩) dX2_look_162
                  · skip
                    exact absurd c51 (ne_m1 (Nat.lt_trans (at_lt (by omega) w1 x k) (by omega)))
  exact LP38 N 0 (Nat.zero_add N) (fun j hj => absurd hj (Nat.not_lt_zero j)) _ _ hP hD hS _ (lv_sub hl [0, 1, 2, 3, 4, 5, 6] rfl)
