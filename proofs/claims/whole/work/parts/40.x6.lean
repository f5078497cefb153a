theorem fo12 (B : Nat → Int32) (d : Int64) : fo (fun d j => dx d (B j)) 12 0 d = dx (dx (dx (dx (dx (dx (dx (dx (dx (dx (dx (dx d (B 0)) (B 1)) (B 2)) (B 3)) (B 4)) (B 5)) (B 6)) (B 7)) (B 8)) (B 9)) (B 10)) (B 11) := rfl
theorem fo5 (B : Nat → Int32) (d : Int64) : fo (fun d j => dx d (B j)) 5 0 d = dx (dx (dx (dx (dx d (B 0)) (B 1)) (B 2)) (B 3)) (B 4) := rfl
theorem k_X2_digest : yX2_digest.cls = RX2 ∧ yX2_digest.cls ≠ "java/lang/invoke/MethodHandle" ∧ yX2_digest.cls ≠ "java/lang/invoke/VarHandle" ∧ (parseMethodDescriptor yX2_digest.desc).map (fun d => d.parameters.length) = some 0 := by decide +kernel
set_option maxHeartbeats 800000 in
set_option maxRecDepth 100000 in
theorem m_X2_digest (l : Launch) (D : va_G) (cI : ClassId) (u c1 c2 c3 c4 : Nat) {n w : Nat} {F V f g : Nat → Int32} (S : MS n w F V f g) (O Y : Nat → Int32) (e0 e7 e8 e9 e10 : Int32) (sz : Nat) : Met l yX2_digest wsX2_digest ({ frames := 4, cells := 41, slots := 212, locals := 91 } : Room) (PM D [(cI, .int)] [.ref u] sz (mdw cI u c1 c2 c3 c4 e0 n w F V O Y e7 e8 e9 e10)) (qm_l (fun rr H1 => rr = DG n w f g ∧ ∃ (O3 Y3 : Nat → Int32) (d7 d8 d9 d10 : Int32), va_P D vwCl (mdw cI u c1 c2 c3 c4 (nI 0) n w F V O3 Y3 d7 d8 d9 d10) H1) (va_A (mdw cI u c1 c2 c3 c4 e0 n w F V O Y e7 e8 e9 e10) sz)) 41 212 (va_A (mdw cI u c1 c2 c3 c4 e0 n w F V O Y e7 e8 e9 e10) sz) := by
  obtain ⟨hn3, hn, hw2, hF, hV, hO⟩ := id S
  refine bd_m (Qc := (fun A => qm_l (fun rr H1 => rr = DG n w f g ∧ ∃ (O3 Y3 : Nat → Int32) (d7 d8 d9 d10 : Int32), va_P D vwCl (mdw cI u c1 c2 c3 c4 (nI 0) n w F V O3 Y3 d7 d8 d9 d10) H1) A)) (cc := cX2_digest) (maxL := 10) (ret := (some .long)) (by decide) rfl (Nat.le_of_ble_eq_true rfl) ?_
  intro p e s m args below meth c ls A CF hr hlocks hK hP hD hA hS hl hin
  obtain ⟨hx, hb, hml, hown, hts⟩ := id CF
  have hl : lv_has ls 10 [(0, .ref u)] := hl
  have hP : va_P D vwCl [(u, .inr (2, [.int e0, .int (nI n), .int (nI w), .ref c1, .ref c2, .ref c3, .ref c4, .int e7, .int e8, .int e9, .int e10])), (c1, .inl (cI, 40, .inl F)), (c2, .inl (cI, 40, .inl V)), (c3, .inl (cI, 40, .inl O)), (c4, .inl (cI, 40, .inl Y))] s.heap := hP
  have hD : va_D A [(u, .inr (2, [.int e0, .int (nI n), .int (nI w), .ref c1, .ref c2, .ref c3, .ref c4, .int e7, .int e8, .int e9, .int e10])), (c1, .inl (cI, 40, .inl F)), (c2, .inl (cI, 40, .inl V)), (c3, .inl (cI, 40, .inl O)), (c4, .inl (cI, 40, .inl Y))] := hD
  generalize hH0 : s.heap = H at hP
  have hS : va_S A s.heap H [] := by rw [← hH0]; exact va_S.rf
  generalize hlc0 : ([] : List Loc) = locs at hS ⊢
  refine lv_aload_n hx hb dX2_digest_0 rfl (lv_at hl 0 rfl) ?_
  refine lv_iconst (v := nI 0) hx hb dX2_digest_1 (by decide) ?_
  refine va_put (D := D) (ci := 2) (v := .int (nI 0)) (ty := .int) (C := RX2) (T := TX2) (N := 11) hx hb hts (fun _ h => (List.mem_cons_of_mem _ (List.mem_append_right _ h))) tyX2 tyX2_ok nmX2 hown hK hP hD hS 0 rfl rfl 0 (by decide) (hts _ (List.mem_of_getElem? (i := 1) rfl)) (fun _ h9 => h9) rfl (by decide +kernel) rfl rfl (Nat.le_of_ble_eq_true rfl) dX2_digest_2 (fun H locs hP hD hS => ?_)
  have hP : va_P D vwCl [(u, .inr (2, [.int (nI 0), .int (nI n), .int (nI w), .ref c1, .ref c2, .ref c3, .ref c4, .int e7, .int e8, .int e9, .int e10])), (c1, .inl (cI, 40, .inl F)), (c2, .inl (cI, 40, .inl V)), (c3, .inl (cI, 40, .inl O)), (c4, .inl (cI, 40, .inl Y))] H := hP
  have hD : va_D A [(u, .inr (2, [.int (nI 0), .int (nI n), .int (nI w), .ref c1, .ref c2, .ref c3, .ref c4, .int e7, .int e8, .int e9, .int e10])), (c1, .inl (cI, 40, .inl F)), (c2, .inl (cI, 40, .inl V)), (c3, .inl (cI, 40, .inl O)), (c4, .inl (cI, 40, .inl Y))] := hD
  refine lv_bipush (v := nI 12) hx hb dX2_digest_5 (by decide) ?_
  refine va_newa (ty := .int) (a0 := (12, .inl (fun _ => 0))) hx hb (hts _ (List.mem_of_getElem? (i := 2) rfl)) rfl hK hP hD hS hA (fun _ => rfl) (nI_pos (by decide)) (nI_clamp (by decide)) (Nat.le_of_ble_eq_true rfl) (Nat.le_of_ble_eq_true rfl) (Nat.le_of_ble_eq_true rfl) dX2_digest_7 (fun q7 cA H hK1 hP hD hS => ?_)
  obtain rfl : cI = cA := ar_one hK1 0 1 rfl rfl
  have hP : va_P D vwCl [(u, .inr (2, [.int (nI 0), .int (nI n), .int (nI w), .ref c1, .ref c2, .ref c3, .ref c4, .int e7, .int e8, .int e9, .int e10])), (c1, .inl (cI, 40, .inl F)), (c2, .inl (cI, 40, .inl V)), (c3, .inl (cI, 40, .inl O)), (c4, .inl (cI, 40, .inl Y)), (q7, .inl (cI, 12, .inl (fun _ => 0)))] H := hP
  have hD : va_D A [(u, .inr (2, [.int (nI 0), .int (nI n), .int (nI w), .ref c1, .ref c2, .ref c3, .ref c4, .int e7, .int e8, .int e9, .int e10])), (c1, .inl (cI, 40, .inl F)), (c2, .inl (cI, 40, .inl V)), (c3, .inl (cI, 40, .inl O)), (c4, .inl (cI, 40, .inl Y)), (q7, .inl (cI, 12, .inl (fun _ => 0)))] := hD
  refine lv_dup hx hb dX2_digest_9 rfl ?_
  refine lv_iconst (v := nI 0) hx hb dX2_digest_10 (by decide) ?_
  refine lv_aload_n hx hb dX2_digest_11 rfl (lv_at hl 0 rfl) ?_
  refine va_get (D := D) (ci := 2) (v := .int (nI n)) (C := RX2) (T := TX2) (N := 11) hx hb hts (fun _ h => (List.mem_cons_of_mem _ (List.mem_append_right _ h))) hown hK hP 0 rfl rfl 1 (by decide) (hts _ (List.mem_of_getElem? (i := 3) rfl)) (fun _ h9 => h9) rfl dX2_digest_12 ?_
  refine as_i hx hb hK hP hD hS 5 0 rfl rfl (k := 0) (by omega) (by omega) dX2_digest_15 (fun H locs hP hD hS => ?_)
  have hP : va_P D vwCl [(u, .inr (2, [.int (nI 0), .int (nI n), .int (nI w), .ref c1, .ref c2, .ref c3, .ref c4, .int e7, .int e8, .int e9, .int e10])), (c1, .inl (cI, 40, .inl F)), (c2, .inl (cI, 40, .inl V)), (c3, .inl (cI, 40, .inl O)), (c4, .inl (cI, 40, .inl Y)), (q7, .inl (cI, 12, .inl (upd (fun _ => 0) 0 (nI n))))] H := hP
  have hD : va_D A [(u, .inr (2, [.int (nI 0), .int (nI n), .int (nI w), .ref c1, .ref c2, .ref c3, .ref c4, .int e7, .int e8, .int e9, .int e10])), (c1, .inl (cI, 40, .inl F)), (c2, .inl (cI, 40, .inl V)), (c3, .inl (cI, 40, .inl O)), (c4, .inl (cI, 40, .inl Y)), (q7, .inl (cI, 12, .inl (upd (fun _ => 0) 0 (nI n))))] := hD
  refine lv_dup hx hb dX2_digest_16 rfl ?_
  refine lv_iconst (v := nI 1) hx hb dX2_digest_17 (by decide) ?_
  refine lv_aload_n hx hb dX2_digest_18 rfl (lv_at hl 0 rfl) ?_
  refine va_get (D := D) (ci := 2) (v := .int (nI w)) (C := RX2) (T := TX2) (N := 11) hx hb hts (fun _ h => (List.mem_cons_of_mem _ (List.mem_append_right _ h))) hown hK hP 0 rfl rfl 2 (by decide) (hts _ (List.mem_of_getElem? (i := 4) rfl)) (fun _ h9 => h9) rfl dX2_digest_19 ?_
  refine as_i hx hb hK hP hD hS 5 0 rfl rfl (k := 1) (by omega) (by omega) dX2_digest_22 (fun H locs hP hD hS => ?_)
  have hP : va_P D vwCl [(u, .inr (2, [.int (nI 0), .int (nI n), .int (nI w), .ref c1, .ref c2, .ref c3, .ref c4, .int e7, .int e8, .int e9, .int e10])), (c1, .inl (cI, 40, .inl F)), (c2, .inl (cI, 40, .inl V)), (c3, .inl (cI, 40, .inl O)), (c4, .inl (cI, 40, .inl Y)), (q7, .inl (cI, 12, .inl (upd (upd (fun _ => 0) 0 (nI n)) 1 (nI w))))] H := hP
  have hD : va_D A [(u, .inr (2, [.int (nI 0), .int (nI n), .int (nI w), .ref c1, .ref c2, .ref c3, .ref c4, .int e7, .int e8, .int e9, .int e10])), (c1, .inl (cI, 40, .inl F)), (c2, .inl (cI, 40, .inl V)), (c3, .inl (cI, 40, .inl O)), (c4, .inl (cI, 40, .inl Y)), (q7, .inl (cI, 12, .inl (upd (upd (fun _ => 0) 0 (nI n)) 1 (nI w))))] := hD
  refine lv_dup hx hb dX2_digest_23 rfl ?_
  refine lv_iconst (v := nI 2) hx hb dX2_digest_24 (by decide) ?_
  refine lv_aload_n hx hb dX2_digest_25 rfl (lv_at hl 0 rfl) ?_
  refine pv_i CF (m_X2_many l D cI u c1 c2 c3 c4 S O Y (nI 0) e7 e8 e9 e10 ) (cwV 0 hts gX2_digest_X2_many rfl rfl rfl k_X2_many ⟨Nat.le_of_ble_eq_true rfl, Nat.le_of_ble_eq_true rfl⟩) hK (hP.sub [0, 1, 2, 3, 4] rfl) rfl rfl rfl rfl hl.1 rfl (Nat.le_of_ble_eq_true rfl) dX2_digest_26 ⟨by show _ ≤ 41; omega, by show _ ≤ 212; omega⟩ ?_
  refine as_i hx hb hK hP hD hS 5 0 rfl rfl (k := 2) (by omega) (by omega) dX2_digest_29 (fun H locs hP hD hS => ?_)
  have hP : va_P D vwCl [(u, .inr (2, [.int (nI 0), .int (nI n), .int (nI w), .ref c1, .ref c2, .ref c3, .ref c4, .int e7, .int e8, .int e9, .int e10])), (c1, .inl (cI, 40, .inl F)), (c2, .inl (cI, 40, .inl V)), (c3, .inl (cI, 40, .inl O)), (c4, .inl (cI, 40, .inl Y)), (q7, .inl (cI, 12, .inl (upd (upd (upd (fun _ => 0) 0 (nI n)) 1 (nI w)) 2 (nI (ct n f (nI 1))))))] H := hP
  have hD : va_D A [(u, .inr (2, [.int (nI 0), .int (nI n), .int (nI w), .ref c1, .ref c2, .ref c3, .ref c4, .int e7, .int e8, .int e9, .int e10])), (c1, .inl (cI, 40, .inl F)), (c2, .inl (cI, 40, .inl V)), (c3, .inl (cI, 40, .inl O)), (c4, .inl (cI, 40, .inl Y)), (q7, .inl (cI, 12, .inl (upd (upd (upd (fun _ => 0) 0 (nI n)) 1 (nI w)) 2 (nI (ct n f (nI 1))))))] := hD
  refine lv_dup hx hb dX2_digest_30 rfl ?_
  refine lv_iconst (v := nI 3) hx hb dX2_digest_31 (by decide) ?_
  refine lv_aload_n hx hb dX2_digest_32 rfl (lv_at hl 0 rfl) ?_
  refine lv_bipush (v := (-2)) hx hb dX2_digest_33 (by decide) ?_
  refine pv_i CF (m_X2_count l D cI u c1 c2 c3 c4 S O Y (nI 0) e7 e8 e9 e10 (-2)) (cwV 1 hts gX2_digest_X2_count rfl rfl rfl k_X2_count ⟨Nat.le_of_ble_eq_true rfl, Nat.le_of_ble_eq_true rfl⟩) hK (hP.sub [0, 1, 2, 3, 4] rfl) rfl rfl rfl rfl hl.1 rfl (Nat.le_of_ble_eq_true rfl) dX2_digest_35 ⟨by show _ ≤ 41; omega, by show _ ≤ 212; omega⟩ ?_
  refine tp_i (y := (nI (ct n f (nI 2)))) (congrArg nI (cw_ct n f)) ?_
  refine as_i hx hb hK hP hD hS 5 0 rfl rfl (k := 3) (by omega) (by omega) dX2_digest_38 (fun H locs hP hD hS => ?_)
  have hP : va_P D vwCl [(u, .inr (2, [.int (nI 0), .int (nI n), .int (nI w), .ref c1, .ref c2, .ref c3, .ref c4, .int e7, .int e8, .int e9, .int e10])), (c1, .inl (cI, 40, .inl F)), (c2, .inl (cI, 40, .inl V)), (c3, .inl (cI, 40, .inl O)), (c4, .inl (cI, 40, .inl Y)), (q7, .inl (cI, 12, .inl (upd (upd (upd (upd (fun _ => 0) 0 (nI n)) 1 (nI w)) 2 (nI (ct n f (nI 1)))) 3 (nI (ct n f (nI 2))))))] H := hP
  have hD : va_D A [(u, .inr (2, [.int (nI 0), .int (nI n), .int (nI w), .ref c1, .ref c2, .ref c3, .ref c4, .int e7, .int e8, .int e9, .int e10])), (c1, .inl (cI, 40, .inl F)), (c2, .inl (cI, 40, .inl V)), (c3, .inl (cI, 40, .inl O)), (c4, .inl (cI, 40, .inl Y)), (q7, .inl (cI, 12, .inl (upd (upd (upd (upd (fun _ => 0) 0 (nI n)) 1 (nI w)) 2 (nI (ct n f (nI 1)))) 3 (nI (ct n f (nI 2))))))] := hD
  refine lv_dup hx hb dX2_digest_39 rfl ?_
  refine lv_iconst (v := nI 4) hx hb dX2_digest_40 (by decide) ?_
  refine lv_aload_n hx hb dX2_digest_41 rfl (lv_at hl 0 rfl) ?_
  refine pv_i CF (m_X2_all l D cI u c1 c2 c3 c4 S O Y (nI 0) e7 e8 e9 e10 ) (cwV 0 hts gX2_digest_X2_all rfl rfl rfl k_X2_all ⟨Nat.le_of_ble_eq_true rfl, Nat.le_of_ble_eq_true rfl⟩) hK (hP.sub [0, 1, 2, 3, 4] rfl) rfl rfl rfl rfl hl.1 rfl (Nat.le_of_ble_eq_true rfl) dX2_digest_42 ⟨by show _ ≤ 41; omega, by show _ ≤ 212; omega⟩ ?_
  refine as_i hx hb hK hP hD hS 5 0 rfl rfl (k := 4) (by omega) (by omega) dX2_digest_45 (fun H locs hP hD hS => ?_)
  have hP : va_P D vwCl [(u, .inr (2, [.int (nI 0), .int (nI n), .int (nI w), .ref c1, .ref c2, .ref c3, .ref c4, .int e7, .int e8, .int e9, .int e10])), (c1, .inl (cI, 40, .inl F)), (c2, .inl (cI, 40, .inl V)), (c3, .inl (cI, 40, .inl O)), (c4, .inl (cI, 40, .inl Y)), (q7, .inl (cI, 12, .inl (upd (upd (upd (upd (upd (fun _ => 0) 0 (nI n)) 1 (nI w)) 2 (nI (ct n f (nI 1)))) 3 (nI (ct n f (nI 2)))) 4 (wa n g))))] H := hP
  have hD : va_D A [(u, .inr (2, [.int (nI 0), .int (nI n), .int (nI w), .ref c1, .ref c2, .ref c3, .ref c4, .int e7, .int e8, .int e9, .int e10])), (c1, .inl (cI, 40, .inl F)), (c2, .inl (cI, 40, .inl V)), (c3, .inl (cI, 40, .inl O)), (c4, .inl (cI, 40, .inl Y)), (q7, .inl (cI, 12, .inl (upd (upd (upd (upd (upd (fun _ => 0) 0 (nI n)) 1 (nI w)) 2 (nI (ct n f (nI 1)))) 3 (nI (ct n f (nI 2)))) 4 (wa n g))))] := hD
  refine lv_dup hx hb dX2_digest_46 rfl ?_
  refine lv_iconst (v := nI 5) hx hb dX2_digest_47 (by decide) ?_
  refine lv_aload_n hx hb dX2_digest_48 rfl (lv_at hl 0 rfl) ?_
  refine pv_i CF (m_X2_heaviest l D cI u c1 c2 c3 c4 S O Y (nI 0) e7 e8 e9 e10 ) (cwV 0 hts gX2_digest_X2_heaviest rfl rfl rfl k_X2_heaviest ⟨Nat.le_of_ble_eq_true rfl, Nat.le_of_ble_eq_true rfl⟩) hK (hP.sub [0, 1, 2, 3, 4] rfl) rfl rfl rfl rfl hl.1 rfl (Nat.le_of_ble_eq_true rfl) dX2_digest_49 ⟨by show _ ≤ 41; omega, by show _ ≤ 212; omega⟩ ?_
  refine as_i hx hb hK hP hD hS 5 0 rfl rfl (k := 5) (by omega) (by omega) dX2_digest_52 (fun H locs hP hD hS => ?_)
  have hP : va_P D vwCl [(u, .inr (2, [.int (nI 0), .int (nI n), .int (nI w), .ref c1, .ref c2, .ref c3, .ref c4, .int e7, .int e8, .int e9, .int e10])), (c1, .inl (cI, 40, .inl F)), (c2, .inl (cI, 40, .inl V)), (c3, .inl (cI, 40, .inl O)), (c4, .inl (cI, 40, .inl Y)), (q7, .inl (cI, 12, .inl (upd (upd (upd (upd (upd (upd (fun _ => 0) 0 (nI n)) 1 (nI w)) 2 (nI (ct n f (nI 1)))) 3 (nI (ct n f (nI 2)))) 4 (wa n g)) 5 ((hv n g).1))))] H := hP
  have hD : va_D A [(u, .inr (2, [.int (nI 0), .int (nI n), .int (nI w), .ref c1, .ref c2, .ref c3, .ref c4, .int e7, .int e8, .int e9, .int e10])), (c1, .inl (cI, 40, .inl F)), (c2, .inl (cI, 40, .inl V)), (c3, .inl (cI, 40, .inl O)), (c4, .inl (cI, 40, .inl Y)), (q7, .inl (cI, 12, .inl (upd (upd (upd (upd (upd (upd (fun _ => 0) 0 (nI n)) 1 (nI w)) 2 (nI (ct n f (nI 1)))) 3 (nI (ct n f (nI 2)))) 4 (wa n g)) 5 ((hv n g).1))))] := hD
  refine lv_dup hx hb dX2_digest_53 rfl ?_
  refine lv_bipush (v := nI 6) hx hb dX2_digest_54 (by decide) ?_
  refine lv_aload_n hx hb dX2_digest_56 rfl (lv_at hl 0 rfl) ?_
  have hPc : va_P D vwCl [(u, .inr (2, [.int (nI 0), .int (nI n), .int (nI w), .ref c1, .ref c2, .ref c3, .ref c4, .int e7, .int e8, .int e9, .int e10])), (c1, .inl (cI, 40, .inl F)), (c2, .inl (cI, 40, .inl V)), (c3, .inl (cI, 40, .inl O)), (c4, .inl (cI, 40, .inl Y))] H := hP.sub [0, 1, 2, 3, 4] rfl
  have hDc : va_D A [(u, .inr (2, [.int (nI 0), .int (nI n), .int (nI w), .ref c1, .ref c2, .ref c3, .ref c4, .int e7, .int e8, .int e9, .int e10])), (c1, .inl (cI, 40, .inl F)), (c2, .inl (cI, 40, .inl V)), (c3, .inl (cI, 40, .inl O)), (c4, .inl (cI, 40, .inl Y))] := hD.sub [0, 1, 2, 3, 4] (by decide) rfl
  have hFc := va_free (wc := [(u, .inr (2, [.int (nI 0), .int (nI n), .int (nI w), .ref c1, .ref c2, .ref c3, .ref c4, .int e7, .int e8, .int e9, .int e10])), (c1, .inl (cI, 40, .inl F)), (c2, .inl (cI, 40, .inl V)), (c3, .inl (cI, 40, .inl O)), (c4, .inl (cI, 40, .inl Y))]) hD hS hA [0, 1, 2, 3, 4] rfl
  refine pq_i (va_runV (rest := [.int (nI 6), .ref q7, .ref q7]) CF (m_X2_looksForAll l D cI u c1 c2 c3 c4 S O Y (nI 0) e7 e8 e9 e10  H.size) (cwV 0 hts gX2_digest_X2_looksForAll rfl rfl rfl k_X2_looksForAll ⟨Nat.le_of_ble_eq_true rfl, Nat.le_of_ble_eq_true rfl⟩) (mv_pre hK hPc hDc rfl rfl rfl) rfl rfl hl.1 rfl (lv_room (Nat.le_of_ble_eq_true rfl)) dX2_digest_57 ⟨by show _ ≤ 41; omega, by show _ ≤ 212; omega⟩) hS hFc (fun r1 H locs hB hk1 hS => ?_)
  obtain ⟨rfl, a7, a8, a9, a10, hP1⟩ := hB
  obtain ⟨hP, hD⟩ := jn (wb := [(u, .inr (2, [.int (nI 0), .int (nI n), .int (nI w), .ref c1, .ref c2, .ref c3, .ref c4, .int a7, .int a8, .int a9, .int a10])), (c1, .inl (cI, 40, .inl F)), (c2, .inl (cI, 40, .inl V)), (c3, .inl (cI, 40, .inl O)), (c4, .inl (cI, 40, .inl Y)), (q7, .inl (cI, 12, .inl (upd (upd (upd (upd (upd (upd (fun _ => 0) 0 (nI n)) 1 (nI w)) 2 (nI (ct n f (nI 1)))) 3 (nI (ct n f (nI 2)))) 4 (wa n g)) 5 ((hv n g).1))))]) (w1 := [(u, .inr (2, [.int (nI 0), .int (nI n), .int (nI w), .ref c1, .ref c2, .ref c3, .ref c4, .int a7, .int a8, .int a9, .int a10])), (c1, .inl (cI, 40, .inl F)), (c2, .inl (cI, 40, .inl V)), (c3, .inl (cI, 40, .inl O)), (c4, .inl (cI, 40, .inl Y))]) hP hD [0, 1, 2, 3, 4] [5] rfl rfl rfl rfl 6 rfl (by decide) (by decide) hk1 hP1
  refine as_i hx hb hK hP hD hS 5 0 rfl rfl (k := 6) (by omega) (by omega) dX2_digest_60 (fun H locs hP hD hS => ?_)
  have hP : va_P D vwCl [(u, .inr (2, [.int (nI 0), .int (nI n), .int (nI w), .ref c1, .ref c2, .ref c3, .ref c4, .int a7, .int a8, .int a9, .int a10])), (c1, .inl (cI, 40, .inl F)), (c2, .inl (cI, 40, .inl V)), (c3, .inl (cI, 40, .inl O)), (c4, .inl (cI, 40, .inl Y)), (q7, .inl (cI, 12, .inl (upd (upd (upd (upd (upd (upd (upd (fun _ => 0) 0 (nI n)) 1 (nI w)) 2 (nI (ct n f (nI 1)))) 3 (nI (ct n f (nI 2)))) 4 (wa n g)) 5 ((hv n g).1)) 6 (nI (sm n w f)))))] H := hP
  have hD : va_D A [(u, .inr (2, [.int (nI 0), .int (nI n), .int (nI w), .ref c1, .ref c2, .ref c3, .ref c4, .int a7, .int a8, .int a9, .int a10])), (c1, .inl (cI, 40, .inl F)), (c2, .inl (cI, 40, .inl V)), (c3, .inl (cI, 40, .inl O)), (c4, .inl (cI, 40, .inl Y)), (q7, .inl (cI, 12, .inl (upd (upd (upd (upd (upd (upd (upd (fun _ => 0) 0 (nI n)) 1 (nI w)) 2 (nI (ct n f (nI 1)))) 3 (nI (ct n f (nI 2)))) 4 (wa n g)) 5 ((hv n g).1)) 6 (nI (sm n w f)))))] := hD
  refine lv_dup hx hb dX2_digest_61 rfl ?_
  refine lv_bipush (v := nI 7) hx hb dX2_digest_62 (by decide) ?_
  refine lv_aload_n hx hb dX2_digest_64 rfl (lv_at hl 0 rfl) ?_
  have hPc : va_P D vwCl [(u, .inr (2, [.int (nI 0), .int (nI n), .int (nI w), .ref c1, .ref c2, .ref c3, .ref c4, .int a7, .int a8, .int a9, .int a10])), (c1, .inl (cI, 40, .inl F)), (c2, .inl (cI, 40, .inl V)), (c3, .inl (cI, 40, .inl O)), (c4, .inl (cI, 40, .inl Y))] H := hP.sub [0, 1, 2, 3, 4] rfl
  have hDc : va_D A [(u, .inr (2, [.int (nI 0), .int (nI n), .int (nI w), .ref c1, .ref c2, .ref c3, .ref c4, .int a7, .int a8, .int a9, .int a10])), (c1, .inl (cI, 40, .inl F)), (c2, .inl (cI, 40, .inl V)), (c3, .inl (cI, 40, .inl O)), (c4, .inl (cI, 40, .inl Y))] := hD.sub [0, 1, 2, 3, 4] (by decide) rfl
  have hFc := va_free (wc := [(u, .inr (2, [.int (nI 0), .int (nI n), .int (nI w), .ref c1, .ref c2, .ref c3, .ref c4, .int a7, .int a8, .int a9, .int a10])), (c1, .inl (cI, 40, .inl F)), (c2, .inl (cI, 40, .inl V)), (c3, .inl (cI, 40, .inl O)), (c4, .inl (cI, 40, .inl Y))]) hD hS hA [0, 1, 2, 3, 4] rfl
  refine pq_i (va_runV (rest := [.int (nI 7), .ref q7, .ref q7]) CF (m_X2_far l D cI u c1 c2 c3 c4 S O Y (nI 0) a7 a8 a9 a10  H.size) (cwV 0 hts gX2_digest_X2_far rfl rfl rfl k_X2_far ⟨Nat.le_of_ble_eq_true rfl, Nat.le_of_ble_eq_true rfl⟩) (mv_pre hK hPc hDc rfl rfl rfl) rfl rfl hl.1 rfl (lv_room (Nat.le_of_ble_eq_true rfl)) dX2_digest_65 ⟨by show _ ≤ 41; omega, by show _ ≤ 212; omega⟩) hS hFc (fun r1 H locs hB hk1 hS => ?_)
  obtain ⟨rfl, b7, b8, b9, b10, hP1⟩ := hB
  obtain ⟨hP, hD⟩ := jn (wb := [(u, .inr (2, [.int (nI 0), .int (nI n), .int (nI w), .ref c1, .ref c2, .ref c3, .ref c4, .int b7, .int b8, .int b9, .int b10])), (c1, .inl (cI, 40, .inl F)), (c2, .inl (cI, 40, .inl V)), (c3, .inl (cI, 40, .inl O)), (c4, .inl (cI, 40, .inl Y)), (q7, .inl (cI, 12, .inl (upd (upd (upd (upd (upd (upd (upd (fun _ => 0) 0 (nI n)) 1 (nI w)) 2 (nI (ct n f (nI 1)))) 3 (nI (ct n f (nI 2)))) 4 (wa n g)) 5 ((hv n g).1)) 6 (nI (sm n w f)))))]) (w1 := [(u, .inr (2, [.int (nI 0), .int (nI n), .int (nI w), .ref c1, .ref c2, .ref c3, .ref c4, .int b7, .int b8, .int b9, .int b10])), (c1, .inl (cI, 40, .inl F)), (c2, .inl (cI, 40, .inl V)), (c3, .inl (cI, 40, .inl O)), (c4, .inl (cI, 40, .inl Y))]) hP hD [0, 1, 2, 3, 4] [5] rfl rfl rfl rfl 6 rfl (by decide) (by decide) hk1 hP1
  refine as_i hx hb hK hP hD hS 5 0 rfl rfl (k := 7) (by omega) (by omega) dX2_digest_68 (fun H locs hP hD hS => ?_)
  have hP : va_P D vwCl [(u, .inr (2, [.int (nI 0), .int (nI n), .int (nI w), .ref c1, .ref c2, .ref c3, .ref c4, .int b7, .int b8, .int b9, .int b10])), (c1, .inl (cI, 40, .inl F)), (c2, .inl (cI, 40, .inl V)), (c3, .inl (cI, 40, .inl O)), (c4, .inl (cI, 40, .inl Y)), (q7, .inl (cI, 12, .inl (upd (upd (upd (upd (upd (upd (upd (upd (fun _ => 0) 0 (nI n)) 1 (nI w)) 2 (nI (ct n f (nI 1)))) 3 (nI (ct n f (nI 2)))) 4 (wa n g)) 5 ((hv n g).1)) 6 (nI (sm n w f))) 7 ((fa n w f).1))))] H := hP
  have hD : va_D A [(u, .inr (2, [.int (nI 0), .int (nI n), .int (nI w), .ref c1, .ref c2, .ref c3, .ref c4, .int b7, .int b8, .int b9, .int b10])), (c1, .inl (cI, 40, .inl F)), (c2, .inl (cI, 40, .inl V)), (c3, .inl (cI, 40, .inl O)), (c4, .inl (cI, 40, .inl Y)), (q7, .inl (cI, 12, .inl (upd (upd (upd (upd (upd (upd (upd (upd (fun _ => 0) 0 (nI n)) 1 (nI w)) 2 (nI (ct n f (nI 1)))) 3 (nI (ct n f (nI 2)))) 4 (wa n g)) 5 ((hv n g).1)) 6 (nI (sm n w f))) 7 ((fa n w f).1))))] := hD
  refine lv_dup hx hb dX2_digest_69 rfl ?_
  refine lv_bipush (v := nI 8) hx hb dX2_digest_70 (by decide) ?_
  refine lv_aload_n hx hb dX2_digest_72 rfl (lv_at hl 0 rfl) ?_
  refine pv_i CF (m_X2_rowsNow l D cI u c1 c2 c3 c4 S O Y (nI 0) b7 b8 b9 b10 ) (cwV 0 hts gX2_digest_X2_rowsNow rfl rfl rfl k_X2_rowsNow ⟨Nat.le_of_ble_eq_true rfl, Nat.le_of_ble_eq_true rfl⟩) hK (hP.sub [0, 1, 2, 3, 4] rfl) rfl rfl rfl rfl hl.1 rfl (Nat.le_of_ble_eq_true rfl) dX2_digest_73 ⟨by show _ ≤ 41; omega, by show _ ≤ 212; omega⟩ ?_
  refine as_i hx hb hK hP hD hS 5 0 rfl rfl (k := 8) (by omega) (by omega) dX2_digest_76 (fun H locs hP hD hS => ?_)
  have hP : va_P D vwCl [(u, .inr (2, [.int (nI 0), .int (nI n), .int (nI w), .ref c1, .ref c2, .ref c3, .ref c4, .int b7, .int b8, .int b9, .int b10])), (c1, .inl (cI, 40, .inl F)), (c2, .inl (cI, 40, .inl V)), (c3, .inl (cI, 40, .inl O)), (c4, .inl (cI, 40, .inl Y)), (q7, .inl (cI, 12, .inl (upd (upd (upd (upd (upd (upd (upd (upd (upd (fun _ => 0) 0 (nI n)) 1 (nI w)) 2 (nI (ct n f (nI 1)))) 3 (nI (ct n f (nI 2)))) 4 (wa n g)) 5 ((hv n g).1)) 6 (nI (sm n w f))) 7 ((fa n w f).1)) 8 (nI (rc n f)))))] H := hP
  have hD : va_D A [(u, .inr (2, [.int (nI 0), .int (nI n), .int (nI w), .ref c1, .ref c2, .ref c3, .ref c4, .int b7, .int b8, .int b9, .int b10])), (c1, .inl (cI, 40, .inl F)), (c2, .inl (cI, 40, .inl V)), (c3, .inl (cI, 40, .inl O)), (c4, .inl (cI, 40, .inl Y)), (q7, .inl (cI, 12, .inl (upd (upd (upd (upd (upd (upd (upd (upd (upd (fun _ => 0) 0 (nI n)) 1 (nI w)) 2 (nI (ct n f (nI 1)))) 3 (nI (ct n f (nI 2)))) 4 (wa n g)) 5 ((hv n g).1)) 6 (nI (sm n w f))) 7 ((fa n w f).1)) 8 (nI (rc n f)))))] := hD
  refine lv_dup hx hb dX2_digest_77 rfl ?_
  refine lv_bipush (v := nI 9) hx hb dX2_digest_78 (by decide) ?_
  refine lv_aload_n hx hb dX2_digest_80 rfl (lv_at hl 0 rfl) ?_
  refine pv_i CF (m_X2_longest l D cI u c1 c2 c3 c4 S O Y (nI 0) b7 b8 b9 b10 ) (cwV 0 hts gX2_digest_X2_longest rfl rfl rfl k_X2_longest ⟨Nat.le_of_ble_eq_true rfl, Nat.le_of_ble_eq_true rfl⟩) hK (hP.sub [0, 1, 2, 3, 4] rfl) rfl rfl rfl rfl hl.1 rfl (Nat.le_of_ble_eq_true rfl) dX2_digest_81 ⟨by show _ ≤ 41; omega, by show _ ≤ 212; omega⟩ ?_
  refine as_i hx hb hK hP hD hS 5 0 rfl rfl (k := 9) (by omega) (by omega) dX2_digest_84 (fun H locs hP hD hS => ?_)
  have hP : va_P D vwCl [(u, .inr (2, [.int (nI 0), .int (nI n), .int (nI w), .ref c1, .ref c2, .ref c3, .ref c4, .int b7, .int b8, .int b9, .int b10])), (c1, .inl (cI, 40, .inl F)), (c2, .inl (cI, 40, .inl V)), (c3, .inl (cI, 40, .inl O)), (c4, .inl (cI, 40, .inl Y)), (q7, .inl (cI, 12, .inl (upd (upd (upd (upd (upd (upd (upd (upd (upd (upd (fun _ => 0) 0 (nI n)) 1 (nI w)) 2 (nI (ct n f (nI 1)))) 3 (nI (ct n f (nI 2)))) 4 (wa n g)) 5 ((hv n g).1)) 6 (nI (sm n w f))) 7 ((fa n w f).1)) 8 (nI (rc n f))) 9 (nI (lr n f)))))] H := hP
  have hD : va_D A [(u, .inr (2, [.int (nI 0), .int (nI n), .int (nI w), .ref c1, .ref c2, .ref c3, .ref c4, .int b7, .int b8, .int b9, .int b10])), (c1, .inl (cI, 40, .inl F)), (c2, .inl (cI, 40, .inl V)), (c3, .inl (cI, 40, .inl O)), (c4, .inl (cI, 40, .inl Y)), (q7, .inl (cI, 12, .inl (upd (upd (upd (upd (upd (upd (upd (upd (upd (upd (fun _ => 0) 0 (nI n)) 1 (nI w)) 2 (nI (ct n f (nI 1)))) 3 (nI (ct n f (nI 2)))) 4 (wa n g)) 5 ((hv n g).1)) 6 (nI (sm n w f))) 7 ((fa n w f).1)) 8 (nI (rc n f))) 9 (nI (lr n f)))))] := hD
  refine lv_dup hx hb dX2_digest_85 rfl ?_
  refine lv_bipush (v := nI 10) hx hb dX2_digest_86 (by decide) ?_
  refine lv_aload_n hx hb dX2_digest_88 rfl (lv_at hl 0 rfl) ?_
  have hPc : va_P D vwCl [(u, .inr (2, [.int (nI 0), .int (nI n), .int (nI w), .ref c1, .ref c2, .ref c3, .ref c4, .int b7, .int b8, .int b9, .int b10])), (c1, .inl (cI, 40, .inl F)), (c2, .inl (cI, 40, .inl V)), (c3, .inl (cI, 40, .inl O)), (c4, .inl (cI, 40, .inl Y))] H := hP.sub [0, 1, 2, 3, 4] rfl
  have hDc : va_D A [(u, .inr (2, [.int (nI 0), .int (nI n), .int (nI w), .ref c1, .ref c2, .ref c3, .ref c4, .int b7, .int b8, .int b9, .int b10])), (c1, .inl (cI, 40, .inl F)), (c2, .inl (cI, 40, .inl V)), (c3, .inl (cI, 40, .inl O)), (c4, .inl (cI, 40, .inl Y))] := hD.sub [0, 1, 2, 3, 4] (by decide) rfl
  have hFc := va_free (wc := [(u, .inr (2, [.int (nI 0), .int (nI n), .int (nI w), .ref c1, .ref c2, .ref c3, .ref c4, .int b7, .int b8, .int b9, .int b10])), (c1, .inl (cI, 40, .inl F)), (c2, .inl (cI, 40, .inl V)), (c3, .inl (cI, 40, .inl O)), (c4, .inl (cI, 40, .inl Y))]) hD hS hA [0, 1, 2, 3, 4] rfl
  refine pq_i (va_runV (rest := [.int (nI 10), .ref q7, .ref q7]) CF (m_X2_best l D cI u c1 c2 c3 c4 S O Y (nI 0) b7 b8 b9 b10  H.size) (cwV 0 hts gX2_digest_X2_best rfl rfl rfl k_X2_best ⟨Nat.le_of_ble_eq_true rfl, Nat.le_of_ble_eq_true rfl⟩) (mv_pre hK hPc hDc rfl rfl rfl) rfl rfl hl.1 rfl (lv_room (Nat.le_of_ble_eq_true rfl)) dX2_digest_89 ⟨by show _ ≤ 41; omega, by show _ ≤ 212; omega⟩) hS hFc (fun r1 H locs hB hk1 hS => ?_)
  obtain ⟨rfl, O3, Y3, g7, g8, g9, g10, hP1⟩ := hB
  obtain ⟨hP, hD⟩ := jn (wb := [(u, .inr (2, [.int (nI 0), .int (nI n), .int (nI w), .ref c1, .ref c2, .ref c3, .ref c4, .int g7, .int g8, .int g9, .int g10])), (c1, .inl (cI, 40, .inl F)), (c2, .inl (cI, 40, .inl V)), (c3, .inl (cI, 40, .inl O3)), (c4, .inl (cI, 40, .inl Y3)), (q7, .inl (cI, 12, .inl (upd (upd (upd (upd (upd (upd (upd (upd (upd (upd (fun _ => 0) 0 (nI n)) 1 (nI w)) 2 (nI (ct n f (nI 1)))) 3 (nI (ct n f (nI 2)))) 4 (wa n g)) 5 ((hv n g).1)) 6 (nI (sm n w f))) 7 ((fa n w f).1)) 8 (nI (rc n f))) 9 (nI (lr n f)))))]) (w1 := [(u, .inr (2, [.int (nI 0), .int (nI n), .int (nI w), .ref c1, .ref c2, .ref c3, .ref c4, .int g7, .int g8, .int g9, .int g10])), (c1, .inl (cI, 40, .inl F)), (c2, .inl (cI, 40, .inl V)), (c3, .inl (cI, 40, .inl O3)), (c4, .inl (cI, 40, .inl Y3))]) hP hD [0, 1, 2, 3, 4] [5] rfl rfl rfl rfl 6 rfl (by decide) (by decide) hk1 hP1
  refine as_i hx hb hK hP hD hS 5 0 rfl rfl (k := 10) (by omega) (by omega) dX2_digest_92 (fun H locs hP hD hS => ?_)
  have hP : va_P D vwCl [(u, .inr (2, [.int (nI 0), .int (nI n), .int (nI w), .ref c1, .ref c2, .ref c3, .ref c4, .int g7, .int g8, .int g9, .int g10])), (c1, .inl (cI, 40, .inl F)), (c2, .inl (cI, 40, .inl V)), (c3, .inl (cI, 40, .inl O3)), (c4, .inl (cI, 40, .inl Y3)), (q7, .inl (cI, 12, .inl (upd (upd (upd (upd (upd (upd (upd (upd (upd (upd (upd (fun _ => 0) 0 (nI n)) 1 (nI w)) 2 (nI (ct n f (nI 1)))) 3 (nI (ct n f (nI 2)))) 4 (wa n g)) 5 ((hv n g).1)) 6 (nI (sm n w f))) 7 ((fa n w f).1)) 8 (nI (rc n f))) 9 (nI (lr n f))) 10 ((bst n f g).1))))] H := hP
  have hD : va_D A [(u, .inr (2, [.int (nI 0), .int (nI n), .int (nI w), .ref c1, .ref c2, .ref c3, .ref c4, .int g7, .int g8, .int g9, .int g10])), (c1, .inl (cI, 40, .inl F)), (c2, .inl (cI, 40, .inl V)), (c3, .inl (cI, 40, .inl O3)), (c4, .inl (cI, 40, .inl Y3)), (q7, .inl (cI, 12, .inl (upd (upd (upd (upd (upd (upd (upd (upd (upd (upd (upd (fun _ => 0) 0 (nI n)) 1 (nI w)) 2 (nI (ct n f (nI 1)))) 3 (nI (ct n f (nI 2)))) 4 (wa n g)) 5 ((hv n g).1)) 6 (nI (sm n w f))) 7 ((fa n w f).1)) 8 (nI (rc n f))) 9 (nI (lr n f))) 10 ((bst n f g).1))))] := hD
  refine lv_dup hx hb dX2_digest_93 rfl ?_
  refine lv_bipush (v := nI 11) hx hb dX2_digest_94 (by decide) ?_
  refine lv_aload_n hx hb dX2_digest_96 rfl (lv_at hl 0 rfl) ?_
  refine lv_bipush (v := nI 20) hx hb dX2_digest_97 (by decide) ?_
  have hPc : va_P D vwCl [(u, .inr (2, [.int (nI 0), .int (nI n), .int (nI w), .ref c1, .ref c2, .ref c3, .ref c4, .int g7, .int g8, .int g9, .int g10])), (c1, .inl (cI, 40, .inl F)), (c2, .inl (cI, 40, .inl V)), (c3, .inl (cI, 40, .inl O3)), (c4, .inl (cI, 40, .inl Y3))] H := hP.sub [0, 1, 2, 3, 4] rfl
  have hDc : va_D A [(u, .inr (2, [.int (nI 0), .int (nI n), .int (nI w), .ref c1, .ref c2, .ref c3, .ref c4, .int g7, .int g8, .int g9, .int g10])), (c1, .inl (cI, 40, .inl F)), (c2, .inl (cI, 40, .inl V)), (c3, .inl (cI, 40, .inl O3)), (c4, .inl (cI, 40, .inl Y3))] := hD.sub [0, 1, 2, 3, 4] (by decide) rfl
  have hFc := va_free (wc := [(u, .inr (2, [.int (nI 0), .int (nI n), .int (nI w), .ref c1, .ref c2, .ref c3, .ref c4, .int g7, .int g8, .int g9, .int g10])), (c1, .inl (cI, 40, .inl F)), (c2, .inl (cI, 40, .inl V)), (c3, .inl (cI, 40, .inl O3)), (c4, .inl (cI, 40, .inl Y3))]) hD hS hA [0, 1, 2, 3, 4] rfl
  refine pq_i (va_runV (rest := [.int (nI 11), .ref q7, .ref q7]) CF (m_X2_wanted l D cI u c1 c2 c3 c4 S O3 Y3 (nI 0) g7 g8 g9 g10 20 (by decide) H.size) (cwV 1 hts gX2_digest_X2_wanted rfl rfl rfl k_X2_wanted ⟨Nat.le_of_ble_eq_true rfl, Nat.le_of_ble_eq_true rfl⟩) (mv_pre hK hPc hDc rfl rfl rfl) rfl rfl hl.1 rfl (lv_room (Nat.le_of_ble_eq_true rfl)) dX2_digest_99 ⟨by show _ ≤ 41; omega, by show _ ≤ 212; omega⟩) hS hFc (fun r1 H locs hB hk1 hS => ?_)
  obtain ⟨rfl, O4, Y4, h7, h8, h9, h10, hP1⟩ := hB
  obtain ⟨hP, hD⟩ := jn (wb := [(u, .inr (2, [.int (nI 0), .int (nI n), .int (nI w), .ref c1, .ref c2, .ref c3, .ref c4, .int h7, .int h8, .int h9, .int h10])), (c1, .inl (cI, 40, .inl F)), (c2, .inl (cI, 40, .inl V)), (c3, .inl (cI, 40, .inl O4)), (c4, .inl (cI, 40, .inl Y4)), (q7, .inl (cI, 12, .inl (upd (upd (upd (upd (upd (upd (upd (upd (upd (upd (upd (fun _ => 0) 0 (nI n)) 1 (nI w)) 2 (nI (ct n f (nI 1)))) 3 (nI (ct n f (nI 2)))) 4 (wa n g)) 5 ((hv n g).1)) 6 (nI (sm n w f))) 7 ((fa n w f).1)) 8 (nI (rc n f))) 9 (nI (lr n f))) 10 ((bst n f g).1))))]) (w1 := [(u, .inr (2, [.int (nI 0), .int (nI n), .int (nI w), .ref c1, .ref c2, .ref c3, .ref c4, .int h7, .int h8, .int h9, .int h10])), (c1, .inl (cI, 40, .inl F)), (c2, .inl (cI, 40, .inl V)), (c3, .inl (cI, 40, .inl O4)), (c4, .inl (cI, 40, .inl Y4))]) hP hD [0, 1, 2, 3, 4] [5] rfl rfl rfl rfl 6 rfl (by decide) (by decide) hk1 hP1
  refine as_i hx hb hK hP hD hS 5 0 rfl rfl (k := 11) (by omega) (by omega) dX2_digest_102 (fun H locs hP hD hS => ?_)
  have hP : va_P D vwCl [(u, .inr (2, [.int (nI 0), .int (nI n), .int (nI w), .ref c1, .ref c2, .ref c3, .ref c4, .int h7, .int h8, .int h9, .int h10])), (c1, .inl (cI, 40, .inl F)), (c2, .inl (cI, 40, .inl V)), (c3, .inl (cI, 40, .inl O4)), (c4, .inl (cI, 40, .inl Y4)), (q7, .inl (cI, 12, .inl (upd (upd (upd (upd (upd (upd (upd (upd (upd (upd (upd (upd (fun _ => 0) 0 (nI n)) 1 (nI w)) 2 (nI (ct n f (nI 1)))) 3 (nI (ct n f (nI 2)))) 4 (wa n g)) 5 ((hv n g).1)) 6 (nI (sm n w f))) 7 ((fa n w f).1)) 8 (nI (rc n f))) 9 (nI (lr n f))) 10 ((bst n f g).1)) 11 (fh n w f g 20))))] H := hP
  have hD : va_D A [(u, .inr (2, [.int (nI 0), .int (nI n), .int (nI w), .ref c1, .ref c2, .ref c3, .ref c4, .int h7, .int h8, .int h9, .int h10])), (c1, .inl (cI, 40, .inl F)), (c2, .inl (cI, 40, .inl V)), (c3, .inl (cI, 40, .inl O4)), (c4, .inl (cI, 40, .inl Y4)), (q7, .inl (cI, 12, .inl (upd (upd (upd (upd (upd (upd (upd (upd (upd (upd (upd (upd (fun _ => 0) 0 (nI n)) 1 (nI w)) 2 (nI (ct n f (nI 1)))) 3 (nI (ct n f (nI 2)))) 4 (wa n g)) 5 ((hv n g).1)) 6 (nI (sm n w f))) 7 ((fa n w f).1)) 8 (nI (rc n f))) 9 (nI (lr n f))) 10 ((bst n f g).1)) 11 (fh n w f g 20))))] := hD
  obtain ⟨B1, hB1⟩ : ∃ B : Nat → Int32, B = upd (upd (upd (upd (upd (upd (upd (upd (upd (upd (upd (upd (fun _ => 0) 0 (nI n)) 1 (nI w)) 2 (nI (ct n f (nI 1)))) 3 (nI (ct n f (nI 2)))) 4 (wa n g)) 5 ((hv n g).1)) 6 (nI (sm n w f))) 7 ((fa n w f).1)) 8 (nI (rc n f))) 9 (nI (lr n f))) 10 ((bst n f g).1)) 11 (fh n w f g 20) := ⟨_, rfl⟩
  rw [← hB1] at hP hD
  refine lv_astore_n (lv' := [(1, .ref q7), (0, .ref u)]) hx hb dX2_digest_103 rfl hl (by decide) rfl (fun ls hl => ?_)
  refine lv_ldc2 (v := 2237) hx hb hown (hts _ (List.mem_of_getElem? (i := 5) rfl)) dX2_digest_104 ?_
  refine lv_lstore_n (lv' := [(2, .long 2237), (1, .ref q7), (0, .ref u)]) hx hb dX2_digest_107 rfl hl (by decide) rfl (fun ls hl => ?_)
  refine lv_aload_n hx hb dX2_digest_108 rfl (lv_at hl 1 rfl) ?_
  refine lv_astore (lv' := [(4, .ref q7), (2, .long 2237), (1, .ref q7), (0, .ref u)]) hx hb dX2_digest_109 hl (by decide) rfl (fun ls hl => ?_)
  refine lv_aload hx hb dX2_digest_111 (lv_at hl 0 rfl) ?_
  refine va_alen (v := nI 12) hx hb hK hP 5 0 rfl rfl rfl dX2_digest_113 ?_
  refine lv_istore (lv' := [(5, .int (nI 12)), (4, .ref q7), (2, .long 2237), (1, .ref q7), (0, .ref u)]) hx hb dX2_digest_114 hl (by decide) rfl (fun ls hl => ?_)
  refine lv_iconst (v := nI 0) hx hb dX2_digest_116 (by decide) ?_
  refine lv_istore (lv' := [(6, .int (nI 0)), (5, .int (nI 12)), (4, .ref q7), (2, .long 2237), (1, .ref q7), (0, .ref u)]) hx hb dX2_digest_117 hl (by decide) rfl (fun ls hl => ?_)
  have LP119 : ∀ (q j : Nat) (d : Int64), j + q = 12 → fo (fun d j => dx d (B1 j)) q j d = fo (fun d j => dx d (B1 j)) 12 0 2237 → ∀ (ls : Array Slot), lv_has ls 10 [(6, .int (nI j)), (5, .int (nI 12)), (4, .ref q7), (2, .long d), (1, .ref q7), (0, .ref u)] → W p l e ({ frames := 4, cells := 41, slots := 212, locals := 91 } : Room) s m args below meth c H locs 1 12 (MQ below (qm_l (fun rr H1 => rr = DG n w f g ∧ ∃ (O3 Y3 : Nat → Int32) (d7 d8 d9 d10 : Int32), va_P D vwCl (mdw cI u c1 c2 c3 c4 (nI 0) n w F V O3 Y3 d7 d8 d9 d10) H1) A) args s 41 212 A) (F0 m 119 ls []) := by
    intro q
    induction q with
    | zero =>
      intro j d h1 h2 ls hl
      refine lv_iload hx hb dX2_digest_119 (lv_at hl 0 rfl) ?_
      refine lv_iload hx hb dX2_digest_121 (lv_at hl 1 rfl) ?_
      refine bn_ge (tgt := 149) hx hb dX2_digest_123 (by decide) (by omega) (by omega) (fun c123 => ?_) (fun c123 => ?_)
      · skip
        have hDG : fo (fun d k => dx (dx (dx (dx (dx d (st (f k))) (cn (f k))) (g k)) (nI (rl n f k))) (nI (lk n w f (k * 7)))) n 0 d = DG n w f g := by
          have e1 : d = fo (fun d j => dx d (B1 j)) 12 0 2237 := h2
          have bB10 : B1 0 = nI n := by rw [hB1, upd_ne (by decide), upd_ne (by decide), upd_ne (by decide), upd_ne (by decide), upd_ne (by decide), upd_ne (by decide), upd_ne (by decide), upd_ne (by decide), upd_ne (by decide), upd_ne (by decide), upd_ne (by decide), upd_same]
          have bB11 : B1 1 = nI w := by rw [hB1, upd_ne (by decide), upd_ne (by decide), upd_ne (by decide), upd_ne (by decide), upd_ne (by decide), upd_ne (by decide), upd_ne (by decide), upd_ne (by decide), upd_ne (by decide), upd_ne (by decide), upd_same]
          have bB12 : B1 2 = nI (ct n f (nI 1)) := by rw [hB1, upd_ne (by decide), upd_ne (by decide), upd_ne (by decide), upd_ne (by decide), upd_ne (by decide), upd_ne (by decide), upd_ne (by decide), upd_ne (by decide), upd_ne (by decide), upd_same]
          have bB13 : B1 3 = nI (ct n f (nI 2)) := by rw [hB1, upd_ne (by decide), upd_ne (by decide), upd_ne (by decide), upd_ne (by decide), upd_ne (by decide), upd_ne (by decide), upd_ne (by decide), upd_ne (by decide), upd_same]
          have bB14 : B1 4 = wa n g := by rw [hB1, upd_ne (by decide), upd_ne (by decide), upd_ne (by decide), upd_ne (by decide), upd_ne (by decide), upd_ne (by decide), upd_ne (by decide), upd_same]
          have bB15 : B1 5 = (hv n g).1 := by rw [hB1, upd_ne (by decide), upd_ne (by decide), upd_ne (by decide), upd_ne (by decide), upd_ne (by decide), upd_ne (by decide), upd_same]
          have bB16 : B1 6 = nI (sm n w f) := by rw [hB1, upd_ne (by decide), upd_ne (by decide), upd_ne (by decide), upd_ne (by decide), upd_ne (by decide), upd_same]
          have bB17 : B1 7 = (fa n w f).1 := by rw [hB1, upd_ne (by decide), upd_ne (by decide), upd_ne (by decide), upd_ne (by decide), upd_same]
          have bB18 : B1 8 = nI (rc n f) := by rw [hB1, upd_ne (by decide), upd_ne (by decide), upd_ne (by decide), upd_same]
          have bB19 : B1 9 = nI (lr n f) := by rw [hB1, upd_ne (by decide), upd_ne (by decide), upd_same]
          have bB110 : B1 10 = (bst n f g).1 := by rw [hB1, upd_ne (by decide), upd_same]
          have bB111 : B1 11 = fh n w f g 20 := by rw [hB1, upd_same]
          rw [e1, fo12, bB10, bB11, bB12, bB13, bB14, bB15, bB16, bB17, bB18, bB19, bB110, bB111]
          rfl
        refine lv_iconst (v := nI 0) hx hb dX2_digest_149 (by decide) ?_
        refine lv_istore (lv' := [(4, .int (nI 0)), (6, .int (nI j)), (5, .int (nI 12)), (2, .long d), (1, .ref q7), (0, .ref u)]) hx hb dX2_digest_150 hl (by decide) rfl (fun ls hl => ?_)
        have LP152 : ∀ (q i kc ks : Nat) (d : Int64) (d7 d8 d9 d10 : Int32), i + q = n → kc ≤ 1 + i → ks ≤ 12 + 5 * i → fo (fun d k => dx (dx (dx (dx (dx d (st (f k))) (cn (f k))) (g k)) (nI (rl n f k))) (nI (lk n w f (k * 7)))) q i d = DG n w f g → ∀ (H : Heap) (locs : List Loc), va_P D vwCl [(u, .inr (2, [.int (nI 0), .int (nI n), .int (nI w), .ref c1, .ref c2, .ref c3, .ref c4, .int d7, .int d8, .int d9, .int d10])), (c1, .inl (cI, 40, .inl F)), (c2, .inl (cI, 40, .inl V)), (c3, .inl (cI, 40, .inl O4)), (c4, .inl (cI, 40, .inl Y4)), (q7, .inl (cI, 12, .inl B1))] H → va_D A [(u, .inr (2, [.int (nI 0), .int (nI n), .int (nI w), .ref c1, .ref c2, .ref c3, .ref c4, .int d7, .int d8, .int d9, .int d10])), (c1, .inl (cI, 40, .inl F)), (c2, .inl (cI, 40, .inl V)), (c3, .inl (cI, 40, .inl O4)), (c4, .inl (cI, 40, .inl Y4)), (q7, .inl (cI, 12, .inl B1))] → va_S A s.heap H locs → ∀ (ls : Array Slot), lv_has ls 10 [(4, .int (nI i)), (2, .long d), (0, .ref u)] → W p l e ({ frames := 4, cells := 41, slots := 212, locals := 91 } : Room) s m args below meth c H locs kc ks (MQ below (qm_l (fun rr H1 => rr = DG n w f g ∧ ∃ (O3 Y3 : Nat → Int32) (d7 d8 d9 d10 : Int32), va_P D vwCl (mdw cI u c1 c2 c3 c4 (nI 0) n w F V O3 Y3 d7 d8 d9 d10) H1) A) args s 41 212 A) (F0 m 152 ls []) := by
          intro q
          induction q with
          | zero =>
            intro i kc ks d d7 d8 d9 d10 h3 hkc hks h4 H locs hP hD hS ls hl
            refine lv_iload hx hb dX2_digest_152 (lv_at hl 0 rfl) ?_
            refine lv_aload_n hx hb dX2_digest_154 rfl (lv_at hl 2 rfl) ?_
            refine va_get (D := D) (ci := 2) (v := .int (nI n)) (C := RX2) (T := TX2) (N := 11) hx hb hts (fun _ h => (List.mem_cons_of_mem _ (List.mem_append_right _ h))) hown hK hP 0 rfl rfl 1 (by decide) (hts _ (List.mem_of_getElem? (i := 3) rfl)) (fun _ h9 => h9) rfl dX2_digest_155 ?_
            refine bn_ge (tgt := 262) hx hb dX2_digest_158 (by decide) (by omega) (by omega) (fun c158 => ?_) (fun c158 => ?_)
            · skip
              refine lv_lload_n hx hb dX2_digest_262 rfl (lv_at hl 1 rfl) ?_
              refine w_widen (k := 41) (n := 212) (by omega) (by omega) ?_
              exact em_l hx hb hr hlocks hS (⟨h4, O4, Y4, _, _, _, _, hP.sub [0, 1, 2, 3, 4] rfl⟩) dX2_digest_263
            · skip
              omega
          | succ q ih =>
            intro i kc ks d d7 d8 d9 d10 h3 hkc hks h4 H locs hP hD hS ls hl
            refine lv_iload hx hb dX2_digest_152 (lv_at hl 0 rfl) ?_
            refine lv_aload_n hx hb dX2_digest_154 rfl (lv_at hl 2 rfl) ?_
            refine va_get (D := D) (ci := 2) (v := .int (nI n)) (C := RX2) (T := TX2) (N := 11) hx hb hts (fun _ h => (List.mem_cons_of_mem _ (List.mem_append_right _ h))) hown hK hP 0 rfl rfl 1 (by decide) (hts _ (List.mem_of_getElem? (i := 3) rfl)) (fun _ h9 => h9) rfl dX2_digest_155 ?_
            refine bn_ge (tgt := 262) hx hb dX2_digest_158 (by decide) (by omega) (by omega) (fun c158 => ?_) (fun c158 => ?_)
            · skip
              omega
            · skip
              refine lv_iconst (v := nI 5) hx hb dX2_digest_161 (by decide) ?_
              refine va_newa (ty := .int) (a0 := (5, .inl (fun _ => 0))) hx hb (hts _ (List.mem_of_getElem? (i := 2) rfl)) rfl hK hP hD hS hA (fun _ => rfl) (nI_pos (by decide)) (nI_clamp (by decide)) (Nat.le_of_ble_eq_true rfl) (by show _ ≤ 41; omega) (by show _ ≤ 212; omega) dX2_digest_162 (fun q162 cA H hK1 hP hD hS => ?_)
              obtain rfl : cI = cA := ar_one hK1 0 1 rfl rfl
              have hP : va_P D vwCl [(u, .inr (2, [.int (nI 0), .int (nI n), .int (nI w), .ref c1, .ref c2, .ref c3, .ref c4, .int d7, .int d8, .int d9, .int d10])), (c1, .inl (cI, 40, .inl F)), (c2, .inl (cI, 40, .inl V)), (c3, .inl (cI, 40, .inl O4)), (c4, .inl (cI, 40, .inl Y4)), (q7, .inl (cI, 12, .inl B1)), (q162, .inl (cI, 5, .inl (fun _ => 0)))] H := hP
              have hD : va_D A [(u, .inr (2, [.int (nI 0), .int (nI n), .int (nI w), .ref c1, .ref c2, .ref c3, .ref c4, .int d7, .int d8, .int d9, .int d10])), (c1, .inl (cI, 40, .inl F)), (c2, .inl (cI, 40, .inl V)), (c3, .inl (cI, 40, .inl O4)), (c4, .inl (cI, 40, .inl Y4)), (q7, .inl (cI, 12, .inl B1)), (q162, .inl (cI, 5, .inl (fun _ => 0)))] := hD
              refine lv_dup hx hb dX2_digest_164 rfl ?_
              refine lv_iconst (v := nI 0) hx hb dX2_digest_165 (by decide) ?_
              refine lv_aload_n hx hb dX2_digest_166 rfl (lv_at hl 2 rfl) ?_
              refine lv_iload hx hb dX2_digest_167 (lv_at hl 0 rfl) ?_
              refine pv_i CF (m_X2_state l D cI u c1 c2 c3 c4 S O4 Y4 (nI 0) d7 d8 d9 d10 i (by omega)) (cwV 1 hts gX2_digest_X2_state rfl rfl rfl k_X2_state ⟨Nat.le_of_ble_eq_true rfl, Nat.le_of_ble_eq_true rfl⟩) hK (hP.sub [0, 1, 2, 3, 4] rfl) rfl rfl rfl rfl hl.1 rfl (Nat.le_of_ble_eq_true rfl) dX2_digest_169 ⟨by show _ ≤ 41; omega, by show _ ≤ 212; omega⟩ ?_
              refine as_i hx hb hK hP hD hS 6 0 rfl rfl (k := 0) (by omega) (by omega) dX2_digest_172 (fun H locs hP hD hS => ?_)
              have hP : va_P D vwCl [(u, .inr (2, [.int (nI 0), .int (nI n), .int (nI w), .ref c1, .ref c2, .ref c3, .ref c4, .int d7, .int d8, .int d9, .int d10])), (c1, .inl (cI, 40, .inl F)), (c2, .inl (cI, 40, .inl V)), (c3, .inl (cI, 40, .inl O4)), (c4, .inl (cI, 40, .inl Y4)), (q7, .inl (cI, 12, .inl B1)), (q162, .inl (cI, 5, .inl (upd (fun _ => 0) 0 (st (f i)))))] H := hP
              have hD : va_D A [(u, .inr (2, [.int (nI 0), .int (nI n), .int (nI w), .ref c1, .ref c2, .ref c3, .ref c4, .int d7, .int d8, .int d9, .int d10])), (c1, .inl (cI, 40, .inl F)), (c2, .inl (cI, 40, .inl V)), (c3, .inl (cI, 40, .inl O4)), (c4, .inl (cI, 40, .inl Y4)), (q7, .inl (cI, 12, .inl B1)), (q162, .inl (cI, 5, .inl (upd (fun _ => 0) 0 (st (f i)))))] := hD
              refine lv_dup hx hb dX2_digest_173 rfl ?_
              refine lv_iconst (v := nI 1) hx hb dX2_digest_174 (by decide) ?_
              refine lv_aload_n hx hb dX2_digest_175 rfl (lv_at hl 2 rfl) ?_
              refine lv_iload hx hb dX2_digest_176 (lv_at hl 0 rfl) ?_
              refine pv_i CF (m_X2_coat l D cI u c1 c2 c3 c4 S O4 Y4 (nI 0) d7 d8 d9 d10 i (by omega)) (cwV 1 hts gX2_digest_X2_coat rfl rfl rfl k_X2_coat ⟨Nat.le_of_ble_eq_true rfl, Nat.le_of_ble_eq_true rfl⟩) hK (hP.sub [0, 1, 2, 3, 4] rfl) rfl rfl rfl rfl hl.1 rfl (Nat.le_of_ble_eq_true rfl) dX2_digest_178 ⟨by show _ ≤ 41; omega, by show _ ≤ 212; omega⟩ ?_
              refine as_i hx hb hK hP hD hS 6 0 rfl rfl (k := 1) (by omega) (by omega) dX2_digest_181 (fun H locs hP hD hS => ?_)
              have hP : va_P D vwCl [(u, .inr (2, [.int (nI 0), .int (nI n), .int (nI w), .ref c1, .ref c2, .ref c3, .ref c4, .int d7, .int d8, .int d9, .int d10])), (c1, .inl (cI, 40, .inl F)), (c2, .inl (cI, 40, .inl V)), (c3, .inl (cI, 40, .inl O4)), (c4, .inl (cI, 40, .inl Y4)), (q7, .inl (cI, 12, .inl B1)), (q162, .inl (cI, 5, .inl (upd (upd (fun _ => 0) 0 (st (f i))) 1 (cn (f i)))))] H := hP
              have hD : va_D A [(u, .inr (2, [.int (nI 0), .int (nI n), .int (nI w), .ref c1, .ref c2, .ref c3, .ref c4, .int d7, .int d8, .int d9, .int d10])), (c1, .inl (cI, 40, .inl F)), (c2, .inl (cI, 40, .inl V)), (c3, .inl (cI, 40, .inl O4)), (c4, .inl (cI, 40, .inl Y4)), (q7, .inl (cI, 12, .inl B1)), (q162, .inl (cI, 5, .inl (upd (upd (fun _ => 0) 0 (st (f i))) 1 (cn (f i)))))] := hD
              refine lv_dup hx hb dX2_digest_182 rfl ?_
              refine lv_iconst (v := nI 2) hx hb dX2_digest_183 (by decide) ?_
              refine lv_aload_n hx hb dX2_digest_184 rfl (lv_at hl 2 rfl) ?_
              refine lv_iload hx hb dX2_digest_185 (lv_at hl 0 rfl) ?_
              refine pv_i CF (m_X2_weightOn l D cI u c1 c2 c3 c4 S O4 Y4 (nI 0) d7 d8 d9 d10 i (by omega)) (cwV 1 hts gX2_digest_X2_weightOn rfl rfl rfl k_X2_weightOn ⟨Nat.le_of_ble_eq_true rfl, Nat.le_of_ble_eq_true rfl⟩) hK (hP.sub [0, 1, 2, 3, 4] rfl) rfl rfl rfl rfl hl.1 rfl (Nat.le_of_ble_eq_true rfl) dX2_digest_187 ⟨by show _ ≤ 41; omega, by show _ ≤ 212; omega⟩ ?_
              refine as_i hx hb hK hP hD hS 6 0 rfl rfl (k := 2) (by omega) (by omega) dX2_digest_190 (fun H locs hP hD hS => ?_)
              have hP : va_P D vwCl [(u, .inr (2, [.int (nI 0), .int (nI n), .int (nI w), .ref c1, .ref c2, .ref c3, .ref c4, .int d7, .int d8, .int d9, .int d10])), (c1, .inl (cI, 40, .inl F)), (c2, .inl (cI, 40, .inl V)), (c3, .inl (cI, 40, .inl O4)), (c4, .inl (cI, 40, .inl Y4)), (q7, .inl (cI, 12, .inl B1)), (q162, .inl (cI, 5, .inl (upd (upd (upd (fun _ => 0) 0 (st (f i))) 1 (cn (f i))) 2 (g i))))] H := hP
              have hD : va_D A [(u, .inr (2, [.int (nI 0), .int (nI n), .int (nI w), .ref c1, .ref c2, .ref c3, .ref c4, .int d7, .int d8, .int d9, .int d10])), (c1, .inl (cI, 40, .inl F)), (c2, .inl (cI, 40, .inl V)), (c3, .inl (cI, 40, .inl O4)), (c4, .inl (cI, 40, .inl Y4)), (q7, .inl (cI, 12, .inl B1)), (q162, .inl (cI, 5, .inl (upd (upd (upd (fun _ => 0) 0 (st (f i))) 1 (cn (f i))) 2 (g i))))] := hD
              refine lv_dup hx hb dX2_digest_191 rfl ?_
              refine lv_iconst (v := nI 3) hx hb dX2_digest_192 (by decide) ?_
              refine lv_aload_n hx hb dX2_digest_193 rfl (lv_at hl 2 rfl) ?_
              refine lv_iload hx hb dX2_digest_194 (lv_at hl 0 rfl) ?_
              refine pv_i CF (m_X2_rowOf l D cI u c1 c2 c3 c4 S O4 Y4 (nI 0) d7 d8 d9 d10 i (by omega)) (cwV 1 hts gX2_digest_X2_rowOf rfl rfl rfl k_X2_rowOf ⟨Nat.le_of_ble_eq_true rfl, Nat.le_of_ble_eq_true rfl⟩) hK (hP.sub [0, 1, 2, 3, 4] rfl) rfl rfl rfl rfl hl.1 rfl (Nat.le_of_ble_eq_true rfl) dX2_digest_196 ⟨by show _ ≤ 41; omega, by show _ ≤ 212; omega⟩ ?_
              refine as_i hx hb hK hP hD hS 6 0 rfl rfl (k := 3) (by omega) (by omega) dX2_digest_199 (fun H locs hP hD hS => ?_)
              have hP : va_P D vwCl [(u, .inr (2, [.int (nI 0), .int (nI n), .int (nI w), .ref c1, .ref c2, .ref c3, .ref c4, .int d7, .int d8, .int d9, .int d10])), (c1, .inl (cI, 40, .inl F)), (c2, .inl (cI, 40, .inl V)), (c3, .inl (cI, 40, .inl O4)), (c4, .inl (cI, 40, .inl Y4)), (q7, .inl (cI, 12, .inl B1)), (q162, .inl (cI, 5, .inl (upd (upd (upd (upd (fun _ => 0) 0 (st (f i))) 1 (cn (f i))) 2 (g i)) 3 (nI (rl n f i)))))] H := hP
              have hD : va_D A [(u, .inr (2, [.int (nI 0), .int (nI n), .int (nI w), .ref c1, .ref c2, .ref c3, .ref c4, .int d7, .int d8, .int d9, .int d10])), (c1, .inl (cI, 40, .inl F)), (c2, .inl (cI, 40, .inl V)), (c3, .inl (cI, 40, .inl O4)), (c4, .inl (cI, 40, .inl Y4)), (q7, .inl (cI, 12, .inl B1)), (q162, .inl (cI, 5, .inl (upd (upd (upd (upd (fun _ => 0) 0 (st (f i))) 1 (cn (f i))) 2 (g i)) 3 (nI (rl n f i)))))] := hD
              refine lv_dup hx hb dX2_digest_200 rfl ?_
              refine lv_iconst (v := nI 4) hx hb dX2_digest_201 (by decide) ?_
              refine lv_aload_n hx hb dX2_digest_202 rfl (lv_at hl 2 rfl) ?_
              refine lv_bipush (v := nI 7) hx hb dX2_digest_203 (by decide) ?_
              refine lv_iload hx hb dX2_digest_205 (lv_at hl 0 rfl) ?_
              refine an_mul hx hb dX2_digest_207 ?_
              refine tp_i (y := (nI (i * 7))) (congrArg nI (Nat.mul_comm 7 i)) ?_
              have hPc : va_P D vwCl [(u, .inr (2, [.int (nI 0), .int (nI n), .int (nI w), .ref c1, .ref c2, .ref c3, .ref c4, .int d7, .int d8, .int d9, .int d10])), (c1, .inl (cI, 40, .inl F)), (c2, .inl (cI, 40, .inl V)), (c3, .inl (cI, 40, .inl O4)), (c4, .inl (cI, 40, .inl Y4))] H := hP.sub [0, 1, 2, 3, 4] rfl
              have hDc : va_D A [(u, .inr (2, [.int (nI 0), .int (nI n), .int (nI w), .ref c1, .ref c2, .ref c3, .ref c4, .int d7, .int d8, .int d9, .int d10])), (c1, .inl (cI, 40, .inl F)), (c2, .inl (cI, 40, .inl V)), (c3, .inl (cI, 40, .inl O4)), (c4, .inl (cI, 40, .inl Y4))] := hD.sub [0, 1, 2, 3, 4] (by decide) rfl
              have hFc := va_free (wc := [(u, .inr (2, [.int (nI 0), .int (nI n), .int (nI w), .ref c1, .ref c2, .ref c3, .ref c4, .int d7, .int d8, .int d9, .int d10])), (c1, .inl (cI, 40, .inl F)), (c2, .inl (cI, 40, .inl V)), (c3, .inl (cI, 40, .inl O4)), (c4, .inl (cI, 40, .inl Y4))]) hD hS hA [0, 1, 2, 3, 4] rfl
              refine pq_i (va_runV (rest := [.int (nI 4), .ref q162, .ref q162]) CF (m_X2_manyLooks l D cI u c1 c2 c3 c4 S O4 Y4 (nI 0) d7 d8 d9 d10 (i * 7) (by omega) H.size) (cwV 1 hts gX2_digest_X2_manyLooks rfl rfl rfl k_X2_manyLooks ⟨Nat.le_of_ble_eq_true rfl, Nat.le_of_ble_eq_true rfl⟩) (mv_pre hK hPc hDc rfl rfl rfl) rfl rfl hl.1 rfl (lv_room (Nat.le_of_ble_eq_true rfl)) dX2_digest_208 ⟨by show _ ≤ 41; omega, by show _ ≤ 212; omega⟩) hS hFc (fun r1 H locs hB hk1 hS => ?_)
              obtain ⟨rfl, k8, k9, k10, hP1⟩ := hB
              obtain ⟨hP, hD⟩ := jn (wb := [(u, .inr (2, [.int (nI 0), .int (nI n), .int (nI w), .ref c1, .ref c2, .ref c3, .ref c4, .int (nI (lk n w f (i * 7))), .int k8, .int k9, .int k10])), (c1, .inl (cI, 40, .inl F)), (c2, .inl (cI, 40, .inl V)), (c3, .inl (cI, 40, .inl O4)), (c4, .inl (cI, 40, .inl Y4)), (q7, .inl (cI, 12, .inl B1)), (q162, .inl (cI, 5, .inl (upd (upd (upd (upd (fun _ => 0) 0 (st (f i))) 1 (cn (f i))) 2 (g i)) 3 (nI (rl n f i)))))]) (w1 := [(u, .inr (2, [.int (nI 0), .int (nI n), .int (nI w), .ref c1, .ref c2, .ref c3, .ref c4, .int (nI (lk n w f (i * 7))), .int k8, .int k9, .int k10])), (c1, .inl (cI, 40, .inl F)), (c2, .inl (cI, 40, .inl V)), (c3, .inl (cI, 40, .inl O4)), (c4, .inl (cI, 40, .inl Y4))]) hP hD [0, 1, 2, 3, 4] [5, 6] rfl rfl rfl rfl 7 rfl (by decide) (by decide) hk1 hP1
              refine as_i hx hb hK hP hD hS 6 0 rfl rfl (k := 4) (by omega) (by omega) dX2_digest_211 (fun H locs hP hD hS => ?_)
              have hP : va_P D vwCl [(u, .inr (2, [.int (nI 0), .int (nI n), .int (nI w), .ref c1, .ref c2, .ref c3, .ref c4, .int (nI (lk n w f (i * 7))), .int k8, .int k9, .int k10])), (c1, .inl (cI, 40, .inl F)), (c2, .inl (cI, 40, .inl V)), (c3, .inl (cI, 40, .inl O4)), (c4, .inl (cI, 40, .inl Y4)), (q7, .inl (cI, 12, .inl B1)), (q162, .inl (cI, 5, .inl (upd (upd (upd (upd (upd (fun _ => 0) 0 (st (f i))) 1 (cn (f i))) 2 (g i)) 3 (nI (rl n f i))) 4 (nI (lk n w f (i * 7))))))] H := hP
              have hD : va_D A [(u, .inr (2, [.int (nI 0), .int (nI n), .int (nI w), .ref c1, .ref c2, .ref c3, .ref c4, .int (nI (lk n w f (i * 7))), .int k8, .int k9, .int k10])), (c1, .inl (cI, 40, .inl F)), (c2, .inl (cI, 40, .inl V)), (c3, .inl (cI, 40, .inl O4)), (c4, .inl (cI, 40, .inl Y4)), (q7, .inl (cI, 12, .inl B1)), (q162, .inl (cI, 5, .inl (upd (upd (upd (upd (upd (fun _ => 0) 0 (st (f i))) 1 (cn (f i))) 2 (g i)) 3 (nI (rl n f i))) 4 (nI (lk n w f (i * 7))))))] := hD
              obtain ⟨B2, hB2⟩ : ∃ B : Nat → Int32, B = upd (upd (upd (upd (upd (fun _ => 0) 0 (st (f i))) 1 (cn (f i))) 2 (g i)) 3 (nI (rl n f i))) 4 (nI (lk n w f (i * 7))) := ⟨_, rfl⟩
              rw [← hB2] at hP hD
              refine lv_astore (lv' := [(5, .ref q162), (4, .int (nI i)), (2, .long d), (0, .ref u)]) hx hb dX2_digest_212 hl (by decide) rfl (fun ls hl => ?_)
              refine lv_aload hx hb dX2_digest_214 (lv_at hl 0 rfl) ?_
              refine lv_astore (lv' := [(6, .ref q162), (5, .ref q162), (4, .int (nI i)), (2, .long d), (0, .ref u)]) hx hb dX2_digest_216 hl (by decide) rfl (fun ls hl => ?_)
              refine lv_aload hx hb dX2_digest_218 (lv_at hl 0 rfl) ?_
              refine va_alen (v := nI 5) hx hb hK hP 6 0 rfl rfl rfl dX2_digest_220 ?_
              refine lv_istore (lv' := [(7, .int (nI 5)), (6, .ref q162), (5, .ref q162), (4, .int (nI i)), (2, .long d), (0, .ref u)]) hx hb dX2_digest_221 hl (by decide) rfl (fun ls hl => ?_)
              refine lv_iconst (v := nI 0) hx hb dX2_digest_223 (by decide) ?_
              refine lv_istore (lv' := [(8, .int (nI 0)), (7, .int (nI 5)), (6, .ref q162), (5, .ref q162), (4, .int (nI i)), (2, .long d), (0, .ref u)]) hx hb dX2_digest_224 hl (by decide) rfl (fun ls hl => ?_)
              have LP226 : ∀ (q5 j : Nat) (d5 : Int64), j + q5 = 5 → fo (fun d j => dx d (B2 j)) q5 j d5 = fo (fun d j => dx d (B2 j)) 5 0 d → ∀ (ls : Array Slot), lv_has ls 10 [(8, .int (nI j)), (7, .int (nI 5)), (6, .ref q162), (4, .int (nI i)), (2, .long d5), (0, .ref u)] → W p l e ({ frames := 4, cells := 41, slots := 212, locals := 91 } : Room) s m args below meth c H locs (kc + 1) (ks + 5) (MQ below (qm_l (fun rr H1 => rr = DG n w f g ∧ ∃ (O3 Y3 : Nat → Int32) (d7 d8 d9 d10 : Int32), va_P D vwCl (mdw cI u c1 c2 c3 c4 (nI 0) n w F V O3 Y3 d7 d8 d9 d10) H1) A) args s 41 212 A) (F0 m 226 ls []) := by
                intro q5
                induction q5 with
                | zero =>
                  intro j d5 h5 h6 ls hl
                  refine lv_iload hx hb dX2_digest_226 (lv_at hl 0 rfl) ?_
                  refine lv_iload hx hb dX2_digest_228 (lv_at hl 1 rfl) ?_
                  refine bn_ge (tgt := 256) hx hb dX2_digest_230 (by decide) (by omega) (by omega) (fun c230 => ?_) (fun c230 => ?_)
                  · skip
                    have e6 : d5 = (dx (dx (dx (dx (dx d (st (f i))) (cn (f i))) (g i)) (nI (rl n f i))) (nI (lk n w f (i * 7)))) := by
                      have e7 : d5 = fo (fun d j => dx d (B2 j)) 5 0 d := h6
                      have bB20 : B2 0 = st (f i) := by rw [hB2, upd_ne (by decide), upd_ne (by decide), upd_ne (by decide), upd_ne (by decide), upd_same]
                      have bB21 : B2 1 = cn (f i) := by rw [hB2, upd_ne (by decide), upd_ne (by decide), upd_ne (by decide), upd_same]
                      have bB22 : B2 2 = g i := by rw [hB2, upd_ne (by decide), upd_ne (by decide), upd_same]
                      have bB23 : B2 3 = nI (rl n f i) := by rw [hB2, upd_ne (by decide), upd_same]
                      have bB24 : B2 4 = nI (lk n w f (i * 7)) := by rw [hB2, upd_same]
                      rw [e7, fo5, bB20, bB21, bB22, bB23, bB24]
                    rw [e6] at hl
                    refine lv_iinc (v := (nI (i + 1))) (lv' := [(4, .int (nI (i + 1))), (8, .int (nI j)), (7, .int (nI 5)), (6, .ref q162), (2, .long (dx (dx (dx (dx (dx d (st (f i))) (cn (f i))) (g i)) (nI (rl n f i))) (nI (lk n w f (i * 7))))), (0, .ref u)]) hx hb dX2_digest_256 hl (k := 3) rfl (inc1 _) (by decide) rfl (fun ls hl => ?_)
                    refine lv_goto (tgt := 152) hx hb dX2_digest_259 (by decide) ?_
                    have hP : va_P D vwCl [(u, .inr (2, [.int (nI 0), .int (nI n), .int (nI w), .ref c1, .ref c2, .ref c3, .ref c4, .int (nI (lk n w f (i * 7))), .int k8, .int k9, .int k10])), (c1, .inl (cI, 40, .inl F)), (c2, .inl (cI, 40, .inl V)), (c3, .inl (cI, 40, .inl O4)), (c4, .inl (cI, 40, .inl Y4)), (q7, .inl (cI, 12, .inl B1))] H := hP.sub [0, 1, 2, 3, 4, 5] rfl
                    have hD : va_D A [(u, .inr (2, [.int (nI 0), .int (nI n), .int (nI w), .ref c1, .ref c2, .ref c3, .ref c4, .int (nI (lk n w f (i * 7))), .int k8, .int k9, .int k10])), (c1, .inl (cI, 40, .inl F)), (c2, .inl (cI, 40, .inl V)), (c3, .inl (cI, 40, .inl O4)), (c4, .inl (cI, 40, .inl Y4)), (q7, .inl (cI, 12, .inl B1))] := hD.sub [0, 1, 2, 3, 4, 5] (by decide) rfl
                    exact ih (i + 1) (kc + 1) (ks + 5) _ _ _ _ _ (by omega) (by omega) (by omega) h4 _ _ hP hD hS _ (lv_sub hl [0, 4, 5] rfl)
                  · skip
                    omega
                | succ q5 ih =>
                  intro j d5 h5 h6 ls hl
                  refine lv_iload hx hb dX2_digest_226 (lv_at hl 0 rfl) ?_
                  refine lv_iload hx hb dX2_digest_228 (lv_at hl 1 rfl) ?_
                  refine bn_ge (tgt := 256) hx hb dX2_digest_230 (by decide) (by omega) (by omega) (fun c230 => ?_) (fun c230 => ?_)
                  · skip
                    omega
                  · skip
                    refine lv_aload hx hb dX2_digest_233 (lv_at hl 2 rfl) ?_
                    refine lv_iload hx hb dX2_digest_235 (lv_at hl 0 rfl) ?_
                    refine al_i hx hb hK hP 6 0 rfl rfl (by omega) (by omega) dX2_digest_237 ?_
                    refine lv_istore (lv' := [(9, .int (B2 j)), (8, .int (nI j)), (7, .int (nI 5)), (6, .ref q162), (4, .int (nI i)), (2, .long d5), (0, .ref u)]) hx hb dX2_digest_238 hl (by decide) rfl (fun ls hl => ?_)
                    refine lv_lload_n hx hb dX2_digest_240 rfl (lv_at hl 5 rfl) ?_
                    refine lv_ldc2 (v := 31) hx hb hown (hts _ (List.mem_of_getElem? (i := 6) rfl)) dX2_digest_241 ?_
                    refine lv_lmul hx hb dX2_digest_244 ?_
                    refine lv_iload hx hb dX2_digest_245 (lv_at hl 0 rfl) ?_
                    refine lv_i2l hx hb dX2_digest_247 rfl ?_
                    refine lv_ladd hx hb dX2_digest_248 ?_
                    refine tp_l (y := dx d5 (B2 j)) rfl ?_
                    refine lv_lstore_n (lv' := [(2, .long (dx d5 (B2 j))), (9, .int (B2 j)), (8, .int (nI j)), (7, .int (nI 5)), (6, .ref q162), (4, .int (nI i)), (0, .ref u)]) hx hb dX2_digest_249 rfl hl (by decide) rfl (fun ls hl => ?_)
                    refine lv_iinc (v := (nI (j + 1))) (lv' := [(8, .int (nI (j + 1))), (2, .long (dx d5 (B2 j))), (9, .int (B2 j)), (7, .int (nI 5)), (6, .ref q162), (4, .int (nI i)), (0, .ref u)]) hx hb dX2_digest_250 hl (k := 2) rfl (inc1 _) (by decide) rfl (fun ls hl => ?_)
                    refine lv_goto (tgt := 226) hx hb dX2_digest_253 (by decide) ?_
                    exact ih (j + 1) (dx d5 (B2 j)) (by omega) h6 _ (lv_sub hl [0, 3, 4, 5, 1, 6] rfl)
              exact LP226 5 0 d (by omega) rfl _ (lv_sub hl [0, 1, 2, 4, 5, 6] rfl)
        exact LP152 n 0 1 12 _ h7 h8 h9 h10 (Nat.zero_add n) (Nat.le_refl 1) (Nat.le_refl 12) hDG _ _ hP hD hS _ (lv_sub hl [0, 3, 5] rfl)
      · skip
        omega
    | succ q ih =>
      intro j d h1 h2 ls hl
      refine lv_iload hx hb dX2_digest_119 (lv_at hl 0 rfl) ?_
      refine lv_iload hx hb dX2_digest_121 (lv_at hl 1 rfl) ?_
      refine bn_ge (tgt := 149) hx hb dX2_digest_123 (by decide) (by omega) (by omega) (fun c123 => ?_) (fun c123 => ?_)
      · skip
        omega
      · skip
        refine lv_aload hx hb dX2_digest_126 (lv_at hl 2 rfl) ?_
        refine lv_iload hx hb dX2_digest_128 (lv_at hl 0 rfl) ?_
        refine al_i hx hb hK hP 5 0 rfl rfl (by omega) (by omega) dX2_digest_130 ?_
        refine lv_istore (lv' := [(7, .int (B1 j)), (6, .int (nI j)), (5, .int (nI 12)), (4, .ref q7), (2, .long d), (1, .ref q7), (0, .ref u)]) hx hb dX2_digest_131 hl (by decide) rfl (fun ls hl => ?_)
        refine lv_lload_n hx hb dX2_digest_133 rfl (lv_at hl 4 rfl) ?_
        refine lv_ldc2 (v := 31) hx hb hown (hts _ (List.mem_of_getElem? (i := 6) rfl)) dX2_digest_134 ?_
        refine lv_lmul hx hb dX2_digest_137 ?_
        refine lv_iload hx hb dX2_digest_138 (lv_at hl 0 rfl) ?_
        refine lv_i2l hx hb dX2_digest_140 rfl ?_
        refine lv_ladd hx hb dX2_digest_141 ?_
        refine tp_l (y := dx d (B1 j)) rfl ?_
        refine lv_lstore_n (lv' := [(2, .long (dx d (B1 j))), (7, .int (B1 j)), (6, .int (nI j)), (5, .int (nI 12)), (4, .ref q7), (1, .ref q7), (0, .ref u)]) hx hb dX2_digest_142 rfl hl (by decide) rfl (fun ls hl => ?_)
        refine lv_iinc (v := (nI (j + 1))) (lv' := [(6, .int (nI (j + 1))), (2, .long (dx d (B1 j))), (7, .int (B1 j)), (5, .int (nI 12)), (4, .ref q7), (1, .ref q7), (0, .ref u)]) hx hb dX2_digest_143 hl (k := 2) rfl (inc1 _) (by decide) rfl (fun ls hl => ?_)
        refine lv_goto (tgt := 119) hx hb dX2_digest_146 (by decide) ?_
        exact ih (j + 1) (dx d (B1 j)) (by omega) h2 _ (lv_sub hl [0, 3, 4, 1, 5, 6] rfl)
  exact LP119 12 0 2237 (by omega) rfl _ (lv_sub hl [0, 1, 2, 3, 4, 5] rfl)
