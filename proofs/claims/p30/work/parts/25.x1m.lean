/-! CoatHooks: what changes the theatre or its trial -/
theorem le_of_nlt {x y : Int32} (h : ¬ x < y) : y ≤ x := by rw [Int32.lt_iff_toInt_lt] at h; rw [Int32.le_iff_toInt_le]; omega
theorem k_X1_hangAnewOnTrial : yX1_hangAnewOnTrial.cls = RX1 ∧ yX1_hangAnewOnTrial.cls ≠ "java/lang/invoke/MethodHandle" ∧ yX1_hangAnewOnTrial.cls ≠ "java/lang/invoke/VarHandle" ∧ (parseMethodDescriptor yX1_hangAnewOnTrial.desc).map (fun d => d.parameters.length) = some 2 := by decide +kernel
set_option maxHeartbeats 4000000 in
set_option maxRecDepth 100000 in
theorem m_X1_hangAnewOnTrial (l : Launch) (D : va_G) (cI : ClassId) (o r t a1 a2 b1 b2 : Nat) {n w : Nat} {F G f g : Nat → Int32} (S : RS n w F G f g) (n2 w2 : Nat) (F2 G2 : Nat → Int32) (N w1 : Nat) (hN3 : 3 ≤ N) (hN40 : N ≤ 40) (hw1 : w1 ≤ 2) (sz : Nat) : Met l yX1_hangAnewOnTrial wsX1_hangAnewOnTrial ({ frames := 3, cells := 0, slots := 0, locals := 70 } : Room) (PM D [(cI, .int)] [.ref o, .int (nI N), .int (nI w1)] sz (clw cI o r t a1 a2 b1 b2 n w F G n2 w2 F2 G2)) (qm_i (fun rr H1 => ∃ F3 G3 : Nat → Int32, va_P D vwCl (clw cI o r t a1 a2 b1 b2 n w F G N w1 F3 G3) H1 ∧ ((rr = nI 1 ∧ ∃ (T U : Nat → Int32) (z : Nat), HG n f g N w1 = some (T, U, z) ∧ RS N w1 F3 G3 T U ∧ nt N T) ∨ (rr = nI 0 ∧ HG n f g N w1 = none))) (va_A (clw cI o r t a1 a2 b1 b2 n w F G n2 w2 F2 G2) sz)) 0 0 (va_A (clw cI o r t a1 a2 b1 b2 n w F G n2 w2 F2 G2) sz) := by
  obtain ⟨hn3, hn, hw2, hF, hG, hO⟩ := id S
  refine bd_m (Qc := (fun A => qm_i (fun rr H1 => ∃ F3 G3 : Nat → Int32, va_P D vwCl (clw cI o r t a1 a2 b1 b2 n w F G N w1 F3 G3) H1 ∧ ((rr = nI 1 ∧ ∃ (T U : Nat → Int32) (z : Nat), HG n f g N w1 = some (T, U, z) ∧ RS N w1 F3 G3 T U ∧ nt N T) ∨ (rr = nI 0 ∧ HG n f g N w1 = none))) A)) (cc := cX1_hangAnewOnTrial) (maxL := 6) (ret := (some .boolean)) (by decide) rfl (Nat.le_of_ble_eq_true rfl) ?_
  intro p e s m args below meth c ls A CF hr hlocks hK hP hD hA hS hl hin
  obtain ⟨hx, hb, hml, hown, hts⟩ := id CF
  have hl : lv_has ls 6 [(0, .ref o), (1, .int (nI N)), (2, .int (nI w1))] := hl
  have hP : va_P D vwCl [(o, .inr (1, [.ref r, .ref t])), (r, .inr (0, [.ref a1, .ref a2, .int (nI n), .int (nI w)])), (a1, .inl (cI, 40, .inl F)), (a2, .inl (cI, 40, .inl G)), (t, .inr (0, [.ref b1, .ref b2, .int (nI n2), .int (nI w2)])), (b1, .inl (cI, 40, .inl F2)), (b2, .inl (cI, 40, .inl G2))] s.heap := hP
  have hD : va_D A [(o, .inr (1, [.ref r, .ref t])), (r, .inr (0, [.ref a1, .ref a2, .int (nI n), .int (nI w)])), (a1, .inl (cI, 40, .inl F)), (a2, .inl (cI, 40, .inl G)), (t, .inr (0, [.ref b1, .ref b2, .int (nI n2), .int (nI w2)])), (b1, .inl (cI, 40, .inl F2)), (b2, .inl (cI, 40, .inl G2))] := hD
  generalize hH0 : s.heap = H at hP
  have hS : va_S A s.heap H [] := by rw [← hH0]; exact va_S.rf
  generalize hlc0 : ([] : List Loc) = locs at hS ⊢
  refine lv_aload_n hx hb dX1_hangAnewOnTrial_0 rfl (lv_at hl 0 rfl) ?_
  refine va_get (D := D) (ci := 1) (v := .ref t) (C := RX1) (T := TX1) (N := 2) hx hb hts (fun _ h => (List.mem_cons_of_mem _ (List.mem_append_left _ (List.mem_append_right _ h)))) hown hK hP 0 rfl rfl 1 (by decide) (hts _ (List.mem_of_getElem? (i := 1) rfl)) (fun _ h9 => h9) rfl dX1_hangAnewOnTrial_1 ?_
  refine lv_iload_n hx hb dX1_hangAnewOnTrial_4 rfl (lv_at hl 1 rfl) ?_
  refine lv_iload_n hx hb dX1_hangAnewOnTrial_5 rfl (lv_at hl 2 rfl) ?_
  have hPc : va_P D vwCl [(t, .inr (0, [.ref b1, .ref b2, .int (nI n2), .int (nI w2)])), (b1, .inl (cI, 40, .inl F2)), (b2, .inl (cI, 40, .inl G2))] H := hP.sub [4, 5, 6] rfl
  have hDc : va_D A [(t, .inr (0, [.ref b1, .ref b2, .int (nI n2), .int (nI w2)])), (b1, .inl (cI, 40, .inl F2)), (b2, .inl (cI, 40, .inl G2))] := hD.sub [4, 5, 6] (by decide) rfl
  have hFc := va_free (wc := [(t, .inr (0, [.ref b1, .ref b2, .int (nI n2), .int (nI w2)])), (b1, .inl (cI, 40, .inl F2)), (b2, .inl (cI, 40, .inl G2))]) hD hS hA [4, 5, 6] rfl
  refine pq_v (va_runV (rest := []) CF (m_X0_clear l D cI t b1 b2 n2 w2 F2 G2 N w1 H.size) (cwV 2 hts gX1_hangAnewOnTrial_X0_clear rfl rfl rfl k_X0_clear ⟨Nat.le_of_ble_eq_true rfl, Nat.le_of_ble_eq_true rfl⟩) (mv_pre hK hPc hDc rfl rfl rfl) rfl rfl hl.1 rfl (lv_room (Nat.le_of_ble_eq_true rfl)) dX1_hangAnewOnTrial_6 ⟨Nat.le_of_ble_eq_true rfl, Nat.le_of_ble_eq_true rfl⟩) hS hFc (fun H locs hB hk1 hS => ?_)
  obtain ⟨F3, G3, hF3, hG3, hP1⟩ := hB
  obtain ⟨hP, hD⟩ := jn (wb := [(o, .inr (1, [.ref r, .ref t])), (r, .inr (0, [.ref a1, .ref a2, .int (nI n), .int (nI w)])), (a1, .inl (cI, 40, .inl F)), (a2, .inl (cI, 40, .inl G)), (t, .inr (0, [.ref b1, .ref b2, .int (nI N), .int (nI w1)])), (b1, .inl (cI, 40, .inl F3)), (b2, .inl (cI, 40, .inl G3))]) (w1 := [(t, .inr (0, [.ref b1, .ref b2, .int (nI N), .int (nI w1)])), (b1, .inl (cI, 40, .inl F3)), (b2, .inl (cI, 40, .inl G3))]) hP hD [4, 5, 6] [0, 1, 2, 3] rfl rfl rfl rfl 7 rfl (by decide) (by decide) hk1 hP1
  refine lv_iconst (v := nI 0) hx hb dX1_hangAnewOnTrial_9 (by decide) ?_
  refine lv_istore_n (lv' := [(3, .int (nI 0)), (0, .ref o), (1, .int (nI N)), (2, .int (nI w1))]) hx hb dX1_hangAnewOnTrial_10 rfl hl (by decide) rfl (fun ls hl => ?_)
  have LP11 : ∀ (q i z : Nat) (F4 G4 T U : Nat → Int32), i + q = n → RS N w1 F4 G4 T U → nt N T → hg N w1 f g q i T U z = HG n f g N w1 → ∀ (H : Heap) (locs : List Loc), va_P D vwCl [(o, .inr (1, [.ref r, .ref t])), (r, .inr (0, [.ref a1, .ref a2, .int (nI n), .int (nI w)])), (a1, .inl (cI, 40, .inl F)), (a2, .inl (cI, 40, .inl G)), (t, .inr (0, [.ref b1, .ref b2, .int (nI N), .int (nI w1)])), (b1, .inl (cI, 40, .inl F4)), (b2, .inl (cI, 40, .inl G4))] H → va_D A [(o, .inr (1, [.ref r, .ref t])), (r, .inr (0, [.ref a1, .ref a2, .int (nI n), .int (nI w)])), (a1, .inl (cI, 40, .inl F)), (a2, .inl (cI, 40, .inl G)), (t, .inr (0, [.ref b1, .ref b2, .int (nI N), .int (nI w1)])), (b1, .inl (cI, 40, .inl F4)), (b2, .inl (cI, 40, .inl G4))] → va_S A s.heap H locs → ∀ (ls : Array Slot), lv_has ls 6 [(3, .int (nI i)), (0, .ref o), (1, .int (nI N)), (2, .int (nI w1))] → W p l e ({ frames := 3, cells := 0, slots := 0, locals := 70 } : Room) s m args below meth c H locs 0 0 (MQ below (qm_i (fun rr H1 => ∃ F3 G3 : Nat → Int32, va_P D vwCl (clw cI o r t a1 a2 b1 b2 n w F G N w1 F3 G3) H1 ∧ ((rr = nI 1 ∧ ∃ (T U : Nat → Int32) (z : Nat), HG n f g N w1 = some (T, U, z) ∧ RS N w1 F3 G3 T U ∧ nt N T) ∨ (rr = nI 0 ∧ HG n f g N w1 = none))) A) args s 0 0 A) (F0 m 11 ls []) := by
    intro q
    induction q with
    | zero =>
      intro i z F4 G4 T U h1 S4 hT h2 H locs hP hD hS ls hl
      refine lv_iload_n hx hb dX1_hangAnewOnTrial_11 rfl (lv_at hl 0 rfl) ?_
      refine lv_aload_n hx hb dX1_hangAnewOnTrial_12 rfl (lv_at hl 1 rfl) ?_
      refine va_get (D := D) (ci := 1) (v := .ref r) (C := RX1) (T := TX1) (N := 2) hx hb hts (fun _ h => (List.mem_cons_of_mem _ (List.mem_append_left _ (List.mem_append_right _ h)))) hown hK hP 0 rfl rfl 0 (by decide) (hts _ (List.mem_of_getElem? (i := 2) rfl)) (fun _ h9 => h9) rfl dX1_hangAnewOnTrial_13 ?_
      refine pv_i CF (m_X0_hookCount l D cI r a1 a2 S ) (cwV 0 hts gX1_hangAnewOnTrial_X0_hookCount rfl rfl rfl k_X0_hookCount ⟨Nat.le_of_ble_eq_true rfl, Nat.le_of_ble_eq_true rfl⟩) hK (hP.sub [1, 2, 3] rfl) rfl rfl rfl rfl hl.1 rfl (Nat.le_of_ble_eq_true rfl) dX1_hangAnewOnTrial_16 ⟨Nat.le_of_ble_eq_true rfl, Nat.le_of_ble_eq_true rfl⟩ ?_
      refine bn_ge (tgt := 82) hx hb dX1_hangAnewOnTrial_19 (by decide) (by omega) (by omega) (fun c19 => ?_) (fun c19 => ?_)
      · skip
        refine lv_iconst (v := nI 1) hx hb dX1_hangAnewOnTrial_82 (by decide) ?_
        exact em_z hx hb hr hlocks hS (Or.inr rfl) (⟨F4, G4, hP, Or.inl ⟨rfl, T, U, z, h2.symm, S4, hT⟩⟩) dX1_hangAnewOnTrial_83
      · skip
        omega
    | succ q ih =>
      intro i z F4 G4 T U h1 S4 hT h2 H locs hP hD hS ls hl
      refine lv_iload_n hx hb dX1_hangAnewOnTrial_11 rfl (lv_at hl 0 rfl) ?_
      refine lv_aload_n hx hb dX1_hangAnewOnTrial_12 rfl (lv_at hl 1 rfl) ?_
      refine va_get (D := D) (ci := 1) (v := .ref r) (C := RX1) (T := TX1) (N := 2) hx hb hts (fun _ h => (List.mem_cons_of_mem _ (List.mem_append_left _ (List.mem_append_right _ h)))) hown hK hP 0 rfl rfl 0 (by decide) (hts _ (List.mem_of_getElem? (i := 2) rfl)) (fun _ h9 => h9) rfl dX1_hangAnewOnTrial_13 ?_
      refine pv_i CF (m_X0_hookCount l D cI r a1 a2 S ) (cwV 0 hts gX1_hangAnewOnTrial_X0_hookCount rfl rfl rfl k_X0_hookCount ⟨Nat.le_of_ble_eq_true rfl, Nat.le_of_ble_eq_true rfl⟩) hK (hP.sub [1, 2, 3] rfl) rfl rfl rfl rfl hl.1 rfl (Nat.le_of_ble_eq_true rfl) dX1_hangAnewOnTrial_16 ⟨Nat.le_of_ble_eq_true rfl, Nat.le_of_ble_eq_true rfl⟩ ?_
      refine bn_ge (tgt := 82) hx hb dX1_hangAnewOnTrial_19 (by decide) (by omega) (by omega) (fun c19 => ?_) (fun c19 => ?_)
      · skip
        omega
      · skip
        refine lv_aload_n hx hb dX1_hangAnewOnTrial_22 rfl (lv_at hl 1 rfl) ?_
        refine va_get (D := D) (ci := 1) (v := .ref r) (C := RX1) (T := TX1) (N := 2) hx hb hts (fun _ h => (List.mem_cons_of_mem _ (List.mem_append_left _ (List.mem_append_right _ h)))) hown hK hP 0 rfl rfl 0 (by decide) (hts _ (List.mem_of_getElem? (i := 2) rfl)) (fun _ h9 => h9) rfl dX1_hangAnewOnTrial_23 ?_
        refine lv_iload_n hx hb dX1_hangAnewOnTrial_26 rfl (lv_at hl 0 rfl) ?_
        refine pv_i CF (m_X0_coatOn l D cI r a1 a2 S i (by omega)) (cwV 1 hts gX1_hangAnewOnTrial_X0_coatOn rfl rfl rfl k_X0_coatOn ⟨Nat.le_of_ble_eq_true rfl, Nat.le_of_ble_eq_true rfl⟩) hK (hP.sub [1, 2, 3] rfl) rfl rfl rfl rfl hl.1 rfl (Nat.le_of_ble_eq_true rfl) dX1_hangAnewOnTrial_27 ⟨Nat.le_of_ble_eq_true rfl, Nat.le_of_ble_eq_true rfl⟩ ?_
        refine tp_i (y := (cn (f i))) (cn_hd (by omega)) ?_
        refine lv_istore (lv' := [(4, .int (cn (f i))), (3, .int (nI i)), (0, .ref o), (1, .int (nI N)), (2, .int (nI w1))]) hx hb dX1_hangAnewOnTrial_30 hl (by decide) rfl (fun ls hl => ?_)
        refine lv_iload hx hb dX1_hangAnewOnTrial_32 (lv_at hl 0 rfl) ?_
        refine lv_iconst (v := (-1)) hx hb dX1_hangAnewOnTrial_34 (by decide) ?_
        refine lv_icmp_eq (tgt := 76) hx hb dX1_hangAnewOnTrial_35 (by decide) (fun c35 => ?_) (fun c35 => ?_)
        · skip
          refine lv_iinc (v := (nI (i + 1))) (lv' := [(3, .int (nI (i + 1))), (4, .int (cn (f i))), (0, .ref o), (1, .int (nI N)), (2, .int (nI w1))]) hx hb dX1_hangAnewOnTrial_76 hl (k := 1) rfl (inc1 _) (by decide) rfl (fun ls hl => ?_)
          refine lv_goto (tgt := 11) hx hb dX1_hangAnewOnTrial_79 (by decide) ?_
          exact ih (i + 1) z F4 G4 T U (by omega) S4 hT (hg_n (cn_lt c35) h2) _ _ hP hD hS _ (lv_sub hl [0, 2, 3, 4] rfl)
        · skip
          obtain ⟨x, hx9, ex, ez⟩ := hO.num (k := i) (by omega) (cn_ge c35)
          rw [(cn_id (cn_ge c35)).trans ex] at hl
          refine lv_aload_n hx hb dX1_hangAnewOnTrial_38 rfl (lv_at hl 2 rfl) ?_
          refine va_get (D := D) (ci := 1) (v := .ref t) (C := RX1) (T := TX1) (N := 2) hx hb hts (fun _ h => (List.mem_cons_of_mem _ (List.mem_append_left _ (List.mem_append_right _ h)))) hown hK hP 0 rfl rfl 1 (by decide) (hts _ (List.mem_of_getElem? (i := 1) rfl)) (fun _ h9 => h9) rfl dX1_hangAnewOnTrial_39 ?_
          refine lv_iload hx hb dX1_hangAnewOnTrial_42 (lv_at hl 0 rfl) ?_
          refine pv_i CF (m_X0_openHook l D cI t b1 b2 S4 x hx9) (cwV 1 hts gX1_hangAnewOnTrial_X0_openHook rfl rfl rfl k_X0_openHook ⟨Nat.le_of_ble_eq_true rfl, Nat.le_of_ble_eq_true rfl⟩) hK (hP.sub [4, 5, 6] rfl) rfl rfl rfl rfl hl.1 rfl (Nat.le_of_ble_eq_true rfl) dX1_hangAnewOnTrial_44 ⟨Nat.le_of_ble_eq_true rfl, Nat.le_of_ble_eq_true rfl⟩ ?_
          refine lv_istore (lv' := [(5, .int (op N w1 T x)), (4, .int (nI x)), (3, .int (nI i)), (0, .ref o), (1, .int (nI N)), (2, .int (nI w1))]) hx hb dX1_hangAnewOnTrial_47 hl (by decide) rfl (fun ls hl => ?_)
          refine lv_iload hx hb dX1_hangAnewOnTrial_49 (lv_at hl 0 rfl) ?_
          refine lv_iconst (v := (-1)) hx hb dX1_hangAnewOnTrial_51 (by decide) ?_
          refine lv_icmp_ne (tgt := 57) hx hb dX1_hangAnewOnTrial_52 (by decide) (fun c52 => ?_) (fun c52 => ?_)
          · skip
            obtain ⟨hfr, eop⟩ := nt_free (by omega) hT c52
            rw [eop] at hl
            refine lv_aload_n hx hb dX1_hangAnewOnTrial_57 rfl (lv_at hl 3 rfl) ?_
            refine va_get (D := D) (ci := 1) (v := .ref t) (C := RX1) (T := TX1) (N := 2) hx hb hts (fun _ h => (List.mem_cons_of_mem _ (List.mem_append_left _ (List.mem_append_right _ h)))) hown hK hP 0 rfl rfl 1 (by decide) (hts _ (List.mem_of_getElem? (i := 1) rfl)) (fun _ h9 => h9) rfl dX1_hangAnewOnTrial_58 ?_
            refine lv_iload hx hb dX1_hangAnewOnTrial_61 (lv_at hl 0 rfl) ?_
            refine lv_iload hx hb dX1_hangAnewOnTrial_63 (lv_at hl 1 rfl) ?_
            refine lv_aload_n hx hb dX1_hangAnewOnTrial_65 rfl (lv_at hl 3 rfl) ?_
            refine va_get (D := D) (ci := 1) (v := .ref r) (C := RX1) (T := TX1) (N := 2) hx hb hts (fun _ h => (List.mem_cons_of_mem _ (List.mem_append_left _ (List.mem_append_right _ h)))) hown hK hP 0 rfl rfl 0 (by decide) (hts _ (List.mem_of_getElem? (i := 2) rfl)) (fun _ h9 => h9) rfl dX1_hangAnewOnTrial_66 ?_
            refine lv_iload_n hx hb dX1_hangAnewOnTrial_69 rfl (lv_at hl 2 rfl) ?_
            refine pv_i CF (m_X0_weightOn l D cI r a1 a2 S i (by omega)) (cwV 1 hts gX1_hangAnewOnTrial_X0_weightOn rfl rfl rfl k_X0_weightOn ⟨Nat.le_of_ble_eq_true rfl, Nat.le_of_ble_eq_true rfl⟩) hK (hP.sub [1, 2, 3] rfl) rfl rfl rfl rfl hl.1 rfl (Nat.le_of_ble_eq_true rfl) dX1_hangAnewOnTrial_70 ⟨Nat.le_of_ble_eq_true rfl, Nat.le_of_ble_eq_true rfl⟩ ?_
            refine tp_i (y := (g i)) (if_pos (by omega)) ?_
            obtain ⟨y, hy1, hy2, ey⟩ := hO.wt (k := i) (by omega) (cn_ge c35)
            have hPc : va_P D vwCl [(t, .inr (0, [.ref b1, .ref b2, .int (nI N), .int (nI w1)])), (b1, .inl (cI, 40, .inl F4)), (b2, .inl (cI, 40, .inl G4))] H := hP.sub [4, 5, 6] rfl
            have hDc : va_D A [(t, .inr (0, [.ref b1, .ref b2, .int (nI N), .int (nI w1)])), (b1, .inl (cI, 40, .inl F4)), (b2, .inl (cI, 40, .inl G4))] := hD.sub [4, 5, 6] (by decide) rfl
            have hFc := va_free (wc := [(t, .inr (0, [.ref b1, .ref b2, .int (nI N), .int (nI w1)])), (b1, .inl (cI, 40, .inl F4)), (b2, .inl (cI, 40, .inl G4))]) hD hS hA [4, 5, 6] rfl
            refine pq_v (va_runV (rest := []) CF (m_X0_put l D cI t b1 b2 N w1 F4 G4 (la N w1 T x) (nI x) (g i) (by have := la_lt (show 0 < N by omega) w1 T x; omega) H.size) (cwV 3 hts gX1_hangAnewOnTrial_X0_put rfl rfl rfl k_X0_put ⟨Nat.le_of_ble_eq_true rfl, Nat.le_of_ble_eq_true rfl⟩) (mv_pre hK hPc hDc rfl rfl rfl) rfl rfl hl.1 rfl (lv_room (Nat.le_of_ble_eq_true rfl)) dX1_hangAnewOnTrial_73 ⟨Nat.le_of_ble_eq_true rfl, Nat.le_of_ble_eq_true rfl⟩) hS hFc (fun H locs hB hk1 hS => ?_)
            have hP1 := hB
            obtain ⟨hP, hD⟩ := jn (wb := [(o, .inr (1, [.ref r, .ref t])), (r, .inr (0, [.ref a1, .ref a2, .int (nI n), .int (nI w)])), (a1, .inl (cI, 40, .inl F)), (a2, .inl (cI, 40, .inl G)), (t, .inr (0, [.ref b1, .ref b2, .int (nI N), .int (nI w1)])), (b1, .inl (cI, 40, .inl (upd F4 (la N w1 T x) (nI x)))), (b2, .inl (cI, 40, .inl (upd G4 (la N w1 T x) (g i))))]) (w1 := [(t, .inr (0, [.ref b1, .ref b2, .int (nI N), .int (nI w1)])), (b1, .inl (cI, 40, .inl (upd F4 (la N w1 T x) (nI x)))), (b2, .inl (cI, 40, .inl (upd G4 (la N w1 T x) (g i))))]) hP hD [4, 5, 6] [0, 1, 2, 3] rfl rfl rfl rfl 7 rfl (by decide) (by decide) hk1 hP1
            refine lv_iinc (v := (nI (i + 1))) (lv' := [(3, .int (nI (i + 1))), (5, .int (nI (la N w1 T x))), (4, .int (nI x)), (0, .ref o), (1, .int (nI N)), (2, .int (nI w1))]) hx hb dX1_hangAnewOnTrial_76 hl (k := 2) rfl (inc1 _) (by decide) rfl (fun ls hl => ?_)
            refine lv_goto (tgt := 11) hx hb dX1_hangAnewOnTrial_79 (by decide) ?_
            exact ih (i + 1) (z + lk N w1 T x) (upd F4 (la N w1 T x) (nI x)) (upd G4 (la N w1 T x) (g i)) (upd T (la N w1 T x) (nI x)) (upd U (la N w1 T x) (g i)) (by omega) (S4.put hx9 hy1 hy2 ey) (nt_put hT hx9) (hg_y (cn_ge c35) ex ez hfr h2) _ _ hP hD hS _ (lv_sub hl [0, 3, 4, 5] rfl)
          · skip
            refine lv_iconst (v := nI 0) hx hb dX1_hangAnewOnTrial_55 (by decide) ?_
            exact em_z hx hb hr hlocks hS (Or.inl rfl) (⟨F4, G4, hP, Or.inr ⟨rfl, hg_no (cn_ge c35) ez (nt_full (by omega) hN40 hT c52) h2⟩⟩) dX1_hangAnewOnTrial_56
  exact LP11 n 0 0 F3 G3 (fun _ => -1) (fun _ => nI 0) (Nat.zero_add n) (RS.clear hN3 hN40 hw1 hF3 hG3) (fun k hk => by show (-1 : Int32) ≠ -2; decide) rfl _ _ hP hD hS _ (lv_sub hl [0, 1, 2, 3] rfl)
theorem k_X1_looksOnTrial : yX1_looksOnTrial.cls = RX1 ∧ yX1_looksOnTrial.cls ≠ "java/lang/invoke/MethodHandle" ∧ yX1_looksOnTrial.cls ≠ "java/lang/invoke/VarHandle" ∧ (parseMethodDescriptor yX1_looksOnTrial.desc).map (fun d => d.parameters.length) = some 2 := by decide +kernel
set_option maxHeartbeats 4000000 in
set_option maxRecDepth 100000 in
theorem m_X1_looksOnTrial (l : Launch) (D : va_G) (cI : ClassId) (o r t a1 a2 b1 b2 : Nat) {n w : Nat} {F G f g : Nat → Int32} (S : RS n w F G f g) (n2 w2 : Nat) (F2 G2 : Nat → Int32) (N w1 : Nat) (hN3 : 3 ≤ N) (hN40 : N ≤ 40) (hw1 : w1 ≤ 2) (sz : Nat) : Met l yX1_looksOnTrial wsX1_looksOnTrial ({ frames := 4, cells := 0, slots := 0, locals := 95 } : Room) (PM D [(cI, .int)] [.ref o, .int (nI N), .int (nI w1)] sz (clw cI o r t a1 a2 b1 b2 n w F G n2 w2 F2 G2)) (qm_i (fun rr H1 => rr = LW n f g N w1 ∧ ∃ F3 G3 : Nat → Int32, va_P D vwCl (clw cI o r t a1 a2 b1 b2 n w F G N w1 F3 G3) H1) (va_A (clw cI o r t a1 a2 b1 b2 n w F G n2 w2 F2 G2) sz)) 0 0 (va_A (clw cI o r t a1 a2 b1 b2 n w F G n2 w2 F2 G2) sz) := by
  obtain ⟨hn3, hn, hw2, hF, hG, hO⟩ := id S
  refine bd_m (Qc := (fun A => qm_i (fun rr H1 => rr = LW n f g N w1 ∧ ∃ F3 G3 : Nat → Int32, va_P D vwCl (clw cI o r t a1 a2 b1 b2 n w F G N w1 F3 G3) H1) A)) (cc := cX1_looksOnTrial) (maxL := 3) (ret := (some .int)) (by decide) rfl (Nat.le_of_ble_eq_true rfl) ?_
  intro p e s m args below meth c ls A CF hr hlocks hK hP hD hA hS hl hin
  obtain ⟨hx, hb, hml, hown, hts⟩ := id CF
  have hl : lv_has ls 3 [(0, .ref o), (1, .int (nI N)), (2, .int (nI w1))] := hl
  have hP : va_P D vwCl [(o, .inr (1, [.ref r, .ref t])), (r, .inr (0, [.ref a1, .ref a2, .int (nI n), .int (nI w)])), (a1, .inl (cI, 40, .inl F)), (a2, .inl (cI, 40, .inl G)), (t, .inr (0, [.ref b1, .ref b2, .int (nI n2), .int (nI w2)])), (b1, .inl (cI, 40, .inl F2)), (b2, .inl (cI, 40, .inl G2))] s.heap := hP
  have hD : va_D A [(o, .inr (1, [.ref r, .ref t])), (r, .inr (0, [.ref a1, .ref a2, .int (nI n), .int (nI w)])), (a1, .inl (cI, 40, .inl F)), (a2, .inl (cI, 40, .inl G)), (t, .inr (0, [.ref b1, .ref b2, .int (nI n2), .int (nI w2)])), (b1, .inl (cI, 40, .inl F2)), (b2, .inl (cI, 40, .inl G2))] := hD
  generalize hH0 : s.heap = H at hP
  have hS : va_S A s.heap H [] := by rw [← hH0]; exact va_S.rf
  generalize hlc0 : ([] : List Loc) = locs at hS ⊢
  refine lv_aload_n hx hb dX1_looksOnTrial_0 rfl (lv_at hl 0 rfl) ?_
  refine lv_iload_n hx hb dX1_looksOnTrial_1 rfl (lv_at hl 1 rfl) ?_
  refine lv_iload_n hx hb dX1_looksOnTrial_2 rfl (lv_at hl 2 rfl) ?_
  have hPc : va_P D vwCl [(o, .inr (1, [.ref r, .ref t])), (r, .inr (0, [.ref a1, .ref a2, .int (nI n), .int (nI w)])), (a1, .inl (cI, 40, .inl F)), (a2, .inl (cI, 40, .inl G)), (t, .inr (0, [.ref b1, .ref b2, .int (nI n2), .int (nI w2)])), (b1, .inl (cI, 40, .inl F2)), (b2, .inl (cI, 40, .inl G2))] H := hP.sub [0, 1, 2, 3, 4, 5, 6] rfl
  have hDc : va_D A [(o, .inr (1, [.ref r, .ref t])), (r, .inr (0, [.ref a1, .ref a2, .int (nI n), .int (nI w)])), (a1, .inl (cI, 40, .inl F)), (a2, .inl (cI, 40, .inl G)), (t, .inr (0, [.ref b1, .ref b2, .int (nI n2), .int (nI w2)])), (b1, .inl (cI, 40, .inl F2)), (b2, .inl (cI, 40, .inl G2))] := hD.sub [0, 1, 2, 3, 4, 5, 6] (by decide) rfl
  have hFc := va_free (wc := [(o, .inr (1, [.ref r, .ref t])), (r, .inr (0, [.ref a1, .ref a2, .int (nI n), .int (nI w)])), (a1, .inl (cI, 40, .inl F)), (a2, .inl (cI, 40, .inl G)), (t, .inr (0, [.ref b1, .ref b2, .int (nI n2), .int (nI w2)])), (b1, .inl (cI, 40, .inl F2)), (b2, .inl (cI, 40, .inl G2))]) hD hS hA [0, 1, 2, 3, 4, 5, 6] rfl
  refine pq_i (va_runV (rest := []) CF (m_X1_hangAnewOnTrial l D cI o r t a1 a2 b1 b2 S n2 w2 F2 G2 N w1 hN3 hN40 hw1 H.size) (cwV 2 hts gX1_looksOnTrial_X1_hangAnewOnTrial rfl rfl rfl k_X1_hangAnewOnTrial ⟨Nat.le_of_ble_eq_true rfl, Nat.le_of_ble_eq_true rfl⟩) (mv_pre hK hPc hDc rfl rfl rfl) rfl rfl hl.1 rfl (lv_room (Nat.le_of_ble_eq_true rfl)) dX1_looksOnTrial_3 ⟨Nat.le_of_ble_eq_true rfl, Nat.le_of_ble_eq_true rfl⟩) hS hFc (fun r1 H locs hB hk1 hS => ?_)
  obtain ⟨F3, G3, hP1, hR⟩ := hB
  obtain ⟨hP, hD⟩ := jn (wb := [(o, .inr (1, [.ref r, .ref t])), (r, .inr (0, [.ref a1, .ref a2, .int (nI n), .int (nI w)])), (a1, .inl (cI, 40, .inl F)), (a2, .inl (cI, 40, .inl G)), (t, .inr (0, [.ref b1, .ref b2, .int (nI N), .int (nI w1)])), (b1, .inl (cI, 40, .inl F3)), (b2, .inl (cI, 40, .inl G3))]) (w1 := [(o, .inr (1, [.ref r, .ref t])), (r, .inr (0, [.ref a1, .ref a2, .int (nI n), .int (nI w)])), (a1, .inl (cI, 40, .inl F)), (a2, .inl (cI, 40, .inl G)), (t, .inr (0, [.ref b1, .ref b2, .int (nI N), .int (nI w1)])), (b1, .inl (cI, 40, .inl F3)), (b2, .inl (cI, 40, .inl G3))]) hP hD [0, 1, 2, 3, 4, 5, 6] [] rfl rfl rfl rfl 7 rfl (by decide) (by decide) hk1 hP1
  rcases hR with ⟨rfl, T, U, z, hHG, S4, hT⟩ | ⟨rfl, hHG⟩
  · skip
    refine bz_eq (tgt := 19) hx hb dX1_looksOnTrial_6 (by decide) (by omega) (fun c6 => ?_) (fun c6 => ?_)
    · skip
      omega
    · skip
      refine lv_aload_n hx hb dX1_looksOnTrial_9 rfl (lv_at hl 0 rfl) ?_
      refine va_get (D := D) (ci := 1) (v := .ref t) (C := RX1) (T := TX1) (N := 2) hx hb hts (fun _ h => (List.mem_cons_of_mem _ (List.mem_append_left _ (List.mem_append_right _ h)))) hown hK hP 0 rfl rfl 1 (by decide) (hts _ (List.mem_of_getElem? (i := 1) rfl)) (fun _ h9 => h9) rfl dX1_looksOnTrial_10 ?_
      refine pv_i CF (m_X0_looksForAll l D cI t b1 b2 S4) (cwV 0 hts gX1_looksOnTrial_X0_looksForAll rfl rfl rfl k_X0_looksForAll ⟨Nat.le_of_ble_eq_true rfl, Nat.le_of_ble_eq_true rfl⟩) hK (hP.sub [4, 5, 6] rfl) rfl rfl rfl rfl hl.1 rfl (Nat.le_of_ble_eq_true rfl) dX1_looksOnTrial_13 ⟨Nat.le_of_ble_eq_true rfl, Nat.le_of_ble_eq_true rfl⟩ ?_
      refine lv_goto (tgt := 20) hx hb dX1_looksOnTrial_16 (by decide) ?_
      exact em_i hx hb hr hlocks hS (⟨by rw [LW_some hHG, HG_sum (by omega) hO hHG], F3, G3, hP⟩) dX1_looksOnTrial_20
  · skip
    refine bz_eq (tgt := 19) hx hb dX1_looksOnTrial_6 (by decide) (by omega) (fun c6 => ?_) (fun c6 => ?_)
    · skip
      refine lv_iconst (v := (-1)) hx hb dX1_looksOnTrial_19 (by decide) ?_
      exact em_i hx hb hr hlocks hS (⟨(LW_none hHG).symm, F3, G3, hP⟩) dX1_looksOnTrial_20
    · skip
      omega
theorem k_X1_bestWay : yX1_bestWay.cls = RX1 ∧ yX1_bestWay.cls ≠ "java/lang/invoke/MethodHandle" ∧ yX1_bestWay.cls ≠ "java/lang/invoke/VarHandle" ∧ (parseMethodDescriptor yX1_bestWay.desc).map (fun d => d.parameters.length) = some 0 := by decide +kernel
set_option maxHeartbeats 4000000 in
set_option maxRecDepth 100000 in
theorem m_X1_bestWay (l : Launch) (D : va_G) (cI : ClassId) (o r t a1 a2 b1 b2 : Nat) {n w : Nat} {F G f g : Nat → Int32} (S : RS n w F G f g) (n2 w2 : Nat) (F2 G2 : Nat → Int32) (sz : Nat) : Met l yX1_bestWay wsX1_bestWay ({ frames := 5, cells := 0, slots := 0, locals := 117 } : Room) (PM D [(cI, .int)] [.ref o] sz (clw cI o r t a1 a2 b1 b2 n w F G n2 w2 F2 G2)) (qm_i (fun rr H1 => rr = (bst n f g).1 ∧ ∃ (n3 w3 : Nat) (F3 G3 : Nat → Int32), va_P D vwCl (clw cI o r t a1 a2 b1 b2 n w F G n3 w3 F3 G3) H1) (va_A (clw cI o r t a1 a2 b1 b2 n w F G n2 w2 F2 G2) sz)) 0 0 (va_A (clw cI o r t a1 a2 b1 b2 n w F G n2 w2 F2 G2) sz) := by
  obtain ⟨hn3, hn, hw2, hF, hG, hO⟩ := id S
  refine bd_m (Qc := (fun A => qm_i (fun rr H1 => rr = (bst n f g).1 ∧ ∃ (n3 w3 : Nat) (F3 G3 : Nat → Int32), va_P D vwCl (clw cI o r t a1 a2 b1 b2 n w F G n3 w3 F3 G3) H1) A)) (cc := cX1_bestWay) (maxL := 5) (ret := (some .int)) (by decide) rfl (Nat.le_of_ble_eq_true rfl) ?_
  intro p e s m args below meth c ls A CF hr hlocks hK hP hD hA hS hl hin
  obtain ⟨hx, hb, hml, hown, hts⟩ := id CF
  have hl : lv_has ls 5 [(0, .ref o)] := hl
  have hP : va_P D vwCl [(o, .inr (1, [.ref r, .ref t])), (r, .inr (0, [.ref a1, .ref a2, .int (nI n), .int (nI w)])), (a1, .inl (cI, 40, .inl F)), (a2, .inl (cI, 40, .inl G)), (t, .inr (0, [.ref b1, .ref b2, .int (nI n2), .int (nI w2)])), (b1, .inl (cI, 40, .inl F2)), (b2, .inl (cI, 40, .inl G2))] s.heap := hP
  have hD : va_D A [(o, .inr (1, [.ref r, .ref t])), (r, .inr (0, [.ref a1, .ref a2, .int (nI n), .int (nI w)])), (a1, .inl (cI, 40, .inl F)), (a2, .inl (cI, 40, .inl G)), (t, .inr (0, [.ref b1, .ref b2, .int (nI n2), .int (nI w2)])), (b1, .inl (cI, 40, .inl F2)), (b2, .inl (cI, 40, .inl G2))] := hD
  generalize hH0 : s.heap = H at hP
  have hS : va_S A s.heap H [] := by rw [← hH0]; exact va_S.rf
  generalize hlc0 : ([] : List Loc) = locs at hS ⊢
  refine lv_iconst (v := (-1)) hx hb dX1_bestWay_0 (by decide) ?_
  refine lv_istore_n (lv' := [(1, .int (-1)), (0, .ref o)]) hx hb dX1_bestWay_1 rfl hl (by decide) rfl (fun ls hl => ?_)
  refine lv_iconst (v := nI 0) hx hb dX1_bestWay_2 (by decide) ?_
  refine lv_istore_n (lv' := [(2, .int (nI 0)), (1, .int (-1)), (0, .ref o)]) hx hb dX1_bestWay_3 rfl hl (by decide) rfl (fun ls hl => ?_)
  refine lv_iconst (v := nI 0) hx hb dX1_bestWay_4 (by decide) ?_
  refine lv_istore_n (lv' := [(3, .int (nI 0)), (2, .int (nI 0)), (1, .int (-1)), (0, .ref o)]) hx hb dX1_bestWay_5 rfl hl (by decide) rfl (fun ls hl => ?_)
  have LP6 : ∀ (q i : Nat) (a b : Int32) (n3 w3 : Nat) (F4 G4 : Nat → Int32), i + q = 3 → fo (fun (a : Int32 × Int32) i => if 0 ≤ LW n f g n i ∧ (a.1 = -1 ∨ LW n f g n i < a.2) then (nI i, LW n f g n i) else a) q i (a, b) = bst n f g → ∀ (H : Heap) (locs : List Loc), va_P D vwCl [(o, .inr (1, [.ref r, .ref t])), (r, .inr (0, [.ref a1, .ref a2, .int (nI n), .int (nI w)])), (a1, .inl (cI, 40, .inl F)), (a2, .inl (cI, 40, .inl G)), (t, .inr (0, [.ref b1, .ref b2, .int (nI n3), .int (nI w3)])), (b1, .inl (cI, 40, .inl F4)), (b2, .inl (cI, 40, .inl G4))] H → va_D A [(o, .inr (1, [.ref r, .ref t])), (r, .inr (0, [.ref a1, .ref a2, .int (nI n), .int (nI w)])), (a1, .inl (cI, 40, .inl F)), (a2, .inl (cI, 40, .inl G)), (t, .inr (0, [.ref b1, .ref b2, .int (nI n3), .int (nI w3)])), (b1, .inl (cI, 40, .inl F4)), (b2, .inl (cI, 40, .inl G4))] → va_S A s.heap H locs → ∀ (ls : Array Slot), lv_has ls 5 [(3, .int (nI i)), (2, .int b), (1, .int a), (0, .ref o)] → W p l e ({ frames := 5, cells := 0, slots := 0, locals := 117 } : Room) s m args below meth c H locs 0 0 (MQ below (qm_i (fun rr H1 => rr = (bst n f g).1 ∧ ∃ (n3 w3 : Nat) (F3 G3 : Nat → Int32), va_P D vwCl (clw cI o r t a1 a2 b1 b2 n w F G n3 w3 F3 G3) H1) A) args s 0 0 A) (F0 m 6 ls []) := by
    intro q
    induction q with
    | zero =>
      intro i a b n3 w3 F4 G4 h1 h2 H locs hP hD hS ls hl
      refine lv_iload_n hx hb dX1_bestWay_6 rfl (lv_at hl 0 rfl) ?_
      refine lv_iconst (v := nI 2) hx hb dX1_bestWay_7 (by decide) ?_
      refine bn_gt (tgt := 52) hx hb dX1_bestWay_8 (by decide) (by omega) (by omega) (fun c8 => ?_) (fun c8 => ?_)
      · skip
        refine lv_iload_n hx hb dX1_bestWay_52 rfl (lv_at hl 2 rfl) ?_
        exact em_i hx hb hr hlocks hS (⟨congrArg Prod.fst h2, n3, w3, F4, G4, hP⟩) dX1_bestWay_53
      · skip
        omega
    | succ q ih =>
      intro i a b n3 w3 F4 G4 h1 h2 H locs hP hD hS ls hl
      refine lv_iload_n hx hb dX1_bestWay_6 rfl (lv_at hl 0 rfl) ?_
      refine lv_iconst (v := nI 2) hx hb dX1_bestWay_7 (by decide) ?_
      refine bn_gt (tgt := 52) hx hb dX1_bestWay_8 (by decide) (by omega) (by omega) (fun c8 => ?_) (fun c8 => ?_)
      · skip
        omega
      · skip
        refine lv_aload_n hx hb dX1_bestWay_11 rfl (lv_at hl 3 rfl) ?_
        refine lv_aload_n hx hb dX1_bestWay_12 rfl (lv_at hl 3 rfl) ?_
        refine va_get (D := D) (ci := 1) (v := .ref r) (C := RX1) (T := TX1) (N := 2) hx hb hts (fun _ h => (List.mem_cons_of_mem _ (List.mem_append_left _ (List.mem_append_right _ h)))) hown hK hP 0 rfl rfl 0 (by decide) (hts _ (List.mem_of_getElem? (i := 1) rfl)) (fun _ h9 => h9) rfl dX1_bestWay_13 ?_
        refine pv_i CF (m_X0_hookCount l D cI r a1 a2 S ) (cwV 0 hts gX1_bestWay_X0_hookCount rfl rfl rfl k_X0_hookCount ⟨Nat.le_of_ble_eq_true rfl, Nat.le_of_ble_eq_true rfl⟩) hK (hP.sub [1, 2, 3] rfl) rfl rfl rfl rfl hl.1 rfl (Nat.le_of_ble_eq_true rfl) dX1_bestWay_16 ⟨Nat.le_of_ble_eq_true rfl, Nat.le_of_ble_eq_true rfl⟩ ?_
        refine lv_iload_n hx hb dX1_bestWay_19 rfl (lv_at hl 0 rfl) ?_
        have hPc : va_P D vwCl [(o, .inr (1, [.ref r, .ref t])), (r, .inr (0, [.ref a1, .ref a2, .int (nI n), .int (nI w)])), (a1, .inl (cI, 40, .inl F)), (a2, .inl (cI, 40, .inl G)), (t, .inr (0, [.ref b1, .ref b2, .int (nI n3), .int (nI w3)])), (b1, .inl (cI, 40, .inl F4)), (b2, .inl (cI, 40, .inl G4))] H := hP.sub [0, 1, 2, 3, 4, 5, 6] rfl
        have hDc : va_D A [(o, .inr (1, [.ref r, .ref t])), (r, .inr (0, [.ref a1, .ref a2, .int (nI n), .int (nI w)])), (a1, .inl (cI, 40, .inl F)), (a2, .inl (cI, 40, .inl G)), (t, .inr (0, [.ref b1, .ref b2, .int (nI n3), .int (nI w3)])), (b1, .inl (cI, 40, .inl F4)), (b2, .inl (cI, 40, .inl G4))] := hD.sub [0, 1, 2, 3, 4, 5, 6] (by decide) rfl
        have hFc := va_free (wc := [(o, .inr (1, [.ref r, .ref t])), (r, .inr (0, [.ref a1, .ref a2, .int (nI n), .int (nI w)])), (a1, .inl (cI, 40, .inl F)), (a2, .inl (cI, 40, .inl G)), (t, .inr (0, [.ref b1, .ref b2, .int (nI n3), .int (nI w3)])), (b1, .inl (cI, 40, .inl F4)), (b2, .inl (cI, 40, .inl G4))]) hD hS hA [0, 1, 2, 3, 4, 5, 6] rfl
        refine pq_i (va_runV (rest := []) CF (m_X1_looksOnTrial l D cI o r t a1 a2 b1 b2 S n3 w3 F4 G4 n i hn3 hn (by omega) H.size) (cwV 2 hts gX1_bestWay_X1_looksOnTrial rfl rfl rfl k_X1_looksOnTrial ⟨Nat.le_of_ble_eq_true rfl, Nat.le_of_ble_eq_true rfl⟩) (mv_pre hK hPc hDc rfl rfl rfl) rfl rfl hl.1 rfl (lv_room (Nat.le_of_ble_eq_true rfl)) dX1_bestWay_20 ⟨Nat.le_of_ble_eq_true rfl, Nat.le_of_ble_eq_true rfl⟩) hS hFc (fun r1 H locs hB hk1 hS => ?_)
        obtain ⟨rfl, F3, G3, hP1⟩ := hB
        obtain ⟨hP, hD⟩ := jn (wb := [(o, .inr (1, [.ref r, .ref t])), (r, .inr (0, [.ref a1, .ref a2, .int (nI n), .int (nI w)])), (a1, .inl (cI, 40, .inl F)), (a2, .inl (cI, 40, .inl G)), (t, .inr (0, [.ref b1, .ref b2, .int (nI n), .int (nI i)])), (b1, .inl (cI, 40, .inl F3)), (b2, .inl (cI, 40, .inl G3))]) (w1 := [(o, .inr (1, [.ref r, .ref t])), (r, .inr (0, [.ref a1, .ref a2, .int (nI n), .int (nI w)])), (a1, .inl (cI, 40, .inl F)), (a2, .inl (cI, 40, .inl G)), (t, .inr (0, [.ref b1, .ref b2, .int (nI n), .int (nI i)])), (b1, .inl (cI, 40, .inl F3)), (b2, .inl (cI, 40, .inl G3))]) hP hD [0, 1, 2, 3, 4, 5, 6] [] rfl rfl rfl rfl 7 rfl (by decide) (by decide) hk1 hP1
        refine lv_istore (lv' := [(4, .int (LW n f g n i)), (3, .int (nI i)), (2, .int b), (1, .int a), (0, .ref o)]) hx hb dX1_bestWay_23 hl (by decide) rfl (fun ls hl => ?_)
        refine lv_iload hx hb dX1_bestWay_25 (lv_at hl 0 rfl) ?_
        refine lv_if_lt (tgt := 46) hx hb dX1_bestWay_27 (by decide) (fun c27 => ?_) (fun c27 => ?_)
        · skip
          refine lv_iinc (v := (nI (i + 1))) (lv' := [(3, .int (nI (i + 1))), (4, .int (LW n f g n i)), (2, .int b), (1, .int a), (0, .ref o)]) hx hb dX1_bestWay_46 hl (k := 1) rfl (inc1 _) (by decide) rfl (fun ls hl => ?_)
          refine lv_goto (tgt := 6) hx hb dX1_bestWay_49 (by decide) ?_
          exact ih (i + 1) a b n i F3 G3 (by omega) (by rw [fo_s, if_neg (fun z => not_lt0 z.1 c27)] at h2; exact h2) _ _ hP hD hS _ (lv_sub hl [0, 2, 3, 4] rfl)
        · skip
          refine lv_iload_n hx hb dX1_bestWay_30 rfl (lv_at hl 3 rfl) ?_
          refine lv_iconst (v := (-1)) hx hb dX1_bestWay_31 (by decide) ?_
          refine lv_icmp_eq (tgt := 41) hx hb dX1_bestWay_32 (by decide) (fun c32 => ?_) (fun c32 => ?_)
          · skip
            refine lv_iload_n hx hb dX1_bestWay_41 rfl (lv_at hl 1 rfl) ?_
            refine lv_istore_n (lv' := [(1, .int (nI i)), (4, .int (LW n f g n i)), (3, .int (nI i)), (2, .int b), (0, .ref o)]) hx hb dX1_bestWay_42 rfl hl (by decide) rfl (fun ls hl => ?_)
            refine lv_iload hx hb dX1_bestWay_43 (lv_at hl 1 rfl) ?_
            refine lv_istore_n (lv' := [(2, .int (LW n f g n i)), (1, .int (nI i)), (4, .int (LW n f g n i)), (3, .int (nI i)), (0, .ref o)]) hx hb dX1_bestWay_45 rfl hl (by decide) rfl (fun ls hl => ?_)
            refine lv_iinc (v := (nI (i + 1))) (lv' := [(3, .int (nI (i + 1))), (2, .int (LW n f g n i)), (1, .int (nI i)), (4, .int (LW n f g n i)), (0, .ref o)]) hx hb dX1_bestWay_46 hl (k := 3) rfl (inc1 _) (by decide) rfl (fun ls hl => ?_)
            refine lv_goto (tgt := 6) hx hb dX1_bestWay_49 (by decide) ?_
            exact ih (i + 1) (nI i) (LW n f g n i) n i F3 G3 (by omega) (by rw [fo_s, if_pos ⟨ge0 c27, Or.inl c32⟩] at h2; exact h2) _ _ hP hD hS _ (lv_sub hl [0, 1, 2, 4] rfl)
          · skip
            refine lv_iload hx hb dX1_bestWay_35 (lv_at hl 0 rfl) ?_
            refine lv_iload_n hx hb dX1_bestWay_37 rfl (lv_at hl 2 rfl) ?_
            refine lv_icmp_ge (tgt := 46) hx hb dX1_bestWay_38 (by decide) (fun c38 => ?_) (fun c38 => ?_)
            · skip
              refine lv_iinc (v := (nI (i + 1))) (lv' := [(3, .int (nI (i + 1))), (4, .int (LW n f g n i)), (2, .int b), (1, .int a), (0, .ref o)]) hx hb dX1_bestWay_46 hl (k := 1) rfl (inc1 _) (by decide) rfl (fun ls hl => ?_)
              refine lv_goto (tgt := 6) hx hb dX1_bestWay_49 (by decide) ?_
              exact ih (i + 1) a b n i F3 G3 (by omega) (by rw [fo_s, if_neg (fun z => z.2.elim c32 (nlt_of_le c38))] at h2; exact h2) _ _ hP hD hS _ (lv_sub hl [0, 2, 3, 4] rfl)
            · skip
              refine lv_iload_n hx hb dX1_bestWay_41 rfl (lv_at hl 1 rfl) ?_
              refine lv_istore_n (lv' := [(1, .int (nI i)), (4, .int (LW n f g n i)), (3, .int (nI i)), (2, .int b), (0, .ref o)]) hx hb dX1_bestWay_42 rfl hl (by decide) rfl (fun ls hl => ?_)
              refine lv_iload hx hb dX1_bestWay_43 (lv_at hl 1 rfl) ?_
              refine lv_istore_n (lv' := [(2, .int (LW n f g n i)), (1, .int (nI i)), (4, .int (LW n f g n i)), (3, .int (nI i)), (0, .ref o)]) hx hb dX1_bestWay_45 rfl hl (by decide) rfl (fun ls hl => ?_)
              refine lv_iinc (v := (nI (i + 1))) (lv' := [(3, .int (nI (i + 1))), (2, .int (LW n f g n i)), (1, .int (nI i)), (4, .int (LW n f g n i)), (0, .ref o)]) hx hb dX1_bestWay_46 hl (k := 3) rfl (inc1 _) (by decide) rfl (fun ls hl => ?_)
              refine lv_goto (tgt := 6) hx hb dX1_bestWay_49 (by decide) ?_
              exact ih (i + 1) (nI i) (LW n f g n i) n i F3 G3 (by omega) (by rw [fo_s, if_pos ⟨ge0 c27, Or.inr (lt_of_nle c38)⟩] at h2; exact h2) _ _ hP hD hS _ (lv_sub hl [0, 1, 2, 4] rfl)
  exact LP6 3 0 (-1) (nI 0) n2 w2 F2 G2 rfl rfl _ _ hP hD hS _ (lv_sub hl [0, 1, 2, 3] rfl)
theorem k_X1_fewestHooks : yX1_fewestHooks.cls = RX1 ∧ yX1_fewestHooks.cls ≠ "java/lang/invoke/MethodHandle" ∧ yX1_fewestHooks.cls ≠ "java/lang/invoke/VarHandle" ∧ (parseMethodDescriptor yX1_fewestHooks.desc).map (fun d => d.parameters.length) = some 1 := by decide +kernel
set_option maxHeartbeats 4000000 in
set_option maxRecDepth 100000 in
theorem m_X1_fewestHooks (l : Launch) (D : va_G) (cI : ClassId) (o r t a1 a2 b1 b2 : Nat) {n w : Nat} {F G f g : Nat → Int32} (S : RS n w F G f g) (n2 w2 : Nat) (F2 G2 : Nat → Int32) (v : Nat) (hv : v ≤ 400) (sz : Nat) : Met l yX1_fewestHooks wsX1_fewestHooks ({ frames := 5, cells := 0, slots := 0, locals := 117 } : Room) (PM D [(cI, .int)] [.ref o, .int (nI v)] sz (clw cI o r t a1 a2 b1 b2 n w F G n2 w2 F2 G2)) (qm_i (fun rr H1 => rr = fh n w f g v ∧ ∃ (n3 w3 : Nat) (F3 G3 : Nat → Int32), va_P D vwCl (clw cI o r t a1 a2 b1 b2 n w F G n3 w3 F3 G3) H1) (va_A (clw cI o r t a1 a2 b1 b2 n w F G n2 w2 F2 G2) sz)) 0 0 (va_A (clw cI o r t a1 a2 b1 b2 n w F G n2 w2 F2 G2) sz) := by
  obtain ⟨hn3, hn, hw2, hF, hG, hO⟩ := id S
  refine bd_m (Qc := (fun A => qm_i (fun rr H1 => rr = fh n w f g v ∧ ∃ (n3 w3 : Nat) (F3 G3 : Nat → Int32), va_P D vwCl (clw cI o r t a1 a2 b1 b2 n w F G n3 w3 F3 G3) H1) A)) (cc := cX1_fewestHooks) (maxL := 4) (ret := (some .int)) (by decide) rfl (Nat.le_of_ble_eq_true rfl) ?_
  intro p e s m args below meth c ls A CF hr hlocks hK hP hD hA hS hl hin
  obtain ⟨hx, hb, hml, hown, hts⟩ := id CF
  have hl : lv_has ls 4 [(0, .ref o), (1, .int (nI v))] := hl
  have hP : va_P D vwCl [(o, .inr (1, [.ref r, .ref t])), (r, .inr (0, [.ref a1, .ref a2, .int (nI n), .int (nI w)])), (a1, .inl (cI, 40, .inl F)), (a2, .inl (cI, 40, .inl G)), (t, .inr (0, [.ref b1, .ref b2, .int (nI n2), .int (nI w2)])), (b1, .inl (cI, 40, .inl F2)), (b2, .inl (cI, 40, .inl G2))] s.heap := hP
  have hD : va_D A [(o, .inr (1, [.ref r, .ref t])), (r, .inr (0, [.ref a1, .ref a2, .int (nI n), .int (nI w)])), (a1, .inl (cI, 40, .inl F)), (a2, .inl (cI, 40, .inl G)), (t, .inr (0, [.ref b1, .ref b2, .int (nI n2), .int (nI w2)])), (b1, .inl (cI, 40, .inl F2)), (b2, .inl (cI, 40, .inl G2))] := hD
  generalize hH0 : s.heap = H at hP
  have hS : va_S A s.heap H [] := by rw [← hH0]; exact va_S.rf
  generalize hlc0 : ([] : List Loc) = locs at hS ⊢
  refine lv_iconst (v := nI 3) hx hb dX1_fewestHooks_0 (by decide) ?_
  refine lv_istore_n (lv' := [(2, .int (nI 3)), (0, .ref o), (1, .int (nI v))]) hx hb dX1_fewestHooks_1 rfl hl (by decide) rfl (fun ls hl => ?_)
  have LP2 : ∀ (q i n3 w3 : Nat) (F4 G4 : Nat → Int32), i + q = 41 → 3 ≤ i → fs (hwS n w f g v) q i = fs (hwS n w f g v) 38 3 → ∀ (H : Heap) (locs : List Loc), va_P D vwCl [(o, .inr (1, [.ref r, .ref t])), (r, .inr (0, [.ref a1, .ref a2, .int (nI n), .int (nI w)])), (a1, .inl (cI, 40, .inl F)), (a2, .inl (cI, 40, .inl G)), (t, .inr (0, [.ref b1, .ref b2, .int (nI n3), .int (nI w3)])), (b1, .inl (cI, 40, .inl F4)), (b2, .inl (cI, 40, .inl G4))] H → va_D A [(o, .inr (1, [.ref r, .ref t])), (r, .inr (0, [.ref a1, .ref a2, .int (nI n), .int (nI w)])), (a1, .inl (cI, 40, .inl F)), (a2, .inl (cI, 40, .inl G)), (t, .inr (0, [.ref b1, .ref b2, .int (nI n3), .int (nI w3)])), (b1, .inl (cI, 40, .inl F4)), (b2, .inl (cI, 40, .inl G4))] → va_S A s.heap H locs → ∀ (ls : Array Slot), lv_has ls 4 [(2, .int (nI i)), (0, .ref o), (1, .int (nI v))] → W p l e ({ frames := 5, cells := 0, slots := 0, locals := 117 } : Room) s m args below meth c H locs 0 0 (MQ below (qm_i (fun rr H1 => rr = fh n w f g v ∧ ∃ (n3 w3 : Nat) (F3 G3 : Nat → Int32), va_P D vwCl (clw cI o r t a1 a2 b1 b2 n w F G n3 w3 F3 G3) H1) A) args s 0 0 A) (F0 m 2 ls []) := by
    intro q
    induction q with
    | zero =>
      intro i n3 w3 F4 G4 h1 h3 h2 H locs hP hD hS ls hl
      refine lv_iload_n hx hb dX1_fewestHooks_2 rfl (lv_at hl 0 rfl) ?_
      refine lv_bipush (v := nI 40) hx hb dX1_fewestHooks_3 (by decide) ?_
      refine bn_gt (tgt := 38) hx hb dX1_fewestHooks_5 (by decide) (by omega) (by omega) (fun c5 => ?_) (fun c5 => ?_)
      · skip
        refine lv_iconst (v := (-1)) hx hb dX1_fewestHooks_38 (by decide) ?_
        exact em_i hx hb hr hlocks hS (⟨fh_z h2 h1, n3, w3, F4, G4, hP⟩) dX1_fewestHooks_39
      · skip
        omega
    | succ q ih =>
      intro i n3 w3 F4 G4 h1 h3 h2 H locs hP hD hS ls hl
      refine lv_iload_n hx hb dX1_fewestHooks_2 rfl (lv_at hl 0 rfl) ?_
      refine lv_bipush (v := nI 40) hx hb dX1_fewestHooks_3 (by decide) ?_
      refine bn_gt (tgt := 38) hx hb dX1_fewestHooks_5 (by decide) (by omega) (by omega) (fun c5 => ?_) (fun c5 => ?_)
      · skip
        omega
      · skip
        refine lv_aload_n hx hb dX1_fewestHooks_8 rfl (lv_at hl 1 rfl) ?_
        refine lv_iload_n hx hb dX1_fewestHooks_9 rfl (lv_at hl 0 rfl) ?_
        refine lv_aload_n hx hb dX1_fewestHooks_10 rfl (lv_at hl 1 rfl) ?_
        refine va_get (D := D) (ci := 1) (v := .ref r) (C := RX1) (T := TX1) (N := 2) hx hb hts (fun _ h => (List.mem_cons_of_mem _ (List.mem_append_left _ (List.mem_append_right _ h)))) hown hK hP 0 rfl rfl 0 (by decide) (hts _ (List.mem_of_getElem? (i := 1) rfl)) (fun _ h9 => h9) rfl dX1_fewestHooks_11 ?_
        refine pv_i CF (m_X0_usherWay l D cI r a1 a2 S ) (cwV 0 hts gX1_fewestHooks_X0_usherWay rfl rfl rfl k_X0_usherWay ⟨Nat.le_of_ble_eq_true rfl, Nat.le_of_ble_eq_true rfl⟩) hK (hP.sub [1, 2, 3] rfl) rfl rfl rfl rfl hl.1 rfl (Nat.le_of_ble_eq_true rfl) dX1_fewestHooks_14 ⟨Nat.le_of_ble_eq_true rfl, Nat.le_of_ble_eq_true rfl⟩ ?_
        have hPc : va_P D vwCl [(o, .inr (1, [.ref r, .ref t])), (r, .inr (0, [.ref a1, .ref a2, .int (nI n), .int (nI w)])), (a1, .inl (cI, 40, .inl F)), (a2, .inl (cI, 40, .inl G)), (t, .inr (0, [.ref b1, .ref b2, .int (nI n3), .int (nI w3)])), (b1, .inl (cI, 40, .inl F4)), (b2, .inl (cI, 40, .inl G4))] H := hP.sub [0, 1, 2, 3, 4, 5, 6] rfl
        have hDc : va_D A [(o, .inr (1, [.ref r, .ref t])), (r, .inr (0, [.ref a1, .ref a2, .int (nI n), .int (nI w)])), (a1, .inl (cI, 40, .inl F)), (a2, .inl (cI, 40, .inl G)), (t, .inr (0, [.ref b1, .ref b2, .int (nI n3), .int (nI w3)])), (b1, .inl (cI, 40, .inl F4)), (b2, .inl (cI, 40, .inl G4))] := hD.sub [0, 1, 2, 3, 4, 5, 6] (by decide) rfl
        have hFc := va_free (wc := [(o, .inr (1, [.ref r, .ref t])), (r, .inr (0, [.ref a1, .ref a2, .int (nI n), .int (nI w)])), (a1, .inl (cI, 40, .inl F)), (a2, .inl (cI, 40, .inl G)), (t, .inr (0, [.ref b1, .ref b2, .int (nI n3), .int (nI w3)])), (b1, .inl (cI, 40, .inl F4)), (b2, .inl (cI, 40, .inl G4))]) hD hS hA [0, 1, 2, 3, 4, 5, 6] rfl
        refine pq_i (va_runV (rest := []) CF (m_X1_looksOnTrial l D cI o r t a1 a2 b1 b2 S n3 w3 F4 G4 i w h3 (by omega) hw2 H.size) (cwV 2 hts gX1_fewestHooks_X1_looksOnTrial rfl rfl rfl k_X1_looksOnTrial ⟨Nat.le_of_ble_eq_true rfl, Nat.le_of_ble_eq_true rfl⟩) (mv_pre hK hPc hDc rfl rfl rfl) rfl rfl hl.1 rfl (lv_room (Nat.le_of_ble_eq_true rfl)) dX1_fewestHooks_17 ⟨Nat.le_of_ble_eq_true rfl, Nat.le_of_ble_eq_true rfl⟩) hS hFc (fun r1 H locs hB hk1 hS => ?_)
        obtain ⟨rfl, F3, G3, hP1⟩ := hB
        obtain ⟨hP, hD⟩ := jn (wb := [(o, .inr (1, [.ref r, .ref t])), (r, .inr (0, [.ref a1, .ref a2, .int (nI n), .int (nI w)])), (a1, .inl (cI, 40, .inl F)), (a2, .inl (cI, 40, .inl G)), (t, .inr (0, [.ref b1, .ref b2, .int (nI i), .int (nI w)])), (b1, .inl (cI, 40, .inl F3)), (b2, .inl (cI, 40, .inl G3))]) (w1 := [(o, .inr (1, [.ref r, .ref t])), (r, .inr (0, [.ref a1, .ref a2, .int (nI n), .int (nI w)])), (a1, .inl (cI, 40, .inl F)), (a2, .inl (cI, 40, .inl G)), (t, .inr (0, [.ref b1, .ref b2, .int (nI i), .int (nI w)])), (b1, .inl (cI, 40, .inl F3)), (b2, .inl (cI, 40, .inl G3))]) hP hD [0, 1, 2, 3, 4, 5, 6] [] rfl rfl rfl rfl 7 rfl (by decide) (by decide) hk1 hP1
        refine lv_istore_n (lv' := [(3, .int (LW n f g i w)), (2, .int (nI i)), (0, .ref o), (1, .int (nI v))]) hx hb dX1_fewestHooks_20 rfl hl (by decide) rfl (fun ls hl => ?_)
        refine lv_iload_n hx hb dX1_fewestHooks_21 rfl (lv_at hl 0 rfl) ?_
        refine lv_if_lt (tgt := 32) hx hb dX1_fewestHooks_22 (by decide) (fun c22 => ?_) (fun c22 => ?_)
        · skip
          refine lv_iinc (v := (nI (i + 1))) (lv' := [(2, .int (nI (i + 1))), (3, .int (LW n f g i w)), (0, .ref o), (1, .int (nI v))]) hx hb dX1_fewestHooks_32 hl (k := 1) rfl (inc1 _) (by decide) rfl (fun ls hl => ?_)
          refine lv_goto (tgt := 2) hx hb dX1_fewestHooks_35 (by decide) ?_
          exact ih (i + 1) i w F3 G3 (by omega) (by omega) (fh_n h2 (fun z => not_lt0 z.1 c22)) _ _ hP hD hS _ (lv_sub hl [0, 2, 3] rfl)
        · skip
          refine lv_iload_n hx hb dX1_fewestHooks_25 rfl (lv_at hl 0 rfl) ?_
          refine lv_iload_n hx hb dX1_fewestHooks_26 rfl (lv_at hl 3 rfl) ?_
          refine lv_icmp_gt (tgt := 32) hx hb dX1_fewestHooks_27 (by decide) (fun c27 => ?_) (fun c27 => ?_)
          · skip
            refine lv_iinc (v := (nI (i + 1))) (lv' := [(2, .int (nI (i + 1))), (3, .int (LW n f g i w)), (0, .ref o), (1, .int (nI v))]) hx hb dX1_fewestHooks_32 hl (k := 1) rfl (inc1 _) (by decide) rfl (fun ls hl => ?_)
            refine lv_goto (tgt := 2) hx hb dX1_fewestHooks_35 (by decide) ?_
            exact ih (i + 1) i w F3 G3 (by omega) (by omega) (fh_n h2 (fun z => nlt_of_le z.2 c27)) _ _ hP hD hS _ (lv_sub hl [0, 2, 3] rfl)
          · skip
            refine lv_iload_n hx hb dX1_fewestHooks_30 rfl (lv_at hl 1 rfl) ?_
            exact em_i hx hb hr hlocks hS (⟨fh_y h2 ⟨ge0 c22, le_of_nlt c27⟩ (by omega), i, w, F3, G3, hP⟩) dX1_fewestHooks_31
  exact LP2 38 3 n2 w2 F2 G2 rfl (by decide) rfl _ _ hP hD hS _ (lv_sub hl [0, 1, 2] rfl)
theorem k_X1_coatsMovedOnTrial : yX1_coatsMovedOnTrial.cls = RX1 ∧ yX1_coatsMovedOnTrial.cls ≠ "java/lang/invoke/MethodHandle" ∧ yX1_coatsMovedOnTrial.cls ≠ "java/lang/invoke/VarHandle" ∧ (parseMethodDescriptor yX1_coatsMovedOnTrial.desc).map (fun d => d.parameters.length) = some 0 := by decide +kernel
set_option maxHeartbeats 4000000 in
set_option maxRecDepth 100000 in
theorem m_X1_coatsMovedOnTrial (l : Launch) (D : va_G) (cI : ClassId) (o r t a1 a2 b1 b2 : Nat) {n w : Nat} {F G f g : Nat → Int32} (S : RS n w F G f g) {n2 w2 : Nat} {F2 G2 T U : Nat → Int32} (S2 : RS n2 w2 F2 G2 T U) : Met l yX1_coatsMovedOnTrial wsX1_coatsMovedOnTrial ({ frames := 2, cells := 0, slots := 0, locals := 43 } : Room) (PR D [(cI, .int)] [.ref o] (clw cI o r t a1 a2 b1 b2 n w F G n2 w2 F2 G2)) (vp_Si (fun r => r = nI (cm n f n2 T))) 0 0 (fun _ => False) := by
  obtain ⟨hn3, hn, hw2, hF, hG, hO⟩ := id S
  have hn240 := S2.2.1
  refine bd_p (cc := cX1_coatsMovedOnTrial) (maxL := 4) (ret := (some .int)) (by decide) rfl (Nat.le_of_ble_eq_true rfl) ?_
  intro p e s m args below meth c ls CF hr hlocks hK hP hl
  obtain ⟨hx, hb, hml, hown, hts⟩ := id CF
  have hl : lv_has ls 4 [(0, .ref o)] := hl
  have hP : va_P D vwCl [(o, .inr (1, [.ref r, .ref t])), (r, .inr (0, [.ref a1, .ref a2, .int (nI n), .int (nI w)])), (a1, .inl (cI, 40, .inl F)), (a2, .inl (cI, 40, .inl G)), (t, .inr (0, [.ref b1, .ref b2, .int (nI n2), .int (nI w2)])), (b1, .inl (cI, 40, .inl F2)), (b2, .inl (cI, 40, .inl G2))] s.heap := hP
  refine lv_iconst (v := nI 0) hx hb dX1_coatsMovedOnTrial_0 (by decide) ?_
  refine lv_istore_n (lv' := [(1, .int (nI 0)), (0, .ref o)]) hx hb dX1_coatsMovedOnTrial_1 rfl hl (by decide) rfl (fun ls hl => ?_)
  refine lv_iconst (v := nI 0) hx hb dX1_coatsMovedOnTrial_2 (by decide) ?_
  refine lv_istore_n (lv' := [(2, .int (nI 0)), (1, .int (nI 0)), (0, .ref o)]) hx hb dX1_coatsMovedOnTrial_3 rfl hl (by decide) rfl (fun ls hl => ?_)
  have LP4 : ∀ (q i a : Nat), i + q = n2 → fo (fun a i => if ¬ cn (T i) = -1 ∧ ¬ cn (hd n f i) = cn (T i) then a + 1 else a) q i a = cm n f n2 T → ∀ (ls : Array Slot), lv_has ls 4 [(2, .int (nI i)), (1, .int (nI a)), (0, .ref o)] → W p l e ({ frames := 2, cells := 0, slots := 0, locals := 43 } : Room) s m args below meth c s.heap [] 0 0 (MQ below (vp_Si (fun r => r = nI (cm n f n2 T))) args s 0 0 (fun _ => False)) (F0 m 4 ls []) := by
    intro q
    induction q with
    | zero =>
      intro i a h1 h2 ls hl
      refine lv_iload_n hx hb dX1_coatsMovedOnTrial_4 rfl (lv_at hl 0 rfl) ?_
      refine lv_aload_n hx hb dX1_coatsMovedOnTrial_5 rfl (lv_at hl 2 rfl) ?_
      refine va_get (D := D) (ci := 1) (v := .ref t) (C := RX1) (T := TX1) (N := 2) hx hb hts (fun _ h => (List.mem_cons_of_mem _ (List.mem_append_left _ (List.mem_append_right _ h)))) hown hK hP 0 rfl rfl 1 (by decide) (hts _ (List.mem_of_getElem? (i := 1) rfl)) (fun _ h9 => h9) rfl dX1_coatsMovedOnTrial_6 ?_
      refine pv_i CF (m_X0_hookCount l D cI t b1 b2 S2) (cwV 0 hts gX1_coatsMovedOnTrial_X0_hookCount rfl rfl rfl k_X0_hookCount ⟨Nat.le_of_ble_eq_true rfl, Nat.le_of_ble_eq_true rfl⟩) hK (hP.sub [4, 5, 6] rfl) rfl rfl rfl rfl hl.1 rfl (Nat.le_of_ble_eq_true rfl) dX1_coatsMovedOnTrial_9 ⟨Nat.le_of_ble_eq_true rfl, Nat.le_of_ble_eq_true rfl⟩ ?_
      refine bn_ge (tgt := 50) hx hb dX1_coatsMovedOnTrial_12 (by decide) (by omega) (by omega) (fun c12 => ?_) (fun c12 => ?_)
      · skip
        refine lv_iload_n hx hb dX1_coatsMovedOnTrial_50 rfl (lv_at hl 1 rfl) ?_
        exact en_i hx hb hr hlocks (congrArg nI h2) dX1_coatsMovedOnTrial_51
      · skip
        omega
    | succ q ih =>
      intro i a h1 h2 ls hl
      refine lv_iload_n hx hb dX1_coatsMovedOnTrial_4 rfl (lv_at hl 0 rfl) ?_
      refine lv_aload_n hx hb dX1_coatsMovedOnTrial_5 rfl (lv_at hl 2 rfl) ?_
      refine va_get (D := D) (ci := 1) (v := .ref t) (C := RX1) (T := TX1) (N := 2) hx hb hts (fun _ h => (List.mem_cons_of_mem _ (List.mem_append_left _ (List.mem_append_right _ h)))) hown hK hP 0 rfl rfl 1 (by decide) (hts _ (List.mem_of_getElem? (i := 1) rfl)) (fun _ h9 => h9) rfl dX1_coatsMovedOnTrial_6 ?_
      refine pv_i CF (m_X0_hookCount l D cI t b1 b2 S2) (cwV 0 hts gX1_coatsMovedOnTrial_X0_hookCount rfl rfl rfl k_X0_hookCount ⟨Nat.le_of_ble_eq_true rfl, Nat.le_of_ble_eq_true rfl⟩) hK (hP.sub [4, 5, 6] rfl) rfl rfl rfl rfl hl.1 rfl (Nat.le_of_ble_eq_true rfl) dX1_coatsMovedOnTrial_9 ⟨Nat.le_of_ble_eq_true rfl, Nat.le_of_ble_eq_true rfl⟩ ?_
      refine bn_ge (tgt := 50) hx hb dX1_coatsMovedOnTrial_12 (by decide) (by omega) (by omega) (fun c12 => ?_) (fun c12 => ?_)
      · skip
        omega
      · skip
        refine lv_aload_n hx hb dX1_coatsMovedOnTrial_15 rfl (lv_at hl 2 rfl) ?_
        refine va_get (D := D) (ci := 1) (v := .ref t) (C := RX1) (T := TX1) (N := 2) hx hb hts (fun _ h => (List.mem_cons_of_mem _ (List.mem_append_left _ (List.mem_append_right _ h)))) hown hK hP 0 rfl rfl 1 (by decide) (hts _ (List.mem_of_getElem? (i := 1) rfl)) (fun _ h9 => h9) rfl dX1_coatsMovedOnTrial_16 ?_
        refine lv_iload_n hx hb dX1_coatsMovedOnTrial_19 rfl (lv_at hl 0 rfl) ?_
        refine pv_i CF (m_X0_coatOn l D cI t b1 b2 S2 i (by omega)) (cwV 1 hts gX1_coatsMovedOnTrial_X0_coatOn rfl rfl rfl k_X0_coatOn ⟨Nat.le_of_ble_eq_true rfl, Nat.le_of_ble_eq_true rfl⟩) hK (hP.sub [4, 5, 6] rfl) rfl rfl rfl rfl hl.1 rfl (Nat.le_of_ble_eq_true rfl) dX1_coatsMovedOnTrial_20 ⟨Nat.le_of_ble_eq_true rfl, Nat.le_of_ble_eq_true rfl⟩ ?_
        refine tp_i (y := (cn (T i))) (cn_hd (by omega)) ?_
        refine lv_istore_n (lv' := [(3, .int (cn (T i))), (2, .int (nI i)), (1, .int (nI a)), (0, .ref o)]) hx hb dX1_coatsMovedOnTrial_23 rfl hl (by decide) rfl (fun ls hl => ?_)
        refine lv_iload_n hx hb dX1_coatsMovedOnTrial_24 rfl (lv_at hl 0 rfl) ?_
        refine lv_iconst (v := (-1)) hx hb dX1_coatsMovedOnTrial_25 (by decide) ?_
        refine lv_icmp_eq (tgt := 44) hx hb dX1_coatsMovedOnTrial_26 (by decide) (fun c26 => ?_) (fun c26 => ?_)
        · skip
          refine lv_iinc (v := (nI (i + 1))) (lv' := [(2, .int (nI (i + 1))), (3, .int (cn (T i))), (1, .int (nI a)), (0, .ref o)]) hx hb dX1_coatsMovedOnTrial_44 hl (k := 1) rfl (inc1 _) (by decide) rfl (fun ls hl => ?_)
          refine lv_goto (tgt := 4) hx hb dX1_coatsMovedOnTrial_47 (by decide) ?_
          exact ih (i + 1) a (by omega) (by rw [fo_s, if_neg (fun z => z.1 c26)] at h2; exact h2) _ (lv_sub hl [0, 2, 3] rfl)
        · skip
          refine lv_aload_n hx hb dX1_coatsMovedOnTrial_29 rfl (lv_at hl 3 rfl) ?_
          refine va_get (D := D) (ci := 1) (v := .ref r) (C := RX1) (T := TX1) (N := 2) hx hb hts (fun _ h => (List.mem_cons_of_mem _ (List.mem_append_left _ (List.mem_append_right _ h)))) hown hK hP 0 rfl rfl 0 (by decide) (hts _ (List.mem_of_getElem? (i := 2) rfl)) (fun _ h9 => h9) rfl dX1_coatsMovedOnTrial_30 ?_
          refine lv_iload_n hx hb dX1_coatsMovedOnTrial_33 rfl (lv_at hl 1 rfl) ?_
          refine pv_i CF (m_X0_coatOn l D cI r a1 a2 S i (by omega)) (cwV 1 hts gX1_coatsMovedOnTrial_X0_coatOn rfl rfl rfl k_X0_coatOn ⟨Nat.le_of_ble_eq_true rfl, Nat.le_of_ble_eq_true rfl⟩) hK (hP.sub [1, 2, 3] rfl) rfl rfl rfl rfl hl.1 rfl (Nat.le_of_ble_eq_true rfl) dX1_coatsMovedOnTrial_34 ⟨Nat.le_of_ble_eq_true rfl, Nat.le_of_ble_eq_true rfl⟩ ?_
          refine lv_iload_n hx hb dX1_coatsMovedOnTrial_37 rfl (lv_at hl 0 rfl) ?_
          refine lv_icmp_eq (tgt := 44) hx hb dX1_coatsMovedOnTrial_38 (by decide) (fun c38 => ?_) (fun c38 => ?_)
          · skip
            refine lv_iinc (v := (nI (i + 1))) (lv' := [(2, .int (nI (i + 1))), (3, .int (cn (T i))), (1, .int (nI a)), (0, .ref o)]) hx hb dX1_coatsMovedOnTrial_44 hl (k := 1) rfl (inc1 _) (by decide) rfl (fun ls hl => ?_)
            refine lv_goto (tgt := 4) hx hb dX1_coatsMovedOnTrial_47 (by decide) ?_
            exact ih (i + 1) a (by omega) (by rw [fo_s, if_neg (fun z => z.2 c38)] at h2; exact h2) _ (lv_sub hl [0, 2, 3] rfl)
          · skip
            refine lv_iinc (v := (nI (a + 1))) (lv' := [(1, .int (nI (a + 1))), (3, .int (cn (T i))), (2, .int (nI i)), (0, .ref o)]) hx hb dX1_coatsMovedOnTrial_41 hl (k := 2) rfl (inc1 _) (by decide) rfl (fun ls hl => ?_)
            refine lv_iinc (v := (nI (i + 1))) (lv' := [(2, .int (nI (i + 1))), (1, .int (nI (a + 1))), (3, .int (cn (T i))), (0, .ref o)]) hx hb dX1_coatsMovedOnTrial_44 hl (k := 2) rfl (inc1 _) (by decide) rfl (fun ls hl => ?_)
            refine lv_goto (tgt := 4) hx hb dX1_coatsMovedOnTrial_47 (by decide) ?_
            exact ih (i + 1) (a + 1) (by omega) (by rw [fo_s, if_pos ⟨c26, c38⟩] at h2; exact h2) _ (lv_sub hl [0, 1, 3] rfl)
  exact LP4 n2 0 0 (Nat.zero_add n2) rfl _ (lv_sub hl [0, 1, 2] rfl)
theorem k_X1_takeOverTrial : yX1_takeOverTrial.cls = RX1 ∧ yX1_takeOverTrial.cls ≠ "java/lang/invoke/MethodHandle" ∧ yX1_takeOverTrial.cls ≠ "java/lang/invoke/VarHandle" ∧ (parseMethodDescriptor yX1_takeOverTrial.desc).map (fun d => d.parameters.length) = some 0 := by decide +kernel
set_option maxHeartbeats 4000000 in
set_option maxRecDepth 100000 in
theorem m_X1_takeOverTrial (l : Launch) (D : va_G) (cI : ClassId) (o r t a1 a2 b1 b2 n w : Nat) (F G : Nat → Int32) {n2 w2 : Nat} {F2 G2 T U : Nat → Int32} (S2 : RS n2 w2 F2 G2 T U) (hT : nt n2 T) (sz : Nat) : Met l yX1_takeOverTrial wsX1_takeOverTrial ({ frames := 2, cells := 0, slots := 0, locals := 46 } : Room) (PM D [(cI, .int)] [.ref o] sz (clw cI o r t a1 a2 b1 b2 n w F G n2 w2 F2 G2)) (qm_v (fun H1 => ∃ F3 G3 : Nat → Int32, RS n2 w2 F3 G3 T U ∧ va_P D vwCl (clw cI o r t a1 a2 b1 b2 n2 w2 F3 G3 n2 w2 F2 G2) H1) (va_A (clw cI o r t a1 a2 b1 b2 n w F G n2 w2 F2 G2) sz)) 0 0 (va_A (clw cI o r t a1 a2 b1 b2 n w F G n2 w2 F2 G2) sz) := by
  obtain ⟨hn23, hn240, hw22, hF2, hG2, hO2⟩ := id S2
  refine bd_m (Qc := (fun A => qm_v (fun H1 => ∃ F3 G3 : Nat → Int32, RS n2 w2 F3 G3 T U ∧ va_P D vwCl (clw cI o r t a1 a2 b1 b2 n2 w2 F3 G3 n2 w2 F2 G2) H1) A)) (cc := cX1_takeOverTrial) (maxL := 3) (ret := none) (by decide) rfl (Nat.le_of_ble_eq_true rfl) ?_
  intro p e s m args below meth c ls A CF hr hlocks hK hP hD hA hS hl hin
  obtain ⟨hx, hb, hml, hown, hts⟩ := id CF
  have hl : lv_has ls 3 [(0, .ref o)] := hl
  have hP : va_P D vwCl [(o, .inr (1, [.ref r, .ref t])), (r, .inr (0, [.ref a1, .ref a2, .int (nI n), .int (nI w)])), (a1, .inl (cI, 40, .inl F)), (a2, .inl (cI, 40, .inl G)), (t, .inr (0, [.ref b1, .ref b2, .int (nI n2), .int (nI w2)])), (b1, .inl (cI, 40, .inl F2)), (b2, .inl (cI, 40, .inl G2))] s.heap := hP
  have hD : va_D A [(o, .inr (1, [.ref r, .ref t])), (r, .inr (0, [.ref a1, .ref a2, .int (nI n), .int (nI w)])), (a1, .inl (cI, 40, .inl F)), (a2, .inl (cI, 40, .inl G)), (t, .inr (0, [.ref b1, .ref b2, .int (nI n2), .int (nI w2)])), (b1, .inl (cI, 40, .inl F2)), (b2, .inl (cI, 40, .inl G2))] := hD
  generalize hH0 : s.heap = H at hP
  have hS : va_S A s.heap H [] := by rw [← hH0]; exact va_S.rf
  generalize hlc0 : ([] : List Loc) = locs at hS ⊢
  refine lv_aload_n hx hb dX1_takeOverTrial_0 rfl (lv_at hl 0 rfl) ?_
  refine va_get (D := D) (ci := 1) (v := .ref r) (C := RX1) (T := TX1) (N := 2) hx hb hts (fun _ h => (List.mem_cons_of_mem _ (List.mem_append_left _ (List.mem_append_right _ h)))) hown hK hP 0 rfl rfl 0 (by decide) (hts _ (List.mem_of_getElem? (i := 1) rfl)) (fun _ h9 => h9) rfl dX1_takeOverTrial_1 ?_
  refine lv_aload_n hx hb dX1_takeOverTrial_4 rfl (lv_at hl 0 rfl) ?_
  refine va_get (D := D) (ci := 1) (v := .ref t) (C := RX1) (T := TX1) (N := 2) hx hb hts (fun _ h => (List.mem_cons_of_mem _ (List.mem_append_left _ (List.mem_append_right _ h)))) hown hK hP 0 rfl rfl 1 (by decide) (hts _ (List.mem_of_getElem? (i := 2) rfl)) (fun _ h9 => h9) rfl dX1_takeOverTrial_5 ?_
  refine pv_i CF (m_X0_hookCount l D cI t b1 b2 S2) (cwV 0 hts gX1_takeOverTrial_X0_hookCount rfl rfl rfl k_X0_hookCount ⟨Nat.le_of_ble_eq_true rfl, Nat.le_of_ble_eq_true rfl⟩) hK (hP.sub [4, 5, 6] rfl) rfl rfl rfl rfl hl.1 rfl (Nat.le_of_ble_eq_true rfl) dX1_takeOverTrial_8 ⟨Nat.le_of_ble_eq_true rfl, Nat.le_of_ble_eq_true rfl⟩ ?_
  refine lv_aload_n hx hb dX1_takeOverTrial_11 rfl (lv_at hl 0 rfl) ?_
  refine va_get (D := D) (ci := 1) (v := .ref t) (C := RX1) (T := TX1) (N := 2) hx hb hts (fun _ h => (List.mem_cons_of_mem _ (List.mem_append_left _ (List.mem_append_right _ h)))) hown hK hP 0 rfl rfl 1 (by decide) (hts _ (List.mem_of_getElem? (i := 2) rfl)) (fun _ h9 => h9) rfl dX1_takeOverTrial_12 ?_
  refine pv_i CF (m_X0_usherWay l D cI t b1 b2 S2) (cwV 0 hts gX1_takeOverTrial_X0_usherWay rfl rfl rfl k_X0_usherWay ⟨Nat.le_of_ble_eq_true rfl, Nat.le_of_ble_eq_true rfl⟩) hK (hP.sub [4, 5, 6] rfl) rfl rfl rfl rfl hl.1 rfl (Nat.le_of_ble_eq_true rfl) dX1_takeOverTrial_15 ⟨Nat.le_of_ble_eq_true rfl, Nat.le_of_ble_eq_true rfl⟩ ?_
  have hPc : va_P D vwCl [(r, .inr (0, [.ref a1, .ref a2, .int (nI n), .int (nI w)])), (a1, .inl (cI, 40, .inl F)), (a2, .inl (cI, 40, .inl G))] H := hP.sub [1, 2, 3] rfl
  have hDc : va_D A [(r, .inr (0, [.ref a1, .ref a2, .int (nI n), .int (nI w)])), (a1, .inl (cI, 40, .inl F)), (a2, .inl (cI, 40, .inl G))] := hD.sub [1, 2, 3] (by decide) rfl
  have hFc := va_free (wc := [(r, .inr (0, [.ref a1, .ref a2, .int (nI n), .int (nI w)])), (a1, .inl (cI, 40, .inl F)), (a2, .inl (cI, 40, .inl G))]) hD hS hA [1, 2, 3] rfl
  refine pq_v (va_runV (rest := []) CF (m_X0_clear l D cI r a1 a2 n w F G n2 w2 H.size) (cwV 2 hts gX1_takeOverTrial_X0_clear rfl rfl rfl k_X0_clear ⟨Nat.le_of_ble_eq_true rfl, Nat.le_of_ble_eq_true rfl⟩) (mv_pre hK hPc hDc rfl rfl rfl) rfl rfl hl.1 rfl (lv_room (Nat.le_of_ble_eq_true rfl)) dX1_takeOverTrial_18 ⟨Nat.le_of_ble_eq_true rfl, Nat.le_of_ble_eq_true rfl⟩) hS hFc (fun H locs hB hk1 hS => ?_)
  obtain ⟨F3, G3, hF3, hG3, hP1⟩ := hB
  obtain ⟨hP, hD⟩ := jn (wb := [(o, .inr (1, [.ref r, .ref t])), (r, .inr (0, [.ref a1, .ref a2, .int (nI n2), .int (nI w2)])), (a1, .inl (cI, 40, .inl F3)), (a2, .inl (cI, 40, .inl G3)), (t, .inr (0, [.ref b1, .ref b2, .int (nI n2), .int (nI w2)])), (b1, .inl (cI, 40, .inl F2)), (b2, .inl (cI, 40, .inl G2))]) (w1 := [(r, .inr (0, [.ref a1, .ref a2, .int (nI n2), .int (nI w2)])), (a1, .inl (cI, 40, .inl F3)), (a2, .inl (cI, 40, .inl G3))]) hP hD [1, 2, 3] [0, 4, 5, 6] rfl rfl rfl rfl 7 rfl (by decide) (by decide) hk1 hP1
  refine lv_iconst (v := nI 0) hx hb dX1_takeOverTrial_21 (by decide) ?_
  refine lv_istore_n (lv' := [(1, .int (nI 0)), (0, .ref o)]) hx hb dX1_takeOverTrial_22 rfl hl (by decide) rfl (fun ls hl => ?_)
  have LP23 : ∀ (q i : Nat) (F4 G4 : Nat → Int32), i + q = n2 → (∀ k, k < 40 → F4 k = if k < i then T k else -1) → (∀ k, k < 40 → G4 k = if k < i then U k else nI 0) → ∀ (H : Heap) (locs : List Loc), va_P D vwCl [(o, .inr (1, [.ref r, .ref t])), (r, .inr (0, [.ref a1, .ref a2, .int (nI n2), .int (nI w2)])), (a1, .inl (cI, 40, .inl F4)), (a2, .inl (cI, 40, .inl G4)), (t, .inr (0, [.ref b1, .ref b2, .int (nI n2), .int (nI w2)])), (b1, .inl (cI, 40, .inl F2)), (b2, .inl (cI, 40, .inl G2))] H → va_D A [(o, .inr (1, [.ref r, .ref t])), (r, .inr (0, [.ref a1, .ref a2, .int (nI n2), .int (nI w2)])), (a1, .inl (cI, 40, .inl F4)), (a2, .inl (cI, 40, .inl G4)), (t, .inr (0, [.ref b1, .ref b2, .int (nI n2), .int (nI w2)])), (b1, .inl (cI, 40, .inl F2)), (b2, .inl (cI, 40, .inl G2))] → va_S A s.heap H locs → ∀ (ls : Array Slot), lv_has ls 3 [(1, .int (nI i)), (0, .ref o)] → W p l e ({ frames := 2, cells := 0, slots := 0, locals := 46 } : Room) s m args below meth c H locs 0 0 (MQ below (qm_v (fun H1 => ∃ F3 G3 : Nat → Int32, RS n2 w2 F3 G3 T U ∧ va_P D vwCl (clw cI o r t a1 a2 b1 b2 n2 w2 F3 G3 n2 w2 F2 G2) H1) A) args s 0 0 A) (F0 m 23 ls []) := by
    intro q
    induction q with
    | zero =>
      intro i F4 G4 h1 hF4 hG4 H locs hP hD hS ls hl
      refine lv_iload_n hx hb dX1_takeOverTrial_23 rfl (lv_at hl 0 rfl) ?_
      refine lv_aload_n hx hb dX1_takeOverTrial_24 rfl (lv_at hl 1 rfl) ?_
      refine va_get (D := D) (ci := 1) (v := .ref t) (C := RX1) (T := TX1) (N := 2) hx hb hts (fun _ h => (List.mem_cons_of_mem _ (List.mem_append_left _ (List.mem_append_right _ h)))) hown hK hP 0 rfl rfl 1 (by decide) (hts _ (List.mem_of_getElem? (i := 2) rfl)) (fun _ h9 => h9) rfl dX1_takeOverTrial_25 ?_
      refine pv_i CF (m_X0_hookCount l D cI t b1 b2 S2) (cwV 0 hts gX1_takeOverTrial_X0_hookCount rfl rfl rfl k_X0_hookCount ⟨Nat.le_of_ble_eq_true rfl, Nat.le_of_ble_eq_true rfl⟩) hK (hP.sub [4, 5, 6] rfl) rfl rfl rfl rfl hl.1 rfl (Nat.le_of_ble_eq_true rfl) dX1_takeOverTrial_28 ⟨Nat.le_of_ble_eq_true rfl, Nat.le_of_ble_eq_true rfl⟩ ?_
      refine bn_ge (tgt := 71) hx hb dX1_takeOverTrial_31 (by decide) (by omega) (by omega) (fun c31 => ?_) (fun c31 => ?_)
      · skip
        exact em_v hx hb hr hlocks hS (⟨F4, G4, ⟨hn23, hn240, hw22, fun k hk => by rw [hF4 k (by omega), if_pos (by omega)], fun k hk => by rw [hG4 k (by omega), if_pos (by omega)], hO2⟩, hP⟩) dX1_takeOverTrial_71
      · skip
        omega
    | succ q ih =>
      intro i F4 G4 h1 hF4 hG4 H locs hP hD hS ls hl
      refine lv_iload_n hx hb dX1_takeOverTrial_23 rfl (lv_at hl 0 rfl) ?_
      refine lv_aload_n hx hb dX1_takeOverTrial_24 rfl (lv_at hl 1 rfl) ?_
      refine va_get (D := D) (ci := 1) (v := .ref t) (C := RX1) (T := TX1) (N := 2) hx hb hts (fun _ h => (List.mem_cons_of_mem _ (List.mem_append_left _ (List.mem_append_right _ h)))) hown hK hP 0 rfl rfl 1 (by decide) (hts _ (List.mem_of_getElem? (i := 2) rfl)) (fun _ h9 => h9) rfl dX1_takeOverTrial_25 ?_
      refine pv_i CF (m_X0_hookCount l D cI t b1 b2 S2) (cwV 0 hts gX1_takeOverTrial_X0_hookCount rfl rfl rfl k_X0_hookCount ⟨Nat.le_of_ble_eq_true rfl, Nat.le_of_ble_eq_true rfl⟩) hK (hP.sub [4, 5, 6] rfl) rfl rfl rfl rfl hl.1 rfl (Nat.le_of_ble_eq_true rfl) dX1_takeOverTrial_28 ⟨Nat.le_of_ble_eq_true rfl, Nat.le_of_ble_eq_true rfl⟩ ?_
      refine bn_ge (tgt := 71) hx hb dX1_takeOverTrial_31 (by decide) (by omega) (by omega) (fun c31 => ?_) (fun c31 => ?_)
      · skip
        omega
      · skip
        refine lv_aload_n hx hb dX1_takeOverTrial_34 rfl (lv_at hl 1 rfl) ?_
        refine va_get (D := D) (ci := 1) (v := .ref t) (C := RX1) (T := TX1) (N := 2) hx hb hts (fun _ h => (List.mem_cons_of_mem _ (List.mem_append_left _ (List.mem_append_right _ h)))) hown hK hP 0 rfl rfl 1 (by decide) (hts _ (List.mem_of_getElem? (i := 2) rfl)) (fun _ h9 => h9) rfl dX1_takeOverTrial_35 ?_
        refine lv_iload_n hx hb dX1_takeOverTrial_38 rfl (lv_at hl 0 rfl) ?_
        refine pv_i CF (m_X0_coatOn l D cI t b1 b2 S2 i (by omega)) (cwV 1 hts gX1_takeOverTrial_X0_coatOn rfl rfl rfl k_X0_coatOn ⟨Nat.le_of_ble_eq_true rfl, Nat.le_of_ble_eq_true rfl⟩) hK (hP.sub [4, 5, 6] rfl) rfl rfl rfl rfl hl.1 rfl (Nat.le_of_ble_eq_true rfl) dX1_takeOverTrial_39 ⟨Nat.le_of_ble_eq_true rfl, Nat.le_of_ble_eq_true rfl⟩ ?_
        refine tp_i (y := (cn (T i))) (cn_hd (by omega)) ?_
        refine lv_istore_n (lv' := [(2, .int (cn (T i))), (1, .int (nI i)), (0, .ref o)]) hx hb dX1_takeOverTrial_42 rfl hl (by decide) rfl (fun ls hl => ?_)
        refine lv_iload_n hx hb dX1_takeOverTrial_43 rfl (lv_at hl 0 rfl) ?_
        refine lv_iconst (v := (-1)) hx hb dX1_takeOverTrial_44 (by decide) ?_
        refine lv_icmp_eq (tgt := 65) hx hb dX1_takeOverTrial_45 (by decide) (fun c45 => ?_) (fun c45 => ?_)
        · skip
          refine lv_iinc (v := (nI (i + 1))) (lv' := [(1, .int (nI (i + 1))), (2, .int (cn (T i))), (0, .ref o)]) hx hb dX1_takeOverTrial_65 hl (k := 1) rfl (inc1 _) (by decide) rfl (fun ls hl => ?_)
          refine lv_goto (tgt := 23) hx hb dX1_takeOverTrial_68 (by decide) ?_
          exact ih (i + 1) F4 G4 (by omega) (to_n hF4 (nt_neg hO2 hT (by omega) (cn_lt c45)).1) (to_n hG4 (nt_neg hO2 hT (by omega) (cn_lt c45)).2) _ _ hP hD hS _ (lv_sub hl [0, 2] rfl)
        · skip
          refine lv_aload_n hx hb dX1_takeOverTrial_48 rfl (lv_at hl 2 rfl) ?_
          refine va_get (D := D) (ci := 1) (v := .ref r) (C := RX1) (T := TX1) (N := 2) hx hb hts (fun _ h => (List.mem_cons_of_mem _ (List.mem_append_left _ (List.mem_append_right _ h)))) hown hK hP 0 rfl rfl 0 (by decide) (hts _ (List.mem_of_getElem? (i := 1) rfl)) (fun _ h9 => h9) rfl dX1_takeOverTrial_49 ?_
          refine lv_iload_n hx hb dX1_takeOverTrial_52 rfl (lv_at hl 1 rfl) ?_
          refine lv_iload_n hx hb dX1_takeOverTrial_53 rfl (lv_at hl 0 rfl) ?_
          refine lv_aload_n hx hb dX1_takeOverTrial_54 rfl (lv_at hl 2 rfl) ?_
          refine va_get (D := D) (ci := 1) (v := .ref t) (C := RX1) (T := TX1) (N := 2) hx hb hts (fun _ h => (List.mem_cons_of_mem _ (List.mem_append_left _ (List.mem_append_right _ h)))) hown hK hP 0 rfl rfl 1 (by decide) (hts _ (List.mem_of_getElem? (i := 2) rfl)) (fun _ h9 => h9) rfl dX1_takeOverTrial_55 ?_
          refine lv_iload_n hx hb dX1_takeOverTrial_58 rfl (lv_at hl 1 rfl) ?_
          refine pv_i CF (m_X0_weightOn l D cI t b1 b2 S2 i (by omega)) (cwV 1 hts gX1_takeOverTrial_X0_weightOn rfl rfl rfl k_X0_weightOn ⟨Nat.le_of_ble_eq_true rfl, Nat.le_of_ble_eq_true rfl⟩) hK (hP.sub [4, 5, 6] rfl) rfl rfl rfl rfl hl.1 rfl (Nat.le_of_ble_eq_true rfl) dX1_takeOverTrial_59 ⟨Nat.le_of_ble_eq_true rfl, Nat.le_of_ble_eq_true rfl⟩ ?_
          refine tp_i (y := (U i)) (if_pos (by omega)) ?_
          have hPc : va_P D vwCl [(r, .inr (0, [.ref a1, .ref a2, .int (nI n2), .int (nI w2)])), (a1, .inl (cI, 40, .inl F4)), (a2, .inl (cI, 40, .inl G4))] H := hP.sub [1, 2, 3] rfl
          have hDc : va_D A [(r, .inr (0, [.ref a1, .ref a2, .int (nI n2), .int (nI w2)])), (a1, .inl (cI, 40, .inl F4)), (a2, .inl (cI, 40, .inl G4))] := hD.sub [1, 2, 3] (by decide) rfl
          have hFc := va_free (wc := [(r, .inr (0, [.ref a1, .ref a2, .int (nI n2), .int (nI w2)])), (a1, .inl (cI, 40, .inl F4)), (a2, .inl (cI, 40, .inl G4))]) hD hS hA [1, 2, 3] rfl
          refine pq_v (va_runV (rest := []) CF (m_X0_put l D cI r a1 a2 n2 w2 F4 G4 i (cn (T i)) (U i) (by omega) H.size) (cwV 3 hts gX1_takeOverTrial_X0_put rfl rfl rfl k_X0_put ⟨Nat.le_of_ble_eq_true rfl, Nat.le_of_ble_eq_true rfl⟩) (mv_pre hK hPc hDc rfl rfl rfl) rfl rfl hl.1 rfl (lv_room (Nat.le_of_ble_eq_true rfl)) dX1_takeOverTrial_62 ⟨Nat.le_of_ble_eq_true rfl, Nat.le_of_ble_eq_true rfl⟩) hS hFc (fun H locs hB hk1 hS => ?_)
          have hP1 := hB
          obtain ⟨hP, hD⟩ := jn (wb := [(o, .inr (1, [.ref r, .ref t])), (r, .inr (0, [.ref a1, .ref a2, .int (nI n2), .int (nI w2)])), (a1, .inl (cI, 40, .inl (upd F4 i (cn (T i))))), (a2, .inl (cI, 40, .inl (upd G4 i (U i)))), (t, .inr (0, [.ref b1, .ref b2, .int (nI n2), .int (nI w2)])), (b1, .inl (cI, 40, .inl F2)), (b2, .inl (cI, 40, .inl G2))]) (w1 := [(r, .inr (0, [.ref a1, .ref a2, .int (nI n2), .int (nI w2)])), (a1, .inl (cI, 40, .inl (upd F4 i (cn (T i))))), (a2, .inl (cI, 40, .inl (upd G4 i (U i))))]) hP hD [1, 2, 3] [0, 4, 5, 6] rfl rfl rfl rfl 7 rfl (by decide) (by decide) hk1 hP1
          refine lv_iinc (v := (nI (i + 1))) (lv' := [(1, .int (nI (i + 1))), (2, .int (cn (T i))), (0, .ref o)]) hx hb dX1_takeOverTrial_65 hl (k := 1) rfl (inc1 _) (by decide) rfl (fun ls hl => ?_)
          refine lv_goto (tgt := 23) hx hb dX1_takeOverTrial_68 (by decide) ?_
          exact ih (i + 1) (upd F4 i (cn (T i))) (upd G4 i (U i)) (by omega) (to_F hF4 (cn_id (cn_ge c45))) (to_F hG4 rfl) _ _ hP hD hS _ (lv_sub hl [0, 2] rfl)
  exact LP23 n2 0 F3 G3 (Nat.zero_add n2) (fun k hk => by rw [if_neg (Nat.not_lt_zero k)]; exact hF3 k hk) (fun k hk => by rw [if_neg (Nat.not_lt_zero k)]; exact hG3 k hk) _ _ hP hD hS _ (lv_sub hl [0, 1] rfl)
theorem k_X1_sweep : yX1_sweep.cls = RX1 ∧ yX1_sweep.cls ≠ "java/lang/invoke/MethodHandle" ∧ yX1_sweep.cls ≠ "java/lang/invoke/VarHandle" ∧ (parseMethodDescriptor yX1_sweep.desc).map (fun d => d.parameters.length) = some 0 := by decide +kernel
set_option maxHeartbeats 4000000 in
set_option maxRecDepth 100000 in
theorem m_X1_sweep (l : Launch) (D : va_G) (cI : ClassId) (o r t a1 a2 b1 b2 : Nat) {n w : Nat} {F G f g : Nat → Int32} (S : RS n w F G f g) (n2 w2 : Nat) (F2 G2 : Nat → Int32) (sz : Nat) : Met l yX1_sweep wsX1_sweep ({ frames := 3, cells := 0, slots := 0, locals := 67 } : Room) (PM D [(cI, .int)] [.ref o] sz (clw cI o r t a1 a2 b1 b2 n w F G n2 w2 F2 G2)) (qm_i (fun rr H1 => rr = nI (swp n f).2 ∧ ∃ F3 G3 : Nat → Int32, RS n w F3 G3 (swp n f).1 g ∧ va_P D vwCl (clw cI o r t a1 a2 b1 b2 n w F3 G3 n2 w2 F2 G2) H1) (va_A (clw cI o r t a1 a2 b1 b2 n w F G n2 w2 F2 G2) sz)) 0 0 (va_A (clw cI o r t a1 a2 b1 b2 n w F G n2 w2 F2 G2) sz) := by
  obtain ⟨hn3, hn, hw2, hF, hG, hO⟩ := id S
  refine bd_m (Qc := (fun A => qm_i (fun rr H1 => rr = nI (swp n f).2 ∧ ∃ F3 G3 : Nat → Int32, RS n w F3 G3 (swp n f).1 g ∧ va_P D vwCl (clw cI o r t a1 a2 b1 b2 n w F3 G3 n2 w2 F2 G2) H1) A)) (cc := cX1_sweep) (maxL := 2) (ret := (some .int)) (by decide) rfl (Nat.le_of_ble_eq_true rfl) ?_
  intro p e s m args below meth c ls A CF hr hlocks hK hP hD hA hS hl hin
  obtain ⟨hx, hb, hml, hown, hts⟩ := id CF
  have hl : lv_has ls 2 [(0, .ref o)] := hl
  have hP : va_P D vwCl [(o, .inr (1, [.ref r, .ref t])), (r, .inr (0, [.ref a1, .ref a2, .int (nI n), .int (nI w)])), (a1, .inl (cI, 40, .inl F)), (a2, .inl (cI, 40, .inl G)), (t, .inr (0, [.ref b1, .ref b2, .int (nI n2), .int (nI w2)])), (b1, .inl (cI, 40, .inl F2)), (b2, .inl (cI, 40, .inl G2))] s.heap := hP
  have hD : va_D A [(o, .inr (1, [.ref r, .ref t])), (r, .inr (0, [.ref a1, .ref a2, .int (nI n), .int (nI w)])), (a1, .inl (cI, 40, .inl F)), (a2, .inl (cI, 40, .inl G)), (t, .inr (0, [.ref b1, .ref b2, .int (nI n2), .int (nI w2)])), (b1, .inl (cI, 40, .inl F2)), (b2, .inl (cI, 40, .inl G2))] := hD
  generalize hH0 : s.heap = H at hP
  have hS : va_S A s.heap H [] := by rw [← hH0]; exact va_S.rf
  generalize hlc0 : ([] : List Loc) = locs at hS ⊢
  refine lv_aload_n hx hb dX1_sweep_0 rfl (lv_at hl 0 rfl) ?_
  refine va_get (D := D) (ci := 1) (v := .ref r) (C := RX1) (T := TX1) (N := 2) hx hb hts (fun _ h => (List.mem_cons_of_mem _ (List.mem_append_left _ (List.mem_append_right _ h)))) hown hK hP 0 rfl rfl 0 (by decide) (hts _ (List.mem_of_getElem? (i := 1) rfl)) (fun _ h9 => h9) rfl dX1_sweep_1 ?_
  refine lv_iconst (v := nI 2) hx hb dX1_sweep_4 (by decide) ?_
  refine pv_i CF (m_X0_countInState l D cI r a1 a2 S (nI 2)) (cwV 1 hts gX1_sweep_X0_countInState rfl rfl rfl k_X0_countInState ⟨Nat.le_of_ble_eq_true rfl, Nat.le_of_ble_eq_true rfl⟩) hK (hP.sub [1, 2, 3] rfl) rfl rfl rfl rfl hl.1 rfl (Nat.le_of_ble_eq_true rfl) dX1_sweep_5 ⟨Nat.le_of_ble_eq_true rfl, Nat.le_of_ble_eq_true rfl⟩ ?_
  refine lv_aload_n hx hb dX1_sweep_8 rfl (lv_at hl 0 rfl) ?_
  refine va_get (D := D) (ci := 1) (v := .ref r) (C := RX1) (T := TX1) (N := 2) hx hb hts (fun _ h => (List.mem_cons_of_mem _ (List.mem_append_left _ (List.mem_append_right _ h)))) hown hK hP 0 rfl rfl 0 (by decide) (hts _ (List.mem_of_getElem? (i := 1) rfl)) (fun _ h9 => h9) rfl dX1_sweep_9 ?_
  refine pv_i CF (m_X0_hookCount l D cI r a1 a2 S ) (cwV 0 hts gX1_sweep_X0_hookCount rfl rfl rfl k_X0_hookCount ⟨Nat.le_of_ble_eq_true rfl, Nat.le_of_ble_eq_true rfl⟩) hK (hP.sub [1, 2, 3] rfl) rfl rfl rfl rfl hl.1 rfl (Nat.le_of_ble_eq_true rfl) dX1_sweep_12 ⟨Nat.le_of_ble_eq_true rfl, Nat.le_of_ble_eq_true rfl⟩ ?_
  refine bn_ne (tgt := 22) hx hb dX1_sweep_15 (by decide) (Nat.lt_of_le_of_lt (ct_le n f (nI 2) n) (by omega)) (by omega) (fun c15 => ?_) (fun c15 => ?_)
  · skip
    refine lv_iconst (v := nI 0) hx hb dX1_sweep_22 (by decide) ?_
    refine lv_istore_n (lv' := [(1, .int (nI 0)), (0, .ref o)]) hx hb dX1_sweep_23 rfl hl (by decide) rfl (fun ls hl => ?_)
    refine lv_iload_n hx hb dX1_sweep_24 rfl (lv_at hl 0 rfl) ?_
    refine bz_eq (tgt := 38) hx hb dX1_sweep_25 (by decide) (by omega) (fun c25 => ?_) (fun c25 => ?_)
    · skip
      refine lv_aload_n hx hb dX1_sweep_38 rfl (lv_at hl 1 rfl) ?_
      refine va_get (D := D) (ci := 1) (v := .ref r) (C := RX1) (T := TX1) (N := 2) hx hb hts (fun _ h => (List.mem_cons_of_mem _ (List.mem_append_left _ (List.mem_append_right _ h)))) hown hK hP 0 rfl rfl 0 (by decide) (hts _ (List.mem_of_getElem? (i := 1) rfl)) (fun _ h9 => h9) rfl dX1_sweep_39 ?_
      have hPc : va_P D vwCl [(r, .inr (0, [.ref a1, .ref a2, .int (nI n), .int (nI w)])), (a1, .inl (cI, 40, .inl F)), (a2, .inl (cI, 40, .inl G))] H := hP.sub [1, 2, 3] rfl
      have hDc : va_D A [(r, .inr (0, [.ref a1, .ref a2, .int (nI n), .int (nI w)])), (a1, .inl (cI, 40, .inl F)), (a2, .inl (cI, 40, .inl G))] := hD.sub [1, 2, 3] (by decide) rfl
      have hFc := va_free (wc := [(r, .inr (0, [.ref a1, .ref a2, .int (nI n), .int (nI w)])), (a1, .inl (cI, 40, .inl F)), (a2, .inl (cI, 40, .inl G))]) hD hS hA [1, 2, 3] rfl
      refine pq_i (va_runV (rest := []) CF (m_X0_freeSweptTickets l D cI r a1 a2 S H.size) (cwV 0 hts gX1_sweep_X0_freeSweptTickets rfl rfl rfl k_X0_freeSweptTickets ⟨Nat.le_of_ble_eq_true rfl, Nat.le_of_ble_eq_true rfl⟩) (mv_pre hK hPc hDc rfl rfl rfl) rfl rfl hl.1 rfl (lv_room (Nat.le_of_ble_eq_true rfl)) dX1_sweep_42 ⟨Nat.le_of_ble_eq_true rfl, Nat.le_of_ble_eq_true rfl⟩) hS hFc (fun r1 H locs hB hk1 hS => ?_)
      obtain ⟨rfl, F3, G3, S3, hP1⟩ := hB
      obtain ⟨hP, hD⟩ := jn (wb := [(o, .inr (1, [.ref r, .ref t])), (r, .inr (0, [.ref a1, .ref a2, .int (nI n), .int (nI w)])), (a1, .inl (cI, 40, .inl F3)), (a2, .inl (cI, 40, .inl G3)), (t, .inr (0, [.ref b1, .ref b2, .int (nI n2), .int (nI w2)])), (b1, .inl (cI, 40, .inl F2)), (b2, .inl (cI, 40, .inl G2))]) (w1 := [(r, .inr (0, [.ref a1, .ref a2, .int (nI n), .int (nI w)])), (a1, .inl (cI, 40, .inl F3)), (a2, .inl (cI, 40, .inl G3))]) hP hD [1, 2, 3] [0, 4, 5, 6] rfl rfl rfl rfl 7 rfl (by decide) (by decide) hk1 hP1
      exact em_i hx hb hr hlocks hS (⟨by rw [swp, if_neg c15], F3, G3, by rw [swp, if_neg c15]; exact S3, hP⟩) dX1_sweep_45
    · skip
      omega
  · skip
    refine lv_iconst (v := nI 1) hx hb dX1_sweep_18 (by decide) ?_
    refine lv_goto (tgt := 23) hx hb dX1_sweep_19 (by decide) ?_
    refine lv_istore_n (lv' := [(1, .int (nI 1)), (0, .ref o)]) hx hb dX1_sweep_23 rfl hl (by decide) rfl (fun ls hl => ?_)
    refine lv_iload_n hx hb dX1_sweep_24 rfl (lv_at hl 0 rfl) ?_
    refine bz_eq (tgt := 38) hx hb dX1_sweep_25 (by decide) (by omega) (fun c25 => ?_) (fun c25 => ?_)
    · skip
      omega
    · skip
      refine lv_aload_n hx hb dX1_sweep_28 rfl (lv_at hl 1 rfl) ?_
      refine va_get (D := D) (ci := 1) (v := .ref r) (C := RX1) (T := TX1) (N := 2) hx hb hts (fun _ h => (List.mem_cons_of_mem _ (List.mem_append_left _ (List.mem_append_right _ h)))) hown hK hP 0 rfl rfl 0 (by decide) (hts _ (List.mem_of_getElem? (i := 1) rfl)) (fun _ h9 => h9) rfl dX1_sweep_29 ?_
      have hPc : va_P D vwCl [(r, .inr (0, [.ref a1, .ref a2, .int (nI n), .int (nI w)])), (a1, .inl (cI, 40, .inl F)), (a2, .inl (cI, 40, .inl G))] H := hP.sub [1, 2, 3] rfl
      have hDc : va_D A [(r, .inr (0, [.ref a1, .ref a2, .int (nI n), .int (nI w)])), (a1, .inl (cI, 40, .inl F)), (a2, .inl (cI, 40, .inl G))] := hD.sub [1, 2, 3] (by decide) rfl
      have hFc := va_free (wc := [(r, .inr (0, [.ref a1, .ref a2, .int (nI n), .int (nI w)])), (a1, .inl (cI, 40, .inl F)), (a2, .inl (cI, 40, .inl G))]) hD hS hA [1, 2, 3] rfl
      refine pq_i (va_runV (rest := []) CF (m_X0_freeAll l D cI r a1 a2 n w F G H.size) (cwV 0 hts gX1_sweep_X0_freeAll rfl rfl rfl k_X0_freeAll ⟨Nat.le_of_ble_eq_true rfl, Nat.le_of_ble_eq_true rfl⟩) (mv_pre hK hPc hDc rfl rfl rfl) rfl rfl hl.1 rfl (lv_room (Nat.le_of_ble_eq_true rfl)) dX1_sweep_32 ⟨Nat.le_of_ble_eq_true rfl, Nat.le_of_ble_eq_true rfl⟩) hS hFc (fun r1 H locs hB hk1 hS => ?_)
      obtain ⟨rfl, F3, G3, hF3, hG3, hP1⟩ := hB
      obtain ⟨hP, hD⟩ := jn (wb := [(o, .inr (1, [.ref r, .ref t])), (r, .inr (0, [.ref a1, .ref a2, .int (nI n), .int (nI w)])), (a1, .inl (cI, 40, .inl F3)), (a2, .inl (cI, 40, .inl G3)), (t, .inr (0, [.ref b1, .ref b2, .int (nI n2), .int (nI w2)])), (b1, .inl (cI, 40, .inl F2)), (b2, .inl (cI, 40, .inl G2))]) (w1 := [(r, .inr (0, [.ref a1, .ref a2, .int (nI n), .int (nI w)])), (a1, .inl (cI, 40, .inl F3)), (a2, .inl (cI, 40, .inl G3))]) hP hD [1, 2, 3] [0, 4, 5, 6] rfl rfl rfl rfl 7 rfl (by decide) (by decide) hk1 hP1
      refine lv_goto (tgt := 45) hx hb dX1_sweep_35 (by decide) ?_
      exact em_i hx hb hr hlocks hS (⟨by rw [swp, if_pos c15], F3, G3, by rw [swp, if_pos c15]; exact S.all c15 hF3 hG3, hP⟩) dX1_sweep_45
