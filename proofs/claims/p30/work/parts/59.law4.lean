/-! the law: who comes -/
set_option maxHeartbeats 8000000 in
set_option maxRecDepth 100000 in
theorem law_place {p : Program} {l : Launch} {e : Env} {s : State} {m : MethodId} {below : List Frame} {meth : Method} {c : Code} {b L : Nat} {xs : Nat → Int32} {D : va_G} {cI cZ : ClassId} {A : Nat → Prop} {Q : State → Prop} {o r t a1 a2 b1 b2 u : Nat} (F9 : LF p l s m meth c b L xs D cI cZ A) {kc ks n w : Nat} {f g : Nat → Int32} {i : Nat} {x : Int32} (hkc : kc ≤ 10000) (hks : ks ≤ 100000) (hd : Ds n f) (hk : KG p l e s m below meth c b D cI cZ A Q o r t a1 a2 b1 b2 u 660 [(0, .ref b), (1, .ref o), (2, .ref u), (3, .int (nI i)), (4, .int x), (5, .long (DG n w f g)), (7, .int (nI n))] kc ks n w f g) : KG p l e s m below meth c b D cI cZ A Q o r t a1 a2 b1 b2 u 472 [(0, .ref b), (1, .ref o), (2, .ref u), (3, .int (nI i)), (4, .int x), (5, .long (DG n w f g)), (7, .int (nI n))] kc ks n w f g := by
  obtain ⟨CF, hXs, hbl, hbA, hA, hK, hX, hZ, hNx, hlt, hL⟩ := id F9
  obtain ⟨hx, hb, hml, hown, hts⟩ := id CF
  have hK1 : va_K D vwCl [(cI, .int)] s := hK.sub [0] rfl
  have hKc := hK1
  intro c1 c2 c3 n2 w2 F G F2 G2 C V Z H locs ls S S2 hP hD hS hl
  obtain ⟨hn3, hn, hw2, hF, hG, hO⟩ := id S
  obtain ⟨-, -, -, hC, hV, hZv, -⟩ := id S2
  have hP : va_P D vwCl [(o, .inr (1, [.ref r, .ref t])), (r, .inr (0, [.ref a1, .ref a2, .int (nI n), .int (nI w)])), (a1, .inl (cI, 40, .inl F)), (a2, .inl (cI, 40, .inl G)), (t, .inr (0, [.ref b1, .ref b2, .int (nI n2), .int (nI w2)])), (b1, .inl (cI, 40, .inl F2)), (b2, .inl (cI, 40, .inl G2)), (u, .inr (2, [.int (nI w), .ref c1, .ref c2, .ref c3])), (c1, .inl (cI, n, .inl C)), (c2, .inl (cI, n, .inl V)), (c3, .inl (cZ, n, .inl Z))] H := hP
  have hD : va_D A [(o, .inr (1, [.ref r, .ref t])), (r, .inr (0, [.ref a1, .ref a2, .int (nI n), .int (nI w)])), (a1, .inl (cI, 40, .inl F)), (a2, .inl (cI, 40, .inl G)), (t, .inr (0, [.ref b1, .ref b2, .int (nI n2), .int (nI w2)])), (b1, .inl (cI, 40, .inl F2)), (b2, .inl (cI, 40, .inl G2)), (u, .inr (2, [.int (nI w), .ref c1, .ref c2, .ref c3])), (c1, .inl (cI, n, .inl C)), (c2, .inl (cI, n, .inl V)), (c3, .inl (cZ, n, .inl Z))] := hD
  have M499 : ∀ (v : Nat), v ≤ 9999 → ∀ (H : Heap) (locs : List Loc), va_P D vwCl [(o, .inr (1, [.ref r, .ref t])), (r, .inr (0, [.ref a1, .ref a2, .int (nI n), .int (nI w)])), (a1, .inl (cI, 40, .inl F)), (a2, .inl (cI, 40, .inl G)), (t, .inr (0, [.ref b1, .ref b2, .int (nI n2), .int (nI w2)])), (b1, .inl (cI, 40, .inl F2)), (b2, .inl (cI, 40, .inl G2)), (u, .inr (2, [.int (nI w), .ref c1, .ref c2, .ref c3])), (c1, .inl (cI, n, .inl C)), (c2, .inl (cI, n, .inl V)), (c3, .inl (cZ, n, .inl Z))] H → va_D A [(o, .inr (1, [.ref r, .ref t])), (r, .inr (0, [.ref a1, .ref a2, .int (nI n), .int (nI w)])), (a1, .inl (cI, 40, .inl F)), (a2, .inl (cI, 40, .inl G)), (t, .inr (0, [.ref b1, .ref b2, .int (nI n2), .int (nI w2)])), (b1, .inl (cI, 40, .inl F2)), (b2, .inl (cI, 40, .inl G2)), (u, .inr (2, [.int (nI w), .ref c1, .ref c2, .ref c3])), (c1, .inl (cI, n, .inl C)), (c2, .inl (cI, n, .inl V)), (c3, .inl (cZ, n, .inl Z))] → va_S A s.heap H locs → ∀ (ls : Array Slot), lv_has ls 30 [(0, .ref b), (1, .ref o), (2, .ref u), (3, .int (nI i)), (4, .int x), (5, .long (DG n w f g)), (7, .int (nI n))] → W p l e room_1 s m #[.ref b] below meth c H locs kc ks Q (F0 m 499 ls [.int (nI v)]) := by
    intro v hv9 H locs hP hD hS ls hl
    refine lv_istore (lv' := [(12, .int (nI v)), (0, .ref b), (1, .ref o), (2, .ref u), (3, .int (nI i)), (4, .int x), (5, .long (DG n w f g)), (7, .int (nI n))]) hx hb dL_law_499 hl (by decide) rfl (fun ls hl => ?_)
    have hlk := lk_le n w f v
    have hlp := lk_pos (show 0 < n by omega) w f v
    have hla := la_lt (show 0 < n by omega) w f v
    refine lv_aload_n hx hb dL_law_501 rfl (lv_at hl 2 rfl) ?_
    refine lv_iload hx hb dL_law_502 (lv_at hl 0 rfl) ?_
    refine xn_i (vx_runV (rest := []) CF (m_X1_placeFor l hlt D cI o r t a1 a2 b1 b2 S n2 w2 F2 G2 (nI v)) (cwV 1 hts gL_law_X1_placeFor rfl rfl rfl k_X1_placeFor ⟨Nat.le_of_ble_eq_true rfl, Nat.le_of_ble_eq_true rfl⟩) (px_pre hK1 (hP.sub [0, 1, 2, 3, 4, 5, 6] rfl) hX (xz_at hZ hS) rfl rfl rfl) rfl rfl hl.1 rfl (lv_room (Nat.le_of_ble_eq_true rfl)) dL_law_504 ⟨by show _ ≤ 600172; omega, by show _ ≤ 7300668; omega⟩) (fun E hE => hE.2 ⟨v, Nat.zero_le _, hv9, rfl⟩) (fun r1 hr1 => ?_)
    obtain ⟨k9, hk9, e9, er⟩ := hr1
    rw [show k9 = v from nI_inj (by omega) (by omega) e9.symm] at er
    refine tp_i (y := (pl n w f v)) er ?_
    refine lv_istore (lv' := [(13, .int (pl n w f v)), (12, .int (nI v)), (0, .ref b), (1, .ref o), (2, .ref u), (3, .int (nI i)), (4, .int x), (5, .long (DG n w f g)), (7, .int (nI n))]) hx hb dL_law_507 hl (by decide) rfl (fun ls hl => ?_)
    refine lv_aload_n hx hb dL_law_509 rfl (lv_at hl 3 rfl) ?_
    refine lv_iload hx hb dL_law_510 (lv_at hl 1 rfl) ?_
    refine xn_i (vx_runV (rest := []) CF (m_X1_looksFor l hlt D cI o r t a1 a2 b1 b2 S n2 w2 F2 G2 (nI v)) (cwV 1 hts gL_law_X1_looksFor rfl rfl rfl k_X1_looksFor ⟨Nat.le_of_ble_eq_true rfl, Nat.le_of_ble_eq_true rfl⟩) (px_pre hK1 (hP.sub [0, 1, 2, 3, 4, 5, 6] rfl) hX (xz_at hZ hS) rfl rfl rfl) rfl rfl hl.1 rfl (lv_room (Nat.le_of_ble_eq_true rfl)) dL_law_512 ⟨by show _ ≤ 600172; omega, by show _ ≤ 7300668; omega⟩) (fun E hE => hE.2 ⟨v, Nat.zero_le _, hv9, rfl⟩) (fun r1 hr1 => ?_)
    obtain ⟨k9, hk9, e9, er⟩ := hr1
    rw [show k9 = v from nI_inj (by omega) (by omega) e9.symm] at er
    refine tp_i (y := (nI (lk n w f v))) er ?_
    refine lv_istore (lv' := [(14, .int (nI (lk n w f v))), (13, .int (pl n w f v)), (12, .int (nI v)), (0, .ref b), (1, .ref o), (2, .ref u), (3, .int (nI i)), (4, .int x), (5, .long (DG n w f g)), (7, .int (nI n))]) hx hb dL_law_515 hl (by decide) rfl (fun ls hl => ?_)
    refine lv_iconst (v := nI 0) hx hb dL_law_517 (by decide) ?_
    refine lv_istore (lv' := [(15, .int (nI 0)), (14, .int (nI (lk n w f v))), (13, .int (pl n w f v)), (12, .int (nI v)), (0, .ref b), (1, .ref o), (2, .ref u), (3, .int (nI i)), (4, .int x), (5, .long (DG n w f g)), (7, .int (nI n))]) hx hb dL_law_518 hl (by decide) rfl (fun ls hl => ?_)
    refine lv_iconst (v := nI 0) hx hb dL_law_520 (by decide) ?_
    refine lv_istore (lv' := [(16, .int (nI 0)), (15, .int (nI 0)), (14, .int (nI (lk n w f v))), (13, .int (pl n w f v)), (12, .int (nI v)), (0, .ref b), (1, .ref o), (2, .ref u), (3, .int (nI i)), (4, .int x), (5, .long (DG n w f g)), (7, .int (nI n))]) hx hb dL_law_521 hl (by decide) rfl (fun ls hl => ?_)
    have LP523 : ∀ (q k8 : Nat), k8 + q = lk n w f v → ∀ (ls : Array Slot), lv_has ls 30 [(16, .int (nI k8)), (15, .int (nI (mt n w v (pl n w f v) k8))), (14, .int (nI (lk n w f v))), (13, .int (pl n w f v)), (12, .int (nI v)), (0, .ref b), (1, .ref o), (2, .ref u), (3, .int (nI i)), (4, .int x), (5, .long (DG n w f g)), (7, .int (nI n))] → W p l e room_1 s m #[.ref b] below meth c H locs kc ks Q (F0 m 523 ls []) := by
      intro q
      induction q with
      | zero =>
        intro k8 h1 ls hl
        refine lv_iload hx hb dL_law_523 (lv_at hl 0 rfl) ?_
        refine lv_iload hx hb dL_law_525 (lv_at hl 2 rfl) ?_
        refine bn_ge (tgt := 559) hx hb dL_law_527 (by decide) (by omega) (by omega) (fun c527 => ?_) (fun c527 => ?_)
        · skip
          refine lv_aload_n hx hb dL_law_559 rfl (lv_at hl 6 rfl) ?_
          refine lv_iload hx hb dL_law_560 (lv_at hl 4 rfl) ?_
          refine lv_iload hx hb dL_law_562 (lv_at hl 2 rfl) ?_
          refine lv_iconst (v := nI 1) hx hb dL_law_564 (by decide) ?_
          refine an_sub hx hb hlp dL_law_565 ?_
          refine xn_i (vx_runV (rest := []) CF (m_X1_lookedAt l hlt D cI o r t a1 a2 b1 b2 S n2 w2 F2 G2 (nI v) (nI ((lk n w f v) - 1))) (cwV 2 hts gL_law_X1_lookedAt rfl rfl rfl k_X1_lookedAt ⟨Nat.le_of_ble_eq_true rfl, Nat.le_of_ble_eq_true rfl⟩) (px_pre hK1 (hP.sub [0, 1, 2, 3, 4, 5, 6] rfl) hX (xz_at hZ hS) rfl rfl rfl) rfl rfl hl.1 rfl (lv_room (Nat.le_of_ble_eq_true rfl)) dL_law_566 ⟨by show _ ≤ 600172; omega, by show _ ≤ 7300668; omega⟩) (fun E hE => hE.2 ⟨⟨v, Nat.zero_le _, hv9, rfl⟩, ⟨((lk n w f v) - 1), Nat.zero_le _, by omega, rfl⟩⟩) (fun r1 hr1 => ?_)
          obtain ⟨v9, k9, h9v, e8, h9k, e9, er⟩ := hr1
          rw [show v9 = v from nI_inj (by omega) (by omega) e8.symm, show k9 = ((lk n w f v) - 1) from nI_inj (by omega) (by omega) e9.symm] at er
          refine tp_i (y := (nI (la n w f v))) er ?_
          refine lv_istore (lv' := [(16, .int (nI (la n w f v))), (15, .int (nI (mt n w v (pl n w f v) k8))), (14, .int (nI (lk n w f v))), (13, .int (pl n w f v)), (12, .int (nI v)), (0, .ref b), (1, .ref o), (2, .ref u), (3, .int (nI i)), (4, .int x), (5, .long (DG n w f g)), (7, .int (nI n))]) hx hb dL_law_569 hl (by decide) rfl (fun ls hl => ?_)
          refine lv_iload hx hb dL_law_571 (lv_at hl 2 rfl) ?_
          refine lv_iconst (v := nI 1) hx hb dL_law_573 (by decide) ?_
          refine bn_lt (tgt := 658) hx hb dL_law_574 (by decide) (by omega) (by omega) (fun c574 => ?_) (fun c574 => ?_)
          · skip
            omega
          · skip
            refine lv_iload hx hb dL_law_577 (lv_at hl 2 rfl) ?_
            refine lv_iload hx hb dL_law_579 (lv_at hl 11 rfl) ?_
            refine bn_gt (tgt := 658) hx hb dL_law_581 (by decide) (by omega) (by omega) (fun c581 => ?_) (fun c581 => ?_)
            · skip
              omega
            · skip
              refine lv_iload hx hb dL_law_584 (lv_at hl 3 rfl) ?_
              refine lv_if_lt (tgt := 613) hx hb dL_law_586 (by decide) (fun c586 => ?_) (fun c586 => ?_)
              · skip
                refine lv_aload_n hx hb dL_law_613 rfl (lv_at hl 6 rfl) ?_
                refine lv_iload hx hb dL_law_614 (lv_at hl 4 rfl) ?_
                refine xn_i (vx_runV (rest := []) CF (m_X1_find l hlt D cI o r t a1 a2 b1 b2 S n2 w2 F2 G2 (nI v)) (cwV 1 hts gL_law_X1_find rfl rfl rfl k_X1_find ⟨Nat.le_of_ble_eq_true rfl, Nat.le_of_ble_eq_true rfl⟩) (px_pre hK1 (hP.sub [0, 1, 2, 3, 4, 5, 6] rfl) hX (xz_at hZ hS) rfl rfl rfl) rfl rfl hl.1 rfl (lv_room (Nat.le_of_ble_eq_true rfl)) dL_law_616 ⟨by show _ ≤ 600172; omega, by show _ ≤ 7300668; omega⟩) (fun E hE => hE.2 ⟨v, Nat.zero_le _, hv9, rfl⟩) (fun r1 hr1 => ?_)
                obtain ⟨k9, hk9, e9, er⟩ := hr1
                rw [show k9 = v from nI_inj (by omega) (by omega) e9.symm] at er
                refine tp_i (y := (fd n w f v)) er ?_
                refine lv_if_ge (tgt := 638) hx hb dL_law_619 (by decide) (fun c619 => ?_) (fun c619 => ?_)
                · skip
                  refine lv_aload_n hx hb dL_law_638 rfl (lv_at hl 6 rfl) ?_
                  refine lv_iload hx hb dL_law_639 (lv_at hl 4 rfl) ?_
                  refine xn_i (vx_runV (rest := []) CF (m_X1_find l hlt D cI o r t a1 a2 b1 b2 S n2 w2 F2 G2 (nI v)) (cwV 1 hts gL_law_X1_find rfl rfl rfl k_X1_find ⟨Nat.le_of_ble_eq_true rfl, Nat.le_of_ble_eq_true rfl⟩) (px_pre hK1 (hP.sub [0, 1, 2, 3, 4, 5, 6] rfl) hX (xz_at hZ hS) rfl rfl rfl) rfl rfl hl.1 rfl (lv_room (Nat.le_of_ble_eq_true rfl)) dL_law_641 ⟨by show _ ≤ 600172; omega, by show _ ≤ 7300668; omega⟩) (fun E hE => hE.2 ⟨v, Nat.zero_le _, hv9, rfl⟩) (fun r1 hr1 => ?_)
                  obtain ⟨k9, hk9, e9, er⟩ := hr1
                  rw [show k9 = v from nI_inj (by omega) (by omega) e9.symm] at er
                  refine tp_i (y := (fd n w f v)) er ?_
                  refine lv_if_lt (tgt := 660) hx hb dL_law_644 (by decide) (fun c644 => ?_) (fun c644 => ?_)
                  · skip
                    refine w_widen (k := kc) (n := ks) (by omega) (by omega) ?_
                    exact hk _ _ _ _ _ _ _ _ _ _ _ _ _ _ _ S S2 hP hD hS (lv_sub hl [5, 6, 7, 8, 9, 10, 11] rfl)
                  · skip
                    refine lv_aload_n hx hb dL_law_647 rfl (lv_at hl 6 rfl) ?_
                    refine lv_iload hx hb dL_law_648 (lv_at hl 4 rfl) ?_
                    refine xn_i (vx_runV (rest := []) CF (m_X1_find l hlt D cI o r t a1 a2 b1 b2 S n2 w2 F2 G2 (nI v)) (cwV 1 hts gL_law_X1_find rfl rfl rfl k_X1_find ⟨Nat.le_of_ble_eq_true rfl, Nat.le_of_ble_eq_true rfl⟩) (px_pre hK1 (hP.sub [0, 1, 2, 3, 4, 5, 6] rfl) hX (xz_at hZ hS) rfl rfl rfl) rfl rfl hl.1 rfl (lv_room (Nat.le_of_ble_eq_true rfl)) dL_law_650 ⟨by show _ ≤ 600172; omega, by show _ ≤ 7300668; omega⟩) (fun E hE => hE.2 ⟨v, Nat.zero_le _, hv9, rfl⟩) (fun r1 hr1 => ?_)
                    obtain ⟨k9, hk9, e9, er⟩ := hr1
                    rw [show k9 = v from nI_inj (by omega) (by omega) e9.symm] at er
                    refine tp_i (y := (nI (la n w f v))) (er.trans (fd_cases (show 0 < n by omega) hn (nlt_m1 c644)).1) ?_
                    refine lv_iload hx hb dL_law_653 (lv_at hl 0 rfl) ?_
                    refine bn_eq (tgt := 660) hx hb dL_law_655 (by decide) (by omega) (by omega) (fun c655 => ?_) (fun c655 => ?_)
                    · skip
                      refine w_widen (k := kc) (n := ks) (by omega) (by omega) ?_
                      exact hk _ _ _ _ _ _ _ _ _ _ _ _ _ _ _ S S2 hP hD hS (lv_sub hl [5, 6, 7, 8, 9, 10, 11] rfl)
                    · skip
                      omega
                · skip
                  refine lv_iload hx hb dL_law_622 (lv_at hl 2 rfl) ?_
                  refine lv_iload hx hb dL_law_624 (lv_at hl 11 rfl) ?_
                  refine bn_ge (tgt := 638) hx hb dL_law_626 (by decide) (by omega) (by omega) (fun c626 => ?_) (fun c626 => ?_)
                  · skip
                    refine lv_aload_n hx hb dL_law_638 rfl (lv_at hl 6 rfl) ?_
                    refine lv_iload hx hb dL_law_639 (lv_at hl 4 rfl) ?_
                    refine xn_i (vx_runV (rest := []) CF (m_X1_find l hlt D cI o r t a1 a2 b1 b2 S n2 w2 F2 G2 (nI v)) (cwV 1 hts gL_law_X1_find rfl rfl rfl k_X1_find ⟨Nat.le_of_ble_eq_true rfl, Nat.le_of_ble_eq_true rfl⟩) (px_pre hK1 (hP.sub [0, 1, 2, 3, 4, 5, 6] rfl) hX (xz_at hZ hS) rfl rfl rfl) rfl rfl hl.1 rfl (lv_room (Nat.le_of_ble_eq_true rfl)) dL_law_641 ⟨by show _ ≤ 600172; omega, by show _ ≤ 7300668; omega⟩) (fun E hE => hE.2 ⟨v, Nat.zero_le _, hv9, rfl⟩) (fun r1 hr1 => ?_)
                    obtain ⟨k9, hk9, e9, er⟩ := hr1
                    rw [show k9 = v from nI_inj (by omega) (by omega) e9.symm] at er
                    refine tp_i (y := (fd n w f v)) er ?_
                    refine lv_if_lt (tgt := 660) hx hb dL_law_644 (by decide) (fun c644 => ?_) (fun c644 => ?_)
                    · skip
                      refine w_widen (k := kc) (n := ks) (by omega) (by omega) ?_
                      exact hk _ _ _ _ _ _ _ _ _ _ _ _ _ _ _ S S2 hP hD hS (lv_sub hl [5, 6, 7, 8, 9, 10, 11] rfl)
                    · skip
                      refine lv_aload_n hx hb dL_law_647 rfl (lv_at hl 6 rfl) ?_
                      refine lv_iload hx hb dL_law_648 (lv_at hl 4 rfl) ?_
                      refine xn_i (vx_runV (rest := []) CF (m_X1_find l hlt D cI o r t a1 a2 b1 b2 S n2 w2 F2 G2 (nI v)) (cwV 1 hts gL_law_X1_find rfl rfl rfl k_X1_find ⟨Nat.le_of_ble_eq_true rfl, Nat.le_of_ble_eq_true rfl⟩) (px_pre hK1 (hP.sub [0, 1, 2, 3, 4, 5, 6] rfl) hX (xz_at hZ hS) rfl rfl rfl) rfl rfl hl.1 rfl (lv_room (Nat.le_of_ble_eq_true rfl)) dL_law_650 ⟨by show _ ≤ 600172; omega, by show _ ≤ 7300668; omega⟩) (fun E hE => hE.2 ⟨v, Nat.zero_le _, hv9, rfl⟩) (fun r1 hr1 => ?_)
                      obtain ⟨k9, hk9, e9, er⟩ := hr1
                      rw [show k9 = v from nI_inj (by omega) (by omega) e9.symm] at er
                      refine tp_i (y := (nI (la n w f v))) (er.trans (fd_cases (show 0 < n by omega) hn (nlt_m1 c644)).1) ?_
                      refine lv_iload hx hb dL_law_653 (lv_at hl 0 rfl) ?_
                      refine bn_eq (tgt := 660) hx hb dL_law_655 (by decide) (by omega) (by omega) (fun c655 => ?_) (fun c655 => ?_)
                      · skip
                        refine w_widen (k := kc) (n := ks) (by omega) (by omega) ?_
                        exact hk _ _ _ _ _ _ _ _ _ _ _ _ _ _ _ S S2 hP hD hS (lv_sub hl [5, 6, 7, 8, 9, 10, 11] rfl)
                      · skip
                        omega
                  · skip
                    have hfr := la_free c626 (fd_m1 (show 0 < n by omega) hn (lt_of_nge c619)) hn
                    refine lv_aload_n hx hb dL_law_629 rfl (lv_at hl 6 rfl) ?_
                    refine lv_iload hx hb dL_law_630 (lv_at hl 0 rfl) ?_
                    refine xn_i (vx_runV (rest := []) CF (m_X1_stateOf l hlt D cI o r t a1 a2 b1 b2 S n2 w2 F2 G2 (nI (la n w f v))) (cwV 1 hts gL_law_X1_stateOf rfl rfl rfl k_X1_stateOf ⟨Nat.le_of_ble_eq_true rfl, Nat.le_of_ble_eq_true rfl⟩) (px_pre hK1 (hP.sub [0, 1, 2, 3, 4, 5, 6] rfl) hX (xz_at hZ hS) rfl rfl rfl) rfl rfl hl.1 rfl (lv_room (Nat.le_of_ble_eq_true rfl)) dL_law_632 ⟨by show _ ≤ 600172; omega, by show _ ≤ 7300668; omega⟩) (fun E hE => hE.2 ⟨(la n w f v), hla, rfl⟩) (fun r1 hr1 => ?_)
                    obtain ⟨k9, hk9, e9, er⟩ := hr1
                    rw [show k9 = (la n w f v) from nI_inj (by omega) (by omega) e9.symm] at er
                    refine tp_i (y := (nI 0)) (er.trans (by rw [hfr]; decide)) ?_
                    refine bz_ne (tgt := 658) hx hb dL_law_635 (by decide) (by omega) (fun c635 => ?_) (fun c635 => ?_)
                    · skip
                      omega
                    · skip
                      refine lv_aload_n hx hb dL_law_638 rfl (lv_at hl 6 rfl) ?_
                      refine lv_iload hx hb dL_law_639 (lv_at hl 4 rfl) ?_
                      refine xn_i (vx_runV (rest := []) CF (m_X1_find l hlt D cI o r t a1 a2 b1 b2 S n2 w2 F2 G2 (nI v)) (cwV 1 hts gL_law_X1_find rfl rfl rfl k_X1_find ⟨Nat.le_of_ble_eq_true rfl, Nat.le_of_ble_eq_true rfl⟩) (px_pre hK1 (hP.sub [0, 1, 2, 3, 4, 5, 6] rfl) hX (xz_at hZ hS) rfl rfl rfl) rfl rfl hl.1 rfl (lv_room (Nat.le_of_ble_eq_true rfl)) dL_law_641 ⟨by show _ ≤ 600172; omega, by show _ ≤ 7300668; omega⟩) (fun E hE => hE.2 ⟨v, Nat.zero_le _, hv9, rfl⟩) (fun r1 hr1 => ?_)
                      obtain ⟨k9, hk9, e9, er⟩ := hr1
                      rw [show k9 = v from nI_inj (by omega) (by omega) e9.symm] at er
                      refine tp_i (y := (fd n w f v)) er ?_
                      refine lv_if_lt (tgt := 660) hx hb dL_law_644 (by decide) (fun c644 => ?_) (fun c644 => ?_)
                      · skip
                        refine w_widen (k := kc) (n := ks) (by omega) (by omega) ?_
                        exact hk _ _ _ _ _ _ _ _ _ _ _ _ _ _ _ S S2 hP hD hS (lv_sub hl [5, 6, 7, 8, 9, 10, 11] rfl)
                      · skip
                        refine lv_aload_n hx hb dL_law_647 rfl (lv_at hl 6 rfl) ?_
                        refine lv_iload hx hb dL_law_648 (lv_at hl 4 rfl) ?_
                        refine xn_i (vx_runV (rest := []) CF (m_X1_find l hlt D cI o r t a1 a2 b1 b2 S n2 w2 F2 G2 (nI v)) (cwV 1 hts gL_law_X1_find rfl rfl rfl k_X1_find ⟨Nat.le_of_ble_eq_true rfl, Nat.le_of_ble_eq_true rfl⟩) (px_pre hK1 (hP.sub [0, 1, 2, 3, 4, 5, 6] rfl) hX (xz_at hZ hS) rfl rfl rfl) rfl rfl hl.1 rfl (lv_room (Nat.le_of_ble_eq_true rfl)) dL_law_650 ⟨by show _ ≤ 600172; omega, by show _ ≤ 7300668; omega⟩) (fun E hE => hE.2 ⟨v, Nat.zero_le _, hv9, rfl⟩) (fun r1 hr1 => ?_)
                        obtain ⟨k9, hk9, e9, er⟩ := hr1
                        rw [show k9 = v from nI_inj (by omega) (by omega) e9.symm] at er
                        refine tp_i (y := (nI (la n w f v))) (er.trans (fd_cases (show 0 < n by omega) hn (nlt_m1 c644)).1) ?_
                        refine lv_iload hx hb dL_law_653 (lv_at hl 0 rfl) ?_
                        refine bn_eq (tgt := 660) hx hb dL_law_655 (by decide) (by omega) (by omega) (fun c655 => ?_) (fun c655 => ?_)
                        · skip
                          refine w_widen (k := kc) (n := ks) (by omega) (by omega) ?_
                          exact hk _ _ _ _ _ _ _ _ _ _ _ _ _ _ _ S S2 hP hD hS (lv_sub hl [5, 6, 7, 8, 9, 10, 11] rfl)
                        · skip
                          omega
              · skip
                obtain ⟨k6, hk6, epl, hng⟩ := pl_at (show 0 < n by omega) (nlt_m1 c586)
                have hmt : mt n w v (pl n w f v) k8 = 1 := mt_1 epl.symm k8 (by omega)
                have hpp := at_lt (show 0 < n by omega) w v k6
                refine lv_iload hx hb dL_law_589 (lv_at hl 1 rfl) ?_
                refine bz_eq (tgt := 658) hx hb dL_law_591 (by decide) (by omega) (fun c591 => ?_) (fun c591 => ?_)
                · skip
                  omega
                · skip
                  refine lv_aload_n hx hb dL_law_594 rfl (lv_at hl 6 rfl) ?_
                  refine lv_iload hx hb dL_law_595 (lv_at hl 3 rfl) ?_
                  refine tp_i (y := (nI (at_ n w v k6))) epl ?_
                  refine xn_i (vx_runV (rest := []) CF (m_X1_stateOf l hlt D cI o r t a1 a2 b1 b2 S n2 w2 F2 G2 (nI (at_ n w v k6))) (cwV 1 hts gL_law_X1_stateOf rfl rfl rfl k_X1_stateOf ⟨Nat.le_of_ble_eq_true rfl, Nat.le_of_ble_eq_true rfl⟩) (px_pre hK1 (hP.sub [0, 1, 2, 3, 4, 5, 6] rfl) hX (xz_at hZ hS) rfl rfl rfl) rfl rfl hl.1 rfl (lv_room (Nat.le_of_ble_eq_true rfl)) dL_law_597 ⟨by show _ ≤ 600172; omega, by show _ ≤ 7300668; omega⟩) (fun E hE => hE.2 ⟨(at_ n w v k6), hpp, rfl⟩) (fun r1 hr1 => ?_)
                  obtain ⟨k9, hk9, e9, er⟩ := hr1
                  rw [show k9 = (at_ n w v k6) from nI_inj (by omega) (by omega) e9.symm] at er
                  refine tp_i (y := (st (f (at_ n w v k6)))) er ?_
                  refine lv_iconst (v := nI 1) hx hb dL_law_600 (by decide) ?_
                  refine lv_icmp_eq (tgt := 658) hx hb dL_law_601 (by decide) (fun c601 => ?_) (fun c601 => ?_)
                  · skip
                    exact absurd ((st_i1 hO hpp).mp c601) hng
                  · skip
                    refine lv_aload_n hx hb dL_law_604 rfl (lv_at hl 7 rfl) ?_
                    refine lv_iload hx hb dL_law_605 (lv_at hl 4 rfl) ?_
                    refine pv_i CF (m_X2_hangs l D cI cZ u c1 c2 c3 S2 v hv9) (cwV 1 hts gL_law_X2_hangs rfl rfl rfl k_X2_hangs ⟨Nat.le_of_ble_eq_true rfl, Nat.le_of_ble_eq_true rfl⟩) hK (hP.sub [7, 8, 9, 10] rfl) rfl rfl rfl rfl hl.1 rfl (Nat.le_of_ble_eq_true rfl) dL_law_607 ⟨by show _ ≤ 600172; omega, by show _ ≤ 7300668; omega⟩ ?_
                    refine bz_ne (tgt := 658) hx hb dL_law_610 (by decide) (hs_lt n f v) (fun c610 => ?_) (fun c610 => ?_)
                    · skip
                      exact absurd (pl_hs (nlt_m1 c586)) c610
                    · skip
                      refine lv_aload_n hx hb dL_law_613 rfl (lv_at hl 6 rfl) ?_
                      refine lv_iload hx hb dL_law_614 (lv_at hl 4 rfl) ?_
                      refine xn_i (vx_runV (rest := []) CF (m_X1_find l hlt D cI o r t a1 a2 b1 b2 S n2 w2 F2 G2 (nI v)) (cwV 1 hts gL_law_X1_find rfl rfl rfl k_X1_find ⟨Nat.le_of_ble_eq_true rfl, Nat.le_of_ble_eq_true rfl⟩) (px_pre hK1 (hP.sub [0, 1, 2, 3, 4, 5, 6] rfl) hX (xz_at hZ hS) rfl rfl rfl) rfl rfl hl.1 rfl (lv_room (Nat.le_of_ble_eq_true rfl)) dL_law_616 ⟨by show _ ≤ 600172; omega, by show _ ≤ 7300668; omega⟩) (fun E hE => hE.2 ⟨v, Nat.zero_le _, hv9, rfl⟩) (fun r1 hr1 => ?_)
                      obtain ⟨k9, hk9, e9, er⟩ := hr1
                      rw [show k9 = v from nI_inj (by omega) (by omega) e9.symm] at er
                      refine tp_i (y := (fd n w f v)) er ?_
                      refine lv_if_ge (tgt := 638) hx hb dL_law_619 (by decide) (fun c619 => ?_) (fun c619 => ?_)
                      · skip
                        refine lv_aload_n hx hb dL_law_638 rfl (lv_at hl 6 rfl) ?_
                        refine lv_iload hx hb dL_law_639 (lv_at hl 4 rfl) ?_
                        refine xn_i (vx_runV (rest := []) CF (m_X1_find l hlt D cI o r t a1 a2 b1 b2 S n2 w2 F2 G2 (nI v)) (cwV 1 hts gL_law_X1_find rfl rfl rfl k_X1_find ⟨Nat.le_of_ble_eq_true rfl, Nat.le_of_ble_eq_true rfl⟩) (px_pre hK1 (hP.sub [0, 1, 2, 3, 4, 5, 6] rfl) hX (xz_at hZ hS) rfl rfl rfl) rfl rfl hl.1 rfl (lv_room (Nat.le_of_ble_eq_true rfl)) dL_law_641 ⟨by show _ ≤ 600172; omega, by show _ ≤ 7300668; omega⟩) (fun E hE => hE.2 ⟨v, Nat.zero_le _, hv9, rfl⟩) (fun r1 hr1 => ?_)
                        obtain ⟨k9, hk9, e9, er⟩ := hr1
                        rw [show k9 = v from nI_inj (by omega) (by omega) e9.symm] at er
                        refine tp_i (y := (fd n w f v)) er ?_
                        refine lv_if_lt (tgt := 660) hx hb dL_law_644 (by decide) (fun c644 => ?_) (fun c644 => ?_)
                        · skip
                          refine w_widen (k := kc) (n := ks) (by omega) (by omega) ?_
                          exact hk _ _ _ _ _ _ _ _ _ _ _ _ _ _ _ S S2 hP hD hS (lv_sub hl [5, 6, 7, 8, 9, 10, 11] rfl)
                        · skip
                          refine lv_aload_n hx hb dL_law_647 rfl (lv_at hl 6 rfl) ?_
                          refine lv_iload hx hb dL_law_648 (lv_at hl 4 rfl) ?_
                          refine xn_i (vx_runV (rest := []) CF (m_X1_find l hlt D cI o r t a1 a2 b1 b2 S n2 w2 F2 G2 (nI v)) (cwV 1 hts gL_law_X1_find rfl rfl rfl k_X1_find ⟨Nat.le_of_ble_eq_true rfl, Nat.le_of_ble_eq_true rfl⟩) (px_pre hK1 (hP.sub [0, 1, 2, 3, 4, 5, 6] rfl) hX (xz_at hZ hS) rfl rfl rfl) rfl rfl hl.1 rfl (lv_room (Nat.le_of_ble_eq_true rfl)) dL_law_650 ⟨by show _ ≤ 600172; omega, by show _ ≤ 7300668; omega⟩) (fun E hE => hE.2 ⟨v, Nat.zero_le _, hv9, rfl⟩) (fun r1 hr1 => ?_)
                          obtain ⟨k9, hk9, e9, er⟩ := hr1
                          rw [show k9 = v from nI_inj (by omega) (by omega) e9.symm] at er
                          refine tp_i (y := (nI (la n w f v))) (er.trans (fd_cases (show 0 < n by omega) hn (nlt_m1 c644)).1) ?_
                          refine lv_iload hx hb dL_law_653 (lv_at hl 0 rfl) ?_
                          refine bn_eq (tgt := 660) hx hb dL_law_655 (by decide) (by omega) (by omega) (fun c655 => ?_) (fun c655 => ?_)
                          · skip
                            refine w_widen (k := kc) (n := ks) (by omega) (by omega) ?_
                            exact hk _ _ _ _ _ _ _ _ _ _ _ _ _ _ _ S S2 hP hD hS (lv_sub hl [5, 6, 7, 8, 9, 10, 11] rfl)
                          · skip
                            omega
                      · skip
                        refine lv_iload hx hb dL_law_622 (lv_at hl 2 rfl) ?_
                        refine lv_iload hx hb dL_law_624 (lv_at hl 11 rfl) ?_
                        refine bn_ge (tgt := 638) hx hb dL_law_626 (by decide) (by omega) (by omega) (fun c626 => ?_) (fun c626 => ?_)
                        · skip
                          refine lv_aload_n hx hb dL_law_638 rfl (lv_at hl 6 rfl) ?_
                          refine lv_iload hx hb dL_law_639 (lv_at hl 4 rfl) ?_
                          refine xn_i (vx_runV (rest := []) CF (m_X1_find l hlt D cI o r t a1 a2 b1 b2 S n2 w2 F2 G2 (nI v)) (cwV 1 hts gL_law_X1_find rfl rfl rfl k_X1_find ⟨Nat.le_of_ble_eq_true rfl, Nat.le_of_ble_eq_true rfl⟩) (px_pre hK1 (hP.sub [0, 1, 2, 3, 4, 5, 6] rfl) hX (xz_at hZ hS) rfl rfl rfl) rfl rfl hl.1 rfl (lv_room (Nat.le_of_ble_eq_true rfl)) dL_law_641 ⟨by show _ ≤ 600172; omega, by show _ ≤ 7300668; omega⟩) (fun E hE => hE.2 ⟨v, Nat.zero_le _, hv9, rfl⟩) (fun r1 hr1 => ?_)
                          obtain ⟨k9, hk9, e9, er⟩ := hr1
                          rw [show k9 = v from nI_inj (by omega) (by omega) e9.symm] at er
                          refine tp_i (y := (fd n w f v)) er ?_
                          refine lv_if_lt (tgt := 660) hx hb dL_law_644 (by decide) (fun c644 => ?_) (fun c644 => ?_)
                          · skip
                            refine w_widen (k := kc) (n := ks) (by omega) (by omega) ?_
                            exact hk _ _ _ _ _ _ _ _ _ _ _ _ _ _ _ S S2 hP hD hS (lv_sub hl [5, 6, 7, 8, 9, 10, 11] rfl)
                          · skip
                            refine lv_aload_n hx hb dL_law_647 rfl (lv_at hl 6 rfl) ?_
                            refine lv_iload hx hb dL_law_648 (lv_at hl 4 rfl) ?_
                            refine xn_i (vx_runV (rest := []) CF (m_X1_find l hlt D cI o r t a1 a2 b1 b2 S n2 w2 F2 G2 (nI v)) (cwV 1 hts gL_law_X1_find rfl rfl rfl k_X1_find ⟨Nat.le_of_ble_eq_true rfl, Nat.le_of_ble_eq_true rfl⟩) (px_pre hK1 (hP.sub [0, 1, 2, 3, 4, 5, 6] rfl) hX (xz_at hZ hS) rfl rfl rfl) rfl rfl hl.1 rfl (lv_room (Nat.le_of_ble_eq_true rfl)) dL_law_650 ⟨by show _ ≤ 600172; omega, by show _ ≤ 7300668; omega⟩) (fun E hE => hE.2 ⟨v, Nat.zero_le _, hv9, rfl⟩) (fun r1 hr1 => ?_)
                            obtain ⟨k9, hk9, e9, er⟩ := hr1
                            rw [show k9 = v from nI_inj (by omega) (by omega) e9.symm] at er
                            refine tp_i (y := (nI (la n w f v))) (er.trans (fd_cases (show 0 < n by omega) hn (nlt_m1 c644)).1) ?_
                            refine lv_iload hx hb dL_law_653 (lv_at hl 0 rfl) ?_
                            refine bn_eq (tgt := 660) hx hb dL_law_655 (by decide) (by omega) (by omega) (fun c655 => ?_) (fun c655 => ?_)
                            · skip
                              refine w_widen (k := kc) (n := ks) (by omega) (by omega) ?_
                              exact hk _ _ _ _ _ _ _ _ _ _ _ _ _ _ _ S S2 hP hD hS (lv_sub hl [5, 6, 7, 8, 9, 10, 11] rfl)
                            · skip
                              omega
                        · skip
                          have hfr := la_free c626 (fd_m1 (show 0 < n by omega) hn (lt_of_nge c619)) hn
                          refine lv_aload_n hx hb dL_law_629 rfl (lv_at hl 6 rfl) ?_
                          refine lv_iload hx hb dL_law_630 (lv_at hl 0 rfl) ?_
                          refine xn_i (vx_runV (rest := []) CF (m_X1_stateOf l hlt D cI o r t a1 a2 b1 b2 S n2 w2 F2 G2 (nI (la n w f v))) (cwV 1 hts gL_law_X1_stateOf rfl rfl rfl k_X1_stateOf ⟨Nat.le_of_ble_eq_true rfl, Nat.le_of_ble_eq_true rfl⟩) (px_pre hK1 (hP.sub [0, 1, 2, 3, 4, 5, 6] rfl) hX (xz_at hZ hS) rfl rfl rfl) rfl rfl hl.1 rfl (lv_room (Nat.le_of_ble_eq_true rfl)) dL_law_632 ⟨by show _ ≤ 600172; omega, by show _ ≤ 7300668; omega⟩) (fun E hE => hE.2 ⟨(la n w f v), hla, rfl⟩) (fun r1 hr1 => ?_)
                          obtain ⟨k9, hk9, e9, er⟩ := hr1
                          rw [show k9 = (la n w f v) from nI_inj (by omega) (by omega) e9.symm] at er
                          refine tp_i (y := (nI 0)) (er.trans (by rw [hfr]; decide)) ?_
                          refine bz_ne (tgt := 658) hx hb dL_law_635 (by decide) (by omega) (fun c635 => ?_) (fun c635 => ?_)
                          · skip
                            omega
                          · skip
                            refine lv_aload_n hx hb dL_law_638 rfl (lv_at hl 6 rfl) ?_
                            refine lv_iload hx hb dL_law_639 (lv_at hl 4 rfl) ?_
                            refine xn_i (vx_runV (rest := []) CF (m_X1_find l hlt D cI o r t a1 a2 b1 b2 S n2 w2 F2 G2 (nI v)) (cwV 1 hts gL_law_X1_find rfl rfl rfl k_X1_find ⟨Nat.le_of_ble_eq_true rfl, Nat.le_of_ble_eq_true rfl⟩) (px_pre hK1 (hP.sub [0, 1, 2, 3, 4, 5, 6] rfl) hX (xz_at hZ hS) rfl rfl rfl) rfl rfl hl.1 rfl (lv_room (Nat.le_of_ble_eq_true rfl)) dL_law_641 ⟨by show _ ≤ 600172; omega, by show _ ≤ 7300668; omega⟩) (fun E hE => hE.2 ⟨v, Nat.zero_le _, hv9, rfl⟩) (fun r1 hr1 => ?_)
                            obtain ⟨k9, hk9, e9, er⟩ := hr1
                            rw [show k9 = v from nI_inj (by omega) (by omega) e9.symm] at er
                            refine tp_i (y := (fd n w f v)) er ?_
                            refine lv_if_lt (tgt := 660) hx hb dL_law_644 (by decide) (fun c644 => ?_) (fun c644 => ?_)
                            · skip
                              refine w_widen (k := kc) (n := ks) (by omega) (by omega) ?_
                              exact hk _ _ _ _ _ _ _ _ _ _ _ _ _ _ _ S S2 hP hD hS (lv_sub hl [5, 6, 7, 8, 9, 10, 11] rfl)
                            · skip
                              refine lv_aload_n hx hb dL_law_647 rfl (lv_at hl 6 rfl) ?_
                              refine lv_iload hx hb dL_law_648 (lv_at hl 4 rfl) ?_
                              refine xn_i (vx_runV (rest := []) CF (m_X1_find l hlt D cI o r t a1 a2 b1 b2 S n2 w2 F2 G2 (nI v)) (cwV 1 hts gL_law_X1_find rfl rfl rfl k_X1_find ⟨Nat.le_of_ble_eq_true rfl, Nat.le_of_ble_eq_true rfl⟩) (px_pre hK1 (hP.sub [0, 1, 2, 3, 4, 5, 6] rfl) hX (xz_at hZ hS) rfl rfl rfl) rfl rfl hl.1 rfl (lv_room (Nat.le_of_ble_eq_true rfl)) dL_law_650 ⟨by show _ ≤ 600172; omega, by show _ ≤ 7300668; omega⟩) (fun E hE => hE.2 ⟨v, Nat.zero_le _, hv9, rfl⟩) (fun r1 hr1 => ?_)
                              obtain ⟨k9, hk9, e9, er⟩ := hr1
                              rw [show k9 = v from nI_inj (by omega) (by omega) e9.symm] at er
                              refine tp_i (y := (nI (la n w f v))) (er.trans (fd_cases (show 0 < n by omega) hn (nlt_m1 c644)).1) ?_
                              refine lv_iload hx hb dL_law_653 (lv_at hl 0 rfl) ?_
                              refine bn_eq (tgt := 660) hx hb dL_law_655 (by decide) (by omega) (by omega) (fun c655 => ?_) (fun c655 => ?_)
                              · skip
                                refine w_widen (k := kc) (n := ks) (by omega) (by omega) ?_
                                exact hk _ _ _ _ _ _ _ _ _ _ _ _ _ _ _ S S2 hP hD hS (lv_sub hl [5, 6, 7, 8, 9, 10, 11] rfl)
                              · skip
                                omega
        · skip
          omega
      | succ q ih =>
        intro k8 h1 ls hl
        refine lv_iload hx hb dL_law_523 (lv_at hl 0 rfl) ?_
        refine lv_iload hx hb dL_law_525 (lv_at hl 2 rfl) ?_
        refine bn_ge (tgt := 559) hx hb dL_law_527 (by decide) (by omega) (by omega) (fun c527 => ?_) (fun c527 => ?_)
        · skip
          omega
        · skip
          refine lv_iload hx hb dL_law_530 (lv_at hl 1 rfl) ?_
          refine lv_aload_n hx hb dL_law_532 rfl (lv_at hl 6 rfl) ?_
          refine lv_iload hx hb dL_law_533 (lv_at hl 4 rfl) ?_
          refine lv_iload hx hb dL_law_535 (lv_at hl 0 rfl) ?_
          refine xn_i (vx_runV (rest := [.int (nI (mt n w v (pl n w f v) k8))]) CF (m_X1_lookedAt l hlt D cI o r t a1 a2 b1 b2 S n2 w2 F2 G2 (nI v) (nI k8)) (cwV 2 hts gL_law_X1_lookedAt rfl rfl rfl k_X1_lookedAt ⟨Nat.le_of_ble_eq_true rfl, Nat.le_of_ble_eq_true rfl⟩) (px_pre hK1 (hP.sub [0, 1, 2, 3, 4, 5, 6] rfl) hX (xz_at hZ hS) rfl rfl rfl) rfl rfl hl.1 rfl (lv_room (Nat.le_of_ble_eq_true rfl)) dL_law_537 ⟨by show _ ≤ 600172; omega, by show _ ≤ 7300668; omega⟩) (fun E hE => hE.2 ⟨⟨v, Nat.zero_le _, hv9, rfl⟩, ⟨k8, Nat.zero_le _, by omega, rfl⟩⟩) (fun r1 hr1 => ?_)
          obtain ⟨v9, k9, h9v, e8, h9k, e9, er⟩ := hr1
          rw [show v9 = v from nI_inj (by omega) (by omega) e8.symm, show k9 = k8 from nI_inj (by omega) (by omega) e9.symm] at er
          refine tp_i (y := (nI (at_ n w v k8))) er ?_
          refine lv_iload hx hb dL_law_540 (lv_at hl 3 rfl) ?_
          refine lv_icmp_ne (tgt := 549) hx hb dL_law_542 (by decide) (fun c542 => ?_) (fun c542 => ?_)
          · skip
            refine lv_iconst (v := nI 0) hx hb dL_law_549 (by decide) ?_
            refine lv_ior hx hb dL_law_550 ?_
            refine tp_i (y := (nI (mt n w v (pl n w f v) (k8 + 1)))) (mt_n c542) ?_
            refine lv_istore (lv' := [(15, .int (nI (mt n w v (pl n w f v) (k8 + 1)))), (16, .int (nI k8)), (14, .int (nI (lk n w f v))), (13, .int (pl n w f v)), (12, .int (nI v)), (0, .ref b), (1, .ref o), (2, .ref u), (3, .int (nI i)), (4, .int x), (5, .long (DG n w f g)), (7, .int (nI n))]) hx hb dL_law_551 hl (by decide) rfl (fun ls hl => ?_)
            refine lv_iinc (v := (nI (k8 + 1))) (lv' := [(16, .int (nI (k8 + 1))), (15, .int (nI (mt n w v (pl n w f v) (k8 + 1)))), (14, .int (nI (lk n w f v))), (13, .int (pl n w f v)), (12, .int (nI v)), (0, .ref b), (1, .ref o), (2, .ref u), (3, .int (nI i)), (4, .int x), (5, .long (DG n w f g)), (7, .int (nI n))]) hx hb dL_law_553 hl (k := 1) rfl (inc1 _) (by decide) rfl (fun ls hl => ?_)
            refine lv_goto (tgt := 523) hx hb dL_law_556 (by decide) ?_
            exact ih (k8 + 1) (by omega) _ (lv_sub hl [0, 1, 2, 3, 4, 5, 6, 7, 8, 9, 10, 11] rfl)
          · skip
            refine lv_iconst (v := nI 1) hx hb dL_law_545 (by decide) ?_
            refine lv_goto (tgt := 550) hx hb dL_law_546 (by decide) ?_
            refine lv_ior hx hb dL_law_550 ?_
            refine tp_i (y := (nI (mt n w v (pl n w f v) (k8 + 1)))) (mt_y c542) ?_
            refine lv_istore (lv' := [(15, .int (nI (mt n w v (pl n w f v) (k8 + 1)))), (16, .int (nI k8)), (14, .int (nI (lk n w f v))), (13, .int (pl n w f v)), (12, .int (nI v)), (0, .ref b), (1, .ref o), (2, .ref u), (3, .int (nI i)), (4, .int x), (5, .long (DG n w f g)), (7, .int (nI n))]) hx hb dL_law_551 hl (by decide) rfl (fun ls hl => ?_)
            refine lv_iinc (v := (nI (k8 + 1))) (lv' := [(16, .int (nI (k8 + 1))), (15, .int (nI (mt n w v (pl n w f v) (k8 + 1)))), (14, .int (nI (lk n w f v))), (13, .int (pl n w f v)), (12, .int (nI v)), (0, .ref b), (1, .ref o), (2, .ref u), (3, .int (nI i)), (4, .int x), (5, .long (DG n w f g)), (7, .int (nI n))]) hx hb dL_law_553 hl (k := 1) rfl (inc1 _) (by decide) rfl (fun ls hl => ?_)
            refine lv_goto (tgt := 523) hx hb dL_law_556 (by decide) ?_
            exact ih (k8 + 1) (by omega) _ (lv_sub hl [0, 1, 2, 3, 4, 5, 6, 7, 8, 9, 10, 11] rfl)
    exact LP523 (lk n w f v) 0 (Nat.zero_add _) _ (lv_sub hl [0, 1, 2, 3, 4, 5, 6, 7, 8, 9, 10, 11] rfl)
  refine lv_iload hx hb dL_law_472 (lv_at hl 4 rfl) ?_
  refine lv_iconst (v := nI 3) hx hb dL_law_474 (by decide) ?_
  refine lv_ishr hx hb dL_law_475 ?_
  refine lv_iload hx hb dL_law_476 (lv_at hl 4 rfl) ?_
  refine lv_bipush (v := nI 6) hx hb dL_law_478 (by decide) ?_
  refine lv_ishr hx hb dL_law_480 ?_
  refine lv_iconst (v := nI 2) hx hb dL_law_481 (by decide) ?_
  refine pz_p (wc := []) CF (m_L_below l D cI cZ (x >>> ((nI 6) &&& 31)) 2 (by omega) (by omega)) (va_cwS 2 hts gL_law_L_below rfl rfl rfl k_L_below.2 ⟨Nat.le_of_ble_eq_true rfl, Nat.le_of_ble_eq_true rfl⟩) hK (fun k q h => by simp at h) rfl hl.1 rfl (Nat.le_of_ble_eq_true rfl) dL_law_482 ⟨by show _ ≤ 600172; omega, by show _ ≤ 7300668; omega⟩ (fun r1 hr1 => ?_)
  obtain ⟨j482, hj482, ej482⟩ := hr1
  refine tp_i (y := nI j482) ej482 ?_
  refine bz_ne (tgt := 493) hx hb dL_law_485 (by decide) (by omega) (fun c485 => ?_) (fun c485 => ?_)
  · skip
    refine lv_sipush (v := nI 10000) hx hb dL_law_493 (by decide) ?_
    refine pz_p (wc := []) CF (m_L_below l D cI cZ (x >>> ((nI 3) &&& 31)) 10000 (by omega) (by omega)) (va_cwS 2 hts gL_law_L_below rfl rfl rfl k_L_below.2 ⟨Nat.le_of_ble_eq_true rfl, Nat.le_of_ble_eq_true rfl⟩) hK (fun k q h => by simp at h) rfl hl.1 rfl (Nat.le_of_ble_eq_true rfl) dL_law_496 ⟨by show _ ≤ 600172; omega, by show _ ≤ 7300668; omega⟩ (fun r1 hr1 => ?_)
    obtain ⟨j496, hj496, ej496⟩ := hr1
    refine tp_i (y := nI j496) ej496 ?_
    have hv9 : j496 ≤ 9999 := by omega
    exact M499 j496 hv9 _ _ hP hD hS _ (lv_sub hl [0, 1, 2, 3, 4, 5, 6] rfl)
  · skip
    refine lv_bipush (v := nI 60) hx hb dL_law_488 (by decide) ?_
    refine lv_goto (tgt := 496) hx hb dL_law_490 (by decide) ?_
    refine pz_p (wc := []) CF (m_L_below l D cI cZ (x >>> ((nI 3) &&& 31)) 60 (by omega) (by omega)) (va_cwS 2 hts gL_law_L_below rfl rfl rfl k_L_below.2 ⟨Nat.le_of_ble_eq_true rfl, Nat.le_of_ble_eq_true rfl⟩) hK (fun k q h => by simp at h) rfl hl.1 rfl (Nat.le_of_ble_eq_true rfl) dL_law_496 ⟨by show _ ≤ 600172; omega, by show _ ≤ 7300668; omega⟩ (fun r1 hr1 => ?_)
    obtain ⟨j496, hj496, ej496⟩ := hr1
    refine tp_i (y := nI j496) ej496 ?_
    have hv9 : j496 ≤ 9999 := by omega
    exact M499 j496 hv9 _ _ hP hD hS _ (lv_sub hl [0, 1, 2, 3, 4, 5, 6] rfl)
