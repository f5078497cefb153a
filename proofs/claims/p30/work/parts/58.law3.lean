/-! the law: what is added -/
set_option maxHeartbeats 8000000 in
set_option maxRecDepth 100000 in
theorem law_sums {p : Program} {l : Launch} {e : Env} {s : State} {m : MethodId} {below : List Frame} {meth : Method} {c : Code} {b L : Nat} {xs : Nat → Int32} {D : va_G} {cI cZ : ClassId} {A : Nat → Prop} {Q : State → Prop} {o r t a1 a2 b1 b2 u : Nat} (F9 : LF p l s m meth c b L xs D cI cZ A) {kc ks n w : Nat} {f g : Nat → Int32} {i : Nat} {x : Int32} (hkc : kc ≤ 10000) (hks : ks ≤ 100000) (hd : Ds n f) (hk : KG p l e s m below meth c b D cI cZ A Q o r t a1 a2 b1 b2 u 472 [(0, .ref b), (1, .ref o), (2, .ref u), (3, .int (nI i)), (4, .int x), (5, .long (DG n w f g)), (7, .int (nI n))] kc ks n w f g) : KG p l e s m below meth c b D cI cZ A Q o r t a1 a2 b1 b2 u 360 [(0, .ref b), (1, .ref o), (2, .ref u), (3, .int (nI i)), (4, .int x), (5, .long (DG n w f g)), (7, .int (nI n)), (8, .int (nI (ct n f (nI 0)))), (9, .int (nI (n - ct n f (nI 0)))), (10, .int (nI (sm n w f))), (11, .int (nI (fa n w f).2))] kc ks n w f g := by
  obtain ⟨CF, hXs, hbl, hbA, hA, hK, hX, hZ, hNx, hlt, hL⟩ := id F9
  obtain ⟨hx, hb, hml, hown, hts⟩ := id CF
  have hK1 : va_K D vwCl [(cI, .int)] s := hK.sub [0] rfl
  have hKc := hK1
  intro c1 c2 c3 n2 w2 F G F2 G2 C V Z H locs ls S S2 hP hD hS hl
  obtain ⟨hn3, hn, hw2, hF, hG, hO⟩ := id S
  obtain ⟨-, -, -, hC, hV, hZv, -⟩ := id S2
  have hP : va_P D vwCl [(o, .inr (1, [.ref r, .ref t])), (r, .inr (0, [.ref a1, .ref a2, .int (nI n), .int (nI w)])), (a1, .inl (cI, 40, .inl F)), (a2, .inl (cI, 40, .inl G)), (t, .inr (0, [.ref b1, .ref b2, .int (nI n2), .int (nI w2)])), (b1, .inl (cI, 40, .inl F2)), (b2, .inl (cI, 40, .inl G2)), (u, .inr (2, [.int (nI w), .ref c1, .ref c2, .ref c3])), (c1, .inl (cI, n, .inl C)), (c2, .inl (cI, n, .inl V)), (c3, .inl (cZ, n, .inl Z))] H := hP
  have hD : va_D A [(o, .inr (1, [.ref r, .ref t])), (r, .inr (0, [.ref a1, .ref a2, .int (nI n), .int (nI w)])), (a1, .inl (cI, 40, .inl F)), (a2, .inl (cI, 40, .inl G)), (t, .inr (0, [.ref b1, .ref b2, .int (nI n2), .int (nI w2)])), (b1, .inl (cI, 40, .inl F2)), (b2, .inl (cI, 40, .inl G2)), (u, .inr (2, [.int (nI w), .ref c1, .ref c2, .ref c3])), (c1, .inl (cI, n, .inl C)), (c2, .inl (cI, n, .inl V)), (c3, .inl (cZ, n, .inl Z))] := hD
  have h3 := ct3 n f
  have hFA := fa_fin (w := w) (show 0 < n by omega) hO
  have hfc := fa_neg hO hFA
  have hrc := rc_iff (f := f) (show 0 < n by omega)
  have hrl := rc_lt (show 0 < n by omega) hn f
  refine lv_iload hx hb dL_law_360 (lv_at hl 7 rfl) ?_
  refine lv_aload_n hx hb dL_law_362 rfl (lv_at hl 1 rfl) ?_
  refine pv_i CF (m_X1_coats l D cI o r t a1 a2 b1 b2 S n2 w2 F2 G2 ) (cwV 0 hts gL_law_X1_coats rfl rfl rfl k_X1_coats ⟨Nat.le_of_ble_eq_true rfl, Nat.le_of_ble_eq_true rfl⟩) hK1 (hP.sub [0, 1, 2, 3, 4, 5, 6] rfl) rfl rfl rfl rfl hl.1 rfl (Nat.le_of_ble_eq_true rfl) dL_law_363 ⟨by show _ ≤ 600172; omega, by show _ ≤ 7300668; omega⟩ ?_
  refine an_add hx hb dL_law_366 ?_
  refine lv_aload_n hx hb dL_law_367 rfl (lv_at hl 1 rfl) ?_
  refine pv_i CF (m_X1_tickets l D cI o r t a1 a2 b1 b2 S n2 w2 F2 G2 ) (cwV 0 hts gL_law_X1_tickets rfl rfl rfl k_X1_tickets ⟨Nat.le_of_ble_eq_true rfl, Nat.le_of_ble_eq_true rfl⟩) hK1 (hP.sub [0, 1, 2, 3, 4, 5, 6] rfl) rfl rfl rfl rfl hl.1 rfl (Nat.le_of_ble_eq_true rfl) dL_law_368 ⟨by show _ ≤ 600172; omega, by show _ ≤ 7300668; omega⟩ ?_
  refine an_add hx hb dL_law_371 ?_
  refine lv_iload hx hb dL_law_372 (lv_at hl 6 rfl) ?_
  refine bn_ne (tgt := 470) hx hb dL_law_374 (by decide) (by omega) (by omega) (fun c374 => ?_) (fun c374 => ?_)
  · skip
    omega
  · skip
    refine lv_iload hx hb dL_law_377 (lv_at hl 8 rfl) ?_
    refine lv_iload hx hb dL_law_379 (lv_at hl 6 rfl) ?_
    refine lv_iload hx hb dL_law_381 (lv_at hl 7 rfl) ?_
    refine an_sub hx hb (by omega) dL_law_383 ?_
    refine bn_ne (tgt := 470) hx hb dL_law_384 (by decide) (by omega) (by omega) (fun c384 => ?_) (fun c384 => ?_)
    · skip
      omega
    · skip
      refine lv_iload hx hb dL_law_387 (lv_at hl 9 rfl) ?_
      refine lv_aload_n hx hb dL_law_389 rfl (lv_at hl 1 rfl) ?_
      refine pv_i CF (m_X1_allLooks l D cI o r t a1 a2 b1 b2 S n2 w2 F2 G2 ) (cwV 0 hts gL_law_X1_allLooks rfl rfl rfl k_X1_allLooks ⟨Nat.le_of_ble_eq_true rfl, Nat.le_of_ble_eq_true rfl⟩) hK1 (hP.sub [0, 1, 2, 3, 4, 5, 6] rfl) rfl rfl rfl rfl hl.1 rfl (Nat.le_of_ble_eq_true rfl) dL_law_390 ⟨by show _ ≤ 600172; omega, by show _ ≤ 7300668; omega⟩ ?_
      refine lv_icmp_ne (tgt := 470) hx hb dL_law_393 (by decide) (fun c393 => ?_) (fun c393 => ?_)
      · skip
        exact absurd rfl c393
      · skip
        refine lv_aload_n hx hb dL_law_396 rfl (lv_at hl 1 rfl) ?_
        refine pv_i CF (m_X1_coats l D cI o r t a1 a2 b1 b2 S n2 w2 F2 G2 ) (cwV 0 hts gL_law_X1_coats rfl rfl rfl k_X1_coats ⟨Nat.le_of_ble_eq_true rfl, Nat.le_of_ble_eq_true rfl⟩) hK1 (hP.sub [0, 1, 2, 3, 4, 5, 6] rfl) rfl rfl rfl rfl hl.1 rfl (Nat.le_of_ble_eq_true rfl) dL_law_397 ⟨by show _ ≤ 600172; omega, by show _ ≤ 7300668; omega⟩ ?_
        refine bz_le (tgt := 416) hx hb dL_law_400 (by decide) (by omega) (fun c400 => ?_) (fun c400 => ?_)
        · skip
          refine lv_aload_n hx hb dL_law_416 rfl (lv_at hl 1 rfl) ?_
          refine pv_i CF (m_X1_farthest l D cI o r t a1 a2 b1 b2 S n2 w2 F2 G2 ) (cwV 0 hts gL_law_X1_farthest rfl rfl rfl k_X1_farthest ⟨Nat.le_of_ble_eq_true rfl, Nat.le_of_ble_eq_true rfl⟩) hK1 (hP.sub [0, 1, 2, 3, 4, 5, 6] rfl) rfl rfl rfl rfl hl.1 rfl (Nat.le_of_ble_eq_true rfl) dL_law_417 ⟨by show _ ≤ 600172; omega, by show _ ≤ 7300668; omega⟩ ?_
          refine lv_if_ge (tgt := 427) hx hb dL_law_420 (by decide) (fun c420 => ?_) (fun c420 => ?_)
          · skip
            refine lv_iconst (v := nI 0) hx hb dL_law_427 (by decide) ?_
            refine lv_aload_n hx hb dL_law_428 rfl (lv_at hl 1 rfl) ?_
            refine pv_i CF (m_X1_coats l D cI o r t a1 a2 b1 b2 S n2 w2 F2 G2 ) (cwV 0 hts gL_law_X1_coats rfl rfl rfl k_X1_coats ⟨Nat.le_of_ble_eq_true rfl, Nat.le_of_ble_eq_true rfl⟩) hK1 (hP.sub [0, 1, 2, 3, 4, 5, 6] rfl) rfl rfl rfl rfl hl.1 rfl (Nat.le_of_ble_eq_true rfl) dL_law_429 ⟨by show _ ≤ 600172; omega, by show _ ≤ 7300668; omega⟩ ?_
            refine bz_ne (tgt := 439) hx hb dL_law_432 (by decide) (by omega) (fun c432 => ?_) (fun c432 => ?_)
            · skip
              refine lv_iconst (v := nI 0) hx hb dL_law_439 (by decide) ?_
              refine bn_ne (tgt := 470) hx hb dL_law_440 (by decide) (by omega) (by omega) (fun c440 => ?_) (fun c440 => ?_)
              · skip
                omega
              · skip
                refine lv_aload_n hx hb dL_law_443 rfl (lv_at hl 1 rfl) ?_
                refine pv_i CF (m_X1_rows l D cI o r t a1 a2 b1 b2 S n2 w2 F2 G2 ) (cwV 0 hts gL_law_X1_rows rfl rfl rfl k_X1_rows ⟨Nat.le_of_ble_eq_true rfl, Nat.le_of_ble_eq_true rfl⟩) hK1 (hP.sub [0, 1, 2, 3, 4, 5, 6] rfl) rfl rfl rfl rfl hl.1 rfl (Nat.le_of_ble_eq_true rfl) dL_law_444 ⟨by show _ ≤ 600172; omega, by show _ ≤ 7300668; omega⟩ ?_
                refine bz_ne (tgt := 454) hx hb dL_law_447 (by decide) (by omega) (fun c447 => ?_) (fun c447 => ?_)
                · skip
                  refine lv_iconst (v := nI 0) hx hb dL_law_454 (by decide) ?_
                  refine lv_iload hx hb dL_law_455 (lv_at hl 7 rfl) ?_
                  refine lv_iload hx hb dL_law_457 (lv_at hl 6 rfl) ?_
                  refine bn_ne (tgt := 466) hx hb dL_law_459 (by decide) (by omega) (by omega) (fun c459 => ?_) (fun c459 => ?_)
                  · skip
                    refine lv_iconst (v := nI 0) hx hb dL_law_466 (by decide) ?_
                    refine bn_eq (tgt := 472) hx hb dL_law_467 (by decide) (by omega) (by omega) (fun c467 => ?_) (fun c467 => ?_)
                    · skip
                      refine w_widen (k := kc) (n := ks) (by omega) (by omega) ?_
                      exact hk _ _ _ _ _ _ _ _ _ _ _ _ _ _ _ S S2 hP hD hS (lv_sub hl [0, 1, 2, 3, 4, 5, 6] rfl)
                    · skip
                      omega
                  · skip
                    omega
                · skip
                  refine lv_iconst (v := nI 1) hx hb dL_law_450 (by decide) ?_
                  refine lv_goto (tgt := 455) hx hb dL_law_451 (by decide) ?_
                  refine lv_iload hx hb dL_law_455 (lv_at hl 7 rfl) ?_
                  refine lv_iload hx hb dL_law_457 (lv_at hl 6 rfl) ?_
                  refine bn_ne (tgt := 466) hx hb dL_law_459 (by decide) (by omega) (by omega) (fun c459 => ?_) (fun c459 => ?_)
                  · skip
                    omega
                  · skip
                    refine lv_iconst (v := nI 1) hx hb dL_law_462 (by decide) ?_
                    refine lv_goto (tgt := 467) hx hb dL_law_463 (by decide) ?_
                    refine bn_eq (tgt := 472) hx hb dL_law_467 (by decide) (by omega) (by omega) (fun c467 => ?_) (fun c467 => ?_)
                    · skip
                      refine w_widen (k := kc) (n := ks) (by omega) (by omega) ?_
                      exact hk _ _ _ _ _ _ _ _ _ _ _ _ _ _ _ S S2 hP hD hS (lv_sub hl [0, 1, 2, 3, 4, 5, 6] rfl)
                    · skip
                      omega
            · skip
              exact absurd (hfc.mpr c432) (not_lt0 c420)
          · skip
            refine lv_iconst (v := nI 1) hx hb dL_law_423 (by decide) ?_
            refine lv_goto (tgt := 428) hx hb dL_law_424 (by decide) ?_
            refine lv_aload_n hx hb dL_law_428 rfl (lv_at hl 1 rfl) ?_
            refine pv_i CF (m_X1_coats l D cI o r t a1 a2 b1 b2 S n2 w2 F2 G2 ) (cwV 0 hts gL_law_X1_coats rfl rfl rfl k_X1_coats ⟨Nat.le_of_ble_eq_true rfl, Nat.le_of_ble_eq_true rfl⟩) hK1 (hP.sub [0, 1, 2, 3, 4, 5, 6] rfl) rfl rfl rfl rfl hl.1 rfl (Nat.le_of_ble_eq_true rfl) dL_law_429 ⟨by show _ ≤ 600172; omega, by show _ ≤ 7300668; omega⟩ ?_
            refine bz_ne (tgt := 439) hx hb dL_law_432 (by decide) (by omega) (fun c432 => ?_) (fun c432 => ?_)
            · skip
              exact absurd (hfc.mp (lt_of_nge c420)) c432
            · skip
              refine lv_iconst (v := nI 1) hx hb dL_law_435 (by decide) ?_
              refine lv_goto (tgt := 440) hx hb dL_law_436 (by decide) ?_
              refine bn_ne (tgt := 470) hx hb dL_law_440 (by decide) (by omega) (by omega) (fun c440 => ?_) (fun c440 => ?_)
              · skip
                omega
              · skip
                refine lv_aload_n hx hb dL_law_443 rfl (lv_at hl 1 rfl) ?_
                refine pv_i CF (m_X1_rows l D cI o r t a1 a2 b1 b2 S n2 w2 F2 G2 ) (cwV 0 hts gL_law_X1_rows rfl rfl rfl k_X1_rows ⟨Nat.le_of_ble_eq_true rfl, Nat.le_of_ble_eq_true rfl⟩) hK1 (hP.sub [0, 1, 2, 3, 4, 5, 6] rfl) rfl rfl rfl rfl hl.1 rfl (Nat.le_of_ble_eq_true rfl) dL_law_444 ⟨by show _ ≤ 600172; omega, by show _ ≤ 7300668; omega⟩ ?_
                refine bz_ne (tgt := 454) hx hb dL_law_447 (by decide) (by omega) (fun c447 => ?_) (fun c447 => ?_)
                · skip
                  refine lv_iconst (v := nI 0) hx hb dL_law_454 (by decide) ?_
                  refine lv_iload hx hb dL_law_455 (lv_at hl 7 rfl) ?_
                  refine lv_iload hx hb dL_law_457 (lv_at hl 6 rfl) ?_
                  refine bn_ne (tgt := 466) hx hb dL_law_459 (by decide) (by omega) (by omega) (fun c459 => ?_) (fun c459 => ?_)
                  · skip
                    refine lv_iconst (v := nI 0) hx hb dL_law_466 (by decide) ?_
                    refine bn_eq (tgt := 472) hx hb dL_law_467 (by decide) (by omega) (by omega) (fun c467 => ?_) (fun c467 => ?_)
                    · skip
                      refine w_widen (k := kc) (n := ks) (by omega) (by omega) ?_
                      exact hk _ _ _ _ _ _ _ _ _ _ _ _ _ _ _ S S2 hP hD hS (lv_sub hl [0, 1, 2, 3, 4, 5, 6] rfl)
                    · skip
                      omega
                  · skip
                    omega
                · skip
                  refine lv_iconst (v := nI 1) hx hb dL_law_450 (by decide) ?_
                  refine lv_goto (tgt := 455) hx hb dL_law_451 (by decide) ?_
                  refine lv_iload hx hb dL_law_455 (lv_at hl 7 rfl) ?_
                  refine lv_iload hx hb dL_law_457 (lv_at hl 6 rfl) ?_
                  refine bn_ne (tgt := 466) hx hb dL_law_459 (by decide) (by omega) (by omega) (fun c459 => ?_) (fun c459 => ?_)
                  · skip
                    omega
                  · skip
                    refine lv_iconst (v := nI 1) hx hb dL_law_462 (by decide) ?_
                    refine lv_goto (tgt := 467) hx hb dL_law_463 (by decide) ?_
                    refine bn_eq (tgt := 472) hx hb dL_law_467 (by decide) (by omega) (by omega) (fun c467 => ?_) (fun c467 => ?_)
                    · skip
                      refine w_widen (k := kc) (n := ks) (by omega) (by omega) ?_
                      exact hk _ _ _ _ _ _ _ _ _ _ _ _ _ _ _ S S2 hP hD hS (lv_sub hl [0, 1, 2, 3, 4, 5, 6] rfl)
                    · skip
                      omega
        · skip
          refine lv_aload_n hx hb dL_law_403 rfl (lv_at hl 1 rfl) ?_
          refine lv_aload_n hx hb dL_law_404 rfl (lv_at hl 1 rfl) ?_
          refine pv_i CF (m_X1_farthest l D cI o r t a1 a2 b1 b2 S n2 w2 F2 G2 ) (cwV 0 hts gL_law_X1_farthest rfl rfl rfl k_X1_farthest ⟨Nat.le_of_ble_eq_true rfl, Nat.le_of_ble_eq_true rfl⟩) hK1 (hP.sub [0, 1, 2, 3, 4, 5, 6] rfl) rfl rfl rfl rfl hl.1 rfl (Nat.le_of_ble_eq_true rfl) dL_law_405 ⟨by show _ ≤ 600172; omega, by show _ ≤ 7300668; omega⟩ ?_
          obtain ⟨y9, hx9, eaf, emm⟩ := fa_pos hO hFA c400
          refine tp_i (y := nI y9) eaf ?_
          refine xn_i (vx_runV (rest := []) CF (m_X1_looksFor l hlt D cI o r t a1 a2 b1 b2 S n2 w2 F2 G2 (nI y9)) (cwV 1 hts gL_law_X1_looksFor rfl rfl rfl k_X1_looksFor ⟨Nat.le_of_ble_eq_true rfl, Nat.le_of_ble_eq_true rfl⟩) (px_pre hK1 (hP.sub [0, 1, 2, 3, 4, 5, 6] rfl) hX (xz_at hZ hS) rfl rfl rfl) rfl rfl hl.1 rfl (lv_room (Nat.le_of_ble_eq_true rfl)) dL_law_408 ⟨by show _ ≤ 600172; omega, by show _ ≤ 7300668; omega⟩) (fun E hE => hE.2 ⟨y9, Nat.zero_le _, hx9, rfl⟩) (fun r1 hr1 => ?_)
          obtain ⟨k9, hk9, e9, er⟩ := hr1
          rw [show k9 = y9 from nI_inj (by omega) (by omega) e9.symm] at er
          refine tp_i (y := (nI (lk n w f y9))) er ?_
          refine lv_iload hx hb dL_law_411 (lv_at hl 10 rfl) ?_
          refine lv_icmp_ne (tgt := 470) hx hb dL_law_413 (by decide) (fun c413 => ?_) (fun c413 => ?_)
          · skip
            exact absurd (congrArg nI emm.symm) c413
          · skip
            refine lv_aload_n hx hb dL_law_416 rfl (lv_at hl 1 rfl) ?_
            refine pv_i CF (m_X1_farthest l D cI o r t a1 a2 b1 b2 S n2 w2 F2 G2 ) (cwV 0 hts gL_law_X1_farthest rfl rfl rfl k_X1_farthest ⟨Nat.le_of_ble_eq_true rfl, Nat.le_of_ble_eq_true rfl⟩) hK1 (hP.sub [0, 1, 2, 3, 4, 5, 6] rfl) rfl rfl rfl rfl hl.1 rfl (Nat.le_of_ble_eq_true rfl) dL_law_417 ⟨by show _ ≤ 600172; omega, by show _ ≤ 7300668; omega⟩ ?_
            refine lv_if_ge (tgt := 427) hx hb dL_law_420 (by decide) (fun c420 => ?_) (fun c420 => ?_)
            · skip
              refine lv_iconst (v := nI 0) hx hb dL_law_427 (by decide) ?_
              refine lv_aload_n hx hb dL_law_428 rfl (lv_at hl 1 rfl) ?_
              refine pv_i CF (m_X1_coats l D cI o r t a1 a2 b1 b2 S n2 w2 F2 G2 ) (cwV 0 hts gL_law_X1_coats rfl rfl rfl k_X1_coats ⟨Nat.le_of_ble_eq_true rfl, Nat.le_of_ble_eq_true rfl⟩) hK1 (hP.sub [0, 1, 2, 3, 4, 5, 6] rfl) rfl rfl rfl rfl hl.1 rfl (Nat.le_of_ble_eq_true rfl) dL_law_429 ⟨by show _ ≤ 600172; omega, by show _ ≤ 7300668; omega⟩ ?_
              refine bz_ne (tgt := 439) hx hb dL_law_432 (by decide) (by omega) (fun c432 => ?_) (fun c432 => ?_)
              · skip
                refine lv_iconst (v := nI 0) hx hb dL_law_439 (by decide) ?_
                refine bn_ne (tgt := 470) hx hb dL_law_440 (by decide) (by omega) (by omega) (fun c440 => ?_) (fun c440 => ?_)
                · skip
                  omega
                · skip
                  refine lv_aload_n hx hb dL_law_443 rfl (lv_at hl 1 rfl) ?_
                  refine pv_i CF (m_X1_rows l D cI o r t a1 a2 b1 b2 S n2 w2 F2 G2 ) (cwV 0 hts gL_law_X1_rows rfl rfl rfl k_X1_rows ⟨Nat.le_of_ble_eq_true rfl, Nat.le_of_ble_eq_true rfl⟩) hK1 (hP.sub [0, 1, 2, 3, 4, 5, 6] rfl) rfl rfl rfl rfl hl.1 rfl (Nat.le_of_ble_eq_true rfl) dL_law_444 ⟨by show _ ≤ 600172; omega, by show _ ≤ 7300668; omega⟩ ?_
                  refine bz_ne (tgt := 454) hx hb dL_law_447 (by decide) (by omega) (fun c447 => ?_) (fun c447 => ?_)
                  · skip
                    refine lv_iconst (v := nI 0) hx hb dL_law_454 (by decide) ?_
                    refine lv_iload hx hb dL_law_455 (lv_at hl 7 rfl) ?_
                    refine lv_iload hx hb dL_law_457 (lv_at hl 6 rfl) ?_
                    refine bn_ne (tgt := 466) hx hb dL_law_459 (by decide) (by omega) (by omega) (fun c459 => ?_) (fun c459 => ?_)
                    · skip
                      refine lv_iconst (v := nI 0) hx hb dL_law_466 (by decide) ?_
                      refine bn_eq (tgt := 472) hx hb dL_law_467 (by decide) (by omega) (by omega) (fun c467 => ?_) (fun c467 => ?_)
                      · skip
                        refine w_widen (k := kc) (n := ks) (by omega) (by omega) ?_
                        exact hk _ _ _ _ _ _ _ _ _ _ _ _ _ _ _ S S2 hP hD hS (lv_sub hl [0, 1, 2, 3, 4, 5, 6] rfl)
                      · skip
                        omega
                    · skip
                      omega
                  · skip
                    refine lv_iconst (v := nI 1) hx hb dL_law_450 (by decide) ?_
                    refine lv_goto (tgt := 455) hx hb dL_law_451 (by decide) ?_
                    refine lv_iload hx hb dL_law_455 (lv_at hl 7 rfl) ?_
                    refine lv_iload hx hb dL_law_457 (lv_at hl 6 rfl) ?_
                    refine bn_ne (tgt := 466) hx hb dL_law_459 (by decide) (by omega) (by omega) (fun c459 => ?_) (fun c459 => ?_)
                    · skip
                      omega
                    · skip
                      refine lv_iconst (v := nI 1) hx hb dL_law_462 (by decide) ?_
                      refine lv_goto (tgt := 467) hx hb dL_law_463 (by decide) ?_
                      refine bn_eq (tgt := 472) hx hb dL_law_467 (by decide) (by omega) (by omega) (fun c467 => ?_) (fun c467 => ?_)
                      · skip
                        refine w_widen (k := kc) (n := ks) (by omega) (by omega) ?_
                        exact hk _ _ _ _ _ _ _ _ _ _ _ _ _ _ _ S S2 hP hD hS (lv_sub hl [0, 1, 2, 3, 4, 5, 6] rfl)
                      · skip
                        omega
              · skip
                exact absurd (hfc.mpr c432) (not_lt0 c420)
            · skip
              refine lv_iconst (v := nI 1) hx hb dL_law_423 (by decide) ?_
              refine lv_goto (tgt := 428) hx hb dL_law_424 (by decide) ?_
              refine lv_aload_n hx hb dL_law_428 rfl (lv_at hl 1 rfl) ?_
              refine pv_i CF (m_X1_coats l D cI o r t a1 a2 b1 b2 S n2 w2 F2 G2 ) (cwV 0 hts gL_law_X1_coats rfl rfl rfl k_X1_coats ⟨Nat.le_of_ble_eq_true rfl, Nat.le_of_ble_eq_true rfl⟩) hK1 (hP.sub [0, 1, 2, 3, 4, 5, 6] rfl) rfl rfl rfl rfl hl.1 rfl (Nat.le_of_ble_eq_true rfl) dL_law_429 ⟨by show _ ≤ 600172; omega, by show _ ≤ 7300668; omega⟩ ?_
              refine bz_ne (tgt := 439) hx hb dL_law_432 (by decide) (by omega) (fun c432 => ?_) (fun c432 => ?_)
              · skip
                exact absurd (hfc.mp (lt_of_nge c420)) c432
              · skip
                refine lv_iconst (v := nI 1) hx hb dL_law_435 (by decide) ?_
                refine lv_goto (tgt := 440) hx hb dL_law_436 (by decide) ?_
                refine bn_ne (tgt := 470) hx hb dL_law_440 (by decide) (by omega) (by omega) (fun c440 => ?_) (fun c440 => ?_)
                · skip
                  omega
                · skip
                  refine lv_aload_n hx hb dL_law_443 rfl (lv_at hl 1 rfl) ?_
                  refine pv_i CF (m_X1_rows l D cI o r t a1 a2 b1 b2 S n2 w2 F2 G2 ) (cwV 0 hts gL_law_X1_rows rfl rfl rfl k_X1_rows ⟨Nat.le_of_ble_eq_true rfl, Nat.le_of_ble_eq_true rfl⟩) hK1 (hP.sub [0, 1, 2, 3, 4, 5, 6] rfl) rfl rfl rfl rfl hl.1 rfl (Nat.le_of_ble_eq_true rfl) dL_law_444 ⟨by show _ ≤ 600172; omega, by show _ ≤ 7300668; omega⟩ ?_
                  refine bz_ne (tgt := 454) hx hb dL_law_447 (by decide) (by omega) (fun c447 => ?_) (fun c447 => ?_)
                  · skip
                    refine lv_iconst (v := nI 0) hx hb dL_law_454 (by decide) ?_
                    refine lv_iload hx hb dL_law_455 (lv_at hl 7 rfl) ?_
                    refine lv_iload hx hb dL_law_457 (lv_at hl 6 rfl) ?_
                    refine bn_ne (tgt := 466) hx hb dL_law_459 (by decide) (by omega) (by omega) (fun c459 => ?_) (fun c459 => ?_)
                    · skip
                      refine lv_iconst (v := nI 0) hx hb dL_law_466 (by decide) ?_
                      refine bn_eq (tgt := 472) hx hb dL_law_467 (by decide) (by omega) (by omega) (fun c467 => ?_) (fun c467 => ?_)
                      · skip
                        refine w_widen (k := kc) (n := ks) (by omega) (by omega) ?_
                        exact hk _ _ _ _ _ _ _ _ _ _ _ _ _ _ _ S S2 hP hD hS (lv_sub hl [0, 1, 2, 3, 4, 5, 6] rfl)
                      · skip
                        omega
                    · skip
                      omega
                  · skip
                    refine lv_iconst (v := nI 1) hx hb dL_law_450 (by decide) ?_
                    refine lv_goto (tgt := 455) hx hb dL_law_451 (by decide) ?_
                    refine lv_iload hx hb dL_law_455 (lv_at hl 7 rfl) ?_
                    refine lv_iload hx hb dL_law_457 (lv_at hl 6 rfl) ?_
                    refine bn_ne (tgt := 466) hx hb dL_law_459 (by decide) (by omega) (by omega) (fun c459 => ?_) (fun c459 => ?_)
                    · skip
                      omega
                    · skip
                      refine lv_iconst (v := nI 1) hx hb dL_law_462 (by decide) ?_
                      refine lv_goto (tgt := 467) hx hb dL_law_463 (by decide) ?_
                      refine bn_eq (tgt := 472) hx hb dL_law_467 (by decide) (by omega) (by omega) (fun c467 => ?_) (fun c467 => ?_)
                      · skip
                        refine w_widen (k := kc) (n := ks) (by omega) (by omega) ?_
                        exact hk _ _ _ _ _ _ _ _ _ _ _ _ _ _ _ S S2 hP hD hS (lv_sub hl [0, 1, 2, 3, 4, 5, 6] rfl)
                      · skip
                        omega
