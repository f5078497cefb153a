/-! the law: sweeping, or all anew -/
set_option maxHeartbeats 8000000 in
set_option maxRecDepth 100000 in
theorem law_ends {p : Program} {l : Launch} {e : Env} {s : State} {m : MethodId} {below : List Frame} {meth : Method} {c : Code} {b L : Nat} {xs : Nat → Int32} {D : va_G} {cI cZ : ClassId} {A : Nat → Prop} {Q : State → Prop} {o r t a1 a2 b1 b2 u : Nat} (F9 : LF p l s m meth c b L xs D cI cZ A) {kc ks n w : Nat} {f g : Nat → Int32} {i : Nat} {x : Int32} {N w1 : Nat} (hN3 : 3 ≤ N) (hN40 : N ≤ 40) (hw1 : w1 ≤ 2) (hkc : kc ≤ 10000) (hks : ks ≤ 100000) (hd : Ds n f) (hk : ∀ (n w : Nat) (f g : Nat → Int32), Ds n f → KG p l e s m below meth c b D cI cZ A Q o r t a1 a2 b1 b2 u 1158 [(0, .ref b), (1, .ref o), (2, .ref u), (3, .int (nI i))] (kc + 20) (ks + 300) n w f g) : KG p l e s m below meth c b D cI cZ A Q o r t a1 a2 b1 b2 u 893 [(0, .ref b), (1, .ref o), (2, .ref u), (3, .int (nI i)), (4, .int x), (7, .int (nI n)), (17, .int (nI N)), (18, .int (nI w1)), (19, .int (LW n f g N w1))] kc ks n w f g := by
  obtain ⟨CF, hXs, hbl, hbA, hA, hK, hX, hZ, hNx, hlt, hL⟩ := id F9
  obtain ⟨hx, hb, hml, hown, hts⟩ := id CF
  have hK1 : va_K D vwCl [(cI, .int)] s := hK.sub [0] rfl
  have hKc := hK1
  intro c1 c2 c3 n2 w2 F G F2 G2 C V Z H locs ls S S2 hP hD hS hl
  obtain ⟨hn3, hn, hw2, hF, hG, hO⟩ := id S
  obtain ⟨-, -, -, hC, hV, hZv, -⟩ := id S2
  have hP : va_P D vwCl [(o, .inr (1, [.ref r, .ref t])), (r, .inr (0, [.ref a1, .ref a2, .int (nI n), .int (nI w)])), (a1, .inl (cI, 40, .inl F)), (a2, .inl (cI, 40, .inl G)), (t, .inr (0, [.ref b1, .ref b2, .int (nI n2), .int (nI w2)])), (b1, .inl (cI, 40, .inl F2)), (b2, .inl (cI, 40, .inl G2)), (u, .inr (2, [.int (nI w), .ref c1, .ref c2, .ref c3])), (c1, .inl (cI, n, .inl C)), (c2, .inl (cI, n, .inl V)), (c3, .inl (cZ, n, .inl Z))] H := hP
  have hD : va_D A [(o, .inr (1, [.ref r, .ref t])), (r, .inr (0, [.ref a1, .ref a2, .int (nI n), .int (nI w)])), (a1, .inl (cI, 40, .inl F)), (a2, .inl (cI, 40, .inl G)), (t, .inr (0, [.ref b1, .ref b2, .int (nI n2), .int (nI w2)])), (b1, .inl (cI, 40, .inl F2)), (b2, .inl (cI, 40, .inl G2)), (u, .inr (2, [.int (nI w), .ref c1, .ref c2, .ref c3])), (c1, .inl (cI, n, .inl C)), (c2, .inl (cI, n, .inl V)), (c3, .inl (cZ, n, .inl Z))] := hD
  have hct1 : ct n f (nI 1) ≤ n := ct_le n f (nI 1) n
  have hct2 : ct n f (nI 2) ≤ n := ct_le n f (nI 2) n
  have hcnt := swp_cnt (show 0 < n by omega) f
  refine lv_iload hx hb dL_law_893 (lv_at hl 4 rfl) ?_
  refine lv_bipush (v := nI 8) hx hb dL_law_895 (by decide) ?_
  refine lv_ishr hx hb dL_law_897 ?_
  refine lv_iconst (v := nI 2) hx hb dL_law_898 (by decide) ?_
  refine pz_p (wc := []) CF (m_L_below l D cI cZ (x >>> ((nI 8) &&& 31)) 2 (by omega) (by omega)) (va_cwS 2 hts gL_law_L_below rfl rfl rfl k_L_below.2 ⟨Nat.le_of_ble_eq_true rfl, Nat.le_of_ble_eq_true rfl⟩) hK (fun k q h => by simp at h) rfl hl.1 rfl (Nat.le_of_ble_eq_true rfl) dL_law_899 ⟨by show _ ≤ 600172; omega, by show _ ≤ 7300668; omega⟩ (fun r1 hr1 => ?_)
  obtain ⟨j899, hj899, ej899⟩ := hr1
  refine tp_i (y := nI j899) ej899 ?_
  refine bz_ne (tgt := 1000) hx hb dL_law_902 (by decide) (by omega) (fun c902 => ?_) (fun c902 => ?_)
  · skip
    refine lv_iload hx hb dL_law_1000 (lv_at hl 8 rfl) ?_
    refine lv_if_lt (tgt := 1158) hx hb dL_law_1002 (by decide) (fun c1002 => ?_) (fun c1002 => ?_)
    · skip
      refine w_widen (k := kc + 20) (n := ks + 300) (by omega) (by omega) ?_
      exact hk _ _ _ _ hd _ _ _ _ _ _ _ _ _ _ _ _ _ _ _ S S2 hP hD hS (lv_sub hl [0, 1, 2, 3] rfl)
    · skip
      refine lv_aload_n hx hb dL_law_1005 rfl (lv_at hl 2 rfl) ?_
      refine lv_iload hx hb dL_law_1006 (lv_at hl 6 rfl) ?_
      refine lv_iload hx hb dL_law_1008 (lv_at hl 7 rfl) ?_
      have hPc : va_P D vwCl [(u, .inr (2, [.int (nI w), .ref c1, .ref c2, .ref c3])), (c1, .inl (cI, n, .inl C)), (c2, .inl (cI, n, .inl V)), (c3, .inl (cZ, n, .inl Z))] H := hP.sub [7, 8, 9, 10] rfl
      have hDc : va_D A [(u, .inr (2, [.int (nI w), .ref c1, .ref c2, .ref c3])), (c1, .inl (cI, n, .inl C)), (c2, .inl (cI, n, .inl V)), (c3, .inl (cZ, n, .inl Z))] := hD.sub [7, 8, 9, 10] (by decide) rfl
      have hFc := va_free (wc := [(u, .inr (2, [.int (nI w), .ref c1, .ref c2, .ref c3])), (c1, .inl (cI, n, .inl C)), (c2, .inl (cI, n, .inl V)), (c3, .inl (cZ, n, .inl Z))]) hD hS hA [7, 8, 9, 10] rfl
      refine pq_r (va_runV (rest := []) CF (m_X2_anew l D cI cZ u c1 c2 c3 S2 hd N w1 hN3 hN40 hw1 H.size) (cwV 2 hts gL_law_X2_anew rfl rfl rfl k_X2_anew ⟨Nat.le_of_ble_eq_true rfl, Nat.le_of_ble_eq_true rfl⟩) (mv_pre hK hPc hDc rfl rfl rfl) rfl rfl hl.1 rfl (lv_room (Nat.le_of_ble_eq_true rfl)) dL_law_1010 ⟨by show _ ≤ 600172; omega, by show _ ≤ 7300668; omega⟩) hS hFc (fun r1 H locs hB hk1 hS => ?_)
      rcases hB with ⟨-, hHG, -⟩ | ⟨nb, d1, d2, d3, C4, V4, Z4, T, U, z, rfl, hHG, S4, hT, hP1, hD1⟩
      · exact absurd (LW_none hHG) (ge_m1 (ge0 c1002))
      obtain ⟨hP, hD⟩ := va_join (wr := [(o, .inr (1, [.ref r, .ref t])), (r, .inr (0, [.ref a1, .ref a2, .int (nI n), .int (nI w)])), (a1, .inl (cI, 40, .inl F)), (a2, .inl (cI, 40, .inl G)), (t, .inr (0, [.ref b1, .ref b2, .int (nI n2), .int (nI w2)])), (b1, .inl (cI, 40, .inl F2)), (b2, .inl (cI, 40, .inl G2))]) (w1 := [(u, .inr (2, [.int (nI w), .ref c1, .ref c2, .ref c3])), (c1, .inl (cI, n, .inl C)), (c2, .inl (cI, n, .inl V)), (c3, .inl (cZ, n, .inl Z)), (nb, .inr (2, [.int (nI w1), .ref d1, .ref d2, .ref d3])), (d1, .inl (cI, N, .inl C4)), (d2, .inl (cI, N, .inl V4)), (d3, .inl (cZ, N, .inl Z4))]) hP hD [7, 8, 9, 10] [0, 1, 2, 3, 4, 5, 6] rfl rfl (by decide) (by decide) hk1 hFc hP1 hD1
      have hP : va_P D vwCl [(o, .inr (1, [.ref r, .ref t])), (r, .inr (0, [.ref a1, .ref a2, .int (nI n), .int (nI w)])), (a1, .inl (cI, 40, .inl F)), (a2, .inl (cI, 40, .inl G)), (t, .inr (0, [.ref b1, .ref b2, .int (nI n2), .int (nI w2)])), (b1, .inl (cI, 40, .inl F2)), (b2, .inl (cI, 40, .inl G2)), (u, .inr (2, [.int (nI w), .ref c1, .ref c2, .ref c3])), (c1, .inl (cI, n, .inl C)), (c2, .inl (cI, n, .inl V)), (c3, .inl (cZ, n, .inl Z)), (nb, .inr (2, [.int (nI w1), .ref d1, .ref d2, .ref d3])), (d1, .inl (cI, N, .inl C4)), (d2, .inl (cI, N, .inl V4)), (d3, .inl (cZ, N, .inl Z4))] H := hP
      have hD : va_D A [(o, .inr (1, [.ref r, .ref t])), (r, .inr (0, [.ref a1, .ref a2, .int (nI n), .int (nI w)])), (a1, .inl (cI, 40, .inl F)), (a2, .inl (cI, 40, .inl G)), (t, .inr (0, [.ref b1, .ref b2, .int (nI n2), .int (nI w2)])), (b1, .inl (cI, 40, .inl F2)), (b2, .inl (cI, 40, .inl G2)), (u, .inr (2, [.int (nI w), .ref c1, .ref c2, .ref c3])), (c1, .inl (cI, n, .inl C)), (c2, .inl (cI, n, .inl V)), (c3, .inl (cZ, n, .inl Z)), (nb, .inr (2, [.int (nI w1), .ref d1, .ref d2, .ref d3])), (d1, .inl (cI, N, .inl C4)), (d2, .inl (cI, N, .inl V4)), (d3, .inl (cZ, N, .inl Z4))] := hD
      refine W.eq (g2 := F0 m 1013 ls [.ref nb]) rfl ?_
      refine lv_astore (lv' := [(24, .ref nb), (0, .ref b), (1, .ref o), (2, .ref u), (3, .int (nI i)), (4, .int x), (7, .int (nI n)), (17, .int (nI N)), (18, .int (nI w1)), (19, .int (LW n f g N w1))]) hx hb dL_law_1013 hl (by decide) rfl (fun ls hl => ?_)
      refine lv_aload_n hx hb dL_law_1015 rfl (lv_at hl 3 rfl) ?_
      refine lv_aload hx hb dL_law_1016 (lv_at hl 0 rfl) ?_
      refine va_get (D := D) (ci := 2) (v := .int (nI w1)) (C := RX2) (T := TX2) (N := 4) hx hb hts (fun _ h => (List.mem_append_left _ (List.mem_append_left _ (List.mem_append_left _ (List.mem_append_left _ (List.mem_append_left _ (List.mem_append_right _ h))))))) hown hK hP 11 rfl rfl 0 (by decide) (hts _ (List.mem_of_getElem? (i := 7) rfl)) (fun _ h9 => h9) rfl dL_law_1018 ?_
      refine va_put (D := D) (ci := 2) (v := .int (nI w1)) (ty := .int) (C := RX2) (T := TX2) (N := 4) hx hb hts (fun _ h => (List.mem_append_left _ (List.mem_append_left _ (List.mem_append_left _ (List.mem_append_left _ (List.mem_append_left _ (List.mem_append_right _ h))))))) tyX2 tyX2_ok nmX2 hown hK hP hD hS 7 rfl rfl 0 (by decide) (hts _ (List.mem_of_getElem? (i := 7) rfl)) (fun _ h9 => h9) rfl (by decide +kernel) rfl rfl (Nat.le_of_ble_eq_true rfl) dL_law_1021 (fun H locs hP hD hS => ?_)
      have hP : va_P D vwCl [(o, .inr (1, [.ref r, .ref t])), (r, .inr (0, [.ref a1, .ref a2, .int (nI n), .int (nI w)])), (a1, .inl (cI, 40, .inl F)), (a2, .inl (cI, 40, .inl G)), (t, .inr (0, [.ref b1, .ref b2, .int (nI n2), .int (nI w2)])), (b1, .inl (cI, 40, .inl F2)), (b2, .inl (cI, 40, .inl G2)), (u, .inr (2, [.int (nI w1), .ref c1, .ref c2, .ref c3])), (c1, .inl (cI, n, .inl C)), (c2, .inl (cI, n, .inl V)), (c3, .inl (cZ, n, .inl Z)), (nb, .inr (2, [.int (nI w1), .ref d1, .ref d2, .ref d3])), (d1, .inl (cI, N, .inl C4)), (d2, .inl (cI, N, .inl V4)), (d3, .inl (cZ, N, .inl Z4))] H := hP
      have hD : va_D A [(o, .inr (1, [.ref r, .ref t])), (r, .inr (0, [.ref a1, .ref a2, .int (nI n), .int (nI w)])), (a1, .inl (cI, 40, .inl F)), (a2, .inl (cI, 40, .inl G)), (t, .inr (0, [.ref b1, .ref b2, .int (nI n2), .int (nI w2)])), (b1, .inl (cI, 40, .inl F2)), (b2, .inl (cI, 40, .inl G2)), (u, .inr (2, [.int (nI w1), .ref c1, .ref c2, .ref c3])), (c1, .inl (cI, n, .inl C)), (c2, .inl (cI, n, .inl V)), (c3, .inl (cZ, n, .inl Z)), (nb, .inr (2, [.int (nI w1), .ref d1, .ref d2, .ref d3])), (d1, .inl (cI, N, .inl C4)), (d2, .inl (cI, N, .inl V4)), (d3, .inl (cZ, N, .inl Z4))] := hD
      refine lv_aload_n hx hb dL_law_1024 rfl (lv_at hl 3 rfl) ?_
      refine lv_aload hx hb dL_law_1025 (lv_at hl 0 rfl) ?_
      refine va_get (D := D) (ci := 2) (v := .ref d1) (C := RX2) (T := TX2) (N := 4) hx hb hts (fun _ h => (List.mem_append_left _ (List.mem_append_left _ (List.mem_append_left _ (List.mem_append_left _ (List.mem_append_left _ (List.mem_append_right _ h))))))) hown hK hP 11 rfl rfl 1 (by decide) (hts _ (List.mem_of_getElem? (i := 8) rfl)) (fun _ h9 => h9) rfl dL_law_1027 ?_
      refine va_put (D := D) (ci := 2) (v := .ref d1) (ty := .array .int) (C := RX2) (T := TX2) (N := 4) hx hb hts (fun _ h => (List.mem_append_left _ (List.mem_append_left _ (List.mem_append_left _ (List.mem_append_left _ (List.mem_append_left _ (List.mem_append_right _ h))))))) tyX2 tyX2_ok nmX2 hown hK hP hD hS 7 rfl rfl 1 (by decide) (hts _ (List.mem_of_getElem? (i := 8) rfl)) (fun _ h9 => h9) rfl (by decide +kernel) rfl rfl (Nat.le_of_ble_eq_true rfl) dL_law_1030 (fun H locs hP hD hS => ?_)
      have hP : va_P D vwCl [(o, .inr (1, [.ref r, .ref t])), (r, .inr (0, [.ref a1, .ref a2, .int (nI n), .int (nI w)])), (a1, .inl (cI, 40, .inl F)), (a2, .inl (cI, 40, .inl G)), (t, .inr (0, [.ref b1, .ref b2, .int (nI n2), .int (nI w2)])), (b1, .inl (cI, 40, .inl F2)), (b2, .inl (cI, 40, .inl G2)), (u, .inr (2, [.int (nI w1), .ref d1, .ref c2, .ref c3])), (c1, .inl (cI, n, .inl C)), (c2, .inl (cI, n, .inl V)), (c3, .inl (cZ, n, .inl Z)), (nb, .inr (2, [.int (nI w1), .ref d1, .ref d2, .ref d3])), (d1, .inl (cI, N, .inl C4)), (d2, .inl (cI, N, .inl V4)), (d3, .inl (cZ, N, .inl Z4))] H := hP
      have hD : va_D A [(o, .inr (1, [.ref r, .ref t])), (r, .inr (0, [.ref a1, .ref a2, .int (nI n), .int (nI w)])), (a1, .inl (cI, 40, .inl F)), (a2, .inl (cI, 40, .inl G)), (t, .inr (0, [.ref b1, .ref b2, .int (nI n2), .int (nI w2)])), (b1, .inl (cI, 40, .inl F2)), (b2, .inl (cI, 40, .inl G2)), (u, .inr (2, [.int (nI w1), .ref d1, .ref c2, .ref c3])), (c1, .inl (cI, n, .inl C)), (c2, .inl (cI, n, .inl V)), (c3, .inl (cZ, n, .inl Z)), (nb, .inr (2, [.int (nI w1), .ref d1, .ref d2, .ref d3])), (d1, .inl (cI, N, .inl C4)), (d2, .inl (cI, N, .inl V4)), (d3, .inl (cZ, N, .inl Z4))] := hD
      refine lv_aload_n hx hb dL_law_1033 rfl (lv_at hl 3 rfl) ?_
      refine lv_aload hx hb dL_law_1034 (lv_at hl 0 rfl) ?_
      refine va_get (D := D) (ci := 2) (v := .ref d2) (C := RX2) (T := TX2) (N := 4) hx hb hts (fun _ h => (List.mem_append_left _ (List.mem_append_left _ (List.mem_append_left _ (List.mem_append_left _ (List.mem_append_left _ (List.mem_append_right _ h))))))) hown hK hP 11 rfl rfl 2 (by decide) (hts _ (List.mem_of_getElem? (i := 9) rfl)) (fun _ h9 => h9) rfl dL_law_1036 ?_
      refine va_put (D := D) (ci := 2) (v := .ref d2) (ty := .array .int) (C := RX2) (T := TX2) (N := 4) hx hb hts (fun _ h => (List.mem_append_left _ (List.mem_append_left _ (List.mem_append_left _ (List.mem_append_left _ (List.mem_append_left _ (List.mem_append_right _ h))))))) tyX2 tyX2_ok nmX2 hown hK hP hD hS 7 rfl rfl 2 (by decide) (hts _ (List.mem_of_getElem? (i := 9) rfl)) (fun _ h9 => h9) rfl (by decide +kernel) rfl rfl (Nat.le_of_ble_eq_true rfl) dL_law_1039 (fun H locs hP hD hS => ?_)
      have hP : va_P D vwCl [(o, .inr (1, [.ref r, .ref t])), (r, .inr (0, [.ref a1, .ref a2, .int (nI n), .int (nI w)])), (a1, .inl (cI, 40, .inl F)), (a2, .inl (cI, 40, .inl G)), (t, .inr (0, [.ref b1, .ref b2, .int (nI n2), .int (nI w2)])), (b1, .inl (cI, 40, .inl F2)), (b2, .inl (cI, 40, .inl G2)), (u, .inr (2, [.int (nI w1), .ref d1, .ref d2, .ref c3])), (c1, .inl (cI, n, .inl C)), (c2, .inl (cI, n, .inl V)), (c3, .inl (cZ, n, .inl Z)), (nb, .inr (2, [.int (nI w1), .ref d1, .ref d2, .ref d3])), (d1, .inl (cI, N, .inl C4)), (d2, .inl (cI, N, .inl V4)), (d3, .inl (cZ, N, .inl Z4))] H := hP
      have hD : va_D A [(o, .inr (1, [.ref r, .ref t])), (r, .inr (0, [.ref a1, .ref a2, .int (nI n), .int (nI w)])), (a1, .inl (cI, 40, .inl F)), (a2, .inl (cI, 40, .inl G)), (t, .inr (0, [.ref b1, .ref b2, .int (nI n2), .int (nI w2)])), (b1, .inl (cI, 40, .inl F2)), (b2, .inl (cI, 40, .inl G2)), (u, .inr (2, [.int (nI w1), .ref d1, .ref d2, .ref c3])), (c1, .inl (cI, n, .inl C)), (c2, .inl (cI, n, .inl V)), (c3, .inl (cZ, n, .inl Z)), (nb, .inr (2, [.int (nI w1), .ref d1, .ref d2, .ref d3])), (d1, .inl (cI, N, .inl C4)), (d2, .inl (cI, N, .inl V4)), (d3, .inl (cZ, N, .inl Z4))] := hD
      refine lv_aload_n hx hb dL_law_1042 rfl (lv_at hl 3 rfl) ?_
      refine lv_aload hx hb dL_law_1043 (lv_at hl 0 rfl) ?_
      refine va_get (D := D) (ci := 2) (v := .ref d3) (C := RX2) (T := TX2) (N := 4) hx hb hts (fun _ h => (List.mem_append_left _ (List.mem_append_left _ (List.mem_append_left _ (List.mem_append_left _ (List.mem_append_left _ (List.mem_append_right _ h))))))) hown hK hP 11 rfl rfl 3 (by decide) (hts _ (List.mem_of_getElem? (i := 10) rfl)) (fun _ h9 => h9) rfl dL_law_1045 ?_
      refine va_put (D := D) (ci := 2) (v := .ref d3) (ty := .array .boolean) (C := RX2) (T := TX2) (N := 4) hx hb hts (fun _ h => (List.mem_append_left _ (List.mem_append_left _ (List.mem_append_left _ (List.mem_append_left _ (List.mem_append_left _ (List.mem_append_right _ h))))))) tyX2 tyX2_ok nmX2 hown hK hP hD hS 7 rfl rfl 3 (by decide) (hts _ (List.mem_of_getElem? (i := 10) rfl)) (fun _ h9 => h9) rfl (by decide +kernel) rfl rfl (Nat.le_of_ble_eq_true rfl) dL_law_1048 (fun H locs hP hD hS => ?_)
      have hP : va_P D vwCl [(o, .inr (1, [.ref r, .ref t])), (r, .inr (0, [.ref a1, .ref a2, .int (nI n), .int (nI w)])), (a1, .inl (cI, 40, .inl F)), (a2, .inl (cI, 40, .inl G)), (t, .inr (0, [.ref b1, .ref b2, .int (nI n2), .int (nI w2)])), (b1, .inl (cI, 40, .inl F2)), (b2, .inl (cI, 40, .inl G2)), (u, .inr (2, [.int (nI w1), .ref d1, .ref d2, .ref d3])), (c1, .inl (cI, n, .inl C)), (c2, .inl (cI, n, .inl V)), (c3, .inl (cZ, n, .inl Z)), (nb, .inr (2, [.int (nI w1), .ref d1, .ref d2, .ref d3])), (d1, .inl (cI, N, .inl C4)), (d2, .inl (cI, N, .inl V4)), (d3, .inl (cZ, N, .inl Z4))] H := hP
      have hD : va_D A [(o, .inr (1, [.ref r, .ref t])), (r, .inr (0, [.ref a1, .ref a2, .int (nI n), .int (nI w)])), (a1, .inl (cI, 40, .inl F)), (a2, .inl (cI, 40, .inl G)), (t, .inr (0, [.ref b1, .ref b2, .int (nI n2), .int (nI w2)])), (b1, .inl (cI, 40, .inl F2)), (b2, .inl (cI, 40, .inl G2)), (u, .inr (2, [.int (nI w1), .ref d1, .ref d2, .ref d3])), (c1, .inl (cI, n, .inl C)), (c2, .inl (cI, n, .inl V)), (c3, .inl (cZ, n, .inl Z)), (nb, .inr (2, [.int (nI w1), .ref d1, .ref d2, .ref d3])), (d1, .inl (cI, N, .inl C4)), (d2, .inl (cI, N, .inl V4)), (d3, .inl (cZ, N, .inl Z4))] := hD
      have hP := hP.sub (ws' := [(o, .inr (1, [.ref r, .ref t])), (r, .inr (0, [.ref a1, .ref a2, .int (nI n), .int (nI w)])), (a1, .inl (cI, 40, .inl F)), (a2, .inl (cI, 40, .inl G)), (t, .inr (0, [.ref b1, .ref b2, .int (nI n2), .int (nI w2)])), (b1, .inl (cI, 40, .inl F2)), (b2, .inl (cI, 40, .inl G2)), (u, .inr (2, [.int (nI w1), .ref d1, .ref d2, .ref d3])), (d1, .inl (cI, N, .inl C4)), (d2, .inl (cI, N, .inl V4)), (d3, .inl (cZ, N, .inl Z4))]) [0, 1, 2, 3, 4, 5, 6, 7, 12, 13, 14] rfl
      have hD := hD.sub (ws' := [(o, .inr (1, [.ref r, .ref t])), (r, .inr (0, [.ref a1, .ref a2, .int (nI n), .int (nI w)])), (a1, .inl (cI, 40, .inl F)), (a2, .inl (cI, 40, .inl G)), (t, .inr (0, [.ref b1, .ref b2, .int (nI n2), .int (nI w2)])), (b1, .inl (cI, 40, .inl F2)), (b2, .inl (cI, 40, .inl G2)), (u, .inr (2, [.int (nI w1), .ref d1, .ref d2, .ref d3])), (d1, .inl (cI, N, .inl C4)), (d2, .inl (cI, N, .inl V4)), (d3, .inl (cZ, N, .inl Z4))]) [0, 1, 2, 3, 4, 5, 6, 7, 12, 13, 14] (by decide) rfl
      have hP : va_P D vwCl [(o, .inr (1, [.ref r, .ref t])), (r, .inr (0, [.ref a1, .ref a2, .int (nI n), .int (nI w)])), (a1, .inl (cI, 40, .inl F)), (a2, .inl (cI, 40, .inl G)), (t, .inr (0, [.ref b1, .ref b2, .int (nI n2), .int (nI w2)])), (b1, .inl (cI, 40, .inl F2)), (b2, .inl (cI, 40, .inl G2)), (u, .inr (2, [.int (nI w1), .ref d1, .ref d2, .ref d3])), (d1, .inl (cI, N, .inl C4)), (d2, .inl (cI, N, .inl V4)), (d3, .inl (cZ, N, .inl Z4))] H := hP
      have hD : va_D A [(o, .inr (1, [.ref r, .ref t])), (r, .inr (0, [.ref a1, .ref a2, .int (nI n), .int (nI w)])), (a1, .inl (cI, 40, .inl F)), (a2, .inl (cI, 40, .inl G)), (t, .inr (0, [.ref b1, .ref b2, .int (nI n2), .int (nI w2)])), (b1, .inl (cI, 40, .inl F2)), (b2, .inl (cI, 40, .inl G2)), (u, .inr (2, [.int (nI w1), .ref d1, .ref d2, .ref d3])), (d1, .inl (cI, N, .inl C4)), (d2, .inl (cI, N, .inl V4)), (d3, .inl (cZ, N, .inl Z4))] := hD
      refine lv_aload_n hx hb dL_law_1051 rfl (lv_at hl 2 rfl) ?_
      refine pv_i CF (m_X1_weight l D cI o r t a1 a2 b1 b2 S n2 w2 F2 G2 ) (cwV 0 hts gL_law_X1_weight rfl rfl rfl k_X1_weight ⟨Nat.le_of_ble_eq_true rfl, Nat.le_of_ble_eq_true rfl⟩) hK1 (hP.sub [0, 1, 2, 3, 4, 5, 6] rfl) rfl rfl rfl rfl hl.1 rfl (Nat.le_of_ble_eq_true rfl) dL_law_1052 ⟨by show _ ≤ 600172; omega, by show _ ≤ 7300668; omega⟩ ?_
      refine lv_istore (lv' := [(25, .int (wa n g)), (24, .ref nb), (0, .ref b), (1, .ref o), (2, .ref u), (3, .int (nI i)), (4, .int x), (7, .int (nI n)), (17, .int (nI N)), (18, .int (nI w1)), (19, .int (LW n f g N w1))]) hx hb dL_law_1055 hl (by decide) rfl (fun ls hl => ?_)
      refine lv_aload_n hx hb dL_law_1057 rfl (lv_at hl 3 rfl) ?_
      refine lv_iload hx hb dL_law_1058 (lv_at hl 8 rfl) ?_
      refine lv_iload hx hb dL_law_1060 (lv_at hl 9 rfl) ?_
      have hPc : va_P D vwCl [(o, .inr (1, [.ref r, .ref t])), (r, .inr (0, [.ref a1, .ref a2, .int (nI n), .int (nI w)])), (a1, .inl (cI, 40, .inl F)), (a2, .inl (cI, 40, .inl G)), (t, .inr (0, [.ref b1, .ref b2, .int (nI n2), .int (nI w2)])), (b1, .inl (cI, 40, .inl F2)), (b2, .inl (cI, 40, .inl G2))] H := hP.sub [0, 1, 2, 3, 4, 5, 6] rfl
      have hDc : va_D A [(o, .inr (1, [.ref r, .ref t])), (r, .inr (0, [.ref a1, .ref a2, .int (nI n), .int (nI w)])), (a1, .inl (cI, 40, .inl F)), (a2, .inl (cI, 40, .inl G)), (t, .inr (0, [.ref b1, .ref b2, .int (nI n2), .int (nI w2)])), (b1, .inl (cI, 40, .inl F2)), (b2, .inl (cI, 40, .inl G2))] := hD.sub [0, 1, 2, 3, 4, 5, 6] (by decide) rfl
      have hFc := va_free (wc := [(o, .inr (1, [.ref r, .ref t])), (r, .inr (0, [.ref a1, .ref a2, .int (nI n), .int (nI w)])), (a1, .inl (cI, 40, .inl F)), (a2, .inl (cI, 40, .inl G)), (t, .inr (0, [.ref b1, .ref b2, .int (nI n2), .int (nI w2)])), (b1, .inl (cI, 40, .inl F2)), (b2, .inl (cI, 40, .inl G2))]) hD hS hA [0, 1, 2, 3, 4, 5, 6] rfl
      refine xn_m (vx_runV (rest := []) CF (m_X1_rehang l hlt D cI o r t a1 a2 b1 b2 S n2 w2 F2 G2 (nI N) (nI w1) H.size) (cwV 2 hts gL_law_X1_rehang rfl rfl rfl k_X1_rehang ⟨Nat.le_of_ble_eq_true rfl, Nat.le_of_ble_eq_true rfl⟩) (pxm_pre hK1 hPc hDc hX (hZ.kept hS.2.1) hFc rfl rfl rfl) rfl rfl hl.1 rfl (lv_room (Nat.le_of_ble_eq_true rfl)) dL_law_1062 ⟨by show _ ≤ 600172; omega, by show _ ≤ 7300668; omega⟩) hS hFc (fun E st9 t9 h9 => h9.elim (fun z => z.1.2 ⟨⟨N, hN3, hN40, rfl⟩, ⟨w1, Nat.zero_le _, hw1, rfl⟩⟩) (fun z => by obtain ⟨-, ⟨N9, w9, -, h40, e8, h2, e9, h8⟩, -⟩ := z; rw [← nI_inj (show N < 2 ^ 31 by omega) (show N9 < 2 ^ 31 by omega) e8, ← nI_inj (show w1 < 2 ^ 31 by omega) (show w9 < 2 ^ 31 by omega) e9, hHG] at h8; cases h8)) (fun r1 H locs hB hk1 hS => ?_)
      obtain ⟨N9, w9, hN93, hN940, ex, hw9, ey, T2, U2, z2, hHG2, hT2, er, F3, G3, S3, n3, w3, F4, G4, hP1⟩ := hB
      have eN : N = N9 := nI_inj (by omega) (by omega) ex
      have ew : w1 = w9 := nI_inj (by omega) (by omega) ey
      subst eN
      subst ew
      rw [hHG] at hHG2
      injection hHG2 with e7
      injection e7 with e8 e9
      injection e9 with e9 e10
      subst e8
      subst e9
      obtain ⟨hP, hD⟩ := jn (wb := [(o, .inr (1, [.ref r, .ref t])), (r, .inr (0, [.ref a1, .ref a2, .int (nI N), .int (nI w1)])), (a1, .inl (cI, 40, .inl F3)), (a2, .inl (cI, 40, .inl G3)), (t, .inr (0, [.ref b1, .ref b2, .int (nI n3), .int (nI w3)])), (b1, .inl (cI, 40, .inl F4)), (b2, .inl (cI, 40, .inl G4)), (u, .inr (2, [.int (nI w1), .ref d1, .ref d2, .ref d3])), (d1, .inl (cI, N, .inl C4)), (d2, .inl (cI, N, .inl V4)), (d3, .inl (cZ, N, .inl Z4))]) (w1 := [(o, .inr (1, [.ref r, .ref t])), (r, .inr (0, [.ref a1, .ref a2, .int (nI N), .int (nI w1)])), (a1, .inl (cI, 40, .inl F3)), (a2, .inl (cI, 40, .inl G3)), (t, .inr (0, [.ref b1, .ref b2, .int (nI n3), .int (nI w3)])), (b1, .inl (cI, 40, .inl F4)), (b2, .inl (cI, 40, .inl G4))]) hP hD [0, 1, 2, 3, 4, 5, 6] [7, 8, 9, 10] rfl rfl rfl rfl 11 rfl (by decide) (by decide) hk1 hP1
      have S := S3
      have S2 := S4
      have hcm := cm_le (f := f) (n := n) S3.2.2.2.2.2
      have hcN : ct N T (nI 1) ≤ N := ct_le N T (nI 1) N
      have h20 := ct2_0 hT
      refine tp_i (y := nI (cm n f N T)) er ?_
      refine lv_aload_n hx hb dL_law_1065 rfl (lv_at hl 3 rfl) ?_
      refine pv_i CF (m_X1_coats l D cI o r t a1 a2 b1 b2 S n3 w3 F4 G4 ) (cwV 0 hts gL_law_X1_coats rfl rfl rfl k_X1_coats ⟨Nat.le_of_ble_eq_true rfl, Nat.le_of_ble_eq_true rfl⟩) hK1 (hP.sub [0, 1, 2, 3, 4, 5, 6] rfl) rfl rfl rfl rfl hl.1 rfl (Nat.le_of_ble_eq_true rfl) dL_law_1066 ⟨by show _ ≤ 600172; omega, by show _ ≤ 7300668; omega⟩ ?_
      refine bn_gt (tgt := 1106) hx hb dL_law_1069 (by decide) (by omega) (by omega) (fun c1069 => ?_) (fun c1069 => ?_)
      · skip
        omega
      · skip
        refine lv_aload_n hx hb dL_law_1072 rfl (lv_at hl 3 rfl) ?_
        refine pv_i CF (m_X1_allLooks l D cI o r t a1 a2 b1 b2 S n3 w3 F4 G4 ) (cwV 0 hts gL_law_X1_allLooks rfl rfl rfl k_X1_allLooks ⟨Nat.le_of_ble_eq_true rfl, Nat.le_of_ble_eq_true rfl⟩) hK1 (hP.sub [0, 1, 2, 3, 4, 5, 6] rfl) rfl rfl rfl rfl hl.1 rfl (Nat.le_of_ble_eq_true rfl) dL_law_1073 ⟨by show _ ≤ 600172; omega, by show _ ≤ 7300668; omega⟩ ?_
        refine lv_iload hx hb dL_law_1076 (lv_at hl 10 rfl) ?_
        refine lv_icmp_ne (tgt := 1106) hx hb dL_law_1078 (by decide) (fun c1078 => ?_) (fun c1078 => ?_)
        · skip
          exact absurd (by rw [LW_some hHG, HG_sum (by omega) hO hHG]) c1078
        · skip
          refine lv_aload_n hx hb dL_law_1081 rfl (lv_at hl 3 rfl) ?_
          refine pv_i CF (m_X1_tickets l D cI o r t a1 a2 b1 b2 S n3 w3 F4 G4 ) (cwV 0 hts gL_law_X1_tickets rfl rfl rfl k_X1_tickets ⟨Nat.le_of_ble_eq_true rfl, Nat.le_of_ble_eq_true rfl⟩) hK1 (hP.sub [0, 1, 2, 3, 4, 5, 6] rfl) rfl rfl rfl rfl hl.1 rfl (Nat.le_of_ble_eq_true rfl) dL_law_1082 ⟨by show _ ≤ 600172; omega, by show _ ≤ 7300668; omega⟩ ?_
          refine bz_ne (tgt := 1106) hx hb dL_law_1085 (by decide) (by omega) (fun c1085 => ?_) (fun c1085 => ?_)
          · skip
            omega
          · skip
            refine lv_aload_n hx hb dL_law_1088 rfl (lv_at hl 3 rfl) ?_
            refine pv_i CF (m_X1_weight l D cI o r t a1 a2 b1 b2 S n3 w3 F4 G4 ) (cwV 0 hts gL_law_X1_weight rfl rfl rfl k_X1_weight ⟨Nat.le_of_ble_eq_true rfl, Nat.le_of_ble_eq_true rfl⟩) hK1 (hP.sub [0, 1, 2, 3, 4, 5, 6] rfl) rfl rfl rfl rfl hl.1 rfl (Nat.le_of_ble_eq_true rfl) dL_law_1089 ⟨by show _ ≤ 600172; omega, by show _ ≤ 7300668; omega⟩ ?_
            refine lv_iload hx hb dL_law_1092 (lv_at hl 0 rfl) ?_
            refine lv_icmp_ne (tgt := 1106) hx hb dL_law_1094 (by decide) (fun c1094 => ?_) (fun c1094 => ?_)
            · skip
              exact absurd (wa_HG (by omega) hO hHG) c1094
            · skip
              refine lv_aload_n hx hb dL_law_1097 rfl (lv_at hl 3 rfl) ?_
              refine pv_i CF (m_X1_hooks l D cI o r t a1 a2 b1 b2 S n3 w3 F4 G4 ) (cwV 0 hts gL_law_X1_hooks rfl rfl rfl k_X1_hooks ⟨Nat.le_of_ble_eq_true rfl, Nat.le_of_ble_eq_true rfl⟩) hK1 (hP.sub [0, 1, 2, 3, 4, 5, 6] rfl) rfl rfl rfl rfl hl.1 rfl (Nat.le_of_ble_eq_true rfl) dL_law_1098 ⟨by show _ ≤ 600172; omega, by show _ ≤ 7300668; omega⟩ ?_
              refine lv_iload hx hb dL_law_1101 (lv_at hl 8 rfl) ?_
              refine bn_eq (tgt := 1108) hx hb dL_law_1103 (by decide) (by omega) (by omega) (fun c1103 => ?_) (fun c1103 => ?_)
              · skip
                refine lv_aload_n hx hb dL_law_1108 rfl (lv_at hl 4 rfl) ?_
                refine va_get (D := D) (ci := 2) (v := .ref d1) (C := RX2) (T := TX2) (N := 4) hx hb hts (fun _ h => (List.mem_append_left _ (List.mem_append_left _ (List.mem_append_left _ (List.mem_append_left _ (List.mem_append_left _ (List.mem_append_right _ h))))))) hown hK hP 7 rfl rfl 1 (by decide) (hts _ (List.mem_of_getElem? (i := 8) rfl)) (fun _ h9 => h9) rfl dL_law_1109 ?_
                refine lv_astore (lv' := [(26, .ref d1), (25, .int (wa n g)), (24, .ref nb), (0, .ref b), (1, .ref o), (2, .ref u), (3, .int (nI i)), (4, .int x), (7, .int (nI n)), (17, .int (nI N)), (18, .int (nI w1)), (19, .int (LW n f g N w1))]) hx hb dL_law_1112 hl (by decide) rfl (fun ls hl => ?_)
                refine lv_aload hx hb dL_law_1114 (lv_at hl 0 rfl) ?_
                refine va_alen (v := nI N) hx hb hK hP 8 0 rfl rfl rfl dL_law_1116 ?_
                refine lv_istore (lv' := [(27, .int (nI N)), (26, .ref d1), (25, .int (wa n g)), (24, .ref nb), (0, .ref b), (1, .ref o), (2, .ref u), (3, .int (nI i)), (4, .int x), (7, .int (nI n)), (17, .int (nI N)), (18, .int (nI w1)), (19, .int (LW n f g N w1))]) hx hb dL_law_1117 hl (by decide) rfl (fun ls hl => ?_)
                refine lv_iconst (v := nI 0) hx hb dL_law_1119 (by decide) ?_
                refine lv_istore (lv' := [(28, .int (nI 0)), (27, .int (nI N)), (26, .ref d1), (25, .int (wa n g)), (24, .ref nb), (0, .ref b), (1, .ref o), (2, .ref u), (3, .int (nI i)), (4, .int x), (7, .int (nI n)), (17, .int (nI N)), (18, .int (nI w1)), (19, .int (LW n f g N w1))]) hx hb dL_law_1120 hl (by decide) rfl (fun ls hl => ?_)
                have LP1122 : ∀ (q j9 : Nat), j9 + q = N → ∀ (ls : Array Slot), lv_has ls 30 [(28, .int (nI j9)), (27, .int (nI N)), (26, .ref d1), (25, .int (wa n g)), (0, .ref b), (1, .ref o), (2, .ref u), (3, .int (nI i)), (4, .int x), (7, .int (nI n)), (17, .int (nI N)), (18, .int (nI w1)), (19, .int (LW n f g N w1))] → W p l e room_1 s m #[.ref b] below meth c H locs (kc + 7 + 2) (ks + 148 + 12) Q (F0 m 1122 ls []) := by
                  intro q
                  induction q with
                  | zero =>
                    intro j9 h1 ls hl
                    refine lv_iload hx hb dL_law_1122 (lv_at hl 0 rfl) ?_
                    refine lv_iload hx hb dL_law_1124 (lv_at hl 1 rfl) ?_
                    refine bn_ge (tgt := 1158) hx hb dL_law_1126 (by decide) (by omega) (by omega) (fun c1126 => ?_) (fun c1126 => ?_)
                    · skip
                      refine w_widen (k := kc + 20) (n := ks + 300) (by omega) (by omega) ?_
                      exact hk _ _ _ _ (HG_ds (by omega) hO hd hHG).2 _ _ _ _ _ _ _ _ _ _ _ _ _ _ _ S S2 hP hD hS (lv_sub hl [4, 5, 6, 7] rfl)
                    · skip
                      omega
                  | succ q ih =>
                    intro j9 h1 ls hl
                    refine lv_iload hx hb dL_law_1122 (lv_at hl 0 rfl) ?_
                    refine lv_iload hx hb dL_law_1124 (lv_at hl 1 rfl) ?_
                    refine bn_ge (tgt := 1158) hx hb dL_law_1126 (by decide) (by omega) (by omega) (fun c1126 => ?_) (fun c1126 => ?_)
                    · skip
                      omega
                    · skip
                      refine lv_aload hx hb dL_law_1129 (lv_at hl 2 rfl) ?_
                      refine lv_iload hx hb dL_law_1131 (lv_at hl 0 rfl) ?_
                      refine al_i hx hb hK hP 8 0 rfl rfl (by omega) (by omega) dL_law_1133 ?_
                      refine tp_i (y := (cn (T j9))) (S4.2.2.2.1 j9 (by omega)) ?_
                      refine lv_istore (lv' := [(29, .int (cn (T j9))), (28, .int (nI j9)), (27, .int (nI N)), (26, .ref d1), (25, .int (wa n g)), (0, .ref b), (1, .ref o), (2, .ref u), (3, .int (nI i)), (4, .int x), (7, .int (nI n)), (17, .int (nI N)), (18, .int (nI w1)), (19, .int (LW n f g N w1))]) hx hb dL_law_1134 hl (by decide) rfl (fun ls hl => ?_)
                      refine lv_iload hx hb dL_law_1136 (lv_at hl 0 rfl) ?_
                      refine lv_if_lt (tgt := 1152) hx hb dL_law_1138 (by decide) (fun c1138 => ?_) (fun c1138 => ?_)
                      · skip
                        refine lv_iinc (v := (nI (j9 + 1))) (lv' := [(28, .int (nI (j9 + 1))), (29, .int (cn (T j9))), (27, .int (nI N)), (26, .ref d1), (25, .int (wa n g)), (0, .ref b), (1, .ref o), (2, .ref u), (3, .int (nI i)), (4, .int x), (7, .int (nI n)), (17, .int (nI N)), (18, .int (nI w1)), (19, .int (LW n f g N w1))]) hx hb dL_law_1152 hl (k := 1) rfl (inc1 _) (by decide) rfl (fun ls hl => ?_)
                        refine lv_goto (tgt := 1122) hx hb dL_law_1155 (by decide) ?_
                        exact ih (j9 + 1) (by omega) _ (lv_sub hl [0, 2, 3, 4, 5, 6, 7, 8, 9, 10, 11, 12, 13] rfl)
                      · skip
                        refine lv_aload_n hx hb dL_law_1141 rfl (lv_at hl 6 rfl) ?_
                        refine lv_iload hx hb dL_law_1142 (lv_at hl 0 rfl) ?_
                        obtain ⟨y9, hx9, ex9, -⟩ := S4.2.2.2.2.2.2.num (k := j9) (by omega) (cn_d c1138)
                        refine tp_i (y := nI y9) ((cn_id (cn_d c1138)).trans ex9) ?_
                        refine xn_i (vx_runV (rest := []) CF (m_X1_find l hlt D cI o r t a1 a2 b1 b2 S n3 w3 F4 G4 (nI y9)) (cwV 1 hts gL_law_X1_find rfl rfl rfl k_X1_find ⟨Nat.le_of_ble_eq_true rfl, Nat.le_of_ble_eq_true rfl⟩) (px_pre hK1 (hP.sub [0, 1, 2, 3, 4, 5, 6] rfl) hX (xz_at hZ hS) rfl rfl rfl) rfl rfl hl.1 rfl (lv_room (Nat.le_of_ble_eq_true rfl)) dL_law_1144 ⟨by show _ ≤ 600172; omega, by show _ ≤ 7300668; omega⟩) (fun E hE => hE.2 ⟨y9, Nat.zero_le _, hx9, rfl⟩) (fun r1 hr1 => ?_)
                        obtain ⟨k9, hk9, e9, er⟩ := hr1
                        rw [show k9 = y9 from nI_inj (by omega) (by omega) e9.symm] at er
                        refine tp_i (y := (fd N w1 T y9)) er ?_
                        refine lv_if_ge (tgt := 1152) hx hb dL_law_1147 (by decide) (fun c1147 => ?_) (fun c1147 => ?_)
                        · skip
                          refine lv_iinc (v := (nI (j9 + 1))) (lv' := [(28, .int (nI (j9 + 1))), (29, .int (cn (T j9))), (27, .int (nI N)), (26, .ref d1), (25, .int (wa n g)), (0, .ref b), (1, .ref o), (2, .ref u), (3, .int (nI i)), (4, .int x), (7, .int (nI n)), (17, .int (nI N)), (18, .int (nI w1)), (19, .int (LW n f g N w1))]) hx hb dL_law_1152 hl (k := 1) rfl (inc1 _) (by decide) rfl (fun ls hl => ?_)
                          refine lv_goto (tgt := 1122) hx hb dL_law_1155 (by decide) ?_
                          exact ih (j9 + 1) (by omega) _ (lv_sub hl [0, 2, 3, 4, 5, 6, 7, 8, 9, 10, 11, 12, 13] rfl)
                        · skip
                          exact absurd (fd_gd hN40 (HG_gd (by omega) hO hHG) (by omega) hx9 ex9) c1147
                exact LP1122 N 0 (Nat.zero_add N) _ (lv_sub hl [0, 1, 2, 3, 5, 6, 7, 8, 9, 10, 11, 12, 13] rfl)
              · skip
                omega
  · skip
    refine lv_aload_n hx hb dL_law_905 rfl (lv_at hl 1 rfl) ?_
    refine pv_i CF (m_X1_tickets l D cI o r t a1 a2 b1 b2 S n2 w2 F2 G2 ) (cwV 0 hts gL_law_X1_tickets rfl rfl rfl k_X1_tickets ⟨Nat.le_of_ble_eq_true rfl, Nat.le_of_ble_eq_true rfl⟩) hK1 (hP.sub [0, 1, 2, 3, 4, 5, 6] rfl) rfl rfl rfl rfl hl.1 rfl (Nat.le_of_ble_eq_true rfl) dL_law_906 ⟨by show _ ≤ 600172; omega, by show _ ≤ 7300668; omega⟩ ?_
    refine lv_istore (lv' := [(24, .int (nI (ct n f (nI 2)))), (0, .ref b), (1, .ref o), (2, .ref u), (3, .int (nI i)), (4, .int x), (7, .int (nI n)), (17, .int (nI N)), (18, .int (nI w1)), (19, .int (LW n f g N w1))]) hx hb dL_law_909 hl (by decide) rfl (fun ls hl => ?_)
    refine lv_aload_n hx hb dL_law_911 rfl (lv_at hl 2 rfl) ?_
    refine pv_i CF (m_X1_coats l D cI o r t a1 a2 b1 b2 S n2 w2 F2 G2 ) (cwV 0 hts gL_law_X1_coats rfl rfl rfl k_X1_coats ⟨Nat.le_of_ble_eq_true rfl, Nat.le_of_ble_eq_true rfl⟩) hK1 (hP.sub [0, 1, 2, 3, 4, 5, 6] rfl) rfl rfl rfl rfl hl.1 rfl (Nat.le_of_ble_eq_true rfl) dL_law_912 ⟨by show _ ≤ 600172; omega, by show _ ≤ 7300668; omega⟩ ?_
    refine lv_istore (lv' := [(25, .int (nI (ct n f (nI 1)))), (24, .int (nI (ct n f (nI 2)))), (0, .ref b), (1, .ref o), (2, .ref u), (3, .int (nI i)), (4, .int x), (7, .int (nI n)), (17, .int (nI N)), (18, .int (nI w1)), (19, .int (LW n f g N w1))]) hx hb dL_law_915 hl (by decide) rfl (fun ls hl => ?_)
    refine lv_aload_n hx hb dL_law_917 rfl (lv_at hl 3 rfl) ?_
    have hPc : va_P D vwCl [(o, .inr (1, [.ref r, .ref t])), (r, .inr (0, [.ref a1, .ref a2, .int (nI n), .int (nI w)])), (a1, .inl (cI, 40, .inl F)), (a2, .inl (cI, 40, .inl G)), (t, .inr (0, [.ref b1, .ref b2, .int (nI n2), .int (nI w2)])), (b1, .inl (cI, 40, .inl F2)), (b2, .inl (cI, 40, .inl G2))] H := hP.sub [0, 1, 2, 3, 4, 5, 6] rfl
    have hDc : va_D A [(o, .inr (1, [.ref r, .ref t])), (r, .inr (0, [.ref a1, .ref a2, .int (nI n), .int (nI w)])), (a1, .inl (cI, 40, .inl F)), (a2, .inl (cI, 40, .inl G)), (t, .inr (0, [.ref b1, .ref b2, .int (nI n2), .int (nI w2)])), (b1, .inl (cI, 40, .inl F2)), (b2, .inl (cI, 40, .inl G2))] := hD.sub [0, 1, 2, 3, 4, 5, 6] (by decide) rfl
    have hFc := va_free (wc := [(o, .inr (1, [.ref r, .ref t])), (r, .inr (0, [.ref a1, .ref a2, .int (nI n), .int (nI w)])), (a1, .inl (cI, 40, .inl F)), (a2, .inl (cI, 40, .inl G)), (t, .inr (0, [.ref b1, .ref b2, .int (nI n2), .int (nI w2)])), (b1, .inl (cI, 40, .inl F2)), (b2, .inl (cI, 40, .inl G2))]) hD hS hA [0, 1, 2, 3, 4, 5, 6] rfl
    refine pq_i (va_runV (rest := []) CF (m_X1_sweep l D cI o r t a1 a2 b1 b2 S n2 w2 F2 G2  H.size) (cwV 0 hts gL_law_X1_sweep rfl rfl rfl k_X1_sweep ⟨Nat.le_of_ble_eq_true rfl, Nat.le_of_ble_eq_true rfl⟩) (mv_pre hKc hPc hDc rfl rfl rfl) rfl rfl hl.1 rfl (lv_room (Nat.le_of_ble_eq_true rfl)) dL_law_918 ⟨by show _ ≤ 600172; omega, by show _ ≤ 7300668; omega⟩) hS hFc (fun r1 H locs hB hk1 hS => ?_)
    obtain ⟨rfl, F3, G3, S3, hP1⟩ := hB
    obtain ⟨hP, hD⟩ := jn (wb := [(o, .inr (1, [.ref r, .ref t])), (r, .inr (0, [.ref a1, .ref a2, .int (nI n), .int (nI w)])), (a1, .inl (cI, 40, .inl F3)), (a2, .inl (cI, 40, .inl G3)), (t, .inr (0, [.ref b1, .ref b2, .int (nI n2), .int (nI w2)])), (b1, .inl (cI, 40, .inl F2)), (b2, .inl (cI, 40, .inl G2)), (u, .inr (2, [.int (nI w), .ref c1, .ref c2, .ref c3])), (c1, .inl (cI, n, .inl C)), (c2, .inl (cI, n, .inl V)), (c3, .inl (cZ, n, .inl Z))]) (w1 := [(o, .inr (1, [.ref r, .ref t])), (r, .inr (0, [.ref a1, .ref a2, .int (nI n), .int (nI w)])), (a1, .inl (cI, 40, .inl F3)), (a2, .inl (cI, 40, .inl G3)), (t, .inr (0, [.ref b1, .ref b2, .int (nI n2), .int (nI w2)])), (b1, .inl (cI, 40, .inl F2)), (b2, .inl (cI, 40, .inl G2))]) hP hD [0, 1, 2, 3, 4, 5, 6] [7, 8, 9, 10] rfl rfl rfl rfl 11 rfl (by decide) (by decide) hk1 hP1
    have S := S3
    have hO3 := S3.2.2.2.2.2
    refine lv_istore (lv' := [(26, .int (nI ((swp n f).2))), (25, .int (nI (ct n f (nI 1)))), (24, .int (nI (ct n f (nI 2)))), (0, .ref b), (1, .ref o), (2, .ref u), (3, .int (nI i)), (4, .int x), (7, .int (nI n)), (17, .int (nI N)), (18, .int (nI w1)), (19, .int (LW n f g N w1))]) hx hb dL_law_921 hl (by decide) rfl (fun ls hl => ?_)
    refine lv_iload hx hb dL_law_923 (lv_at hl 0 rfl) ?_
    refine lv_aload_n hx hb dL_law_925 rfl (lv_at hl 5 rfl) ?_
    have hPc : va_P D vwCl [(u, .inr (2, [.int (nI w), .ref c1, .ref c2, .ref c3])), (c1, .inl (cI, n, .inl C)), (c2, .inl (cI, n, .inl V)), (c3, .inl (cZ, n, .inl Z))] H := hP.sub [7, 8, 9, 10] rfl
    have hDc : va_D A [(u, .inr (2, [.int (nI w), .ref c1, .ref c2, .ref c3])), (c1, .inl (cI, n, .inl C)), (c2, .inl (cI, n, .inl V)), (c3, .inl (cZ, n, .inl Z))] := hD.sub [7, 8, 9, 10] (by decide) rfl
    have hFc := va_free (wc := [(u, .inr (2, [.int (nI w), .ref c1, .ref c2, .ref c3])), (c1, .inl (cI, n, .inl C)), (c2, .inl (cI, n, .inl V)), (c3, .inl (cZ, n, .inl Z))]) hD hS hA [7, 8, 9, 10] rfl
    refine pq_i (va_runV (As := []) (rest := [.int (nI ((swp n f).2))]) CF (m_X2_sweep l D cI cZ u c1 c2 c3 S2 H.size) (cwV 0 hts gL_law_X2_sweep rfl rfl rfl k_X2_sweep ⟨Nat.le_of_ble_eq_true rfl, Nat.le_of_ble_eq_true rfl⟩) (mv_pre hK hPc hDc rfl rfl rfl) rfl rfl hl.1 rfl (lv_room (Nat.le_of_ble_eq_true rfl)) dL_law_926 ⟨by show _ ≤ 600172; omega, by show _ ≤ 7300668; omega⟩) hS hFc (fun r2 H locs hB hk1 hS => ?_)
    obtain ⟨e2, c4, Z4, S4, hP1, hD1⟩ := hB
    obtain ⟨hP, hD⟩ := va_join (wr := [(o, .inr (1, [.ref r, .ref t])), (r, .inr (0, [.ref a1, .ref a2, .int (nI n), .int (nI w)])), (a1, .inl (cI, 40, .inl F3)), (a2, .inl (cI, 40, .inl G3)), (t, .inr (0, [.ref b1, .ref b2, .int (nI n2), .int (nI w2)])), (b1, .inl (cI, 40, .inl F2)), (b2, .inl (cI, 40, .inl G2))]) (w1 := [(u, .inr (2, [.int (nI w), .ref c1, .ref c2, .ref c4])), (c1, .inl (cI, n, .inl C)), (c2, .inl (cI, n, .inl V)), (c4, .inl (cZ, n, .inl Z4))]) hP hD [7, 8, 9, 10] [0, 1, 2, 3, 4, 5, 6] rfl rfl (by decide) (by decide) hk1 hFc hP1 hD1
    have hP : va_P D vwCl [(o, .inr (1, [.ref r, .ref t])), (r, .inr (0, [.ref a1, .ref a2, .int (nI n), .int (nI w)])), (a1, .inl (cI, 40, .inl F3)), (a2, .inl (cI, 40, .inl G3)), (t, .inr (0, [.ref b1, .ref b2, .int (nI n2), .int (nI w2)])), (b1, .inl (cI, 40, .inl F2)), (b2, .inl (cI, 40, .inl G2)), (u, .inr (2, [.int (nI w), .ref c1, .ref c2, .ref c4])), (c1, .inl (cI, n, .inl C)), (c2, .inl (cI, n, .inl V)), (c4, .inl (cZ, n, .inl Z4))] H := hP
    have hD : va_D A [(o, .inr (1, [.ref r, .ref t])), (r, .inr (0, [.ref a1, .ref a2, .int (nI n), .int (nI w)])), (a1, .inl (cI, 40, .inl F3)), (a2, .inl (cI, 40, .inl G3)), (t, .inr (0, [.ref b1, .ref b2, .int (nI n2), .int (nI w2)])), (b1, .inl (cI, 40, .inl F2)), (b2, .inl (cI, 40, .inl G2)), (u, .inr (2, [.int (nI w), .ref c1, .ref c2, .ref c4])), (c1, .inl (cI, n, .inl C)), (c2, .inl (cI, n, .inl V)), (c4, .inl (cZ, n, .inl Z4))] := hD
    have S2 := S4
    refine lv_icmp_ne (tgt := 953) hx hb dL_law_929 (by decide) (fun c929 => ?_) (fun c929 => ?_)
    · skip
      exact absurd e2.symm c929
    · skip
      refine lv_aload_n hx hb dL_law_932 rfl (lv_at hl 4 rfl) ?_
      refine pv_i CF (m_X1_coats l D cI o r t a1 a2 b1 b2 S n2 w2 F2 G2 ) (cwV 0 hts gL_law_X1_coats rfl rfl rfl k_X1_coats ⟨Nat.le_of_ble_eq_true rfl, Nat.le_of_ble_eq_true rfl⟩) hK1 (hP.sub [0, 1, 2, 3, 4, 5, 6] rfl) rfl rfl rfl rfl hl.1 rfl (Nat.le_of_ble_eq_true rfl) dL_law_933 ⟨by show _ ≤ 600172; omega, by show _ ≤ 7300668; omega⟩ ?_
      refine lv_iload hx hb dL_law_936 (lv_at hl 1 rfl) ?_
      refine lv_icmp_ne (tgt := 953) hx hb dL_law_938 (by decide) (fun c938 => ?_) (fun c938 => ?_)
      · skip
        exact absurd (congrArg nI (ct1_swp (show 0 < n by omega) hO hO3)) c938
      · skip
        refine lv_aload_n hx hb dL_law_941 rfl (lv_at hl 4 rfl) ?_
        refine pv_i CF (m_X1_tickets l D cI o r t a1 a2 b1 b2 S n2 w2 F2 G2 ) (cwV 0 hts gL_law_X1_tickets rfl rfl rfl k_X1_tickets ⟨Nat.le_of_ble_eq_true rfl, Nat.le_of_ble_eq_true rfl⟩) hK1 (hP.sub [0, 1, 2, 3, 4, 5, 6] rfl) rfl rfl rfl rfl hl.1 rfl (Nat.le_of_ble_eq_true rfl) dL_law_942 ⟨by show _ ≤ 600172; omega, by show _ ≤ 7300668; omega⟩ ?_
        refine lv_iload hx hb dL_law_945 (lv_at hl 2 rfl) ?_
        refine lv_iload hx hb dL_law_947 (lv_at hl 0 rfl) ?_
        refine an_sub hx hb (by omega) dL_law_949 ?_
        refine bn_eq (tgt := 955) hx hb dL_law_950 (by decide) (by omega) (by omega) (fun c950 => ?_) (fun c950 => ?_)
        · skip
          refine lv_iconst (v := nI 0) hx hb dL_law_955 (by decide) ?_
          refine lv_istore (lv' := [(27, .int (nI 0)), (26, .int (nI ((swp n f).2))), (25, .int (nI (ct n f (nI 1)))), (24, .int (nI (ct n f (nI 2)))), (0, .ref b), (1, .ref o), (2, .ref u), (3, .int (nI i)), (4, .int x), (7, .int (nI n)), (17, .int (nI N)), (18, .int (nI w1)), (19, .int (LW n f g N w1))]) hx hb dL_law_956 hl (by decide) rfl (fun ls hl => ?_)
          have LP958 : ∀ (q j9 : Nat), j9 + q = n → ∀ (ls : Array Slot), lv_has ls 30 [(27, .int (nI j9)), (26, .int (nI ((swp n f).2))), (25, .int (nI (ct n f (nI 1)))), (24, .int (nI (ct n f (nI 2)))), (0, .ref b), (1, .ref o), (2, .ref u), (3, .int (nI i)), (4, .int x), (7, .int (nI n)), (17, .int (nI N)), (18, .int (nI w1)), (19, .int (LW n f g N w1))] → W p l e room_1 s m #[.ref b] below meth c H locs (kc + 0 + 1) (ks + 0 + 40) Q (F0 m 958 ls []) := by
            intro q
            induction q with
            | zero =>
              intro j9 h1 ls hl
              refine lv_iload hx hb dL_law_958 (lv_at hl 0 rfl) ?_
              refine lv_iload hx hb dL_law_960 (lv_at hl 9 rfl) ?_
              refine bn_ge (tgt := 997) hx hb dL_law_962 (by decide) (by omega) (by omega) (fun c962 => ?_) (fun c962 => ?_)
              · skip
                refine lv_goto (tgt := 1158) hx hb dL_law_997 (by decide) ?_
                refine w_widen (k := kc + 20) (n := ks + 300) (by omega) (by omega) ?_
                exact hk _ _ _ _ (Ds_swp (show 0 < n by omega) hd) _ _ _ _ _ _ _ _ _ _ _ _ _ _ _ S S2 hP hD hS (lv_sub hl [4, 5, 6, 7] rfl)
              · skip
                omega
            | succ q ih =>
              intro j9 h1 ls hl
              refine lv_iload hx hb dL_law_958 (lv_at hl 0 rfl) ?_
              refine lv_iload hx hb dL_law_960 (lv_at hl 9 rfl) ?_
              refine bn_ge (tgt := 997) hx hb dL_law_962 (by decide) (by omega) (by omega) (fun c962 => ?_) (fun c962 => ?_)
              · skip
                omega
              · skip
                refine lv_aload_n hx hb dL_law_965 rfl (lv_at hl 5 rfl) ?_
                refine lv_iload hx hb dL_law_966 (lv_at hl 0 rfl) ?_
                refine xn_i (vx_runV (rest := []) CF (m_X1_stateOf l hlt D cI o r t a1 a2 b1 b2 S n2 w2 F2 G2 (nI j9)) (cwV 1 hts gL_law_X1_stateOf rfl rfl rfl k_X1_stateOf ⟨Nat.le_of_ble_eq_true rfl, Nat.le_of_ble_eq_true rfl⟩) (px_pre hK1 (hP.sub [0, 1, 2, 3, 4, 5, 6] rfl) hX (xz_at hZ hS) rfl rfl rfl) rfl rfl hl.1 rfl (lv_room (Nat.le_of_ble_eq_true rfl)) dL_law_968 ⟨by show _ ≤ 600172; omega, by show _ ≤ 7300668; omega⟩) (fun E hE => hE.2 ⟨j9, (by omega), rfl⟩) (fun r1 hr1 => ?_)
                obtain ⟨k9, hk9, e9, er⟩ := hr1
                rw [show k9 = j9 from nI_inj (by omega) (by omega) e9.symm] at er
                refine tp_i (y := (st ((swp n f).1 j9))) er ?_
                refine lv_iconst (v := nI 2) hx hb dL_law_971 (by decide) ?_
                refine lv_icmp_ne (tgt := 991) hx hb dL_law_972 (by decide) (fun c972 => ?_) (fun c972 => ?_)
                · skip
                  refine lv_iinc (v := (nI (j9 + 1))) (lv' := [(27, .int (nI (j9 + 1))), (26, .int (nI ((swp n f).2))), (25, .int (nI (ct n f (nI 1)))), (24, .int (nI (ct n f (nI 2)))), (0, .ref b), (1, .ref o), (2, .ref u), (3, .int (nI i)), (4, .int x), (7, .int (nI n)), (17, .int (nI N)), (18, .int (nI w1)), (19, .int (LW n f g N w1))]) hx hb dL_law_991 hl (k := 0) rfl (inc1 _) (by decide) rfl (fun ls hl => ?_)
                  refine lv_goto (tgt := 958) hx hb dL_law_994 (by decide) ?_
                  exact ih (j9 + 1) (by omega) _ (lv_sub hl [0, 1, 2, 3, 4, 5, 6, 7, 8, 9, 10, 11, 12] rfl)
                · skip
                  refine lv_aload_n hx hb dL_law_975 rfl (lv_at hl 5 rfl) ?_
                  refine lv_iload hx hb dL_law_976 (lv_at hl 0 rfl) ?_
                  refine lv_iconst (v := nI 1) hx hb dL_law_978 (by decide) ?_
                  refine an_add hx hb dL_law_979 ?_
                  refine lv_iload hx hb dL_law_980 (lv_at hl 9 rfl) ?_
                  refine an_rem hx hb (by omega) (by omega) (by omega) dL_law_982 ?_
                  have hmod := Nat.mod_lt (j9 + 1) (show 0 < n by omega)
                  refine xn_i (vx_runV (rest := []) CF (m_X1_stateOf l hlt D cI o r t a1 a2 b1 b2 S n2 w2 F2 G2 (nI ((j9 + 1) % n))) (cwV 1 hts gL_law_X1_stateOf rfl rfl rfl k_X1_stateOf ⟨Nat.le_of_ble_eq_true rfl, Nat.le_of_ble_eq_true rfl⟩) (px_pre hK1 (hP.sub [0, 1, 2, 3, 4, 5, 6] rfl) hX (xz_at hZ hS) rfl rfl rfl) rfl rfl hl.1 rfl (lv_room (Nat.le_of_ble_eq_true rfl)) dL_law_983 ⟨by show _ ≤ 600172; omega, by show _ ≤ 7300668; omega⟩) (fun E hE => hE.2 ⟨((j9 + 1) % n), (Nat.mod_lt _ (by omega)), rfl⟩) (fun r1 hr1 => ?_)
                  obtain ⟨k9, hk9, e9, er⟩ := hr1
                  rw [show k9 = ((j9 + 1) % n) from nI_inj (by omega) (by omega) e9.symm] at er
                  refine tp_i (y := (st ((swp n f).1 (((j9 + 1) % n))))) er ?_
                  refine lv_if_ne (tgt := 991) hx hb dL_law_986 (by decide) (fun c986 => ?_) (fun c986 => ?_)
                  · skip
                    refine lv_iinc (v := (nI (j9 + 1))) (lv' := [(27, .int (nI (j9 + 1))), (26, .int (nI ((swp n f).2))), (25, .int (nI (ct n f (nI 1)))), (24, .int (nI (ct n f (nI 2)))), (0, .ref b), (1, .ref o), (2, .ref u), (3, .int (nI i)), (4, .int x), (7, .int (nI n)), (17, .int (nI N)), (18, .int (nI w1)), (19, .int (LW n f g N w1))]) hx hb dL_law_991 hl (k := 0) rfl (inc1 _) (by decide) rfl (fun ls hl => ?_)
                    refine lv_goto (tgt := 958) hx hb dL_law_994 (by decide) ?_
                    exact ih (j9 + 1) (by omega) _ (lv_sub hl [0, 1, 2, 3, 4, 5, 6, 7, 8, 9, 10, 11, 12] rfl)
                  · skip
                    exact absurd ⟨st_2 c972, st_0 c986⟩ (swp_stb (show 0 < n by omega) f j9 (by omega))
          exact LP958 n 0 (Nat.zero_add n) _ (lv_sub hl [0, 1, 2, 3, 4, 5, 6, 7, 8, 9, 10, 11, 12] rfl)
        · skip
          omega
