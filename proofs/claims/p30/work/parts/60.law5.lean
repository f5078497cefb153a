/-! the law: what would be -/
set_option maxHeartbeats 8000000 in
set_option maxRecDepth 100000 in
theorem law_would {p : Program} {l : Launch} {e : Env} {s : State} {m : MethodId} {below : List Frame} {meth : Method} {c : Code} {b L : Nat} {xs : Nat → Int32} {D : va_G} {cI cZ : ClassId} {A : Nat → Prop} {Q : State → Prop} {o r t a1 a2 b1 b2 u : Nat} (F9 : LF p l s m meth c b L xs D cI cZ A) {kc ks n w : Nat} {f g : Nat → Int32} {i : Nat} {x : Int32} (hkc : kc ≤ 10000) (hks : ks ≤ 100000) (hd : Ds n f) (hk : ∀ N w1 : Nat, 3 ≤ N → N ≤ 40 → w1 ≤ 2 → KG p l e s m below meth c b D cI cZ A Q o r t a1 a2 b1 b2 u 893 [(0, .ref b), (1, .ref o), (2, .ref u), (3, .int (nI i)), (4, .int x), (7, .int (nI n)), (17, .int (nI N)), (18, .int (nI w1)), (19, .int (LW n f g N w1))] (kc + 20) (ks + 300) n w f g) : KG p l e s m below meth c b D cI cZ A Q o r t a1 a2 b1 b2 u 660 [(0, .ref b), (1, .ref o), (2, .ref u), (3, .int (nI i)), (4, .int x), (5, .long (DG n w f g)), (7, .int (nI n))] kc ks n w f g := by
  obtain ⟨CF, hXs, hbl, hbA, hA, hK, hX, hZ, hNx, hlt, hL⟩ := id F9
  obtain ⟨hx, hb, hml, hown, hts⟩ := id CF
  have hK1 : va_K D vwCl [(cI, .int)] s := hK.sub [0] rfl
  have hKc := hK1
  intro c1 c2 c3 n2 w2 F G F2 G2 C V Z H locs ls S S2 hP hD hS hl
  obtain ⟨hn3, hn, hw2, hF, hG, hO⟩ := id S
  obtain ⟨-, -, -, hC, hV, hZv, -⟩ := id S2
  have hP : va_P D vwCl [(o, .inr (1, [.ref r, .ref t])), (r, .inr (0, [.ref a1, .ref a2, .int (nI n), .int (nI w)])), (a1, .inl (cI, 40, .inl F)), (a2, .inl (cI, 40, .inl G)), (t, .inr (0, [.ref b1, .ref b2, .int (nI n2), .int (nI w2)])), (b1, .inl (cI, 40, .inl F2)), (b2, .inl (cI, 40, .inl G2)), (u, .inr (2, [.int (nI w), .ref c1, .ref c2, .ref c3])), (c1, .inl (cI, n, .inl C)), (c2, .inl (cI, n, .inl V)), (c3, .inl (cZ, n, .inl Z))] H := hP
  have hD : va_D A [(o, .inr (1, [.ref r, .ref t])), (r, .inr (0, [.ref a1, .ref a2, .int (nI n), .int (nI w)])), (a1, .inl (cI, 40, .inl F)), (a2, .inl (cI, 40, .inl G)), (t, .inr (0, [.ref b1, .ref b2, .int (nI n2), .int (nI w2)])), (b1, .inl (cI, 40, .inl F2)), (b2, .inl (cI, 40, .inl G2)), (u, .inr (2, [.int (nI w), .ref c1, .ref c2, .ref c3])), (c1, .inl (cI, n, .inl C)), (c2, .inl (cI, n, .inl V)), (c3, .inl (cZ, n, .inl Z))] := hD
  have hct : ct n f (nI 1) ≤ n := ct_le n f (nI 1) n
  refine lv_iconst (v := nI 3) hx hb dL_law_660 (by decide) ?_
  refine lv_iload hx hb dL_law_661 (lv_at hl 4 rfl) ?_
  refine lv_iconst (v := nI 4) hx hb dL_law_663 (by decide) ?_
  refine lv_ishr hx hb dL_law_664 ?_
  refine lv_bipush (v := nI 38) hx hb dL_law_665 (by decide) ?_
  refine pz_p (wc := []) CF (m_L_below l D cI cZ (x >>> ((nI 4) &&& 31)) 38 (by omega) (by omega)) (va_cwS 2 hts gL_law_L_below rfl rfl rfl k_L_below.2 ⟨Nat.le_of_ble_eq_true rfl, Nat.le_of_ble_eq_true rfl⟩) hK (fun k q h => by simp at h) rfl hl.1 rfl (Nat.le_of_ble_eq_true rfl) dL_law_667 ⟨by show _ ≤ 600172; omega, by show _ ≤ 7300668; omega⟩ (fun r1 hr1 => ?_)
  obtain ⟨j667, hj667, ej667⟩ := hr1
  refine tp_i (y := nI j667) ej667 ?_
  refine an_add hx hb dL_law_670 ?_
  refine lv_istore (lv' := [(17, .int (nI (3 + j667))), (0, .ref b), (1, .ref o), (2, .ref u), (3, .int (nI i)), (4, .int x), (5, .long (DG n w f g)), (7, .int (nI n))]) hx hb dL_law_671 hl (by decide) rfl (fun ls hl => ?_)
  refine lv_iload hx hb dL_law_673 (lv_at hl 5 rfl) ?_
  refine lv_bipush (v := nI 7) hx hb dL_law_675 (by decide) ?_
  refine lv_ishr hx hb dL_law_677 ?_
  refine lv_iconst (v := nI 3) hx hb dL_law_678 (by decide) ?_
  refine pz_p (wc := []) CF (m_L_below l D cI cZ (x >>> ((nI 7) &&& 31)) 3 (by omega) (by omega)) (va_cwS 2 hts gL_law_L_below rfl rfl rfl k_L_below.2 ⟨Nat.le_of_ble_eq_true rfl, Nat.le_of_ble_eq_true rfl⟩) hK (fun k q h => by simp at h) rfl hl.1 rfl (Nat.le_of_ble_eq_true rfl) dL_law_679 ⟨by show _ ≤ 600172; omega, by show _ ≤ 7300668; omega⟩ (fun r1 hr1 => ?_)
  obtain ⟨j679, hj679, ej679⟩ := hr1
  refine tp_i (y := nI j679) ej679 ?_
  refine lv_istore (lv' := [(18, .int (nI j679)), (17, .int (nI (3 + j667))), (0, .ref b), (1, .ref o), (2, .ref u), (3, .int (nI i)), (4, .int x), (5, .long (DG n w f g)), (7, .int (nI n))]) hx hb dL_law_682 hl (by decide) rfl (fun ls hl => ?_)
  refine lv_aload_n hx hb dL_law_684 rfl (lv_at hl 3 rfl) ?_
  refine lv_iload hx hb dL_law_685 (lv_at hl 1 rfl) ?_
  refine lv_iload hx hb dL_law_687 (lv_at hl 0 rfl) ?_
  have hPc : va_P D vwCl [(o, .inr (1, [.ref r, .ref t])), (r, .inr (0, [.ref a1, .ref a2, .int (nI n), .int (nI w)])), (a1, .inl (cI, 40, .inl F)), (a2, .inl (cI, 40, .inl G)), (t, .inr (0, [.ref b1, .ref b2, .int (nI n2), .int (nI w2)])), (b1, .inl (cI, 40, .inl F2)), (b2, .inl (cI, 40, .inl G2))] H := hP.sub [0, 1, 2, 3, 4, 5, 6] rfl
  have hDc : va_D A [(o, .inr (1, [.ref r, .ref t])), (r, .inr (0, [.ref a1, .ref a2, .int (nI n), .int (nI w)])), (a1, .inl (cI, 40, .inl F)), (a2, .inl (cI, 40, .inl G)), (t, .inr (0, [.ref b1, .ref b2, .int (nI n2), .int (nI w2)])), (b1, .inl (cI, 40, .inl F2)), (b2, .inl (cI, 40, .inl G2))] := hD.sub [0, 1, 2, 3, 4, 5, 6] (by decide) rfl
  have hFc := va_free (wc := [(o, .inr (1, [.ref r, .ref t])), (r, .inr (0, [.ref a1, .ref a2, .int (nI n), .int (nI w)])), (a1, .inl (cI, 40, .inl F)), (a2, .inl (cI, 40, .inl G)), (t, .inr (0, [.ref b1, .ref b2, .int (nI n2), .int (nI w2)])), (b1, .inl (cI, 40, .inl F2)), (b2, .inl (cI, 40, .inl G2))]) hD hS hA [0, 1, 2, 3, 4, 5, 6] rfl
  refine xn_m (vx_runV (rest := []) CF (m_X1_looksWith l hlt D cI o r t a1 a2 b1 b2 S n2 w2 F2 G2 (nI (3 + j667)) (nI j679) H.size) (cwV 2 hts gL_law_X1_looksWith rfl rfl rfl k_X1_looksWith ⟨Nat.le_of_ble_eq_true rfl, Nat.le_of_ble_eq_true rfl⟩) (pxm_pre hK1 hPc hDc hX (hZ.kept hS.2.1) hFc rfl rfl rfl) rfl rfl hl.1 rfl (lv_room (Nat.le_of_ble_eq_true rfl)) dL_law_689 ⟨by show _ ≤ 600172; omega, by show _ ≤ 7300668; omega⟩) hS hFc (fun E st9 t9 h9 => h9.1.2 ⟨⟨(3 + j667), by omega, by omega, rfl⟩, ⟨j679, by omega, by omega, rfl⟩⟩) (fun r1 H locs hB hk1 hS => ?_)
  obtain ⟨N9, w9, h93, h940, e8, h9w, e9, er, n3, w3, F3, G3, hP1⟩ := hB
  rw [show N9 = (3 + j667) from nI_inj (by omega) (by omega) e8.symm, show w9 = j679 from nI_inj (by omega) (by omega) e9.symm] at er
  obtain ⟨hP, hD⟩ := jn (wb := [(o, .inr (1, [.ref r, .ref t])), (r, .inr (0, [.ref a1, .ref a2, .int (nI n), .int (nI w)])), (a1, .inl (cI, 40, .inl F)), (a2, .inl (cI, 40, .inl G)), (t, .inr (0, [.ref b1, .ref b2, .int (nI n3), .int (nI w3)])), (b1, .inl (cI, 40, .inl F3)), (b2, .inl (cI, 40, .inl G3)), (u, .inr (2, [.int (nI w), .ref c1, .ref c2, .ref c3])), (c1, .inl (cI, n, .inl C)), (c2, .inl (cI, n, .inl V)), (c3, .inl (cZ, n, .inl Z))]) (w1 := [(o, .inr (1, [.ref r, .ref t])), (r, .inr (0, [.ref a1, .ref a2, .int (nI n), .int (nI w)])), (a1, .inl (cI, 40, .inl F)), (a2, .inl (cI, 40, .inl G)), (t, .inr (0, [.ref b1, .ref b2, .int (nI n3), .int (nI w3)])), (b1, .inl (cI, 40, .inl F3)), (b2, .inl (cI, 40, .inl G3))]) hP hD [0, 1, 2, 3, 4, 5, 6] [7, 8, 9, 10] rfl rfl rfl rfl 11 rfl (by decide) (by decide) hk1 hP1
  refine tp_i (y := (LW n f g (3 + j667) j679)) er ?_
  refine lv_istore (lv' := [(19, .int (LW n f g (3 + j667) j679)), (18, .int (nI j679)), (17, .int (nI (3 + j667))), (0, .ref b), (1, .ref o), (2, .ref u), (3, .int (nI i)), (4, .int x), (5, .long (DG n w f g)), (7, .int (nI n))]) hx hb dL_law_692 hl (by decide) rfl (fun ls hl => ?_)
  refine lv_aload_n hx hb dL_law_694 rfl (lv_at hl 4 rfl) ?_
  have hPc : va_P D vwCl [(o, .inr (1, [.ref r, .ref t])), (r, .inr (0, [.ref a1, .ref a2, .int (nI n), .int (nI w)])), (a1, .inl (cI, 40, .inl F)), (a2, .inl (cI, 40, .inl G)), (t, .inr (0, [.ref b1, .ref b2, .int (nI n3), .int (nI w3)])), (b1, .inl (cI, 40, .inl F3)), (b2, .inl (cI, 40, .inl G3))] H := hP.sub [0, 1, 2, 3, 4, 5, 6] rfl
  have hDc : va_D A [(o, .inr (1, [.ref r, .ref t])), (r, .inr (0, [.ref a1, .ref a2, .int (nI n), .int (nI w)])), (a1, .inl (cI, 40, .inl F)), (a2, .inl (cI, 40, .inl G)), (t, .inr (0, [.ref b1, .ref b2, .int (nI n3), .int (nI w3)])), (b1, .inl (cI, 40, .inl F3)), (b2, .inl (cI, 40, .inl G3))] := hD.sub [0, 1, 2, 3, 4, 5, 6] (by decide) rfl
  have hFc := va_free (wc := [(o, .inr (1, [.ref r, .ref t])), (r, .inr (0, [.ref a1, .ref a2, .int (nI n), .int (nI w)])), (a1, .inl (cI, 40, .inl F)), (a2, .inl (cI, 40, .inl G)), (t, .inr (0, [.ref b1, .ref b2, .int (nI n3), .int (nI w3)])), (b1, .inl (cI, 40, .inl F3)), (b2, .inl (cI, 40, .inl G3))]) hD hS hA [0, 1, 2, 3, 4, 5, 6] rfl
  refine pq_i (va_runV (rest := []) CF (m_X1_bestWay l D cI o r t a1 a2 b1 b2 S n3 w3 F3 G3  H.size) (cwV 0 hts gL_law_X1_bestWay rfl rfl rfl k_X1_bestWay ⟨Nat.le_of_ble_eq_true rfl, Nat.le_of_ble_eq_true rfl⟩) (mv_pre hKc hPc hDc rfl rfl rfl) rfl rfl hl.1 rfl (lv_room (Nat.le_of_ble_eq_true rfl)) dL_law_695 ⟨by show _ ≤ 600172; omega, by show _ ≤ 7300668; omega⟩) hS hFc (fun r1 H locs hB hk1 hS => ?_)
  obtain ⟨rfl, n3, w3, F3, G3, hP1⟩ := hB
  obtain ⟨hP, hD⟩ := jn (wb := [(o, .inr (1, [.ref r, .ref t])), (r, .inr (0, [.ref a1, .ref a2, .int (nI n), .int (nI w)])), (a1, .inl (cI, 40, .inl F)), (a2, .inl (cI, 40, .inl G)), (t, .inr (0, [.ref b1, .ref b2, .int (nI n3), .int (nI w3)])), (b1, .inl (cI, 40, .inl F3)), (b2, .inl (cI, 40, .inl G3)), (u, .inr (2, [.int (nI w), .ref c1, .ref c2, .ref c3])), (c1, .inl (cI, n, .inl C)), (c2, .inl (cI, n, .inl V)), (c3, .inl (cZ, n, .inl Z))]) (w1 := [(o, .inr (1, [.ref r, .ref t])), (r, .inr (0, [.ref a1, .ref a2, .int (nI n), .int (nI w)])), (a1, .inl (cI, 40, .inl F)), (a2, .inl (cI, 40, .inl G)), (t, .inr (0, [.ref b1, .ref b2, .int (nI n3), .int (nI w3)])), (b1, .inl (cI, 40, .inl F3)), (b2, .inl (cI, 40, .inl G3))]) hP hD [0, 1, 2, 3, 4, 5, 6] [7, 8, 9, 10] rfl rfl rfl rfl 11 rfl (by decide) (by decide) hk1 hP1
  refine lv_istore (lv' := [(20, .int ((bst n f g).1)), (19, .int (LW n f g (3 + j667) j679)), (18, .int (nI j679)), (17, .int (nI (3 + j667))), (0, .ref b), (1, .ref o), (2, .ref u), (3, .int (nI i)), (4, .int x), (5, .long (DG n w f g)), (7, .int (nI n))]) hx hb dL_law_698 hl (by decide) rfl (fun ls hl => ?_)
  refine lv_aload_n hx hb dL_law_700 rfl (lv_at hl 5 rfl) ?_
  refine lv_iload hx hb dL_law_701 (lv_at hl 10 rfl) ?_
  refine lv_iload hx hb dL_law_703 (lv_at hl 2 rfl) ?_
  have hPc : va_P D vwCl [(o, .inr (1, [.ref r, .ref t])), (r, .inr (0, [.ref a1, .ref a2, .int (nI n), .int (nI w)])), (a1, .inl (cI, 40, .inl F)), (a2, .inl (cI, 40, .inl G)), (t, .inr (0, [.ref b1, .ref b2, .int (nI n3), .int (nI w3)])), (b1, .inl (cI, 40, .inl F3)), (b2, .inl (cI, 40, .inl G3))] H := hP.sub [0, 1, 2, 3, 4, 5, 6] rfl
  have hDc : va_D A [(o, .inr (1, [.ref r, .ref t])), (r, .inr (0, [.ref a1, .ref a2, .int (nI n), .int (nI w)])), (a1, .inl (cI, 40, .inl F)), (a2, .inl (cI, 40, .inl G)), (t, .inr (0, [.ref b1, .ref b2, .int (nI n3), .int (nI w3)])), (b1, .inl (cI, 40, .inl F3)), (b2, .inl (cI, 40, .inl G3))] := hD.sub [0, 1, 2, 3, 4, 5, 6] (by decide) rfl
  have hFc := va_free (wc := [(o, .inr (1, [.ref r, .ref t])), (r, .inr (0, [.ref a1, .ref a2, .int (nI n), .int (nI w)])), (a1, .inl (cI, 40, .inl F)), (a2, .inl (cI, 40, .inl G)), (t, .inr (0, [.ref b1, .ref b2, .int (nI n3), .int (nI w3)])), (b1, .inl (cI, 40, .inl F3)), (b2, .inl (cI, 40, .inl G3))]) hD hS hA [0, 1, 2, 3, 4, 5, 6] rfl
  refine xn_m (vx_runV (rest := []) CF (m_X1_looksWith l hlt D cI o r t a1 a2 b1 b2 S n3 w3 F3 G3 (nI n) (nI j679) H.size) (cwV 2 hts gL_law_X1_looksWith rfl rfl rfl k_X1_looksWith ⟨Nat.le_of_ble_eq_true rfl, Nat.le_of_ble_eq_true rfl⟩) (pxm_pre hK1 hPc hDc hX (hZ.kept hS.2.1) hFc rfl rfl rfl) rfl rfl hl.1 rfl (lv_room (Nat.le_of_ble_eq_true rfl)) dL_law_705 ⟨by show _ ≤ 600172; omega, by show _ ≤ 7300668; omega⟩) hS hFc (fun E st9 t9 h9 => h9.1.2 ⟨⟨n, by omega, by omega, rfl⟩, ⟨j679, by omega, by omega, rfl⟩⟩) (fun r1 H locs hB hk1 hS => ?_)
  obtain ⟨N9, w9, h93, h940, e8, h9w, e9, er, n3, w3, F3, G3, hP1⟩ := hB
  rw [show N9 = n from nI_inj (by omega) (by omega) e8.symm, show w9 = j679 from nI_inj (by omega) (by omega) e9.symm] at er
  obtain ⟨hP, hD⟩ := jn (wb := [(o, .inr (1, [.ref r, .ref t])), (r, .inr (0, [.ref a1, .ref a2, .int (nI n), .int (nI w)])), (a1, .inl (cI, 40, .inl F)), (a2, .inl (cI, 40, .inl G)), (t, .inr (0, [.ref b1, .ref b2, .int (nI n3), .int (nI w3)])), (b1, .inl (cI, 40, .inl F3)), (b2, .inl (cI, 40, .inl G3)), (u, .inr (2, [.int (nI w), .ref c1, .ref c2, .ref c3])), (c1, .inl (cI, n, .inl C)), (c2, .inl (cI, n, .inl V)), (c3, .inl (cZ, n, .inl Z))]) (w1 := [(o, .inr (1, [.ref r, .ref t])), (r, .inr (0, [.ref a1, .ref a2, .int (nI n), .int (nI w)])), (a1, .inl (cI, 40, .inl F)), (a2, .inl (cI, 40, .inl G)), (t, .inr (0, [.ref b1, .ref b2, .int (nI n3), .int (nI w3)])), (b1, .inl (cI, 40, .inl F3)), (b2, .inl (cI, 40, .inl G3))]) hP hD [0, 1, 2, 3, 4, 5, 6] [7, 8, 9, 10] rfl rfl rfl rfl 11 rfl (by decide) (by decide) hk1 hP1
  refine tp_i (y := (LW n f g n j679)) er ?_
  refine lv_istore (lv' := [(21, .int (LW n f g n j679)), (20, .int ((bst n f g).1)), (19, .int (LW n f g (3 + j667) j679)), (18, .int (nI j679)), (17, .int (nI (3 + j667))), (0, .ref b), (1, .ref o), (2, .ref u), (3, .int (nI i)), (4, .int x), (5, .long (DG n w f g)), (7, .int (nI n))]) hx hb dL_law_708 hl (by decide) rfl (fun ls hl => ?_)
  refine lv_iload hx hb dL_law_710 (lv_at hl 9 rfl) ?_
  refine lv_iconst (v := nI 5) hx hb dL_law_712 (by decide) ?_
  refine lv_ishr hx hb dL_law_713 ?_
  refine lv_bipush (v := nI 60) hx hb dL_law_714 (by decide) ?_
  refine pz_p (wc := []) CF (m_L_below l D cI cZ (x >>> ((nI 5) &&& 31)) 60 (by omega) (by omega)) (va_cwS 2 hts gL_law_L_below rfl rfl rfl k_L_below.2 ⟨Nat.le_of_ble_eq_true rfl, Nat.le_of_ble_eq_true rfl⟩) hK (fun k q h => by simp at h) rfl hl.1 rfl (Nat.le_of_ble_eq_true rfl) dL_law_716 ⟨by show _ ≤ 600172; omega, by show _ ≤ 7300668; omega⟩ (fun r1 hr1 => ?_)
  obtain ⟨j716, hj716, ej716⟩ := hr1
  refine tp_i (y := nI j716) ej716 ?_
  refine lv_istore (lv' := [(22, .int (nI j716)), (21, .int (LW n f g n j679)), (20, .int ((bst n f g).1)), (19, .int (LW n f g (3 + j667) j679)), (18, .int (nI j679)), (17, .int (nI (3 + j667))), (0, .ref b), (1, .ref o), (2, .ref u), (3, .int (nI i)), (4, .int x), (5, .long (DG n w f g)), (7, .int (nI n))]) hx hb dL_law_719 hl (by decide) rfl (fun ls hl => ?_)
  refine lv_aload_n hx hb dL_law_721 rfl (lv_at hl 7 rfl) ?_
  refine lv_iload hx hb dL_law_722 (lv_at hl 0 rfl) ?_
  have hPc : va_P D vwCl [(o, .inr (1, [.ref r, .ref t])), (r, .inr (0, [.ref a1, .ref a2, .int (nI n), .int (nI w)])), (a1, .inl (cI, 40, .inl F)), (a2, .inl (cI, 40, .inl G)), (t, .inr (0, [.ref b1, .ref b2, .int (nI n3), .int (nI w3)])), (b1, .inl (cI, 40, .inl F3)), (b2, .inl (cI, 40, .inl G3))] H := hP.sub [0, 1, 2, 3, 4, 5, 6] rfl
  have hDc : va_D A [(o, .inr (1, [.ref r, .ref t])), (r, .inr (0, [.ref a1, .ref a2, .int (nI n), .int (nI w)])), (a1, .inl (cI, 40, .inl F)), (a2, .inl (cI, 40, .inl G)), (t, .inr (0, [.ref b1, .ref b2, .int (nI n3), .int (nI w3)])), (b1, .inl (cI, 40, .inl F3)), (b2, .inl (cI, 40, .inl G3))] := hD.sub [0, 1, 2, 3, 4, 5, 6] (by decide) rfl
  have hFc := va_free (wc := [(o, .inr (1, [.ref r, .ref t])), (r, .inr (0, [.ref a1, .ref a2, .int (nI n), .int (nI w)])), (a1, .inl (cI, 40, .inl F)), (a2, .inl (cI, 40, .inl G)), (t, .inr (0, [.ref b1, .ref b2, .int (nI n3), .int (nI w3)])), (b1, .inl (cI, 40, .inl F3)), (b2, .inl (cI, 40, .inl G3))]) hD hS hA [0, 1, 2, 3, 4, 5, 6] rfl
  refine xn_m (vx_runV (rest := []) CF (m_X1_hooksWanted l hlt D cI o r t a1 a2 b1 b2 S n3 w3 F3 G3 (nI j716) H.size) (cwV 1 hts gL_law_X1_hooksWanted rfl rfl rfl k_X1_hooksWanted ⟨Nat.le_of_ble_eq_true rfl, Nat.le_of_ble_eq_true rfl⟩) (pxm_pre hK1 hPc hDc hX (hZ.kept hS.2.1) hFc rfl rfl rfl) rfl rfl hl.1 rfl (lv_room (Nat.le_of_ble_eq_true rfl)) dL_law_724 ⟨by show _ ≤ 600172; omega, by show _ ≤ 7300668; omega⟩) hS hFc (fun E st9 t9 h9 => h9.1.2 ⟨j716, Nat.zero_le _, by omega, rfl⟩) (fun r1 H locs hB hk1 hS => ?_)
  obtain ⟨v9, h9v, e9, er, n3, w3, F3, G3, hP1⟩ := hB
  rw [show v9 = j716 from nI_inj (by omega) (by omega) e9.symm] at er
  obtain ⟨hP, hD⟩ := jn (wb := [(o, .inr (1, [.ref r, .ref t])), (r, .inr (0, [.ref a1, .ref a2, .int (nI n), .int (nI w)])), (a1, .inl (cI, 40, .inl F)), (a2, .inl (cI, 40, .inl G)), (t, .inr (0, [.ref b1, .ref b2, .int (nI n3), .int (nI w3)])), (b1, .inl (cI, 40, .inl F3)), (b2, .inl (cI, 40, .inl G3)), (u, .inr (2, [.int (nI w), .ref c1, .ref c2, .ref c3])), (c1, .inl (cI, n, .inl C)), (c2, .inl (cI, n, .inl V)), (c3, .inl (cZ, n, .inl Z))]) (w1 := [(o, .inr (1, [.ref r, .ref t])), (r, .inr (0, [.ref a1, .ref a2, .int (nI n), .int (nI w)])), (a1, .inl (cI, 40, .inl F)), (a2, .inl (cI, 40, .inl G)), (t, .inr (0, [.ref b1, .ref b2, .int (nI n3), .int (nI w3)])), (b1, .inl (cI, 40, .inl F3)), (b2, .inl (cI, 40, .inl G3))]) hP hD [0, 1, 2, 3, 4, 5, 6] [7, 8, 9, 10] rfl rfl rfl rfl 11 rfl (by decide) (by decide) hk1 hP1
  refine tp_i (y := (fh n w f g j716)) er ?_
  refine lv_istore (lv' := [(23, .int (fh n w f g j716)), (22, .int (nI j716)), (21, .int (LW n f g n j679)), (20, .int ((bst n f g).1)), (19, .int (LW n f g (3 + j667) j679)), (18, .int (nI j679)), (17, .int (nI (3 + j667))), (0, .ref b), (1, .ref o), (2, .ref u), (3, .int (nI i)), (4, .int x), (5, .long (DG n w f g)), (7, .int (nI n))]) hx hb dL_law_727 hl (by decide) rfl (fun ls hl => ?_)
  have M881 : ∀ (n2 w2 : Nat) (F2 G2 : Nat → Int32), ∀ (H : Heap) (locs : List Loc), va_P D vwCl [(o, .inr (1, [.ref r, .ref t])), (r, .inr (0, [.ref a1, .ref a2, .int (nI n), .int (nI w)])), (a1, .inl (cI, 40, .inl F)), (a2, .inl (cI, 40, .inl G)), (t, .inr (0, [.ref b1, .ref b2, .int (nI n2), .int (nI w2)])), (b1, .inl (cI, 40, .inl F2)), (b2, .inl (cI, 40, .inl G2)), (u, .inr (2, [.int (nI w), .ref c1, .ref c2, .ref c3])), (c1, .inl (cI, n, .inl C)), (c2, .inl (cI, n, .inl V)), (c3, .inl (cZ, n, .inl Z))] H → va_D A [(o, .inr (1, [.ref r, .ref t])), (r, .inr (0, [.ref a1, .ref a2, .int (nI n), .int (nI w)])), (a1, .inl (cI, 40, .inl F)), (a2, .inl (cI, 40, .inl G)), (t, .inr (0, [.ref b1, .ref b2, .int (nI n2), .int (nI w2)])), (b1, .inl (cI, 40, .inl F2)), (b2, .inl (cI, 40, .inl G2)), (u, .inr (2, [.int (nI w), .ref c1, .ref c2, .ref c3])), (c1, .inl (cI, n, .inl C)), (c2, .inl (cI, n, .inl V)), (c3, .inl (cZ, n, .inl Z))] → va_S A s.heap H locs → ∀ (ls : Array Slot), lv_has ls 30 [(0, .ref b), (1, .ref o), (2, .ref u), (3, .int (nI i)), (4, .int x), (5, .long (DG n w f g)), (7, .int (nI n)), (17, .int (nI (3 + j667))), (18, .int (nI j679)), (19, .int (LW n f g (3 + j667) j679))] → W p l e room_1 s m #[.ref b] below meth c H locs (kc + 16) (ks + 240) Q (F0 m 881 ls []) := by
    intro n2 w2 F2 G2  H locs hP hD hS ls hl
    refine lv_aload_n hx hb dL_law_881 rfl (lv_at hl 1 rfl) ?_
    have hPc : va_P D vwCl [(o, .inr (1, [.ref r, .ref t])), (r, .inr (0, [.ref a1, .ref a2, .int (nI n), .int (nI w)])), (a1, .inl (cI, 40, .inl F)), (a2, .inl (cI, 40, .inl G)), (t, .inr (0, [.ref b1, .ref b2, .int (nI n2), .int (nI w2)])), (b1, .inl (cI, 40, .inl F2)), (b2, .inl (cI, 40, .inl G2))] H := hP.sub [0, 1, 2, 3, 4, 5, 6] rfl
    have hDc : va_D A [(o, .inr (1, [.ref r, .ref t])), (r, .inr (0, [.ref a1, .ref a2, .int (nI n), .int (nI w)])), (a1, .inl (cI, 40, .inl F)), (a2, .inl (cI, 40, .inl G)), (t, .inr (0, [.ref b1, .ref b2, .int (nI n2), .int (nI w2)])), (b1, .inl (cI, 40, .inl F2)), (b2, .inl (cI, 40, .inl G2))] := hD.sub [0, 1, 2, 3, 4, 5, 6] (by decide) rfl
    have hFc := va_free (wc := [(o, .inr (1, [.ref r, .ref t])), (r, .inr (0, [.ref a1, .ref a2, .int (nI n), .int (nI w)])), (a1, .inl (cI, 40, .inl F)), (a2, .inl (cI, 40, .inl G)), (t, .inr (0, [.ref b1, .ref b2, .int (nI n2), .int (nI w2)])), (b1, .inl (cI, 40, .inl F2)), (b2, .inl (cI, 40, .inl G2))]) hD hS hA [0, 1, 2, 3, 4, 5, 6] rfl
    refine pq_l (va_runV (rest := []) CF (m_X1_digest l D cI o r t a1 a2 b1 b2 S n2 w2 F2 G2  H.size) (cwV 0 hts gL_law_X1_digest rfl rfl rfl k_X1_digest ⟨Nat.le_of_ble_eq_true rfl, Nat.le_of_ble_eq_true rfl⟩) (mv_pre hKc hPc hDc rfl rfl rfl) rfl rfl hl.1 rfl (lv_room (Nat.le_of_ble_eq_true rfl)) dL_law_882 ⟨by show _ ≤ 600172; omega, by show _ ≤ 7300668; omega⟩) hS hFc (fun r1 H locs hB hk1 hS => ?_)
    obtain ⟨rfl, n3, w3, F3, G3, hP1⟩ := hB
    obtain ⟨hP, hD⟩ := jn (wb := [(o, .inr (1, [.ref r, .ref t])), (r, .inr (0, [.ref a1, .ref a2, .int (nI n), .int (nI w)])), (a1, .inl (cI, 40, .inl F)), (a2, .inl (cI, 40, .inl G)), (t, .inr (0, [.ref b1, .ref b2, .int (nI n3), .int (nI w3)])), (b1, .inl (cI, 40, .inl F3)), (b2, .inl (cI, 40, .inl G3)), (u, .inr (2, [.int (nI w), .ref c1, .ref c2, .ref c3])), (c1, .inl (cI, n, .inl C)), (c2, .inl (cI, n, .inl V)), (c3, .inl (cZ, n, .inl Z))]) (w1 := [(o, .inr (1, [.ref r, .ref t])), (r, .inr (0, [.ref a1, .ref a2, .int (nI n), .int (nI w)])), (a1, .inl (cI, 40, .inl F)), (a2, .inl (cI, 40, .inl G)), (t, .inr (0, [.ref b1, .ref b2, .int (nI n3), .int (nI w3)])), (b1, .inl (cI, 40, .inl F3)), (b2, .inl (cI, 40, .inl G3))]) hP hD [0, 1, 2, 3, 4, 5, 6] [7, 8, 9, 10] rfl rfl rfl rfl 11 rfl (by decide) (by decide) hk1 hP1
    refine lv_lload hx hb dL_law_885 (lv_at hl 5 rfl) ?_
    refine lw_lcmp hx hb rfl dL_law_887 ?_
    refine lv_if_eq (tgt := 893) hx hb dL_law_888 (by decide) (fun c888 => ?_) (fun c888 => ?_)
    · skip
      refine w_widen (k := kc + 20) (n := ks + 300) (by omega) (by omega) ?_
      exact hk (3 + j667) j679 (by omega) (by omega) (by omega) _ _ _ _ _ _ _ _ _ _ _ _ _ _ _ S S2 hP hD hS (lv_sub hl [0, 1, 2, 3, 4, 6, 7, 8, 9] rfl)
    · skip
      exact absurd rfl c888
  have M810 : ∀ (n2 w2 : Nat) (F2 G2 : Nat → Int32), ∀ (H : Heap) (locs : List Loc), va_P D vwCl [(o, .inr (1, [.ref r, .ref t])), (r, .inr (0, [.ref a1, .ref a2, .int (nI n), .int (nI w)])), (a1, .inl (cI, 40, .inl F)), (a2, .inl (cI, 40, .inl G)), (t, .inr (0, [.ref b1, .ref b2, .int (nI n2), .int (nI w2)])), (b1, .inl (cI, 40, .inl F2)), (b2, .inl (cI, 40, .inl G2)), (u, .inr (2, [.int (nI w), .ref c1, .ref c2, .ref c3])), (c1, .inl (cI, n, .inl C)), (c2, .inl (cI, n, .inl V)), (c3, .inl (cZ, n, .inl Z))] H → va_D A [(o, .inr (1, [.ref r, .ref t])), (r, .inr (0, [.ref a1, .ref a2, .int (nI n), .int (nI w)])), (a1, .inl (cI, 40, .inl F)), (a2, .inl (cI, 40, .inl G)), (t, .inr (0, [.ref b1, .ref b2, .int (nI n2), .int (nI w2)])), (b1, .inl (cI, 40, .inl F2)), (b2, .inl (cI, 40, .inl G2)), (u, .inr (2, [.int (nI w), .ref c1, .ref c2, .ref c3])), (c1, .inl (cI, n, .inl C)), (c2, .inl (cI, n, .inl V)), (c3, .inl (cZ, n, .inl Z))] → va_S A s.heap H locs → ∀ (ls : Array Slot), lv_has ls 30 [(0, .ref b), (1, .ref o), (2, .ref u), (3, .int (nI i)), (4, .int x), (5, .long (DG n w f g)), (7, .int (nI n)), (17, .int (nI (3 + j667))), (18, .int (nI j679)), (19, .int (LW n f g (3 + j667) j679)), (22, .int (nI j716)), (23, .int (fh n w f g j716))] → W p l e room_1 s m #[.ref b] below meth c H locs (kc + 12) (ks + 210) Q (F0 m 810 ls []) := by
    intro n2 w2 F2 G2  H locs hP hD hS ls hl
    refine lv_iload hx hb dL_law_810 (lv_at hl 11 rfl) ?_
    refine lv_if_lt (tgt := 881) hx hb dL_law_812 (by decide) (fun c812 => ?_) (fun c812 => ?_)
    · skip
      refine w_widen (k := kc + 16) (n := ks + 240) (by omega) (by omega) ?_
      exact M881 n2 w2 F2 G2 _ _ hP hD hS _ (lv_sub hl [0, 1, 2, 3, 4, 5, 6, 7, 8, 9] rfl)
    · skip
      obtain ⟨wv, hw3, hw40, ewv, hl0, hl1, hl2⟩ := fh_ok c812
      rw [ewv] at hl
      refine lv_aload_n hx hb dL_law_815 rfl (lv_at hl 1 rfl) ?_
      refine lv_iload hx hb dL_law_816 (lv_at hl 11 rfl) ?_
      refine lv_aload_n hx hb dL_law_818 rfl (lv_at hl 1 rfl) ?_
      refine pv_i CF (m_X1_way l D cI o r t a1 a2 b1 b2 S n2 w2 F2 G2 ) (cwV 0 hts gL_law_X1_way rfl rfl rfl k_X1_way ⟨Nat.le_of_ble_eq_true rfl, Nat.le_of_ble_eq_true rfl⟩) hK1 (hP.sub [0, 1, 2, 3, 4, 5, 6] rfl) rfl rfl rfl rfl hl.1 rfl (Nat.le_of_ble_eq_true rfl) dL_law_819 ⟨by show _ ≤ 600172; omega, by show _ ≤ 7300668; omega⟩ ?_
      have hPc : va_P D vwCl [(o, .inr (1, [.ref r, .ref t])), (r, .inr (0, [.ref a1, .ref a2, .int (nI n), .int (nI w)])), (a1, .inl (cI, 40, .inl F)), (a2, .inl (cI, 40, .inl G)), (t, .inr (0, [.ref b1, .ref b2, .int (nI n2), .int (nI w2)])), (b1, .inl (cI, 40, .inl F2)), (b2, .inl (cI, 40, .inl G2))] H := hP.sub [0, 1, 2, 3, 4, 5, 6] rfl
      have hDc : va_D A [(o, .inr (1, [.ref r, .ref t])), (r, .inr (0, [.ref a1, .ref a2, .int (nI n), .int (nI w)])), (a1, .inl (cI, 40, .inl F)), (a2, .inl (cI, 40, .inl G)), (t, .inr (0, [.ref b1, .ref b2, .int (nI n2), .int (nI w2)])), (b1, .inl (cI, 40, .inl F2)), (b2, .inl (cI, 40, .inl G2))] := hD.sub [0, 1, 2, 3, 4, 5, 6] (by decide) rfl
      have hFc := va_free (wc := [(o, .inr (1, [.ref r, .ref t])), (r, .inr (0, [.ref a1, .ref a2, .int (nI n), .int (nI w)])), (a1, .inl (cI, 40, .inl F)), (a2, .inl (cI, 40, .inl G)), (t, .inr (0, [.ref b1, .ref b2, .int (nI n2), .int (nI w2)])), (b1, .inl (cI, 40, .inl F2)), (b2, .inl (cI, 40, .inl G2))]) hD hS hA [0, 1, 2, 3, 4, 5, 6] rfl
      refine xn_m (vx_runV (rest := []) CF (m_X1_looksWith l hlt D cI o r t a1 a2 b1 b2 S n2 w2 F2 G2 (nI wv) (nI w) H.size) (cwV 2 hts gL_law_X1_looksWith rfl rfl rfl k_X1_looksWith ⟨Nat.le_of_ble_eq_true rfl, Nat.le_of_ble_eq_true rfl⟩) (pxm_pre hK1 hPc hDc hX (hZ.kept hS.2.1) hFc rfl rfl rfl) rfl rfl hl.1 rfl (lv_room (Nat.le_of_ble_eq_true rfl)) dL_law_822 ⟨by show _ ≤ 600172; omega, by show _ ≤ 7300668; omega⟩) hS hFc (fun E st9 t9 h9 => h9.1.2 ⟨⟨wv, by omega, by omega, rfl⟩, ⟨w, by omega, by omega, rfl⟩⟩) (fun r1 H locs hB hk1 hS => ?_)
      obtain ⟨N9, w9, h93, h940, e8, h9w, e9, er, n3, w3, F3, G3, hP1⟩ := hB
      rw [show N9 = wv from nI_inj (by omega) (by omega) e8.symm, show w9 = w from nI_inj (by omega) (by omega) e9.symm] at er
      obtain ⟨hP, hD⟩ := jn (wb := [(o, .inr (1, [.ref r, .ref t])), (r, .inr (0, [.ref a1, .ref a2, .int (nI n), .int (nI w)])), (a1, .inl (cI, 40, .inl F)), (a2, .inl (cI, 40, .inl G)), (t, .inr (0, [.ref b1, .ref b2, .int (nI n3), .int (nI w3)])), (b1, .inl (cI, 40, .inl F3)), (b2, .inl (cI, 40, .inl G3)), (u, .inr (2, [.int (nI w), .ref c1, .ref c2, .ref c3])), (c1, .inl (cI, n, .inl C)), (c2, .inl (cI, n, .inl V)), (c3, .inl (cZ, n, .inl Z))]) (w1 := [(o, .inr (1, [.ref r, .ref t])), (r, .inr (0, [.ref a1, .ref a2, .int (nI n), .int (nI w)])), (a1, .inl (cI, 40, .inl F)), (a2, .inl (cI, 40, .inl G)), (t, .inr (0, [.ref b1, .ref b2, .int (nI n3), .int (nI w3)])), (b1, .inl (cI, 40, .inl F3)), (b2, .inl (cI, 40, .inl G3))]) hP hD [0, 1, 2, 3, 4, 5, 6] [7, 8, 9, 10] rfl rfl rfl rfl 11 rfl (by decide) (by decide) hk1 hP1
      refine tp_i (y := (LW n f g wv w)) er ?_
      refine lv_iload hx hb dL_law_825 (lv_at hl 10 rfl) ?_
      refine lv_icmp_gt (tgt := 891) hx hb dL_law_827 (by decide) (fun c827 => ?_) (fun c827 => ?_)
      · skip
        exact absurd c827 (nlt_of_le hl1)
      · skip
        refine lv_aload_n hx hb dL_law_830 rfl (lv_at hl 1 rfl) ?_
        refine lv_iload hx hb dL_law_831 (lv_at hl 11 rfl) ?_
        refine lv_aload_n hx hb dL_law_833 rfl (lv_at hl 1 rfl) ?_
        refine pv_i CF (m_X1_way l D cI o r t a1 a2 b1 b2 S n3 w3 F3 G3 ) (cwV 0 hts gL_law_X1_way rfl rfl rfl k_X1_way ⟨Nat.le_of_ble_eq_true rfl, Nat.le_of_ble_eq_true rfl⟩) hK1 (hP.sub [0, 1, 2, 3, 4, 5, 6] rfl) rfl rfl rfl rfl hl.1 rfl (Nat.le_of_ble_eq_true rfl) dL_law_834 ⟨by show _ ≤ 600172; omega, by show _ ≤ 7300668; omega⟩ ?_
        have hPc : va_P D vwCl [(o, .inr (1, [.ref r, .ref t])), (r, .inr (0, [.ref a1, .ref a2, .int (nI n), .int (nI w)])), (a1, .inl (cI, 40, .inl F)), (a2, .inl (cI, 40, .inl G)), (t, .inr (0, [.ref b1, .ref b2, .int (nI n3), .int (nI w3)])), (b1, .inl (cI, 40, .inl F3)), (b2, .inl (cI, 40, .inl G3))] H := hP.sub [0, 1, 2, 3, 4, 5, 6] rfl
        have hDc : va_D A [(o, .inr (1, [.ref r, .ref t])), (r, .inr (0, [.ref a1, .ref a2, .int (nI n), .int (nI w)])), (a1, .inl (cI, 40, .inl F)), (a2, .inl (cI, 40, .inl G)), (t, .inr (0, [.ref b1, .ref b2, .int (nI n3), .int (nI w3)])), (b1, .inl (cI, 40, .inl F3)), (b2, .inl (cI, 40, .inl G3))] := hD.sub [0, 1, 2, 3, 4, 5, 6] (by decide) rfl
        have hFc := va_free (wc := [(o, .inr (1, [.ref r, .ref t])), (r, .inr (0, [.ref a1, .ref a2, .int (nI n), .int (nI w)])), (a1, .inl (cI, 40, .inl F)), (a2, .inl (cI, 40, .inl G)), (t, .inr (0, [.ref b1, .ref b2, .int (nI n3), .int (nI w3)])), (b1, .inl (cI, 40, .inl F3)), (b2, .inl (cI, 40, .inl G3))]) hD hS hA [0, 1, 2, 3, 4, 5, 6] rfl
        refine xn_m (vx_runV (rest := []) CF (m_X1_looksWith l hlt D cI o r t a1 a2 b1 b2 S n3 w3 F3 G3 (nI wv) (nI w) H.size) (cwV 2 hts gL_law_X1_looksWith rfl rfl rfl k_X1_looksWith ⟨Nat.le_of_ble_eq_true rfl, Nat.le_of_ble_eq_true rfl⟩) (pxm_pre hK1 hPc hDc hX (hZ.kept hS.2.1) hFc rfl rfl rfl) rfl rfl hl.1 rfl (lv_room (Nat.le_of_ble_eq_true rfl)) dL_law_837 ⟨by show _ ≤ 600172; omega, by show _ ≤ 7300668; omega⟩) hS hFc (fun E st9 t9 h9 => h9.1.2 ⟨⟨wv, by omega, by omega, rfl⟩, ⟨w, by omega, by omega, rfl⟩⟩) (fun r1 H locs hB hk1 hS => ?_)
        obtain ⟨N9, w9, h93, h940, e8, h9w, e9, er, n3, w3, F3, G3, hP1⟩ := hB
        rw [show N9 = wv from nI_inj (by omega) (by omega) e8.symm, show w9 = w from nI_inj (by omega) (by omega) e9.symm] at er
        obtain ⟨hP, hD⟩ := jn (wb := [(o, .inr (1, [.ref r, .ref t])), (r, .inr (0, [.ref a1, .ref a2, .int (nI n), .int (nI w)])), (a1, .inl (cI, 40, .inl F)), (a2, .inl (cI, 40, .inl G)), (t, .inr (0, [.ref b1, .ref b2, .int (nI n3), .int (nI w3)])), (b1, .inl (cI, 40, .inl F3)), (b2, .inl (cI, 40, .inl G3)), (u, .inr (2, [.int (nI w), .ref c1, .ref c2, .ref c3])), (c1, .inl (cI, n, .inl C)), (c2, .inl (cI, n, .inl V)), (c3, .inl (cZ, n, .inl Z))]) (w1 := [(o, .inr (1, [.ref r, .ref t])), (r, .inr (0, [.ref a1, .ref a2, .int (nI n), .int (nI w)])), (a1, .inl (cI, 40, .inl F)), (a2, .inl (cI, 40, .inl G)), (t, .inr (0, [.ref b1, .ref b2, .int (nI n3), .int (nI w3)])), (b1, .inl (cI, 40, .inl F3)), (b2, .inl (cI, 40, .inl G3))]) hP hD [0, 1, 2, 3, 4, 5, 6] [7, 8, 9, 10] rfl rfl rfl rfl 11 rfl (by decide) (by decide) hk1 hP1
        refine tp_i (y := (LW n f g wv w)) er ?_
        refine lv_if_lt (tgt := 891) hx hb dL_law_840 (by decide) (fun c840 => ?_) (fun c840 => ?_)
        · skip
          exact absurd c840 (not_lt0 hl0)
        · skip
          refine lv_iload hx hb dL_law_843 (lv_at hl 11 rfl) ?_
          refine lv_iconst (v := nI 3) hx hb dL_law_845 (by decide) ?_
          refine bn_le (tgt := 881) hx hb dL_law_846 (by decide) (by omega) (by omega) (fun c846 => ?_) (fun c846 => ?_)
          · skip
            refine w_widen (k := kc + 16) (n := ks + 240) (by omega) (by omega) ?_
            exact M881 n3 w3 F3 G3 _ _ hP hD hS _ (lv_sub hl [0, 1, 2, 3, 4, 5, 6, 7, 8, 9] rfl)
          · skip
            refine lv_aload_n hx hb dL_law_849 rfl (lv_at hl 1 rfl) ?_
            refine lv_iload hx hb dL_law_850 (lv_at hl 11 rfl) ?_
            refine lv_iconst (v := nI 1) hx hb dL_law_852 (by decide) ?_
            refine an_sub hx hb (by omega) dL_law_853 ?_
            refine lv_aload_n hx hb dL_law_854 rfl (lv_at hl 1 rfl) ?_
            refine pv_i CF (m_X1_way l D cI o r t a1 a2 b1 b2 S n3 w3 F3 G3 ) (cwV 0 hts gL_law_X1_way rfl rfl rfl k_X1_way ⟨Nat.le_of_ble_eq_true rfl, Nat.le_of_ble_eq_true rfl⟩) hK1 (hP.sub [0, 1, 2, 3, 4, 5, 6] rfl) rfl rfl rfl rfl hl.1 rfl (Nat.le_of_ble_eq_true rfl) dL_law_855 ⟨by show _ ≤ 600172; omega, by show _ ≤ 7300668; omega⟩ ?_
            have hPc : va_P D vwCl [(o, .inr (1, [.ref r, .ref t])), (r, .inr (0, [.ref a1, .ref a2, .int (nI n), .int (nI w)])), (a1, .inl (cI, 40, .inl F)), (a2, .inl (cI, 40, .inl G)), (t, .inr (0, [.ref b1, .ref b2, .int (nI n3), .int (nI w3)])), (b1, .inl (cI, 40, .inl F3)), (b2, .inl (cI, 40, .inl G3))] H := hP.sub [0, 1, 2, 3, 4, 5, 6] rfl
            have hDc : va_D A [(o, .inr (1, [.ref r, .ref t])), (r, .inr (0, [.ref a1, .ref a2, .int (nI n), .int (nI w)])), (a1, .inl (cI, 40, .inl F)), (a2, .inl (cI, 40, .inl G)), (t, .inr (0, [.ref b1, .ref b2, .int (nI n3), .int (nI w3)])), (b1, .inl (cI, 40, .inl F3)), (b2, .inl (cI, 40, .inl G3))] := hD.sub [0, 1, 2, 3, 4, 5, 6] (by decide) rfl
            have hFc := va_free (wc := [(o, .inr (1, [.ref r, .ref t])), (r, .inr (0, [.ref a1, .ref a2, .int (nI n), .int (nI w)])), (a1, .inl (cI, 40, .inl F)), (a2, .inl (cI, 40, .inl G)), (t, .inr (0, [.ref b1, .ref b2, .int (nI n3), .int (nI w3)])), (b1, .inl (cI, 40, .inl F3)), (b2, .inl (cI, 40, .inl G3))]) hD hS hA [0, 1, 2, 3, 4, 5, 6] rfl
            refine xn_m (vx_runV (rest := []) CF (m_X1_looksWith l hlt D cI o r t a1 a2 b1 b2 S n3 w3 F3 G3 (nI (wv - 1)) (nI w) H.size) (cwV 2 hts gL_law_X1_looksWith rfl rfl rfl k_X1_looksWith ⟨Nat.le_of_ble_eq_true rfl, Nat.le_of_ble_eq_true rfl⟩) (pxm_pre hK1 hPc hDc hX (hZ.kept hS.2.1) hFc rfl rfl rfl) rfl rfl hl.1 rfl (lv_room (Nat.le_of_ble_eq_true rfl)) dL_law_858 ⟨by show _ ≤ 600172; omega, by show _ ≤ 7300668; omega⟩) hS hFc (fun E st9 t9 h9 => h9.1.2 ⟨⟨(wv - 1), by omega, by omega, rfl⟩, ⟨w, by omega, by omega, rfl⟩⟩) (fun r1 H locs hB hk1 hS => ?_)
            obtain ⟨N9, w9, h93, h940, e8, h9w, e9, er, n3, w3, F3, G3, hP1⟩ := hB
            rw [show N9 = (wv - 1) from nI_inj (by omega) (by omega) e8.symm, show w9 = w from nI_inj (by omega) (by omega) e9.symm] at er
            obtain ⟨hP, hD⟩ := jn (wb := [(o, .inr (1, [.ref r, .ref t])), (r, .inr (0, [.ref a1, .ref a2, .int (nI n), .int (nI w)])), (a1, .inl (cI, 40, .inl F)), (a2, .inl (cI, 40, .inl G)), (t, .inr (0, [.ref b1, .ref b2, .int (nI n3), .int (nI w3)])), (b1, .inl (cI, 40, .inl F3)), (b2, .inl (cI, 40, .inl G3)), (u, .inr (2, [.int (nI w), .ref c1, .ref c2, .ref c3])), (c1, .inl (cI, n, .inl C)), (c2, .inl (cI, n, .inl V)), (c3, .inl (cZ, n, .inl Z))]) (w1 := [(o, .inr (1, [.ref r, .ref t])), (r, .inr (0, [.ref a1, .ref a2, .int (nI n), .int (nI w)])), (a1, .inl (cI, 40, .inl F)), (a2, .inl (cI, 40, .inl G)), (t, .inr (0, [.ref b1, .ref b2, .int (nI n3), .int (nI w3)])), (b1, .inl (cI, 40, .inl F3)), (b2, .inl (cI, 40, .inl G3))]) hP hD [0, 1, 2, 3, 4, 5, 6] [7, 8, 9, 10] rfl rfl rfl rfl 11 rfl (by decide) (by decide) hk1 hP1
            refine tp_i (y := (LW n f g (wv - 1) w)) er ?_
            refine lv_if_lt (tgt := 881) hx hb dL_law_861 (by decide) (fun c861 => ?_) (fun c861 => ?_)
            · skip
              refine w_widen (k := kc + 16) (n := ks + 240) (by omega) (by omega) ?_
              exact M881 n3 w3 F3 G3 _ _ hP hD hS _ (lv_sub hl [0, 1, 2, 3, 4, 5, 6, 7, 8, 9] rfl)
            · skip
              refine lv_aload_n hx hb dL_law_864 rfl (lv_at hl 1 rfl) ?_
              refine lv_iload hx hb dL_law_865 (lv_at hl 11 rfl) ?_
              refine lv_iconst (v := nI 1) hx hb dL_law_867 (by decide) ?_
              refine an_sub hx hb (by omega) dL_law_868 ?_
              refine lv_aload_n hx hb dL_law_869 rfl (lv_at hl 1 rfl) ?_
              refine pv_i CF (m_X1_way l D cI o r t a1 a2 b1 b2 S n3 w3 F3 G3 ) (cwV 0 hts gL_law_X1_way rfl rfl rfl k_X1_way ⟨Nat.le_of_ble_eq_true rfl, Nat.le_of_ble_eq_true rfl⟩) hK1 (hP.sub [0, 1, 2, 3, 4, 5, 6] rfl) rfl rfl rfl rfl hl.1 rfl (Nat.le_of_ble_eq_true rfl) dL_law_870 ⟨by show _ ≤ 600172; omega, by show _ ≤ 7300668; omega⟩ ?_
              have hPc : va_P D vwCl [(o, .inr (1, [.ref r, .ref t])), (r, .inr (0, [.ref a1, .ref a2, .int (nI n), .int (nI w)])), (a1, .inl (cI, 40, .inl F)), (a2, .inl (cI, 40, .inl G)), (t, .inr (0, [.ref b1, .ref b2, .int (nI n3), .int (nI w3)])), (b1, .inl (cI, 40, .inl F3)), (b2, .inl (cI, 40, .inl G3))] H := hP.sub [0, 1, 2, 3, 4, 5, 6] rfl
              have hDc : va_D A [(o, .inr (1, [.ref r, .ref t])), (r, .inr (0, [.ref a1, .ref a2, .int (nI n), .int (nI w)])), (a1, .inl (cI, 40, .inl F)), (a2, .inl (cI, 40, .inl G)), (t, .inr (0, [.ref b1, .ref b2, .int (nI n3), .int (nI w3)])), (b1, .inl (cI, 40, .inl F3)), (b2, .inl (cI, 40, .inl G3))] := hD.sub [0, 1, 2, 3, 4, 5, 6] (by decide) rfl
              have hFc := va_free (wc := [(o, .inr (1, [.ref r, .ref t])), (r, .inr (0, [.ref a1, .ref a2, .int (nI n), .int (nI w)])), (a1, .inl (cI, 40, .inl F)), (a2, .inl (cI, 40, .inl G)), (t, .inr (0, [.ref b1, .ref b2, .int (nI n3), .int (nI w3)])), (b1, .inl (cI, 40, .inl F3)), (b2, .inl (cI, 40, .inl G3))]) hD hS hA [0, 1, 2, 3, 4, 5, 6] rfl
              refine xn_m (vx_runV (rest := []) CF (m_X1_looksWith l hlt D cI o r t a1 a2 b1 b2 S n3 w3 F3 G3 (nI (wv - 1)) (nI w) H.size) (cwV 2 hts gL_law_X1_looksWith rfl rfl rfl k_X1_looksWith ⟨Nat.le_of_ble_eq_true rfl, Nat.le_of_ble_eq_true rfl⟩) (pxm_pre hK1 hPc hDc hX (hZ.kept hS.2.1) hFc rfl rfl rfl) rfl rfl hl.1 rfl (lv_room (Nat.le_of_ble_eq_true rfl)) dL_law_873 ⟨by show _ ≤ 600172; omega, by show _ ≤ 7300668; omega⟩) hS hFc (fun E st9 t9 h9 => h9.1.2 ⟨⟨(wv - 1), by omega, by omega, rfl⟩, ⟨w, by omega, by omega, rfl⟩⟩) (fun r1 H locs hB hk1 hS => ?_)
              obtain ⟨N9, w9, h93, h940, e8, h9w, e9, er, n3, w3, F3, G3, hP1⟩ := hB
              rw [show N9 = (wv - 1) from nI_inj (by omega) (by omega) e8.symm, show w9 = w from nI_inj (by omega) (by omega) e9.symm] at er
              obtain ⟨hP, hD⟩ := jn (wb := [(o, .inr (1, [.ref r, .ref t])), (r, .inr (0, [.ref a1, .ref a2, .int (nI n), .int (nI w)])), (a1, .inl (cI, 40, .inl F)), (a2, .inl (cI, 40, .inl G)), (t, .inr (0, [.ref b1, .ref b2, .int (nI n3), .int (nI w3)])), (b1, .inl (cI, 40, .inl F3)), (b2, .inl (cI, 40, .inl G3)), (u, .inr (2, [.int (nI w), .ref c1, .ref c2, .ref c3])), (c1, .inl (cI, n, .inl C)), (c2, .inl (cI, n, .inl V)), (c3, .inl (cZ, n, .inl Z))]) (w1 := [(o, .inr (1, [.ref r, .ref t])), (r, .inr (0, [.ref a1, .ref a2, .int (nI n), .int (nI w)])), (a1, .inl (cI, 40, .inl F)), (a2, .inl (cI, 40, .inl G)), (t, .inr (0, [.ref b1, .ref b2, .int (nI n3), .int (nI w3)])), (b1, .inl (cI, 40, .inl F3)), (b2, .inl (cI, 40, .inl G3))]) hP hD [0, 1, 2, 3, 4, 5, 6] [7, 8, 9, 10] rfl rfl rfl rfl 11 rfl (by decide) (by decide) hk1 hP1
              refine tp_i (y := (LW n f g (wv - 1) w)) er ?_
              refine lv_iload hx hb dL_law_876 (lv_at hl 10 rfl) ?_
              refine lv_icmp_le (tgt := 891) hx hb dL_law_878 (by decide) (fun c878 => ?_) (fun c878 => ?_)
              · skip
                exact absurd ⟨ge0 c861, c878⟩ (hl2 (by omega))
              · skip
                refine w_widen (k := kc + 16) (n := ks + 240) (by omega) (by omega) ?_
                exact M881 n3 w3 F3 G3 _ _ hP hD hS _ (lv_sub hl [0, 1, 2, 3, 4, 5, 6, 7, 8, 9] rfl)
  have M752 : ∀ (n2 w2 : Nat) (F2 G2 : Nat → Int32), ∀ (H : Heap) (locs : List Loc), va_P D vwCl [(o, .inr (1, [.ref r, .ref t])), (r, .inr (0, [.ref a1, .ref a2, .int (nI n), .int (nI w)])), (a1, .inl (cI, 40, .inl F)), (a2, .inl (cI, 40, .inl G)), (t, .inr (0, [.ref b1, .ref b2, .int (nI n2), .int (nI w2)])), (b1, .inl (cI, 40, .inl F2)), (b2, .inl (cI, 40, .inl G2)), (u, .inr (2, [.int (nI w), .ref c1, .ref c2, .ref c3])), (c1, .inl (cI, n, .inl C)), (c2, .inl (cI, n, .inl V)), (c3, .inl (cZ, n, .inl Z))] H → va_D A [(o, .inr (1, [.ref r, .ref t])), (r, .inr (0, [.ref a1, .ref a2, .int (nI n), .int (nI w)])), (a1, .inl (cI, 40, .inl F)), (a2, .inl (cI, 40, .inl G)), (t, .inr (0, [.ref b1, .ref b2, .int (nI n2), .int (nI w2)])), (b1, .inl (cI, 40, .inl F2)), (b2, .inl (cI, 40, .inl G2)), (u, .inr (2, [.int (nI w), .ref c1, .ref c2, .ref c3])), (c1, .inl (cI, n, .inl C)), (c2, .inl (cI, n, .inl V)), (c3, .inl (cZ, n, .inl Z))] → va_S A s.heap H locs → ∀ (ls : Array Slot), lv_has ls 30 [(0, .ref b), (1, .ref o), (2, .ref u), (3, .int (nI i)), (4, .int x), (5, .long (DG n w f g)), (7, .int (nI n)), (17, .int (nI (3 + j667))), (18, .int (nI j679)), (19, .int (LW n f g (3 + j667) j679)), (20, .int ((bst n f g).1)), (21, .int (LW n f g n j679)), (22, .int (nI j716)), (23, .int (fh n w f g j716))] → W p l e room_1 s m #[.ref b] below meth c H locs (kc + 3) (ks + 18) Q (F0 m 752 ls []) := by
    intro n2 w2 F2 G2  H locs hP hD hS ls hl
    refine lv_iload hx hb dL_law_752 (lv_at hl 9 rfl) ?_
    refine lv_aload_n hx hb dL_law_754 rfl (lv_at hl 2 rfl) ?_
    refine lv_iload hx hb dL_law_755 (lv_at hl 7 rfl) ?_
    refine lv_iload hx hb dL_law_757 (lv_at hl 8 rfl) ?_
    have hPc : va_P D vwCl [(u, .inr (2, [.int (nI w), .ref c1, .ref c2, .ref c3])), (c1, .inl (cI, n, .inl C)), (c2, .inl (cI, n, .inl V)), (c3, .inl (cZ, n, .inl Z))] H := hP.sub [7, 8, 9, 10] rfl
    have hDc : va_D A [(u, .inr (2, [.int (nI w), .ref c1, .ref c2, .ref c3])), (c1, .inl (cI, n, .inl C)), (c2, .inl (cI, n, .inl V)), (c3, .inl (cZ, n, .inl Z))] := hD.sub [7, 8, 9, 10] (by decide) rfl
    have hFc := va_free (wc := [(u, .inr (2, [.int (nI w), .ref c1, .ref c2, .ref c3])), (c1, .inl (cI, n, .inl C)), (c2, .inl (cI, n, .inl V)), (c3, .inl (cZ, n, .inl Z))]) hD hS hA [7, 8, 9, 10] rfl
    refine pq_i (va_runV (rest := [.int (LW n f g (3 + j667) j679)]) CF (m_X2_looksWith l D cI cZ u c1 c2 c3 S2 hd (3 + j667) j679 (by omega) (by omega) (by omega) H.size) (cwV 2 hts gL_law_X2_looksWith rfl rfl rfl k_X2_looksWith ⟨Nat.le_of_ble_eq_true rfl, Nat.le_of_ble_eq_true rfl⟩) (mv_pre hK hPc hDc rfl rfl rfl) rfl rfl hl.1 rfl (lv_room (Nat.le_of_ble_eq_true rfl)) dL_law_759 ⟨by show _ ≤ 600172; omega, by show _ ≤ 7300668; omega⟩) hS hFc (fun r1 H locs hB hk1 hS => ?_)
    obtain ⟨rfl, hP1⟩ := hB
    obtain ⟨hP, hD⟩ := jn (wb := [(o, .inr (1, [.ref r, .ref t])), (r, .inr (0, [.ref a1, .ref a2, .int (nI n), .int (nI w)])), (a1, .inl (cI, 40, .inl F)), (a2, .inl (cI, 40, .inl G)), (t, .inr (0, [.ref b1, .ref b2, .int (nI n2), .int (nI w2)])), (b1, .inl (cI, 40, .inl F2)), (b2, .inl (cI, 40, .inl G2)), (u, .inr (2, [.int (nI w), .ref c1, .ref c2, .ref c3])), (c1, .inl (cI, n, .inl C)), (c2, .inl (cI, n, .inl V)), (c3, .inl (cZ, n, .inl Z))]) (w1 := [(u, .inr (2, [.int (nI w), .ref c1, .ref c2, .ref c3])), (c1, .inl (cI, n, .inl C)), (c2, .inl (cI, n, .inl V)), (c3, .inl (cZ, n, .inl Z))]) hP hD [7, 8, 9, 10] [0, 1, 2, 3, 4, 5, 6] rfl rfl rfl rfl 11 rfl (by decide) (by decide) hk1 hP1
    refine lv_icmp_ne (tgt := 808) hx hb dL_law_762 (by decide) (fun c762 => ?_) (fun c762 => ?_)
    · skip
      exact absurd rfl c762
    · skip
      refine lv_iload hx hb dL_law_765 (lv_at hl 11 rfl) ?_
      refine lv_if_lt (tgt := 810) hx hb dL_law_767 (by decide) (fun c767 => ?_) (fun c767 => ?_)
      · skip
        refine w_widen (k := kc + 12) (n := ks + 210) (by omega) (by omega) ?_
        exact M810 n2 w2 F2 G2 _ _ hP hD hS _ (lv_sub hl [0, 1, 2, 3, 4, 5, 6, 7, 8, 9, 12, 13] rfl)
      · skip
        obtain ⟨bw, hbw, ebw, hb0, hb1, hb2⟩ := bst_ok (show j679 ≤ 2 by omega) (ge0 c767)
        rw [ebw] at hl
        refine lv_iload hx hb dL_law_770 (lv_at hl 10 rfl) ?_
        refine bz_lt (tgt := 808) hx hb dL_law_772 (by decide) (by omega) ?_
        refine lv_aload_n hx hb dL_law_775 rfl (lv_at hl 1 rfl) ?_
        refine lv_iload hx hb dL_law_776 (lv_at hl 6 rfl) ?_
        refine lv_iload hx hb dL_law_778 (lv_at hl 10 rfl) ?_
        have hPc : va_P D vwCl [(o, .inr (1, [.ref r, .ref t])), (r, .inr (0, [.ref a1, .ref a2, .int (nI n), .int (nI w)])), (a1, .inl (cI, 40, .inl F)), (a2, .inl (cI, 40, .inl G)), (t, .inr (0, [.ref b1, .ref b2, .int (nI n2), .int (nI w2)])), (b1, .inl (cI, 40, .inl F2)), (b2, .inl (cI, 40, .inl G2))] H := hP.sub [0, 1, 2, 3, 4, 5, 6] rfl
        have hDc : va_D A [(o, .inr (1, [.ref r, .ref t])), (r, .inr (0, [.ref a1, .ref a2, .int (nI n), .int (nI w)])), (a1, .inl (cI, 40, .inl F)), (a2, .inl (cI, 40, .inl G)), (t, .inr (0, [.ref b1, .ref b2, .int (nI n2), .int (nI w2)])), (b1, .inl (cI, 40, .inl F2)), (b2, .inl (cI, 40, .inl G2))] := hD.sub [0, 1, 2, 3, 4, 5, 6] (by decide) rfl
        have hFc := va_free (wc := [(o, .inr (1, [.ref r, .ref t])), (r, .inr (0, [.ref a1, .ref a2, .int (nI n), .int (nI w)])), (a1, .inl (cI, 40, .inl F)), (a2, .inl (cI, 40, .inl G)), (t, .inr (0, [.ref b1, .ref b2, .int (nI n2), .int (nI w2)])), (b1, .inl (cI, 40, .inl F2)), (b2, .inl (cI, 40, .inl G2))]) hD hS hA [0, 1, 2, 3, 4, 5, 6] rfl
        refine xn_m (vx_runV (rest := []) CF (m_X1_looksWith l hlt D cI o r t a1 a2 b1 b2 S n2 w2 F2 G2 (nI n) (nI bw) H.size) (cwV 2 hts gL_law_X1_looksWith rfl rfl rfl k_X1_looksWith ⟨Nat.le_of_ble_eq_true rfl, Nat.le_of_ble_eq_true rfl⟩) (pxm_pre hK1 hPc hDc hX (hZ.kept hS.2.1) hFc rfl rfl rfl) rfl rfl hl.1 rfl (lv_room (Nat.le_of_ble_eq_true rfl)) dL_law_780 ⟨by show _ ≤ 600172; omega, by show _ ≤ 7300668; omega⟩) hS hFc (fun E st9 t9 h9 => h9.1.2 ⟨⟨n, by omega, by omega, rfl⟩, ⟨bw, by omega, by omega, rfl⟩⟩) (fun r1 H locs hB hk1 hS => ?_)
        obtain ⟨N9, w9, h93, h940, e8, h9w, e9, er, n3, w3, F3, G3, hP1⟩ := hB
        rw [show N9 = n from nI_inj (by omega) (by omega) e8.symm, show w9 = bw from nI_inj (by omega) (by omega) e9.symm] at er
        obtain ⟨hP, hD⟩ := jn (wb := [(o, .inr (1, [.ref r, .ref t])), (r, .inr (0, [.ref a1, .ref a2, .int (nI n), .int (nI w)])), (a1, .inl (cI, 40, .inl F)), (a2, .inl (cI, 40, .inl G)), (t, .inr (0, [.ref b1, .ref b2, .int (nI n3), .int (nI w3)])), (b1, .inl (cI, 40, .inl F3)), (b2, .inl (cI, 40, .inl G3)), (u, .inr (2, [.int (nI w), .ref c1, .ref c2, .ref c3])), (c1, .inl (cI, n, .inl C)), (c2, .inl (cI, n, .inl V)), (c3, .inl (cZ, n, .inl Z))]) (w1 := [(o, .inr (1, [.ref r, .ref t])), (r, .inr (0, [.ref a1, .ref a2, .int (nI n), .int (nI w)])), (a1, .inl (cI, 40, .inl F)), (a2, .inl (cI, 40, .inl G)), (t, .inr (0, [.ref b1, .ref b2, .int (nI n3), .int (nI w3)])), (b1, .inl (cI, 40, .inl F3)), (b2, .inl (cI, 40, .inl G3))]) hP hD [0, 1, 2, 3, 4, 5, 6] [7, 8, 9, 10] rfl rfl rfl rfl 11 rfl (by decide) (by decide) hk1 hP1
        refine tp_i (y := (LW n f g n bw)) er ?_
        refine lv_iload hx hb dL_law_783 (lv_at hl 11 rfl) ?_
        refine lv_icmp_gt (tgt := 808) hx hb dL_law_785 (by decide) (fun c785 => ?_) (fun c785 => ?_)
        · skip
          exact absurd c785 (nlt_of_le hb1)
        · skip
          refine lv_aload_n hx hb dL_law_788 rfl (lv_at hl 1 rfl) ?_
          refine lv_iload hx hb dL_law_789 (lv_at hl 6 rfl) ?_
          refine lv_iload hx hb dL_law_791 (lv_at hl 10 rfl) ?_
          have hPc : va_P D vwCl [(o, .inr (1, [.ref r, .ref t])), (r, .inr (0, [.ref a1, .ref a2, .int (nI n), .int (nI w)])), (a1, .inl (cI, 40, .inl F)), (a2, .inl (cI, 40, .inl G)), (t, .inr (0, [.ref b1, .ref b2, .int (nI n3), .int (nI w3)])), (b1, .inl (cI, 40, .inl F3)), (b2, .inl (cI, 40, .inl G3))] H := hP.sub [0, 1, 2, 3, 4, 5, 6] rfl
          have hDc : va_D A [(o, .inr (1, [.ref r, .ref t])), (r, .inr (0, [.ref a1, .ref a2, .int (nI n), .int (nI w)])), (a1, .inl (cI, 40, .inl F)), (a2, .inl (cI, 40, .inl G)), (t, .inr (0, [.ref b1, .ref b2, .int (nI n3), .int (nI w3)])), (b1, .inl (cI, 40, .inl F3)), (b2, .inl (cI, 40, .inl G3))] := hD.sub [0, 1, 2, 3, 4, 5, 6] (by decide) rfl
          have hFc := va_free (wc := [(o, .inr (1, [.ref r, .ref t])), (r, .inr (0, [.ref a1, .ref a2, .int (nI n), .int (nI w)])), (a1, .inl (cI, 40, .inl F)), (a2, .inl (cI, 40, .inl G)), (t, .inr (0, [.ref b1, .ref b2, .int (nI n3), .int (nI w3)])), (b1, .inl (cI, 40, .inl F3)), (b2, .inl (cI, 40, .inl G3))]) hD hS hA [0, 1, 2, 3, 4, 5, 6] rfl
          refine xn_m (vx_runV (rest := []) CF (m_X1_looksWith l hlt D cI o r t a1 a2 b1 b2 S n3 w3 F3 G3 (nI n) (nI bw) H.size) (cwV 2 hts gL_law_X1_looksWith rfl rfl rfl k_X1_looksWith ⟨Nat.le_of_ble_eq_true rfl, Nat.le_of_ble_eq_true rfl⟩) (pxm_pre hK1 hPc hDc hX (hZ.kept hS.2.1) hFc rfl rfl rfl) rfl rfl hl.1 rfl (lv_room (Nat.le_of_ble_eq_true rfl)) dL_law_793 ⟨by show _ ≤ 600172; omega, by show _ ≤ 7300668; omega⟩) hS hFc (fun E st9 t9 h9 => h9.1.2 ⟨⟨n, by omega, by omega, rfl⟩, ⟨bw, by omega, by omega, rfl⟩⟩) (fun r1 H locs hB hk1 hS => ?_)
          obtain ⟨N9, w9, h93, h940, e8, h9w, e9, er, n3, w3, F3, G3, hP1⟩ := hB
          rw [show N9 = n from nI_inj (by omega) (by omega) e8.symm, show w9 = bw from nI_inj (by omega) (by omega) e9.symm] at er
          obtain ⟨hP, hD⟩ := jn (wb := [(o, .inr (1, [.ref r, .ref t])), (r, .inr (0, [.ref a1, .ref a2, .int (nI n), .int (nI w)])), (a1, .inl (cI, 40, .inl F)), (a2, .inl (cI, 40, .inl G)), (t, .inr (0, [.ref b1, .ref b2, .int (nI n3), .int (nI w3)])), (b1, .inl (cI, 40, .inl F3)), (b2, .inl (cI, 40, .inl G3)), (u, .inr (2, [.int (nI w), .ref c1, .ref c2, .ref c3])), (c1, .inl (cI, n, .inl C)), (c2, .inl (cI, n, .inl V)), (c3, .inl (cZ, n, .inl Z))]) (w1 := [(o, .inr (1, [.ref r, .ref t])), (r, .inr (0, [.ref a1, .ref a2, .int (nI n), .int (nI w)])), (a1, .inl (cI, 40, .inl F)), (a2, .inl (cI, 40, .inl G)), (t, .inr (0, [.ref b1, .ref b2, .int (nI n3), .int (nI w3)])), (b1, .inl (cI, 40, .inl F3)), (b2, .inl (cI, 40, .inl G3))]) hP hD [0, 1, 2, 3, 4, 5, 6] [7, 8, 9, 10] rfl rfl rfl rfl 11 rfl (by decide) (by decide) hk1 hP1
          refine tp_i (y := (LW n f g n bw)) er ?_
          refine lv_iload hx hb dL_law_796 (lv_at hl 11 rfl) ?_
          refine lv_icmp_ne (tgt := 810) hx hb dL_law_798 (by decide) (fun c798 => ?_) (fun c798 => ?_)
          · skip
            refine w_widen (k := kc + 12) (n := ks + 210) (by omega) (by omega) ?_
            exact M810 n3 w3 F3 G3 _ _ hP hD hS _ (lv_sub hl [0, 1, 2, 3, 4, 5, 6, 7, 8, 9, 12, 13] rfl)
          · skip
            refine lv_iload hx hb dL_law_801 (lv_at hl 8 rfl) ?_
            refine lv_iload hx hb dL_law_803 (lv_at hl 10 rfl) ?_
            refine bn_ge (tgt := 810) hx hb dL_law_805 (by decide) (by omega) (by omega) (fun c805 => ?_) (fun c805 => ?_)
            · skip
              refine w_widen (k := kc + 12) (n := ks + 210) (by omega) (by omega) ?_
              exact M810 n3 w3 F3 G3 _ _ hP hD hS _ (lv_sub hl [0, 1, 2, 3, 4, 5, 6, 7, 8, 9, 12, 13] rfl)
            · skip
              exact absurd (hb2 c798) (by omega)
  refine lv_iload hx hb dL_law_729 (lv_at hl 4 rfl) ?_
  refine lv_if_lt (tgt := 752) hx hb dL_law_731 (by decide) (fun c731 => ?_) (fun c731 => ?_)
  · skip
    refine w_widen (k := kc + 3) (n := ks + 18) (by omega) (by omega) ?_
    exact M752 n3 w3 F3 G3 _ _ hP hD hS _ (lv_sub hl [7, 8, 9, 10, 11, 12, 13, 6, 5, 4, 3, 2, 1, 0] rfl)
  · skip
    obtain ⟨z9, ez9, hz9, hz8, hz7⟩ := LW_ge (show 0 < (3 + j667) by omega) (by omega) hO (ge0 c731)
    refine lv_iload hx hb dL_law_734 (lv_at hl 4 rfl) ?_
    refine tp_i (y := (nI z9)) ez9 ?_
    refine lv_aload_n hx hb dL_law_736 rfl (lv_at hl 8 rfl) ?_
    refine pv_i CF (m_X1_coats l D cI o r t a1 a2 b1 b2 S n3 w3 F3 G3 ) (cwV 0 hts gL_law_X1_coats rfl rfl rfl k_X1_coats ⟨Nat.le_of_ble_eq_true rfl, Nat.le_of_ble_eq_true rfl⟩) hK1 (hP.sub [0, 1, 2, 3, 4, 5, 6] rfl) rfl rfl rfl rfl hl.1 rfl (Nat.le_of_ble_eq_true rfl) dL_law_737 ⟨by show _ ≤ 600172; omega, by show _ ≤ 7300668; omega⟩ ?_
    refine bn_lt (tgt := 808) hx hb dL_law_740 (by decide) (by omega) (by omega) (fun c740 => ?_) (fun c740 => ?_)
    · skip
      omega
    · skip
      refine lv_iload hx hb dL_law_743 (lv_at hl 6 rfl) ?_
      refine lv_aload_n hx hb dL_law_745 rfl (lv_at hl 8 rfl) ?_
      refine pv_i CF (m_X1_coats l D cI o r t a1 a2 b1 b2 S n3 w3 F3 G3 ) (cwV 0 hts gL_law_X1_coats rfl rfl rfl k_X1_coats ⟨Nat.le_of_ble_eq_true rfl, Nat.le_of_ble_eq_true rfl⟩) hK1 (hP.sub [0, 1, 2, 3, 4, 5, 6] rfl) rfl rfl rfl rfl hl.1 rfl (Nat.le_of_ble_eq_true rfl) dL_law_746 ⟨by show _ ≤ 600172; omega, by show _ ≤ 7300668; omega⟩ ?_
      refine bn_lt (tgt := 808) hx hb dL_law_749 (by decide) (by omega) (by omega) (fun c749 => ?_) (fun c749 => ?_)
      · skip
        omega
      · skip
        refine w_widen (k := kc + 3) (n := ks + 18) (by omega) (by omega) ?_
        exact M752 n3 w3 F3 G3 _ _ hP hD hS _ (lv_sub hl [7, 8, 9, 10, 11, 12, 13, 6, 5, 4, 3, 2, 1, 0] rfl)
