/-! what a number chooses, done to both -/
theorem k_L_act : yL_act.cls = RL ∧ yL_act.cls ≠ "java/lang/invoke/MethodHandle" ∧ yL_act.cls ≠ "java/lang/invoke/VarHandle" ∧ (parseMethodDescriptor yL_act.desc).map (fun d => d.parameters.length) = some 3 := by decide +kernel
set_option maxHeartbeats 8000000 in
set_option maxRecDepth 100000 in
theorem m_L_act (l : Launch) (hlt : l.stackTraces = false) (D : va_G) (cI cZ : ClassId) (u c1 c2 c3 : Nat) (o r t a1 a2 b1 b2 : Nat) {n w : Nat} {F G f g : Nat → Int32} (S : RS n w F G f g) (n2 w2 : Nat) (F2 G2 : Nat → Int32) {C V Z : Nat → Int32} (S2 : SS n w C V Z f g) (hd : Ds n f) (x : Int32) (sz : Nat) : Met l yL_act wsL_act ({ frames := 8, cells := 9, slots := 160, locals := 134 } : Room) (PXM D [(cI, .int), (cZ, .boolean)] [.ref o, .ref u, .int x] sz (clw cI o r t a1 a2 b1 b2 n w F G n2 w2 F2 G2 ++ smw cI cZ u c1 c2 c3 n w C V Z)) (qm_i ((fun (A : Nat → Prop) (rr : Int32) (H1 : Heap) => rr = nI 1 ∧ ∃ (n w : Nat) (f g : Nat → Int32), JJ D cI cZ o r t a1 a2 b1 b2 u A H1 n w f g) (va_A (clw cI o r t a1 a2 b1 b2 n w F G n2 w2 F2 G2 ++ smw cI cZ u c1 c2 c3 n w C V Z) sz)) (va_A (clw cI o r t a1 a2 b1 b2 n w F G n2 w2 F2 G2 ++ smw cI cZ u c1 c2 c3 n w C V Z) sz)) 9 160 (va_A (clw cI o r t a1 a2 b1 b2 n w F G n2 w2 F2 G2 ++ smw cI cZ u c1 c2 c3 n w C V Z) sz) := by
  obtain ⟨hn3, hn, hw2, hF, hG, hO⟩ := id S
  obtain ⟨-, -, -, hC, hV, hZv, -⟩ := id S2
  refine bd_wx (Qf := (fun A => qm_i ((fun (A : Nat → Prop) (rr : Int32) (H1 : Heap) => rr = nI 1 ∧ ∃ (n w : Nat) (f g : Nat → Int32), JJ D cI cZ o r t a1 a2 b1 b2 u A H1 n w f g) A) A)) (cc := cL_act) (maxL := 10) (ret := (some .boolean)) (hh := [(46, 267, 486, 62), (268, 279, 486, 62), (280, 296, 486, 62), (297, 417, 486, 62), (418, 485, 486, 62)]) (by decide) rfl (Nat.le_of_ble_eq_true rfl) ?_
  intro p e s m args below meth c ls A CF hr hlocks tb hK hP hD hA hS hX hZ hl
  obtain ⟨hx, hb, hml, hown, hts⟩ := id CF
  have hl : lv_has ls 10 [(0, .ref o), (1, .ref u), (2, .int x)] := hl
  have hP : va_P D vwCl [(o, .inr (1, [.ref r, .ref t])), (r, .inr (0, [.ref a1, .ref a2, .int (nI n), .int (nI w)])), (a1, .inl (cI, 40, .inl F)), (a2, .inl (cI, 40, .inl G)), (t, .inr (0, [.ref b1, .ref b2, .int (nI n2), .int (nI w2)])), (b1, .inl (cI, 40, .inl F2)), (b2, .inl (cI, 40, .inl G2)), (u, .inr (2, [.int (nI w), .ref c1, .ref c2, .ref c3])), (c1, .inl (cI, n, .inl C)), (c2, .inl (cI, n, .inl V)), (c3, .inl (cZ, n, .inl Z))] s.heap := hP
  have hD : va_D A [(o, .inr (1, [.ref r, .ref t])), (r, .inr (0, [.ref a1, .ref a2, .int (nI n), .int (nI w)])), (a1, .inl (cI, 40, .inl F)), (a2, .inl (cI, 40, .inl G)), (t, .inr (0, [.ref b1, .ref b2, .int (nI n2), .int (nI w2)])), (b1, .inl (cI, 40, .inl F2)), (b2, .inl (cI, 40, .inl G2)), (u, .inr (2, [.int (nI w), .ref c1, .ref c2, .ref c3])), (c1, .inl (cI, n, .inl C)), (c2, .inl (cI, n, .inl V)), (c3, .inl (cZ, n, .inl Z))] := hD
  have hK1 : va_K D vwCl [(cI, .int)] s := hK.sub [0] rfl
  generalize hH0 : s.heap = H at hP
  have hS : va_S A s.heap H [] := by rw [← hH0]; exact va_S.rf
  generalize hlc0 : ([] : List Loc) = locs at hS ⊢
  have M92 : ∀ (v : Nat), v ≤ 9999 → ∀ (H : Heap) (locs : List Loc), va_P D vwCl [(o, .inr (1, [.ref r, .ref t])), (r, .inr (0, [.ref a1, .ref a2, .int (nI n), .int (nI w)])), (a1, .inl (cI, 40, .inl F)), (a2, .inl (cI, 40, .inl G)), (t, .inr (0, [.ref b1, .ref b2, .int (nI n2), .int (nI w2)])), (b1, .inl (cI, 40, .inl F2)), (b2, .inl (cI, 40, .inl G2)), (u, .inr (2, [.int (nI w), .ref c1, .ref c2, .ref c3])), (c1, .inl (cI, n, .inl C)), (c2, .inl (cI, n, .inl V)), (c3, .inl (cZ, n, .inl Z))] H → va_D A [(o, .inr (1, [.ref r, .ref t])), (r, .inr (0, [.ref a1, .ref a2, .int (nI n), .int (nI w)])), (a1, .inl (cI, 40, .inl F)), (a2, .inl (cI, 40, .inl G)), (t, .inr (0, [.ref b1, .ref b2, .int (nI n2), .int (nI w2)])), (b1, .inl (cI, 40, .inl F2)), (b2, .inl (cI, 40, .inl G2)), (u, .inr (2, [.int (nI w), .ref c1, .ref c2, .ref c3])), (c1, .inl (cI, n, .inl C)), (c2, .inl (cI, n, .inl V)), (c3, .inl (cZ, n, .inl Z))] → va_S A s.heap H locs → ∀ (ls : Array Slot), lv_has ls 10 [(0, .ref o), (1, .ref u), (2, .int x), (3, .int (nI v)), (4, .int (nI 1))] → W p l e ({ frames := 8, cells := 9, slots := 160, locals := 134 } : Room) s m args below meth c H locs 0 0 (MQ below (qm_i ((fun (A : Nat → Prop) (rr : Int32) (H1 : Heap) => rr = nI 1 ∧ ∃ (n w : Nat) (f g : Nat → Int32), JJ D cI cZ o r t a1 a2 b1 b2 u A H1 n w f g) A) A) args s 9 160 A) (F0 m 92 ls []) := by
    intro v hv9 H locs hP hD hS ls hl
    refine lv_iconst (v := nI 3) hx hb dL_act_92 (by decide) ?_
    refine lv_iload_n hx hb dL_act_93 rfl (lv_at hl 2 rfl) ?_
    refine lv_iconst (v := nI 4) hx hb dL_act_94 (by decide) ?_
    refine lv_ishr hx hb dL_act_95 ?_
    refine lv_bipush (v := nI 38) hx hb dL_act_96 (by decide) ?_
    refine pz_p (wc := []) CF (m_L_below l D cI cZ (x >>> ((nI 4) &&& 31)) 38 (by omega) (by omega)) (va_cwS 2 hts gL_act_L_below rfl rfl rfl k_L_below.2 ⟨Nat.le_of_ble_eq_true rfl, Nat.le_of_ble_eq_true rfl⟩) hK (fun k q h => by simp at h) rfl hl.1 rfl (Nat.le_of_ble_eq_true rfl) dL_act_98 ⟨Nat.le_of_ble_eq_true rfl, Nat.le_of_ble_eq_true rfl⟩ (fun r1 hr1 => ?_)
    obtain ⟨j98, hj98, ej98⟩ := hr1
    refine tp_i (y := nI j98) ej98 ?_
    refine an_add hx hb dL_act_101 ?_
    refine lv_istore (lv' := [(5, .int (nI (3 + j98))), (0, .ref o), (1, .ref u), (2, .int x), (3, .int (nI v)), (4, .int (nI 1))]) hx hb dL_act_102 hl (by decide) rfl (fun ls hl => ?_)
    refine lv_iload_n hx hb dL_act_104 rfl (lv_at hl 3 rfl) ?_
    refine lv_bipush (v := nI 6) hx hb dL_act_105 (by decide) ?_
    refine lv_ishr hx hb dL_act_107 ?_
    refine lv_iconst (v := nI 3) hx hb dL_act_108 (by decide) ?_
    refine pz_p (wc := []) CF (m_L_below l D cI cZ (x >>> ((nI 6) &&& 31)) 3 (by omega) (by omega)) (va_cwS 2 hts gL_act_L_below rfl rfl rfl k_L_below.2 ⟨Nat.le_of_ble_eq_true rfl, Nat.le_of_ble_eq_true rfl⟩) hK (fun k q h => by simp at h) rfl hl.1 rfl (Nat.le_of_ble_eq_true rfl) dL_act_109 ⟨Nat.le_of_ble_eq_true rfl, Nat.le_of_ble_eq_true rfl⟩ (fun r1 hr1 => ?_)
    obtain ⟨j109, hj109, ej109⟩ := hr1
    refine tp_i (y := nI j109) ej109 ?_
    refine lv_istore (lv' := [(6, .int (nI j109)), (5, .int (nI (3 + j98))), (0, .ref o), (1, .ref u), (2, .int x), (3, .int (nI v)), (4, .int (nI 1))]) hx hb dL_act_112 hl (by decide) rfl (fun ls hl => ?_)
    refine lv_aload_n hx hb dL_act_114 rfl (lv_at hl 3 rfl) ?_
    refine lv_iload hx hb dL_act_115 (lv_at hl 1 rfl) ?_
    refine lv_iload hx hb dL_act_117 (lv_at hl 0 rfl) ?_
    have hPc : va_P D vwCl [(u, .inr (2, [.int (nI w), .ref c1, .ref c2, .ref c3])), (c1, .inl (cI, n, .inl C)), (c2, .inl (cI, n, .inl V)), (c3, .inl (cZ, n, .inl Z))] H := hP.sub [7, 8, 9, 10] rfl
    have hDc : va_D A [(u, .inr (2, [.int (nI w), .ref c1, .ref c2, .ref c3])), (c1, .inl (cI, n, .inl C)), (c2, .inl (cI, n, .inl V)), (c3, .inl (cZ, n, .inl Z))] := hD.sub [7, 8, 9, 10] (by decide) rfl
    have hFc := va_free (wc := [(u, .inr (2, [.int (nI w), .ref c1, .ref c2, .ref c3])), (c1, .inl (cI, n, .inl C)), (c2, .inl (cI, n, .inl V)), (c3, .inl (cZ, n, .inl Z))]) hD hS hA [7, 8, 9, 10] rfl
    refine pq_r (va_runV (rest := []) CF (m_X2_anew l D cI cZ u c1 c2 c3 S2 hd (3 + j98) j109 (by omega) (by omega) (by omega) H.size) (cwV 2 hts gL_act_X2_anew rfl rfl rfl k_X2_anew ⟨Nat.le_of_ble_eq_true rfl, Nat.le_of_ble_eq_true rfl⟩) (mv_pre hK hPc hDc rfl rfl rfl) rfl rfl hl.1 rfl (lv_room (Nat.le_of_ble_eq_true rfl)) dL_act_119 ⟨Nat.le_of_ble_eq_true rfl, Nat.le_of_ble_eq_true rfl⟩) hS hFc (fun r1 H locs hB hk1 hS => ?_)
    rcases hB with ⟨rfl, hHG, hP1⟩ | ⟨nb, d1, d2, d3, C4, V4, Z4, T, U, z, rfl, hHG, S4, hT, hP1, hD1⟩
    · skip
      obtain ⟨hP, hD⟩ := jn (wb := [(o, .inr (1, [.ref r, .ref t])), (r, .inr (0, [.ref a1, .ref a2, .int (nI n), .int (nI w)])), (a1, .inl (cI, 40, .inl F)), (a2, .inl (cI, 40, .inl G)), (t, .inr (0, [.ref b1, .ref b2, .int (nI n2), .int (nI w2)])), (b1, .inl (cI, 40, .inl F2)), (b2, .inl (cI, 40, .inl G2)), (u, .inr (2, [.int (nI w), .ref c1, .ref c2, .ref c3])), (c1, .inl (cI, n, .inl C)), (c2, .inl (cI, n, .inl V)), (c3, .inl (cZ, n, .inl Z))]) (w1 := [(u, .inr (2, [.int (nI w), .ref c1, .ref c2, .ref c3])), (c1, .inl (cI, n, .inl C)), (c2, .inl (cI, n, .inl V)), (c3, .inl (cZ, n, .inl Z))]) hP hD [7, 8, 9, 10] [0, 1, 2, 3, 4, 5, 6] rfl rfl rfl rfl 11 rfl (by decide) (by decide) hk1 hP1
      refine W.eq (g2 := F0 m 122 ls [.null]) rfl ?_
      refine lv_astoreN (lv' := [(7, .null), (6, .int (nI j109)), (5, .int (nI (3 + j98))), (0, .ref o), (1, .ref u), (2, .int x), (3, .int (nI v)), (4, .int (nI 1))]) hx hb dL_act_122 hl (by decide) rfl (fun ls hl => ?_)
      refine lv_aloadN hx hb dL_act_124 (lv_at hl 0 rfl) ?_
      refine lv_ifnullN (tgt := 133) hx hb dL_act_126 (by decide) ?_
      refine lv_iconst (v := nI 0) hx hb dL_act_133 (by decide) ?_
      refine lv_istore (lv' := [(4, .int (nI 0)), (7, .null), (6, .int (nI j109)), (5, .int (nI (3 + j98))), (0, .ref o), (1, .ref u), (2, .int x), (3, .int (nI v))]) hx hb dL_act_134 hl (by decide) rfl (fun ls hl => ?_)
      refine lv_iconst (v := nI 0) hx hb dL_act_136 (by decide) ?_
      refine lv_istore (lv' := [(8, .int (nI 0)), (4, .int (nI 0)), (7, .null), (6, .int (nI j109)), (5, .int (nI (3 + j98))), (0, .ref o), (1, .ref u), (2, .int x), (3, .int (nI v))]) hx hb dL_act_137 hl (by decide) rfl (fun ls hl => ?_)
      refine lv_iload hx hb dL_act_139 (lv_at hl 1 rfl) ?_
      refine bz_eq (tgt := 244) hx hb dL_act_141 (by decide) (by omega) (fun c141 => ?_) (fun c141 => ?_)
      · skip
        refine lv_aload_n hx hb dL_act_244 rfl (lv_at hl 5 rfl) ?_
        refine lv_iload hx hb dL_act_245 (lv_at hl 4 rfl) ?_
        refine lv_iload hx hb dL_act_247 (lv_at hl 3 rfl) ?_
        have hPc : va_P D vwCl [(o, .inr (1, [.ref r, .ref t])), (r, .inr (0, [.ref a1, .ref a2, .int (nI n), .int (nI w)])), (a1, .inl (cI, 40, .inl F)), (a2, .inl (cI, 40, .inl G)), (t, .inr (0, [.ref b1, .ref b2, .int (nI n2), .int (nI w2)])), (b1, .inl (cI, 40, .inl F2)), (b2, .inl (cI, 40, .inl G2))] H := hP.sub [0, 1, 2, 3, 4, 5, 6] rfl
        have hDc : va_D A [(o, .inr (1, [.ref r, .ref t])), (r, .inr (0, [.ref a1, .ref a2, .int (nI n), .int (nI w)])), (a1, .inl (cI, 40, .inl F)), (a2, .inl (cI, 40, .inl G)), (t, .inr (0, [.ref b1, .ref b2, .int (nI n2), .int (nI w2)])), (b1, .inl (cI, 40, .inl F2)), (b2, .inl (cI, 40, .inl G2))] := hD.sub [0, 1, 2, 3, 4, 5, 6] (by decide) rfl
        have hFc := va_free (wc := [(o, .inr (1, [.ref r, .ref t])), (r, .inr (0, [.ref a1, .ref a2, .int (nI n), .int (nI w)])), (a1, .inl (cI, 40, .inl F)), (a2, .inl (cI, 40, .inl G)), (t, .inr (0, [.ref b1, .ref b2, .int (nI n2), .int (nI w2)])), (b1, .inl (cI, 40, .inl F2)), (b2, .inl (cI, 40, .inl G2))]) hD hS hA [0, 1, 2, 3, 4, 5, 6] rfl
        refine xw_m (vx_runV (rest := []) CF (m_X1_rehang l hlt D cI o r t a1 a2 b1 b2 S n2 w2 F2 G2 (nI (3 + j98)) (nI j109) H.size) (cwV 2 hts gL_act_X1_rehang rfl rfl rfl k_X1_rehang ⟨Nat.le_of_ble_eq_true rfl, Nat.le_of_ble_eq_true rfl⟩) (pxm_pre hK1 hPc hDc hX (hZ.kept hS.2.1) hFc rfl rfl rfl) rfl rfl hl.1 rfl (lv_room (Nat.le_of_ble_eq_true rfl)) dL_act_249 ⟨Nat.le_of_ble_eq_true rfl, Nat.le_of_ble_eq_true rfl⟩) hS hFc (fun E9 st9 t9 h9 => h9.elim (xk_F E9 st9 t9) (fun z9 => z9.2.2.2)) (fun E ce q9 st9 t9 locs hst hXC hz hk hS hce hcv hcl => ?_) (fun r1 H locs hB hk1 hS => ?_)
        · skip
          rcases hXC with ⟨⟨rfl, hno⟩, -⟩ | ⟨rfl, -, ⟨n3, w3, F3, G3, hP1⟩, -⟩
          · exact absurd (show rg 3 40 (nI (3 + j98)) ∧ rg 0 2 (nI j109) from ⟨⟨(3 + j98), by omega, by omega, rfl⟩, ⟨j109, by omega, by omega, rfl⟩⟩) hno
          obtain ⟨hP, hD⟩ := jn (wb := [(o, .inr (1, [.ref r, .ref t])), (r, .inr (0, [.ref a1, .ref a2, .int (nI n), .int (nI w)])), (a1, .inl (cI, 40, .inl F)), (a2, .inl (cI, 40, .inl G)), (t, .inr (0, [.ref b1, .ref b2, .int (nI n3), .int (nI w3)])), (b1, .inl (cI, 40, .inl F3)), (b2, .inl (cI, 40, .inl G3)), (u, .inr (2, [.int (nI w), .ref c1, .ref c2, .ref c3])), (c1, .inl (cI, n, .inl C)), (c2, .inl (cI, n, .inl V)), (c3, .inl (cZ, n, .inl Z))]) (w1 := [(o, .inr (1, [.ref r, .ref t])), (r, .inr (0, [.ref a1, .ref a2, .int (nI n), .int (nI w)])), (a1, .inl (cI, 40, .inl F)), (a2, .inl (cI, 40, .inl G)), (t, .inr (0, [.ref b1, .ref b2, .int (nI n3), .int (nI w3)])), (b1, .inl (cI, 40, .inl F3)), (b2, .inl (cI, 40, .inl G3))]) hP hD [0, 1, 2, 3, 4, 5, 6] [7, 8, 9, 10] rfl rfl rfl rfl 11 rfl (by decide) (by decide) hk hP1
          refine vx_catch (own := RL) (name := "java/lang/IllegalStateException") hown [] ⟨46, 267, 486, 62⟩ [⟨268, 279, 486, 62⟩, ⟨280, 296, 486, 62⟩, ⟨297, 417, 486, 62⟩, ⟨418, 485, 486, 62⟩] tb (fun z hz => nomatch hz) rfl (by decide) (hts _ (List.mem_of_getElem? (i := 1) rfl)) (va_Nw.use rfl (hX.1 _ (List.mem_of_getElem? (i := 4) rfl))) hce hcv hcl ?_
          refine lv_astore (lv' := [(5, .ref q9), (8, .int (nI 0)), (4, .int (nI 0)), (7, .null), (6, .int (nI j109)), (0, .ref o), (1, .ref u), (2, .int x), (3, .int (nI v))]) hx hb dL_act_486 hl (by decide) rfl (fun ls hl => ?_)
          refine lv_iload hx hb dL_act_488 (lv_at hl 2 rfl) ?_
          refine bz_ne (tgt := 497) hx hb dL_act_490 (by decide) (by omega) (fun c490 => ?_) (fun c490 => ?_)
          · skip
            omega
          · skip
            refine lv_iconst (v := nI 1) hx hb dL_act_493 (by decide) ?_
            refine lv_goto (tgt := 498) hx hb dL_act_494 (by decide) ?_
            refine w_widen (k := 9) (n := 160) (Nat.le_of_ble_eq_true rfl) (Nat.le_of_ble_eq_true rfl) ?_
            exact em_z hx hb hr hlocks hS (Or.inr rfl) (⟨rfl, n, w, f, g, c1, c2, c3, _, _, F, G, _, _, C, V, Z, S, S2, hd, hP, hD⟩) dL_act_498
        · skip
          obtain ⟨N9, w9, hN3, hN40, ex, hw9, ey, T2, U2, z2, hHG2, -⟩ := hB; rw [← nI_inj (show (3 + j98) < 2 ^ 31 by omega) (show N9 < 2 ^ 31 by omega) ex, ← nI_inj (show j109 < 2 ^ 31 by omega) (show w9 < 2 ^ 31 by omega) ey, hHG] at hHG2; cases hHG2
      · skip
        omega
    · skip
      obtain ⟨hP, hD⟩ := va_join (wr := [(o, .inr (1, [.ref r, .ref t])), (r, .inr (0, [.ref a1, .ref a2, .int (nI n), .int (nI w)])), (a1, .inl (cI, 40, .inl F)), (a2, .inl (cI, 40, .inl G)), (t, .inr (0, [.ref b1, .ref b2, .int (nI n2), .int (nI w2)])), (b1, .inl (cI, 40, .inl F2)), (b2, .inl (cI, 40, .inl G2))]) (w1 := [(u, .inr (2, [.int (nI w), .ref c1, .ref c2, .ref c3])), (c1, .inl (cI, n, .inl C)), (c2, .inl (cI, n, .inl V)), (c3, .inl (cZ, n, .inl Z)), (nb, .inr (2, [.int (nI j109), .ref d1, .ref d2, .ref d3])), (d1, .inl (cI, (3 + j98), .inl C4)), (d2, .inl (cI, (3 + j98), .inl V4)), (d3, .inl (cZ, (3 + j98), .inl Z4))]) hP hD [7, 8, 9, 10] [0, 1, 2, 3, 4, 5, 6] rfl rfl (by decide) (by decide) hk1 hFc hP1 hD1
      have hP : va_P D vwCl [(o, .inr (1, [.ref r, .ref t])), (r, .inr (0, [.ref a1, .ref a2, .int (nI n), .int (nI w)])), (a1, .inl (cI, 40, .inl F)), (a2, .inl (cI, 40, .inl G)), (t, .inr (0, [.ref b1, .ref b2, .int (nI n2), .int (nI w2)])), (b1, .inl (cI, 40, .inl F2)), (b2, .inl (cI, 40, .inl G2)), (u, .inr (2, [.int (nI w), .ref c1, .ref c2, .ref c3])), (c1, .inl (cI, n, .inl C)), (c2, .inl (cI, n, .inl V)), (c3, .inl (cZ, n, .inl Z)), (nb, .inr (2, [.int (nI j109), .ref d1, .ref d2, .ref d3])), (d1, .inl (cI, (3 + j98), .inl C4)), (d2, .inl (cI, (3 + j98), .inl V4)), (d3, .inl (cZ, (3 + j98), .inl Z4))] H := hP
      have hD : va_D A [(o, .inr (1, [.ref r, .ref t])), (r, .inr (0, [.ref a1, .ref a2, .int (nI n), .int (nI w)])), (a1, .inl (cI, 40, .inl F)), (a2, .inl (cI, 40, .inl G)), (t, .inr (0, [.ref b1, .ref b2, .int (nI n2), .int (nI w2)])), (b1, .inl (cI, 40, .inl F2)), (b2, .inl (cI, 40, .inl G2)), (u, .inr (2, [.int (nI w), .ref c1, .ref c2, .ref c3])), (c1, .inl (cI, n, .inl C)), (c2, .inl (cI, n, .inl V)), (c3, .inl (cZ, n, .inl Z)), (nb, .inr (2, [.int (nI j109), .ref d1, .ref d2, .ref d3])), (d1, .inl (cI, (3 + j98), .inl C4)), (d2, .inl (cI, (3 + j98), .inl V4)), (d3, .inl (cZ, (3 + j98), .inl Z4))] := hD
      refine W.eq (g2 := F0 m 122 ls [.ref nb]) rfl ?_
      refine lv_astore (lv' := [(7, .ref nb), (6, .int (nI j109)), (5, .int (nI (3 + j98))), (0, .ref o), (1, .ref u), (2, .int x), (3, .int (nI v)), (4, .int (nI 1))]) hx hb dL_act_122 hl (by decide) rfl (fun ls hl => ?_)
      refine lv_aload hx hb dL_act_124 (lv_at hl 0 rfl) ?_
      refine lv_ifnull hx hb dL_act_126 ?_
      refine lv_iconst (v := nI 1) hx hb dL_act_129 (by decide) ?_
      refine lv_goto (tgt := 134) hx hb dL_act_130 (by decide) ?_
      refine lv_istore (lv' := [(4, .int (nI 1)), (7, .ref nb), (6, .int (nI j109)), (5, .int (nI (3 + j98))), (0, .ref o), (1, .ref u), (2, .int x), (3, .int (nI v))]) hx hb dL_act_134 hl (by decide) rfl (fun ls hl => ?_)
      refine lv_iconst (v := nI 0) hx hb dL_act_136 (by decide) ?_
      refine lv_istore (lv' := [(8, .int (nI 0)), (4, .int (nI 1)), (7, .ref nb), (6, .int (nI j109)), (5, .int (nI (3 + j98))), (0, .ref o), (1, .ref u), (2, .int x), (3, .int (nI v))]) hx hb dL_act_137 hl (by decide) rfl (fun ls hl => ?_)
      refine lv_iload hx hb dL_act_139 (lv_at hl 1 rfl) ?_
      refine bz_eq (tgt := 244) hx hb dL_act_141 (by decide) (by omega) (fun c141 => ?_) (fun c141 => ?_)
      · skip
        omega
      · skip
        refine lv_iconst (v := nI 0) hx hb dL_act_144 (by decide) ?_
        refine lv_istore (lv' := [(9, .int (nI 0)), (8, .int (nI 0)), (4, .int (nI 1)), (7, .ref nb), (6, .int (nI j109)), (5, .int (nI (3 + j98))), (0, .ref o), (1, .ref u), (2, .int x), (3, .int (nI v))]) hx hb dL_act_145 hl (by decide) rfl (fun ls hl => ?_)
        have LP147 : ∀ (q i a : Nat), i + q = n → a ≤ i → fo (fun a i => if 0 ≤ f i ∧ ¬ (o4 (3 + j98) T) i = f i then a + 1 else a) q i a = mv n f (o4 (3 + j98) T) → ∀ (H : Heap) (locs : List Loc), va_P D vwCl [(o, .inr (1, [.ref r, .ref t])), (r, .inr (0, [.ref a1, .ref a2, .int (nI n), .int (nI w)])), (a1, .inl (cI, 40, .inl F)), (a2, .inl (cI, 40, .inl G)), (t, .inr (0, [.ref b1, .ref b2, .int (nI n2), .int (nI w2)])), (b1, .inl (cI, 40, .inl F2)), (b2, .inl (cI, 40, .inl G2)), (u, .inr (2, [.int (nI w), .ref c1, .ref c2, .ref c3])), (c1, .inl (cI, n, .inl C)), (c2, .inl (cI, n, .inl V)), (c3, .inl (cZ, n, .inl Z)), (nb, .inr (2, [.int (nI j109), .ref d1, .ref d2, .ref d3])), (d1, .inl (cI, (3 + j98), .inl C4)), (d2, .inl (cI, (3 + j98), .inl V4)), (d3, .inl (cZ, (3 + j98), .inl Z4))] H → va_D A [(o, .inr (1, [.ref r, .ref t])), (r, .inr (0, [.ref a1, .ref a2, .int (nI n), .int (nI w)])), (a1, .inl (cI, 40, .inl F)), (a2, .inl (cI, 40, .inl G)), (t, .inr (0, [.ref b1, .ref b2, .int (nI n2), .int (nI w2)])), (b1, .inl (cI, 40, .inl F2)), (b2, .inl (cI, 40, .inl G2)), (u, .inr (2, [.int (nI w), .ref c1, .ref c2, .ref c3])), (c1, .inl (cI, n, .inl C)), (c2, .inl (cI, n, .inl V)), (c3, .inl (cZ, n, .inl Z)), (nb, .inr (2, [.int (nI j109), .ref d1, .ref d2, .ref d3])), (d1, .inl (cI, (3 + j98), .inl C4)), (d2, .inl (cI, (3 + j98), .inl V4)), (d3, .inl (cZ, (3 + j98), .inl Z4))] → va_S A s.heap H locs → ∀ (ls : Array Slot), lv_has ls 10 [(9, .int (nI i)), (8, .int (nI a)), (4, .int (nI 1)), (7, .ref nb), (6, .int (nI j109)), (5, .int (nI (3 + j98))), (0, .ref o), (1, .ref u), (2, .int x), (3, .int (nI v))] → W p l e ({ frames := 8, cells := 9, slots := 160, locals := 134 } : Room) s m args below meth c H locs (0 + 7) (0 + 148) (MQ below (qm_i ((fun (A : Nat → Prop) (rr : Int32) (H1 : Heap) => rr = nI 1 ∧ ∃ (n w : Nat) (f g : Nat → Int32), JJ D cI cZ o r t a1 a2 b1 b2 u A H1 n w f g) A) A) args s 9 160 A) (F0 m 147 ls []) := by
          intro q
          induction q with
          | zero =>
            intro i a h1 ha9 h2 H locs hP hD hS ls hl
            refine lv_iload hx hb dL_act_147 (lv_at hl 0 rfl) ?_
            refine lv_aload_n hx hb dL_act_149 rfl (lv_at hl 7 rfl) ?_
            refine va_get (D := D) (ci := 2) (v := .ref c1) (C := RX2) (T := TX2) (N := 4) hx hb hts (fun _ h => (List.mem_cons_of_mem _ (List.mem_append_left _ (List.mem_append_left _ (List.mem_append_left _ (List.mem_append_left _ (List.mem_append_right _ h))))))) hown hK hP 7 rfl rfl 1 (by decide) (hts _ (List.mem_of_getElem? (i := 2) rfl)) (fun _ h9 => h9) rfl dL_act_150 ?_
            refine va_alen (v := nI n) hx hb hK hP 8 0 rfl rfl rfl dL_act_153 ?_
            refine bn_ge (tgt := 208) hx hb dL_act_154 (by decide) (by omega) (by omega) (fun c154 => ?_) (fun c154 => ?_)
            · skip
              refine lv_aload_n hx hb dL_act_208 rfl (lv_at hl 7 rfl) ?_
              refine lv_aload hx hb dL_act_209 (lv_at hl 3 rfl) ?_
              refine va_get (D := D) (ci := 2) (v := .int (nI j109)) (C := RX2) (T := TX2) (N := 4) hx hb hts (fun _ h => (List.mem_cons_of_mem _ (List.mem_append_left _ (List.mem_append_left _ (List.mem_append_left _ (List.mem_append_left _ (List.mem_append_right _ h))))))) hown hK hP 11 rfl rfl 0 (by decide) (hts _ (List.mem_of_getElem? (i := 3) rfl)) (fun _ h9 => h9) rfl dL_act_211 ?_
              refine va_put (D := D) (ci := 2) (v := .int (nI j109)) (ty := .int) (C := RX2) (T := TX2) (N := 4) hx hb hts (fun _ h => (List.mem_cons_of_mem _ (List.mem_append_left _ (List.mem_append_left _ (List.mem_append_left _ (List.mem_append_left _ (List.mem_append_right _ h))))))) tyX2 tyX2_ok nmX2 hown hK hP hD hS 7 rfl rfl 0 (by decide) (hts _ (List.mem_of_getElem? (i := 3) rfl)) (fun _ h9 => h9) rfl (by decide +kernel) rfl rfl (Nat.le_of_ble_eq_true rfl) dL_act_214 (fun H locs hP hD hS => ?_)
              have hP : va_P D vwCl [(o, .inr (1, [.ref r, .ref t])), (r, .inr (0, [.ref a1, .ref a2, .int (nI n), .int (nI w)])), (a1, .inl (cI, 40, .inl F)), (a2, .inl (cI, 40, .inl G)), (t, .inr (0, [.ref b1, .ref b2, .int (nI n2), .int (nI w2)])), (b1, .inl (cI, 40, .inl F2)), (b2, .inl (cI, 40, .inl G2)), (u, .inr (2, [.int (nI j109), .ref c1, .ref c2, .ref c3])), (c1, .inl (cI, n, .inl C)), (c2, .inl (cI, n, .inl V)), (c3, .inl (cZ, n, .inl Z)), (nb, .inr (2, [.int (nI j109), .ref d1, .ref d2, .ref d3])), (d1, .inl (cI, (3 + j98), .inl C4)), (d2, .inl (cI, (3 + j98), .inl V4)), (d3, .inl (cZ, (3 + j98), .inl Z4))] H := hP
              have hD : va_D A [(o, .inr (1, [.ref r, .ref t])), (r, .inr (0, [.ref a1, .ref a2, .int (nI n), .int (nI w)])), (a1, .inl (cI, 40, .inl F)), (a2, .inl (cI, 40, .inl G)), (t, .inr (0, [.ref b1, .ref b2, .int (nI n2), .int (nI w2)])), (b1, .inl (cI, 40, .inl F2)), (b2, .inl (cI, 40, .inl G2)), (u, .inr (2, [.int (nI j109), .ref c1, .ref c2, .ref c3])), (c1, .inl (cI, n, .inl C)), (c2, .inl (cI, n, .inl V)), (c3, .inl (cZ, n, .inl Z)), (nb, .inr (2, [.int (nI j109), .ref d1, .ref d2, .ref d3])), (d1, .inl (cI, (3 + j98), .inl C4)), (d2, .inl (cI, (3 + j98), .inl V4)), (d3, .inl (cZ, (3 + j98), .inl Z4))] := hD
              refine lv_aload_n hx hb dL_act_217 rfl (lv_at hl 7 rfl) ?_
              refine lv_aload hx hb dL_act_218 (lv_at hl 3 rfl) ?_
              refine va_get (D := D) (ci := 2) (v := .ref d1) (C := RX2) (T := TX2) (N := 4) hx hb hts (fun _ h => (List.mem_cons_of_mem _ (List.mem_append_left _ (List.mem_append_left _ (List.mem_append_left _ (List.mem_append_left _ (List.mem_append_right _ h))))))) hown hK hP 11 rfl rfl 1 (by decide) (hts _ (List.mem_of_getElem? (i := 2) rfl)) (fun _ h9 => h9) rfl dL_act_220 ?_
              refine va_put (D := D) (ci := 2) (v := .ref d1) (ty := .array .int) (C := RX2) (T := TX2) (N := 4) hx hb hts (fun _ h => (List.mem_cons_of_mem _ (List.mem_append_left _ (List.mem_append_left _ (List.mem_append_left _ (List.mem_append_left _ (List.mem_append_right _ h))))))) tyX2 tyX2_ok nmX2 hown hK hP hD hS 7 rfl rfl 1 (by decide) (hts _ (List.mem_of_getElem? (i := 2) rfl)) (fun _ h9 => h9) rfl (by decide +kernel) rfl rfl (Nat.le_of_ble_eq_true rfl) dL_act_223 (fun H locs hP hD hS => ?_)
              have hP : va_P D vwCl [(o, .inr (1, [.ref r, .ref t])), (r, .inr (0, [.ref a1, .ref a2, .int (nI n), .int (nI w)])), (a1, .inl (cI, 40, .inl F)), (a2, .inl (cI, 40, .inl G)), (t, .inr (0, [.ref b1, .ref b2, .int (nI n2), .int (nI w2)])), (b1, .inl (cI, 40, .inl F2)), (b2, .inl (cI, 40, .inl G2)), (u, .inr (2, [.int (nI j109), .ref d1, .ref c2, .ref c3])), (c1, .inl (cI, n, .inl C)), (c2, .inl (cI, n, .inl V)), (c3, .inl (cZ, n, .inl Z)), (nb, .inr (2, [.int (nI j109), .ref d1, .ref d2, .ref d3])), (d1, .inl (cI, (3 + j98), .inl C4)), (d2, .inl (cI, (3 + j98), .inl V4)), (d3, .inl (cZ, (3 + j98), .inl Z4))] H := hP
              have hD : va_D A [(o, .inr (1, [.ref r, .ref t])), (r, .inr (0, [.ref a1, .ref a2, .int (nI n), .int (nI w)])), (a1, .inl (cI, 40, .inl F)), (a2, .inl (cI, 40, .inl G)), (t, .inr (0, [.ref b1, .ref b2, .int (nI n2), .int (nI w2)])), (b1, .inl (cI, 40, .inl F2)), (b2, .inl (cI, 40, .inl G2)), (u, .inr (2, [.int (nI j109), .ref d1, .ref c2, .ref c3])), (c1, .inl (cI, n, .inl C)), (c2, .inl (cI, n, .inl V)), (c3, .inl (cZ, n, .inl Z)), (nb, .inr (2, [.int (nI j109), .ref d1, .ref d2, .ref d3])), (d1, .inl (cI, (3 + j98), .inl C4)), (d2, .inl (cI, (3 + j98), .inl V4)), (d3, .inl (cZ, (3 + j98), .inl Z4))] := hD
              refine lv_aload_n hx hb dL_act_226 rfl (lv_at hl 7 rfl) ?_
              refine lv_aload hx hb dL_act_227 (lv_at hl 3 rfl) ?_
              refine va_get (D := D) (ci := 2) (v := .ref d2) (C := RX2) (T := TX2) (N := 4) hx hb hts (fun _ h => (List.mem_cons_of_mem _ (List.mem_append_left _ (List.mem_append_left _ (List.mem_append_left _ (List.mem_append_left _ (List.mem_append_right _ h))))))) hown hK hP 11 rfl rfl 2 (by decide) (hts _ (List.mem_of_getElem? (i := 4) rfl)) (fun _ h9 => h9) rfl dL_act_229 ?_
              refine va_put (D := D) (ci := 2) (v := .ref d2) (ty := .array .int) (C := RX2) (T := TX2) (N := 4) hx hb hts (fun _ h => (List.mem_cons_of_mem _ (List.mem_append_left _ (List.mem_append_left _ (List.mem_append_left _ (List.mem_append_left _ (List.mem_append_right _ h))))))) tyX2 tyX2_ok nmX2 hown hK hP hD hS 7 rfl rfl 2 (by decide) (hts _ (List.mem_of_getElem? (i := 4) rfl)) (fun _ h9 => h9) rfl (by decide +kernel) rfl rfl (Nat.le_of_ble_eq_true rfl) dL_act_232 (fun H locs hP hD hS => ?_)
              have hP : va_P D vwCl [(o, .inr (1, [.ref r, .ref t])), (r, .inr (0, [.ref a1, .ref a2, .int (nI n), .int (nI w)])), (a1, .inl (cI, 40, .inl F)), (a2, .inl (cI, 40, .inl G)), (t, .inr (0, [.ref b1, .ref b2, .int (nI n2), .int (nI w2)])), (b1, .inl (cI, 40, .inl F2)), (b2, .inl (cI, 40, .inl G2)), (u, .inr (2, [.int (nI j109), .ref d1, .ref d2, .ref c3])), (c1, .inl (cI, n, .inl C)), (c2, .inl (cI, n, .inl V)), (c3, .inl (cZ, n, .inl Z)), (nb, .inr (2, [.int (nI j109), .ref d1, .ref d2, .ref d3])), (d1, .inl (cI, (3 + j98), .inl C4)), (d2, .inl (cI, (3 + j98), .inl V4)), (d3, .inl (cZ, (3 + j98), .inl Z4))] H := hP
              have hD : va_D A [(o, .inr (1, [.ref r, .ref t])), (r, .inr (0, [.ref a1, .ref a2, .int (nI n), .int (nI w)])), (a1, .inl (cI, 40, .inl F)), (a2, .inl (cI, 40, .inl G)), (t, .inr (0, [.ref b1, .ref b2, .int (nI n2), .int (nI w2)])), (b1, .inl (cI, 40, .inl F2)), (b2, .inl (cI, 40, .inl G2)), (u, .inr (2, [.int (nI j109), .ref d1, .ref d2, .ref c3])), (c1, .inl (cI, n, .inl C)), (c2, .inl (cI, n, .inl V)), (c3, .inl (cZ, n, .inl Z)), (nb, .inr (2, [.int (nI j109), .ref d1, .ref d2, .ref d3])), (d1, .inl (cI, (3 + j98), .inl C4)), (d2, .inl (cI, (3 + j98), .inl V4)), (d3, .inl (cZ, (3 + j98), .inl Z4))] := hD
              refine lv_aload_n hx hb dL_act_235 rfl (lv_at hl 7 rfl) ?_
              refine lv_aload hx hb dL_act_236 (lv_at hl 3 rfl) ?_
              refine va_get (D := D) (ci := 2) (v := .ref d3) (C := RX2) (T := TX2) (N := 4) hx hb hts (fun _ h => (List.mem_cons_of_mem _ (List.mem_append_left _ (List.mem_append_left _ (List.mem_append_left _ (List.mem_append_left _ (List.mem_append_right _ h))))))) hown hK hP 11 rfl rfl 3 (by decide) (hts _ (List.mem_of_getElem? (i := 5) rfl)) (fun _ h9 => h9) rfl dL_act_238 ?_
              refine va_put (D := D) (ci := 2) (v := .ref d3) (ty := .array .boolean) (C := RX2) (T := TX2) (N := 4) hx hb hts (fun _ h => (List.mem_cons_of_mem _ (List.mem_append_left _ (List.mem_append_left _ (List.mem_append_left _ (List.mem_append_left _ (List.mem_append_right _ h))))))) tyX2 tyX2_ok nmX2 hown hK hP hD hS 7 rfl rfl 3 (by decide) (hts _ (List.mem_of_getElem? (i := 5) rfl)) (fun _ h9 => h9) rfl (by decide +kernel) rfl rfl (Nat.le_of_ble_eq_true rfl) dL_act_241 (fun H locs hP hD hS => ?_)
              have hP : va_P D vwCl [(o, .inr (1, [.ref r, .ref t])), (r, .inr (0, [.ref a1, .ref a2, .int (nI n), .int (nI w)])), (a1, .inl (cI, 40, .inl F)), (a2, .inl (cI, 40, .inl G)), (t, .inr (0, [.ref b1, .ref b2, .int (nI n2), .int (nI w2)])), (b1, .inl (cI, 40, .inl F2)), (b2, .inl (cI, 40, .inl G2)), (u, .inr (2, [.int (nI j109), .ref d1, .ref d2, .ref d3])), (c1, .inl (cI, n, .inl C)), (c2, .inl (cI, n, .inl V)), (c3, .inl (cZ, n, .inl Z)), (nb, .inr (2, [.int (nI j109), .ref d1, .ref d2, .ref d3])), (d1, .inl (cI, (3 + j98), .inl C4)), (d2, .inl (cI, (3 + j98), .inl V4)), (d3, .inl (cZ, (3 + j98), .inl Z4))] H := hP
              have hD : va_D A [(o, .inr (1, [.ref r, .ref t])), (r, .inr (0, [.ref a1, .ref a2, .int (nI n), .int (nI w)])), (a1, .inl (cI, 40, .inl F)), (a2, .inl (cI, 40, .inl G)), (t, .inr (0, [.ref b1, .ref b2, .int (nI n2), .int (nI w2)])), (b1, .inl (cI, 40, .inl F2)), (b2, .inl (cI, 40, .inl G2)), (u, .inr (2, [.int (nI j109), .ref d1, .ref d2, .ref d3])), (c1, .inl (cI, n, .inl C)), (c2, .inl (cI, n, .inl V)), (c3, .inl (cZ, n, .inl Z)), (nb, .inr (2, [.int (nI j109), .ref d1, .ref d2, .ref d3])), (d1, .inl (cI, (3 + j98), .inl C4)), (d2, .inl (cI, (3 + j98), .inl V4)), (d3, .inl (cZ, (3 + j98), .inl Z4))] := hD
              have hP := hP.sub (ws' := [(o, .inr (1, [.ref r, .ref t])), (r, .inr (0, [.ref a1, .ref a2, .int (nI n), .int (nI w)])), (a1, .inl (cI, 40, .inl F)), (a2, .inl (cI, 40, .inl G)), (t, .inr (0, [.ref b1, .ref b2, .int (nI n2), .int (nI w2)])), (b1, .inl (cI, 40, .inl F2)), (b2, .inl (cI, 40, .inl G2)), (u, .inr (2, [.int (nI j109), .ref d1, .ref d2, .ref d3])), (d1, .inl (cI, (3 + j98), .inl C4)), (d2, .inl (cI, (3 + j98), .inl V4)), (d3, .inl (cZ, (3 + j98), .inl Z4))]) [0, 1, 2, 3, 4, 5, 6, 7, 12, 13, 14] rfl
              have hD := hD.sub (ws' := [(o, .inr (1, [.ref r, .ref t])), (r, .inr (0, [.ref a1, .ref a2, .int (nI n), .int (nI w)])), (a1, .inl (cI, 40, .inl F)), (a2, .inl (cI, 40, .inl G)), (t, .inr (0, [.ref b1, .ref b2, .int (nI n2), .int (nI w2)])), (b1, .inl (cI, 40, .inl F2)), (b2, .inl (cI, 40, .inl G2)), (u, .inr (2, [.int (nI j109), .ref d1, .ref d2, .ref d3])), (d1, .inl (cI, (3 + j98), .inl C4)), (d2, .inl (cI, (3 + j98), .inl V4)), (d3, .inl (cZ, (3 + j98), .inl Z4))]) [0, 1, 2, 3, 4, 5, 6, 7, 12, 13, 14] (by decide) rfl
              have hP : va_P D vwCl [(o, .inr (1, [.ref r, .ref t])), (r, .inr (0, [.ref a1, .ref a2, .int (nI n), .int (nI w)])), (a1, .inl (cI, 40, .inl F)), (a2, .inl (cI, 40, .inl G)), (t, .inr (0, [.ref b1, .ref b2, .int (nI n2), .int (nI w2)])), (b1, .inl (cI, 40, .inl F2)), (b2, .inl (cI, 40, .inl G2)), (u, .inr (2, [.int (nI j109), .ref d1, .ref d2, .ref d3])), (d1, .inl (cI, (3 + j98), .inl C4)), (d2, .inl (cI, (3 + j98), .inl V4)), (d3, .inl (cZ, (3 + j98), .inl Z4))] H := hP
              have hD : va_D A [(o, .inr (1, [.ref r, .ref t])), (r, .inr (0, [.ref a1, .ref a2, .int (nI n), .int (nI w)])), (a1, .inl (cI, 40, .inl F)), (a2, .inl (cI, 40, .inl G)), (t, .inr (0, [.ref b1, .ref b2, .int (nI n2), .int (nI w2)])), (b1, .inl (cI, 40, .inl F2)), (b2, .inl (cI, 40, .inl G2)), (u, .inr (2, [.int (nI j109), .ref d1, .ref d2, .ref d3])), (d1, .inl (cI, (3 + j98), .inl C4)), (d2, .inl (cI, (3 + j98), .inl V4)), (d3, .inl (cZ, (3 + j98), .inl Z4))] := hD
              refine lv_aload_n hx hb dL_act_244 rfl (lv_at hl 6 rfl) ?_
              refine lv_iload hx hb dL_act_245 (lv_at hl 5 rfl) ?_
              refine lv_iload hx hb dL_act_247 (lv_at hl 4 rfl) ?_
              have hPc : va_P D vwCl [(o, .inr (1, [.ref r, .ref t])), (r, .inr (0, [.ref a1, .ref a2, .int (nI n), .int (nI w)])), (a1, .inl (cI, 40, .inl F)), (a2, .inl (cI, 40, .inl G)), (t, .inr (0, [.ref b1, .ref b2, .int (nI n2), .int (nI w2)])), (b1, .inl (cI, 40, .inl F2)), (b2, .inl (cI, 40, .inl G2))] H := hP.sub [0, 1, 2, 3, 4, 5, 6] rfl
              have hDc : va_D A [(o, .inr (1, [.ref r, .ref t])), (r, .inr (0, [.ref a1, .ref a2, .int (nI n), .int (nI w)])), (a1, .inl (cI, 40, .inl F)), (a2, .inl (cI, 40, .inl G)), (t, .inr (0, [.ref b1, .ref b2, .int (nI n2), .int (nI w2)])), (b1, .inl (cI, 40, .inl F2)), (b2, .inl (cI, 40, .inl G2))] := hD.sub [0, 1, 2, 3, 4, 5, 6] (by decide) rfl
              have hFc := va_free (wc := [(o, .inr (1, [.ref r, .ref t])), (r, .inr (0, [.ref a1, .ref a2, .int (nI n), .int (nI w)])), (a1, .inl (cI, 40, .inl F)), (a2, .inl (cI, 40, .inl G)), (t, .inr (0, [.ref b1, .ref b2, .int (nI n2), .int (nI w2)])), (b1, .inl (cI, 40, .inl F2)), (b2, .inl (cI, 40, .inl G2))]) hD hS hA [0, 1, 2, 3, 4, 5, 6] rfl
              refine xn_m (vx_runV (rest := []) CF (m_X1_rehang l hlt D cI o r t a1 a2 b1 b2 S n2 w2 F2 G2 (nI (3 + j98)) (nI j109) H.size) (cwV 2 hts gL_act_X1_rehang rfl rfl rfl k_X1_rehang ⟨Nat.le_of_ble_eq_true rfl, Nat.le_of_ble_eq_true rfl⟩) (pxm_pre hK1 hPc hDc hX (hZ.kept hS.2.1) hFc rfl rfl rfl) rfl rfl hl.1 rfl (lv_room (Nat.le_of_ble_eq_true rfl)) dL_act_249 ⟨Nat.le_of_ble_eq_true rfl, Nat.le_of_ble_eq_true rfl⟩) hS hFc (fun E st9 t9 h9 => h9.elim (fun z => z.1.2 ⟨⟨(3 + j98), by omega, by omega, rfl⟩, ⟨j109, by omega, by omega, rfl⟩⟩) (fun z => by obtain ⟨-, ⟨N9, w9, -, h40, e8, h2, e9, h8⟩, -⟩ := z; rw [← nI_inj (show (3 + j98) < 2 ^ 31 by omega) (show N9 < 2 ^ 31 by omega) e8, ← nI_inj (show j109 < 2 ^ 31 by omega) (show w9 < 2 ^ 31 by omega) e9, hHG] at h8; cases h8)) (fun r1 H locs hB hk1 hS => ?_)
              obtain ⟨N9, w9, hN3, hN40, ex, hw9, ey, T2, U2, z2, hHG2, hT2, er, F3, G3, S3, n3, w3, F4, G4, hP1⟩ := hB
              have eN : (3 + j98) = N9 := nI_inj (by omega) (by omega) ex
              have ew : j109 = w9 := nI_inj (by omega) (by omega) ey
              subst eN
              subst ew
              rw [hHG] at hHG2
              injection hHG2 with e7
              injection e7 with e8 e9
              injection e9 with e9 e10
              subst e8
              subst e9
              obtain ⟨hP, hD⟩ := jn (wb := [(o, .inr (1, [.ref r, .ref t])), (r, .inr (0, [.ref a1, .ref a2, .int (nI (3 + j98)), .int (nI j109)])), (a1, .inl (cI, 40, .inl F3)), (a2, .inl (cI, 40, .inl G3)), (t, .inr (0, [.ref b1, .ref b2, .int (nI n3), .int (nI w3)])), (b1, .inl (cI, 40, .inl F4)), (b2, .inl (cI, 40, .inl G4)), (u, .inr (2, [.int (nI j109), .ref d1, .ref d2, .ref d3])), (d1, .inl (cI, (3 + j98), .inl C4)), (d2, .inl (cI, (3 + j98), .inl V4)), (d3, .inl (cZ, (3 + j98), .inl Z4))]) (w1 := [(o, .inr (1, [.ref r, .ref t])), (r, .inr (0, [.ref a1, .ref a2, .int (nI (3 + j98)), .int (nI j109)])), (a1, .inl (cI, 40, .inl F3)), (a2, .inl (cI, 40, .inl G3)), (t, .inr (0, [.ref b1, .ref b2, .int (nI n3), .int (nI w3)])), (b1, .inl (cI, 40, .inl F4)), (b2, .inl (cI, 40, .inl G4))]) hP hD [0, 1, 2, 3, 4, 5, 6] [7, 8, 9, 10] rfl rfl rfl rfl 11 rfl (by decide) (by decide) hk1 hP1
              refine lv_iload hx hb dL_act_252 (lv_at hl 1 rfl) ?_
              refine lv_icmp_ne (tgt := 266) hx hb dL_act_254 (by decide) (fun c254 => ?_) (fun c254 => ?_)
              · skip
                exact absurd (er.trans (congrArg nI ((mv_o4 hn (by omega) (by omega) hO hHG).symm.trans h2.symm))) c254
              · skip
                refine lv_iload hx hb dL_act_257 (lv_at hl 2 rfl) ?_
                refine bz_eq (tgt := 266) hx hb dL_act_259 (by decide) (by omega) (fun c259 => ?_) (fun c259 => ?_)
                · skip
                  omega
                · skip
                  refine lv_iconst (v := nI 1) hx hb dL_act_262 (by decide) ?_
                  refine lv_goto (tgt := 267) hx hb dL_act_263 (by decide) ?_
                  refine w_widen (k := 9) (n := 160) (Nat.le_of_ble_eq_true rfl) (Nat.le_of_ble_eq_true rfl) ?_
                  exact em_z hx hb hr hlocks hS (Or.inr rfl) (⟨rfl, _, _, T, U, d1, d2, d3, _, _, F3, G3, F4, G4, C4, V4, Z4, S3, S4, (HG_ds (by omega) hO hd hHG).2, hP, hD⟩) dL_act_267
            · skip
              omega
          | succ q ih =>
            intro i a h1 ha9 h2 H locs hP hD hS ls hl
            refine lv_iload hx hb dL_act_147 (lv_at hl 0 rfl) ?_
            refine lv_aload_n hx hb dL_act_149 rfl (lv_at hl 7 rfl) ?_
            refine va_get (D := D) (ci := 2) (v := .ref c1) (C := RX2) (T := TX2) (N := 4) hx hb hts (fun _ h => (List.mem_cons_of_mem _ (List.mem_append_left _ (List.mem_append_left _ (List.mem_append_left _ (List.mem_append_left _ (List.mem_append_right _ h))))))) hown hK hP 7 rfl rfl 1 (by decide) (hts _ (List.mem_of_getElem? (i := 2) rfl)) (fun _ h9 => h9) rfl dL_act_150 ?_
            refine va_alen (v := nI n) hx hb hK hP 8 0 rfl rfl rfl dL_act_153 ?_
            refine bn_ge (tgt := 208) hx hb dL_act_154 (by decide) (by omega) (by omega) (fun c154 => ?_) (fun c154 => ?_)
            · skip
              omega
            · skip
              refine lv_iload hx hb dL_act_157 (lv_at hl 1 rfl) ?_
              refine lv_aload_n hx hb dL_act_159 rfl (lv_at hl 7 rfl) ?_
              refine va_get (D := D) (ci := 2) (v := .ref c1) (C := RX2) (T := TX2) (N := 4) hx hb hts (fun _ h => (List.mem_cons_of_mem _ (List.mem_append_left _ (List.mem_append_left _ (List.mem_append_left _ (List.mem_append_left _ (List.mem_append_right _ h))))))) hown hK hP 7 rfl rfl 1 (by decide) (hts _ (List.mem_of_getElem? (i := 2) rfl)) (fun _ h9 => h9) rfl dL_act_160 ?_
              refine lv_iload hx hb dL_act_163 (lv_at hl 0 rfl) ?_
              refine al_i hx hb hK hP 8 0 rfl rfl (by omega) (by omega) dL_act_165 ?_
              refine tp_i (y := (cn (f i))) (hC i (by omega)) ?_
              refine lv_if_lt (tgt := 198) hx hb dL_act_166 (by decide) (fun c166 => ?_) (fun c166 => ?_)
              · skip
                refine lv_iconst (v := nI 0) hx hb dL_act_198 (by decide) ?_
                refine an_add hx hb dL_act_199 ?_
                refine lv_istore (lv' := [(8, .int (nI (a + 0))), (9, .int (nI i)), (4, .int (nI 1)), (7, .ref nb), (6, .int (nI j109)), (5, .int (nI (3 + j98))), (0, .ref o), (1, .ref u), (2, .int x), (3, .int (nI v))]) hx hb dL_act_200 hl (by decide) rfl (fun ls hl => ?_)
                refine lv_iinc (v := (nI (i + 1))) (lv' := [(9, .int (nI (i + 1))), (8, .int (nI (a + 0))), (4, .int (nI 1)), (7, .ref nb), (6, .int (nI j109)), (5, .int (nI (3 + j98))), (0, .ref o), (1, .ref u), (2, .int x), (3, .int (nI v))]) hx hb dL_act_202 hl (k := 1) rfl (inc1 _) (by decide) rfl (fun ls hl => ?_)
                refine lv_goto (tgt := 147) hx hb dL_act_205 (by decide) ?_
                exact ih (i + 1) (a + 0) (by omega) (by omega) (mv_a (cn_n (not_ge0 c166)) h2) _ _ hP hD hS _ (lv_sub hl [0, 1, 2, 3, 4, 5, 6, 7, 8, 9] rfl)
              · skip
                refine lv_iload hx hb dL_act_169 (lv_at hl 0 rfl) ?_
                refine lv_iload hx hb dL_act_171 (lv_at hl 5 rfl) ?_
                refine bn_ge (tgt := 194) hx hb dL_act_173 (by decide) (by omega) (by omega) (fun c173 => ?_) (fun c173 => ?_)
                · skip
                  refine lv_iconst (v := nI 1) hx hb dL_act_194 (by decide) ?_
                  refine lv_goto (tgt := 199) hx hb dL_act_195 (by decide) ?_
                  refine an_add hx hb dL_act_199 ?_
                  refine lv_istore (lv' := [(8, .int (nI (a + 1))), (9, .int (nI i)), (4, .int (nI 1)), (7, .ref nb), (6, .int (nI j109)), (5, .int (nI (3 + j98))), (0, .ref o), (1, .ref u), (2, .int x), (3, .int (nI v))]) hx hb dL_act_200 hl (by decide) rfl (fun ls hl => ?_)
                  refine lv_iinc (v := (nI (i + 1))) (lv' := [(9, .int (nI (i + 1))), (8, .int (nI (a + 1))), (4, .int (nI 1)), (7, .ref nb), (6, .int (nI j109)), (5, .int (nI (3 + j98))), (0, .ref o), (1, .ref u), (2, .int x), (3, .int (nI v))]) hx hb dL_act_202 hl (k := 1) rfl (inc1 _) (by decide) rfl (fun ls hl => ?_)
                  refine lv_goto (tgt := 147) hx hb dL_act_205 (by decide) ?_
                  exact ih (i + 1) (a + 1) (by omega) (by omega) (mv_c (cn_d c166) (by rw [o4_out c173]; exact fun e9 => ge_m1 (cn_d c166) e9.symm) h2) _ _ hP hD hS _ (lv_sub hl [0, 1, 2, 3, 4, 5, 6, 7, 8, 9] rfl)
                · skip
                  refine lv_aload hx hb dL_act_176 (lv_at hl 3 rfl) ?_
                  refine va_get (D := D) (ci := 2) (v := .ref d1) (C := RX2) (T := TX2) (N := 4) hx hb hts (fun _ h => (List.mem_cons_of_mem _ (List.mem_append_left _ (List.mem_append_left _ (List.mem_append_left _ (List.mem_append_left _ (List.mem_append_right _ h))))))) hown hK hP 11 rfl rfl 1 (by decide) (hts _ (List.mem_of_getElem? (i := 2) rfl)) (fun _ h9 => h9) rfl dL_act_178 ?_
                  refine lv_iload hx hb dL_act_181 (lv_at hl 0 rfl) ?_
                  refine al_i hx hb hK hP 12 0 rfl rfl (by omega) (by omega) dL_act_183 ?_
                  refine tp_i (y := (cn (T i))) (S4.2.2.2.1 i (by omega)) ?_
                  refine lv_aload_n hx hb dL_act_184 rfl (lv_at hl 7 rfl) ?_
                  refine va_get (D := D) (ci := 2) (v := .ref c1) (C := RX2) (T := TX2) (N := 4) hx hb hts (fun _ h => (List.mem_cons_of_mem _ (List.mem_append_left _ (List.mem_append_left _ (List.mem_append_left _ (List.mem_append_left _ (List.mem_append_right _ h))))))) hown hK hP 7 rfl rfl 1 (by decide) (hts _ (List.mem_of_getElem? (i := 2) rfl)) (fun _ h9 => h9) rfl dL_act_185 ?_
                  refine lv_iload hx hb dL_act_188 (lv_at hl 0 rfl) ?_
                  refine al_i hx hb hK hP 8 0 rfl rfl (by omega) (by omega) dL_act_190 ?_
                  refine tp_i (y := (cn (f i))) (hC i (by omega)) ?_
                  refine lv_icmp_eq (tgt := 198) hx hb dL_act_191 (by decide) (fun c191 => ?_) (fun c191 => ?_)
                  · skip
                    refine lv_iconst (v := nI 0) hx hb dL_act_198 (by decide) ?_
                    refine an_add hx hb dL_act_199 ?_
                    refine lv_istore (lv' := [(8, .int (nI (a + 0))), (9, .int (nI i)), (4, .int (nI 1)), (7, .ref nb), (6, .int (nI j109)), (5, .int (nI (3 + j98))), (0, .ref o), (1, .ref u), (2, .int x), (3, .int (nI v))]) hx hb dL_act_200 hl (by decide) rfl (fun ls hl => ?_)
                    refine lv_iinc (v := (nI (i + 1))) (lv' := [(9, .int (nI (i + 1))), (8, .int (nI (a + 0))), (4, .int (nI 1)), (7, .ref nb), (6, .int (nI j109)), (5, .int (nI (3 + j98))), (0, .ref o), (1, .ref u), (2, .int x), (3, .int (nI v))]) hx hb dL_act_202 hl (k := 1) rfl (inc1 _) (by decide) rfl (fun ls hl => ?_)
                    refine lv_goto (tgt := 147) hx hb dL_act_205 (by decide) ?_
                    exact ih (i + 1) (a + 0) (by omega) (by omega) (mv_b (by rw [o4_in c173]; exact cn_eq (cn_d c166) c191) h2) _ _ hP hD hS _ (lv_sub hl [0, 1, 2, 3, 4, 5, 6, 7, 8, 9] rfl)
                  · skip
                    refine lv_iconst (v := nI 1) hx hb dL_act_194 (by decide) ?_
                    refine lv_goto (tgt := 199) hx hb dL_act_195 (by decide) ?_
                    refine an_add hx hb dL_act_199 ?_
                    refine lv_istore (lv' := [(8, .int (nI (a + 1))), (9, .int (nI i)), (4, .int (nI 1)), (7, .ref nb), (6, .int (nI j109)), (5, .int (nI (3 + j98))), (0, .ref o), (1, .ref u), (2, .int x), (3, .int (nI v))]) hx hb dL_act_200 hl (by decide) rfl (fun ls hl => ?_)
                    refine lv_iinc (v := (nI (i + 1))) (lv' := [(9, .int (nI (i + 1))), (8, .int (nI (a + 1))), (4, .int (nI 1)), (7, .ref nb), (6, .int (nI j109)), (5, .int (nI (3 + j98))), (0, .ref o), (1, .ref u), (2, .int x), (3, .int (nI v))]) hx hb dL_act_202 hl (k := 1) rfl (inc1 _) (by decide) rfl (fun ls hl => ?_)
                    refine lv_goto (tgt := 147) hx hb dL_act_205 (by decide) ?_
                    exact ih (i + 1) (a + 1) (by omega) (by omega) (mv_c (cn_d c166) (by rw [o4_in c173]; exact fun e9 => c191 (by rw [e9])) h2) _ _ hP hD hS _ (lv_sub hl [0, 1, 2, 3, 4, 5, 6, 7, 8, 9] rfl)
        exact LP147 n 0 0 (Nat.zero_add n) (Nat.le_refl 0) rfl _ _ hP hD hS _ (lv_sub hl [0, 1, 2, 3, 4, 5, 6, 7, 8, 9] rfl)
  have M268 : ∀ (v : Nat), v ≤ 9999 → ∀ (H : Heap) (locs : List Loc), va_P D vwCl [(o, .inr (1, [.ref r, .ref t])), (r, .inr (0, [.ref a1, .ref a2, .int (nI n), .int (nI w)])), (a1, .inl (cI, 40, .inl F)), (a2, .inl (cI, 40, .inl G)), (t, .inr (0, [.ref b1, .ref b2, .int (nI n2), .int (nI w2)])), (b1, .inl (cI, 40, .inl F2)), (b2, .inl (cI, 40, .inl G2)), (u, .inr (2, [.int (nI w), .ref c1, .ref c2, .ref c3])), (c1, .inl (cI, n, .inl C)), (c2, .inl (cI, n, .inl V)), (c3, .inl (cZ, n, .inl Z))] H → va_D A [(o, .inr (1, [.ref r, .ref t])), (r, .inr (0, [.ref a1, .ref a2, .int (nI n), .int (nI w)])), (a1, .inl (cI, 40, .inl F)), (a2, .inl (cI, 40, .inl G)), (t, .inr (0, [.ref b1, .ref b2, .int (nI n2), .int (nI w2)])), (b1, .inl (cI, 40, .inl F2)), (b2, .inl (cI, 40, .inl G2)), (u, .inr (2, [.int (nI w), .ref c1, .ref c2, .ref c3])), (c1, .inl (cI, n, .inl C)), (c2, .inl (cI, n, .inl V)), (c3, .inl (cZ, n, .inl Z))] → va_S A s.heap H locs → ∀ (ls : Array Slot), lv_has ls 10 [(0, .ref o), (1, .ref u), (2, .int x), (3, .int (nI v)), (4, .int (nI 1))] → W p l e ({ frames := 8, cells := 9, slots := 160, locals := 134 } : Room) s m args below meth c H locs 0 0 (MQ below (qm_i ((fun (A : Nat → Prop) (rr : Int32) (H1 : Heap) => rr = nI 1 ∧ ∃ (n w : Nat) (f g : Nat → Int32), JJ D cI cZ o r t a1 a2 b1 b2 u A H1 n w f g) A) A) args s 9 160 A) (F0 m 268 ls []) := by
    intro v hv9 H locs hP hD hS ls hl
    refine lv_iload_n hx hb dL_act_268 rfl (lv_at hl 2 rfl) ?_
    refine lv_iconst (v := nI 5) hx hb dL_act_269 (by decide) ?_
    refine lv_ishr hx hb dL_act_270 ?_
    refine lv_iconst (v := nI 3) hx hb dL_act_271 (by decide) ?_
    refine pz_p (wc := []) CF (m_L_below l D cI cZ (x >>> ((nI 5) &&& 31)) 3 (by omega) (by omega)) (va_cwS 2 hts gL_act_L_below rfl rfl rfl k_L_below.2 ⟨Nat.le_of_ble_eq_true rfl, Nat.le_of_ble_eq_true rfl⟩) hK (fun k q h => by simp at h) rfl hl.1 rfl (Nat.le_of_ble_eq_true rfl) dL_act_272 ⟨Nat.le_of_ble_eq_true rfl, Nat.le_of_ble_eq_true rfl⟩ (fun r1 hr1 => ?_)
    obtain ⟨j272, hj272, ej272⟩ := hr1
    refine tp_i (y := nI j272) ej272 ?_
    refine bz_le (tgt := 280) hx hb dL_act_275 (by decide) (by omega) (fun c275 => ?_) (fun c275 => ?_)
    · skip
      refine lv_aload_n hx hb dL_act_280 rfl (lv_at hl 0 rfl) ?_
      have hKc := hK1
      have hPc : va_P D vwCl [(o, .inr (1, [.ref r, .ref t])), (r, .inr (0, [.ref a1, .ref a2, .int (nI n), .int (nI w)])), (a1, .inl (cI, 40, .inl F)), (a2, .inl (cI, 40, .inl G)), (t, .inr (0, [.ref b1, .ref b2, .int (nI n2), .int (nI w2)])), (b1, .inl (cI, 40, .inl F2)), (b2, .inl (cI, 40, .inl G2))] H := hP.sub [0, 1, 2, 3, 4, 5, 6] rfl
      have hDc : va_D A [(o, .inr (1, [.ref r, .ref t])), (r, .inr (0, [.ref a1, .ref a2, .int (nI n), .int (nI w)])), (a1, .inl (cI, 40, .inl F)), (a2, .inl (cI, 40, .inl G)), (t, .inr (0, [.ref b1, .ref b2, .int (nI n2), .int (nI w2)])), (b1, .inl (cI, 40, .inl F2)), (b2, .inl (cI, 40, .inl G2))] := hD.sub [0, 1, 2, 3, 4, 5, 6] (by decide) rfl
      have hFc := va_free (wc := [(o, .inr (1, [.ref r, .ref t])), (r, .inr (0, [.ref a1, .ref a2, .int (nI n), .int (nI w)])), (a1, .inl (cI, 40, .inl F)), (a2, .inl (cI, 40, .inl G)), (t, .inr (0, [.ref b1, .ref b2, .int (nI n2), .int (nI w2)])), (b1, .inl (cI, 40, .inl F2)), (b2, .inl (cI, 40, .inl G2))]) hD hS hA [0, 1, 2, 3, 4, 5, 6] rfl
      refine pq_i (va_runV (rest := []) CF (m_X1_sweep l D cI o r t a1 a2 b1 b2 S n2 w2 F2 G2  H.size) (cwV 0 hts gL_act_X1_sweep rfl rfl rfl k_X1_sweep ⟨Nat.le_of_ble_eq_true rfl, Nat.le_of_ble_eq_true rfl⟩) (mv_pre hKc hPc hDc rfl rfl rfl) rfl rfl hl.1 rfl (lv_room (Nat.le_of_ble_eq_true rfl)) dL_act_281 ⟨Nat.le_of_ble_eq_true rfl, Nat.le_of_ble_eq_true rfl⟩) hS hFc (fun r1 H locs hB hk1 hS => ?_)
      obtain ⟨e1, F3, G3, S3, hP1⟩ := hB
      obtain ⟨hP, hD⟩ := jn (wb := [(o, .inr (1, [.ref r, .ref t])), (r, .inr (0, [.ref a1, .ref a2, .int (nI n), .int (nI w)])), (a1, .inl (cI, 40, .inl F3)), (a2, .inl (cI, 40, .inl G3)), (t, .inr (0, [.ref b1, .ref b2, .int (nI n2), .int (nI w2)])), (b1, .inl (cI, 40, .inl F2)), (b2, .inl (cI, 40, .inl G2)), (u, .inr (2, [.int (nI w), .ref c1, .ref c2, .ref c3])), (c1, .inl (cI, n, .inl C)), (c2, .inl (cI, n, .inl V)), (c3, .inl (cZ, n, .inl Z))]) (w1 := [(o, .inr (1, [.ref r, .ref t])), (r, .inr (0, [.ref a1, .ref a2, .int (nI n), .int (nI w)])), (a1, .inl (cI, 40, .inl F3)), (a2, .inl (cI, 40, .inl G3)), (t, .inr (0, [.ref b1, .ref b2, .int (nI n2), .int (nI w2)])), (b1, .inl (cI, 40, .inl F2)), (b2, .inl (cI, 40, .inl G2))]) hP hD [0, 1, 2, 3, 4, 5, 6] [7, 8, 9, 10] rfl rfl rfl rfl 11 rfl (by decide) (by decide) hk1 hP1
      refine lv_aload_n hx hb dL_act_284 rfl (lv_at hl 1 rfl) ?_
      have hPc : va_P D vwCl [(u, .inr (2, [.int (nI w), .ref c1, .ref c2, .ref c3])), (c1, .inl (cI, n, .inl C)), (c2, .inl (cI, n, .inl V)), (c3, .inl (cZ, n, .inl Z))] H := hP.sub [7, 8, 9, 10] rfl
      have hDc : va_D A [(u, .inr (2, [.int (nI w), .ref c1, .ref c2, .ref c3])), (c1, .inl (cI, n, .inl C)), (c2, .inl (cI, n, .inl V)), (c3, .inl (cZ, n, .inl Z))] := hD.sub [7, 8, 9, 10] (by decide) rfl
      have hFc := va_free (wc := [(u, .inr (2, [.int (nI w), .ref c1, .ref c2, .ref c3])), (c1, .inl (cI, n, .inl C)), (c2, .inl (cI, n, .inl V)), (c3, .inl (cZ, n, .inl Z))]) hD hS hA [7, 8, 9, 10] rfl
      refine pq_i (va_runV (As := []) (rest := [.int r1]) CF (m_X2_sweep l D cI cZ u c1 c2 c3 S2 H.size) (cwV 0 hts gL_act_X2_sweep rfl rfl rfl k_X2_sweep ⟨Nat.le_of_ble_eq_true rfl, Nat.le_of_ble_eq_true rfl⟩) (mv_pre hK hPc hDc rfl rfl rfl) rfl rfl hl.1 rfl (lv_room (Nat.le_of_ble_eq_true rfl)) dL_act_285 ⟨Nat.le_of_ble_eq_true rfl, Nat.le_of_ble_eq_true rfl⟩) hS hFc (fun r2 H locs hB hk1 hS => ?_)
      obtain ⟨e2, c4, Z4, S4, hP1, hD1⟩ := hB
      obtain ⟨hP, hD⟩ := va_join (wr := [(o, .inr (1, [.ref r, .ref t])), (r, .inr (0, [.ref a1, .ref a2, .int (nI n), .int (nI w)])), (a1, .inl (cI, 40, .inl F3)), (a2, .inl (cI, 40, .inl G3)), (t, .inr (0, [.ref b1, .ref b2, .int (nI n2), .int (nI w2)])), (b1, .inl (cI, 40, .inl F2)), (b2, .inl (cI, 40, .inl G2))]) (w1 := [(u, .inr (2, [.int (nI w), .ref c1, .ref c2, .ref c4])), (c1, .inl (cI, n, .inl C)), (c2, .inl (cI, n, .inl V)), (c4, .inl (cZ, n, .inl Z4))]) hP hD [7, 8, 9, 10] [0, 1, 2, 3, 4, 5, 6] rfl rfl (by decide) (by decide) hk1 hFc hP1 hD1
      have hP : va_P D vwCl [(o, .inr (1, [.ref r, .ref t])), (r, .inr (0, [.ref a1, .ref a2, .int (nI n), .int (nI w)])), (a1, .inl (cI, 40, .inl F3)), (a2, .inl (cI, 40, .inl G3)), (t, .inr (0, [.ref b1, .ref b2, .int (nI n2), .int (nI w2)])), (b1, .inl (cI, 40, .inl F2)), (b2, .inl (cI, 40, .inl G2)), (u, .inr (2, [.int (nI w), .ref c1, .ref c2, .ref c4])), (c1, .inl (cI, n, .inl C)), (c2, .inl (cI, n, .inl V)), (c4, .inl (cZ, n, .inl Z4))] H := hP
      have hD : va_D A [(o, .inr (1, [.ref r, .ref t])), (r, .inr (0, [.ref a1, .ref a2, .int (nI n), .int (nI w)])), (a1, .inl (cI, 40, .inl F3)), (a2, .inl (cI, 40, .inl G3)), (t, .inr (0, [.ref b1, .ref b2, .int (nI n2), .int (nI w2)])), (b1, .inl (cI, 40, .inl F2)), (b2, .inl (cI, 40, .inl G2)), (u, .inr (2, [.int (nI w), .ref c1, .ref c2, .ref c4])), (c1, .inl (cI, n, .inl C)), (c2, .inl (cI, n, .inl V)), (c4, .inl (cZ, n, .inl Z4))] := hD
      refine lv_icmp_ne (tgt := 295) hx hb dL_act_288 (by decide) (fun c288 => ?_) (fun c288 => ?_)
      · skip
        exact absurd (e1.trans e2.symm) c288
      · skip
        refine lv_iconst (v := nI 1) hx hb dL_act_291 (by decide) ?_
        refine lv_goto (tgt := 296) hx hb dL_act_292 (by decide) ?_
        refine w_widen (k := 9) (n := 160) (Nat.le_of_ble_eq_true rfl) (Nat.le_of_ble_eq_true rfl) ?_
        exact em_z hx hb hr hlocks hS (Or.inr rfl) (⟨rfl, n, w, _, g, c1, c2, c4, n2, w2, F3, G3, F2, G2, C, V, Z4, S3, S4, Ds_swp (by omega) hd, hP, hD⟩) dL_act_296
    · skip
      refine lv_iconst (v := nI 1) hx hb dL_act_278 (by decide) ?_
      refine w_widen (k := 9) (n := 160) (Nat.le_of_ble_eq_true rfl) (Nat.le_of_ble_eq_true rfl) ?_
      exact em_z hx hb hr hlocks hS (Or.inr rfl) (⟨rfl, n, w, f, g, c1, c2, c3, n2, w2, F, G, F2, G2, C, V, Z, S, S2, hd, hP, hD⟩) dL_act_279
  have M339 : ∀ (v : Nat), v ≤ 9999 → ∀ (H : Heap) (locs : List Loc), va_P D vwCl [(o, .inr (1, [.ref r, .ref t])), (r, .inr (0, [.ref a1, .ref a2, .int (nI n), .int (nI w)])), (a1, .inl (cI, 40, .inl F)), (a2, .inl (cI, 40, .inl G)), (t, .inr (0, [.ref b1, .ref b2, .int (nI n2), .int (nI w2)])), (b1, .inl (cI, 40, .inl F2)), (b2, .inl (cI, 40, .inl G2)), (u, .inr (2, [.int (nI w), .ref c1, .ref c2, .ref c3])), (c1, .inl (cI, n, .inl C)), (c2, .inl (cI, n, .inl V)), (c3, .inl (cZ, n, .inl Z))] H → va_D A [(o, .inr (1, [.ref r, .ref t])), (r, .inr (0, [.ref a1, .ref a2, .int (nI n), .int (nI w)])), (a1, .inl (cI, 40, .inl F)), (a2, .inl (cI, 40, .inl G)), (t, .inr (0, [.ref b1, .ref b2, .int (nI n2), .int (nI w2)])), (b1, .inl (cI, 40, .inl F2)), (b2, .inl (cI, 40, .inl G2)), (u, .inr (2, [.int (nI w), .ref c1, .ref c2, .ref c3])), (c1, .inl (cI, n, .inl C)), (c2, .inl (cI, n, .inl V)), (c3, .inl (cZ, n, .inl Z))] → va_S A s.heap H locs → ∀ (ls : Array Slot), lv_has ls 10 [(0, .ref o), (1, .ref u), (2, .int x), (3, .int (nI v)), (4, .int (nI 1))] → W p l e ({ frames := 8, cells := 9, slots := 160, locals := 134 } : Room) s m args below meth c H locs 0 0 (MQ below (qm_i ((fun (A : Nat → Prop) (rr : Int32) (H1 : Heap) => rr = nI 1 ∧ ∃ (n w : Nat) (f g : Nat → Int32), JJ D cI cZ o r t a1 a2 b1 b2 u A H1 n w f g) A) A) args s 9 160 A) (F0 m 339 ls []) := by
    intro v hv9 H locs hP hD hS ls hl
    refine lv_aload_n hx hb dL_act_339 rfl (lv_at hl 1 rfl) ?_
    refine lv_iload_n hx hb dL_act_340 rfl (lv_at hl 3 rfl) ?_
    refine pv_i CF (m_X2_find l D cI cZ u c1 c2 c3 S2 v hv9) (cwV 1 hts gL_act_X2_find rfl rfl rfl k_X2_find ⟨Nat.le_of_ble_eq_true rfl, Nat.le_of_ble_eq_true rfl⟩) hK (hP.sub [7, 8, 9, 10] rfl) rfl rfl rfl rfl hl.1 rfl (Nat.le_of_ble_eq_true rfl) dL_act_341 ⟨Nat.le_of_ble_eq_true rfl, Nat.le_of_ble_eq_true rfl⟩ ?_
    refine lv_istore (lv' := [(6, .int (fd n w f v)), (0, .ref o), (1, .ref u), (2, .int x), (3, .int (nI v)), (4, .int (nI 1))]) hx hb dL_act_344 hl (by decide) rfl (fun ls hl => ?_)
    refine lv_iload hx hb dL_act_346 (lv_at hl 0 rfl) ?_
    refine lv_if_lt (tgt := 355) hx hb dL_act_348 (by decide) (fun c348 => ?_) (fun c348 => ?_)
    · skip
      have hfm := fd_m1 (show 0 < n by omega) hn c348
      refine lv_iconst (v := nI 0) hx hb dL_act_355 (by decide) ?_
      refine lv_istore (lv' := [(4, .int (nI 0)), (6, .int (fd n w f v)), (0, .ref o), (1, .ref u), (2, .int x), (3, .int (nI v))]) hx hb dL_act_356 hl (by decide) rfl (fun ls hl => ?_)
      refine lv_iload hx hb dL_act_358 (lv_at hl 0 rfl) ?_
      refine bz_eq (tgt := 373) hx hb dL_act_360 (by decide) (by omega) (fun c360 => ?_) (fun c360 => ?_)
      · skip
        refine lv_iconst (v := nI 0) hx hb dL_act_373 (by decide) ?_
        refine lv_istore (lv' := [(7, .int (nI 0)), (4, .int (nI 0)), (6, .int (fd n w f v)), (0, .ref o), (1, .ref u), (2, .int x), (3, .int (nI v))]) hx hb dL_act_374 hl (by decide) rfl (fun ls hl => ?_)
        refine lv_iload hx hb dL_act_376 (lv_at hl 1 rfl) ?_
        refine bz_eq (tgt := 397) hx hb dL_act_378 (by decide) (by omega) (fun c378 => ?_) (fun c378 => ?_)
        · skip
          refine lv_aload_n hx hb dL_act_397 rfl (lv_at hl 3 rfl) ?_
          refine lv_iload_n hx hb dL_act_398 rfl (lv_at hl 6 rfl) ?_
          have hPc : va_P D vwCl [(o, .inr (1, [.ref r, .ref t])), (r, .inr (0, [.ref a1, .ref a2, .int (nI n), .int (nI w)])), (a1, .inl (cI, 40, .inl F)), (a2, .inl (cI, 40, .inl G)), (t, .inr (0, [.ref b1, .ref b2, .int (nI n2), .int (nI w2)])), (b1, .inl (cI, 40, .inl F2)), (b2, .inl (cI, 40, .inl G2))] H := hP.sub [0, 1, 2, 3, 4, 5, 6] rfl
          have hDc : va_D A [(o, .inr (1, [.ref r, .ref t])), (r, .inr (0, [.ref a1, .ref a2, .int (nI n), .int (nI w)])), (a1, .inl (cI, 40, .inl F)), (a2, .inl (cI, 40, .inl G)), (t, .inr (0, [.ref b1, .ref b2, .int (nI n2), .int (nI w2)])), (b1, .inl (cI, 40, .inl F2)), (b2, .inl (cI, 40, .inl G2))] := hD.sub [0, 1, 2, 3, 4, 5, 6] (by decide) rfl
          have hFc := va_free (wc := [(o, .inr (1, [.ref r, .ref t])), (r, .inr (0, [.ref a1, .ref a2, .int (nI n), .int (nI w)])), (a1, .inl (cI, 40, .inl F)), (a2, .inl (cI, 40, .inl G)), (t, .inr (0, [.ref b1, .ref b2, .int (nI n2), .int (nI w2)])), (b1, .inl (cI, 40, .inl F2)), (b2, .inl (cI, 40, .inl G2))]) hD hS hA [0, 1, 2, 3, 4, 5, 6] rfl
          refine xw_m (vx_runV (rest := []) CF (m_X1_take l hlt D cI o r t a1 a2 b1 b2 S n2 w2 F2 G2 (nI v) H.size) (cwV 1 hts gL_act_X1_take rfl rfl rfl k_X1_take ⟨Nat.le_of_ble_eq_true rfl, Nat.le_of_ble_eq_true rfl⟩) (pxm_pre hK1 hPc hDc hX (hZ.kept hS.2.1) hFc rfl rfl rfl) rfl rfl hl.1 rfl (lv_room (Nat.le_of_ble_eq_true rfl)) dL_act_399 ⟨Nat.le_of_ble_eq_true rfl, Nat.le_of_ble_eq_true rfl⟩) hS hFc xk_F (fun E ce q9 st9 t9 locs hst hXC hz hk hS hce hcv hcl => ?_) (fun r1 H locs hB hk1 hS => ?_)
          · skip
            obtain ⟨hE, hz2, hk2⟩ := hXC
            rw [hst] at hk2
            have hP : va_P D vwCl [(o, .inr (1, [.ref r, .ref t])), (r, .inr (0, [.ref a1, .ref a2, .int (nI n), .int (nI w)])), (a1, .inl (cI, 40, .inl F)), (a2, .inl (cI, 40, .inl G)), (t, .inr (0, [.ref b1, .ref b2, .int (nI n2), .int (nI w2)])), (b1, .inl (cI, 40, .inl F2)), (b2, .inl (cI, 40, .inl G2)), (u, .inr (2, [.int (nI w), .ref c1, .ref c2, .ref c3])), (c1, .inl (cI, n, .inl C)), (c2, .inl (cI, n, .inl V)), (c3, .inl (cZ, n, .inl Z))] t9.heap := hP.kept (fun k q hk9 => hk2 q.1 ((hP k q hk9).lt))
            rcases hE with ⟨rfl, hno⟩ | ⟨rfl, -⟩
            · exact absurd (show rg 0 9999 (nI v) from ⟨v, Nat.zero_le _, hv9, rfl⟩) hno
            refine vx_catch (own := RL) (name := "java/lang/IllegalStateException") hown [⟨46, 267, 486, 62⟩, ⟨268, 279, 486, 62⟩, ⟨280, 296, 486, 62⟩] ⟨297, 417, 486, 62⟩ [⟨418, 485, 486, 62⟩] tb (fun z hz => by simp only [List.mem_cons, List.mem_nil_iff, or_false] at hz; rcases hz with rfl | rfl | rfl <;> exact Or.inl rfl) rfl (by decide) (hts _ (List.mem_of_getElem? (i := 1) rfl)) (va_Nw.use rfl (hX.1 _ (List.mem_of_getElem? (i := 4) rfl))) hce hcv hcl ?_
            refine lv_astore (lv' := [(5, .ref q9), (7, .int (nI 0)), (4, .int (nI 0)), (6, .int (fd n w f v)), (0, .ref o), (1, .ref u), (2, .int x), (3, .int (nI v))]) hx hb dL_act_486 hl (by decide) rfl (fun ls hl => ?_)
            refine lv_iload hx hb dL_act_488 (lv_at hl 2 rfl) ?_
            refine bz_ne (tgt := 497) hx hb dL_act_490 (by decide) (by omega) (fun c490 => ?_) (fun c490 => ?_)
            · skip
              omega
            · skip
              refine lv_iconst (v := nI 1) hx hb dL_act_493 (by decide) ?_
              refine lv_goto (tgt := 498) hx hb dL_act_494 (by decide) ?_
              refine w_widen (k := 9) (n := 160) (Nat.le_of_ble_eq_true rfl) (Nat.le_of_ble_eq_true rfl) ?_
              exact em_z hx hb hr hlocks hS (Or.inr rfl) (⟨rfl, n, w, f, g, c1, c2, c3, _, _, F, G, _, _, C, V, Z, S, S2, hd, hP, hD⟩) dL_act_498
          · skip
            obtain ⟨v9, hv8, ex, hfd, -⟩ := hB; rw [← nI_inj (show v < 2 ^ 31 by omega) (show v9 < 2 ^ 31 by omega) ex, hfm] at hfd; exact absurd hfd.symm (ne_m1 (by have := la_lt (show 0 < n by omega) w f v; omega))
        · skip
          omega
      · skip
        omega
    · skip
      obtain ⟨efd, hfl⟩ := fd_cases (show 0 < n by omega) hn (nlt_m1 c348)
      rw [efd] at hl
      have hla := la_lt (show 0 < n by omega) w f v
      refine lv_iconst (v := nI 1) hx hb dL_act_351 (by decide) ?_
      refine lv_goto (tgt := 356) hx hb dL_act_352 (by decide) ?_
      refine lv_istore (lv' := [(4, .int (nI 1)), (6, .int (nI (la n w f v))), (0, .ref o), (1, .ref u), (2, .int x), (3, .int (nI v))]) hx hb dL_act_356 hl (by decide) rfl (fun ls hl => ?_)
      refine lv_iload hx hb dL_act_358 (lv_at hl 0 rfl) ?_
      refine bz_eq (tgt := 373) hx hb dL_act_360 (by decide) (by omega) (fun c360 => ?_) (fun c360 => ?_)
      · skip
        omega
      · skip
        refine lv_aload_n hx hb dL_act_363 rfl (lv_at hl 3 rfl) ?_
        refine va_get (D := D) (ci := 2) (v := .ref c2) (C := RX2) (T := TX2) (N := 4) hx hb hts (fun _ h => (List.mem_cons_of_mem _ (List.mem_append_left _ (List.mem_append_left _ (List.mem_append_left _ (List.mem_append_left _ (List.mem_append_right _ h))))))) hown hK hP 7 rfl rfl 2 (by decide) (hts _ (List.mem_of_getElem? (i := 4) rfl)) (fun _ h9 => h9) rfl dL_act_364 ?_
        refine lv_iload hx hb dL_act_367 (lv_at hl 1 rfl) ?_
        refine al_i hx hb hK hP 9 0 rfl rfl (by omega) (by omega) dL_act_369 ?_
        refine tp_i (y := (g (la n w f v))) (hV _ (la_lt (by omega) w f v) (by rw [hfl]; exact nI_pos' (by omega))) ?_
        refine lv_goto (tgt := 374) hx hb dL_act_370 (by decide) ?_
        refine lv_istore (lv' := [(7, .int (g (la n w f v))), (4, .int (nI 1)), (6, .int (nI (la n w f v))), (0, .ref o), (1, .ref u), (2, .int x), (3, .int (nI v))]) hx hb dL_act_374 hl (by decide) rfl (fun ls hl => ?_)
        refine lv_iload hx hb dL_act_376 (lv_at hl 1 rfl) ?_
        refine bz_eq (tgt := 397) hx hb dL_act_378 (by decide) (by omega) (fun c378 => ?_) (fun c378 => ?_)
        · skip
          omega
        · skip
          refine lv_aload_n hx hb dL_act_381 rfl (lv_at hl 4 rfl) ?_
          refine va_get (D := D) (ci := 2) (v := .ref c1) (C := RX2) (T := TX2) (N := 4) hx hb hts (fun _ h => (List.mem_cons_of_mem _ (List.mem_append_left _ (List.mem_append_left _ (List.mem_append_left _ (List.mem_append_left _ (List.mem_append_right _ h))))))) hown hK hP 7 rfl rfl 1 (by decide) (hts _ (List.mem_of_getElem? (i := 2) rfl)) (fun _ h9 => h9) rfl dL_act_382 ?_
          refine lv_iload hx hb dL_act_385 (lv_at hl 2 rfl) ?_
          refine lv_iconst (v := (-1)) hx hb dL_act_387 (by decide) ?_
          refine as_i hx hb hK hP hD hS 8 0 rfl rfl (k := (la n w f v)) (by omega) (by omega) dL_act_388 (fun H locs hP hD hS => ?_)
          have hP : va_P D vwCl [(o, .inr (1, [.ref r, .ref t])), (r, .inr (0, [.ref a1, .ref a2, .int (nI n), .int (nI w)])), (a1, .inl (cI, 40, .inl F)), (a2, .inl (cI, 40, .inl G)), (t, .inr (0, [.ref b1, .ref b2, .int (nI n2), .int (nI w2)])), (b1, .inl (cI, 40, .inl F2)), (b2, .inl (cI, 40, .inl G2)), (u, .inr (2, [.int (nI w), .ref c1, .ref c2, .ref c3])), (c1, .inl (cI, n, .inl (upd C (la n w f v) (-1)))), (c2, .inl (cI, n, .inl V)), (c3, .inl (cZ, n, .inl Z))] H := hP
          have hD : va_D A [(o, .inr (1, [.ref r, .ref t])), (r, .inr (0, [.ref a1, .ref a2, .int (nI n), .int (nI w)])), (a1, .inl (cI, 40, .inl F)), (a2, .inl (cI, 40, .inl G)), (t, .inr (0, [.ref b1, .ref b2, .int (nI n2), .int (nI w2)])), (b1, .inl (cI, 40, .inl F2)), (b2, .inl (cI, 40, .inl G2)), (u, .inr (2, [.int (nI w), .ref c1, .ref c2, .ref c3])), (c1, .inl (cI, n, .inl (upd C (la n w f v) (-1)))), (c2, .inl (cI, n, .inl V)), (c3, .inl (cZ, n, .inl Z))] := hD
          refine lv_aload_n hx hb dL_act_389 rfl (lv_at hl 4 rfl) ?_
          refine va_get (D := D) (ci := 2) (v := .ref c3) (C := RX2) (T := TX2) (N := 4) hx hb hts (fun _ h => (List.mem_cons_of_mem _ (List.mem_append_left _ (List.mem_append_left _ (List.mem_append_left _ (List.mem_append_left _ (List.mem_append_right _ h))))))) hown hK hP 7 rfl rfl 3 (by decide) (hts _ (List.mem_of_getElem? (i := 5) rfl)) (fun _ h9 => h9) rfl dL_act_390 ?_
          refine lv_iload hx hb dL_act_393 (lv_at hl 2 rfl) ?_
          refine lv_iconst (v := nI 1) hx hb dL_act_395 (by decide) ?_
          refine as_z hx hb hK hP hD hS 10 1 rfl rfl (k := (la n w f v)) nar_1 (by omega) (by omega) dL_act_396 (fun H locs hP hD hS => ?_)
          have hP : va_P D vwCl [(o, .inr (1, [.ref r, .ref t])), (r, .inr (0, [.ref a1, .ref a2, .int (nI n), .int (nI w)])), (a1, .inl (cI, 40, .inl F)), (a2, .inl (cI, 40, .inl G)), (t, .inr (0, [.ref b1, .ref b2, .int (nI n2), .int (nI w2)])), (b1, .inl (cI, 40, .inl F2)), (b2, .inl (cI, 40, .inl G2)), (u, .inr (2, [.int (nI w), .ref c1, .ref c2, .ref c3])), (c1, .inl (cI, n, .inl (upd C (la n w f v) (-1)))), (c2, .inl (cI, n, .inl V)), (c3, .inl (cZ, n, .inl (upd Z (la n w f v) (nI 1))))] H := hP
          have hD : va_D A [(o, .inr (1, [.ref r, .ref t])), (r, .inr (0, [.ref a1, .ref a2, .int (nI n), .int (nI w)])), (a1, .inl (cI, 40, .inl F)), (a2, .inl (cI, 40, .inl G)), (t, .inr (0, [.ref b1, .ref b2, .int (nI n2), .int (nI w2)])), (b1, .inl (cI, 40, .inl F2)), (b2, .inl (cI, 40, .inl G2)), (u, .inr (2, [.int (nI w), .ref c1, .ref c2, .ref c3])), (c1, .inl (cI, n, .inl (upd C (la n w f v) (-1)))), (c2, .inl (cI, n, .inl V)), (c3, .inl (cZ, n, .inl (upd Z (la n w f v) (nI 1))))] := hD
          refine lv_aload_n hx hb dL_act_397 rfl (lv_at hl 3 rfl) ?_
          refine lv_iload_n hx hb dL_act_398 rfl (lv_at hl 6 rfl) ?_
          have hPc : va_P D vwCl [(o, .inr (1, [.ref r, .ref t])), (r, .inr (0, [.ref a1, .ref a2, .int (nI n), .int (nI w)])), (a1, .inl (cI, 40, .inl F)), (a2, .inl (cI, 40, .inl G)), (t, .inr (0, [.ref b1, .ref b2, .int (nI n2), .int (nI w2)])), (b1, .inl (cI, 40, .inl F2)), (b2, .inl (cI, 40, .inl G2))] H := hP.sub [0, 1, 2, 3, 4, 5, 6] rfl
          have hDc : va_D A [(o, .inr (1, [.ref r, .ref t])), (r, .inr (0, [.ref a1, .ref a2, .int (nI n), .int (nI w)])), (a1, .inl (cI, 40, .inl F)), (a2, .inl (cI, 40, .inl G)), (t, .inr (0, [.ref b1, .ref b2, .int (nI n2), .int (nI w2)])), (b1, .inl (cI, 40, .inl F2)), (b2, .inl (cI, 40, .inl G2))] := hD.sub [0, 1, 2, 3, 4, 5, 6] (by decide) rfl
          have hFc := va_free (wc := [(o, .inr (1, [.ref r, .ref t])), (r, .inr (0, [.ref a1, .ref a2, .int (nI n), .int (nI w)])), (a1, .inl (cI, 40, .inl F)), (a2, .inl (cI, 40, .inl G)), (t, .inr (0, [.ref b1, .ref b2, .int (nI n2), .int (nI w2)])), (b1, .inl (cI, 40, .inl F2)), (b2, .inl (cI, 40, .inl G2))]) hD hS hA [0, 1, 2, 3, 4, 5, 6] rfl
          refine xn_m (vx_runV (rest := []) CF (m_X1_take l hlt D cI o r t a1 a2 b1 b2 S n2 w2 F2 G2 (nI v) H.size) (cwV 1 hts gL_act_X1_take rfl rfl rfl k_X1_take ⟨Nat.le_of_ble_eq_true rfl, Nat.le_of_ble_eq_true rfl⟩) (pxm_pre hK1 hPc hDc hX (hZ.kept hS.2.1) hFc rfl rfl rfl) rfl rfl hl.1 rfl (lv_room (Nat.le_of_ble_eq_true rfl)) dL_act_399 ⟨Nat.le_of_ble_eq_true rfl, Nat.le_of_ble_eq_true rfl⟩) hS hFc (fun E st9 t9 h9 => h9.1.elim (fun z => z.2 ⟨v, Nat.zero_le _, hv9, rfl⟩) (fun z => by obtain ⟨-, v9, h9, e9, hp⟩ := z; rw [← nI_inj (show v < 2 ^ 31 by omega) (show v9 < 2 ^ 31 by omega) e9, efd] at hp; exact ne_m1 (by omega) hp)) (fun r1 H locs hB hk1 hS => ?_)
          obtain ⟨v9, hv8, ex, hfd, er, hP1⟩ := hB
          rw [show v9 = v from nI_inj (by omega) (by omega) ex.symm] at er hP1
          obtain ⟨hP, hD⟩ := jn (wb := [(o, .inr (1, [.ref r, .ref t])), (r, .inr (0, [.ref a1, .ref a2, .int (nI n), .int (nI w)])), (a1, .inl (cI, 40, .inl (upd F (la n w f v) (-2)))), (a2, .inl (cI, 40, .inl (upd G (la n w f v) (nI 0)))), (t, .inr (0, [.ref b1, .ref b2, .int (nI n2), .int (nI w2)])), (b1, .inl (cI, 40, .inl F2)), (b2, .inl (cI, 40, .inl G2)), (u, .inr (2, [.int (nI w), .ref c1, .ref c2, .ref c3])), (c1, .inl (cI, n, .inl (upd C (la n w f v) (-1)))), (c2, .inl (cI, n, .inl V)), (c3, .inl (cZ, n, .inl (upd Z (la n w f v) (nI 1))))]) (w1 := [(o, .inr (1, [.ref r, .ref t])), (r, .inr (0, [.ref a1, .ref a2, .int (nI n), .int (nI w)])), (a1, .inl (cI, 40, .inl (upd F (la n w f v) (-2)))), (a2, .inl (cI, 40, .inl (upd G (la n w f v) (nI 0)))), (t, .inr (0, [.ref b1, .ref b2, .int (nI n2), .int (nI w2)])), (b1, .inl (cI, 40, .inl F2)), (b2, .inl (cI, 40, .inl G2))]) hP hD [0, 1, 2, 3, 4, 5, 6] [7, 8, 9, 10] rfl rfl rfl rfl 11 rfl (by decide) (by decide) hk1 hP1
          refine lv_iload hx hb dL_act_402 (lv_at hl 0 rfl) ?_
          refine lv_icmp_ne (tgt := 416) hx hb dL_act_404 (by decide) (fun c404 => ?_) (fun c404 => ?_)
          · skip
            exact absurd er c404
          · skip
            refine lv_iload hx hb dL_act_407 (lv_at hl 1 rfl) ?_
            refine bz_eq (tgt := 416) hx hb dL_act_409 (by decide) (by omega) (fun c409 => ?_) (fun c409 => ?_)
            · skip
              omega
            · skip
              refine lv_iconst (v := nI 1) hx hb dL_act_412 (by decide) ?_
              refine lv_goto (tgt := 417) hx hb dL_act_413 (by decide) ?_
              refine w_widen (k := 9) (n := 160) (Nat.le_of_ble_eq_true rfl) (Nat.le_of_ble_eq_true rfl) ?_
              exact em_z hx hb hr hlocks hS (Or.inr rfl) (⟨rfl, n, w, _, _, c1, c2, c3, n2, w2, _, _, F2, G2, _, V, _, S.tick _, S2.tick _, Ds_tick hd, hP, hD⟩) dL_act_417
  have M297 : ∀ (v : Nat), v ≤ 9999 → ∀ (H : Heap) (locs : List Loc), va_P D vwCl [(o, .inr (1, [.ref r, .ref t])), (r, .inr (0, [.ref a1, .ref a2, .int (nI n), .int (nI w)])), (a1, .inl (cI, 40, .inl F)), (a2, .inl (cI, 40, .inl G)), (t, .inr (0, [.ref b1, .ref b2, .int (nI n2), .int (nI w2)])), (b1, .inl (cI, 40, .inl F2)), (b2, .inl (cI, 40, .inl G2)), (u, .inr (2, [.int (nI w), .ref c1, .ref c2, .ref c3])), (c1, .inl (cI, n, .inl C)), (c2, .inl (cI, n, .inl V)), (c3, .inl (cZ, n, .inl Z))] H → va_D A [(o, .inr (1, [.ref r, .ref t])), (r, .inr (0, [.ref a1, .ref a2, .int (nI n), .int (nI w)])), (a1, .inl (cI, 40, .inl F)), (a2, .inl (cI, 40, .inl G)), (t, .inr (0, [.ref b1, .ref b2, .int (nI n2), .int (nI w2)])), (b1, .inl (cI, 40, .inl F2)), (b2, .inl (cI, 40, .inl G2)), (u, .inr (2, [.int (nI w), .ref c1, .ref c2, .ref c3])), (c1, .inl (cI, n, .inl C)), (c2, .inl (cI, n, .inl V)), (c3, .inl (cZ, n, .inl Z))] → va_S A s.heap H locs → ∀ (ls : Array Slot), lv_has ls 10 [(0, .ref o), (1, .ref u), (2, .int x), (3, .int (nI v)), (4, .int (nI 1))] → W p l e ({ frames := 8, cells := 9, slots := 160, locals := 134 } : Room) s m args below meth c H locs 0 0 (MQ below (qm_i ((fun (A : Nat → Prop) (rr : Int32) (H1 : Heap) => rr = nI 1 ∧ ∃ (n w : Nat) (f g : Nat → Int32), JJ D cI cZ o r t a1 a2 b1 b2 u A H1 n w f g) A) A) args s 9 160 A) (F0 m 297 ls []) := by
    intro v hv9 H locs hP hD hS ls hl
    refine lv_iload_n hx hb dL_act_297 rfl (lv_at hl 2 rfl) ?_
    refine lv_iconst (v := nI 4) hx hb dL_act_298 (by decide) ?_
    refine lv_ishr hx hb dL_act_299 ?_
    refine lv_aload_n hx hb dL_act_300 rfl (lv_at hl 1 rfl) ?_
    refine va_get (D := D) (ci := 2) (v := .ref c1) (C := RX2) (T := TX2) (N := 4) hx hb hts (fun _ h => (List.mem_cons_of_mem _ (List.mem_append_left _ (List.mem_append_left _ (List.mem_append_left _ (List.mem_append_left _ (List.mem_append_right _ h))))))) hown hK hP 7 rfl rfl 1 (by decide) (hts _ (List.mem_of_getElem? (i := 2) rfl)) (fun _ h9 => h9) rfl dL_act_301 ?_
    refine va_alen (v := nI n) hx hb hK hP 8 0 rfl rfl rfl dL_act_304 ?_
    refine pz_p (wc := []) CF (m_L_below l D cI cZ (x >>> ((nI 4) &&& 31)) n (by omega) (by omega)) (va_cwS 2 hts gL_act_L_below rfl rfl rfl k_L_below.2 ⟨Nat.le_of_ble_eq_true rfl, Nat.le_of_ble_eq_true rfl⟩) hK (fun k q h => by simp at h) rfl hl.1 rfl (Nat.le_of_ble_eq_true rfl) dL_act_305 ⟨Nat.le_of_ble_eq_true rfl, Nat.le_of_ble_eq_true rfl⟩ (fun r1 hr1 => ?_)
    obtain ⟨j305, hj305, ej305⟩ := hr1
    refine tp_i (y := nI j305) ej305 ?_
    refine lv_istore (lv' := [(5, .int (nI j305)), (0, .ref o), (1, .ref u), (2, .int x), (3, .int (nI v)), (4, .int (nI 1))]) hx hb dL_act_308 hl (by decide) rfl (fun ls hl => ?_)
    refine lv_aload_n hx hb dL_act_310 rfl (lv_at hl 2 rfl) ?_
    refine va_get (D := D) (ci := 2) (v := .ref c1) (C := RX2) (T := TX2) (N := 4) hx hb hts (fun _ h => (List.mem_cons_of_mem _ (List.mem_append_left _ (List.mem_append_left _ (List.mem_append_left _ (List.mem_append_left _ (List.mem_append_right _ h))))))) hown hK hP 7 rfl rfl 1 (by decide) (hts _ (List.mem_of_getElem? (i := 2) rfl)) (fun _ h9 => h9) rfl dL_act_311 ?_
    refine lv_iload hx hb dL_act_314 (lv_at hl 0 rfl) ?_
    refine al_i hx hb hK hP 8 0 rfl rfl (by omega) (by omega) dL_act_316 ?_
    refine tp_i (y := (cn (f j305))) (hC j305 (by omega)) ?_
    refine lv_if_lt (tgt := 339) hx hb dL_act_317 (by decide) (fun c317 => ?_) (fun c317 => ?_)
    · skip
      exact M339 v (by omega) _ _ hP hD hS _ (lv_sub hl [1, 2, 3, 4, 5] rfl)
    · skip
      refine lv_iload_n hx hb dL_act_320 rfl (lv_at hl 3 rfl) ?_
      refine lv_bipush (v := nI 8) hx hb dL_act_321 (by decide) ?_
      refine lv_ishr hx hb dL_act_323 ?_
      refine lv_iconst (v := nI 4) hx hb dL_act_324 (by decide) ?_
      refine pz_p (wc := []) CF (m_L_below l D cI cZ (x >>> ((nI 8) &&& 31)) 4 (by omega) (by omega)) (va_cwS 2 hts gL_act_L_below rfl rfl rfl k_L_below.2 ⟨Nat.le_of_ble_eq_true rfl, Nat.le_of_ble_eq_true rfl⟩) hK (fun k q h => by simp at h) rfl hl.1 rfl (Nat.le_of_ble_eq_true rfl) dL_act_325 ⟨Nat.le_of_ble_eq_true rfl, Nat.le_of_ble_eq_true rfl⟩ (fun r1 hr1 => ?_)
      obtain ⟨j325, hj325, ej325⟩ := hr1
      refine tp_i (y := nI j325) ej325 ?_
      refine bz_le (tgt := 339) hx hb dL_act_328 (by decide) (by omega) (fun c328 => ?_) (fun c328 => ?_)
      · skip
        exact M339 v (by omega) _ _ hP hD hS _ (lv_sub hl [1, 2, 3, 4, 5] rfl)
      · skip
        obtain ⟨y, hy9, ey, -⟩ := hO.num (k := j305) (by omega) (cn_d c317)
        refine lv_aload_n hx hb dL_act_331 rfl (lv_at hl 2 rfl) ?_
        refine va_get (D := D) (ci := 2) (v := .ref c1) (C := RX2) (T := TX2) (N := 4) hx hb hts (fun _ h => (List.mem_cons_of_mem _ (List.mem_append_left _ (List.mem_append_left _ (List.mem_append_left _ (List.mem_append_left _ (List.mem_append_right _ h))))))) hown hK hP 7 rfl rfl 1 (by decide) (hts _ (List.mem_of_getElem? (i := 2) rfl)) (fun _ h9 => h9) rfl dL_act_332 ?_
        refine lv_iload hx hb dL_act_335 (lv_at hl 0 rfl) ?_
        refine al_i hx hb hK hP 8 0 rfl rfl (by omega) (by omega) dL_act_337 ?_
        refine tp_i (y := (nI y)) ((hC j305 (by omega)).trans ((cn_id (cn_d c317)).trans ey)) ?_
        refine lv_istore_n (lv' := [(3, .int (nI y)), (5, .int (nI j305)), (0, .ref o), (1, .ref u), (2, .int x), (4, .int (nI 1))]) hx hb dL_act_338 rfl hl (by decide) rfl (fun ls hl => ?_)
        exact M339 y (by omega) _ _ hP hD hS _ (lv_sub hl [2, 3, 4, 0, 5] rfl)
  have M418 : ∀ (v : Nat), v ≤ 9999 → ∀ (H : Heap) (locs : List Loc), va_P D vwCl [(o, .inr (1, [.ref r, .ref t])), (r, .inr (0, [.ref a1, .ref a2, .int (nI n), .int (nI w)])), (a1, .inl (cI, 40, .inl F)), (a2, .inl (cI, 40, .inl G)), (t, .inr (0, [.ref b1, .ref b2, .int (nI n2), .int (nI w2)])), (b1, .inl (cI, 40, .inl F2)), (b2, .inl (cI, 40, .inl G2)), (u, .inr (2, [.int (nI w), .ref c1, .ref c2, .ref c3])), (c1, .inl (cI, n, .inl C)), (c2, .inl (cI, n, .inl V)), (c3, .inl (cZ, n, .inl Z))] H → va_D A [(o, .inr (1, [.ref r, .ref t])), (r, .inr (0, [.ref a1, .ref a2, .int (nI n), .int (nI w)])), (a1, .inl (cI, 40, .inl F)), (a2, .inl (cI, 40, .inl G)), (t, .inr (0, [.ref b1, .ref b2, .int (nI n2), .int (nI w2)])), (b1, .inl (cI, 40, .inl F2)), (b2, .inl (cI, 40, .inl G2)), (u, .inr (2, [.int (nI w), .ref c1, .ref c2, .ref c3])), (c1, .inl (cI, n, .inl C)), (c2, .inl (cI, n, .inl V)), (c3, .inl (cZ, n, .inl Z))] → va_S A s.heap H locs → ∀ (ls : Array Slot), lv_has ls 10 [(0, .ref o), (1, .ref u), (2, .int x), (3, .int (nI v)), (4, .int (nI 1))] → W p l e ({ frames := 8, cells := 9, slots := 160, locals := 134 } : Room) s m args below meth c H locs 0 0 (MQ below (qm_i ((fun (A : Nat → Prop) (rr : Int32) (H1 : Heap) => rr = nI 1 ∧ ∃ (n w : Nat) (f g : Nat → Int32), JJ D cI cZ o r t a1 a2 b1 b2 u A H1 n w f g) A) A) args s 9 160 A) (F0 m 418 ls []) := by
    intro v hv9 H locs hP hD hS ls hl
    refine lv_aload_n hx hb dL_act_418 rfl (lv_at hl 1 rfl) ?_
    refine lv_iload_n hx hb dL_act_419 rfl (lv_at hl 3 rfl) ?_
    refine pv_i CF (m_X2_place l D cI cZ u c1 c2 c3 S2 v hv9) (cwV 1 hts gL_act_X2_place rfl rfl rfl k_X2_place ⟨Nat.le_of_ble_eq_true rfl, Nat.le_of_ble_eq_true rfl⟩) hK (hP.sub [7, 8, 9, 10] rfl) rfl rfl rfl rfl hl.1 rfl (Nat.le_of_ble_eq_true rfl) dL_act_420 ⟨Nat.le_of_ble_eq_true rfl, Nat.le_of_ble_eq_true rfl⟩ ?_
    refine lv_istore (lv' := [(5, .int (pl n w f v)), (0, .ref o), (1, .ref u), (2, .int x), (3, .int (nI v)), (4, .int (nI 1))]) hx hb dL_act_423 hl (by decide) rfl (fun ls hl => ?_)
    refine lv_iconst (v := nI 1) hx hb dL_act_425 (by decide) ?_
    refine lv_iload_n hx hb dL_act_426 rfl (lv_at hl 3 rfl) ?_
    refine lv_iconst (v := nI 5) hx hb dL_act_427 (by decide) ?_
    refine lv_ishr hx hb dL_act_428 ?_
    refine lv_bipush (v := nI 99) hx hb dL_act_429 (by decide) ?_
    refine pz_p (wc := []) CF (m_L_below l D cI cZ (x >>> ((nI 5) &&& 31)) 99 (by omega) (by omega)) (va_cwS 2 hts gL_act_L_below rfl rfl rfl k_L_below.2 ⟨Nat.le_of_ble_eq_true rfl, Nat.le_of_ble_eq_true rfl⟩) hK (fun k q h => by simp at h) rfl hl.1 rfl (Nat.le_of_ble_eq_true rfl) dL_act_431 ⟨Nat.le_of_ble_eq_true rfl, Nat.le_of_ble_eq_true rfl⟩ (fun r1 hr1 => ?_)
    obtain ⟨j431, hj431, ej431⟩ := hr1
    refine tp_i (y := nI j431) ej431 ?_
    refine an_add hx hb dL_act_434 ?_
    refine lv_istore (lv' := [(6, .int (nI (1 + j431))), (5, .int (pl n w f v)), (0, .ref o), (1, .ref u), (2, .int x), (3, .int (nI v)), (4, .int (nI 1))]) hx hb dL_act_435 hl (by decide) rfl (fun ls hl => ?_)
    refine lv_iload hx hb dL_act_437 (lv_at hl 1 rfl) ?_
    refine lv_if_lt (tgt := 446) hx hb dL_act_439 (by decide) (fun c439 => ?_) (fun c439 => ?_)
    · skip
      have hpm := pl_m1 (show 0 < n by omega) hn c439
      refine lv_iconst (v := nI 0) hx hb dL_act_446 (by decide) ?_
      refine lv_istore (lv' := [(4, .int (nI 0)), (6, .int (nI (1 + j431))), (5, .int (pl n w f v)), (0, .ref o), (1, .ref u), (2, .int x), (3, .int (nI v))]) hx hb dL_act_447 hl (by decide) rfl (fun ls hl => ?_)
      refine lv_iload hx hb dL_act_449 (lv_at hl 0 rfl) ?_
      refine bz_eq (tgt := 463) hx hb dL_act_451 (by decide) (by omega) (fun c451 => ?_) (fun c451 => ?_)
      · skip
        refine lv_aload_n hx hb dL_act_463 rfl (lv_at hl 3 rfl) ?_
        refine lv_iload_n hx hb dL_act_464 rfl (lv_at hl 6 rfl) ?_
        refine lv_iload hx hb dL_act_465 (lv_at hl 1 rfl) ?_
        have hPc : va_P D vwCl [(o, .inr (1, [.ref r, .ref t])), (r, .inr (0, [.ref a1, .ref a2, .int (nI n), .int (nI w)])), (a1, .inl (cI, 40, .inl F)), (a2, .inl (cI, 40, .inl G)), (t, .inr (0, [.ref b1, .ref b2, .int (nI n2), .int (nI w2)])), (b1, .inl (cI, 40, .inl F2)), (b2, .inl (cI, 40, .inl G2))] H := hP.sub [0, 1, 2, 3, 4, 5, 6] rfl
        have hDc : va_D A [(o, .inr (1, [.ref r, .ref t])), (r, .inr (0, [.ref a1, .ref a2, .int (nI n), .int (nI w)])), (a1, .inl (cI, 40, .inl F)), (a2, .inl (cI, 40, .inl G)), (t, .inr (0, [.ref b1, .ref b2, .int (nI n2), .int (nI w2)])), (b1, .inl (cI, 40, .inl F2)), (b2, .inl (cI, 40, .inl G2))] := hD.sub [0, 1, 2, 3, 4, 5, 6] (by decide) rfl
        have hFc := va_free (wc := [(o, .inr (1, [.ref r, .ref t])), (r, .inr (0, [.ref a1, .ref a2, .int (nI n), .int (nI w)])), (a1, .inl (cI, 40, .inl F)), (a2, .inl (cI, 40, .inl G)), (t, .inr (0, [.ref b1, .ref b2, .int (nI n2), .int (nI w2)])), (b1, .inl (cI, 40, .inl F2)), (b2, .inl (cI, 40, .inl G2))]) hD hS hA [0, 1, 2, 3, 4, 5, 6] rfl
        refine xw_m (vx_runV (rest := []) CF (m_X1_hang l hlt D cI o r t a1 a2 b1 b2 S n2 w2 F2 G2 (nI v) (nI (1 + j431)) H.size) (cwV 2 hts gL_act_X1_hang rfl rfl rfl k_X1_hang ⟨Nat.le_of_ble_eq_true rfl, Nat.le_of_ble_eq_true rfl⟩) (pxm_pre hK1 hPc hDc hX (hZ.kept hS.2.1) hFc rfl rfl rfl) rfl rfl hl.1 rfl (lv_room (Nat.le_of_ble_eq_true rfl)) dL_act_467 ⟨Nat.le_of_ble_eq_true rfl, Nat.le_of_ble_eq_true rfl⟩) hS hFc xk_F (fun E ce q9 st9 t9 locs hst hXC hz hk hS hce hcv hcl => ?_) (fun r1 H locs hB hk1 hS => ?_)
        · skip
          obtain ⟨hE, hz2, hk2⟩ := hXC
          rw [hst] at hk2
          have hP : va_P D vwCl [(o, .inr (1, [.ref r, .ref t])), (r, .inr (0, [.ref a1, .ref a2, .int (nI n), .int (nI w)])), (a1, .inl (cI, 40, .inl F)), (a2, .inl (cI, 40, .inl G)), (t, .inr (0, [.ref b1, .ref b2, .int (nI n2), .int (nI w2)])), (b1, .inl (cI, 40, .inl F2)), (b2, .inl (cI, 40, .inl G2)), (u, .inr (2, [.int (nI w), .ref c1, .ref c2, .ref c3])), (c1, .inl (cI, n, .inl C)), (c2, .inl (cI, n, .inl V)), (c3, .inl (cZ, n, .inl Z))] t9.heap := hP.kept (fun k q hk9 => hk2 q.1 ((hP k q hk9).lt))
          rcases hE with ⟨rfl, hno⟩ | ⟨rfl, -⟩
          · exact absurd (show rg 0 9999 (nI v) ∧ rg 1 99 (nI (1 + j431)) from ⟨⟨v, Nat.zero_le _, hv9, rfl⟩, ⟨(1 + j431), by omega, by omega, rfl⟩⟩) hno
          refine vx_catch (own := RL) (name := "java/lang/IllegalStateException") hown [⟨46, 267, 486, 62⟩, ⟨268, 279, 486, 62⟩, ⟨280, 296, 486, 62⟩, ⟨297, 417, 486, 62⟩] ⟨418, 485, 486, 62⟩ [] tb (fun z hz => by simp only [List.mem_cons, List.mem_nil_iff, or_false] at hz; rcases hz with rfl | rfl | rfl | rfl <;> exact Or.inl rfl) rfl (by decide) (hts _ (List.mem_of_getElem? (i := 1) rfl)) (va_Nw.use rfl (hX.1 _ (List.mem_of_getElem? (i := 4) rfl))) hce hcv hcl ?_
          refine lv_astore (lv' := [(5, .ref q9), (4, .int (nI 0)), (6, .int (nI (1 + j431))), (0, .ref o), (1, .ref u), (2, .int x), (3, .int (nI v))]) hx hb dL_act_486 hl (by decide) rfl (fun ls hl => ?_)
          refine lv_iload hx hb dL_act_488 (lv_at hl 1 rfl) ?_
          refine bz_ne (tgt := 497) hx hb dL_act_490 (by decide) (by omega) (fun c490 => ?_) (fun c490 => ?_)
          · skip
            omega
          · skip
            refine lv_iconst (v := nI 1) hx hb dL_act_493 (by decide) ?_
            refine lv_goto (tgt := 498) hx hb dL_act_494 (by decide) ?_
            refine w_widen (k := 9) (n := 160) (Nat.le_of_ble_eq_true rfl) (Nat.le_of_ble_eq_true rfl) ?_
            exact em_z hx hb hr hlocks hS (Or.inr rfl) (⟨rfl, n, w, f, g, c1, c2, c3, _, _, F, G, _, _, C, V, Z, S, S2, hd, hP, hD⟩) dL_act_498
        · skip
          obtain ⟨v9, z9, k9, hv8, ex, hz1, hz2, ey, hk9, hpl, -⟩ := hB; rw [← nI_inj (show v < 2 ^ 31 by omega) (show v9 < 2 ^ 31 by omega) ex, hpm] at hpl; exact absurd hpl.symm (ne_m1 (by omega))
      · skip
        omega
    · skip
      obtain ⟨pp, hpp, epl⟩ := pl_cases (show 0 < n by omega) (nlt_m1 c439)
      have hhs := pl_hs (nlt_m1 c439)
      rw [epl] at hl
      refine lv_iconst (v := nI 1) hx hb dL_act_442 (by decide) ?_
      refine lv_goto (tgt := 447) hx hb dL_act_443 (by decide) ?_
      refine lv_istore (lv' := [(4, .int (nI 1)), (6, .int (nI (1 + j431))), (5, .int (nI pp)), (0, .ref o), (1, .ref u), (2, .int x), (3, .int (nI v))]) hx hb dL_act_447 hl (by decide) rfl (fun ls hl => ?_)
      refine lv_iload hx hb dL_act_449 (lv_at hl 0 rfl) ?_
      refine bz_eq (tgt := 463) hx hb dL_act_451 (by decide) (by omega) (fun c451 => ?_) (fun c451 => ?_)
      · skip
        omega
      · skip
        refine lv_aload_n hx hb dL_act_454 rfl (lv_at hl 4 rfl) ?_
        refine lv_iload hx hb dL_act_455 (lv_at hl 2 rfl) ?_
        refine lv_iload_n hx hb dL_act_457 rfl (lv_at hl 6 rfl) ?_
        refine lv_iload hx hb dL_act_458 (lv_at hl 1 rfl) ?_
        have hPc : va_P D vwCl [(u, .inr (2, [.int (nI w), .ref c1, .ref c2, .ref c3])), (c1, .inl (cI, n, .inl C)), (c2, .inl (cI, n, .inl V)), (c3, .inl (cZ, n, .inl Z))] H := hP.sub [7, 8, 9, 10] rfl
        have hDc : va_D A [(u, .inr (2, [.int (nI w), .ref c1, .ref c2, .ref c3])), (c1, .inl (cI, n, .inl C)), (c2, .inl (cI, n, .inl V)), (c3, .inl (cZ, n, .inl Z))] := hD.sub [7, 8, 9, 10] (by decide) rfl
        have hFc := va_free (wc := [(u, .inr (2, [.int (nI w), .ref c1, .ref c2, .ref c3])), (c1, .inl (cI, n, .inl C)), (c2, .inl (cI, n, .inl V)), (c3, .inl (cZ, n, .inl Z))]) hD hS hA [7, 8, 9, 10] rfl
        refine pq_v (va_runV (rest := []) CF (m_X2_hang l D cI cZ u c1 c2 c3 n w C V Z pp (nI v) (nI (1 + j431)) hpp hn H.size) (cwV 3 hts gL_act_X2_hang rfl rfl rfl k_X2_hang ⟨Nat.le_of_ble_eq_true rfl, Nat.le_of_ble_eq_true rfl⟩) (mv_pre hK hPc hDc rfl rfl rfl) rfl rfl hl.1 rfl (lv_room (Nat.le_of_ble_eq_true rfl)) dL_act_460 ⟨Nat.le_of_ble_eq_true rfl, Nat.le_of_ble_eq_true rfl⟩) hS hFc (fun H locs hB hk1 hS => ?_)
        have hP1 := hB
        obtain ⟨hP, hD⟩ := jn (wb := [(o, .inr (1, [.ref r, .ref t])), (r, .inr (0, [.ref a1, .ref a2, .int (nI n), .int (nI w)])), (a1, .inl (cI, 40, .inl F)), (a2, .inl (cI, 40, .inl G)), (t, .inr (0, [.ref b1, .ref b2, .int (nI n2), .int (nI w2)])), (b1, .inl (cI, 40, .inl F2)), (b2, .inl (cI, 40, .inl G2)), (u, .inr (2, [.int (nI w), .ref c1, .ref c2, .ref c3])), (c1, .inl (cI, n, .inl (upd C pp (nI v)))), (c2, .inl (cI, n, .inl (upd V pp (nI (1 + j431))))), (c3, .inl (cZ, n, .inl (upd Z pp (nI 0))))]) (w1 := [(u, .inr (2, [.int (nI w), .ref c1, .ref c2, .ref c3])), (c1, .inl (cI, n, .inl (upd C pp (nI v)))), (c2, .inl (cI, n, .inl (upd V pp (nI (1 + j431))))), (c3, .inl (cZ, n, .inl (upd Z pp (nI 0))))]) hP hD [7, 8, 9, 10] [0, 1, 2, 3, 4, 5, 6] rfl rfl rfl rfl 11 rfl (by decide) (by decide) hk1 hP1
        refine lv_aload_n hx hb dL_act_463 rfl (lv_at hl 3 rfl) ?_
        refine lv_iload_n hx hb dL_act_464 rfl (lv_at hl 6 rfl) ?_
        refine lv_iload hx hb dL_act_465 (lv_at hl 1 rfl) ?_
        have hPc : va_P D vwCl [(o, .inr (1, [.ref r, .ref t])), (r, .inr (0, [.ref a1, .ref a2, .int (nI n), .int (nI w)])), (a1, .inl (cI, 40, .inl F)), (a2, .inl (cI, 40, .inl G)), (t, .inr (0, [.ref b1, .ref b2, .int (nI n2), .int (nI w2)])), (b1, .inl (cI, 40, .inl F2)), (b2, .inl (cI, 40, .inl G2))] H := hP.sub [0, 1, 2, 3, 4, 5, 6] rfl
        have hDc : va_D A [(o, .inr (1, [.ref r, .ref t])), (r, .inr (0, [.ref a1, .ref a2, .int (nI n), .int (nI w)])), (a1, .inl (cI, 40, .inl F)), (a2, .inl (cI, 40, .inl G)), (t, .inr (0, [.ref b1, .ref b2, .int (nI n2), .int (nI w2)])), (b1, .inl (cI, 40, .inl F2)), (b2, .inl (cI, 40, .inl G2))] := hD.sub [0, 1, 2, 3, 4, 5, 6] (by decide) rfl
        have hFc := va_free (wc := [(o, .inr (1, [.ref r, .ref t])), (r, .inr (0, [.ref a1, .ref a2, .int (nI n), .int (nI w)])), (a1, .inl (cI, 40, .inl F)), (a2, .inl (cI, 40, .inl G)), (t, .inr (0, [.ref b1, .ref b2, .int (nI n2), .int (nI w2)])), (b1, .inl (cI, 40, .inl F2)), (b2, .inl (cI, 40, .inl G2))]) hD hS hA [0, 1, 2, 3, 4, 5, 6] rfl
        refine xn_m (vx_runV (rest := []) CF (m_X1_hang l hlt D cI o r t a1 a2 b1 b2 S n2 w2 F2 G2 (nI v) (nI (1 + j431)) H.size) (cwV 2 hts gL_act_X1_hang rfl rfl rfl k_X1_hang ⟨Nat.le_of_ble_eq_true rfl, Nat.le_of_ble_eq_true rfl⟩) (pxm_pre hK1 hPc hDc hX (hZ.kept hS.2.1) hFc rfl rfl rfl) rfl rfl hl.1 rfl (lv_room (Nat.le_of_ble_eq_true rfl)) dL_act_467 ⟨Nat.le_of_ble_eq_true rfl, Nat.le_of_ble_eq_true rfl⟩) hS hFc (fun E st9 t9 h9 => h9.1.elim (fun z => z.2 ⟨⟨v, Nat.zero_le _, hv9, rfl⟩, ⟨(1 + j431), by omega, by omega, rfl⟩⟩) (fun z => by obtain ⟨-, v9, z9, h9, e9, -, -, -, hp⟩ := z; rw [← nI_inj (show v < 2 ^ 31 by omega) (show v9 < 2 ^ 31 by omega) e9, epl] at hp; exact ne_m1 (by omega) hp)) (fun r1 H locs hB hk1 hS => ?_)
        obtain ⟨v9, z9, k9, hv8, ex, hz1, hz2, ey, hk9, hpl, er, hP1⟩ := hB
        rw [show v9 = v from nI_inj (by omega) (by omega) ex.symm] at hpl hP1
        rw [show z9 = (1 + j431) from nI_inj (by omega) (by omega) ey.symm] at hP1
        have ek : k9 = pp := nI_inj (by omega) (by omega) (hpl.symm.trans epl)
        rw [ek] at er hP1
        obtain ⟨hP, hD⟩ := jn (wb := [(o, .inr (1, [.ref r, .ref t])), (r, .inr (0, [.ref a1, .ref a2, .int (nI n), .int (nI w)])), (a1, .inl (cI, 40, .inl (upd F pp (nI v)))), (a2, .inl (cI, 40, .inl (upd G pp (nI (1 + j431))))), (t, .inr (0, [.ref b1, .ref b2, .int (nI n2), .int (nI w2)])), (b1, .inl (cI, 40, .inl F2)), (b2, .inl (cI, 40, .inl G2)), (u, .inr (2, [.int (nI w), .ref c1, .ref c2, .ref c3])), (c1, .inl (cI, n, .inl (upd C pp (nI v)))), (c2, .inl (cI, n, .inl (upd V pp (nI (1 + j431))))), (c3, .inl (cZ, n, .inl (upd Z pp (nI 0))))]) (w1 := [(o, .inr (1, [.ref r, .ref t])), (r, .inr (0, [.ref a1, .ref a2, .int (nI n), .int (nI w)])), (a1, .inl (cI, 40, .inl (upd F pp (nI v)))), (a2, .inl (cI, 40, .inl (upd G pp (nI (1 + j431))))), (t, .inr (0, [.ref b1, .ref b2, .int (nI n2), .int (nI w2)])), (b1, .inl (cI, 40, .inl F2)), (b2, .inl (cI, 40, .inl G2))]) hP hD [0, 1, 2, 3, 4, 5, 6] [7, 8, 9, 10] rfl rfl rfl rfl 11 rfl (by decide) (by decide) hk1 hP1
        refine lv_iload hx hb dL_act_470 (lv_at hl 2 rfl) ?_
        refine lv_icmp_ne (tgt := 484) hx hb dL_act_472 (by decide) (fun c472 => ?_) (fun c472 => ?_)
        · skip
          exact absurd er c472
        · skip
          refine lv_iload hx hb dL_act_475 (lv_at hl 0 rfl) ?_
          refine bz_eq (tgt := 484) hx hb dL_act_477 (by decide) (by omega) (fun c477 => ?_) (fun c477 => ?_)
          · skip
            omega
          · skip
            refine lv_iconst (v := nI 1) hx hb dL_act_480 (by decide) ?_
            refine lv_goto (tgt := 485) hx hb dL_act_481 (by decide) ?_
            refine w_widen (k := 9) (n := 160) (Nat.le_of_ble_eq_true rfl) (Nat.le_of_ble_eq_true rfl) ?_
            exact em_z hx hb hr hlocks hS (Or.inr rfl) (⟨rfl, n, w, _, _, c1, c2, c3, n2, w2, _, _, F2, G2, _, _, _, S.put hv9 (by omega) (by omega) rfl, S2.put hv9 (by omega) (by omega) rfl, Ds_put hd (hs_0 hhs), hP, hD⟩) dL_act_485
  have M43 : ∀ (v : Nat), v ≤ 9999 → ∀ (H : Heap) (locs : List Loc), va_P D vwCl [(o, .inr (1, [.ref r, .ref t])), (r, .inr (0, [.ref a1, .ref a2, .int (nI n), .int (nI w)])), (a1, .inl (cI, 40, .inl F)), (a2, .inl (cI, 40, .inl G)), (t, .inr (0, [.ref b1, .ref b2, .int (nI n2), .int (nI w2)])), (b1, .inl (cI, 40, .inl F2)), (b2, .inl (cI, 40, .inl G2)), (u, .inr (2, [.int (nI w), .ref c1, .ref c2, .ref c3])), (c1, .inl (cI, n, .inl C)), (c2, .inl (cI, n, .inl V)), (c3, .inl (cZ, n, .inl Z))] H → va_D A [(o, .inr (1, [.ref r, .ref t])), (r, .inr (0, [.ref a1, .ref a2, .int (nI n), .int (nI w)])), (a1, .inl (cI, 40, .inl F)), (a2, .inl (cI, 40, .inl G)), (t, .inr (0, [.ref b1, .ref b2, .int (nI n2), .int (nI w2)])), (b1, .inl (cI, 40, .inl F2)), (b2, .inl (cI, 40, .inl G2)), (u, .inr (2, [.int (nI w), .ref c1, .ref c2, .ref c3])), (c1, .inl (cI, n, .inl C)), (c2, .inl (cI, n, .inl V)), (c3, .inl (cZ, n, .inl Z))] → va_S A s.heap H locs → ∀ (ls : Array Slot), lv_has ls 10 [(0, .ref o), (1, .ref u), (2, .int x), (3, .int (nI v))] → W p l e ({ frames := 8, cells := 9, slots := 160, locals := 134 } : Room) s m args below meth c H locs 0 0 (MQ below (qm_i ((fun (A : Nat → Prop) (rr : Int32) (H1 : Heap) => rr = nI 1 ∧ ∃ (n w : Nat) (f g : Nat → Int32), JJ D cI cZ o r t a1 a2 b1 b2 u A H1 n w f g) A) A) args s 9 160 A) (F0 m 43 ls []) := by
    intro v hv9 H locs hP hD hS ls hl
    refine lv_iconst (v := nI 1) hx hb dL_act_43 (by decide) ?_
    refine lv_istore (lv' := [(4, .int (nI 1)), (0, .ref o), (1, .ref u), (2, .int x), (3, .int (nI v))]) hx hb dL_act_44 hl (by decide) rfl (fun ls hl => ?_)
    refine lv_iload_n hx hb dL_act_46 rfl (lv_at hl 3 rfl) ?_
    refine lv_bipush (v := nI 12) hx hb dL_act_47 (by decide) ?_
    refine pz_p (wc := []) CF (m_L_below l D cI cZ x 12 (by omega) (by omega)) (va_cwS 2 hts gL_act_L_below rfl rfl rfl k_L_below.2 ⟨Nat.le_of_ble_eq_true rfl, Nat.le_of_ble_eq_true rfl⟩) hK (fun k q h => by simp at h) rfl hl.1 rfl (Nat.le_of_ble_eq_true rfl) dL_act_49 ⟨Nat.le_of_ble_eq_true rfl, Nat.le_of_ble_eq_true rfl⟩ (fun r1 hr1 => ?_)
    obtain ⟨j49, hj49, ej49⟩ := hr1
    refine tp_i (y := nI j49) ej49 ?_
    by_cases h9 : 5 < j49
    · refine lv_tableOut (tgt := 418) hx hb dL_act_52 (Or.inr (by rw [nI_toInt (by omega)]; omega)) (by decide) ?_
      exact M418 v hv9 _ _ hP hD hS _ (lv_sub hl [1, 2, 3, 4, 0] rfl)
    · rcases (show j49 = 0 ∨ j49 = 1 ∨ j49 = 2 ∨ j49 = 3 ∨ j49 = 4 ∨ j49 = 5 by omega) with rfl | rfl | rfl | rfl | rfl | rfl
      · refine lv_tableIn (off := 40) (tgt := 92) hx hb dL_act_52 (by decide) (by decide) (by decide) (by decide) ?_
        exact M92 v hv9 _ _ hP hD hS _ (lv_sub hl [1, 2, 3, 4, 0] rfl)
      · refine lv_tableIn (off := 216) (tgt := 268) hx hb dL_act_52 (by decide) (by decide) (by decide) (by decide) ?_
        exact M268 v hv9 _ _ hP hD hS _ (lv_sub hl [1, 2, 3, 4, 0] rfl)
      · refine lv_tableIn (off := 245) (tgt := 297) hx hb dL_act_52 (by decide) (by decide) (by decide) (by decide) ?_
        exact M297 v hv9 _ _ hP hD hS _ (lv_sub hl [1, 2, 3, 4, 0] rfl)
      · refine lv_tableIn (off := 245) (tgt := 297) hx hb dL_act_52 (by decide) (by decide) (by decide) (by decide) ?_
        exact M297 v hv9 _ _ hP hD hS _ (lv_sub hl [1, 2, 3, 4, 0] rfl)
      · refine lv_tableIn (off := 245) (tgt := 297) hx hb dL_act_52 (by decide) (by decide) (by decide) (by decide) ?_
        exact M297 v hv9 _ _ hP hD hS _ (lv_sub hl [1, 2, 3, 4, 0] rfl)
      · refine lv_tableIn (off := 245) (tgt := 297) hx hb dL_act_52 (by decide) (by decide) (by decide) (by decide) ?_
        exact M297 v hv9 _ _ hP hD hS _ (lv_sub hl [1, 2, 3, 4, 0] rfl)
  refine lv_iload_n hx hb dL_act_0 rfl (lv_at hl 2 rfl) ?_
  refine lv_iconst (v := nI 3) hx hb dL_act_1 (by decide) ?_
  refine lv_ishr hx hb dL_act_2 ?_
  refine lv_iload_n hx hb dL_act_3 rfl (lv_at hl 2 rfl) ?_
  refine lv_bipush (v := nI 9) hx hb dL_act_4 (by decide) ?_
  refine lv_ishr hx hb dL_act_6 ?_
  refine lv_iconst (v := nI 2) hx hb dL_act_7 (by decide) ?_
  refine pz_p (wc := []) CF (m_L_below l D cI cZ (x >>> ((nI 9) &&& 31)) 2 (by omega) (by omega)) (va_cwS 2 hts gL_act_L_below rfl rfl rfl k_L_below.2 ⟨Nat.le_of_ble_eq_true rfl, Nat.le_of_ble_eq_true rfl⟩) hK (fun k q h => by simp at h) rfl hl.1 rfl (Nat.le_of_ble_eq_true rfl) dL_act_8 ⟨Nat.le_of_ble_eq_true rfl, Nat.le_of_ble_eq_true rfl⟩ (fun r1 hr1 => ?_)
  obtain ⟨j8, hj8, ej8⟩ := hr1
  refine tp_i (y := nI j8) ej8 ?_
  refine bz_ne (tgt := 19) hx hb dL_act_11 (by decide) (by omega) (fun c11 => ?_) (fun c11 => ?_)
  · skip
    refine lv_iload_n hx hb dL_act_19 rfl (lv_at hl 2 rfl) ?_
    refine lv_bipush (v := nI 7) hx hb dL_act_20 (by decide) ?_
    refine lv_ishr hx hb dL_act_22 ?_
    refine lv_iconst (v := nI 2) hx hb dL_act_23 (by decide) ?_
    refine pz_p (wc := []) CF (m_L_below l D cI cZ (x >>> ((nI 7) &&& 31)) 2 (by omega) (by omega)) (va_cwS 2 hts gL_act_L_below rfl rfl rfl k_L_below.2 ⟨Nat.le_of_ble_eq_true rfl, Nat.le_of_ble_eq_true rfl⟩) hK (fun k q h => by simp at h) rfl hl.1 rfl (Nat.le_of_ble_eq_true rfl) dL_act_24 ⟨Nat.le_of_ble_eq_true rfl, Nat.le_of_ble_eq_true rfl⟩ (fun r1 hr1 => ?_)
    obtain ⟨j24, hj24, ej24⟩ := hr1
    refine tp_i (y := nI j24) ej24 ?_
    refine bz_ne (tgt := 36) hx hb dL_act_27 (by decide) (by omega) (fun c27 => ?_) (fun c27 => ?_)
    · skip
      refine lv_sipush (v := nI 10000) hx hb dL_act_36 (by decide) ?_
      refine pz_p (wc := []) CF (m_L_below l D cI cZ (x >>> ((nI 3) &&& 31)) 10000 (by omega) (by omega)) (va_cwS 2 hts gL_act_L_below rfl rfl rfl k_L_below.2 ⟨Nat.le_of_ble_eq_true rfl, Nat.le_of_ble_eq_true rfl⟩) hK (fun k q h => by simp at h) rfl hl.1 rfl (Nat.le_of_ble_eq_true rfl) dL_act_39 ⟨Nat.le_of_ble_eq_true rfl, Nat.le_of_ble_eq_true rfl⟩ (fun r1 hr1 => ?_)
      obtain ⟨j39, hj39, ej39⟩ := hr1
      refine tp_i (y := nI j39) ej39 ?_
      refine lv_istore_n (lv' := [(3, .int (nI j39)), (0, .ref o), (1, .ref u), (2, .int x)]) hx hb dL_act_42 rfl hl (by decide) rfl (fun ls hl => ?_)
      exact M43 j39 (by omega) _ _ hP hD hS _ (lv_sub hl [1, 2, 3, 0] rfl)
    · skip
      refine lv_sipush (v := nI 300) hx hb dL_act_30 (by decide) ?_
      refine lv_goto (tgt := 39) hx hb dL_act_33 (by decide) ?_
      refine pz_p (wc := []) CF (m_L_below l D cI cZ (x >>> ((nI 3) &&& 31)) 300 (by omega) (by omega)) (va_cwS 2 hts gL_act_L_below rfl rfl rfl k_L_below.2 ⟨Nat.le_of_ble_eq_true rfl, Nat.le_of_ble_eq_true rfl⟩) hK (fun k q h => by simp at h) rfl hl.1 rfl (Nat.le_of_ble_eq_true rfl) dL_act_39 ⟨Nat.le_of_ble_eq_true rfl, Nat.le_of_ble_eq_true rfl⟩ (fun r1 hr1 => ?_)
      obtain ⟨j39, hj39, ej39⟩ := hr1
      refine tp_i (y := nI j39) ej39 ?_
      refine lv_istore_n (lv' := [(3, .int (nI j39)), (0, .ref o), (1, .ref u), (2, .int x)]) hx hb dL_act_42 rfl hl (by decide) rfl (fun ls hl => ?_)
      exact M43 j39 (by omega) _ _ hP hD hS _ (lv_sub hl [1, 2, 3, 0] rfl)
  · skip
    refine lv_bipush (v := nI 40) hx hb dL_act_14 (by decide) ?_
    refine lv_goto (tgt := 39) hx hb dL_act_16 (by decide) ?_
    refine pz_p (wc := []) CF (m_L_below l D cI cZ (x >>> ((nI 3) &&& 31)) 40 (by omega) (by omega)) (va_cwS 2 hts gL_act_L_below rfl rfl rfl k_L_below.2 ⟨Nat.le_of_ble_eq_true rfl, Nat.le_of_ble_eq_true rfl⟩) hK (fun k q h => by simp at h) rfl hl.1 rfl (Nat.le_of_ble_eq_true rfl) dL_act_39 ⟨Nat.le_of_ble_eq_true rfl, Nat.le_of_ble_eq_true rfl⟩ (fun r1 hr1 => ?_)
    obtain ⟨j39, hj39, ej39⟩ := hr1
    refine tp_i (y := nI j39) ej39 ?_
    refine lv_istore_n (lv' := [(3, .int (nI j39)), (0, .ref o), (1, .ref u), (2, .int x)]) hx hb dL_act_42 rfl hl (by decide) rfl (fun ls hl => ?_)
    exact M43 j39 (by omega) _ _ hP hD hS _ (lv_sub hl [1, 2, 3, 0] rfl)
