/-! the law, call by call -/
/-- both sides' cells -/
abbrev lwx (cI cJ : ClassId) (o r t a1 a2 b1 b2 ot u c1 c2 c3 c4 n w n2 w2 : Nat) (F G F2 G2 FM V O Y : Nat → Int32) (B : Nat → Int64) (e0 e7 e8 e9 e10 : Int32) : va_W := [(o, .inr (1, [.ref r, .ref t])), (r, .inr (0, [.ref a1, .ref a2, .int (nI n), .int (nI w)])), (a1, .inl (cI, 40, .inl F)), (a2, .inl (cI, 40, .inl G)), (t, .inr (0, [.ref b1, .ref b2, .int (nI n2), .int (nI w2)])), (b1, .inl (cI, 40, .inl F2)), (b2, .inl (cI, 40, .inl G2)), (ot, .inl (cJ, 1, .inr (.inl B))), (u, .inr (2, [.int e0, .int (nI n), .int (nI w), .ref c1, .ref c2, .ref c3, .ref c4, .int e7, .int e8, .int e9, .int e10])), (c1, .inl (cI, 40, .inl FM)), (c2, .inl (cI, 40, .inl V)), (c3, .inl (cI, 40, .inl O)), (c4, .inl (cI, 40, .inl Y))]
/-- what holds all along the law -/
def LF (p : Program) (l : Launch) (s : State) (m : MethodId) (meth : Method) (c : Code) (b L : Nat) (xs : Nat → Int32) (D : va_G) (cI cJ : ClassId) (A : Nat → Prop) : Prop := CallFix p m c cL_law 9 s #[.ref b] wsL_law RL ∧ va_X b L xs s s.heap ∧ b < s.heap.size ∧ ¬ A b ∧ (∀ q : Nat, s.heap.size ≤ q → A q) ∧ va_K D vwCl [(cI, .int), (cJ, .long)] s ∧ XS s ∧ XZ A s s.heap ∧ va_Nc ISE IAE s ∧ l.stackTraces = false ∧ L ≤ 1536
/-- from here, with any theatre that both sides agree on, it goes well -/
def LG (p : Program) (l : Launch) (e : Env) (s : State) (m : MethodId) (below : List Frame) (meth : Method) (c : Code) (b : Nat) (D : va_G) (cI cJ : ClassId) (A : Nat → Prop) (Q : State → Prop) (pc i kc ks : Nat) : Prop := ∀ (o r t a1 a2 b1 b2 ot u c1 c2 c3 c4 n w n2 w2 : Nat) (F G f g F2 G2 FM V O Y : Nat → Int32) (B : Nat → Int64) (e0 e7 e8 e9 e10 : Int32) (H : Heap) (locs : List Loc) (ls : Array Slot), RS n w F G f g → MS n w FM V f g → va_P D vwCl (lwx cI cJ o r t a1 a2 b1 b2 ot u c1 c2 c3 c4 n w n2 w2 F G F2 G2 FM V O Y B e0 e7 e8 e9 e10) H → va_D A (lwx cI cJ o r t a1 a2 b1 b2 ot u c1 c2 c3 c4 n w n2 w2 F G F2 G2 FM V O Y B e0 e7 e8 e9 e10) → va_S A s.heap H locs → lv_has ls 9 [(0, .ref b), (1, .ref o), (2, .ref u), (3, .ref ot), (4, .int (nI i))] → W p l e room_1 s m #[.ref b] below meth c H locs kc ks Q (F0 m pc ls [])
set_option maxHeartbeats 4000000 in
set_option maxRecDepth 100000 in
theorem law_c0 {p : Program} {l : Launch} {e : Env} {s : State} {m : MethodId} {below : List Frame} {meth : Method} {c : Code} {b L : Nat} {xs : Nat → Int32} {D : va_G} {cI cJ : ClassId} {A : Nat → Prop} {Q : State → Prop} (F9 : LF p l s m meth c b L xs D cI cJ A) {i kc ks : Nat} (hi : i + 3 ≤ L) (hkc : kc + 50 ≤ 638288) (hks : ks + 300 ≤ 7181241) (hk : LG p l e s m below meth c b D cI cJ A Q 1147 i (kc + 50) (ks + 300)) : LG p l e s m below meth c b D cI cJ A Q 160 i kc ks := by
  obtain ⟨CF, hXs, hbl, hbA, hA, hKw, hXS, hZ, hN, hlt, hL⟩ := id F9
  obtain ⟨hx, hb, hml, hown, hts⟩ := id CF
  have hK : va_K D vwCl [(cI, .int)] s := hKw.sub [0] rfl
  intro o r t a1 a2 b1 b2 ot u c1 c2 c3 c4 n w n2 w2 F G f g F2 G2 FM V O Y B e0 e7 e8 e9 e10 H locs ls S M hP hD hS hl
  obtain ⟨hn3, hn, hw2, -, -, -⟩ := id S
  have hP : va_P D vwCl [(o, .inr (1, [.ref r, .ref t])), (r, .inr (0, [.ref a1, .ref a2, .int (nI n), .int (nI w)])), (a1, .inl (cI, 40, .inl F)), (a2, .inl (cI, 40, .inl G)), (t, .inr (0, [.ref b1, .ref b2, .int (nI n2), .int (nI w2)])), (b1, .inl (cI, 40, .inl F2)), (b2, .inl (cI, 40, .inl G2)), (ot, .inl (cJ, 1, .inr (.inl B))), (u, .inr (2, [.int e0, .int (nI n), .int (nI w), .ref c1, .ref c2, .ref c3, .ref c4, .int e7, .int e8, .int e9, .int e10])), (c1, .inl (cI, 40, .inl FM)), (c2, .inl (cI, 40, .inl V)), (c3, .inl (cI, 40, .inl O)), (c4, .inl (cI, 40, .inl Y))] H := hP
  have hD : va_D A [(o, .inr (1, [.ref r, .ref t])), (r, .inr (0, [.ref a1, .ref a2, .int (nI n), .int (nI w)])), (a1, .inl (cI, 40, .inl F)), (a2, .inl (cI, 40, .inl G)), (t, .inr (0, [.ref b1, .ref b2, .int (nI n2), .int (nI w2)])), (b1, .inl (cI, 40, .inl F2)), (b2, .inl (cI, 40, .inl G2)), (ot, .inl (cJ, 1, .inr (.inl B))), (u, .inr (2, [.int e0, .int (nI n), .int (nI w), .ref c1, .ref c2, .ref c3, .ref c4, .int e7, .int e8, .int e9, .int e10])), (c1, .inl (cI, 40, .inl FM)), (c2, .inl (cI, 40, .inl V)), (c3, .inl (cI, 40, .inl O)), (c4, .inl (cI, 40, .inl Y))] := hD
  refine lv_aload_n hx hb dL_law_160 rfl (lv_at hl 1 rfl) ?_
  refine lv_aload_n hx hb dL_law_161 rfl (lv_at hl 0 rfl) ?_
  refine lv_iload hx hb dL_law_162 (lv_at hl 4 rfl) ?_
  refine lv_iconst (v := nI 1) hx hb dL_law_164 (by decide) ?_
  refine an_add hx hb dL_law_165 ?_
  refine va_sld hx hb hXs hbl hbA hS (vp_in_nI (by omega) (by omega)) dL_law_166 ?_
  refine tp_i (y := xs (i + 1)) (congrArg xs (nI_clamp (by omega))) ?_
  refine lv_aload_n hx hb dL_law_167 rfl (lv_at hl 0 rfl) ?_
  refine lv_iload hx hb dL_law_168 (lv_at hl 4 rfl) ?_
  refine lv_iconst (v := nI 2) hx hb dL_law_170 (by decide) ?_
  refine an_add hx hb dL_law_171 ?_
  refine va_sld hx hb hXs hbl hbA hS (vp_in_nI (by omega) (by omega)) dL_law_172 ?_
  refine tp_i (y := xs (i + 2)) (congrArg xs (nI_clamp (by omega))) ?_
  refine lv_aload_n hx hb dL_law_173 rfl (lv_at hl 3 rfl) ?_
  have hPc : va_P D vwCl [(o, .inr (1, [.ref r, .ref t])), (r, .inr (0, [.ref a1, .ref a2, .int (nI n), .int (nI w)])), (a1, .inl (cI, 40, .inl F)), (a2, .inl (cI, 40, .inl G)), (t, .inr (0, [.ref b1, .ref b2, .int (nI n2), .int (nI w2)])), (b1, .inl (cI, 40, .inl F2)), (b2, .inl (cI, 40, .inl G2)), (ot, .inl (cJ, 1, .inr (.inl B)))] H := hP.sub [0, 1, 2, 3, 4, 5, 6, 7] rfl
  have hDc : va_D A [(o, .inr (1, [.ref r, .ref t])), (r, .inr (0, [.ref a1, .ref a2, .int (nI n), .int (nI w)])), (a1, .inl (cI, 40, .inl F)), (a2, .inl (cI, 40, .inl G)), (t, .inr (0, [.ref b1, .ref b2, .int (nI n2), .int (nI w2)])), (b1, .inl (cI, 40, .inl F2)), (b2, .inl (cI, 40, .inl G2)), (ot, .inl (cJ, 1, .inr (.inl B)))] := hD.sub [0, 1, 2, 3, 4, 5, 6, 7] (by decide) rfl
  have hFc := va_free (wc := [(o, .inr (1, [.ref r, .ref t])), (r, .inr (0, [.ref a1, .ref a2, .int (nI n), .int (nI w)])), (a1, .inl (cI, 40, .inl F)), (a2, .inl (cI, 40, .inl G)), (t, .inr (0, [.ref b1, .ref b2, .int (nI n2), .int (nI w2)])), (b1, .inl (cI, 40, .inl F2)), (b2, .inl (cI, 40, .inl G2)), (ot, .inl (cJ, 1, .inr (.inl B)))]) hD hS hA [0, 1, 2, 3, 4, 5, 6, 7] rfl
  refine pq_i (vx_runSW (rest := []) CF (m_L_hang l hlt D cI cJ o r t a1 a2 b1 b2 ot S n2 w2 F2 G2 B (xs (i + 1)) (xs (i + 2)) H.size) (vx_cwSW 4 hts gL_law_L_hang rfl rfl rfl k_L_hang.2 ⟨Nat.le_of_ble_eq_true rfl, Nat.le_of_ble_eq_true rfl⟩) (pl_pre hKw hPc hDc hXS (hZ.kept hS.2.1) hFc hN) rfl rfl hl.1 rfl (lv_room (Nat.le_of_ble_eq_true rfl)) dL_law_174 ⟨by show _ ≤ 638288; omega, by show _ ≤ 7181241; omega⟩) hS hFc (fun r1 H locs hB hk1 hS => ?_)
  obtain ⟨B1, ra, F3, G3, f3, g3, hQ1, S1, hBv, hP1⟩ := hB
  obtain ⟨hP, hD⟩ := jn (wb := [(o, .inr (1, [.ref r, .ref t])), (r, .inr (0, [.ref a1, .ref a2, .int (nI n), .int (nI w)])), (a1, .inl (cI, 40, .inl F3)), (a2, .inl (cI, 40, .inl G3)), (t, .inr (0, [.ref b1, .ref b2, .int (nI n2), .int (nI w2)])), (b1, .inl (cI, 40, .inl F2)), (b2, .inl (cI, 40, .inl G2)), (ot, .inl (cJ, 1, .inr (.inl B1))), (u, .inr (2, [.int e0, .int (nI n), .int (nI w), .ref c1, .ref c2, .ref c3, .ref c4, .int e7, .int e8, .int e9, .int e10])), (c1, .inl (cI, 40, .inl FM)), (c2, .inl (cI, 40, .inl V)), (c3, .inl (cI, 40, .inl O)), (c4, .inl (cI, 40, .inl Y))]) (w1 := [(o, .inr (1, [.ref r, .ref t])), (r, .inr (0, [.ref a1, .ref a2, .int (nI n), .int (nI w)])), (a1, .inl (cI, 40, .inl F3)), (a2, .inl (cI, 40, .inl G3)), (t, .inr (0, [.ref b1, .ref b2, .int (nI n2), .int (nI w2)])), (b1, .inl (cI, 40, .inl F2)), (b2, .inl (cI, 40, .inl G2)), (ot, .inl (cJ, 1, .inr (.inl B1)))]) hP hD [0, 1, 2, 3, 4, 5, 6, 7] [8, 9, 10, 11, 12] rfl rfl rfl rfl 13 rfl (by decide) (by decide) hk1 hP1
  refine lv_istore (lv' := [(5, .int r1), (0, .ref b), (1, .ref o), (2, .ref u), (3, .ref ot), (4, .int (nI i))]) hx hb dL_law_177 hl (by decide) rfl (fun ls hl => ?_)
  refine lv_aload_n hx hb dL_law_179 rfl (lv_at hl 3 rfl) ?_
  refine lv_aload_n hx hb dL_law_180 rfl (lv_at hl 1 rfl) ?_
  refine lv_iload hx hb dL_law_181 (lv_at hl 5 rfl) ?_
  refine lv_iconst (v := nI 1) hx hb dL_law_183 (by decide) ?_
  refine an_add hx hb dL_law_184 ?_
  refine va_sld hx hb hXs hbl hbA hS (vp_in_nI (by omega) (by omega)) dL_law_185 ?_
  refine tp_i (y := xs (i + 1)) (congrArg xs (nI_clamp (by omega))) ?_
  refine lv_aload_n hx hb dL_law_186 rfl (lv_at hl 1 rfl) ?_
  refine lv_iload hx hb dL_law_187 (lv_at hl 5 rfl) ?_
  refine lv_iconst (v := nI 2) hx hb dL_law_189 (by decide) ?_
  refine an_add hx hb dL_law_190 ?_
  refine va_sld hx hb hXs hbl hbA hS (vp_in_nI (by omega) (by omega)) dL_law_191 ?_
  refine tp_i (y := xs (i + 2)) (congrArg xs (nI_clamp (by omega))) ?_
  have hPc : va_P D vwCl [(u, .inr (2, [.int e0, .int (nI n), .int (nI w), .ref c1, .ref c2, .ref c3, .ref c4, .int e7, .int e8, .int e9, .int e10])), (c1, .inl (cI, 40, .inl FM)), (c2, .inl (cI, 40, .inl V)), (c3, .inl (cI, 40, .inl O)), (c4, .inl (cI, 40, .inl Y))] H := hP.sub [8, 9, 10, 11, 12] rfl
  have hDc : va_D A [(u, .inr (2, [.int e0, .int (nI n), .int (nI w), .ref c1, .ref c2, .ref c3, .ref c4, .int e7, .int e8, .int e9, .int e10])), (c1, .inl (cI, 40, .inl FM)), (c2, .inl (cI, 40, .inl V)), (c3, .inl (cI, 40, .inl O)), (c4, .inl (cI, 40, .inl Y))] := hD.sub [8, 9, 10, 11, 12] (by decide) rfl
  have hFc := va_free (wc := [(u, .inr (2, [.int e0, .int (nI n), .int (nI w), .ref c1, .ref c2, .ref c3, .ref c4, .int e7, .int e8, .int e9, .int e10])), (c1, .inl (cI, 40, .inl FM)), (c2, .inl (cI, 40, .inl V)), (c3, .inl (cI, 40, .inl O)), (c4, .inl (cI, 40, .inl Y))]) hD hS hA [8, 9, 10, 11, 12] rfl
  refine pq_i (va_runV (rest := []) CF (m_X2_hang l D cI u c1 c2 c3 c4 M O Y e0 e7 e8 e9 e10 (xs (i + 1)) (xs (i + 2)) H.size) (cwV 2 hts gL_law_X2_hang rfl rfl rfl k_X2_hang ⟨Nat.le_of_ble_eq_true rfl, Nat.le_of_ble_eq_true rfl⟩) (mv_pre hK hPc hDc rfl rfl rfl) rfl rfl hl.1 rfl (lv_room (Nat.le_of_ble_eq_true rfl)) dL_law_192 ⟨by show _ ≤ 638288; omega, by show _ ≤ 7181241; omega⟩) hS hFc (fun r2 H locs hB hk1 hS => ?_)
  obtain ⟨c9, d7, d8, d9, d10, FM3, V3, f4, g4, hQ2, M1, hP1⟩ := hB
  obtain ⟨hP, hD⟩ := jn (wb := [(o, .inr (1, [.ref r, .ref t])), (r, .inr (0, [.ref a1, .ref a2, .int (nI n), .int (nI w)])), (a1, .inl (cI, 40, .inl F3)), (a2, .inl (cI, 40, .inl G3)), (t, .inr (0, [.ref b1, .ref b2, .int (nI n2), .int (nI w2)])), (b1, .inl (cI, 40, .inl F2)), (b2, .inl (cI, 40, .inl G2)), (ot, .inl (cJ, 1, .inr (.inl B1))), (u, .inr (2, [.int c9, .int (nI n), .int (nI w), .ref c1, .ref c2, .ref c3, .ref c4, .int d7, .int d8, .int d9, .int d10])), (c1, .inl (cI, 40, .inl FM3)), (c2, .inl (cI, 40, .inl V3)), (c3, .inl (cI, 40, .inl O)), (c4, .inl (cI, 40, .inl Y))]) (w1 := [(u, .inr (2, [.int c9, .int (nI n), .int (nI w), .ref c1, .ref c2, .ref c3, .ref c4, .int d7, .int d8, .int d9, .int d10])), (c1, .inl (cI, 40, .inl FM3)), (c2, .inl (cI, 40, .inl V3)), (c3, .inl (cI, 40, .inl O)), (c4, .inl (cI, 40, .inl Y))]) hP hD [8, 9, 10, 11, 12] [0, 1, 2, 3, 4, 5, 6, 7] rfl rfl rfl rfl 13 rfl (by decide) (by decide) hk1 hP1
  obtain ⟨hcc, hrr, rfl, rfl⟩ := Qh.eq hn hQ1 hQ2
  refine lv_istore (lv' := [(6, .int r2), (5, .int r1), (0, .ref b), (1, .ref o), (2, .ref u), (3, .ref ot), (4, .int (nI i))]) hx hb dL_law_195 hl (by decide) rfl (fun ls hl => ?_)
  refine lv_aload_n hx hb dL_law_197 rfl (lv_at hl 4 rfl) ?_
  refine pv_i CF (m_X2_thrown l D cI u c1 c2 c3 c4 M1 O Y c9 d7 d8 d9 d10) (cwV 0 hts gL_law_X2_thrown rfl rfl rfl k_X2_thrown ⟨Nat.le_of_ble_eq_true rfl, Nat.le_of_ble_eq_true rfl⟩) hK (hP.sub [8, 9, 10, 11, 12] rfl) rfl rfl rfl rfl hl.1 rfl (Nat.le_of_ble_eq_true rfl) dL_law_198 ⟨by show _ ≤ 638288; omega, by show _ ≤ 7181241; omega⟩ ?_
  refine lv_iload hx hb dL_law_201 (lv_at hl 1 rfl) ?_
  refine lv_icmp_eq (tgt := 208) hx hb dL_law_203 (by decide) (fun c203 => ?_) (fun c203 => ?_)
  · skip
    refine lv_iload hx hb dL_law_208 (lv_at hl 1 rfl) ?_
    refine lv_if_ne (tgt := 225) hx hb dL_law_210 (by decide) (fun c210 => ?_) (fun c210 => ?_)
    · skip
      refine lv_goto (tgt := 1147) hx hb dL_law_225 (by decide) ?_
      refine w_widen (k := kc + 50) (n := ks + 300) (by omega) (by omega) ?_
      exact hk _ _ _ _ _ _ _ _ _ _ _ _ _ _ _ _ _ _ _ _ _ _ _ _ _ _ _ _ _ _ _ _ _ _ _ _ S1 M1 hP hD hS (lv_sub hl [2, 3, 4, 5, 6] rfl)
    · skip
      refine lv_aload_n hx hb dL_law_213 rfl (lv_at hl 5 rfl) ?_
      refine lv_iconst (v := nI 0) hx hb dL_law_214 (by decide) ?_
      refine va_lald hx hb hKw hP 7 1 rfl rfl (vp_in_nI (by decide) (by decide)) dL_law_215 ?_
      refine tp_l (y := ra.toInt64) (by rw [nI_clamp (by decide)]; exact hBv (c210.trans (by decide))) ?_
      refine lv_iload hx hb dL_law_216 (lv_at hl 0 rfl) ?_
      refine lv_i2l hx hb dL_law_218 rfl ?_
      refine lw_lcmp hx hb (congrArg Int32.toInt64 (hrr (c210.trans (by decide)))) dL_law_219 ?_
      refine lv_if_eq (tgt := 225) hx hb dL_law_220 (by decide) (fun c220 => ?_) (fun c220 => ?_)
      · skip
        refine lv_goto (tgt := 1147) hx hb dL_law_225 (by decide) ?_
        refine w_widen (k := kc + 50) (n := ks + 300) (by omega) (by omega) ?_
        exact hk _ _ _ _ _ _ _ _ _ _ _ _ _ _ _ _ _ _ _ _ _ _ _ _ _ _ _ _ _ _ _ _ _ _ _ _ S1 M1 hP hD hS (lv_sub hl [2, 3, 4, 5, 6] rfl)
      · skip
        exact absurd rfl c220
  · skip
    exact absurd hcc.symm c203
set_option maxHeartbeats 4000000 in
set_option maxRecDepth 100000 in
theorem law_c1 {p : Program} {l : Launch} {e : Env} {s : State} {m : MethodId} {below : List Frame} {meth : Method} {c : Code} {b L : Nat} {xs : Nat → Int32} {D : va_G} {cI cJ : ClassId} {A : Nat → Prop} {Q : State → Prop} (F9 : LF p l s m meth c b L xs D cI cJ A) {i kc ks : Nat} (hi : i + 3 ≤ L) (hkc : kc + 50 ≤ 638288) (hks : ks + 300 ≤ 7181241) (hk : LG p l e s m below meth c b D cI cJ A Q 1147 i (kc + 50) (ks + 300)) : LG p l e s m below meth c b D cI cJ A Q 228 i kc ks := by
  obtain ⟨CF, hXs, hbl, hbA, hA, hKw, hXS, hZ, hN, hlt, hL⟩ := id F9
  obtain ⟨hx, hb, hml, hown, hts⟩ := id CF
  have hK : va_K D vwCl [(cI, .int)] s := hKw.sub [0] rfl
  intro o r t a1 a2 b1 b2 ot u c1 c2 c3 c4 n w n2 w2 F G f g F2 G2 FM V O Y B e0 e7 e8 e9 e10 H locs ls S M hP hD hS hl
  obtain ⟨hn3, hn, hw2, -, -, -⟩ := id S
  have hP : va_P D vwCl [(o, .inr (1, [.ref r, .ref t])), (r, .inr (0, [.ref a1, .ref a2, .int (nI n), .int (nI w)])), (a1, .inl (cI, 40, .inl F)), (a2, .inl (cI, 40, .inl G)), (t, .inr (0, [.ref b1, .ref b2, .int (nI n2), .int (nI w2)])), (b1, .inl (cI, 40, .inl F2)), (b2, .inl (cI, 40, .inl G2)), (ot, .inl (cJ, 1, .inr (.inl B))), (u, .inr (2, [.int e0, .int (nI n), .int (nI w), .ref c1, .ref c2, .ref c3, .ref c4, .int e7, .int e8, .int e9, .int e10])), (c1, .inl (cI, 40, .inl FM)), (c2, .inl (cI, 40, .inl V)), (c3, .inl (cI, 40, .inl O)), (c4, .inl (cI, 40, .inl Y))] H := hP
  have hD : va_D A [(o, .inr (1, [.ref r, .ref t])), (r, .inr (0, [.ref a1, .ref a2, .int (nI n), .int (nI w)])), (a1, .inl (cI, 40, .inl F)), (a2, .inl (cI, 40, .inl G)), (t, .inr (0, [.ref b1, .ref b2, .int (nI n2), .int (nI w2)])), (b1, .inl (cI, 40, .inl F2)), (b2, .inl (cI, 40, .inl G2)), (ot, .inl (cJ, 1, .inr (.inl B))), (u, .inr (2, [.int e0, .int (nI n), .int (nI w), .ref c1, .ref c2, .ref c3, .ref c4, .int e7, .int e8, .int e9, .int e10])), (c1, .inl (cI, 40, .inl FM)), (c2, .inl (cI, 40, .inl V)), (c3, .inl (cI, 40, .inl O)), (c4, .inl (cI, 40, .inl Y))] := hD
  refine lv_aload_n hx hb dL_law_228 rfl (lv_at hl 1 rfl) ?_
  refine lv_aload_n hx hb dL_law_229 rfl (lv_at hl 0 rfl) ?_
  refine lv_iload hx hb dL_law_230 (lv_at hl 4 rfl) ?_
  refine lv_iconst (v := nI 1) hx hb dL_law_232 (by decide) ?_
  refine an_add hx hb dL_law_233 ?_
  refine va_sld hx hb hXs hbl hbA hS (vp_in_nI (by omega) (by omega)) dL_law_234 ?_
  refine tp_i (y := xs (i + 1)) (congrArg xs (nI_clamp (by omega))) ?_
  refine lv_aload_n hx hb dL_law_235 rfl (lv_at hl 3 rfl) ?_
  have hPc : va_P D vwCl [(o, .inr (1, [.ref r, .ref t])), (r, .inr (0, [.ref a1, .ref a2, .int (nI n), .int (nI w)])), (a1, .inl (cI, 40, .inl F)), (a2, .inl (cI, 40, .inl G)), (t, .inr (0, [.ref b1, .ref b2, .int (nI n2), .int (nI w2)])), (b1, .inl (cI, 40, .inl F2)), (b2, .inl (cI, 40, .inl G2)), (ot, .inl (cJ, 1, .inr (.inl B)))] H := hP.sub [0, 1, 2, 3, 4, 5, 6, 7] rfl
  have hDc : va_D A [(o, .inr (1, [.ref r, .ref t])), (r, .inr (0, [.ref a1, .ref a2, .int (nI n), .int (nI w)])), (a1, .inl (cI, 40, .inl F)), (a2, .inl (cI, 40, .inl G)), (t, .inr (0, [.ref b1, .ref b2, .int (nI n2), .int (nI w2)])), (b1, .inl (cI, 40, .inl F2)), (b2, .inl (cI, 40, .inl G2)), (ot, .inl (cJ, 1, .inr (.inl B)))] := hD.sub [0, 1, 2, 3, 4, 5, 6, 7] (by decide) rfl
  have hFc := va_free (wc := [(o, .inr (1, [.ref r, .ref t])), (r, .inr (0, [.ref a1, .ref a2, .int (nI n), .int (nI w)])), (a1, .inl (cI, 40, .inl F)), (a2, .inl (cI, 40, .inl G)), (t, .inr (0, [.ref b1, .ref b2, .int (nI n2), .int (nI w2)])), (b1, .inl (cI, 40, .inl F2)), (b2, .inl (cI, 40, .inl G2)), (ot, .inl (cJ, 1, .inr (.inl B)))]) hD hS hA [0, 1, 2, 3, 4, 5, 6, 7] rfl
  refine pq_i (vx_runSW (rest := []) CF (m_L_take l hlt D cI cJ o r t a1 a2 b1 b2 ot S n2 w2 F2 G2 B (xs (i + 1)) H.size) (vx_cwSW 3 hts gL_law_L_take rfl rfl rfl k_L_take.2 ⟨Nat.le_of_ble_eq_true rfl, Nat.le_of_ble_eq_true rfl⟩) (pl_pre hKw hPc hDc hXS (hZ.kept hS.2.1) hFc hN) rfl rfl hl.1 rfl (lv_room (Nat.le_of_ble_eq_true rfl)) dL_law_236 ⟨by show _ ≤ 638288; omega, by show _ ≤ 7181241; omega⟩) hS hFc (fun r1 H locs hB hk1 hS => ?_)
  obtain ⟨B1, ra, F3, G3, f3, g3, hQ1, S1, hBv, hP1⟩ := hB
  obtain ⟨hP, hD⟩ := jn (wb := [(o, .inr (1, [.ref r, .ref t])), (r, .inr (0, [.ref a1, .ref a2, .int (nI n), .int (nI w)])), (a1, .inl (cI, 40, .inl F3)), (a2, .inl (cI, 40, .inl G3)), (t, .inr (0, [.ref b1, .ref b2, .int (nI n2), .int (nI w2)])), (b1, .inl (cI, 40, .inl F2)), (b2, .inl (cI, 40, .inl G2)), (ot, .inl (cJ, 1, .inr (.inl B1))), (u, .inr (2, [.int e0, .int (nI n), .int (nI w), .ref c1, .ref c2, .ref c3, .ref c4, .int e7, .int e8, .int e9, .int e10])), (c1, .inl (cI, 40, .inl FM)), (c2, .inl (cI, 40, .inl V)), (c3, .inl (cI, 40, .inl O)), (c4, .inl (cI, 40, .inl Y))]) (w1 := [(o, .inr (1, [.ref r, .ref t])), (r, .inr (0, [.ref a1, .ref a2, .int (nI n), .int (nI w)])), (a1, .inl (cI, 40, .inl F3)), (a2, .inl (cI, 40, .inl G3)), (t, .inr (0, [.ref b1, .ref b2, .int (nI n2), .int (nI w2)])), (b1, .inl (cI, 40, .inl F2)), (b2, .inl (cI, 40, .inl G2)), (ot, .inl (cJ, 1, .inr (.inl B1)))]) hP hD [0, 1, 2, 3, 4, 5, 6, 7] [8, 9, 10, 11, 12] rfl rfl rfl rfl 13 rfl (by decide) (by decide) hk1 hP1
  refine lv_istore (lv' := [(5, .int r1), (0, .ref b), (1, .ref o), (2, .ref u), (3, .ref ot), (4, .int (nI i))]) hx hb dL_law_239 hl (by decide) rfl (fun ls hl => ?_)
  refine lv_aload_n hx hb dL_law_241 rfl (lv_at hl 3 rfl) ?_
  refine lv_aload_n hx hb dL_law_242 rfl (lv_at hl 1 rfl) ?_
  refine lv_iload hx hb dL_law_243 (lv_at hl 5 rfl) ?_
  refine lv_iconst (v := nI 1) hx hb dL_law_245 (by decide) ?_
  refine an_add hx hb dL_law_246 ?_
  refine va_sld hx hb hXs hbl hbA hS (vp_in_nI (by omega) (by omega)) dL_law_247 ?_
  refine tp_i (y := xs (i + 1)) (congrArg xs (nI_clamp (by omega))) ?_
  have hPc : va_P D vwCl [(u, .inr (2, [.int e0, .int (nI n), .int (nI w), .ref c1, .ref c2, .ref c3, .ref c4, .int e7, .int e8, .int e9, .int e10])), (c1, .inl (cI, 40, .inl FM)), (c2, .inl (cI, 40, .inl V)), (c3, .inl (cI, 40, .inl O)), (c4, .inl (cI, 40, .inl Y))] H := hP.sub [8, 9, 10, 11, 12] rfl
  have hDc : va_D A [(u, .inr (2, [.int e0, .int (nI n), .int (nI w), .ref c1, .ref c2, .ref c3, .ref c4, .int e7, .int e8, .int e9, .int e10])), (c1, .inl (cI, 40, .inl FM)), (c2, .inl (cI, 40, .inl V)), (c3, .inl (cI, 40, .inl O)), (c4, .inl (cI, 40, .inl Y))] := hD.sub [8, 9, 10, 11, 12] (by decide) rfl
  have hFc := va_free (wc := [(u, .inr (2, [.int e0, .int (nI n), .int (nI w), .ref c1, .ref c2, .ref c3, .ref c4, .int e7, .int e8, .int e9, .int e10])), (c1, .inl (cI, 40, .inl FM)), (c2, .inl (cI, 40, .inl V)), (c3, .inl (cI, 40, .inl O)), (c4, .inl (cI, 40, .inl Y))]) hD hS hA [8, 9, 10, 11, 12] rfl
  refine pq_i (va_runV (rest := []) CF (m_X2_take l D cI u c1 c2 c3 c4 M O Y e0 e7 e8 e9 e10 (xs (i + 1)) H.size) (cwV 1 hts gL_law_X2_take rfl rfl rfl k_X2_take ⟨Nat.le_of_ble_eq_true rfl, Nat.le_of_ble_eq_true rfl⟩) (mv_pre hK hPc hDc rfl rfl rfl) rfl rfl hl.1 rfl (lv_room (Nat.le_of_ble_eq_true rfl)) dL_law_248 ⟨by show _ ≤ 638288; omega, by show _ ≤ 7181241; omega⟩) hS hFc (fun r2 H locs hB hk1 hS => ?_)
  obtain ⟨c9, d7, d8, d9, d10, FM3, V3, f4, g4, hQ2, M1, hP1⟩ := hB
  obtain ⟨hP, hD⟩ := jn (wb := [(o, .inr (1, [.ref r, .ref t])), (r, .inr (0, [.ref a1, .ref a2, .int (nI n), .int (nI w)])), (a1, .inl (cI, 40, .inl F3)), (a2, .inl (cI, 40, .inl G3)), (t, .inr (0, [.ref b1, .ref b2, .int (nI n2), .int (nI w2)])), (b1, .inl (cI, 40, .inl F2)), (b2, .inl (cI, 40, .inl G2)), (ot, .inl (cJ, 1, .inr (.inl B1))), (u, .inr (2, [.int c9, .int (nI n), .int (nI w), .ref c1, .ref c2, .ref c3, .ref c4, .int d7, .int d8, .int d9, .int d10])), (c1, .inl (cI, 40, .inl FM3)), (c2, .inl (cI, 40, .inl V3)), (c3, .inl (cI, 40, .inl O)), (c4, .inl (cI, 40, .inl Y))]) (w1 := [(u, .inr (2, [.int c9, .int (nI n), .int (nI w), .ref c1, .ref c2, .ref c3, .ref c4, .int d7, .int d8, .int d9, .int d10])), (c1, .inl (cI, 40, .inl FM3)), (c2, .inl (cI, 40, .inl V3)), (c3, .inl (cI, 40, .inl O)), (c4, .inl (cI, 40, .inl Y))]) hP hD [8, 9, 10, 11, 12] [0, 1, 2, 3, 4, 5, 6, 7] rfl rfl rfl rfl 13 rfl (by decide) (by decide) hk1 hP1
  obtain ⟨hcc, hrr, rfl, rfl⟩ := Qt.eq hn3 hn hQ1 hQ2
  refine lv_istore (lv' := [(6, .int r2), (5, .int r1), (0, .ref b), (1, .ref o), (2, .ref u), (3, .ref ot), (4, .int (nI i))]) hx hb dL_law_251 hl (by decide) rfl (fun ls hl => ?_)
  refine lv_aload_n hx hb dL_law_253 rfl (lv_at hl 4 rfl) ?_
  refine pv_i CF (m_X2_thrown l D cI u c1 c2 c3 c4 M1 O Y c9 d7 d8 d9 d10) (cwV 0 hts gL_law_X2_thrown rfl rfl rfl k_X2_thrown ⟨Nat.le_of_ble_eq_true rfl, Nat.le_of_ble_eq_true rfl⟩) hK (hP.sub [8, 9, 10, 11, 12] rfl) rfl rfl rfl rfl hl.1 rfl (Nat.le_of_ble_eq_true rfl) dL_law_254 ⟨by show _ ≤ 638288; omega, by show _ ≤ 7181241; omega⟩ ?_
  refine lv_iload hx hb dL_law_257 (lv_at hl 1 rfl) ?_
  refine lv_icmp_eq (tgt := 264) hx hb dL_law_259 (by decide) (fun c259 => ?_) (fun c259 => ?_)
  · skip
    refine lv_iload hx hb dL_law_264 (lv_at hl 1 rfl) ?_
    refine lv_if_ne (tgt := 281) hx hb dL_law_266 (by decide) (fun c266 => ?_) (fun c266 => ?_)
    · skip
      refine lv_goto (tgt := 1147) hx hb dL_law_281 (by decide) ?_
      refine w_widen (k := kc + 50) (n := ks + 300) (by omega) (by omega) ?_
      exact hk _ _ _ _ _ _ _ _ _ _ _ _ _ _ _ _ _ _ _ _ _ _ _ _ _ _ _ _ _ _ _ _ _ _ _ _ S1 M1 hP hD hS (lv_sub hl [2, 3, 4, 5, 6] rfl)
    · skip
      refine lv_aload_n hx hb dL_law_269 rfl (lv_at hl 5 rfl) ?_
      refine lv_iconst (v := nI 0) hx hb dL_law_270 (by decide) ?_
      refine va_lald hx hb hKw hP 7 1 rfl rfl (vp_in_nI (by decide) (by decide)) dL_law_271 ?_
      refine tp_l (y := ra.toInt64) (by rw [nI_clamp (by decide)]; exact hBv (c266.trans (by decide))) ?_
      refine lv_iload hx hb dL_law_272 (lv_at hl 0 rfl) ?_
      refine lv_i2l hx hb dL_law_274 rfl ?_
      refine lw_lcmp hx hb (congrArg Int32.toInt64 (hrr (c266.trans (by decide)))) dL_law_275 ?_
      refine lv_if_eq (tgt := 281) hx hb dL_law_276 (by decide) (fun c276 => ?_) (fun c276 => ?_)
      · skip
        refine lv_goto (tgt := 1147) hx hb dL_law_281 (by decide) ?_
        refine w_widen (k := kc + 50) (n := ks + 300) (by omega) (by omega) ?_
        exact hk _ _ _ _ _ _ _ _ _ _ _ _ _ _ _ _ _ _ _ _ _ _ _ _ _ _ _ _ _ _ _ _ _ _ _ _ S1 M1 hP hD hS (lv_sub hl [2, 3, 4, 5, 6] rfl)
      · skip
        exact absurd rfl c276
  · skip
    exact absurd hcc.symm c259
set_option maxHeartbeats 4000000 in
set_option maxRecDepth 100000 in
theorem law_c2 {p : Program} {l : Launch} {e : Env} {s : State} {m : MethodId} {below : List Frame} {meth : Method} {c : Code} {b L : Nat} {xs : Nat → Int32} {D : va_G} {cI cJ : ClassId} {A : Nat → Prop} {Q : State → Prop} (F9 : LF p l s m meth c b L xs D cI cJ A) {i kc ks : Nat} (hi : i + 3 ≤ L) (hkc : kc + 50 ≤ 638288) (hks : ks + 300 ≤ 7181241) (hk : LG p l e s m below meth c b D cI cJ A Q 1147 i (kc + 50) (ks + 300)) : LG p l e s m below meth c b D cI cJ A Q 284 i kc ks := by
  obtain ⟨CF, hXs, hbl, hbA, hA, hKw, hXS, hZ, hN, hlt, hL⟩ := id F9
  obtain ⟨hx, hb, hml, hown, hts⟩ := id CF
  have hK : va_K D vwCl [(cI, .int)] s := hKw.sub [0] rfl
  intro o r t a1 a2 b1 b2 ot u c1 c2 c3 c4 n w n2 w2 F G f g F2 G2 FM V O Y B e0 e7 e8 e9 e10 H locs ls S M hP hD hS hl
  obtain ⟨hn3, hn, hw2, -, -, -⟩ := id S
  have hP : va_P D vwCl [(o, .inr (1, [.ref r, .ref t])), (r, .inr (0, [.ref a1, .ref a2, .int (nI n), .int (nI w)])), (a1, .inl (cI, 40, .inl F)), (a2, .inl (cI, 40, .inl G)), (t, .inr (0, [.ref b1, .ref b2, .int (nI n2), .int (nI w2)])), (b1, .inl (cI, 40, .inl F2)), (b2, .inl (cI, 40, .inl G2)), (ot, .inl (cJ, 1, .inr (.inl B))), (u, .inr (2, [.int e0, .int (nI n), .int (nI w), .ref c1, .ref c2, .ref c3, .ref c4, .int e7, .int e8, .int e9, .int e10])), (c1, .inl (cI, 40, .inl FM)), (c2, .inl (cI, 40, .inl V)), (c3, .inl (cI, 40, .inl O)), (c4, .inl (cI, 40, .inl Y))] H := hP
  have hD : va_D A [(o, .inr (1, [.ref r, .ref t])), (r, .inr (0, [.ref a1, .ref a2, .int (nI n), .int (nI w)])), (a1, .inl (cI, 40, .inl F)), (a2, .inl (cI, 40, .inl G)), (t, .inr (0, [.ref b1, .ref b2, .int (nI n2), .int (nI w2)])), (b1, .inl (cI, 40, .inl F2)), (b2, .inl (cI, 40, .inl G2)), (ot, .inl (cJ, 1, .inr (.inl B))), (u, .inr (2, [.int e0, .int (nI n), .int (nI w), .ref c1, .ref c2, .ref c3, .ref c4, .int e7, .int e8, .int e9, .int e10])), (c1, .inl (cI, 40, .inl FM)), (c2, .inl (cI, 40, .inl V)), (c3, .inl (cI, 40, .inl O)), (c4, .inl (cI, 40, .inl Y))] := hD
  refine lv_aload_n hx hb dL_law_284 rfl (lv_at hl 1 rfl) ?_
  refine lv_aload_n hx hb dL_law_285 rfl (lv_at hl 0 rfl) ?_
  refine lv_iload hx hb dL_law_286 (lv_at hl 4 rfl) ?_
  refine lv_iconst (v := nI 1) hx hb dL_law_288 (by decide) ?_
  refine an_add hx hb dL_law_289 ?_
  refine va_sld hx hb hXs hbl hbA hS (vp_in_nI (by omega) (by omega)) dL_law_290 ?_
  refine tp_i (y := xs (i + 1)) (congrArg xs (nI_clamp (by omega))) ?_
  refine lv_aload_n hx hb dL_law_291 rfl (lv_at hl 0 rfl) ?_
  refine lv_iload hx hb dL_law_292 (lv_at hl 4 rfl) ?_
  refine lv_iconst (v := nI 2) hx hb dL_law_294 (by decide) ?_
  refine an_add hx hb dL_law_295 ?_
  refine va_sld hx hb hXs hbl hbA hS (vp_in_nI (by omega) (by omega)) dL_law_296 ?_
  refine tp_i (y := xs (i + 2)) (congrArg xs (nI_clamp (by omega))) ?_
  refine lv_aload_n hx hb dL_law_297 rfl (lv_at hl 3 rfl) ?_
  have hPc : va_P D vwCl [(o, .inr (1, [.ref r, .ref t])), (r, .inr (0, [.ref a1, .ref a2, .int (nI n), .int (nI w)])), (a1, .inl (cI, 40, .inl F)), (a2, .inl (cI, 40, .inl G)), (t, .inr (0, [.ref b1, .ref b2, .int (nI n2), .int (nI w2)])), (b1, .inl (cI, 40, .inl F2)), (b2, .inl (cI, 40, .inl G2)), (ot, .inl (cJ, 1, .inr (.inl B)))] H := hP.sub [0, 1, 2, 3, 4, 5, 6, 7] rfl
  have hDc : va_D A [(o, .inr (1, [.ref r, .ref t])), (r, .inr (0, [.ref a1, .ref a2, .int (nI n), .int (nI w)])), (a1, .inl (cI, 40, .inl F)), (a2, .inl (cI, 40, .inl G)), (t, .inr (0, [.ref b1, .ref b2, .int (nI n2), .int (nI w2)])), (b1, .inl (cI, 40, .inl F2)), (b2, .inl (cI, 40, .inl G2)), (ot, .inl (cJ, 1, .inr (.inl B)))] := hD.sub [0, 1, 2, 3, 4, 5, 6, 7] (by decide) rfl
  have hFc := va_free (wc := [(o, .inr (1, [.ref r, .ref t])), (r, .inr (0, [.ref a1, .ref a2, .int (nI n), .int (nI w)])), (a1, .inl (cI, 40, .inl F)), (a2, .inl (cI, 40, .inl G)), (t, .inr (0, [.ref b1, .ref b2, .int (nI n2), .int (nI w2)])), (b1, .inl (cI, 40, .inl F2)), (b2, .inl (cI, 40, .inl G2)), (ot, .inl (cJ, 1, .inr (.inl B)))]) hD hS hA [0, 1, 2, 3, 4, 5, 6, 7] rfl
  refine pq_i (vx_runSW (rest := []) CF (m_L_rehang l hlt D cI cJ o r t a1 a2 b1 b2 ot S n2 w2 F2 G2 B (xs (i + 1)) (xs (i + 2)) H.size) (vx_cwSW 4 hts gL_law_L_rehang rfl rfl rfl k_L_rehang.2 ⟨Nat.le_of_ble_eq_true rfl, Nat.le_of_ble_eq_true rfl⟩) (pl_pre hKw hPc hDc hXS (hZ.kept hS.2.1) hFc hN) rfl rfl hl.1 rfl (lv_room (Nat.le_of_ble_eq_true rfl)) dL_law_298 ⟨by show _ ≤ 638288; omega, by show _ ≤ 7181241; omega⟩) hS hFc (fun r1 H locs hB hk1 hS => ?_)
  obtain ⟨B1, ra, n3, w3, F3, G3, f3, g3, n4, w4, F4, G4, hQ1, S1, hBv, hP1⟩ := hB
  obtain ⟨hP, hD⟩ := jn (wb := [(o, .inr (1, [.ref r, .ref t])), (r, .inr (0, [.ref a1, .ref a2, .int (nI n3), .int (nI w3)])), (a1, .inl (cI, 40, .inl F3)), (a2, .inl (cI, 40, .inl G3)), (t, .inr (0, [.ref b1, .ref b2, .int (nI n4), .int (nI w4)])), (b1, .inl (cI, 40, .inl F4)), (b2, .inl (cI, 40, .inl G4)), (ot, .inl (cJ, 1, .inr (.inl B1))), (u, .inr (2, [.int e0, .int (nI n), .int (nI w), .ref c1, .ref c2, .ref c3, .ref c4, .int e7, .int e8, .int e9, .int e10])), (c1, .inl (cI, 40, .inl FM)), (c2, .inl (cI, 40, .inl V)), (c3, .inl (cI, 40, .inl O)), (c4, .inl (cI, 40, .inl Y))]) (w1 := [(o, .inr (1, [.ref r, .ref t])), (r, .inr (0, [.ref a1, .ref a2, .int (nI n3), .int (nI w3)])), (a1, .inl (cI, 40, .inl F3)), (a2, .inl (cI, 40, .inl G3)), (t, .inr (0, [.ref b1, .ref b2, .int (nI n4), .int (nI w4)])), (b1, .inl (cI, 40, .inl F4)), (b2, .inl (cI, 40, .inl G4)), (ot, .inl (cJ, 1, .inr (.inl B1)))]) hP hD [0, 1, 2, 3, 4, 5, 6, 7] [8, 9, 10, 11, 12] rfl rfl rfl rfl 13 rfl (by decide) (by decide) hk1 hP1
  refine lv_istore (lv' := [(5, .int r1), (0, .ref b), (1, .ref o), (2, .ref u), (3, .ref ot), (4, .int (nI i))]) hx hb dL_law_301 hl (by decide) rfl (fun ls hl => ?_)
  refine lv_aload_n hx hb dL_law_303 rfl (lv_at hl 3 rfl) ?_
  refine lv_aload_n hx hb dL_law_304 rfl (lv_at hl 1 rfl) ?_
  refine lv_iload hx hb dL_law_305 (lv_at hl 5 rfl) ?_
  refine lv_iconst (v := nI 1) hx hb dL_law_307 (by decide) ?_
  refine an_add hx hb dL_law_308 ?_
  refine va_sld hx hb hXs hbl hbA hS (vp_in_nI (by omega) (by omega)) dL_law_309 ?_
  refine tp_i (y := xs (i + 1)) (congrArg xs (nI_clamp (by omega))) ?_
  refine lv_aload_n hx hb dL_law_310 rfl (lv_at hl 1 rfl) ?_
  refine lv_iload hx hb dL_law_311 (lv_at hl 5 rfl) ?_
  refine lv_iconst (v := nI 2) hx hb dL_law_313 (by decide) ?_
  refine an_add hx hb dL_law_314 ?_
  refine va_sld hx hb hXs hbl hbA hS (vp_in_nI (by omega) (by omega)) dL_law_315 ?_
  refine tp_i (y := xs (i + 2)) (congrArg xs (nI_clamp (by omega))) ?_
  have hPc : va_P D vwCl [(u, .inr (2, [.int e0, .int (nI n), .int (nI w), .ref c1, .ref c2, .ref c3, .ref c4, .int e7, .int e8, .int e9, .int e10])), (c1, .inl (cI, 40, .inl FM)), (c2, .inl (cI, 40, .inl V)), (c3, .inl (cI, 40, .inl O)), (c4, .inl (cI, 40, .inl Y))] H := hP.sub [8, 9, 10, 11, 12] rfl
  have hDc : va_D A [(u, .inr (2, [.int e0, .int (nI n), .int (nI w), .ref c1, .ref c2, .ref c3, .ref c4, .int e7, .int e8, .int e9, .int e10])), (c1, .inl (cI, 40, .inl FM)), (c2, .inl (cI, 40, .inl V)), (c3, .inl (cI, 40, .inl O)), (c4, .inl (cI, 40, .inl Y))] := hD.sub [8, 9, 10, 11, 12] (by decide) rfl
  have hFc := va_free (wc := [(u, .inr (2, [.int e0, .int (nI n), .int (nI w), .ref c1, .ref c2, .ref c3, .ref c4, .int e7, .int e8, .int e9, .int e10])), (c1, .inl (cI, 40, .inl FM)), (c2, .inl (cI, 40, .inl V)), (c3, .inl (cI, 40, .inl O)), (c4, .inl (cI, 40, .inl Y))]) hD hS hA [8, 9, 10, 11, 12] rfl
  refine pq_i (va_runV (rest := []) CF (m_X2_rehang l D cI u c1 c2 c3 c4 M O Y e0 e7 e8 e9 e10 (xs (i + 1)) (xs (i + 2)) H.size) (cwV 2 hts gL_law_X2_rehang rfl rfl rfl k_X2_rehang ⟨Nat.le_of_ble_eq_true rfl, Nat.le_of_ble_eq_true rfl⟩) (mv_pre hK hPc hDc rfl rfl rfl) rfl rfl hl.1 rfl (lv_room (Nat.le_of_ble_eq_true rfl)) dL_law_316 ⟨by show _ ≤ 638288; omega, by show _ ≤ 7181241; omega⟩) hS hFc (fun r2 H locs hB hk1 hS => ?_)
  obtain ⟨c9, d7, d8, d9, d10, n5, w5, FM3, V3, O3, Y3, f4, g4, hQ2, M1, hPd⟩ := hB
  obtain ⟨hcc, hrr, rfl, rfl, rfl, rfl⟩ := Qr.eq hQ1 hQ2
  rcases hPd with hP1 | hP1
  · skip
    obtain ⟨hP, hD⟩ := jn (wb := [(o, .inr (1, [.ref r, .ref t])), (r, .inr (0, [.ref a1, .ref a2, .int (nI n3), .int (nI w3)])), (a1, .inl (cI, 40, .inl F3)), (a2, .inl (cI, 40, .inl G3)), (t, .inr (0, [.ref b1, .ref b2, .int (nI n4), .int (nI w4)])), (b1, .inl (cI, 40, .inl F4)), (b2, .inl (cI, 40, .inl G4)), (ot, .inl (cJ, 1, .inr (.inl B1))), (u, .inr (2, [.int c9, .int (nI n3), .int (nI w3), .ref c1, .ref c2, .ref c3, .ref c4, .int d7, .int d8, .int d9, .int d10])), (c1, .inl (cI, 40, .inl FM3)), (c2, .inl (cI, 40, .inl V3)), (c3, .inl (cI, 40, .inl O3)), (c4, .inl (cI, 40, .inl Y3))]) (w1 := [(u, .inr (2, [.int c9, .int (nI n3), .int (nI w3), .ref c1, .ref c2, .ref c3, .ref c4, .int d7, .int d8, .int d9, .int d10])), (c1, .inl (cI, 40, .inl FM3)), (c2, .inl (cI, 40, .inl V3)), (c3, .inl (cI, 40, .inl O3)), (c4, .inl (cI, 40, .inl Y3))]) hP hD [8, 9, 10, 11, 12] [0, 1, 2, 3, 4, 5, 6, 7] rfl rfl rfl rfl 13 rfl (by decide) (by decide) hk1 hP1
    refine lv_istore (lv' := [(6, .int r2), (5, .int r1), (0, .ref b), (1, .ref o), (2, .ref u), (3, .ref ot), (4, .int (nI i))]) hx hb dL_law_319 hl (by decide) rfl (fun ls hl => ?_)
    refine lv_aload_n hx hb dL_law_321 rfl (lv_at hl 4 rfl) ?_
    refine pv_i CF (m_X2_thrown l D cI u c1 c2 c3 c4 M1 O3 Y3 c9 d7 d8 d9 d10) (cwV 0 hts gL_law_X2_thrown rfl rfl rfl k_X2_thrown ⟨Nat.le_of_ble_eq_true rfl, Nat.le_of_ble_eq_true rfl⟩) hK (hP.sub [8, 9, 10, 11, 12] rfl) rfl rfl rfl rfl hl.1 rfl (Nat.le_of_ble_eq_true rfl) dL_law_322 ⟨by show _ ≤ 638288; omega, by show _ ≤ 7181241; omega⟩ ?_
    refine lv_iload hx hb dL_law_325 (lv_at hl 1 rfl) ?_
    refine lv_icmp_eq (tgt := 332) hx hb dL_law_327 (by decide) (fun c327 => ?_) (fun c327 => ?_)
    · skip
      refine lv_iload hx hb dL_law_332 (lv_at hl 1 rfl) ?_
      refine lv_if_ne (tgt := 349) hx hb dL_law_334 (by decide) (fun c334 => ?_) (fun c334 => ?_)
      · skip
        refine lv_goto (tgt := 1147) hx hb dL_law_349 (by decide) ?_
        refine w_widen (k := kc + 50) (n := ks + 300) (by omega) (by omega) ?_
        exact hk _ _ _ _ _ _ _ _ _ _ _ _ _ _ _ _ _ _ _ _ _ _ _ _ _ _ _ _ _ _ _ _ _ _ _ _ S1 M1 hP hD hS (lv_sub hl [2, 3, 4, 5, 6] rfl)
      · skip
        refine lv_aload_n hx hb dL_law_337 rfl (lv_at hl 5 rfl) ?_
        refine lv_iconst (v := nI 0) hx hb dL_law_338 (by decide) ?_
        refine va_lald hx hb hKw hP 7 1 rfl rfl (vp_in_nI (by decide) (by decide)) dL_law_339 ?_
        refine tp_l (y := ra.toInt64) (by rw [nI_clamp (by decide)]; exact hBv (c334.trans (by decide))) ?_
        refine lv_iload hx hb dL_law_340 (lv_at hl 0 rfl) ?_
        refine lv_i2l hx hb dL_law_342 rfl ?_
        refine lw_lcmp hx hb (congrArg Int32.toInt64 (hrr (c334.trans (by decide)))) dL_law_343 ?_
        refine lv_if_eq (tgt := 349) hx hb dL_law_344 (by decide) (fun c344 => ?_) (fun c344 => ?_)
        · skip
          refine lv_goto (tgt := 1147) hx hb dL_law_349 (by decide) ?_
          refine w_widen (k := kc + 50) (n := ks + 300) (by omega) (by omega) ?_
          exact hk _ _ _ _ _ _ _ _ _ _ _ _ _ _ _ _ _ _ _ _ _ _ _ _ _ _ _ _ _ _ _ _ _ _ _ _ S1 M1 hP hD hS (lv_sub hl [2, 3, 4, 5, 6] rfl)
        · skip
          exact absurd rfl c344
    · skip
      exact absurd hcc.symm c327
  · skip
    obtain ⟨hP, hD⟩ := jn (wb := [(o, .inr (1, [.ref r, .ref t])), (r, .inr (0, [.ref a1, .ref a2, .int (nI n3), .int (nI w3)])), (a1, .inl (cI, 40, .inl F3)), (a2, .inl (cI, 40, .inl G3)), (t, .inr (0, [.ref b1, .ref b2, .int (nI n4), .int (nI w4)])), (b1, .inl (cI, 40, .inl F4)), (b2, .inl (cI, 40, .inl G4)), (ot, .inl (cJ, 1, .inr (.inl B1))), (u, .inr (2, [.int c9, .int (nI n3), .int (nI w3), .ref c3, .ref c4, .ref c1, .ref c2, .int d7, .int d8, .int d9, .int d10])), (c1, .inl (cI, 40, .inl O3)), (c2, .inl (cI, 40, .inl Y3)), (c3, .inl (cI, 40, .inl FM3)), (c4, .inl (cI, 40, .inl V3))]) (w1 := [(u, .inr (2, [.int c9, .int (nI n3), .int (nI w3), .ref c3, .ref c4, .ref c1, .ref c2, .int d7, .int d8, .int d9, .int d10])), (c1, .inl (cI, 40, .inl O3)), (c2, .inl (cI, 40, .inl Y3)), (c3, .inl (cI, 40, .inl FM3)), (c4, .inl (cI, 40, .inl V3))]) hP hD [8, 9, 10, 11, 12] [0, 1, 2, 3, 4, 5, 6, 7] rfl rfl rfl rfl 13 rfl (by decide) (by decide) hk1 hP1
    refine lv_istore (lv' := [(6, .int r2), (5, .int r1), (0, .ref b), (1, .ref o), (2, .ref u), (3, .ref ot), (4, .int (nI i))]) hx hb dL_law_319 hl (by decide) rfl (fun ls hl => ?_)
    refine lv_aload_n hx hb dL_law_321 rfl (lv_at hl 4 rfl) ?_
    refine pv_i CF (m_X2_thrown l D cI u c3 c4 c1 c2 M1 O3 Y3 c9 d7 d8 d9 d10) (cwV 0 hts gL_law_X2_thrown rfl rfl rfl k_X2_thrown ⟨Nat.le_of_ble_eq_true rfl, Nat.le_of_ble_eq_true rfl⟩) hK (hP.sub [8, 11, 12, 9, 10] rfl) rfl rfl rfl rfl hl.1 rfl (Nat.le_of_ble_eq_true rfl) dL_law_322 ⟨by show _ ≤ 638288; omega, by show _ ≤ 7181241; omega⟩ ?_
    refine lv_iload hx hb dL_law_325 (lv_at hl 1 rfl) ?_
    refine lv_icmp_eq (tgt := 332) hx hb dL_law_327 (by decide) (fun c327 => ?_) (fun c327 => ?_)
    · skip
      refine lv_iload hx hb dL_law_332 (lv_at hl 1 rfl) ?_
      refine lv_if_ne (tgt := 349) hx hb dL_law_334 (by decide) (fun c334 => ?_) (fun c334 => ?_)
      · skip
        refine lv_goto (tgt := 1147) hx hb dL_law_349 (by decide) ?_
        refine w_widen (k := kc + 50) (n := ks + 300) (by omega) (by omega) ?_
        exact hk _ _ _ _ _ _ _ _ _ _ _ _ _ _ _ _ _ _ _ _ _ _ _ _ _ _ _ _ _ _ _ _ _ _ _ _ S1 M1 (hP.sub [0, 1, 2, 3, 4, 5, 6, 7, 8, 11, 12, 9, 10] rfl) (hD.sub [0, 1, 2, 3, 4, 5, 6, 7, 8, 11, 12, 9, 10] (by decide) rfl) hS (lv_sub hl [2, 3, 4, 5, 6] rfl)
      · skip
        refine lv_aload_n hx hb dL_law_337 rfl (lv_at hl 5 rfl) ?_
        refine lv_iconst (v := nI 0) hx hb dL_law_338 (by decide) ?_
        refine va_lald hx hb hKw hP 7 1 rfl rfl (vp_in_nI (by decide) (by decide)) dL_law_339 ?_
        refine tp_l (y := ra.toInt64) (by rw [nI_clamp (by decide)]; exact hBv (c334.trans (by decide))) ?_
        refine lv_iload hx hb dL_law_340 (lv_at hl 0 rfl) ?_
        refine lv_i2l hx hb dL_law_342 rfl ?_
        refine lw_lcmp hx hb (congrArg Int32.toInt64 (hrr (c334.trans (by decide)))) dL_law_343 ?_
        refine lv_if_eq (tgt := 349) hx hb dL_law_344 (by decide) (fun c344 => ?_) (fun c344 => ?_)
        · skip
          refine lv_goto (tgt := 1147) hx hb dL_law_349 (by decide) ?_
          refine w_widen (k := kc + 50) (n := ks + 300) (by omega) (by omega) ?_
          exact hk _ _ _ _ _ _ _ _ _ _ _ _ _ _ _ _ _ _ _ _ _ _ _ _ _ _ _ _ _ _ _ _ _ _ _ _ S1 M1 (hP.sub [0, 1, 2, 3, 4, 5, 6, 7, 8, 11, 12, 9, 10] rfl) (hD.sub [0, 1, 2, 3, 4, 5, 6, 7, 8, 11, 12, 9, 10] (by decide) rfl) hS (lv_sub hl [2, 3, 4, 5, 6] rfl)
        · skip
          exact absurd rfl c344
    · skip
      exact absurd hcc.symm c327
set_option maxHeartbeats 4000000 in
set_option maxRecDepth 100000 in
theorem law_c3 {p : Program} {l : Launch} {e : Env} {s : State} {m : MethodId} {below : List Frame} {meth : Method} {c : Code} {b L : Nat} {xs : Nat → Int32} {D : va_G} {cI cJ : ClassId} {A : Nat → Prop} {Q : State → Prop} (F9 : LF p l s m meth c b L xs D cI cJ A) {i kc ks : Nat} (hi : i + 3 ≤ L) (hkc : kc + 50 ≤ 638288) (hks : ks + 300 ≤ 7181241) (hk : LG p l e s m below meth c b D cI cJ A Q 1147 i (kc + 50) (ks + 300)) : LG p l e s m below meth c b D cI cJ A Q 352 i kc ks := by
  obtain ⟨CF, hXs, hbl, hbA, hA, hKw, hXS, hZ, hN, hlt, hL⟩ := id F9
  obtain ⟨hx, hb, hml, hown, hts⟩ := id CF
  have hK : va_K D vwCl [(cI, .int)] s := hKw.sub [0] rfl
  intro o r t a1 a2 b1 b2 ot u c1 c2 c3 c4 n w n2 w2 F G f g F2 G2 FM V O Y B e0 e7 e8 e9 e10 H locs ls S M hP hD hS hl
  obtain ⟨hn3, hn, hw2, -, -, -⟩ := id S
  have hP : va_P D vwCl [(o, .inr (1, [.ref r, .ref t])), (r, .inr (0, [.ref a1, .ref a2, .int (nI n), .int (nI w)])), (a1, .inl (cI, 40, .inl F)), (a2, .inl (cI, 40, .inl G)), (t, .inr (0, [.ref b1, .ref b2, .int (nI n2), .int (nI w2)])), (b1, .inl (cI, 40, .inl F2)), (b2, .inl (cI, 40, .inl G2)), (ot, .inl (cJ, 1, .inr (.inl B))), (u, .inr (2, [.int e0, .int (nI n), .int (nI w), .ref c1, .ref c2, .ref c3, .ref c4, .int e7, .int e8, .int e9, .int e10])), (c1, .inl (cI, 40, .inl FM)), (c2, .inl (cI, 40, .inl V)), (c3, .inl (cI, 40, .inl O)), (c4, .inl (cI, 40, .inl Y))] H := hP
  have hD : va_D A [(o, .inr (1, [.ref r, .ref t])), (r, .inr (0, [.ref a1, .ref a2, .int (nI n), .int (nI w)])), (a1, .inl (cI, 40, .inl F)), (a2, .inl (cI, 40, .inl G)), (t, .inr (0, [.ref b1, .ref b2, .int (nI n2), .int (nI w2)])), (b1, .inl (cI, 40, .inl F2)), (b2, .inl (cI, 40, .inl G2)), (ot, .inl (cJ, 1, .inr (.inl B))), (u, .inr (2, [.int e0, .int (nI n), .int (nI w), .ref c1, .ref c2, .ref c3, .ref c4, .int e7, .int e8, .int e9, .int e10])), (c1, .inl (cI, 40, .inl FM)), (c2, .inl (cI, 40, .inl V)), (c3, .inl (cI, 40, .inl O)), (c4, .inl (cI, 40, .inl Y))] := hD
  refine lv_aload_n hx hb dL_law_352 rfl (lv_at hl 1 rfl) ?_
  have hPc : va_P D vwCl [(o, .inr (1, [.ref r, .ref t])), (r, .inr (0, [.ref a1, .ref a2, .int (nI n), .int (nI w)])), (a1, .inl (cI, 40, .inl F)), (a2, .inl (cI, 40, .inl G)), (t, .inr (0, [.ref b1, .ref b2, .int (nI n2), .int (nI w2)])), (b1, .inl (cI, 40, .inl F2)), (b2, .inl (cI, 40, .inl G2))] H := hP.sub [0, 1, 2, 3, 4, 5, 6] rfl
  have hDc : va_D A [(o, .inr (1, [.ref r, .ref t])), (r, .inr (0, [.ref a1, .ref a2, .int (nI n), .int (nI w)])), (a1, .inl (cI, 40, .inl F)), (a2, .inl (cI, 40, .inl G)), (t, .inr (0, [.ref b1, .ref b2, .int (nI n2), .int (nI w2)])), (b1, .inl (cI, 40, .inl F2)), (b2, .inl (cI, 40, .inl G2))] := hD.sub [0, 1, 2, 3, 4, 5, 6] (by decide) rfl
  have hFc := va_free (wc := [(o, .inr (1, [.ref r, .ref t])), (r, .inr (0, [.ref a1, .ref a2, .int (nI n), .int (nI w)])), (a1, .inl (cI, 40, .inl F)), (a2, .inl (cI, 40, .inl G)), (t, .inr (0, [.ref b1, .ref b2, .int (nI n2), .int (nI w2)])), (b1, .inl (cI, 40, .inl F2)), (b2, .inl (cI, 40, .inl G2))]) hD hS hA [0, 1, 2, 3, 4, 5, 6] rfl
  refine pq_i (va_runV (rest := []) CF (m_X1_sweep l D cI o r t a1 a2 b1 b2 S n2 w2 F2 G2 H.size) (cwV 0 hts gL_law_X1_sweep rfl rfl rfl k_X1_sweep ⟨Nat.le_of_ble_eq_true rfl, Nat.le_of_ble_eq_true rfl⟩) (mv_pre hK hPc hDc rfl rfl rfl) rfl rfl hl.1 rfl (lv_room (Nat.le_of_ble_eq_true rfl)) dL_law_353 ⟨by show _ ≤ 638288; omega, by show _ ≤ 7181241; omega⟩) hS hFc (fun r1 H locs hB hk1 hS => ?_)
  obtain ⟨rfl, F3, G3, S1, hP1⟩ := hB
  obtain ⟨hP, hD⟩ := jn (wb := [(o, .inr (1, [.ref r, .ref t])), (r, .inr (0, [.ref a1, .ref a2, .int (nI n), .int (nI w)])), (a1, .inl (cI, 40, .inl F3)), (a2, .inl (cI, 40, .inl G3)), (t, .inr (0, [.ref b1, .ref b2, .int (nI n2), .int (nI w2)])), (b1, .inl (cI, 40, .inl F2)), (b2, .inl (cI, 40, .inl G2)), (ot, .inl (cJ, 1, .inr (.inl B))), (u, .inr (2, [.int e0, .int (nI n), .int (nI w), .ref c1, .ref c2, .ref c3, .ref c4, .int e7, .int e8, .int e9, .int e10])), (c1, .inl (cI, 40, .inl FM)), (c2, .inl (cI, 40, .inl V)), (c3, .inl (cI, 40, .inl O)), (c4, .inl (cI, 40, .inl Y))]) (w1 := [(o, .inr (1, [.ref r, .ref t])), (r, .inr (0, [.ref a1, .ref a2, .int (nI n), .int (nI w)])), (a1, .inl (cI, 40, .inl F3)), (a2, .inl (cI, 40, .inl G3)), (t, .inr (0, [.ref b1, .ref b2, .int (nI n2), .int (nI w2)])), (b1, .inl (cI, 40, .inl F2)), (b2, .inl (cI, 40, .inl G2))]) hP hD [0, 1, 2, 3, 4, 5, 6] [7, 8, 9, 10, 11, 12] rfl rfl rfl rfl 13 rfl (by decide) (by decide) hk1 hP1
  refine lv_aload_n hx hb dL_law_356 rfl (lv_at hl 2 rfl) ?_
  have hPc : va_P D vwCl [(u, .inr (2, [.int e0, .int (nI n), .int (nI w), .ref c1, .ref c2, .ref c3, .ref c4, .int e7, .int e8, .int e9, .int e10])), (c1, .inl (cI, 40, .inl FM)), (c2, .inl (cI, 40, .inl V)), (c3, .inl (cI, 40, .inl O)), (c4, .inl (cI, 40, .inl Y))] H := hP.sub [8, 9, 10, 11, 12] rfl
  have hDc : va_D A [(u, .inr (2, [.int e0, .int (nI n), .int (nI w), .ref c1, .ref c2, .ref c3, .ref c4, .int e7, .int e8, .int e9, .int e10])), (c1, .inl (cI, 40, .inl FM)), (c2, .inl (cI, 40, .inl V)), (c3, .inl (cI, 40, .inl O)), (c4, .inl (cI, 40, .inl Y))] := hD.sub [8, 9, 10, 11, 12] (by decide) rfl
  have hFc := va_free (wc := [(u, .inr (2, [.int e0, .int (nI n), .int (nI w), .ref c1, .ref c2, .ref c3, .ref c4, .int e7, .int e8, .int e9, .int e10])), (c1, .inl (cI, 40, .inl FM)), (c2, .inl (cI, 40, .inl V)), (c3, .inl (cI, 40, .inl O)), (c4, .inl (cI, 40, .inl Y))]) hD hS hA [8, 9, 10, 11, 12] rfl
  refine pq_i (va_runV (rest := [.int (nI (swp n f).2)]) CF (m_X2_sweep l D cI u c1 c2 c3 c4 M O Y e0 e7 e8 e9 e10 H.size) (cwV 0 hts gL_law_X2_sweep rfl rfl rfl k_X2_sweep ⟨Nat.le_of_ble_eq_true rfl, Nat.le_of_ble_eq_true rfl⟩) (mv_pre hK hPc hDc rfl rfl rfl) rfl rfl hl.1 rfl (lv_room (Nat.le_of_ble_eq_true rfl)) dL_law_357 ⟨by show _ ≤ 638288; omega, by show _ ≤ 7181241; omega⟩) hS hFc (fun r2 H locs hB hk1 hS => ?_)
  obtain ⟨rfl, FM3, M1, hP1⟩ := hB
  obtain ⟨hP, hD⟩ := jn (wb := [(o, .inr (1, [.ref r, .ref t])), (r, .inr (0, [.ref a1, .ref a2, .int (nI n), .int (nI w)])), (a1, .inl (cI, 40, .inl F3)), (a2, .inl (cI, 40, .inl G3)), (t, .inr (0, [.ref b1, .ref b2, .int (nI n2), .int (nI w2)])), (b1, .inl (cI, 40, .inl F2)), (b2, .inl (cI, 40, .inl G2)), (ot, .inl (cJ, 1, .inr (.inl B))), (u, .inr (2, [.int (nI 0), .int (nI n), .int (nI w), .ref c1, .ref c2, .ref c3, .ref c4, .int e7, .int e8, .int e9, .int e10])), (c1, .inl (cI, 40, .inl FM3)), (c2, .inl (cI, 40, .inl V)), (c3, .inl (cI, 40, .inl O)), (c4, .inl (cI, 40, .inl Y))]) (w1 := [(u, .inr (2, [.int (nI 0), .int (nI n), .int (nI w), .ref c1, .ref c2, .ref c3, .ref c4, .int e7, .int e8, .int e9, .int e10])), (c1, .inl (cI, 40, .inl FM3)), (c2, .inl (cI, 40, .inl V)), (c3, .inl (cI, 40, .inl O)), (c4, .inl (cI, 40, .inl Y))]) hP hD [8, 9, 10, 11, 12] [0, 1, 2, 3, 4, 5, 6, 7] rfl rfl rfl rfl 13 rfl (by decide) (by decide) hk1 hP1
  refine lv_icmp_eq (tgt := 1147) hx hb dL_law_360 (by decide) (fun c360 => ?_) (fun c360 => ?_)
  · skip
    refine w_widen (k := kc + 50) (n := ks + 300) (by omega) (by omega) ?_
    exact hk _ _ _ _ _ _ _ _ _ _ _ _ _ _ _ _ _ _ _ _ _ _ _ _ _ _ _ _ _ _ _ _ _ _ _ _ S1 M1 hP hD hS (lv_sub hl [0, 1, 2, 3, 4] rfl)
  · skip
    exact absurd rfl c360
set_option maxHeartbeats 4000000 in
set_option maxRecDepth 100000 in
theorem law_c4 {p : Program} {l : Launch} {e : Env} {s : State} {m : MethodId} {below : List Frame} {meth : Method} {c : Code} {b L : Nat} {xs : Nat → Int32} {D : va_G} {cI cJ : ClassId} {A : Nat → Prop} {Q : State → Prop} (F9 : LF p l s m meth c b L xs D cI cJ A) {i kc ks : Nat} (hi : i + 3 ≤ L) (hkc : kc + 50 ≤ 638288) (hks : ks + 300 ≤ 7181241) (hk : LG p l e s m below meth c b D cI cJ A Q 1147 i (kc + 50) (ks + 300)) : LG p l e s m below meth c b D cI cJ A Q 365 i kc ks := by
  obtain ⟨CF, hXs, hbl, hbA, hA, hKw, hXS, hZ, hN, hlt, hL⟩ := id F9
  obtain ⟨hx, hb, hml, hown, hts⟩ := id CF
  have hK : va_K D vwCl [(cI, .int)] s := hKw.sub [0] rfl
  intro o r t a1 a2 b1 b2 ot u c1 c2 c3 c4 n w n2 w2 F G f g F2 G2 FM V O Y B e0 e7 e8 e9 e10 H locs ls S M hP hD hS hl
  obtain ⟨hn3, hn, hw2, -, -, -⟩ := id S
  have hP : va_P D vwCl [(o, .inr (1, [.ref r, .ref t])), (r, .inr (0, [.ref a1, .ref a2, .int (nI n), .int (nI w)])), (a1, .inl (cI, 40, .inl F)), (a2, .inl (cI, 40, .inl G)), (t, .inr (0, [.ref b1, .ref b2, .int (nI n2), .int (nI w2)])), (b1, .inl (cI, 40, .inl F2)), (b2, .inl (cI, 40, .inl G2)), (ot, .inl (cJ, 1, .inr (.inl B))), (u, .inr (2, [.int e0, .int (nI n), .int (nI w), .ref c1, .ref c2, .ref c3, .ref c4, .int e7, .int e8, .int e9, .int e10])), (c1, .inl (cI, 40, .inl FM)), (c2, .inl (cI, 40, .inl V)), (c3, .inl (cI, 40, .inl O)), (c4, .inl (cI, 40, .inl Y))] H := hP
  have hD : va_D A [(o, .inr (1, [.ref r, .ref t])), (r, .inr (0, [.ref a1, .ref a2, .int (nI n), .int (nI w)])), (a1, .inl (cI, 40, .inl F)), (a2, .inl (cI, 40, .inl G)), (t, .inr (0, [.ref b1, .ref b2, .int (nI n2), .int (nI w2)])), (b1, .inl (cI, 40, .inl F2)), (b2, .inl (cI, 40, .inl G2)), (ot, .inl (cJ, 1, .inr (.inl B))), (u, .inr (2, [.int e0, .int (nI n), .int (nI w), .ref c1, .ref c2, .ref c3, .ref c4, .int e7, .int e8, .int e9, .int e10])), (c1, .inl (cI, 40, .inl FM)), (c2, .inl (cI, 40, .inl V)), (c3, .inl (cI, 40, .inl O)), (c4, .inl (cI, 40, .inl Y))] := hD
  refine lv_aload_n hx hb dL_law_365 rfl (lv_at hl 1 rfl) ?_
  refine pv_i CF (m_X1_hooks l D cI o r t a1 a2 b1 b2 S n2 w2 F2 G2) (cwV 0 hts gL_law_X1_hooks rfl rfl rfl k_X1_hooks ⟨Nat.le_of_ble_eq_true rfl, Nat.le_of_ble_eq_true rfl⟩) hK (hP.sub [0, 1, 2, 3, 4, 5, 6] rfl) rfl rfl rfl rfl hl.1 rfl (Nat.le_of_ble_eq_true rfl) dL_law_366 ⟨by show _ ≤ 638288; omega, by show _ ≤ 7181241; omega⟩ ?_
  refine lv_aload_n hx hb dL_law_369 rfl (lv_at hl 2 rfl) ?_
  have hPc : va_P D vwCl [(u, .inr (2, [.int e0, .int (nI n), .int (nI w), .ref c1, .ref c2, .ref c3, .ref c4, .int e7, .int e8, .int e9, .int e10])), (c1, .inl (cI, 40, .inl FM)), (c2, .inl (cI, 40, .inl V)), (c3, .inl (cI, 40, .inl O)), (c4, .inl (cI, 40, .inl Y))] H := hP.sub [8, 9, 10, 11, 12] rfl
  have hDc : va_D A [(u, .inr (2, [.int e0, .int (nI n), .int (nI w), .ref c1, .ref c2, .ref c3, .ref c4, .int e7, .int e8, .int e9, .int e10])), (c1, .inl (cI, 40, .inl FM)), (c2, .inl (cI, 40, .inl V)), (c3, .inl (cI, 40, .inl O)), (c4, .inl (cI, 40, .inl Y))] := hD.sub [8, 9, 10, 11, 12] (by decide) rfl
  have hFc := va_free (wc := [(u, .inr (2, [.int e0, .int (nI n), .int (nI w), .ref c1, .ref c2, .ref c3, .ref c4, .int e7, .int e8, .int e9, .int e10])), (c1, .inl (cI, 40, .inl FM)), (c2, .inl (cI, 40, .inl V)), (c3, .inl (cI, 40, .inl O)), (c4, .inl (cI, 40, .inl Y))]) hD hS hA [8, 9, 10, 11, 12] rfl
  refine pq_i (va_runV (rest := [.int (nI n)]) CF (m_X2_hooks l D cI u c1 c2 c3 c4 M O Y e0 e7 e8 e9 e10 H.size) (cwV 0 hts gL_law_X2_hooks rfl rfl rfl k_X2_hooks ⟨Nat.le_of_ble_eq_true rfl, Nat.le_of_ble_eq_true rfl⟩) (mv_pre hK hPc hDc rfl rfl rfl) rfl rfl hl.1 rfl (lv_room (Nat.le_of_ble_eq_true rfl)) dL_law_370 ⟨by show _ ≤ 638288; omega, by show _ ≤ 7181241; omega⟩) hS hFc (fun r1 H locs hB hk1 hS => ?_)
  obtain ⟨rfl, hP1⟩ := hB
  obtain ⟨hP, hD⟩ := jn (wb := [(o, .inr (1, [.ref r, .ref t])), (r, .inr (0, [.ref a1, .ref a2, .int (nI n), .int (nI w)])), (a1, .inl (cI, 40, .inl F)), (a2, .inl (cI, 40, .inl G)), (t, .inr (0, [.ref b1, .ref b2, .int (nI n2), .int (nI w2)])), (b1, .inl (cI, 40, .inl F2)), (b2, .inl (cI, 40, .inl G2)), (ot, .inl (cJ, 1, .inr (.inl B))), (u, .inr (2, [.int (nI 0), .int (nI n), .int (nI w), .ref c1, .ref c2, .ref c3, .ref c4, .int e7, .int e8, .int e9, .int e10])), (c1, .inl (cI, 40, .inl FM)), (c2, .inl (cI, 40, .inl V)), (c3, .inl (cI, 40, .inl O)), (c4, .inl (cI, 40, .inl Y))]) (w1 := [(u, .inr (2, [.int (nI 0), .int (nI n), .int (nI w), .ref c1, .ref c2, .ref c3, .ref c4, .int e7, .int e8, .int e9, .int e10])), (c1, .inl (cI, 40, .inl FM)), (c2, .inl (cI, 40, .inl V)), (c3, .inl (cI, 40, .inl O)), (c4, .inl (cI, 40, .inl Y))]) hP hD [8, 9, 10, 11, 12] [0, 1, 2, 3, 4, 5, 6, 7] rfl rfl rfl rfl 13 rfl (by decide) (by decide) hk1 hP1
  refine lv_icmp_eq (tgt := 1147) hx hb dL_law_373 (by decide) (fun c373 => ?_) (fun c373 => ?_)
  · skip
    refine w_widen (k := kc + 50) (n := ks + 300) (by omega) (by omega) ?_
    exact hk _ _ _ _ _ _ _ _ _ _ _ _ _ _ _ _ _ _ _ _ _ _ _ _ _ _ _ _ _ _ _ _ _ _ _ _ S M hP hD hS (lv_sub hl [0, 1, 2, 3, 4] rfl)
  · skip
    exact absurd rfl c373
set_option maxHeartbeats 4000000 in
set_option maxRecDepth 100000 in
theorem law_c5 {p : Program} {l : Launch} {e : Env} {s : State} {m : MethodId} {below : List Frame} {meth : Method} {c : Code} {b L : Nat} {xs : Nat → Int32} {D : va_G} {cI cJ : ClassId} {A : Nat → Prop} {Q : State → Prop} (F9 : LF p l s m meth c b L xs D cI cJ A) {i kc ks : Nat} (hi : i + 3 ≤ L) (hkc : kc + 50 ≤ 638288) (hks : ks + 300 ≤ 7181241) (hk : LG p l e s m below meth c b D cI cJ A Q 1147 i (kc + 50) (ks + 300)) : LG p l e s m below meth c b D cI cJ A Q 378 i kc ks := by
  obtain ⟨CF, hXs, hbl, hbA, hA, hKw, hXS, hZ, hN, hlt, hL⟩ := id F9
  obtain ⟨hx, hb, hml, hown, hts⟩ := id CF
  have hK : va_K D vwCl [(cI, .int)] s := hKw.sub [0] rfl
  intro o r t a1 a2 b1 b2 ot u c1 c2 c3 c4 n w n2 w2 F G f g F2 G2 FM V O Y B e0 e7 e8 e9 e10 H locs ls S M hP hD hS hl
  obtain ⟨hn3, hn, hw2, -, -, -⟩ := id S
  have hP : va_P D vwCl [(o, .inr (1, [.ref r, .ref t])), (r, .inr (0, [.ref a1, .ref a2, .int (nI n), .int (nI w)])), (a1, .inl (cI, 40, .inl F)), (a2, .inl (cI, 40, .inl G)), (t, .inr (0, [.ref b1, .ref b2, .int (nI n2), .int (nI w2)])), (b1, .inl (cI, 40, .inl F2)), (b2, .inl (cI, 40, .inl G2)), (ot, .inl (cJ, 1, .inr (.inl B))), (u, .inr (2, [.int e0, .int (nI n), .int (nI w), .ref c1, .ref c2, .ref c3, .ref c4, .int e7, .int e8, .int e9, .int e10])), (c1, .inl (cI, 40, .inl FM)), (c2, .inl (cI, 40, .inl V)), (c3, .inl (cI, 40, .inl O)), (c4, .inl (cI, 40, .inl Y))] H := hP
  have hD : va_D A [(o, .inr (1, [.ref r, .ref t])), (r, .inr (0, [.ref a1, .ref a2, .int (nI n), .int (nI w)])), (a1, .inl (cI, 40, .inl F)), (a2, .inl (cI, 40, .inl G)), (t, .inr (0, [.ref b1, .ref b2, .int (nI n2), .int (nI w2)])), (b1, .inl (cI, 40, .inl F2)), (b2, .inl (cI, 40, .inl G2)), (ot, .inl (cJ, 1, .inr (.inl B))), (u, .inr (2, [.int e0, .int (nI n), .int (nI w), .ref c1, .ref c2, .ref c3, .ref c4, .int e7, .int e8, .int e9, .int e10])), (c1, .inl (cI, 40, .inl FM)), (c2, .inl (cI, 40, .inl V)), (c3, .inl (cI, 40, .inl O)), (c4, .inl (cI, 40, .inl Y))] := hD
  refine lv_aload_n hx hb dL_law_378 rfl (lv_at hl 1 rfl) ?_
  refine pv_i CF (m_X1_way l D cI o r t a1 a2 b1 b2 S n2 w2 F2 G2) (cwV 0 hts gL_law_X1_way rfl rfl rfl k_X1_way ⟨Nat.le_of_ble_eq_true rfl, Nat.le_of_ble_eq_true rfl⟩) hK (hP.sub [0, 1, 2, 3, 4, 5, 6] rfl) rfl rfl rfl rfl hl.1 rfl (Nat.le_of_ble_eq_true rfl) dL_law_379 ⟨by show _ ≤ 638288; omega, by show _ ≤ 7181241; omega⟩ ?_
  refine lv_aload_n hx hb dL_law_382 rfl (lv_at hl 2 rfl) ?_
  have hPc : va_P D vwCl [(u, .inr (2, [.int e0, .int (nI n), .int (nI w), .ref c1, .ref c2, .ref c3, .ref c4, .int e7, .int e8, .int e9, .int e10])), (c1, .inl (cI, 40, .inl FM)), (c2, .inl (cI, 40, .inl V)), (c3, .inl (cI, 40, .inl O)), (c4, .inl (cI, 40, .inl Y))] H := hP.sub [8, 9, 10, 11, 12] rfl
  have hDc : va_D A [(u, .inr (2, [.int e0, .int (nI n), .int (nI w), .ref c1, .ref c2, .ref c3, .ref c4, .int e7, .int e8, .int e9, .int e10])), (c1, .inl (cI, 40, .inl FM)), (c2, .inl (cI, 40, .inl V)), (c3, .inl (cI, 40, .inl O)), (c4, .inl (cI, 40, .inl Y))] := hD.sub [8, 9, 10, 11, 12] (by decide) rfl
  have hFc := va_free (wc := [(u, .inr (2, [.int e0, .int (nI n), .int (nI w), .ref c1, .ref c2, .ref c3, .ref c4, .int e7, .int e8, .int e9, .int e10])), (c1, .inl (cI, 40, .inl FM)), (c2, .inl (cI, 40, .inl V)), (c3, .inl (cI, 40, .inl O)), (c4, .inl (cI, 40, .inl Y))]) hD hS hA [8, 9, 10, 11, 12] rfl
  refine pq_i (va_runV (rest := [.int (nI w)]) CF (m_X2_way l D cI u c1 c2 c3 c4 M O Y e0 e7 e8 e9 e10 H.size) (cwV 0 hts gL_law_X2_way rfl rfl rfl k_X2_way ⟨Nat.le_of_ble_eq_true rfl, Nat.le_of_ble_eq_true rfl⟩) (mv_pre hK hPc hDc rfl rfl rfl) rfl rfl hl.1 rfl (lv_room (Nat.le_of_ble_eq_true rfl)) dL_law_383 ⟨by show _ ≤ 638288; omega, by show _ ≤ 7181241; omega⟩) hS hFc (fun r1 H locs hB hk1 hS => ?_)
  obtain ⟨rfl, hP1⟩ := hB
  obtain ⟨hP, hD⟩ := jn (wb := [(o, .inr (1, [.ref r, .ref t])), (r, .inr (0, [.ref a1, .ref a2, .int (nI n), .int (nI w)])), (a1, .inl (cI, 40, .inl F)), (a2, .inl (cI, 40, .inl G)), (t, .inr (0, [.ref b1, .ref b2, .int (nI n2), .int (nI w2)])), (b1, .inl (cI, 40, .inl F2)), (b2, .inl (cI, 40, .inl G2)), (ot, .inl (cJ, 1, .inr (.inl B))), (u, .inr (2, [.int (nI 0), .int (nI n), .int (nI w), .ref c1, .ref c2, .ref c3, .ref c4, .int e7, .int e8, .int e9, .int e10])), (c1, .inl (cI, 40, .inl FM)), (c2, .inl (cI, 40, .inl V)), (c3, .inl (cI, 40, .inl O)), (c4, .inl (cI, 40, .inl Y))]) (w1 := [(u, .inr (2, [.int (nI 0), .int (nI n), .int (nI w), .ref c1, .ref c2, .ref c3, .ref c4, .int e7, .int e8, .int e9, .int e10])), (c1, .inl (cI, 40, .inl FM)), (c2, .inl (cI, 40, .inl V)), (c3, .inl (cI, 40, .inl O)), (c4, .inl (cI, 40, .inl Y))]) hP hD [8, 9, 10, 11, 12] [0, 1, 2, 3, 4, 5, 6, 7] rfl rfl rfl rfl 13 rfl (by decide) (by decide) hk1 hP1
  refine lv_icmp_eq (tgt := 1147) hx hb dL_law_386 (by decide) (fun c386 => ?_) (fun c386 => ?_)
  · skip
    refine w_widen (k := kc + 50) (n := ks + 300) (by omega) (by omega) ?_
    exact hk _ _ _ _ _ _ _ _ _ _ _ _ _ _ _ _ _ _ _ _ _ _ _ _ _ _ _ _ _ _ _ _ _ _ _ _ S M hP hD hS (lv_sub hl [0, 1, 2, 3, 4] rfl)
  · skip
    exact absurd rfl c386
set_option maxHeartbeats 4000000 in
set_option maxRecDepth 100000 in
theorem law_c6 {p : Program} {l : Launch} {e : Env} {s : State} {m : MethodId} {below : List Frame} {meth : Method} {c : Code} {b L : Nat} {xs : Nat → Int32} {D : va_G} {cI cJ : ClassId} {A : Nat → Prop} {Q : State → Prop} (F9 : LF p l s m meth c b L xs D cI cJ A) {i kc ks : Nat} (hi : i + 3 ≤ L) (hkc : kc + 50 ≤ 638288) (hks : ks + 300 ≤ 7181241) (hk : LG p l e s m below meth c b D cI cJ A Q 1147 i (kc + 50) (ks + 300)) : LG p l e s m below meth c b D cI cJ A Q 391 i kc ks := by
  obtain ⟨CF, hXs, hbl, hbA, hA, hKw, hXS, hZ, hN, hlt, hL⟩ := id F9
  obtain ⟨hx, hb, hml, hown, hts⟩ := id CF
  have hK : va_K D vwCl [(cI, .int)] s := hKw.sub [0] rfl
  intro o r t a1 a2 b1 b2 ot u c1 c2 c3 c4 n w n2 w2 F G f g F2 G2 FM V O Y B e0 e7 e8 e9 e10 H locs ls S M hP hD hS hl
  obtain ⟨hn3, hn, hw2, -, -, -⟩ := id S
  have hP : va_P D vwCl [(o, .inr (1, [.ref r, .ref t])), (r, .inr (0, [.ref a1, .ref a2, .int (nI n), .int (nI w)])), (a1, .inl (cI, 40, .inl F)), (a2, .inl (cI, 40, .inl G)), (t, .inr (0, [.ref b1, .ref b2, .int (nI n2), .int (nI w2)])), (b1, .inl (cI, 40, .inl F2)), (b2, .inl (cI, 40, .inl G2)), (ot, .inl (cJ, 1, .inr (.inl B))), (u, .inr (2, [.int e0, .int (nI n), .int (nI w), .ref c1, .ref c2, .ref c3, .ref c4, .int e7, .int e8, .int e9, .int e10])), (c1, .inl (cI, 40, .inl FM)), (c2, .inl (cI, 40, .inl V)), (c3, .inl (cI, 40, .inl O)), (c4, .inl (cI, 40, .inl Y))] H := hP
  have hD : va_D A [(o, .inr (1, [.ref r, .ref t])), (r, .inr (0, [.ref a1, .ref a2, .int (nI n), .int (nI w)])), (a1, .inl (cI, 40, .inl F)), (a2, .inl (cI, 40, .inl G)), (t, .inr (0, [.ref b1, .ref b2, .int (nI n2), .int (nI w2)])), (b1, .inl (cI, 40, .inl F2)), (b2, .inl (cI, 40, .inl G2)), (ot, .inl (cJ, 1, .inr (.inl B))), (u, .inr (2, [.int e0, .int (nI n), .int (nI w), .ref c1, .ref c2, .ref c3, .ref c4, .int e7, .int e8, .int e9, .int e10])), (c1, .inl (cI, 40, .inl FM)), (c2, .inl (cI, 40, .inl V)), (c3, .inl (cI, 40, .inl O)), (c4, .inl (cI, 40, .inl Y))] := hD
  refine lv_aload_n hx hb dL_law_391 rfl (lv_at hl 1 rfl) ?_
  refine pv_i CF (m_X1_coats l D cI o r t a1 a2 b1 b2 S n2 w2 F2 G2) (cwV 0 hts gL_law_X1_coats rfl rfl rfl k_X1_coats ⟨Nat.le_of_ble_eq_true rfl, Nat.le_of_ble_eq_true rfl⟩) hK (hP.sub [0, 1, 2, 3, 4, 5, 6] rfl) rfl rfl rfl rfl hl.1 rfl (Nat.le_of_ble_eq_true rfl) dL_law_392 ⟨by show _ ≤ 638288; omega, by show _ ≤ 7181241; omega⟩ ?_
  refine lv_aload_n hx hb dL_law_395 rfl (lv_at hl 2 rfl) ?_
  have hPc : va_P D vwCl [(u, .inr (2, [.int e0, .int (nI n), .int (nI w), .ref c1, .ref c2, .ref c3, .ref c4, .int e7, .int e8, .int e9, .int e10])), (c1, .inl (cI, 40, .inl FM)), (c2, .inl (cI, 40, .inl V)), (c3, .inl (cI, 40, .inl O)), (c4, .inl (cI, 40, .inl Y))] H := hP.sub [8, 9, 10, 11, 12] rfl
  have hDc : va_D A [(u, .inr (2, [.int e0, .int (nI n), .int (nI w), .ref c1, .ref c2, .ref c3, .ref c4, .int e7, .int e8, .int e9, .int e10])), (c1, .inl (cI, 40, .inl FM)), (c2, .inl (cI, 40, .inl V)), (c3, .inl (cI, 40, .inl O)), (c4, .inl (cI, 40, .inl Y))] := hD.sub [8, 9, 10, 11, 12] (by decide) rfl
  have hFc := va_free (wc := [(u, .inr (2, [.int e0, .int (nI n), .int (nI w), .ref c1, .ref c2, .ref c3, .ref c4, .int e7, .int e8, .int e9, .int e10])), (c1, .inl (cI, 40, .inl FM)), (c2, .inl (cI, 40, .inl V)), (c3, .inl (cI, 40, .inl O)), (c4, .inl (cI, 40, .inl Y))]) hD hS hA [8, 9, 10, 11, 12] rfl
  refine pq_i (va_runV (rest := [.int (nI (ct n f (nI 1)))]) CF (m_X2_coats l D cI u c1 c2 c3 c4 M O Y e0 e7 e8 e9 e10 H.size) (cwV 0 hts gL_law_X2_coats rfl rfl rfl k_X2_coats ⟨Nat.le_of_ble_eq_true rfl, Nat.le_of_ble_eq_true rfl⟩) (mv_pre hK hPc hDc rfl rfl rfl) rfl rfl hl.1 rfl (lv_room (Nat.le_of_ble_eq_true rfl)) dL_law_396 ⟨by show _ ≤ 638288; omega, by show _ ≤ 7181241; omega⟩) hS hFc (fun r1 H locs hB hk1 hS => ?_)
  obtain ⟨rfl, hP1⟩ := hB
  obtain ⟨hP, hD⟩ := jn (wb := [(o, .inr (1, [.ref r, .ref t])), (r, .inr (0, [.ref a1, .ref a2, .int (nI n), .int (nI w)])), (a1, .inl (cI, 40, .inl F)), (a2, .inl (cI, 40, .inl G)), (t, .inr (0, [.ref b1, .ref b2, .int (nI n2), .int (nI w2)])), (b1, .inl (cI, 40, .inl F2)), (b2, .inl (cI, 40, .inl G2)), (ot, .inl (cJ, 1, .inr (.inl B))), (u, .inr (2, [.int (nI 0), .int (nI n), .int (nI w), .ref c1, .ref c2, .ref c3, .ref c4, .int e7, .int e8, .int e9, .int e10])), (c1, .inl (cI, 40, .inl FM)), (c2, .inl (cI, 40, .inl V)), (c3, .inl (cI, 40, .inl O)), (c4, .inl (cI, 40, .inl Y))]) (w1 := [(u, .inr (2, [.int (nI 0), .int (nI n), .int (nI w), .ref c1, .ref c2, .ref c3, .ref c4, .int e7, .int e8, .int e9, .int e10])), (c1, .inl (cI, 40, .inl FM)), (c2, .inl (cI, 40, .inl V)), (c3, .inl (cI, 40, .inl O)), (c4, .inl (cI, 40, .inl Y))]) hP hD [8, 9, 10, 11, 12] [0, 1, 2, 3, 4, 5, 6, 7] rfl rfl rfl rfl 13 rfl (by decide) (by decide) hk1 hP1
  refine lv_icmp_eq (tgt := 1147) hx hb dL_law_399 (by decide) (fun c399 => ?_) (fun c399 => ?_)
  · skip
    refine w_widen (k := kc + 50) (n := ks + 300) (by omega) (by omega) ?_
    exact hk _ _ _ _ _ _ _ _ _ _ _ _ _ _ _ _ _ _ _ _ _ _ _ _ _ _ _ _ _ _ _ _ _ _ _ _ S M hP hD hS (lv_sub hl [0, 1, 2, 3, 4] rfl)
  · skip
    exact absurd rfl c399
set_option maxHeartbeats 4000000 in
set_option maxRecDepth 100000 in
theorem law_c7 {p : Program} {l : Launch} {e : Env} {s : State} {m : MethodId} {below : List Frame} {meth : Method} {c : Code} {b L : Nat} {xs : Nat → Int32} {D : va_G} {cI cJ : ClassId} {A : Nat → Prop} {Q : State → Prop} (F9 : LF p l s m meth c b L xs D cI cJ A) {i kc ks : Nat} (hi : i + 3 ≤ L) (hkc : kc + 50 ≤ 638288) (hks : ks + 300 ≤ 7181241) (hk : LG p l e s m below meth c b D cI cJ A Q 1147 i (kc + 50) (ks + 300)) : LG p l e s m below meth c b D cI cJ A Q 404 i kc ks := by
  obtain ⟨CF, hXs, hbl, hbA, hA, hKw, hXS, hZ, hN, hlt, hL⟩ := id F9
  obtain ⟨hx, hb, hml, hown, hts⟩ := id CF
  have hK : va_K D vwCl [(cI, .int)] s := hKw.sub [0] rfl
  intro o r t a1 a2 b1 b2 ot u c1 c2 c3 c4 n w n2 w2 F G f g F2 G2 FM V O Y B e0 e7 e8 e9 e10 H locs ls S M hP hD hS hl
  obtain ⟨hn3, hn, hw2, -, -, -⟩ := id S
  have hP : va_P D vwCl [(o, .inr (1, [.ref r, .ref t])), (r, .inr (0, [.ref a1, .ref a2, .int (nI n), .int (nI w)])), (a1, .inl (cI, 40, .inl F)), (a2, .inl (cI, 40, .inl G)), (t, .inr (0, [.ref b1, .ref b2, .int (nI n2), .int (nI w2)])), (b1, .inl (cI, 40, .inl F2)), (b2, .inl (cI, 40, .inl G2)), (ot, .inl (cJ, 1, .inr (.inl B))), (u, .inr (2, [.int e0, .int (nI n), .int (nI w), .ref c1, .ref c2, .ref c3, .ref c4, .int e7, .int e8, .int e9, .int e10])), (c1, .inl (cI, 40, .inl FM)), (c2, .inl (cI, 40, .inl V)), (c3, .inl (cI, 40, .inl O)), (c4, .inl (cI, 40, .inl Y))] H := hP
  have hD : va_D A [(o, .inr (1, [.ref r, .ref t])), (r, .inr (0, [.ref a1, .ref a2, .int (nI n), .int (nI w)])), (a1, .inl (cI, 40, .inl F)), (a2, .inl (cI, 40, .inl G)), (t, .inr (0, [.ref b1, .ref b2, .int (nI n2), .int (nI w2)])), (b1, .inl (cI, 40, .inl F2)), (b2, .inl (cI, 40, .inl G2)), (ot, .inl (cJ, 1, .inr (.inl B))), (u, .inr (2, [.int e0, .int (nI n), .int (nI w), .ref c1, .ref c2, .ref c3, .ref c4, .int e7, .int e8, .int e9, .int e10])), (c1, .inl (cI, 40, .inl FM)), (c2, .inl (cI, 40, .inl V)), (c3, .inl (cI, 40, .inl O)), (c4, .inl (cI, 40, .inl Y))] := hD
  refine lv_aload_n hx hb dL_law_404 rfl (lv_at hl 1 rfl) ?_
  refine pv_i CF (m_X1_tickets l D cI o r t a1 a2 b1 b2 S n2 w2 F2 G2) (cwV 0 hts gL_law_X1_tickets rfl rfl rfl k_X1_tickets ⟨Nat.le_of_ble_eq_true rfl, Nat.le_of_ble_eq_true rfl⟩) hK (hP.sub [0, 1, 2, 3, 4, 5, 6] rfl) rfl rfl rfl rfl hl.1 rfl (Nat.le_of_ble_eq_true rfl) dL_law_405 ⟨by show _ ≤ 638288; omega, by show _ ≤ 7181241; omega⟩ ?_
  refine lv_aload_n hx hb dL_law_408 rfl (lv_at hl 2 rfl) ?_
  have hPc : va_P D vwCl [(u, .inr (2, [.int e0, .int (nI n), .int (nI w), .ref c1, .ref c2, .ref c3, .ref c4, .int e7, .int e8, .int e9, .int e10])), (c1, .inl (cI, 40, .inl FM)), (c2, .inl (cI, 40, .inl V)), (c3, .inl (cI, 40, .inl O)), (c4, .inl (cI, 40, .inl Y))] H := hP.sub [8, 9, 10, 11, 12] rfl
  have hDc : va_D A [(u, .inr (2, [.int e0, .int (nI n), .int (nI w), .ref c1, .ref c2, .ref c3, .ref c4, .int e7, .int e8, .int e9, .int e10])), (c1, .inl (cI, 40, .inl FM)), (c2, .inl (cI, 40, .inl V)), (c3, .inl (cI, 40, .inl O)), (c4, .inl (cI, 40, .inl Y))] := hD.sub [8, 9, 10, 11, 12] (by decide) rfl
  have hFc := va_free (wc := [(u, .inr (2, [.int e0, .int (nI n), .int (nI w), .ref c1, .ref c2, .ref c3, .ref c4, .int e7, .int e8, .int e9, .int e10])), (c1, .inl (cI, 40, .inl FM)), (c2, .inl (cI, 40, .inl V)), (c3, .inl (cI, 40, .inl O)), (c4, .inl (cI, 40, .inl Y))]) hD hS hA [8, 9, 10, 11, 12] rfl
  refine pq_i (va_runV (rest := [.int (nI (ct n f (nI 2)))]) CF (m_X2_tickets l D cI u c1 c2 c3 c4 M O Y e0 e7 e8 e9 e10 H.size) (cwV 0 hts gL_law_X2_tickets rfl rfl rfl k_X2_tickets ⟨Nat.le_of_ble_eq_true rfl, Nat.le_of_ble_eq_true rfl⟩) (mv_pre hK hPc hDc rfl rfl rfl) rfl rfl hl.1 rfl (lv_room (Nat.le_of_ble_eq_true rfl)) dL_law_409 ⟨by show _ ≤ 638288; omega, by show _ ≤ 7181241; omega⟩) hS hFc (fun r1 H locs hB hk1 hS => ?_)
  obtain ⟨rfl, hP1⟩ := hB
  obtain ⟨hP, hD⟩ := jn (wb := [(o, .inr (1, [.ref r, .ref t])), (r, .inr (0, [.ref a1, .ref a2, .int (nI n), .int (nI w)])), (a1, .inl (cI, 40, .inl F)), (a2, .inl (cI, 40, .inl G)), (t, .inr (0, [.ref b1, .ref b2, .int (nI n2), .int (nI w2)])), (b1, .inl (cI, 40, .inl F2)), (b2, .inl (cI, 40, .inl G2)), (ot, .inl (cJ, 1, .inr (.inl B))), (u, .inr (2, [.int (nI 0), .int (nI n), .int (nI w), .ref c1, .ref c2, .ref c3, .ref c4, .int e7, .int e8, .int e9, .int e10])), (c1, .inl (cI, 40, .inl FM)), (c2, .inl (cI, 40, .inl V)), (c3, .inl (cI, 40, .inl O)), (c4, .inl (cI, 40, .inl Y))]) (w1 := [(u, .inr (2, [.int (nI 0), .int (nI n), .int (nI w), .ref c1, .ref c2, .ref c3, .ref c4, .int e7, .int e8, .int e9, .int e10])), (c1, .inl (cI, 40, .inl FM)), (c2, .inl (cI, 40, .inl V)), (c3, .inl (cI, 40, .inl O)), (c4, .inl (cI, 40, .inl Y))]) hP hD [8, 9, 10, 11, 12] [0, 1, 2, 3, 4, 5, 6, 7] rfl rfl rfl rfl 13 rfl (by decide) (by decide) hk1 hP1
  refine lv_icmp_eq (tgt := 1147) hx hb dL_law_412 (by decide) (fun c412 => ?_) (fun c412 => ?_)
  · skip
    refine w_widen (k := kc + 50) (n := ks + 300) (by omega) (by omega) ?_
    exact hk _ _ _ _ _ _ _ _ _ _ _ _ _ _ _ _ _ _ _ _ _ _ _ _ _ _ _ _ _ _ _ _ _ _ _ _ S M hP hD hS (lv_sub hl [0, 1, 2, 3, 4] rfl)
  · skip
    exact absurd rfl c412
set_option maxHeartbeats 4000000 in
set_option maxRecDepth 100000 in
theorem law_c11 {p : Program} {l : Launch} {e : Env} {s : State} {m : MethodId} {below : List Frame} {meth : Method} {c : Code} {b L : Nat} {xs : Nat → Int32} {D : va_G} {cI cJ : ClassId} {A : Nat → Prop} {Q : State → Prop} (F9 : LF p l s m meth c b L xs D cI cJ A) {i kc ks : Nat} (hi : i + 3 ≤ L) (hkc : kc + 50 ≤ 638288) (hks : ks + 300 ≤ 7181241) (hk : LG p l e s m below meth c b D cI cJ A Q 1147 i (kc + 50) (ks + 300)) : LG p l e s m below meth c b D cI cJ A Q 585 i kc ks := by
  obtain ⟨CF, hXs, hbl, hbA, hA, hKw, hXS, hZ, hN, hlt, hL⟩ := id F9
  obtain ⟨hx, hb, hml, hown, hts⟩ := id CF
  have hK : va_K D vwCl [(cI, .int)] s := hKw.sub [0] rfl
  intro o r t a1 a2 b1 b2 ot u c1 c2 c3 c4 n w n2 w2 F G f g F2 G2 FM V O Y B e0 e7 e8 e9 e10 H locs ls S M hP hD hS hl
  obtain ⟨hn3, hn, hw2, -, -, -⟩ := id S
  have hP : va_P D vwCl [(o, .inr (1, [.ref r, .ref t])), (r, .inr (0, [.ref a1, .ref a2, .int (nI n), .int (nI w)])), (a1, .inl (cI, 40, .inl F)), (a2, .inl (cI, 40, .inl G)), (t, .inr (0, [.ref b1, .ref b2, .int (nI n2), .int (nI w2)])), (b1, .inl (cI, 40, .inl F2)), (b2, .inl (cI, 40, .inl G2)), (ot, .inl (cJ, 1, .inr (.inl B))), (u, .inr (2, [.int e0, .int (nI n), .int (nI w), .ref c1, .ref c2, .ref c3, .ref c4, .int e7, .int e8, .int e9, .int e10])), (c1, .inl (cI, 40, .inl FM)), (c2, .inl (cI, 40, .inl V)), (c3, .inl (cI, 40, .inl O)), (c4, .inl (cI, 40, .inl Y))] H := hP
  have hD : va_D A [(o, .inr (1, [.ref r, .ref t])), (r, .inr (0, [.ref a1, .ref a2, .int (nI n), .int (nI w)])), (a1, .inl (cI, 40, .inl F)), (a2, .inl (cI, 40, .inl G)), (t, .inr (0, [.ref b1, .ref b2, .int (nI n2), .int (nI w2)])), (b1, .inl (cI, 40, .inl F2)), (b2, .inl (cI, 40, .inl G2)), (ot, .inl (cJ, 1, .inr (.inl B))), (u, .inr (2, [.int e0, .int (nI n), .int (nI w), .ref c1, .ref c2, .ref c3, .ref c4, .int e7, .int e8, .int e9, .int e10])), (c1, .inl (cI, 40, .inl FM)), (c2, .inl (cI, 40, .inl V)), (c3, .inl (cI, 40, .inl O)), (c4, .inl (cI, 40, .inl Y))] := hD
  refine lv_aload_n hx hb dL_law_585 rfl (lv_at hl 1 rfl) ?_
  refine pv_i CF (m_X1_weight l D cI o r t a1 a2 b1 b2 S n2 w2 F2 G2) (cwV 0 hts gL_law_X1_weight rfl rfl rfl k_X1_weight ⟨Nat.le_of_ble_eq_true rfl, Nat.le_of_ble_eq_true rfl⟩) hK (hP.sub [0, 1, 2, 3, 4, 5, 6] rfl) rfl rfl rfl rfl hl.1 rfl (Nat.le_of_ble_eq_true rfl) dL_law_586 ⟨by show _ ≤ 638288; omega, by show _ ≤ 7181241; omega⟩ ?_
  refine lv_aload_n hx hb dL_law_589 rfl (lv_at hl 2 rfl) ?_
  have hPc : va_P D vwCl [(u, .inr (2, [.int e0, .int (nI n), .int (nI w), .ref c1, .ref c2, .ref c3, .ref c4, .int e7, .int e8, .int e9, .int e10])), (c1, .inl (cI, 40, .inl FM)), (c2, .inl (cI, 40, .inl V)), (c3, .inl (cI, 40, .inl O)), (c4, .inl (cI, 40, .inl Y))] H := hP.sub [8, 9, 10, 11, 12] rfl
  have hDc : va_D A [(u, .inr (2, [.int e0, .int (nI n), .int (nI w), .ref c1, .ref c2, .ref c3, .ref c4, .int e7, .int e8, .int e9, .int e10])), (c1, .inl (cI, 40, .inl FM)), (c2, .inl (cI, 40, .inl V)), (c3, .inl (cI, 40, .inl O)), (c4, .inl (cI, 40, .inl Y))] := hD.sub [8, 9, 10, 11, 12] (by decide) rfl
  have hFc := va_free (wc := [(u, .inr (2, [.int e0, .int (nI n), .int (nI w), .ref c1, .ref c2, .ref c3, .ref c4, .int e7, .int e8, .int e9, .int e10])), (c1, .inl (cI, 40, .inl FM)), (c2, .inl (cI, 40, .inl V)), (c3, .inl (cI, 40, .inl O)), (c4, .inl (cI, 40, .inl Y))]) hD hS hA [8, 9, 10, 11, 12] rfl
  refine pq_i (va_runV (rest := [.int (wa n g)]) CF (m_X2_weight l D cI u c1 c2 c3 c4 M O Y e0 e7 e8 e9 e10 H.size) (cwV 0 hts gL_law_X2_weight rfl rfl rfl k_X2_weight ⟨Nat.le_of_ble_eq_true rfl, Nat.le_of_ble_eq_true rfl⟩) (mv_pre hK hPc hDc rfl rfl rfl) rfl rfl hl.1 rfl (lv_room (Nat.le_of_ble_eq_true rfl)) dL_law_590 ⟨by show _ ≤ 638288; omega, by show _ ≤ 7181241; omega⟩) hS hFc (fun r1 H locs hB hk1 hS => ?_)
  obtain ⟨rfl, hP1⟩ := hB
  obtain ⟨hP, hD⟩ := jn (wb := [(o, .inr (1, [.ref r, .ref t])), (r, .inr (0, [.ref a1, .ref a2, .int (nI n), .int (nI w)])), (a1, .inl (cI, 40, .inl F)), (a2, .inl (cI, 40, .inl G)), (t, .inr (0, [.ref b1, .ref b2, .int (nI n2), .int (nI w2)])), (b1, .inl (cI, 40, .inl F2)), (b2, .inl (cI, 40, .inl G2)), (ot, .inl (cJ, 1, .inr (.inl B))), (u, .inr (2, [.int (nI 0), .int (nI n), .int (nI w), .ref c1, .ref c2, .ref c3, .ref c4, .int e7, .int e8, .int e9, .int e10])), (c1, .inl (cI, 40, .inl FM)), (c2, .inl (cI, 40, .inl V)), (c3, .inl (cI, 40, .inl O)), (c4, .inl (cI, 40, .inl Y))]) (w1 := [(u, .inr (2, [.int (nI 0), .int (nI n), .int (nI w), .ref c1, .ref c2, .ref c3, .ref c4, .int e7, .int e8, .int e9, .int e10])), (c1, .inl (cI, 40, .inl FM)), (c2, .inl (cI, 40, .inl V)), (c3, .inl (cI, 40, .inl O)), (c4, .inl (cI, 40, .inl Y))]) hP hD [8, 9, 10, 11, 12] [0, 1, 2, 3, 4, 5, 6, 7] rfl rfl rfl rfl 13 rfl (by decide) (by decide) hk1 hP1
  refine lv_icmp_eq (tgt := 1147) hx hb dL_law_593 (by decide) (fun c593 => ?_) (fun c593 => ?_)
  · skip
    refine w_widen (k := kc + 50) (n := ks + 300) (by omega) (by omega) ?_
    exact hk _ _ _ _ _ _ _ _ _ _ _ _ _ _ _ _ _ _ _ _ _ _ _ _ _ _ _ _ _ _ _ _ _ _ _ _ S M hP hD hS (lv_sub hl [0, 1, 2, 3, 4] rfl)
  · skip
    exact absurd rfl c593
set_option maxHeartbeats 4000000 in
set_option maxRecDepth 100000 in
theorem law_c12 {p : Program} {l : Launch} {e : Env} {s : State} {m : MethodId} {below : List Frame} {meth : Method} {c : Code} {b L : Nat} {xs : Nat → Int32} {D : va_G} {cI cJ : ClassId} {A : Nat → Prop} {Q : State → Prop} (F9 : LF p l s m meth c b L xs D cI cJ A) {i kc ks : Nat} (hi : i + 3 ≤ L) (hkc : kc + 50 ≤ 638288) (hks : ks + 300 ≤ 7181241) (hk : LG p l e s m below meth c b D cI cJ A Q 1147 i (kc + 50) (ks + 300)) : LG p l e s m below meth c b D cI cJ A Q 598 i kc ks := by
  obtain ⟨CF, hXs, hbl, hbA, hA, hKw, hXS, hZ, hN, hlt, hL⟩ := id F9
  obtain ⟨hx, hb, hml, hown, hts⟩ := id CF
  have hK : va_K D vwCl [(cI, .int)] s := hKw.sub [0] rfl
  intro o r t a1 a2 b1 b2 ot u c1 c2 c3 c4 n w n2 w2 F G f g F2 G2 FM V O Y B e0 e7 e8 e9 e10 H locs ls S M hP hD hS hl
  obtain ⟨hn3, hn, hw2, -, -, -⟩ := id S
  have hP : va_P D vwCl [(o, .inr (1, [.ref r, .ref t])), (r, .inr (0, [.ref a1, .ref a2, .int (nI n), .int (nI w)])), (a1, .inl (cI, 40, .inl F)), (a2, .inl (cI, 40, .inl G)), (t, .inr (0, [.ref b1, .ref b2, .int (nI n2), .int (nI w2)])), (b1, .inl (cI, 40, .inl F2)), (b2, .inl (cI, 40, .inl G2)), (ot, .inl (cJ, 1, .inr (.inl B))), (u, .inr (2, [.int e0, .int (nI n), .int (nI w), .ref c1, .ref c2, .ref c3, .ref c4, .int e7, .int e8, .int e9, .int e10])), (c1, .inl (cI, 40, .inl FM)), (c2, .inl (cI, 40, .inl V)), (c3, .inl (cI, 40, .inl O)), (c4, .inl (cI, 40, .inl Y))] H := hP
  have hD : va_D A [(o, .inr (1, [.ref r, .ref t])), (r, .inr (0, [.ref a1, .ref a2, .int (nI n), .int (nI w)])), (a1, .inl (cI, 40, .inl F)), (a2, .inl (cI, 40, .inl G)), (t, .inr (0, [.ref b1, .ref b2, .int (nI n2), .int (nI w2)])), (b1, .inl (cI, 40, .inl F2)), (b2, .inl (cI, 40, .inl G2)), (ot, .inl (cJ, 1, .inr (.inl B))), (u, .inr (2, [.int e0, .int (nI n), .int (nI w), .ref c1, .ref c2, .ref c3, .ref c4, .int e7, .int e8, .int e9, .int e10])), (c1, .inl (cI, 40, .inl FM)), (c2, .inl (cI, 40, .inl V)), (c3, .inl (cI, 40, .inl O)), (c4, .inl (cI, 40, .inl Y))] := hD
  refine lv_aload_n hx hb dL_law_598 rfl (lv_at hl 1 rfl) ?_
  refine pv_i CF (m_X1_heaviestAt l D cI o r t a1 a2 b1 b2 S n2 w2 F2 G2) (cwV 0 hts gL_law_X1_heaviestAt rfl rfl rfl k_X1_heaviestAt ⟨Nat.le_of_ble_eq_true rfl, Nat.le_of_ble_eq_true rfl⟩) hK (hP.sub [0, 1, 2, 3, 4, 5, 6] rfl) rfl rfl rfl rfl hl.1 rfl (Nat.le_of_ble_eq_true rfl) dL_law_599 ⟨by show _ ≤ 638288; omega, by show _ ≤ 7181241; omega⟩ ?_
  refine lv_aload_n hx hb dL_law_602 rfl (lv_at hl 2 rfl) ?_
  have hPc : va_P D vwCl [(u, .inr (2, [.int e0, .int (nI n), .int (nI w), .ref c1, .ref c2, .ref c3, .ref c4, .int e7, .int e8, .int e9, .int e10])), (c1, .inl (cI, 40, .inl FM)), (c2, .inl (cI, 40, .inl V)), (c3, .inl (cI, 40, .inl O)), (c4, .inl (cI, 40, .inl Y))] H := hP.sub [8, 9, 10, 11, 12] rfl
  have hDc : va_D A [(u, .inr (2, [.int e0, .int (nI n), .int (nI w), .ref c1, .ref c2, .ref c3, .ref c4, .int e7, .int e8, .int e9, .int e10])), (c1, .inl (cI, 40, .inl FM)), (c2, .inl (cI, 40, .inl V)), (c3, .inl (cI, 40, .inl O)), (c4, .inl (cI, 40, .inl Y))] := hD.sub [8, 9, 10, 11, 12] (by decide) rfl
  have hFc := va_free (wc := [(u, .inr (2, [.int e0, .int (nI n), .int (nI w), .ref c1, .ref c2, .ref c3, .ref c4, .int e7, .int e8, .int e9, .int e10])), (c1, .inl (cI, 40, .inl FM)), (c2, .inl (cI, 40, .inl V)), (c3, .inl (cI, 40, .inl O)), (c4, .inl (cI, 40, .inl Y))]) hD hS hA [8, 9, 10, 11, 12] rfl
  refine pq_i (va_runV (rest := [.int ((hv n g).1)]) CF (m_X2_heaviestAt l D cI u c1 c2 c3 c4 M O Y e0 e7 e8 e9 e10 H.size) (cwV 0 hts gL_law_X2_heaviestAt rfl rfl rfl k_X2_heaviestAt ⟨Nat.le_of_ble_eq_true rfl, Nat.le_of_ble_eq_true rfl⟩) (mv_pre hK hPc hDc rfl rfl rfl) rfl rfl hl.1 rfl (lv_room (Nat.le_of_ble_eq_true rfl)) dL_law_603 ⟨by show _ ≤ 638288; omega, by show _ ≤ 7181241; omega⟩) hS hFc (fun r1 H locs hB hk1 hS => ?_)
  obtain ⟨rfl, hP1⟩ := hB
  obtain ⟨hP, hD⟩ := jn (wb := [(o, .inr (1, [.ref r, .ref t])), (r, .inr (0, [.ref a1, .ref a2, .int (nI n), .int (nI w)])), (a1, .inl (cI, 40, .inl F)), (a2, .inl (cI, 40, .inl G)), (t, .inr (0, [.ref b1, .ref b2, .int (nI n2), .int (nI w2)])), (b1, .inl (cI, 40, .inl F2)), (b2, .inl (cI, 40, .inl G2)), (ot, .inl (cJ, 1, .inr (.inl B))), (u, .inr (2, [.int (nI 0), .int (nI n), .int (nI w), .ref c1, .ref c2, .ref c3, .ref c4, .int e7, .int e8, .int e9, .int e10])), (c1, .inl (cI, 40, .inl FM)), (c2, .inl (cI, 40, .inl V)), (c3, .inl (cI, 40, .inl O)), (c4, .inl (cI, 40, .inl Y))]) (w1 := [(u, .inr (2, [.int (nI 0), .int (nI n), .int (nI w), .ref c1, .ref c2, .ref c3, .ref c4, .int e7, .int e8, .int e9, .int e10])), (c1, .inl (cI, 40, .inl FM)), (c2, .inl (cI, 40, .inl V)), (c3, .inl (cI, 40, .inl O)), (c4, .inl (cI, 40, .inl Y))]) hP hD [8, 9, 10, 11, 12] [0, 1, 2, 3, 4, 5, 6, 7] rfl rfl rfl rfl 13 rfl (by decide) (by decide) hk1 hP1
  refine lv_icmp_eq (tgt := 1147) hx hb dL_law_606 (by decide) (fun c606 => ?_) (fun c606 => ?_)
  · skip
    refine w_widen (k := kc + 50) (n := ks + 300) (by omega) (by omega) ?_
    exact hk _ _ _ _ _ _ _ _ _ _ _ _ _ _ _ _ _ _ _ _ _ _ _ _ _ _ _ _ _ _ _ _ _ _ _ _ S M hP hD hS (lv_sub hl [0, 1, 2, 3, 4] rfl)
  · skip
    exact absurd rfl c606
set_option maxHeartbeats 4000000 in
set_option maxRecDepth 100000 in
theorem law_c19 {p : Program} {l : Launch} {e : Env} {s : State} {m : MethodId} {below : List Frame} {meth : Method} {c : Code} {b L : Nat} {xs : Nat → Int32} {D : va_G} {cI cJ : ClassId} {A : Nat → Prop} {Q : State → Prop} (F9 : LF p l s m meth c b L xs D cI cJ A) {i kc ks : Nat} (hi : i + 3 ≤ L) (hkc : kc + 50 ≤ 638288) (hks : ks + 300 ≤ 7181241) (hk : LG p l e s m below meth c b D cI cJ A Q 1147 i (kc + 50) (ks + 300)) : LG p l e s m below meth c b D cI cJ A Q 873 i kc ks := by
  obtain ⟨CF, hXs, hbl, hbA, hA, hKw, hXS, hZ, hN, hlt, hL⟩ := id F9
  obtain ⟨hx, hb, hml, hown, hts⟩ := id CF
  have hK : va_K D vwCl [(cI, .int)] s := hKw.sub [0] rfl
  intro o r t a1 a2 b1 b2 ot u c1 c2 c3 c4 n w n2 w2 F G f g F2 G2 FM V O Y B e0 e7 e8 e9 e10 H locs ls S M hP hD hS hl
  obtain ⟨hn3, hn, hw2, -, -, -⟩ := id S
  have hP : va_P D vwCl [(o, .inr (1, [.ref r, .ref t])), (r, .inr (0, [.ref a1, .ref a2, .int (nI n), .int (nI w)])), (a1, .inl (cI, 40, .inl F)), (a2, .inl (cI, 40, .inl G)), (t, .inr (0, [.ref b1, .ref b2, .int (nI n2), .int (nI w2)])), (b1, .inl (cI, 40, .inl F2)), (b2, .inl (cI, 40, .inl G2)), (ot, .inl (cJ, 1, .inr (.inl B))), (u, .inr (2, [.int e0, .int (nI n), .int (nI w), .ref c1, .ref c2, .ref c3, .ref c4, .int e7, .int e8, .int e9, .int e10])), (c1, .inl (cI, 40, .inl FM)), (c2, .inl (cI, 40, .inl V)), (c3, .inl (cI, 40, .inl O)), (c4, .inl (cI, 40, .inl Y))] H := hP
  have hD : va_D A [(o, .inr (1, [.ref r, .ref t])), (r, .inr (0, [.ref a1, .ref a2, .int (nI n), .int (nI w)])), (a1, .inl (cI, 40, .inl F)), (a2, .inl (cI, 40, .inl G)), (t, .inr (0, [.ref b1, .ref b2, .int (nI n2), .int (nI w2)])), (b1, .inl (cI, 40, .inl F2)), (b2, .inl (cI, 40, .inl G2)), (ot, .inl (cJ, 1, .inr (.inl B))), (u, .inr (2, [.int e0, .int (nI n), .int (nI w), .ref c1, .ref c2, .ref c3, .ref c4, .int e7, .int e8, .int e9, .int e10])), (c1, .inl (cI, 40, .inl FM)), (c2, .inl (cI, 40, .inl V)), (c3, .inl (cI, 40, .inl O)), (c4, .inl (cI, 40, .inl Y))] := hD
  refine lv_aload_n hx hb dL_law_873 rfl (lv_at hl 1 rfl) ?_
  refine pv_i CF (m_X1_rows l D cI o r t a1 a2 b1 b2 S n2 w2 F2 G2) (cwV 0 hts gL_law_X1_rows rfl rfl rfl k_X1_rows ⟨Nat.le_of_ble_eq_true rfl, Nat.le_of_ble_eq_true rfl⟩) hK (hP.sub [0, 1, 2, 3, 4, 5, 6] rfl) rfl rfl rfl rfl hl.1 rfl (Nat.le_of_ble_eq_true rfl) dL_law_874 ⟨by show _ ≤ 638288; omega, by show _ ≤ 7181241; omega⟩ ?_
  refine lv_aload_n hx hb dL_law_877 rfl (lv_at hl 2 rfl) ?_
  have hPc : va_P D vwCl [(u, .inr (2, [.int e0, .int (nI n), .int (nI w), .ref c1, .ref c2, .ref c3, .ref c4, .int e7, .int e8, .int e9, .int e10])), (c1, .inl (cI, 40, .inl FM)), (c2, .inl (cI, 40, .inl V)), (c3, .inl (cI, 40, .inl O)), (c4, .inl (cI, 40, .inl Y))] H := hP.sub [8, 9, 10, 11, 12] rfl
  have hDc : va_D A [(u, .inr (2, [.int e0, .int (nI n), .int (nI w), .ref c1, .ref c2, .ref c3, .ref c4, .int e7, .int e8, .int e9, .int e10])), (c1, .inl (cI, 40, .inl FM)), (c2, .inl (cI, 40, .inl V)), (c3, .inl (cI, 40, .inl O)), (c4, .inl (cI, 40, .inl Y))] := hD.sub [8, 9, 10, 11, 12] (by decide) rfl
  have hFc := va_free (wc := [(u, .inr (2, [.int e0, .int (nI n), .int (nI w), .ref c1, .ref c2, .ref c3, .ref c4, .int e7, .int e8, .int e9, .int e10])), (c1, .inl (cI, 40, .inl FM)), (c2, .inl (cI, 40, .inl V)), (c3, .inl (cI, 40, .inl O)), (c4, .inl (cI, 40, .inl Y))]) hD hS hA [8, 9, 10, 11, 12] rfl
  refine pq_i (va_runV (rest := [.int (nI (rc n f))]) CF (m_X2_rows l D cI u c1 c2 c3 c4 M O Y e0 e7 e8 e9 e10 H.size) (cwV 0 hts gL_law_X2_rows rfl rfl rfl k_X2_rows ⟨Nat.le_of_ble_eq_true rfl, Nat.le_of_ble_eq_true rfl⟩) (mv_pre hK hPc hDc rfl rfl rfl) rfl rfl hl.1 rfl (lv_room (Nat.le_of_ble_eq_true rfl)) dL_law_878 ⟨by show _ ≤ 638288; omega, by show _ ≤ 7181241; omega⟩) hS hFc (fun r1 H locs hB hk1 hS => ?_)
  obtain ⟨rfl, hP1⟩ := hB
  obtain ⟨hP, hD⟩ := jn (wb := [(o, .inr (1, [.ref r, .ref t])), (r, .inr (0, [.ref a1, .ref a2, .int (nI n), .int (nI w)])), (a1, .inl (cI, 40, .inl F)), (a2, .inl (cI, 40, .inl G)), (t, .inr (0, [.ref b1, .ref b2, .int (nI n2), .int (nI w2)])), (b1, .inl (cI, 40, .inl F2)), (b2, .inl (cI, 40, .inl G2)), (ot, .inl (cJ, 1, .inr (.inl B))), (u, .inr (2, [.int (nI 0), .int (nI n), .int (nI w), .ref c1, .ref c2, .ref c3, .ref c4, .int e7, .int e8, .int e9, .int e10])), (c1, .inl (cI, 40, .inl FM)), (c2, .inl (cI, 40, .inl V)), (c3, .inl (cI, 40, .inl O)), (c4, .inl (cI, 40, .inl Y))]) (w1 := [(u, .inr (2, [.int (nI 0), .int (nI n), .int (nI w), .ref c1, .ref c2, .ref c3, .ref c4, .int e7, .int e8, .int e9, .int e10])), (c1, .inl (cI, 40, .inl FM)), (c2, .inl (cI, 40, .inl V)), (c3, .inl (cI, 40, .inl O)), (c4, .inl (cI, 40, .inl Y))]) hP hD [8, 9, 10, 11, 12] [0, 1, 2, 3, 4, 5, 6, 7] rfl rfl rfl rfl 13 rfl (by decide) (by decide) hk1 hP1
  refine lv_icmp_eq (tgt := 1147) hx hb dL_law_881 (by decide) (fun c881 => ?_) (fun c881 => ?_)
  · skip
    refine w_widen (k := kc + 50) (n := ks + 300) (by omega) (by omega) ?_
    exact hk _ _ _ _ _ _ _ _ _ _ _ _ _ _ _ _ _ _ _ _ _ _ _ _ _ _ _ _ _ _ _ _ _ _ _ _ S M hP hD hS (lv_sub hl [0, 1, 2, 3, 4] rfl)
  · skip
    exact absurd rfl c881
set_option maxHeartbeats 4000000 in
set_option maxRecDepth 100000 in
theorem law_c20 {p : Program} {l : Launch} {e : Env} {s : State} {m : MethodId} {below : List Frame} {meth : Method} {c : Code} {b L : Nat} {xs : Nat → Int32} {D : va_G} {cI cJ : ClassId} {A : Nat → Prop} {Q : State → Prop} (F9 : LF p l s m meth c b L xs D cI cJ A) {i kc ks : Nat} (hi : i + 3 ≤ L) (hkc : kc + 50 ≤ 638288) (hks : ks + 300 ≤ 7181241) (hk : LG p l e s m below meth c b D cI cJ A Q 1147 i (kc + 50) (ks + 300)) : LG p l e s m below meth c b D cI cJ A Q 886 i kc ks := by
  obtain ⟨CF, hXs, hbl, hbA, hA, hKw, hXS, hZ, hN, hlt, hL⟩ := id F9
  obtain ⟨hx, hb, hml, hown, hts⟩ := id CF
  have hK : va_K D vwCl [(cI, .int)] s := hKw.sub [0] rfl
  intro o r t a1 a2 b1 b2 ot u c1 c2 c3 c4 n w n2 w2 F G f g F2 G2 FM V O Y B e0 e7 e8 e9 e10 H locs ls S M hP hD hS hl
  obtain ⟨hn3, hn, hw2, -, -, -⟩ := id S
  have hP : va_P D vwCl [(o, .inr (1, [.ref r, .ref t])), (r, .inr (0, [.ref a1, .ref a2, .int (nI n), .int (nI w)])), (a1, .inl (cI, 40, .inl F)), (a2, .inl (cI, 40, .inl G)), (t, .inr (0, [.ref b1, .ref b2, .int (nI n2), .int (nI w2)])), (b1, .inl (cI, 40, .inl F2)), (b2, .inl (cI, 40, .inl G2)), (ot, .inl (cJ, 1, .inr (.inl B))), (u, .inr (2, [.int e0, .int (nI n), .int (nI w), .ref c1, .ref c2, .ref c3, .ref c4, .int e7, .int e8, .int e9, .int e10])), (c1, .inl (cI, 40, .inl FM)), (c2, .inl (cI, 40, .inl V)), (c3, .inl (cI, 40, .inl O)), (c4, .inl (cI, 40, .inl Y))] H := hP
  have hD : va_D A [(o, .inr (1, [.ref r, .ref t])), (r, .inr (0, [.ref a1, .ref a2, .int (nI n), .int (nI w)])), (a1, .inl (cI, 40, .inl F)), (a2, .inl (cI, 40, .inl G)), (t, .inr (0, [.ref b1, .ref b2, .int (nI n2), .int (nI w2)])), (b1, .inl (cI, 40, .inl F2)), (b2, .inl (cI, 40, .inl G2)), (ot, .inl (cJ, 1, .inr (.inl B))), (u, .inr (2, [.int e0, .int (nI n), .int (nI w), .ref c1, .ref c2, .ref c3, .ref c4, .int e7, .int e8, .int e9, .int e10])), (c1, .inl (cI, 40, .inl FM)), (c2, .inl (cI, 40, .inl V)), (c3, .inl (cI, 40, .inl O)), (c4, .inl (cI, 40, .inl Y))] := hD
  refine lv_aload_n hx hb dL_law_886 rfl (lv_at hl 1 rfl) ?_
  refine pv_i CF (m_X1_longestRow l D cI o r t a1 a2 b1 b2 S n2 w2 F2 G2) (cwV 0 hts gL_law_X1_longestRow rfl rfl rfl k_X1_longestRow ⟨Nat.le_of_ble_eq_true rfl, Nat.le_of_ble_eq_true rfl⟩) hK (hP.sub [0, 1, 2, 3, 4, 5, 6] rfl) rfl rfl rfl rfl hl.1 rfl (Nat.le_of_ble_eq_true rfl) dL_law_887 ⟨by show _ ≤ 638288; omega, by show _ ≤ 7181241; omega⟩ ?_
  refine lv_aload_n hx hb dL_law_890 rfl (lv_at hl 2 rfl) ?_
  have hPc : va_P D vwCl [(u, .inr (2, [.int e0, .int (nI n), .int (nI w), .ref c1, .ref c2, .ref c3, .ref c4, .int e7, .int e8, .int e9, .int e10])), (c1, .inl (cI, 40, .inl FM)), (c2, .inl (cI, 40, .inl V)), (c3, .inl (cI, 40, .inl O)), (c4, .inl (cI, 40, .inl Y))] H := hP.sub [8, 9, 10, 11, 12] rfl
  have hDc : va_D A [(u, .inr (2, [.int e0, .int (nI n), .int (nI w), .ref c1, .ref c2, .ref c3, .ref c4, .int e7, .int e8, .int e9, .int e10])), (c1, .inl (cI, 40, .inl FM)), (c2, .inl (cI, 40, .inl V)), (c3, .inl (cI, 40, .inl O)), (c4, .inl (cI, 40, .inl Y))] := hD.sub [8, 9, 10, 11, 12] (by decide) rfl
  have hFc := va_free (wc := [(u, .inr (2, [.int e0, .int (nI n), .int (nI w), .ref c1, .ref c2, .ref c3, .ref c4, .int e7, .int e8, .int e9, .int e10])), (c1, .inl (cI, 40, .inl FM)), (c2, .inl (cI, 40, .inl V)), (c3, .inl (cI, 40, .inl O)), (c4, .inl (cI, 40, .inl Y))]) hD hS hA [8, 9, 10, 11, 12] rfl
  refine pq_i (va_runV (rest := [.int (nI (lr n f))]) CF (m_X2_longestRow l D cI u c1 c2 c3 c4 M O Y e0 e7 e8 e9 e10 H.size) (cwV 0 hts gL_law_X2_longestRow rfl rfl rfl k_X2_longestRow ⟨Nat.le_of_ble_eq_true rfl, Nat.le_of_ble_eq_true rfl⟩) (mv_pre hK hPc hDc rfl rfl rfl) rfl rfl hl.1 rfl (lv_room (Nat.le_of_ble_eq_true rfl)) dL_law_891 ⟨by show _ ≤ 638288; omega, by show _ ≤ 7181241; omega⟩) hS hFc (fun r1 H locs hB hk1 hS => ?_)
  obtain ⟨rfl, hP1⟩ := hB
  obtain ⟨hP, hD⟩ := jn (wb := [(o, .inr (1, [.ref r, .ref t])), (r, .inr (0, [.ref a1, .ref a2, .int (nI n), .int (nI w)])), (a1, .inl (cI, 40, .inl F)), (a2, .inl (cI, 40, .inl G)), (t, .inr (0, [.ref b1, .ref b2, .int (nI n2), .int (nI w2)])), (b1, .inl (cI, 40, .inl F2)), (b2, .inl (cI, 40, .inl G2)), (ot, .inl (cJ, 1, .inr (.inl B))), (u, .inr (2, [.int (nI 0), .int (nI n), .int (nI w), .ref c1, .ref c2, .ref c3, .ref c4, .int e7, .int e8, .int e9, .int e10])), (c1, .inl (cI, 40, .inl FM)), (c2, .inl (cI, 40, .inl V)), (c3, .inl (cI, 40, .inl O)), (c4, .inl (cI, 40, .inl Y))]) (w1 := [(u, .inr (2, [.int (nI 0), .int (nI n), .int (nI w), .ref c1, .ref c2, .ref c3, .ref c4, .int e7, .int e8, .int e9, .int e10])), (c1, .inl (cI, 40, .inl FM)), (c2, .inl (cI, 40, .inl V)), (c3, .inl (cI, 40, .inl O)), (c4, .inl (cI, 40, .inl Y))]) hP hD [8, 9, 10, 11, 12] [0, 1, 2, 3, 4, 5, 6, 7] rfl rfl rfl rfl 13 rfl (by decide) (by decide) hk1 hP1
  refine lv_icmp_eq (tgt := 1147) hx hb dL_law_894 (by decide) (fun c894 => ?_) (fun c894 => ?_)
  · skip
    refine w_widen (k := kc + 50) (n := ks + 300) (by omega) (by omega) ?_
    exact hk _ _ _ _ _ _ _ _ _ _ _ _ _ _ _ _ _ _ _ _ _ _ _ _ _ _ _ _ _ _ _ _ _ _ _ _ S M hP hD hS (lv_sub hl [0, 1, 2, 3, 4] rfl)
  · skip
    exact absurd rfl c894
set_option maxHeartbeats 4000000 in
set_option maxRecDepth 100000 in
theorem law_c17 {p : Program} {l : Launch} {e : Env} {s : State} {m : MethodId} {below : List Frame} {meth : Method} {c : Code} {b L : Nat} {xs : Nat → Int32} {D : va_G} {cI cJ : ClassId} {A : Nat → Prop} {Q : State → Prop} (F9 : LF p l s m meth c b L xs D cI cJ A) {i kc ks : Nat} (hi : i + 3 ≤ L) (hkc : kc + 50 ≤ 638288) (hks : ks + 300 ≤ 7181241) (hk : LG p l e s m below meth c b D cI cJ A Q 1147 i (kc + 50) (ks + 300)) : LG p l e s m below meth c b D cI cJ A Q 847 i kc ks := by
  obtain ⟨CF, hXs, hbl, hbA, hA, hKw, hXS, hZ, hN, hlt, hL⟩ := id F9
  obtain ⟨hx, hb, hml, hown, hts⟩ := id CF
  have hK : va_K D vwCl [(cI, .int)] s := hKw.sub [0] rfl
  intro o r t a1 a2 b1 b2 ot u c1 c2 c3 c4 n w n2 w2 F G f g F2 G2 FM V O Y B e0 e7 e8 e9 e10 H locs ls S M hP hD hS hl
  obtain ⟨hn3, hn, hw2, -, -, -⟩ := id S
  have hP : va_P D vwCl [(o, .inr (1, [.ref r, .ref t])), (r, .inr (0, [.ref a1, .ref a2, .int (nI n), .int (nI w)])), (a1, .inl (cI, 40, .inl F)), (a2, .inl (cI, 40, .inl G)), (t, .inr (0, [.ref b1, .ref b2, .int (nI n2), .int (nI w2)])), (b1, .inl (cI, 40, .inl F2)), (b2, .inl (cI, 40, .inl G2)), (ot, .inl (cJ, 1, .inr (.inl B))), (u, .inr (2, [.int e0, .int (nI n), .int (nI w), .ref c1, .ref c2, .ref c3, .ref c4, .int e7, .int e8, .int e9, .int e10])), (c1, .inl (cI, 40, .inl FM)), (c2, .inl (cI, 40, .inl V)), (c3, .inl (cI, 40, .inl O)), (c4, .inl (cI, 40, .inl Y))] H := hP
  have hD : va_D A [(o, .inr (1, [.ref r, .ref t])), (r, .inr (0, [.ref a1, .ref a2, .int (nI n), .int (nI w)])), (a1, .inl (cI, 40, .inl F)), (a2, .inl (cI, 40, .inl G)), (t, .inr (0, [.ref b1, .ref b2, .int (nI n2), .int (nI w2)])), (b1, .inl (cI, 40, .inl F2)), (b2, .inl (cI, 40, .inl G2)), (ot, .inl (cJ, 1, .inr (.inl B))), (u, .inr (2, [.int e0, .int (nI n), .int (nI w), .ref c1, .ref c2, .ref c3, .ref c4, .int e7, .int e8, .int e9, .int e10])), (c1, .inl (cI, 40, .inl FM)), (c2, .inl (cI, 40, .inl V)), (c3, .inl (cI, 40, .inl O)), (c4, .inl (cI, 40, .inl Y))] := hD
  refine lv_aload_n hx hb dL_law_847 rfl (lv_at hl 1 rfl) ?_
  refine pv_i CF (m_X1_allLooks l D cI o r t a1 a2 b1 b2 S n2 w2 F2 G2) (cwV 0 hts gL_law_X1_allLooks rfl rfl rfl k_X1_allLooks ⟨Nat.le_of_ble_eq_true rfl, Nat.le_of_ble_eq_true rfl⟩) hK (hP.sub [0, 1, 2, 3, 4, 5, 6] rfl) rfl rfl rfl rfl hl.1 rfl (Nat.le_of_ble_eq_true rfl) dL_law_848 ⟨by show _ ≤ 638288; omega, by show _ ≤ 7181241; omega⟩ ?_
  refine lv_aload_n hx hb dL_law_851 rfl (lv_at hl 2 rfl) ?_
  have hPc : va_P D vwCl [(u, .inr (2, [.int e0, .int (nI n), .int (nI w), .ref c1, .ref c2, .ref c3, .ref c4, .int e7, .int e8, .int e9, .int e10])), (c1, .inl (cI, 40, .inl FM)), (c2, .inl (cI, 40, .inl V)), (c3, .inl (cI, 40, .inl O)), (c4, .inl (cI, 40, .inl Y))] H := hP.sub [8, 9, 10, 11, 12] rfl
  have hDc : va_D A [(u, .inr (2, [.int e0, .int (nI n), .int (nI w), .ref c1, .ref c2, .ref c3, .ref c4, .int e7, .int e8, .int e9, .int e10])), (c1, .inl (cI, 40, .inl FM)), (c2, .inl (cI, 40, .inl V)), (c3, .inl (cI, 40, .inl O)), (c4, .inl (cI, 40, .inl Y))] := hD.sub [8, 9, 10, 11, 12] (by decide) rfl
  have hFc := va_free (wc := [(u, .inr (2, [.int e0, .int (nI n), .int (nI w), .ref c1, .ref c2, .ref c3, .ref c4, .int e7, .int e8, .int e9, .int e10])), (c1, .inl (cI, 40, .inl FM)), (c2, .inl (cI, 40, .inl V)), (c3, .inl (cI, 40, .inl O)), (c4, .inl (cI, 40, .inl Y))]) hD hS hA [8, 9, 10, 11, 12] rfl
  refine pq_i (va_runV (rest := [.int (nI (sm n w f))]) CF (m_X2_allLooks l D cI u c1 c2 c3 c4 M O Y e0 e7 e8 e9 e10 H.size) (cwV 0 hts gL_law_X2_allLooks rfl rfl rfl k_X2_allLooks ⟨Nat.le_of_ble_eq_true rfl, Nat.le_of_ble_eq_true rfl⟩) (mv_pre hK hPc hDc rfl rfl rfl) rfl rfl hl.1 rfl (lv_room (Nat.le_of_ble_eq_true rfl)) dL_law_852 ⟨by show _ ≤ 638288; omega, by show _ ≤ 7181241; omega⟩) hS hFc (fun r1 H locs hB hk1 hS => ?_)
  obtain ⟨rfl, d7, d8, d9, d10, hP1⟩ := hB
  obtain ⟨hP, hD⟩ := jn (wb := [(o, .inr (1, [.ref r, .ref t])), (r, .inr (0, [.ref a1, .ref a2, .int (nI n), .int (nI w)])), (a1, .inl (cI, 40, .inl F)), (a2, .inl (cI, 40, .inl G)), (t, .inr (0, [.ref b1, .ref b2, .int (nI n2), .int (nI w2)])), (b1, .inl (cI, 40, .inl F2)), (b2, .inl (cI, 40, .inl G2)), (ot, .inl (cJ, 1, .inr (.inl B))), (u, .inr (2, [.int (nI 0), .int (nI n), .int (nI w), .ref c1, .ref c2, .ref c3, .ref c4, .int d7, .int d8, .int d9, .int d10])), (c1, .inl (cI, 40, .inl FM)), (c2, .inl (cI, 40, .inl V)), (c3, .inl (cI, 40, .inl O)), (c4, .inl (cI, 40, .inl Y))]) (w1 := [(u, .inr (2, [.int (nI 0), .int (nI n), .int (nI w), .ref c1, .ref c2, .ref c3, .ref c4, .int d7, .int d8, .int d9, .int d10])), (c1, .inl (cI, 40, .inl FM)), (c2, .inl (cI, 40, .inl V)), (c3, .inl (cI, 40, .inl O)), (c4, .inl (cI, 40, .inl Y))]) hP hD [8, 9, 10, 11, 12] [0, 1, 2, 3, 4, 5, 6, 7] rfl rfl rfl rfl 13 rfl (by decide) (by decide) hk1 hP1
  refine lv_icmp_eq (tgt := 1147) hx hb dL_law_855 (by decide) (fun c855 => ?_) (fun c855 => ?_)
  · skip
    refine w_widen (k := kc + 50) (n := ks + 300) (by omega) (by omega) ?_
    exact hk _ _ _ _ _ _ _ _ _ _ _ _ _ _ _ _ _ _ _ _ _ _ _ _ _ _ _ _ _ _ _ _ _ _ _ _ S M hP hD hS (lv_sub hl [0, 1, 2, 3, 4] rfl)
  · skip
    exact absurd rfl c855
set_option maxHeartbeats 4000000 in
set_option maxRecDepth 100000 in
theorem law_c18 {p : Program} {l : Launch} {e : Env} {s : State} {m : MethodId} {below : List Frame} {meth : Method} {c : Code} {b L : Nat} {xs : Nat → Int32} {D : va_G} {cI cJ : ClassId} {A : Nat → Prop} {Q : State → Prop} (F9 : LF p l s m meth c b L xs D cI cJ A) {i kc ks : Nat} (hi : i + 3 ≤ L) (hkc : kc + 50 ≤ 638288) (hks : ks + 300 ≤ 7181241) (hk : LG p l e s m below meth c b D cI cJ A Q 1147 i (kc + 50) (ks + 300)) : LG p l e s m below meth c b D cI cJ A Q 860 i kc ks := by
  obtain ⟨CF, hXs, hbl, hbA, hA, hKw, hXS, hZ, hN, hlt, hL⟩ := id F9
  obtain ⟨hx, hb, hml, hown, hts⟩ := id CF
  have hK : va_K D vwCl [(cI, .int)] s := hKw.sub [0] rfl
  intro o r t a1 a2 b1 b2 ot u c1 c2 c3 c4 n w n2 w2 F G f g F2 G2 FM V O Y B e0 e7 e8 e9 e10 H locs ls S M hP hD hS hl
  obtain ⟨hn3, hn, hw2, -, -, -⟩ := id S
  have hP : va_P D vwCl [(o, .inr (1, [.ref r, .ref t])), (r, .inr (0, [.ref a1, .ref a2, .int (nI n), .int (nI w)])), (a1, .inl (cI, 40, .inl F)), (a2, .inl (cI, 40, .inl G)), (t, .inr (0, [.ref b1, .ref b2, .int (nI n2), .int (nI w2)])), (b1, .inl (cI, 40, .inl F2)), (b2, .inl (cI, 40, .inl G2)), (ot, .inl (cJ, 1, .inr (.inl B))), (u, .inr (2, [.int e0, .int (nI n), .int (nI w), .ref c1, .ref c2, .ref c3, .ref c4, .int e7, .int e8, .int e9, .int e10])), (c1, .inl (cI, 40, .inl FM)), (c2, .inl (cI, 40, .inl V)), (c3, .inl (cI, 40, .inl O)), (c4, .inl (cI, 40, .inl Y))] H := hP
  have hD : va_D A [(o, .inr (1, [.ref r, .ref t])), (r, .inr (0, [.ref a1, .ref a2, .int (nI n), .int (nI w)])), (a1, .inl (cI, 40, .inl F)), (a2, .inl (cI, 40, .inl G)), (t, .inr (0, [.ref b1, .ref b2, .int (nI n2), .int (nI w2)])), (b1, .inl (cI, 40, .inl F2)), (b2, .inl (cI, 40, .inl G2)), (ot, .inl (cJ, 1, .inr (.inl B))), (u, .inr (2, [.int e0, .int (nI n), .int (nI w), .ref c1, .ref c2, .ref c3, .ref c4, .int e7, .int e8, .int e9, .int e10])), (c1, .inl (cI, 40, .inl FM)), (c2, .inl (cI, 40, .inl V)), (c3, .inl (cI, 40, .inl O)), (c4, .inl (cI, 40, .inl Y))] := hD
  refine lv_aload_n hx hb dL_law_860 rfl (lv_at hl 1 rfl) ?_
  refine pv_i CF (m_X1_farthest l D cI o r t a1 a2 b1 b2 S n2 w2 F2 G2) (cwV 0 hts gL_law_X1_farthest rfl rfl rfl k_X1_farthest ⟨Nat.le_of_ble_eq_true rfl, Nat.le_of_ble_eq_true rfl⟩) hK (hP.sub [0, 1, 2, 3, 4, 5, 6] rfl) rfl rfl rfl rfl hl.1 rfl (Nat.le_of_ble_eq_true rfl) dL_law_861 ⟨by show _ ≤ 638288; omega, by show _ ≤ 7181241; omega⟩ ?_
  refine lv_aload_n hx hb dL_law_864 rfl (lv_at hl 2 rfl) ?_
  have hPc : va_P D vwCl [(u, .inr (2, [.int e0, .int (nI n), .int (nI w), .ref c1, .ref c2, .ref c3, .ref c4, .int e7, .int e8, .int e9, .int e10])), (c1, .inl (cI, 40, .inl FM)), (c2, .inl (cI, 40, .inl V)), (c3, .inl (cI, 40, .inl O)), (c4, .inl (cI, 40, .inl Y))] H := hP.sub [8, 9, 10, 11, 12] rfl
  have hDc : va_D A [(u, .inr (2, [.int e0, .int (nI n), .int (nI w), .ref c1, .ref c2, .ref c3, .ref c4, .int e7, .int e8, .int e9, .int e10])), (c1, .inl (cI, 40, .inl FM)), (c2, .inl (cI, 40, .inl V)), (c3, .inl (cI, 40, .inl O)), (c4, .inl (cI, 40, .inl Y))] := hD.sub [8, 9, 10, 11, 12] (by decide) rfl
  have hFc := va_free (wc := [(u, .inr (2, [.int e0, .int (nI n), .int (nI w), .ref c1, .ref c2, .ref c3, .ref c4, .int e7, .int e8, .int e9, .int e10])), (c1, .inl (cI, 40, .inl FM)), (c2, .inl (cI, 40, .inl V)), (c3, .inl (cI, 40, .inl O)), (c4, .inl (cI, 40, .inl Y))]) hD hS hA [8, 9, 10, 11, 12] rfl
  refine pq_i (va_runV (rest := [.int ((fa n w f).1)]) CF (m_X2_farthest l D cI u c1 c2 c3 c4 M O Y e0 e7 e8 e9 e10 H.size) (cwV 0 hts gL_law_X2_farthest rfl rfl rfl k_X2_farthest ⟨Nat.le_of_ble_eq_true rfl, Nat.le_of_ble_eq_true rfl⟩) (mv_pre hK hPc hDc rfl rfl rfl) rfl rfl hl.1 rfl (lv_room (Nat.le_of_ble_eq_true rfl)) dL_law_865 ⟨by show _ ≤ 638288; omega, by show _ ≤ 7181241; omega⟩) hS hFc (fun r1 H locs hB hk1 hS => ?_)
  obtain ⟨rfl, d7, d8, d9, d10, hP1⟩ := hB
  obtain ⟨hP, hD⟩ := jn (wb := [(o, .inr (1, [.ref r, .ref t])), (r, .inr (0, [.ref a1, .ref a2, .int (nI n), .int (nI w)])), (a1, .inl (cI, 40, .inl F)), (a2, .inl (cI, 40, .inl G)), (t, .inr (0, [.ref b1, .ref b2, .int (nI n2), .int (nI w2)])), (b1, .inl (cI, 40, .inl F2)), (b2, .inl (cI, 40, .inl G2)), (ot, .inl (cJ, 1, .inr (.inl B))), (u, .inr (2, [.int (nI 0), .int (nI n), .int (nI w), .ref c1, .ref c2, .ref c3, .ref c4, .int d7, .int d8, .int d9, .int d10])), (c1, .inl (cI, 40, .inl FM)), (c2, .inl (cI, 40, .inl V)), (c3, .inl (cI, 40, .inl O)), (c4, .inl (cI, 40, .inl Y))]) (w1 := [(u, .inr (2, [.int (nI 0), .int (nI n), .int (nI w), .ref c1, .ref c2, .ref c3, .ref c4, .int d7, .int d8, .int d9, .int d10])), (c1, .inl (cI, 40, .inl FM)), (c2, .inl (cI, 40, .inl V)), (c3, .inl (cI, 40, .inl O)), (c4, .inl (cI, 40, .inl Y))]) hP hD [8, 9, 10, 11, 12] [0, 1, 2, 3, 4, 5, 6, 7] rfl rfl rfl rfl 13 rfl (by decide) (by decide) hk1 hP1
  refine lv_icmp_eq (tgt := 1147) hx hb dL_law_868 (by decide) (fun c868 => ?_) (fun c868 => ?_)
  · skip
    refine w_widen (k := kc + 50) (n := ks + 300) (by omega) (by omega) ?_
    exact hk _ _ _ _ _ _ _ _ _ _ _ _ _ _ _ _ _ _ _ _ _ _ _ _ _ _ _ _ _ _ _ _ _ _ _ _ S M hP hD hS (lv_sub hl [0, 1, 2, 3, 4] rfl)
  · skip
    exact absurd rfl c868
set_option maxHeartbeats 4000000 in
set_option maxRecDepth 100000 in
theorem law_c23 {p : Program} {l : Launch} {e : Env} {s : State} {m : MethodId} {below : List Frame} {meth : Method} {c : Code} {b L : Nat} {xs : Nat → Int32} {D : va_G} {cI cJ : ClassId} {A : Nat → Prop} {Q : State → Prop} (F9 : LF p l s m meth c b L xs D cI cJ A) {i kc ks : Nat} (hi : i + 3 ≤ L) (hkc : kc + 50 ≤ 638288) (hks : ks + 300 ≤ 7181241) (hk : LG p l e s m below meth c b D cI cJ A Q 1147 i (kc + 50) (ks + 300)) : LG p l e s m below meth c b D cI cJ A Q 1023 i kc ks := by
  obtain ⟨CF, hXs, hbl, hbA, hA, hKw, hXS, hZ, hN, hlt, hL⟩ := id F9
  obtain ⟨hx, hb, hml, hown, hts⟩ := id CF
  have hK : va_K D vwCl [(cI, .int)] s := hKw.sub [0] rfl
  intro o r t a1 a2 b1 b2 ot u c1 c2 c3 c4 n w n2 w2 F G f g F2 G2 FM V O Y B e0 e7 e8 e9 e10 H locs ls S M hP hD hS hl
  obtain ⟨hn3, hn, hw2, -, -, -⟩ := id S
  have hP : va_P D vwCl [(o, .inr (1, [.ref r, .ref t])), (r, .inr (0, [.ref a1, .ref a2, .int (nI n), .int (nI w)])), (a1, .inl (cI, 40, .inl F)), (a2, .inl (cI, 40, .inl G)), (t, .inr (0, [.ref b1, .ref b2, .int (nI n2), .int (nI w2)])), (b1, .inl (cI, 40, .inl F2)), (b2, .inl (cI, 40, .inl G2)), (ot, .inl (cJ, 1, .inr (.inl B))), (u, .inr (2, [.int e0, .int (nI n), .int (nI w), .ref c1, .ref c2, .ref c3, .ref c4, .int e7, .int e8, .int e9, .int e10])), (c1, .inl (cI, 40, .inl FM)), (c2, .inl (cI, 40, .inl V)), (c3, .inl (cI, 40, .inl O)), (c4, .inl (cI, 40, .inl Y))] H := hP
  have hD : va_D A [(o, .inr (1, [.ref r, .ref t])), (r, .inr (0, [.ref a1, .ref a2, .int (nI n), .int (nI w)])), (a1, .inl (cI, 40, .inl F)), (a2, .inl (cI, 40, .inl G)), (t, .inr (0, [.ref b1, .ref b2, .int (nI n2), .int (nI w2)])), (b1, .inl (cI, 40, .inl F2)), (b2, .inl (cI, 40, .inl G2)), (ot, .inl (cJ, 1, .inr (.inl B))), (u, .inr (2, [.int e0, .int (nI n), .int (nI w), .ref c1, .ref c2, .ref c3, .ref c4, .int e7, .int e8, .int e9, .int e10])), (c1, .inl (cI, 40, .inl FM)), (c2, .inl (cI, 40, .inl V)), (c3, .inl (cI, 40, .inl O)), (c4, .inl (cI, 40, .inl Y))] := hD
  refine lv_aload_n hx hb dL_law_1023 rfl (lv_at hl 1 rfl) ?_
  have hPc : va_P D vwCl [(o, .inr (1, [.ref r, .ref t])), (r, .inr (0, [.ref a1, .ref a2, .int (nI n), .int (nI w)])), (a1, .inl (cI, 40, .inl F)), (a2, .inl (cI, 40, .inl G)), (t, .inr (0, [.ref b1, .ref b2, .int (nI n2), .int (nI w2)])), (b1, .inl (cI, 40, .inl F2)), (b2, .inl (cI, 40, .inl G2))] H := hP.sub [0, 1, 2, 3, 4, 5, 6] rfl
  have hDc : va_D A [(o, .inr (1, [.ref r, .ref t])), (r, .inr (0, [.ref a1, .ref a2, .int (nI n), .int (nI w)])), (a1, .inl (cI, 40, .inl F)), (a2, .inl (cI, 40, .inl G)), (t, .inr (0, [.ref b1, .ref b2, .int (nI n2), .int (nI w2)])), (b1, .inl (cI, 40, .inl F2)), (b2, .inl (cI, 40, .inl G2))] := hD.sub [0, 1, 2, 3, 4, 5, 6] (by decide) rfl
  have hFc := va_free (wc := [(o, .inr (1, [.ref r, .ref t])), (r, .inr (0, [.ref a1, .ref a2, .int (nI n), .int (nI w)])), (a1, .inl (cI, 40, .inl F)), (a2, .inl (cI, 40, .inl G)), (t, .inr (0, [.ref b1, .ref b2, .int (nI n2), .int (nI w2)])), (b1, .inl (cI, 40, .inl F2)), (b2, .inl (cI, 40, .inl G2))]) hD hS hA [0, 1, 2, 3, 4, 5, 6] rfl
  refine pq_i (va_runV (rest := []) CF (m_X1_bestWay l D cI o r t a1 a2 b1 b2 S n2 w2 F2 G2 H.size) (cwV 0 hts gL_law_X1_bestWay rfl rfl rfl k_X1_bestWay ⟨Nat.le_of_ble_eq_true rfl, Nat.le_of_ble_eq_true rfl⟩) (mv_pre hK hPc hDc rfl rfl rfl) rfl rfl hl.1 rfl (lv_room (Nat.le_of_ble_eq_true rfl)) dL_law_1024 ⟨by show _ ≤ 638288; omega, by show _ ≤ 7181241; omega⟩) hS hFc (fun r1 H locs hB hk1 hS => ?_)
  obtain ⟨rfl, n3, w3, F3, G3, hP1⟩ := hB
  obtain ⟨hP, hD⟩ := jn (wb := [(o, .inr (1, [.ref r, .ref t])), (r, .inr (0, [.ref a1, .ref a2, .int (nI n), .int (nI w)])), (a1, .inl (cI, 40, .inl F)), (a2, .inl (cI, 40, .inl G)), (t, .inr (0, [.ref b1, .ref b2, .int (nI n3), .int (nI w3)])), (b1, .inl (cI, 40, .inl F3)), (b2, .inl (cI, 40, .inl G3)), (ot, .inl (cJ, 1, .inr (.inl B))), (u, .inr (2, [.int e0, .int (nI n), .int (nI w), .ref c1, .ref c2, .ref c3, .ref c4, .int e7, .int e8, .int e9, .int e10])), (c1, .inl (cI, 40, .inl FM)), (c2, .inl (cI, 40, .inl V)), (c3, .inl (cI, 40, .inl O)), (c4, .inl (cI, 40, .inl Y))]) (w1 := [(o, .inr (1, [.ref r, .ref t])), (r, .inr (0, [.ref a1, .ref a2, .int (nI n), .int (nI w)])), (a1, .inl (cI, 40, .inl F)), (a2, .inl (cI, 40, .inl G)), (t, .inr (0, [.ref b1, .ref b2, .int (nI n3), .int (nI w3)])), (b1, .inl (cI, 40, .inl F3)), (b2, .inl (cI, 40, .inl G3))]) hP hD [0, 1, 2, 3, 4, 5, 6] [7, 8, 9, 10, 11, 12] rfl rfl rfl rfl 13 rfl (by decide) (by decide) hk1 hP1
  refine lv_aload_n hx hb dL_law_1027 rfl (lv_at hl 2 rfl) ?_
  have hPc : va_P D vwCl [(u, .inr (2, [.int e0, .int (nI n), .int (nI w), .ref c1, .ref c2, .ref c3, .ref c4, .int e7, .int e8, .int e9, .int e10])), (c1, .inl (cI, 40, .inl FM)), (c2, .inl (cI, 40, .inl V)), (c3, .inl (cI, 40, .inl O)), (c4, .inl (cI, 40, .inl Y))] H := hP.sub [8, 9, 10, 11, 12] rfl
  have hDc : va_D A [(u, .inr (2, [.int e0, .int (nI n), .int (nI w), .ref c1, .ref c2, .ref c3, .ref c4, .int e7, .int e8, .int e9, .int e10])), (c1, .inl (cI, 40, .inl FM)), (c2, .inl (cI, 40, .inl V)), (c3, .inl (cI, 40, .inl O)), (c4, .inl (cI, 40, .inl Y))] := hD.sub [8, 9, 10, 11, 12] (by decide) rfl
  have hFc := va_free (wc := [(u, .inr (2, [.int e0, .int (nI n), .int (nI w), .ref c1, .ref c2, .ref c3, .ref c4, .int e7, .int e8, .int e9, .int e10])), (c1, .inl (cI, 40, .inl FM)), (c2, .inl (cI, 40, .inl V)), (c3, .inl (cI, 40, .inl O)), (c4, .inl (cI, 40, .inl Y))]) hD hS hA [8, 9, 10, 11, 12] rfl
  refine pq_i (va_runV (rest := [.int ((bst n f g).1)]) CF (m_X2_bestWay l D cI u c1 c2 c3 c4 M O Y e0 e7 e8 e9 e10 H.size) (cwV 0 hts gL_law_X2_bestWay rfl rfl rfl k_X2_bestWay ⟨Nat.le_of_ble_eq_true rfl, Nat.le_of_ble_eq_true rfl⟩) (mv_pre hK hPc hDc rfl rfl rfl) rfl rfl hl.1 rfl (lv_room (Nat.le_of_ble_eq_true rfl)) dL_law_1028 ⟨by show _ ≤ 638288; omega, by show _ ≤ 7181241; omega⟩) hS hFc (fun r2 H locs hB hk1 hS => ?_)
  obtain ⟨rfl, O3, Y3, d7, d8, d9, d10, hP1⟩ := hB
  obtain ⟨hP, hD⟩ := jn (wb := [(o, .inr (1, [.ref r, .ref t])), (r, .inr (0, [.ref a1, .ref a2, .int (nI n), .int (nI w)])), (a1, .inl (cI, 40, .inl F)), (a2, .inl (cI, 40, .inl G)), (t, .inr (0, [.ref b1, .ref b2, .int (nI n3), .int (nI w3)])), (b1, .inl (cI, 40, .inl F3)), (b2, .inl (cI, 40, .inl G3)), (ot, .inl (cJ, 1, .inr (.inl B))), (u, .inr (2, [.int (nI 0), .int (nI n), .int (nI w), .ref c1, .ref c2, .ref c3, .ref c4, .int d7, .int d8, .int d9, .int d10])), (c1, .inl (cI, 40, .inl FM)), (c2, .inl (cI, 40, .inl V)), (c3, .inl (cI, 40, .inl O3)), (c4, .inl (cI, 40, .inl Y3))]) (w1 := [(u, .inr (2, [.int (nI 0), .int (nI n), .int (nI w), .ref c1, .ref c2, .ref c3, .ref c4, .int d7, .int d8, .int d9, .int d10])), (c1, .inl (cI, 40, .inl FM)), (c2, .inl (cI, 40, .inl V)), (c3, .inl (cI, 40, .inl O3)), (c4, .inl (cI, 40, .inl Y3))]) hP hD [8, 9, 10, 11, 12] [0, 1, 2, 3, 4, 5, 6, 7] rfl rfl rfl rfl 13 rfl (by decide) (by decide) hk1 hP1
  refine lv_icmp_eq (tgt := 1147) hx hb dL_law_1031 (by decide) (fun c1031 => ?_) (fun c1031 => ?_)
  · skip
    refine w_widen (k := kc + 50) (n := ks + 300) (by omega) (by omega) ?_
    exact hk _ _ _ _ _ _ _ _ _ _ _ _ _ _ _ _ _ _ _ _ _ _ _ _ _ _ _ _ _ _ _ _ _ _ _ _ S M hP hD hS (lv_sub hl [0, 1, 2, 3, 4] rfl)
  · skip
    exact absurd rfl c1031
set_option maxHeartbeats 4000000 in
set_option maxRecDepth 100000 in
theorem law_c8 {p : Program} {l : Launch} {e : Env} {s : State} {m : MethodId} {below : List Frame} {meth : Method} {c : Code} {b L : Nat} {xs : Nat → Int32} {D : va_G} {cI cJ : ClassId} {A : Nat → Prop} {Q : State → Prop} (F9 : LF p l s m meth c b L xs D cI cJ A) {i kc ks : Nat} (hi : i + 3 ≤ L) (hkc : kc + 50 ≤ 638288) (hks : ks + 300 ≤ 7181241) (hk : LG p l e s m below meth c b D cI cJ A Q 1147 i (kc + 50) (ks + 300)) : LG p l e s m below meth c b D cI cJ A Q 417 i kc ks := by
  obtain ⟨CF, hXs, hbl, hbA, hA, hKw, hXS, hZ, hN, hlt, hL⟩ := id F9
  obtain ⟨hx, hb, hml, hown, hts⟩ := id CF
  have hK : va_K D vwCl [(cI, .int)] s := hKw.sub [0] rfl
  intro o r t a1 a2 b1 b2 ot u c1 c2 c3 c4 n w n2 w2 F G f g F2 G2 FM V O Y B e0 e7 e8 e9 e10 H locs ls S M hP hD hS hl
  obtain ⟨hn3, hn, hw2, -, -, -⟩ := id S
  have hP : va_P D vwCl [(o, .inr (1, [.ref r, .ref t])), (r, .inr (0, [.ref a1, .ref a2, .int (nI n), .int (nI w)])), (a1, .inl (cI, 40, .inl F)), (a2, .inl (cI, 40, .inl G)), (t, .inr (0, [.ref b1, .ref b2, .int (nI n2), .int (nI w2)])), (b1, .inl (cI, 40, .inl F2)), (b2, .inl (cI, 40, .inl G2)), (ot, .inl (cJ, 1, .inr (.inl B))), (u, .inr (2, [.int e0, .int (nI n), .int (nI w), .ref c1, .ref c2, .ref c3, .ref c4, .int e7, .int e8, .int e9, .int e10])), (c1, .inl (cI, 40, .inl FM)), (c2, .inl (cI, 40, .inl V)), (c3, .inl (cI, 40, .inl O)), (c4, .inl (cI, 40, .inl Y))] H := hP
  have hD : va_D A [(o, .inr (1, [.ref r, .ref t])), (r, .inr (0, [.ref a1, .ref a2, .int (nI n), .int (nI w)])), (a1, .inl (cI, 40, .inl F)), (a2, .inl (cI, 40, .inl G)), (t, .inr (0, [.ref b1, .ref b2, .int (nI n2), .int (nI w2)])), (b1, .inl (cI, 40, .inl F2)), (b2, .inl (cI, 40, .inl G2)), (ot, .inl (cJ, 1, .inr (.inl B))), (u, .inr (2, [.int e0, .int (nI n), .int (nI w), .ref c1, .ref c2, .ref c3, .ref c4, .int e7, .int e8, .int e9, .int e10])), (c1, .inl (cI, 40, .inl FM)), (c2, .inl (cI, 40, .inl V)), (c3, .inl (cI, 40, .inl O)), (c4, .inl (cI, 40, .inl Y))] := hD
  refine lv_aload_n hx hb dL_law_417 rfl (lv_at hl 1 rfl) ?_
  refine lv_aload_n hx hb dL_law_418 rfl (lv_at hl 0 rfl) ?_
  refine lv_iload hx hb dL_law_419 (lv_at hl 4 rfl) ?_
  refine lv_iconst (v := nI 1) hx hb dL_law_421 (by decide) ?_
  refine an_add hx hb dL_law_422 ?_
  refine va_sld hx hb hXs hbl hbA hS (vp_in_nI (by omega) (by omega)) dL_law_423 ?_
  refine tp_i (y := xs (i + 1)) (congrArg xs (nI_clamp (by omega))) ?_
  refine lv_aload_n hx hb dL_law_424 rfl (lv_at hl 3 rfl) ?_
  have hPc : va_P D vwCl [(o, .inr (1, [.ref r, .ref t])), (r, .inr (0, [.ref a1, .ref a2, .int (nI n), .int (nI w)])), (a1, .inl (cI, 40, .inl F)), (a2, .inl (cI, 40, .inl G)), (t, .inr (0, [.ref b1, .ref b2, .int (nI n2), .int (nI w2)])), (b1, .inl (cI, 40, .inl F2)), (b2, .inl (cI, 40, .inl G2)), (ot, .inl (cJ, 1, .inr (.inl B)))] H := hP.sub [0, 1, 2, 3, 4, 5, 6, 7] rfl
  have hDc : va_D A [(o, .inr (1, [.ref r, .ref t])), (r, .inr (0, [.ref a1, .ref a2, .int (nI n), .int (nI w)])), (a1, .inl (cI, 40, .inl F)), (a2, .inl (cI, 40, .inl G)), (t, .inr (0, [.ref b1, .ref b2, .int (nI n2), .int (nI w2)])), (b1, .inl (cI, 40, .inl F2)), (b2, .inl (cI, 40, .inl G2)), (ot, .inl (cJ, 1, .inr (.inl B)))] := hD.sub [0, 1, 2, 3, 4, 5, 6, 7] (by decide) rfl
  have hFc := va_free (wc := [(o, .inr (1, [.ref r, .ref t])), (r, .inr (0, [.ref a1, .ref a2, .int (nI n), .int (nI w)])), (a1, .inl (cI, 40, .inl F)), (a2, .inl (cI, 40, .inl G)), (t, .inr (0, [.ref b1, .ref b2, .int (nI n2), .int (nI w2)])), (b1, .inl (cI, 40, .inl F2)), (b2, .inl (cI, 40, .inl G2)), (ot, .inl (cJ, 1, .inr (.inl B)))]) hD hS hA [0, 1, 2, 3, 4, 5, 6, 7] rfl
  refine pq_i (vx_runSW (rest := []) CF (m_L_stateOf l hlt D cI cJ o r t a1 a2 b1 b2 ot S n2 w2 F2 G2 B (xs (i + 1)) H.size) (vx_cwSW 3 hts gL_law_L_stateOf rfl rfl rfl k_L_stateOf.2 ⟨Nat.le_of_ble_eq_true rfl, Nat.le_of_ble_eq_true rfl⟩) (pl_pre hKw hPc hDc hXS (hZ.kept hS.2.1) hFc hN) rfl rfl hl.1 rfl (lv_room (Nat.le_of_ble_eq_true rfl)) dL_law_425 ⟨by show _ ≤ 638288; omega, by show _ ≤ 7181241; omega⟩) hS hFc (fun r1 H locs hB hk1 hS => ?_)
  obtain ⟨B1, ra, hQ1, hBv, hP1⟩ := hB
  obtain ⟨hP, hD⟩ := jn (wb := [(o, .inr (1, [.ref r, .ref t])), (r, .inr (0, [.ref a1, .ref a2, .int (nI n), .int (nI w)])), (a1, .inl (cI, 40, .inl F)), (a2, .inl (cI, 40, .inl G)), (t, .inr (0, [.ref b1, .ref b2, .int (nI n2), .int (nI w2)])), (b1, .inl (cI, 40, .inl F2)), (b2, .inl (cI, 40, .inl G2)), (ot, .inl (cJ, 1, .inr (.inl B1))), (u, .inr (2, [.int e0, .int (nI n), .int (nI w), .ref c1, .ref c2, .ref c3, .ref c4, .int e7, .int e8, .int e9, .int e10])), (c1, .inl (cI, 40, .inl FM)), (c2, .inl (cI, 40, .inl V)), (c3, .inl (cI, 40, .inl O)), (c4, .inl (cI, 40, .inl Y))]) (w1 := [(o, .inr (1, [.ref r, .ref t])), (r, .inr (0, [.ref a1, .ref a2, .int (nI n), .int (nI w)])), (a1, .inl (cI, 40, .inl F)), (a2, .inl (cI, 40, .inl G)), (t, .inr (0, [.ref b1, .ref b2, .int (nI n2), .int (nI w2)])), (b1, .inl (cI, 40, .inl F2)), (b2, .inl (cI, 40, .inl G2)), (ot, .inl (cJ, 1, .inr (.inl B1)))]) hP hD [0, 1, 2, 3, 4, 5, 6, 7] [8, 9, 10, 11, 12] rfl rfl rfl rfl 13 rfl (by decide) (by decide) hk1 hP1
  refine lv_istore (lv' := [(5, .int r1), (0, .ref b), (1, .ref o), (2, .ref u), (3, .ref ot), (4, .int (nI i))]) hx hb dL_law_428 hl (by decide) rfl (fun ls hl => ?_)
  refine lv_aload_n hx hb dL_law_430 rfl (lv_at hl 3 rfl) ?_
  refine lv_aload_n hx hb dL_law_431 rfl (lv_at hl 1 rfl) ?_
  refine lv_iload hx hb dL_law_432 (lv_at hl 5 rfl) ?_
  refine lv_iconst (v := nI 1) hx hb dL_law_434 (by decide) ?_
  refine an_add hx hb dL_law_435 ?_
  refine va_sld hx hb hXs hbl hbA hS (vp_in_nI (by omega) (by omega)) dL_law_436 ?_
  refine tp_i (y := xs (i + 1)) (congrArg xs (nI_clamp (by omega))) ?_
  have hPc : va_P D vwCl [(u, .inr (2, [.int e0, .int (nI n), .int (nI w), .ref c1, .ref c2, .ref c3, .ref c4, .int e7, .int e8, .int e9, .int e10])), (c1, .inl (cI, 40, .inl FM)), (c2, .inl (cI, 40, .inl V)), (c3, .inl (cI, 40, .inl O)), (c4, .inl (cI, 40, .inl Y))] H := hP.sub [8, 9, 10, 11, 12] rfl
  have hDc : va_D A [(u, .inr (2, [.int e0, .int (nI n), .int (nI w), .ref c1, .ref c2, .ref c3, .ref c4, .int e7, .int e8, .int e9, .int e10])), (c1, .inl (cI, 40, .inl FM)), (c2, .inl (cI, 40, .inl V)), (c3, .inl (cI, 40, .inl O)), (c4, .inl (cI, 40, .inl Y))] := hD.sub [8, 9, 10, 11, 12] (by decide) rfl
  have hFc := va_free (wc := [(u, .inr (2, [.int e0, .int (nI n), .int (nI w), .ref c1, .ref c2, .ref c3, .ref c4, .int e7, .int e8, .int e9, .int e10])), (c1, .inl (cI, 40, .inl FM)), (c2, .inl (cI, 40, .inl V)), (c3, .inl (cI, 40, .inl O)), (c4, .inl (cI, 40, .inl Y))]) hD hS hA [8, 9, 10, 11, 12] rfl
  refine pq_i (va_runV (rest := []) CF (m_X2_stateOf l D cI u c1 c2 c3 c4 M O Y e0 e7 e8 e9 e10 (xs (i + 1)) H.size) (cwV 1 hts gL_law_X2_stateOf rfl rfl rfl k_X2_stateOf ⟨Nat.le_of_ble_eq_true rfl, Nat.le_of_ble_eq_true rfl⟩) (mv_pre hK hPc hDc rfl rfl rfl) rfl rfl hl.1 rfl (lv_room (Nat.le_of_ble_eq_true rfl)) dL_law_437 ⟨by show _ ≤ 638288; omega, by show _ ≤ 7181241; omega⟩) hS hFc (fun r2 H locs hB hk1 hS => ?_)
  obtain ⟨c9, hQ2, hP1⟩ := hB
  obtain ⟨hP, hD⟩ := jn (wb := [(o, .inr (1, [.ref r, .ref t])), (r, .inr (0, [.ref a1, .ref a2, .int (nI n), .int (nI w)])), (a1, .inl (cI, 40, .inl F)), (a2, .inl (cI, 40, .inl G)), (t, .inr (0, [.ref b1, .ref b2, .int (nI n2), .int (nI w2)])), (b1, .inl (cI, 40, .inl F2)), (b2, .inl (cI, 40, .inl G2)), (ot, .inl (cJ, 1, .inr (.inl B1))), (u, .inr (2, [.int c9, .int (nI n), .int (nI w), .ref c1, .ref c2, .ref c3, .ref c4, .int e7, .int e8, .int e9, .int e10])), (c1, .inl (cI, 40, .inl FM)), (c2, .inl (cI, 40, .inl V)), (c3, .inl (cI, 40, .inl O)), (c4, .inl (cI, 40, .inl Y))]) (w1 := [(u, .inr (2, [.int c9, .int (nI n), .int (nI w), .ref c1, .ref c2, .ref c3, .ref c4, .int e7, .int e8, .int e9, .int e10])), (c1, .inl (cI, 40, .inl FM)), (c2, .inl (cI, 40, .inl V)), (c3, .inl (cI, 40, .inl O)), (c4, .inl (cI, 40, .inl Y))]) hP hD [8, 9, 10, 11, 12] [0, 1, 2, 3, 4, 5, 6, 7] rfl rfl rfl rfl 13 rfl (by decide) (by decide) hk1 hP1
  obtain ⟨hcc, hrr⟩ := Q1.rk hn hQ1 hQ2
  refine lv_istore (lv' := [(6, .int r2), (5, .int r1), (0, .ref b), (1, .ref o), (2, .ref u), (3, .ref ot), (4, .int (nI i))]) hx hb dL_law_440 hl (by decide) rfl (fun ls hl => ?_)
  refine lv_aload_n hx hb dL_law_442 rfl (lv_at hl 4 rfl) ?_
  refine pv_i CF (m_X2_thrown l D cI u c1 c2 c3 c4 M O Y c9 e7 e8 e9 e10) (cwV 0 hts gL_law_X2_thrown rfl rfl rfl k_X2_thrown ⟨Nat.le_of_ble_eq_true rfl, Nat.le_of_ble_eq_true rfl⟩) hK (hP.sub [8, 9, 10, 11, 12] rfl) rfl rfl rfl rfl hl.1 rfl (Nat.le_of_ble_eq_true rfl) dL_law_443 ⟨by show _ ≤ 638288; omega, by show _ ≤ 7181241; omega⟩ ?_
  refine lv_iload hx hb dL_law_446 (lv_at hl 1 rfl) ?_
  refine lv_icmp_eq (tgt := 453) hx hb dL_law_448 (by decide) (fun c448 => ?_) (fun c448 => ?_)
  · skip
    refine lv_iload hx hb dL_law_453 (lv_at hl 1 rfl) ?_
    refine lv_if_ne (tgt := 470) hx hb dL_law_455 (by decide) (fun c455 => ?_) (fun c455 => ?_)
    · skip
      refine lv_goto (tgt := 1147) hx hb dL_law_470 (by decide) ?_
      refine w_widen (k := kc + 50) (n := ks + 300) (by omega) (by omega) ?_
      exact hk _ _ _ _ _ _ _ _ _ _ _ _ _ _ _ _ _ _ _ _ _ _ _ _ _ _ _ _ _ _ _ _ _ _ _ _ S M hP hD hS (lv_sub hl [2, 3, 4, 5, 6] rfl)
    · skip
      refine lv_aload_n hx hb dL_law_458 rfl (lv_at hl 5 rfl) ?_
      refine lv_iconst (v := nI 0) hx hb dL_law_459 (by decide) ?_
      refine va_lald hx hb hKw hP 7 1 rfl rfl (vp_in_nI (by decide) (by decide)) dL_law_460 ?_
      refine tp_l (y := ra.toInt64) (by rw [nI_clamp (by decide)]; exact hBv (c455.trans (by decide))) ?_
      refine lv_iload hx hb dL_law_461 (lv_at hl 0 rfl) ?_
      refine lv_i2l hx hb dL_law_463 rfl ?_
      refine lw_lcmp hx hb (congrArg Int32.toInt64 (hrr (c455.trans (by decide)))) dL_law_464 ?_
      refine lv_if_eq (tgt := 470) hx hb dL_law_465 (by decide) (fun c465 => ?_) (fun c465 => ?_)
      · skip
        refine lv_goto (tgt := 1147) hx hb dL_law_470 (by decide) ?_
        refine w_widen (k := kc + 50) (n := ks + 300) (by omega) (by omega) ?_
        exact hk _ _ _ _ _ _ _ _ _ _ _ _ _ _ _ _ _ _ _ _ _ _ _ _ _ _ _ _ _ _ _ _ _ _ _ _ S M hP hD hS (lv_sub hl [2, 3, 4, 5, 6] rfl)
      · skip
        exact absurd rfl c465
  · skip
    exact absurd hcc.symm c448
set_option maxHeartbeats 4000000 in
set_option maxRecDepth 100000 in
theorem law_c9 {p : Program} {l : Launch} {e : Env} {s : State} {m : MethodId} {below : List Frame} {meth : Method} {c : Code} {b L : Nat} {xs : Nat → Int32} {D : va_G} {cI cJ : ClassId} {A : Nat → Prop} {Q : State → Prop} (F9 : LF p l s m meth c b L xs D cI cJ A) {i kc ks : Nat} (hi : i + 3 ≤ L) (hkc : kc + 50 ≤ 638288) (hks : ks + 300 ≤ 7181241) (hk : LG p l e s m below meth c b D cI cJ A Q 1147 i (kc + 50) (ks + 300)) : LG p l e s m below meth c b D cI cJ A Q 473 i kc ks := by
  obtain ⟨CF, hXs, hbl, hbA, hA, hKw, hXS, hZ, hN, hlt, hL⟩ := id F9
  obtain ⟨hx, hb, hml, hown, hts⟩ := id CF
  have hK : va_K D vwCl [(cI, .int)] s := hKw.sub [0] rfl
  intro o r t a1 a2 b1 b2 ot u c1 c2 c3 c4 n w n2 w2 F G f g F2 G2 FM V O Y B e0 e7 e8 e9 e10 H locs ls S M hP hD hS hl
  obtain ⟨hn3, hn, hw2, -, -, -⟩ := id S
  have hP : va_P D vwCl [(o, .inr (1, [.ref r, .ref t])), (r, .inr (0, [.ref a1, .ref a2, .int (nI n), .int (nI w)])), (a1, .inl (cI, 40, .inl F)), (a2, .inl (cI, 40, .inl G)), (t, .inr (0, [.ref b1, .ref b2, .int (nI n2), .int (nI w2)])), (b1, .inl (cI, 40, .inl F2)), (b2, .inl (cI, 40, .inl G2)), (ot, .inl (cJ, 1, .inr (.inl B))), (u, .inr (2, [.int e0, .int (nI n), .int (nI w), .ref c1, .ref c2, .ref c3, .ref c4, .int e7, .int e8, .int e9, .int e10])), (c1, .inl (cI, 40, .inl FM)), (c2, .inl (cI, 40, .inl V)), (c3, .inl (cI, 40, .inl O)), (c4, .inl (cI, 40, .inl Y))] H := hP
  have hD : va_D A [(o, .inr (1, [.ref r, .ref t])), (r, .inr (0, [.ref a1, .ref a2, .int (nI n), .int (nI w)])), (a1, .inl (cI, 40, .inl F)), (a2, .inl (cI, 40, .inl G)), (t, .inr (0, [.ref b1, .ref b2, .int (nI n2), .int (nI w2)])), (b1, .inl (cI, 40, .inl F2)), (b2, .inl (cI, 40, .inl G2)), (ot, .inl (cJ, 1, .inr (.inl B))), (u, .inr (2, [.int e0, .int (nI n), .int (nI w), .ref c1, .ref c2, .ref c3, .ref c4, .int e7, .int e8, .int e9, .int e10])), (c1, .inl (cI, 40, .inl FM)), (c2, .inl (cI, 40, .inl V)), (c3, .inl (cI, 40, .inl O)), (c4, .inl (cI, 40, .inl Y))] := hD
  refine lv_aload_n hx hb dL_law_473 rfl (lv_at hl 1 rfl) ?_
  refine lv_aload_n hx hb dL_law_474 rfl (lv_at hl 0 rfl) ?_
  refine lv_iload hx hb dL_law_475 (lv_at hl 4 rfl) ?_
  refine lv_iconst (v := nI 1) hx hb dL_law_477 (by decide) ?_
  refine an_add hx hb dL_law_478 ?_
  refine va_sld hx hb hXs hbl hbA hS (vp_in_nI (by omega) (by omega)) dL_law_479 ?_
  refine tp_i (y := xs (i + 1)) (congrArg xs (nI_clamp (by omega))) ?_
  refine lv_aload_n hx hb dL_law_480 rfl (lv_at hl 3 rfl) ?_
  have hPc : va_P D vwCl [(o, .inr (1, [.ref r, .ref t])), (r, .inr (0, [.ref a1, .ref a2, .int (nI n), .int (nI w)])), (a1, .inl (cI, 40, .inl F)), (a2, .inl (cI, 40, .inl G)), (t, .inr (0, [.ref b1, .ref b2, .int (nI n2), .int (nI w2)])), (b1, .inl (cI, 40, .inl F2)), (b2, .inl (cI, 40, .inl G2)), (ot, .inl (cJ, 1, .inr (.inl B)))] H := hP.sub [0, 1, 2, 3, 4, 5, 6, 7] rfl
  have hDc : va_D A [(o, .inr (1, [.ref r, .ref t])), (r, .inr (0, [.ref a1, .ref a2, .int (nI n), .int (nI w)])), (a1, .inl (cI, 40, .inl F)), (a2, .inl (cI, 40, .inl G)), (t, .inr (0, [.ref b1, .ref b2, .int (nI n2), .int (nI w2)])), (b1, .inl (cI, 40, .inl F2)), (b2, .inl (cI, 40, .inl G2)), (ot, .inl (cJ, 1, .inr (.inl B)))] := hD.sub [0, 1, 2, 3, 4, 5, 6, 7] (by decide) rfl
  have hFc := va_free (wc := [(o, .inr (1, [.ref r, .ref t])), (r, .inr (0, [.ref a1, .ref a2, .int (nI n), .int (nI w)])), (a1, .inl (cI, 40, .inl F)), (a2, .inl (cI, 40, .inl G)), (t, .inr (0, [.ref b1, .ref b2, .int (nI n2), .int (nI w2)])), (b1, .inl (cI, 40, .inl F2)), (b2, .inl (cI, 40, .inl G2)), (ot, .inl (cJ, 1, .inr (.inl B)))]) hD hS hA [0, 1, 2, 3, 4, 5, 6, 7] rfl
  refine pq_i (vx_runSW (rest := []) CF (m_L_coatAt l hlt D cI cJ o r t a1 a2 b1 b2 ot S n2 w2 F2 G2 B (xs (i + 1)) H.size) (vx_cwSW 3 hts gL_law_L_coatAt rfl rfl rfl k_L_coatAt.2 ⟨Nat.le_of_ble_eq_true rfl, Nat.le_of_ble_eq_true rfl⟩) (pl_pre hKw hPc hDc hXS (hZ.kept hS.2.1) hFc hN) rfl rfl hl.1 rfl (lv_room (Nat.le_of_ble_eq_true rfl)) dL_law_481 ⟨by show _ ≤ 638288; omega, by show _ ≤ 7181241; omega⟩) hS hFc (fun r1 H locs hB hk1 hS => ?_)
  obtain ⟨B1, ra, hQ1, hBv, hP1⟩ := hB
  obtain ⟨hP, hD⟩ := jn (wb := [(o, .inr (1, [.ref r, .ref t])), (r, .inr (0, [.ref a1, .ref a2, .int (nI n), .int (nI w)])), (a1, .inl (cI, 40, .inl F)), (a2, .inl (cI, 40, .inl G)), (t, .inr (0, [.ref b1, .ref b2, .int (nI n2), .int (nI w2)])), (b1, .inl (cI, 40, .inl F2)), (b2, .inl (cI, 40, .inl G2)), (ot, .inl (cJ, 1, .inr (.inl B1))), (u, .inr (2, [.int e0, .int (nI n), .int (nI w), .ref c1, .ref c2, .ref c3, .ref c4, .int e7, .int e8, .int e9, .int e10])), (c1, .inl (cI, 40, .inl FM)), (c2, .inl (cI, 40, .inl V)), (c3, .inl (cI, 40, .inl O)), (c4, .inl (cI, 40, .inl Y))]) (w1 := [(o, .inr (1, [.ref r, .ref t])), (r, .inr (0, [.ref a1, .ref a2, .int (nI n), .int (nI w)])), (a1, .inl (cI, 40, .inl F)), (a2, .inl (cI, 40, .inl G)), (t, .inr (0, [.ref b1, .ref b2, .int (nI n2), .int (nI w2)])), (b1, .inl (cI, 40, .inl F2)), (b2, .inl (cI, 40, .inl G2)), (ot, .inl (cJ, 1, .inr (.inl B1)))]) hP hD [0, 1, 2, 3, 4, 5, 6, 7] [8, 9, 10, 11, 12] rfl rfl rfl rfl 13 rfl (by decide) (by decide) hk1 hP1
  refine lv_istore (lv' := [(5, .int r1), (0, .ref b), (1, .ref o), (2, .ref u), (3, .ref ot), (4, .int (nI i))]) hx hb dL_law_484 hl (by decide) rfl (fun ls hl => ?_)
  refine lv_aload_n hx hb dL_law_486 rfl (lv_at hl 3 rfl) ?_
  refine lv_aload_n hx hb dL_law_487 rfl (lv_at hl 1 rfl) ?_
  refine lv_iload hx hb dL_law_488 (lv_at hl 5 rfl) ?_
  refine lv_iconst (v := nI 1) hx hb dL_law_490 (by decide) ?_
  refine an_add hx hb dL_law_491 ?_
  refine va_sld hx hb hXs hbl hbA hS (vp_in_nI (by omega) (by omega)) dL_law_492 ?_
  refine tp_i (y := xs (i + 1)) (congrArg xs (nI_clamp (by omega))) ?_
  have hPc : va_P D vwCl [(u, .inr (2, [.int e0, .int (nI n), .int (nI w), .ref c1, .ref c2, .ref c3, .ref c4, .int e7, .int e8, .int e9, .int e10])), (c1, .inl (cI, 40, .inl FM)), (c2, .inl (cI, 40, .inl V)), (c3, .inl (cI, 40, .inl O)), (c4, .inl (cI, 40, .inl Y))] H := hP.sub [8, 9, 10, 11, 12] rfl
  have hDc : va_D A [(u, .inr (2, [.int e0, .int (nI n), .int (nI w), .ref c1, .ref c2, .ref c3, .ref c4, .int e7, .int e8, .int e9, .int e10])), (c1, .inl (cI, 40, .inl FM)), (c2, .inl (cI, 40, .inl V)), (c3, .inl (cI, 40, .inl O)), (c4, .inl (cI, 40, .inl Y))] := hD.sub [8, 9, 10, 11, 12] (by decide) rfl
  have hFc := va_free (wc := [(u, .inr (2, [.int e0, .int (nI n), .int (nI w), .ref c1, .ref c2, .ref c3, .ref c4, .int e7, .int e8, .int e9, .int e10])), (c1, .inl (cI, 40, .inl FM)), (c2, .inl (cI, 40, .inl V)), (c3, .inl (cI, 40, .inl O)), (c4, .inl (cI, 40, .inl Y))]) hD hS hA [8, 9, 10, 11, 12] rfl
  refine pq_i (va_runV (rest := []) CF (m_X2_coatAt l D cI u c1 c2 c3 c4 M O Y e0 e7 e8 e9 e10 (xs (i + 1)) H.size) (cwV 1 hts gL_law_X2_coatAt rfl rfl rfl k_X2_coatAt ⟨Nat.le_of_ble_eq_true rfl, Nat.le_of_ble_eq_true rfl⟩) (mv_pre hK hPc hDc rfl rfl rfl) rfl rfl hl.1 rfl (lv_room (Nat.le_of_ble_eq_true rfl)) dL_law_493 ⟨by show _ ≤ 638288; omega, by show _ ≤ 7181241; omega⟩) hS hFc (fun r2 H locs hB hk1 hS => ?_)
  obtain ⟨c9, hQ2, hP1⟩ := hB
  obtain ⟨hP, hD⟩ := jn (wb := [(o, .inr (1, [.ref r, .ref t])), (r, .inr (0, [.ref a1, .ref a2, .int (nI n), .int (nI w)])), (a1, .inl (cI, 40, .inl F)), (a2, .inl (cI, 40, .inl G)), (t, .inr (0, [.ref b1, .ref b2, .int (nI n2), .int (nI w2)])), (b1, .inl (cI, 40, .inl F2)), (b2, .inl (cI, 40, .inl G2)), (ot, .inl (cJ, 1, .inr (.inl B1))), (u, .inr (2, [.int c9, .int (nI n), .int (nI w), .ref c1, .ref c2, .ref c3, .ref c4, .int e7, .int e8, .int e9, .int e10])), (c1, .inl (cI, 40, .inl FM)), (c2, .inl (cI, 40, .inl V)), (c3, .inl (cI, 40, .inl O)), (c4, .inl (cI, 40, .inl Y))]) (w1 := [(u, .inr (2, [.int c9, .int (nI n), .int (nI w), .ref c1, .ref c2, .ref c3, .ref c4, .int e7, .int e8, .int e9, .int e10])), (c1, .inl (cI, 40, .inl FM)), (c2, .inl (cI, 40, .inl V)), (c3, .inl (cI, 40, .inl O)), (c4, .inl (cI, 40, .inl Y))]) hP hD [8, 9, 10, 11, 12] [0, 1, 2, 3, 4, 5, 6, 7] rfl rfl rfl rfl 13 rfl (by decide) (by decide) hk1 hP1
  obtain ⟨hcc, hrr⟩ := Q1.rk hn hQ1 hQ2
  refine lv_istore (lv' := [(6, .int r2), (5, .int r1), (0, .ref b), (1, .ref o), (2, .ref u), (3, .ref ot), (4, .int (nI i))]) hx hb dL_law_496 hl (by decide) rfl (fun ls hl => ?_)
  refine lv_aload_n hx hb dL_law_498 rfl (lv_at hl 4 rfl) ?_
  refine pv_i CF (m_X2_thrown l D cI u c1 c2 c3 c4 M O Y c9 e7 e8 e9 e10) (cwV 0 hts gL_law_X2_thrown rfl rfl rfl k_X2_thrown ⟨Nat.le_of_ble_eq_true rfl, Nat.le_of_ble_eq_true rfl⟩) hK (hP.sub [8, 9, 10, 11, 12] rfl) rfl rfl rfl rfl hl.1 rfl (Nat.le_of_ble_eq_true rfl) dL_law_499 ⟨by show _ ≤ 638288; omega, by show _ ≤ 7181241; omega⟩ ?_
  refine lv_iload hx hb dL_law_502 (lv_at hl 1 rfl) ?_
  refine lv_icmp_eq (tgt := 509) hx hb dL_law_504 (by decide) (fun c504 => ?_) (fun c504 => ?_)
  · skip
    refine lv_iload hx hb dL_law_509 (lv_at hl 1 rfl) ?_
    refine lv_if_ne (tgt := 526) hx hb dL_law_511 (by decide) (fun c511 => ?_) (fun c511 => ?_)
    · skip
      refine lv_goto (tgt := 1147) hx hb dL_law_526 (by decide) ?_
      refine w_widen (k := kc + 50) (n := ks + 300) (by omega) (by omega) ?_
      exact hk _ _ _ _ _ _ _ _ _ _ _ _ _ _ _ _ _ _ _ _ _ _ _ _ _ _ _ _ _ _ _ _ _ _ _ _ S M hP hD hS (lv_sub hl [2, 3, 4, 5, 6] rfl)
    · skip
      refine lv_aload_n hx hb dL_law_514 rfl (lv_at hl 5 rfl) ?_
      refine lv_iconst (v := nI 0) hx hb dL_law_515 (by decide) ?_
      refine va_lald hx hb hKw hP 7 1 rfl rfl (vp_in_nI (by decide) (by decide)) dL_law_516 ?_
      refine tp_l (y := ra.toInt64) (by rw [nI_clamp (by decide)]; exact hBv (c511.trans (by decide))) ?_
      refine lv_iload hx hb dL_law_517 (lv_at hl 0 rfl) ?_
      refine lv_i2l hx hb dL_law_519 rfl ?_
      refine lw_lcmp hx hb (congrArg Int32.toInt64 (hrr (c511.trans (by decide)))) dL_law_520 ?_
      refine lv_if_eq (tgt := 526) hx hb dL_law_521 (by decide) (fun c521 => ?_) (fun c521 => ?_)
      · skip
        refine lv_goto (tgt := 1147) hx hb dL_law_526 (by decide) ?_
        refine w_widen (k := kc + 50) (n := ks + 300) (by omega) (by omega) ?_
        exact hk _ _ _ _ _ _ _ _ _ _ _ _ _ _ _ _ _ _ _ _ _ _ _ _ _ _ _ _ _ _ _ _ _ _ _ _ S M hP hD hS (lv_sub hl [2, 3, 4, 5, 6] rfl)
      · skip
        exact absurd rfl c521
  · skip
    exact absurd hcc.symm c504
set_option maxHeartbeats 4000000 in
set_option maxRecDepth 100000 in
theorem law_c10 {p : Program} {l : Launch} {e : Env} {s : State} {m : MethodId} {below : List Frame} {meth : Method} {c : Code} {b L : Nat} {xs : Nat → Int32} {D : va_G} {cI cJ : ClassId} {A : Nat → Prop} {Q : State → Prop} (F9 : LF p l s m meth c b L xs D cI cJ A) {i kc ks : Nat} (hi : i + 3 ≤ L) (hkc : kc + 50 ≤ 638288) (hks : ks + 300 ≤ 7181241) (hk : LG p l e s m below meth c b D cI cJ A Q 1147 i (kc + 50) (ks + 300)) : LG p l e s m below meth c b D cI cJ A Q 529 i kc ks := by
  obtain ⟨CF, hXs, hbl, hbA, hA, hKw, hXS, hZ, hN, hlt, hL⟩ := id F9
  obtain ⟨hx, hb, hml, hown, hts⟩ := id CF
  have hK : va_K D vwCl [(cI, .int)] s := hKw.sub [0] rfl
  intro o r t a1 a2 b1 b2 ot u c1 c2 c3 c4 n w n2 w2 F G f g F2 G2 FM V O Y B e0 e7 e8 e9 e10 H locs ls S M hP hD hS hl
  obtain ⟨hn3, hn, hw2, -, -, -⟩ := id S
  have hP : va_P D vwCl [(o, .inr (1, [.ref r, .ref t])), (r, .inr (0, [.ref a1, .ref a2, .int (nI n), .int (nI w)])), (a1, .inl (cI, 40, .inl F)), (a2, .inl (cI, 40, .inl G)), (t, .inr (0, [.ref b1, .ref b2, .int (nI n2), .int (nI w2)])), (b1, .inl (cI, 40, .inl F2)), (b2, .inl (cI, 40, .inl G2)), (ot, .inl (cJ, 1, .inr (.inl B))), (u, .inr (2, [.int e0, .int (nI n), .int (nI w), .ref c1, .ref c2, .ref c3, .ref c4, .int e7, .int e8, .int e9, .int e10])), (c1, .inl (cI, 40, .inl FM)), (c2, .inl (cI, 40, .inl V)), (c3, .inl (cI, 40, .inl O)), (c4, .inl (cI, 40, .inl Y))] H := hP
  have hD : va_D A [(o, .inr (1, [.ref r, .ref t])), (r, .inr (0, [.ref a1, .ref a2, .int (nI n), .int (nI w)])), (a1, .inl (cI, 40, .inl F)), (a2, .inl (cI, 40, .inl G)), (t, .inr (0, [.ref b1, .ref b2, .int (nI n2), .int (nI w2)])), (b1, .inl (cI, 40, .inl F2)), (b2, .inl (cI, 40, .inl G2)), (ot, .inl (cJ, 1, .inr (.inl B))), (u, .inr (2, [.int e0, .int (nI n), .int (nI w), .ref c1, .ref c2, .ref c3, .ref c4, .int e7, .int e8, .int e9, .int e10])), (c1, .inl (cI, 40, .inl FM)), (c2, .inl (cI, 40, .inl V)), (c3, .inl (cI, 40, .inl O)), (c4, .inl (cI, 40, .inl Y))] := hD
  refine lv_aload_n hx hb dL_law_529 rfl (lv_at hl 1 rfl) ?_
  refine lv_aload_n hx hb dL_law_530 rfl (lv_at hl 0 rfl) ?_
  refine lv_iload hx hb dL_law_531 (lv_at hl 4 rfl) ?_
  refine lv_iconst (v := nI 1) hx hb dL_law_533 (by decide) ?_
  refine an_add hx hb dL_law_534 ?_
  refine va_sld hx hb hXs hbl hbA hS (vp_in_nI (by omega) (by omega)) dL_law_535 ?_
  refine tp_i (y := xs (i + 1)) (congrArg xs (nI_clamp (by omega))) ?_
  refine lv_aload_n hx hb dL_law_536 rfl (lv_at hl 3 rfl) ?_
  have hPc : va_P D vwCl [(o, .inr (1, [.ref r, .ref t])), (r, .inr (0, [.ref a1, .ref a2, .int (nI n), .int (nI w)])), (a1, .inl (cI, 40, .inl F)), (a2, .inl (cI, 40, .inl G)), (t, .inr (0, [.ref b1, .ref b2, .int (nI n2), .int (nI w2)])), (b1, .inl (cI, 40, .inl F2)), (b2, .inl (cI, 40, .inl G2)), (ot, .inl (cJ, 1, .inr (.inl B)))] H := hP.sub [0, 1, 2, 3, 4, 5, 6, 7] rfl
  have hDc : va_D A [(o, .inr (1, [.ref r, .ref t])), (r, .inr (0, [.ref a1, .ref a2, .int (nI n), .int (nI w)])), (a1, .inl (cI, 40, .inl F)), (a2, .inl (cI, 40, .inl G)), (t, .inr (0, [.ref b1, .ref b2, .int (nI n2), .int (nI w2)])), (b1, .inl (cI, 40, .inl F2)), (b2, .inl (cI, 40, .inl G2)), (ot, .inl (cJ, 1, .inr (.inl B)))] := hD.sub [0, 1, 2, 3, 4, 5, 6, 7] (by decide) rfl
  have hFc := va_free (wc := [(o, .inr (1, [.ref r, .ref t])), (r, .inr (0, [.ref a1, .ref a2, .int (nI n), .int (nI w)])), (a1, .inl (cI, 40, .inl F)), (a2, .inl (cI, 40, .inl G)), (t, .inr (0, [.ref b1, .ref b2, .int (nI n2), .int (nI w2)])), (b1, .inl (cI, 40, .inl F2)), (b2, .inl (cI, 40, .inl G2)), (ot, .inl (cJ, 1, .inr (.inl B)))]) hD hS hA [0, 1, 2, 3, 4, 5, 6, 7] rfl
  refine pq_i (vx_runSW (rest := []) CF (m_L_weightAt l hlt D cI cJ o r t a1 a2 b1 b2 ot S n2 w2 F2 G2 B (xs (i + 1)) H.size) (vx_cwSW 3 hts gL_law_L_weightAt rfl rfl rfl k_L_weightAt.2 ⟨Nat.le_of_ble_eq_true rfl, Nat.le_of_ble_eq_true rfl⟩) (pl_pre hKw hPc hDc hXS (hZ.kept hS.2.1) hFc hN) rfl rfl hl.1 rfl (lv_room (Nat.le_of_ble_eq_true rfl)) dL_law_537 ⟨by show _ ≤ 638288; omega, by show _ ≤ 7181241; omega⟩) hS hFc (fun r1 H locs hB hk1 hS => ?_)
  obtain ⟨B1, ra, hQ1, hBv, hP1⟩ := hB
  obtain ⟨hP, hD⟩ := jn (wb := [(o, .inr (1, [.ref r, .ref t])), (r, .inr (0, [.ref a1, .ref a2, .int (nI n), .int (nI w)])), (a1, .inl (cI, 40, .inl F)), (a2, .inl (cI, 40, .inl G)), (t, .inr (0, [.ref b1, .ref b2, .int (nI n2), .int (nI w2)])), (b1, .inl (cI, 40, .inl F2)), (b2, .inl (cI, 40, .inl G2)), (ot, .inl (cJ, 1, .inr (.inl B1))), (u, .inr (2, [.int e0, .int (nI n), .int (nI w), .ref c1, .ref c2, .ref c3, .ref c4, .int e7, .int e8, .int e9, .int e10])), (c1, .inl (cI, 40, .inl FM)), (c2, .inl (cI, 40, .inl V)), (c3, .inl (cI, 40, .inl O)), (c4, .inl (cI, 40, .inl Y))]) (w1 := [(o, .inr (1, [.ref r, .ref t])), (r, .inr (0, [.ref a1, .ref a2, .int (nI n), .int (nI w)])), (a1, .inl (cI, 40, .inl F)), (a2, .inl (cI, 40, .inl G)), (t, .inr (0, [.ref b1, .ref b2, .int (nI n2), .int (nI w2)])), (b1, .inl (cI, 40, .inl F2)), (b2, .inl (cI, 40, .inl G2)), (ot, .inl (cJ, 1, .inr (.inl B1)))]) hP hD [0, 1, 2, 3, 4, 5, 6, 7] [8, 9, 10, 11, 12] rfl rfl rfl rfl 13 rfl (by decide) (by decide) hk1 hP1
  refine lv_istore (lv' := [(5, .int r1), (0, .ref b), (1, .ref o), (2, .ref u), (3, .ref ot), (4, .int (nI i))]) hx hb dL_law_540 hl (by decide) rfl (fun ls hl => ?_)
  refine lv_aload_n hx hb dL_law_542 rfl (lv_at hl 3 rfl) ?_
  refine lv_aload_n hx hb dL_law_543 rfl (lv_at hl 1 rfl) ?_
  refine lv_iload hx hb dL_law_544 (lv_at hl 5 rfl) ?_
  refine lv_iconst (v := nI 1) hx hb dL_law_546 (by decide) ?_
  refine an_add hx hb dL_law_547 ?_
  refine va_sld hx hb hXs hbl hbA hS (vp_in_nI (by omega) (by omega)) dL_law_548 ?_
  refine tp_i (y := xs (i + 1)) (congrArg xs (nI_clamp (by omega))) ?_
  have hPc : va_P D vwCl [(u, .inr (2, [.int e0, .int (nI n), .int (nI w), .ref c1, .ref c2, .ref c3, .ref c4, .int e7, .int e8, .int e9, .int e10])), (c1, .inl (cI, 40, .inl FM)), (c2, .inl (cI, 40, .inl V)), (c3, .inl (cI, 40, .inl O)), (c4, .inl (cI, 40, .inl Y))] H := hP.sub [8, 9, 10, 11, 12] rfl
  have hDc : va_D A [(u, .inr (2, [.int e0, .int (nI n), .int (nI w), .ref c1, .ref c2, .ref c3, .ref c4, .int e7, .int e8, .int e9, .int e10])), (c1, .inl (cI, 40, .inl FM)), (c2, .inl (cI, 40, .inl V)), (c3, .inl (cI, 40, .inl O)), (c4, .inl (cI, 40, .inl Y))] := hD.sub [8, 9, 10, 11, 12] (by decide) rfl
  have hFc := va_free (wc := [(u, .inr (2, [.int e0, .int (nI n), .int (nI w), .ref c1, .ref c2, .ref c3, .ref c4, .int e7, .int e8, .int e9, .int e10])), (c1, .inl (cI, 40, .inl FM)), (c2, .inl (cI, 40, .inl V)), (c3, .inl (cI, 40, .inl O)), (c4, .inl (cI, 40, .inl Y))]) hD hS hA [8, 9, 10, 11, 12] rfl
  refine pq_i (va_runV (rest := []) CF (m_X2_weightAt l D cI u c1 c2 c3 c4 M O Y e0 e7 e8 e9 e10 (xs (i + 1)) H.size) (cwV 1 hts gL_law_X2_weightAt rfl rfl rfl k_X2_weightAt ⟨Nat.le_of_ble_eq_true rfl, Nat.le_of_ble_eq_true rfl⟩) (mv_pre hK hPc hDc rfl rfl rfl) rfl rfl hl.1 rfl (lv_room (Nat.le_of_ble_eq_true rfl)) dL_law_549 ⟨by show _ ≤ 638288; omega, by show _ ≤ 7181241; omega⟩) hS hFc (fun r2 H locs hB hk1 hS => ?_)
  obtain ⟨c9, hQ2, hP1⟩ := hB
  obtain ⟨hP, hD⟩ := jn (wb := [(o, .inr (1, [.ref r, .ref t])), (r, .inr (0, [.ref a1, .ref a2, .int (nI n), .int (nI w)])), (a1, .inl (cI, 40, .inl F)), (a2, .inl (cI, 40, .inl G)), (t, .inr (0, [.ref b1, .ref b2, .int (nI n2), .int (nI w2)])), (b1, .inl (cI, 40, .inl F2)), (b2, .inl (cI, 40, .inl G2)), (ot, .inl (cJ, 1, .inr (.inl B1))), (u, .inr (2, [.int c9, .int (nI n), .int (nI w), .ref c1, .ref c2, .ref c3, .ref c4, .int e7, .int e8, .int e9, .int e10])), (c1, .inl (cI, 40, .inl FM)), (c2, .inl (cI, 40, .inl V)), (c3, .inl (cI, 40, .inl O)), (c4, .inl (cI, 40, .inl Y))]) (w1 := [(u, .inr (2, [.int c9, .int (nI n), .int (nI w), .ref c1, .ref c2, .ref c3, .ref c4, .int e7, .int e8, .int e9, .int e10])), (c1, .inl (cI, 40, .inl FM)), (c2, .inl (cI, 40, .inl V)), (c3, .inl (cI, 40, .inl O)), (c4, .inl (cI, 40, .inl Y))]) hP hD [8, 9, 10, 11, 12] [0, 1, 2, 3, 4, 5, 6, 7] rfl rfl rfl rfl 13 rfl (by decide) (by decide) hk1 hP1
  obtain ⟨hcc, hrr⟩ := Q1.rk hn hQ1 hQ2
  refine lv_istore (lv' := [(6, .int r2), (5, .int r1), (0, .ref b), (1, .ref o), (2, .ref u), (3, .ref ot), (4, .int (nI i))]) hx hb dL_law_552 hl (by decide) rfl (fun ls hl => ?_)
  refine lv_aload_n hx hb dL_law_554 rfl (lv_at hl 4 rfl) ?_
  refine pv_i CF (m_X2_thrown l D cI u c1 c2 c3 c4 M O Y c9 e7 e8 e9 e10) (cwV 0 hts gL_law_X2_thrown rfl rfl rfl k_X2_thrown ⟨Nat.le_of_ble_eq_true rfl, Nat.le_of_ble_eq_true rfl⟩) hK (hP.sub [8, 9, 10, 11, 12] rfl) rfl rfl rfl rfl hl.1 rfl (Nat.le_of_ble_eq_true rfl) dL_law_555 ⟨by show _ ≤ 638288; omega, by show _ ≤ 7181241; omega⟩ ?_
  refine lv_iload hx hb dL_law_558 (lv_at hl 1 rfl) ?_
  refine lv_icmp_eq (tgt := 565) hx hb dL_law_560 (by decide) (fun c560 => ?_) (fun c560 => ?_)
  · skip
    refine lv_iload hx hb dL_law_565 (lv_at hl 1 rfl) ?_
    refine lv_if_ne (tgt := 582) hx hb dL_law_567 (by decide) (fun c567 => ?_) (fun c567 => ?_)
    · skip
      refine lv_goto (tgt := 1147) hx hb dL_law_582 (by decide) ?_
      refine w_widen (k := kc + 50) (n := ks + 300) (by omega) (by omega) ?_
      exact hk _ _ _ _ _ _ _ _ _ _ _ _ _ _ _ _ _ _ _ _ _ _ _ _ _ _ _ _ _ _ _ _ _ _ _ _ S M hP hD hS (lv_sub hl [2, 3, 4, 5, 6] rfl)
    · skip
      refine lv_aload_n hx hb dL_law_570 rfl (lv_at hl 5 rfl) ?_
      refine lv_iconst (v := nI 0) hx hb dL_law_571 (by decide) ?_
      refine va_lald hx hb hKw hP 7 1 rfl rfl (vp_in_nI (by decide) (by decide)) dL_law_572 ?_
      refine tp_l (y := ra.toInt64) (by rw [nI_clamp (by decide)]; exact hBv (c567.trans (by decide))) ?_
      refine lv_iload hx hb dL_law_573 (lv_at hl 0 rfl) ?_
      refine lv_i2l hx hb dL_law_575 rfl ?_
      refine lw_lcmp hx hb (congrArg Int32.toInt64 (hrr (c567.trans (by decide)))) dL_law_576 ?_
      refine lv_if_eq (tgt := 582) hx hb dL_law_577 (by decide) (fun c577 => ?_) (fun c577 => ?_)
      · skip
        refine lv_goto (tgt := 1147) hx hb dL_law_582 (by decide) ?_
        refine w_widen (k := kc + 50) (n := ks + 300) (by omega) (by omega) ?_
        exact hk _ _ _ _ _ _ _ _ _ _ _ _ _ _ _ _ _ _ _ _ _ _ _ _ _ _ _ _ _ _ _ _ _ _ _ _ S M hP hD hS (lv_sub hl [2, 3, 4, 5, 6] rfl)
      · skip
        exact absurd rfl c577
  · skip
    exact absurd hcc.symm c560
set_option maxHeartbeats 4000000 in
set_option maxRecDepth 100000 in
theorem law_c21 {p : Program} {l : Launch} {e : Env} {s : State} {m : MethodId} {below : List Frame} {meth : Method} {c : Code} {b L : Nat} {xs : Nat → Int32} {D : va_G} {cI cJ : ClassId} {A : Nat → Prop} {Q : State → Prop} (F9 : LF p l s m meth c b L xs D cI cJ A) {i kc ks : Nat} (hi : i + 3 ≤ L) (hkc : kc + 50 ≤ 638288) (hks : ks + 300 ≤ 7181241) (hk : LG p l e s m below meth c b D cI cJ A Q 1147 i (kc + 50) (ks + 300)) : LG p l e s m below meth c b D cI cJ A Q 899 i kc ks := by
  obtain ⟨CF, hXs, hbl, hbA, hA, hKw, hXS, hZ, hN, hlt, hL⟩ := id F9
  obtain ⟨hx, hb, hml, hown, hts⟩ := id CF
  have hK : va_K D vwCl [(cI, .int)] s := hKw.sub [0] rfl
  intro o r t a1 a2 b1 b2 ot u c1 c2 c3 c4 n w n2 w2 F G f g F2 G2 FM V O Y B e0 e7 e8 e9 e10 H locs ls S M hP hD hS hl
  obtain ⟨hn3, hn, hw2, -, -, -⟩ := id S
  have hP : va_P D vwCl [(o, .inr (1, [.ref r, .ref t])), (r, .inr (0, [.ref a1, .ref a2, .int (nI n), .int (nI w)])), (a1, .inl (cI, 40, .inl F)), (a2, .inl (cI, 40, .inl G)), (t, .inr (0, [.ref b1, .ref b2, .int (nI n2), .int (nI w2)])), (b1, .inl (cI, 40, .inl F2)), (b2, .inl (cI, 40, .inl G2)), (ot, .inl (cJ, 1, .inr (.inl B))), (u, .inr (2, [.int e0, .int (nI n), .int (nI w), .ref c1, .ref c2, .ref c3, .ref c4, .int e7, .int e8, .int e9, .int e10])), (c1, .inl (cI, 40, .inl FM)), (c2, .inl (cI, 40, .inl V)), (c3, .inl (cI, 40, .inl O)), (c4, .inl (cI, 40, .inl Y))] H := hP
  have hD : va_D A [(o, .inr (1, [.ref r, .ref t])), (r, .inr (0, [.ref a1, .ref a2, .int (nI n), .int (nI w)])), (a1, .inl (cI, 40, .inl F)), (a2, .inl (cI, 40, .inl G)), (t, .inr (0, [.ref b1, .ref b2, .int (nI n2), .int (nI w2)])), (b1, .inl (cI, 40, .inl F2)), (b2, .inl (cI, 40, .inl G2)), (ot, .inl (cJ, 1, .inr (.inl B))), (u, .inr (2, [.int e0, .int (nI n), .int (nI w), .ref c1, .ref c2, .ref c3, .ref c4, .int e7, .int e8, .int e9, .int e10])), (c1, .inl (cI, 40, .inl FM)), (c2, .inl (cI, 40, .inl V)), (c3, .inl (cI, 40, .inl O)), (c4, .inl (cI, 40, .inl Y))] := hD
  refine lv_aload_n hx hb dL_law_899 rfl (lv_at hl 1 rfl) ?_
  refine lv_aload_n hx hb dL_law_900 rfl (lv_at hl 0 rfl) ?_
  refine lv_iload hx hb dL_law_901 (lv_at hl 4 rfl) ?_
  refine lv_iconst (v := nI 1) hx hb dL_law_903 (by decide) ?_
  refine an_add hx hb dL_law_904 ?_
  refine va_sld hx hb hXs hbl hbA hS (vp_in_nI (by omega) (by omega)) dL_law_905 ?_
  refine tp_i (y := xs (i + 1)) (congrArg xs (nI_clamp (by omega))) ?_
  refine lv_aload_n hx hb dL_law_906 rfl (lv_at hl 3 rfl) ?_
  have hPc : va_P D vwCl [(o, .inr (1, [.ref r, .ref t])), (r, .inr (0, [.ref a1, .ref a2, .int (nI n), .int (nI w)])), (a1, .inl (cI, 40, .inl F)), (a2, .inl (cI, 40, .inl G)), (t, .inr (0, [.ref b1, .ref b2, .int (nI n2), .int (nI w2)])), (b1, .inl (cI, 40, .inl F2)), (b2, .inl (cI, 40, .inl G2)), (ot, .inl (cJ, 1, .inr (.inl B)))] H := hP.sub [0, 1, 2, 3, 4, 5, 6, 7] rfl
  have hDc : va_D A [(o, .inr (1, [.ref r, .ref t])), (r, .inr (0, [.ref a1, .ref a2, .int (nI n), .int (nI w)])), (a1, .inl (cI, 40, .inl F)), (a2, .inl (cI, 40, .inl G)), (t, .inr (0, [.ref b1, .ref b2, .int (nI n2), .int (nI w2)])), (b1, .inl (cI, 40, .inl F2)), (b2, .inl (cI, 40, .inl G2)), (ot, .inl (cJ, 1, .inr (.inl B)))] := hD.sub [0, 1, 2, 3, 4, 5, 6, 7] (by decide) rfl
  have hFc := va_free (wc := [(o, .inr (1, [.ref r, .ref t])), (r, .inr (0, [.ref a1, .ref a2, .int (nI n), .int (nI w)])), (a1, .inl (cI, 40, .inl F)), (a2, .inl (cI, 40, .inl G)), (t, .inr (0, [.ref b1, .ref b2, .int (nI n2), .int (nI w2)])), (b1, .inl (cI, 40, .inl F2)), (b2, .inl (cI, 40, .inl G2)), (ot, .inl (cJ, 1, .inr (.inl B)))]) hD hS hA [0, 1, 2, 3, 4, 5, 6, 7] rfl
  refine pq_i (vx_runSW (rest := []) CF (m_L_rowAt l hlt D cI cJ o r t a1 a2 b1 b2 ot S n2 w2 F2 G2 B (xs (i + 1)) H.size) (vx_cwSW 3 hts gL_law_L_rowAt rfl rfl rfl k_L_rowAt.2 ⟨Nat.le_of_ble_eq_true rfl, Nat.le_of_ble_eq_true rfl⟩) (pl_pre hKw hPc hDc hXS (hZ.kept hS.2.1) hFc hN) rfl rfl hl.1 rfl (lv_room (Nat.le_of_ble_eq_true rfl)) dL_law_907 ⟨by show _ ≤ 638288; omega, by show _ ≤ 7181241; omega⟩) hS hFc (fun r1 H locs hB hk1 hS => ?_)
  obtain ⟨B1, ra, hQ1, hBv, hP1⟩ := hB
  obtain ⟨hP, hD⟩ := jn (wb := [(o, .inr (1, [.ref r, .ref t])), (r, .inr (0, [.ref a1, .ref a2, .int (nI n), .int (nI w)])), (a1, .inl (cI, 40, .inl F)), (a2, .inl (cI, 40, .inl G)), (t, .inr (0, [.ref b1, .ref b2, .int (nI n2), .int (nI w2)])), (b1, .inl (cI, 40, .inl F2)), (b2, .inl (cI, 40, .inl G2)), (ot, .inl (cJ, 1, .inr (.inl B1))), (u, .inr (2, [.int e0, .int (nI n), .int (nI w), .ref c1, .ref c2, .ref c3, .ref c4, .int e7, .int e8, .int e9, .int e10])), (c1, .inl (cI, 40, .inl FM)), (c2, .inl (cI, 40, .inl V)), (c3, .inl (cI, 40, .inl O)), (c4, .inl (cI, 40, .inl Y))]) (w1 := [(o, .inr (1, [.ref r, .ref t])), (r, .inr (0, [.ref a1, .ref a2, .int (nI n), .int (nI w)])), (a1, .inl (cI, 40, .inl F)), (a2, .inl (cI, 40, .inl G)), (t, .inr (0, [.ref b1, .ref b2, .int (nI n2), .int (nI w2)])), (b1, .inl (cI, 40, .inl F2)), (b2, .inl (cI, 40, .inl G2)), (ot, .inl (cJ, 1, .inr (.inl B1)))]) hP hD [0, 1, 2, 3, 4, 5, 6, 7] [8, 9, 10, 11, 12] rfl rfl rfl rfl 13 rfl (by decide) (by decide) hk1 hP1
  refine lv_istore (lv' := [(5, .int r1), (0, .ref b), (1, .ref o), (2, .ref u), (3, .ref ot), (4, .int (nI i))]) hx hb dL_law_910 hl (by decide) rfl (fun ls hl => ?_)
  refine lv_aload_n hx hb dL_law_912 rfl (lv_at hl 3 rfl) ?_
  refine lv_aload_n hx hb dL_law_913 rfl (lv_at hl 1 rfl) ?_
  refine lv_iload hx hb dL_law_914 (lv_at hl 5 rfl) ?_
  refine lv_iconst (v := nI 1) hx hb dL_law_916 (by decide) ?_
  refine an_add hx hb dL_law_917 ?_
  refine va_sld hx hb hXs hbl hbA hS (vp_in_nI (by omega) (by omega)) dL_law_918 ?_
  refine tp_i (y := xs (i + 1)) (congrArg xs (nI_clamp (by omega))) ?_
  have hPc : va_P D vwCl [(u, .inr (2, [.int e0, .int (nI n), .int (nI w), .ref c1, .ref c2, .ref c3, .ref c4, .int e7, .int e8, .int e9, .int e10])), (c1, .inl (cI, 40, .inl FM)), (c2, .inl (cI, 40, .inl V)), (c3, .inl (cI, 40, .inl O)), (c4, .inl (cI, 40, .inl Y))] H := hP.sub [8, 9, 10, 11, 12] rfl
  have hDc : va_D A [(u, .inr (2, [.int e0, .int (nI n), .int (nI w), .ref c1, .ref c2, .ref c3, .ref c4, .int e7, .int e8, .int e9, .int e10])), (c1, .inl (cI, 40, .inl FM)), (c2, .inl (cI, 40, .inl V)), (c3, .inl (cI, 40, .inl O)), (c4, .inl (cI, 40, .inl Y))] := hD.sub [8, 9, 10, 11, 12] (by decide) rfl
  have hFc := va_free (wc := [(u, .inr (2, [.int e0, .int (nI n), .int (nI w), .ref c1, .ref c2, .ref c3, .ref c4, .int e7, .int e8, .int e9, .int e10])), (c1, .inl (cI, 40, .inl FM)), (c2, .inl (cI, 40, .inl V)), (c3, .inl (cI, 40, .inl O)), (c4, .inl (cI, 40, .inl Y))]) hD hS hA [8, 9, 10, 11, 12] rfl
  refine pq_i (va_runV (rest := []) CF (m_X2_rowAt l D cI u c1 c2 c3 c4 M O Y e0 e7 e8 e9 e10 (xs (i + 1)) H.size) (cwV 1 hts gL_law_X2_rowAt rfl rfl rfl k_X2_rowAt ⟨Nat.le_of_ble_eq_true rfl, Nat.le_of_ble_eq_true rfl⟩) (mv_pre hK hPc hDc rfl rfl rfl) rfl rfl hl.1 rfl (lv_room (Nat.le_of_ble_eq_true rfl)) dL_law_919 ⟨by show _ ≤ 638288; omega, by show _ ≤ 7181241; omega⟩) hS hFc (fun r2 H locs hB hk1 hS => ?_)
  obtain ⟨c9, hQ2, hP1⟩ := hB
  obtain ⟨hP, hD⟩ := jn (wb := [(o, .inr (1, [.ref r, .ref t])), (r, .inr (0, [.ref a1, .ref a2, .int (nI n), .int (nI w)])), (a1, .inl (cI, 40, .inl F)), (a2, .inl (cI, 40, .inl G)), (t, .inr (0, [.ref b1, .ref b2, .int (nI n2), .int (nI w2)])), (b1, .inl (cI, 40, .inl F2)), (b2, .inl (cI, 40, .inl G2)), (ot, .inl (cJ, 1, .inr (.inl B1))), (u, .inr (2, [.int c9, .int (nI n), .int (nI w), .ref c1, .ref c2, .ref c3, .ref c4, .int e7, .int e8, .int e9, .int e10])), (c1, .inl (cI, 40, .inl FM)), (c2, .inl (cI, 40, .inl V)), (c3, .inl (cI, 40, .inl O)), (c4, .inl (cI, 40, .inl Y))]) (w1 := [(u, .inr (2, [.int c9, .int (nI n), .int (nI w), .ref c1, .ref c2, .ref c3, .ref c4, .int e7, .int e8, .int e9, .int e10])), (c1, .inl (cI, 40, .inl FM)), (c2, .inl (cI, 40, .inl V)), (c3, .inl (cI, 40, .inl O)), (c4, .inl (cI, 40, .inl Y))]) hP hD [8, 9, 10, 11, 12] [0, 1, 2, 3, 4, 5, 6, 7] rfl rfl rfl rfl 13 rfl (by decide) (by decide) hk1 hP1
  obtain ⟨hcc, hrr⟩ := Q1.rk hn hQ1 hQ2
  refine lv_istore (lv' := [(6, .int r2), (5, .int r1), (0, .ref b), (1, .ref o), (2, .ref u), (3, .ref ot), (4, .int (nI i))]) hx hb dL_law_922 hl (by decide) rfl (fun ls hl => ?_)
  refine lv_aload_n hx hb dL_law_924 rfl (lv_at hl 4 rfl) ?_
  refine pv_i CF (m_X2_thrown l D cI u c1 c2 c3 c4 M O Y c9 e7 e8 e9 e10) (cwV 0 hts gL_law_X2_thrown rfl rfl rfl k_X2_thrown ⟨Nat.le_of_ble_eq_true rfl, Nat.le_of_ble_eq_true rfl⟩) hK (hP.sub [8, 9, 10, 11, 12] rfl) rfl rfl rfl rfl hl.1 rfl (Nat.le_of_ble_eq_true rfl) dL_law_925 ⟨by show _ ≤ 638288; omega, by show _ ≤ 7181241; omega⟩ ?_
  refine lv_iload hx hb dL_law_928 (lv_at hl 1 rfl) ?_
  refine lv_icmp_eq (tgt := 935) hx hb dL_law_930 (by decide) (fun c930 => ?_) (fun c930 => ?_)
  · skip
    refine lv_iload hx hb dL_law_935 (lv_at hl 1 rfl) ?_
    refine lv_if_ne (tgt := 952) hx hb dL_law_937 (by decide) (fun c937 => ?_) (fun c937 => ?_)
    · skip
      refine lv_goto (tgt := 1147) hx hb dL_law_952 (by decide) ?_
      refine w_widen (k := kc + 50) (n := ks + 300) (by omega) (by omega) ?_
      exact hk _ _ _ _ _ _ _ _ _ _ _ _ _ _ _ _ _ _ _ _ _ _ _ _ _ _ _ _ _ _ _ _ _ _ _ _ S M hP hD hS (lv_sub hl [2, 3, 4, 5, 6] rfl)
    · skip
      refine lv_aload_n hx hb dL_law_940 rfl (lv_at hl 5 rfl) ?_
      refine lv_iconst (v := nI 0) hx hb dL_law_941 (by decide) ?_
      refine va_lald hx hb hKw hP 7 1 rfl rfl (vp_in_nI (by decide) (by decide)) dL_law_942 ?_
      refine tp_l (y := ra.toInt64) (by rw [nI_clamp (by decide)]; exact hBv (c937.trans (by decide))) ?_
      refine lv_iload hx hb dL_law_943 (lv_at hl 0 rfl) ?_
      refine lv_i2l hx hb dL_law_945 rfl ?_
      refine lw_lcmp hx hb (congrArg Int32.toInt64 (hrr (c937.trans (by decide)))) dL_law_946 ?_
      refine lv_if_eq (tgt := 952) hx hb dL_law_947 (by decide) (fun c947 => ?_) (fun c947 => ?_)
      · skip
        refine lv_goto (tgt := 1147) hx hb dL_law_952 (by decide) ?_
        refine w_widen (k := kc + 50) (n := ks + 300) (by omega) (by omega) ?_
        exact hk _ _ _ _ _ _ _ _ _ _ _ _ _ _ _ _ _ _ _ _ _ _ _ _ _ _ _ _ _ _ _ _ _ _ _ _ S M hP hD hS (lv_sub hl [2, 3, 4, 5, 6] rfl)
      · skip
        exact absurd rfl c947
  · skip
    exact absurd hcc.symm c930
set_option maxHeartbeats 4000000 in
set_option maxRecDepth 100000 in
theorem law_c13 {p : Program} {l : Launch} {e : Env} {s : State} {m : MethodId} {below : List Frame} {meth : Method} {c : Code} {b L : Nat} {xs : Nat → Int32} {D : va_G} {cI cJ : ClassId} {A : Nat → Prop} {Q : State → Prop} (F9 : LF p l s m meth c b L xs D cI cJ A) {i kc ks : Nat} (hi : i + 3 ≤ L) (hkc : kc + 50 ≤ 638288) (hks : ks + 300 ≤ 7181241) (hk : LG p l e s m below meth c b D cI cJ A Q 1147 i (kc + 50) (ks + 300)) : LG p l e s m below meth c b D cI cJ A Q 611 i kc ks := by
  obtain ⟨CF, hXs, hbl, hbA, hA, hKw, hXS, hZ, hN, hlt, hL⟩ := id F9
  obtain ⟨hx, hb, hml, hown, hts⟩ := id CF
  have hK : va_K D vwCl [(cI, .int)] s := hKw.sub [0] rfl
  intro o r t a1 a2 b1 b2 ot u c1 c2 c3 c4 n w n2 w2 F G f g F2 G2 FM V O Y B e0 e7 e8 e9 e10 H locs ls S M hP hD hS hl
  obtain ⟨hn3, hn, hw2, -, -, -⟩ := id S
  have hP : va_P D vwCl [(o, .inr (1, [.ref r, .ref t])), (r, .inr (0, [.ref a1, .ref a2, .int (nI n), .int (nI w)])), (a1, .inl (cI, 40, .inl F)), (a2, .inl (cI, 40, .inl G)), (t, .inr (0, [.ref b1, .ref b2, .int (nI n2), .int (nI w2)])), (b1, .inl (cI, 40, .inl F2)), (b2, .inl (cI, 40, .inl G2)), (ot, .inl (cJ, 1, .inr (.inl B))), (u, .inr (2, [.int e0, .int (nI n), .int (nI w), .ref c1, .ref c2, .ref c3, .ref c4, .int e7, .int e8, .int e9, .int e10])), (c1, .inl (cI, 40, .inl FM)), (c2, .inl (cI, 40, .inl V)), (c3, .inl (cI, 40, .inl O)), (c4, .inl (cI, 40, .inl Y))] H := hP
  have hD : va_D A [(o, .inr (1, [.ref r, .ref t])), (r, .inr (0, [.ref a1, .ref a2, .int (nI n), .int (nI w)])), (a1, .inl (cI, 40, .inl F)), (a2, .inl (cI, 40, .inl G)), (t, .inr (0, [.ref b1, .ref b2, .int (nI n2), .int (nI w2)])), (b1, .inl (cI, 40, .inl F2)), (b2, .inl (cI, 40, .inl G2)), (ot, .inl (cJ, 1, .inr (.inl B))), (u, .inr (2, [.int e0, .int (nI n), .int (nI w), .ref c1, .ref c2, .ref c3, .ref c4, .int e7, .int e8, .int e9, .int e10])), (c1, .inl (cI, 40, .inl FM)), (c2, .inl (cI, 40, .inl V)), (c3, .inl (cI, 40, .inl O)), (c4, .inl (cI, 40, .inl Y))] := hD
  refine lv_aload_n hx hb dL_law_611 rfl (lv_at hl 1 rfl) ?_
  refine lv_aload_n hx hb dL_law_612 rfl (lv_at hl 0 rfl) ?_
  refine lv_iload hx hb dL_law_613 (lv_at hl 4 rfl) ?_
  refine lv_iconst (v := nI 1) hx hb dL_law_615 (by decide) ?_
  refine an_add hx hb dL_law_616 ?_
  refine va_sld hx hb hXs hbl hbA hS (vp_in_nI (by omega) (by omega)) dL_law_617 ?_
  refine tp_i (y := xs (i + 1)) (congrArg xs (nI_clamp (by omega))) ?_
  refine lv_aload_n hx hb dL_law_618 rfl (lv_at hl 3 rfl) ?_
  have hPc : va_P D vwCl [(o, .inr (1, [.ref r, .ref t])), (r, .inr (0, [.ref a1, .ref a2, .int (nI n), .int (nI w)])), (a1, .inl (cI, 40, .inl F)), (a2, .inl (cI, 40, .inl G)), (t, .inr (0, [.ref b1, .ref b2, .int (nI n2), .int (nI w2)])), (b1, .inl (cI, 40, .inl F2)), (b2, .inl (cI, 40, .inl G2)), (ot, .inl (cJ, 1, .inr (.inl B)))] H := hP.sub [0, 1, 2, 3, 4, 5, 6, 7] rfl
  have hDc : va_D A [(o, .inr (1, [.ref r, .ref t])), (r, .inr (0, [.ref a1, .ref a2, .int (nI n), .int (nI w)])), (a1, .inl (cI, 40, .inl F)), (a2, .inl (cI, 40, .inl G)), (t, .inr (0, [.ref b1, .ref b2, .int (nI n2), .int (nI w2)])), (b1, .inl (cI, 40, .inl F2)), (b2, .inl (cI, 40, .inl G2)), (ot, .inl (cJ, 1, .inr (.inl B)))] := hD.sub [0, 1, 2, 3, 4, 5, 6, 7] (by decide) rfl
  have hFc := va_free (wc := [(o, .inr (1, [.ref r, .ref t])), (r, .inr (0, [.ref a1, .ref a2, .int (nI n), .int (nI w)])), (a1, .inl (cI, 40, .inl F)), (a2, .inl (cI, 40, .inl G)), (t, .inr (0, [.ref b1, .ref b2, .int (nI n2), .int (nI w2)])), (b1, .inl (cI, 40, .inl F2)), (b2, .inl (cI, 40, .inl G2)), (ot, .inl (cJ, 1, .inr (.inl B)))]) hD hS hA [0, 1, 2, 3, 4, 5, 6, 7] rfl
  refine pq_i (vx_runSW (rest := []) CF (m_L_find l hlt D cI cJ o r t a1 a2 b1 b2 ot S n2 w2 F2 G2 B (xs (i + 1)) H.size) (vx_cwSW 3 hts gL_law_L_find rfl rfl rfl k_L_find.2 ⟨Nat.le_of_ble_eq_true rfl, Nat.le_of_ble_eq_true rfl⟩) (pl_pre hKw hPc hDc hXS (hZ.kept hS.2.1) hFc hN) rfl rfl hl.1 rfl (lv_room (Nat.le_of_ble_eq_true rfl)) dL_law_619 ⟨by show _ ≤ 638288; omega, by show _ ≤ 7181241; omega⟩) hS hFc (fun r1 H locs hB hk1 hS => ?_)
  obtain ⟨B1, ra, hQ1, hBv, hP1⟩ := hB
  obtain ⟨hP, hD⟩ := jn (wb := [(o, .inr (1, [.ref r, .ref t])), (r, .inr (0, [.ref a1, .ref a2, .int (nI n), .int (nI w)])), (a1, .inl (cI, 40, .inl F)), (a2, .inl (cI, 40, .inl G)), (t, .inr (0, [.ref b1, .ref b2, .int (nI n2), .int (nI w2)])), (b1, .inl (cI, 40, .inl F2)), (b2, .inl (cI, 40, .inl G2)), (ot, .inl (cJ, 1, .inr (.inl B1))), (u, .inr (2, [.int e0, .int (nI n), .int (nI w), .ref c1, .ref c2, .ref c3, .ref c4, .int e7, .int e8, .int e9, .int e10])), (c1, .inl (cI, 40, .inl FM)), (c2, .inl (cI, 40, .inl V)), (c3, .inl (cI, 40, .inl O)), (c4, .inl (cI, 40, .inl Y))]) (w1 := [(o, .inr (1, [.ref r, .ref t])), (r, .inr (0, [.ref a1, .ref a2, .int (nI n), .int (nI w)])), (a1, .inl (cI, 40, .inl F)), (a2, .inl (cI, 40, .inl G)), (t, .inr (0, [.ref b1, .ref b2, .int (nI n2), .int (nI w2)])), (b1, .inl (cI, 40, .inl F2)), (b2, .inl (cI, 40, .inl G2)), (ot, .inl (cJ, 1, .inr (.inl B1)))]) hP hD [0, 1, 2, 3, 4, 5, 6, 7] [8, 9, 10, 11, 12] rfl rfl rfl rfl 13 rfl (by decide) (by decide) hk1 hP1
  refine lv_istore (lv' := [(5, .int r1), (0, .ref b), (1, .ref o), (2, .ref u), (3, .ref ot), (4, .int (nI i))]) hx hb dL_law_622 hl (by decide) rfl (fun ls hl => ?_)
  refine lv_aload_n hx hb dL_law_624 rfl (lv_at hl 3 rfl) ?_
  refine lv_aload_n hx hb dL_law_625 rfl (lv_at hl 1 rfl) ?_
  refine lv_iload hx hb dL_law_626 (lv_at hl 5 rfl) ?_
  refine lv_iconst (v := nI 1) hx hb dL_law_628 (by decide) ?_
  refine an_add hx hb dL_law_629 ?_
  refine va_sld hx hb hXs hbl hbA hS (vp_in_nI (by omega) (by omega)) dL_law_630 ?_
  refine tp_i (y := xs (i + 1)) (congrArg xs (nI_clamp (by omega))) ?_
  have hPc : va_P D vwCl [(u, .inr (2, [.int e0, .int (nI n), .int (nI w), .ref c1, .ref c2, .ref c3, .ref c4, .int e7, .int e8, .int e9, .int e10])), (c1, .inl (cI, 40, .inl FM)), (c2, .inl (cI, 40, .inl V)), (c3, .inl (cI, 40, .inl O)), (c4, .inl (cI, 40, .inl Y))] H := hP.sub [8, 9, 10, 11, 12] rfl
  have hDc : va_D A [(u, .inr (2, [.int e0, .int (nI n), .int (nI w), .ref c1, .ref c2, .ref c3, .ref c4, .int e7, .int e8, .int e9, .int e10])), (c1, .inl (cI, 40, .inl FM)), (c2, .inl (cI, 40, .inl V)), (c3, .inl (cI, 40, .inl O)), (c4, .inl (cI, 40, .inl Y))] := hD.sub [8, 9, 10, 11, 12] (by decide) rfl
  have hFc := va_free (wc := [(u, .inr (2, [.int e0, .int (nI n), .int (nI w), .ref c1, .ref c2, .ref c3, .ref c4, .int e7, .int e8, .int e9, .int e10])), (c1, .inl (cI, 40, .inl FM)), (c2, .inl (cI, 40, .inl V)), (c3, .inl (cI, 40, .inl O)), (c4, .inl (cI, 40, .inl Y))]) hD hS hA [8, 9, 10, 11, 12] rfl
  refine pq_i (va_runV (rest := []) CF (m_X2_find l D cI u c1 c2 c3 c4 M O Y e0 e7 e8 e9 e10 (xs (i + 1)) H.size) (cwV 1 hts gL_law_X2_find rfl rfl rfl k_X2_find ⟨Nat.le_of_ble_eq_true rfl, Nat.le_of_ble_eq_true rfl⟩) (mv_pre hK hPc hDc rfl rfl rfl) rfl rfl hl.1 rfl (lv_room (Nat.le_of_ble_eq_true rfl)) dL_law_631 ⟨by show _ ≤ 638288; omega, by show _ ≤ 7181241; omega⟩) hS hFc (fun r2 H locs hB hk1 hS => ?_)
  obtain ⟨c9, d7, d8, d9, d10, hQ2, hP1⟩ := hB
  obtain ⟨hP, hD⟩ := jn (wb := [(o, .inr (1, [.ref r, .ref t])), (r, .inr (0, [.ref a1, .ref a2, .int (nI n), .int (nI w)])), (a1, .inl (cI, 40, .inl F)), (a2, .inl (cI, 40, .inl G)), (t, .inr (0, [.ref b1, .ref b2, .int (nI n2), .int (nI w2)])), (b1, .inl (cI, 40, .inl F2)), (b2, .inl (cI, 40, .inl G2)), (ot, .inl (cJ, 1, .inr (.inl B1))), (u, .inr (2, [.int c9, .int (nI n), .int (nI w), .ref c1, .ref c2, .ref c3, .ref c4, .int d7, .int d8, .int d9, .int d10])), (c1, .inl (cI, 40, .inl FM)), (c2, .inl (cI, 40, .inl V)), (c3, .inl (cI, 40, .inl O)), (c4, .inl (cI, 40, .inl Y))]) (w1 := [(u, .inr (2, [.int c9, .int (nI n), .int (nI w), .ref c1, .ref c2, .ref c3, .ref c4, .int d7, .int d8, .int d9, .int d10])), (c1, .inl (cI, 40, .inl FM)), (c2, .inl (cI, 40, .inl V)), (c3, .inl (cI, 40, .inl O)), (c4, .inl (cI, 40, .inl Y))]) hP hD [8, 9, 10, 11, 12] [0, 1, 2, 3, 4, 5, 6, 7] rfl rfl rfl rfl 13 rfl (by decide) (by decide) hk1 hP1
  obtain ⟨hcc, hrr⟩ := Q1.rn hQ1 hQ2
  refine lv_istore (lv' := [(6, .int r2), (5, .int r1), (0, .ref b), (1, .ref o), (2, .ref u), (3, .ref ot), (4, .int (nI i))]) hx hb dL_law_634 hl (by decide) rfl (fun ls hl => ?_)
  refine lv_aload_n hx hb dL_law_636 rfl (lv_at hl 4 rfl) ?_
  refine pv_i CF (m_X2_thrown l D cI u c1 c2 c3 c4 M O Y c9 d7 d8 d9 d10) (cwV 0 hts gL_law_X2_thrown rfl rfl rfl k_X2_thrown ⟨Nat.le_of_ble_eq_true rfl, Nat.le_of_ble_eq_true rfl⟩) hK (hP.sub [8, 9, 10, 11, 12] rfl) rfl rfl rfl rfl hl.1 rfl (Nat.le_of_ble_eq_true rfl) dL_law_637 ⟨by show _ ≤ 638288; omega, by show _ ≤ 7181241; omega⟩ ?_
  refine lv_iload hx hb dL_law_640 (lv_at hl 1 rfl) ?_
  refine lv_icmp_eq (tgt := 647) hx hb dL_law_642 (by decide) (fun c642 => ?_) (fun c642 => ?_)
  · skip
    refine lv_iload hx hb dL_law_647 (lv_at hl 1 rfl) ?_
    refine lv_if_ne (tgt := 664) hx hb dL_law_649 (by decide) (fun c649 => ?_) (fun c649 => ?_)
    · skip
      refine lv_goto (tgt := 1147) hx hb dL_law_664 (by decide) ?_
      refine w_widen (k := kc + 50) (n := ks + 300) (by omega) (by omega) ?_
      exact hk _ _ _ _ _ _ _ _ _ _ _ _ _ _ _ _ _ _ _ _ _ _ _ _ _ _ _ _ _ _ _ _ _ _ _ _ S M hP hD hS (lv_sub hl [2, 3, 4, 5, 6] rfl)
    · skip
      refine lv_aload_n hx hb dL_law_652 rfl (lv_at hl 5 rfl) ?_
      refine lv_iconst (v := nI 0) hx hb dL_law_653 (by decide) ?_
      refine va_lald hx hb hKw hP 7 1 rfl rfl (vp_in_nI (by decide) (by decide)) dL_law_654 ?_
      refine tp_l (y := ra.toInt64) (by rw [nI_clamp (by decide)]; exact hBv (c649.trans (by decide))) ?_
      refine lv_iload hx hb dL_law_655 (lv_at hl 0 rfl) ?_
      refine lv_i2l hx hb dL_law_657 rfl ?_
      refine lw_lcmp hx hb (congrArg Int32.toInt64 (hrr (c649.trans (by decide)))) dL_law_658 ?_
      refine lv_if_eq (tgt := 664) hx hb dL_law_659 (by decide) (fun c659 => ?_) (fun c659 => ?_)
      · skip
        refine lv_goto (tgt := 1147) hx hb dL_law_664 (by decide) ?_
        refine w_widen (k := kc + 50) (n := ks + 300) (by omega) (by omega) ?_
        exact hk _ _ _ _ _ _ _ _ _ _ _ _ _ _ _ _ _ _ _ _ _ _ _ _ _ _ _ _ _ _ _ _ _ _ _ _ S M hP hD hS (lv_sub hl [2, 3, 4, 5, 6] rfl)
      · skip
        exact absurd rfl c659
  · skip
    exact absurd hcc.symm c642
set_option maxHeartbeats 4000000 in
set_option maxRecDepth 100000 in
theorem law_c14 {p : Program} {l : Launch} {e : Env} {s : State} {m : MethodId} {below : List Frame} {meth : Method} {c : Code} {b L : Nat} {xs : Nat → Int32} {D : va_G} {cI cJ : ClassId} {A : Nat → Prop} {Q : State → Prop} (F9 : LF p l s m meth c b L xs D cI cJ A) {i kc ks : Nat} (hi : i + 3 ≤ L) (hkc : kc + 50 ≤ 638288) (hks : ks + 300 ≤ 7181241) (hk : LG p l e s m below meth c b D cI cJ A Q 1147 i (kc + 50) (ks + 300)) : LG p l e s m below meth c b D cI cJ A Q 667 i kc ks := by
  obtain ⟨CF, hXs, hbl, hbA, hA, hKw, hXS, hZ, hN, hlt, hL⟩ := id F9
  obtain ⟨hx, hb, hml, hown, hts⟩ := id CF
  have hK : va_K D vwCl [(cI, .int)] s := hKw.sub [0] rfl
  intro o r t a1 a2 b1 b2 ot u c1 c2 c3 c4 n w n2 w2 F G f g F2 G2 FM V O Y B e0 e7 e8 e9 e10 H locs ls S M hP hD hS hl
  obtain ⟨hn3, hn, hw2, -, -, -⟩ := id S
  have hP : va_P D vwCl [(o, .inr (1, [.ref r, .ref t])), (r, .inr (0, [.ref a1, .ref a2, .int (nI n), .int (nI w)])), (a1, .inl (cI, 40, .inl F)), (a2, .inl (cI, 40, .inl G)), (t, .inr (0, [.ref b1, .ref b2, .int (nI n2), .int (nI w2)])), (b1, .inl (cI, 40, .inl F2)), (b2, .inl (cI, 40, .inl G2)), (ot, .inl (cJ, 1, .inr (.inl B))), (u, .inr (2, [.int e0, .int (nI n), .int (nI w), .ref c1, .ref c2, .ref c3, .ref c4, .int e7, .int e8, .int e9, .int e10])), (c1, .inl (cI, 40, .inl FM)), (c2, .inl (cI, 40, .inl V)), (c3, .inl (cI, 40, .inl O)), (c4, .inl (cI, 40, .inl Y))] H := hP
  have hD : va_D A [(o, .inr (1, [.ref r, .ref t])), (r, .inr (0, [.ref a1, .ref a2, .int (nI n), .int (nI w)])), (a1, .inl (cI, 40, .inl F)), (a2, .inl (cI, 40, .inl G)), (t, .inr (0, [.ref b1, .ref b2, .int (nI n2), .int (nI w2)])), (b1, .inl (cI, 40, .inl F2)), (b2, .inl (cI, 40, .inl G2)), (ot, .inl (cJ, 1, .inr (.inl B))), (u, .inr (2, [.int e0, .int (nI n), .int (nI w), .ref c1, .ref c2, .ref c3, .ref c4, .int e7, .int e8, .int e9, .int e10])), (c1, .inl (cI, 40, .inl FM)), (c2, .inl (cI, 40, .inl V)), (c3, .inl (cI, 40, .inl O)), (c4, .inl (cI, 40, .inl Y))] := hD
  refine lv_aload_n hx hb dL_law_667 rfl (lv_at hl 1 rfl) ?_
  refine lv_aload_n hx hb dL_law_668 rfl (lv_at hl 0 rfl) ?_
  refine lv_iload hx hb dL_law_669 (lv_at hl 4 rfl) ?_
  refine lv_iconst (v := nI 1) hx hb dL_law_671 (by decide) ?_
  refine an_add hx hb dL_law_672 ?_
  refine va_sld hx hb hXs hbl hbA hS (vp_in_nI (by omega) (by omega)) dL_law_673 ?_
  refine tp_i (y := xs (i + 1)) (congrArg xs (nI_clamp (by omega))) ?_
  refine lv_aload_n hx hb dL_law_674 rfl (lv_at hl 3 rfl) ?_
  have hPc : va_P D vwCl [(o, .inr (1, [.ref r, .ref t])), (r, .inr (0, [.ref a1, .ref a2, .int (nI n), .int (nI w)])), (a1, .inl (cI, 40, .inl F)), (a2, .inl (cI, 40, .inl G)), (t, .inr (0, [.ref b1, .ref b2, .int (nI n2), .int (nI w2)])), (b1, .inl (cI, 40, .inl F2)), (b2, .inl (cI, 40, .inl G2)), (ot, .inl (cJ, 1, .inr (.inl B)))] H := hP.sub [0, 1, 2, 3, 4, 5, 6, 7] rfl
  have hDc : va_D A [(o, .inr (1, [.ref r, .ref t])), (r, .inr (0, [.ref a1, .ref a2, .int (nI n), .int (nI w)])), (a1, .inl (cI, 40, .inl F)), (a2, .inl (cI, 40, .inl G)), (t, .inr (0, [.ref b1, .ref b2, .int (nI n2), .int (nI w2)])), (b1, .inl (cI, 40, .inl F2)), (b2, .inl (cI, 40, .inl G2)), (ot, .inl (cJ, 1, .inr (.inl B)))] := hD.sub [0, 1, 2, 3, 4, 5, 6, 7] (by decide) rfl
  have hFc := va_free (wc := [(o, .inr (1, [.ref r, .ref t])), (r, .inr (0, [.ref a1, .ref a2, .int (nI n), .int (nI w)])), (a1, .inl (cI, 40, .inl F)), (a2, .inl (cI, 40, .inl G)), (t, .inr (0, [.ref b1, .ref b2, .int (nI n2), .int (nI w2)])), (b1, .inl (cI, 40, .inl F2)), (b2, .inl (cI, 40, .inl G2)), (ot, .inl (cJ, 1, .inr (.inl B)))]) hD hS hA [0, 1, 2, 3, 4, 5, 6, 7] rfl
  refine pq_i (vx_runSW (rest := []) CF (m_L_looksFor l hlt D cI cJ o r t a1 a2 b1 b2 ot S n2 w2 F2 G2 B (xs (i + 1)) H.size) (vx_cwSW 3 hts gL_law_L_looksFor rfl rfl rfl k_L_looksFor.2 ⟨Nat.le_of_ble_eq_true rfl, Nat.le_of_ble_eq_true rfl⟩) (pl_pre hKw hPc hDc hXS (hZ.kept hS.2.1) hFc hN) rfl rfl hl.1 rfl (lv_room (Nat.le_of_ble_eq_true rfl)) dL_law_675 ⟨by show _ ≤ 638288; omega, by show _ ≤ 7181241; omega⟩) hS hFc (fun r1 H locs hB hk1 hS => ?_)
  obtain ⟨B1, ra, hQ1, hBv, hP1⟩ := hB
  obtain ⟨hP, hD⟩ := jn (wb := [(o, .inr (1, [.ref r, .ref t])), (r, .inr (0, [.ref a1, .ref a2, .int (nI n), .int (nI w)])), (a1, .inl (cI, 40, .inl F)), (a2, .inl (cI, 40, .inl G)), (t, .inr (0, [.ref b1, .ref b2, .int (nI n2), .int (nI w2)])), (b1, .inl (cI, 40, .inl F2)), (b2, .inl (cI, 40, .inl G2)), (ot, .inl (cJ, 1, .inr (.inl B1))), (u, .inr (2, [.int e0, .int (nI n), .int (nI w), .ref c1, .ref c2, .ref c3, .ref c4, .int e7, .int e8, .int e9, .int e10])), (c1, .inl (cI, 40, .inl FM)), (c2, .inl (cI, 40, .inl V)), (c3, .inl (cI, 40, .inl O)), (c4, .inl (cI, 40, .inl Y))]) (w1 := [(o, .inr (1, [.ref r, .ref t])), (r, .inr (0, [.ref a1, .ref a2, .int (nI n), .int (nI w)])), (a1, .inl (cI, 40, .inl F)), (a2, .inl (cI, 40, .inl G)), (t, .inr (0, [.ref b1, .ref b2, .int (nI n2), .int (nI w2)])), (b1, .inl (cI, 40, .inl F2)), (b2, .inl (cI, 40, .inl G2)), (ot, .inl (cJ, 1, .inr (.inl B1)))]) hP hD [0, 1, 2, 3, 4, 5, 6, 7] [8, 9, 10, 11, 12] rfl rfl rfl rfl 13 rfl (by decide) (by decide) hk1 hP1
  refine lv_istore (lv' := [(5, .int r1), (0, .ref b), (1, .ref o), (2, .ref u), (3, .ref ot), (4, .int (nI i))]) hx hb dL_law_678 hl (by decide) rfl (fun ls hl => ?_)
  refine lv_aload_n hx hb dL_law_680 rfl (lv_at hl 3 rfl) ?_
  refine lv_aload_n hx hb dL_law_681 rfl (lv_at hl 1 rfl) ?_
  refine lv_iload hx hb dL_law_682 (lv_at hl 5 rfl) ?_
  refine lv_iconst (v := nI 1) hx hb dL_law_684 (by decide) ?_
  refine an_add hx hb dL_law_685 ?_
  refine va_sld hx hb hXs hbl hbA hS (vp_in_nI (by omega) (by omega)) dL_law_686 ?_
  refine tp_i (y := xs (i + 1)) (congrArg xs (nI_clamp (by omega))) ?_
  have hPc : va_P D vwCl [(u, .inr (2, [.int e0, .int (nI n), .int (nI w), .ref c1, .ref c2, .ref c3, .ref c4, .int e7, .int e8, .int e9, .int e10])), (c1, .inl (cI, 40, .inl FM)), (c2, .inl (cI, 40, .inl V)), (c3, .inl (cI, 40, .inl O)), (c4, .inl (cI, 40, .inl Y))] H := hP.sub [8, 9, 10, 11, 12] rfl
  have hDc : va_D A [(u, .inr (2, [.int e0, .int (nI n), .int (nI w), .ref c1, .ref c2, .ref c3, .ref c4, .int e7, .int e8, .int e9, .int e10])), (c1, .inl (cI, 40, .inl FM)), (c2, .inl (cI, 40, .inl V)), (c3, .inl (cI, 40, .inl O)), (c4, .inl (cI, 40, .inl Y))] := hD.sub [8, 9, 10, 11, 12] (by decide) rfl
  have hFc := va_free (wc := [(u, .inr (2, [.int e0, .int (nI n), .int (nI w), .ref c1, .ref c2, .ref c3, .ref c4, .int e7, .int e8, .int e9, .int e10])), (c1, .inl (cI, 40, .inl FM)), (c2, .inl (cI, 40, .inl V)), (c3, .inl (cI, 40, .inl O)), (c4, .inl (cI, 40, .inl Y))]) hD hS hA [8, 9, 10, 11, 12] rfl
  refine pq_i (va_runV (rest := []) CF (m_X2_looksFor l D cI u c1 c2 c3 c4 M O Y e0 e7 e8 e9 e10 (xs (i + 1)) H.size) (cwV 1 hts gL_law_X2_looksFor rfl rfl rfl k_X2_looksFor ⟨Nat.le_of_ble_eq_true rfl, Nat.le_of_ble_eq_true rfl⟩) (mv_pre hK hPc hDc rfl rfl rfl) rfl rfl hl.1 rfl (lv_room (Nat.le_of_ble_eq_true rfl)) dL_law_687 ⟨by show _ ≤ 638288; omega, by show _ ≤ 7181241; omega⟩) hS hFc (fun r2 H locs hB hk1 hS => ?_)
  obtain ⟨c9, d7, d8, d9, d10, hQ2, hP1⟩ := hB
  obtain ⟨hP, hD⟩ := jn (wb := [(o, .inr (1, [.ref r, .ref t])), (r, .inr (0, [.ref a1, .ref a2, .int (nI n), .int (nI w)])), (a1, .inl (cI, 40, .inl F)), (a2, .inl (cI, 40, .inl G)), (t, .inr (0, [.ref b1, .ref b2, .int (nI n2), .int (nI w2)])), (b1, .inl (cI, 40, .inl F2)), (b2, .inl (cI, 40, .inl G2)), (ot, .inl (cJ, 1, .inr (.inl B1))), (u, .inr (2, [.int c9, .int (nI n), .int (nI w), .ref c1, .ref c2, .ref c3, .ref c4, .int d7, .int d8, .int d9, .int d10])), (c1, .inl (cI, 40, .inl FM)), (c2, .inl (cI, 40, .inl V)), (c3, .inl (cI, 40, .inl O)), (c4, .inl (cI, 40, .inl Y))]) (w1 := [(u, .inr (2, [.int c9, .int (nI n), .int (nI w), .ref c1, .ref c2, .ref c3, .ref c4, .int d7, .int d8, .int d9, .int d10])), (c1, .inl (cI, 40, .inl FM)), (c2, .inl (cI, 40, .inl V)), (c3, .inl (cI, 40, .inl O)), (c4, .inl (cI, 40, .inl Y))]) hP hD [8, 9, 10, 11, 12] [0, 1, 2, 3, 4, 5, 6, 7] rfl rfl rfl rfl 13 rfl (by decide) (by decide) hk1 hP1
  obtain ⟨hcc, hrr⟩ := Q1.rn hQ1 hQ2
  refine lv_istore (lv' := [(6, .int r2), (5, .int r1), (0, .ref b), (1, .ref o), (2, .ref u), (3, .ref ot), (4, .int (nI i))]) hx hb dL_law_690 hl (by decide) rfl (fun ls hl => ?_)
  refine lv_aload_n hx hb dL_law_692 rfl (lv_at hl 4 rfl) ?_
  refine pv_i CF (m_X2_thrown l D cI u c1 c2 c3 c4 M O Y c9 d7 d8 d9 d10) (cwV 0 hts gL_law_X2_thrown rfl rfl rfl k_X2_thrown ⟨Nat.le_of_ble_eq_true rfl, Nat.le_of_ble_eq_true rfl⟩) hK (hP.sub [8, 9, 10, 11, 12] rfl) rfl rfl rfl rfl hl.1 rfl (Nat.le_of_ble_eq_true rfl) dL_law_693 ⟨by show _ ≤ 638288; omega, by show _ ≤ 7181241; omega⟩ ?_
  refine lv_iload hx hb dL_law_696 (lv_at hl 1 rfl) ?_
  refine lv_icmp_eq (tgt := 703) hx hb dL_law_698 (by decide) (fun c698 => ?_) (fun c698 => ?_)
  · skip
    refine lv_iload hx hb dL_law_703 (lv_at hl 1 rfl) ?_
    refine lv_if_ne (tgt := 720) hx hb dL_law_705 (by decide) (fun c705 => ?_) (fun c705 => ?_)
    · skip
      refine lv_goto (tgt := 1147) hx hb dL_law_720 (by decide) ?_
      refine w_widen (k := kc + 50) (n := ks + 300) (by omega) (by omega) ?_
      exact hk _ _ _ _ _ _ _ _ _ _ _ _ _ _ _ _ _ _ _ _ _ _ _ _ _ _ _ _ _ _ _ _ _ _ _ _ S M hP hD hS (lv_sub hl [2, 3, 4, 5, 6] rfl)
    · skip
      refine lv_aload_n hx hb dL_law_708 rfl (lv_at hl 5 rfl) ?_
      refine lv_iconst (v := nI 0) hx hb dL_law_709 (by decide) ?_
      refine va_lald hx hb hKw hP 7 1 rfl rfl (vp_in_nI (by decide) (by decide)) dL_law_710 ?_
      refine tp_l (y := ra.toInt64) (by rw [nI_clamp (by decide)]; exact hBv (c705.trans (by decide))) ?_
      refine lv_iload hx hb dL_law_711 (lv_at hl 0 rfl) ?_
      refine lv_i2l hx hb dL_law_713 rfl ?_
      refine lw_lcmp hx hb (congrArg Int32.toInt64 (hrr (c705.trans (by decide)))) dL_law_714 ?_
      refine lv_if_eq (tgt := 720) hx hb dL_law_715 (by decide) (fun c715 => ?_) (fun c715 => ?_)
      · skip
        refine lv_goto (tgt := 1147) hx hb dL_law_720 (by decide) ?_
        refine w_widen (k := kc + 50) (n := ks + 300) (by omega) (by omega) ?_
        exact hk _ _ _ _ _ _ _ _ _ _ _ _ _ _ _ _ _ _ _ _ _ _ _ _ _ _ _ _ _ _ _ _ _ _ _ _ S M hP hD hS (lv_sub hl [2, 3, 4, 5, 6] rfl)
      · skip
        exact absurd rfl c715
  · skip
    exact absurd hcc.symm c698
set_option maxHeartbeats 4000000 in
set_option maxRecDepth 100000 in
theorem law_c15 {p : Program} {l : Launch} {e : Env} {s : State} {m : MethodId} {below : List Frame} {meth : Method} {c : Code} {b L : Nat} {xs : Nat → Int32} {D : va_G} {cI cJ : ClassId} {A : Nat → Prop} {Q : State → Prop} (F9 : LF p l s m meth c b L xs D cI cJ A) {i kc ks : Nat} (hi : i + 3 ≤ L) (hkc : kc + 50 ≤ 638288) (hks : ks + 300 ≤ 7181241) (hk : LG p l e s m below meth c b D cI cJ A Q 1147 i (kc + 50) (ks + 300)) : LG p l e s m below meth c b D cI cJ A Q 723 i kc ks := by
  obtain ⟨CF, hXs, hbl, hbA, hA, hKw, hXS, hZ, hN, hlt, hL⟩ := id F9
  obtain ⟨hx, hb, hml, hown, hts⟩ := id CF
  have hK : va_K D vwCl [(cI, .int)] s := hKw.sub [0] rfl
  intro o r t a1 a2 b1 b2 ot u c1 c2 c3 c4 n w n2 w2 F G f g F2 G2 FM V O Y B e0 e7 e8 e9 e10 H locs ls S M hP hD hS hl
  obtain ⟨hn3, hn, hw2, -, -, -⟩ := id S
  have hP : va_P D vwCl [(o, .inr (1, [.ref r, .ref t])), (r, .inr (0, [.ref a1, .ref a2, .int (nI n), .int (nI w)])), (a1, .inl (cI, 40, .inl F)), (a2, .inl (cI, 40, .inl G)), (t, .inr (0, [.ref b1, .ref b2, .int (nI n2), .int (nI w2)])), (b1, .inl (cI, 40, .inl F2)), (b2, .inl (cI, 40, .inl G2)), (ot, .inl (cJ, 1, .inr (.inl B))), (u, .inr (2, [.int e0, .int (nI n), .int (nI w), .ref c1, .ref c2, .ref c3, .ref c4, .int e7, .int e8, .int e9, .int e10])), (c1, .inl (cI, 40, .inl FM)), (c2, .inl (cI, 40, .inl V)), (c3, .inl (cI, 40, .inl O)), (c4, .inl (cI, 40, .inl Y))] H := hP
  have hD : va_D A [(o, .inr (1, [.ref r, .ref t])), (r, .inr (0, [.ref a1, .ref a2, .int (nI n), .int (nI w)])), (a1, .inl (cI, 40, .inl F)), (a2, .inl (cI, 40, .inl G)), (t, .inr (0, [.ref b1, .ref b2, .int (nI n2), .int (nI w2)])), (b1, .inl (cI, 40, .inl F2)), (b2, .inl (cI, 40, .inl G2)), (ot, .inl (cJ, 1, .inr (.inl B))), (u, .inr (2, [.int e0, .int (nI n), .int (nI w), .ref c1, .ref c2, .ref c3, .ref c4, .int e7, .int e8, .int e9, .int e10])), (c1, .inl (cI, 40, .inl FM)), (c2, .inl (cI, 40, .inl V)), (c3, .inl (cI, 40, .inl O)), (c4, .inl (cI, 40, .inl Y))] := hD
  refine lv_aload_n hx hb dL_law_723 rfl (lv_at hl 1 rfl) ?_
  refine lv_aload_n hx hb dL_law_724 rfl (lv_at hl 0 rfl) ?_
  refine lv_iload hx hb dL_law_725 (lv_at hl 4 rfl) ?_
  refine lv_iconst (v := nI 1) hx hb dL_law_727 (by decide) ?_
  refine an_add hx hb dL_law_728 ?_
  refine va_sld hx hb hXs hbl hbA hS (vp_in_nI (by omega) (by omega)) dL_law_729 ?_
  refine tp_i (y := xs (i + 1)) (congrArg xs (nI_clamp (by omega))) ?_
  refine lv_aload_n hx hb dL_law_730 rfl (lv_at hl 3 rfl) ?_
  have hPc : va_P D vwCl [(o, .inr (1, [.ref r, .ref t])), (r, .inr (0, [.ref a1, .ref a2, .int (nI n), .int (nI w)])), (a1, .inl (cI, 40, .inl F)), (a2, .inl (cI, 40, .inl G)), (t, .inr (0, [.ref b1, .ref b2, .int (nI n2), .int (nI w2)])), (b1, .inl (cI, 40, .inl F2)), (b2, .inl (cI, 40, .inl G2)), (ot, .inl (cJ, 1, .inr (.inl B)))] H := hP.sub [0, 1, 2, 3, 4, 5, 6, 7] rfl
  have hDc : va_D A [(o, .inr (1, [.ref r, .ref t])), (r, .inr (0, [.ref a1, .ref a2, .int (nI n), .int (nI w)])), (a1, .inl (cI, 40, .inl F)), (a2, .inl (cI, 40, .inl G)), (t, .inr (0, [.ref b1, .ref b2, .int (nI n2), .int (nI w2)])), (b1, .inl (cI, 40, .inl F2)), (b2, .inl (cI, 40, .inl G2)), (ot, .inl (cJ, 1, .inr (.inl B)))] := hD.sub [0, 1, 2, 3, 4, 5, 6, 7] (by decide) rfl
  have hFc := va_free (wc := [(o, .inr (1, [.ref r, .ref t])), (r, .inr (0, [.ref a1, .ref a2, .int (nI n), .int (nI w)])), (a1, .inl (cI, 40, .inl F)), (a2, .inl (cI, 40, .inl G)), (t, .inr (0, [.ref b1, .ref b2, .int (nI n2), .int (nI w2)])), (b1, .inl (cI, 40, .inl F2)), (b2, .inl (cI, 40, .inl G2)), (ot, .inl (cJ, 1, .inr (.inl B)))]) hD hS hA [0, 1, 2, 3, 4, 5, 6, 7] rfl
  refine pq_i (vx_runSW (rest := []) CF (m_L_placeFor l hlt D cI cJ o r t a1 a2 b1 b2 ot S n2 w2 F2 G2 B (xs (i + 1)) H.size) (vx_cwSW 3 hts gL_law_L_placeFor rfl rfl rfl k_L_placeFor.2 ⟨Nat.le_of_ble_eq_true rfl, Nat.le_of_ble_eq_true rfl⟩) (pl_pre hKw hPc hDc hXS (hZ.kept hS.2.1) hFc hN) rfl rfl hl.1 rfl (lv_room (Nat.le_of_ble_eq_true rfl)) dL_law_731 ⟨by show _ ≤ 638288; omega, by show _ ≤ 7181241; omega⟩) hS hFc (fun r1 H locs hB hk1 hS => ?_)
  obtain ⟨B1, ra, hQ1, hBv, hP1⟩ := hB
  obtain ⟨hP, hD⟩ := jn (wb := [(o, .inr (1, [.ref r, .ref t])), (r, .inr (0, [.ref a1, .ref a2, .int (nI n), .int (nI w)])), (a1, .inl (cI, 40, .inl F)), (a2, .inl (cI, 40, .inl G)), (t, .inr (0, [.ref b1, .ref b2, .int (nI n2), .int (nI w2)])), (b1, .inl (cI, 40, .inl F2)), (b2, .inl (cI, 40, .inl G2)), (ot, .inl (cJ, 1, .inr (.inl B1))), (u, .inr (2, [.int e0, .int (nI n), .int (nI w), .ref c1, .ref c2, .ref c3, .ref c4, .int e7, .int e8, .int e9, .int e10])), (c1, .inl (cI, 40, .inl FM)), (c2, .inl (cI, 40, .inl V)), (c3, .inl (cI, 40, .inl O)), (c4, .inl (cI, 40, .inl Y))]) (w1 := [(o, .inr (1, [.ref r, .ref t])), (r, .inr (0, [.ref a1, .ref a2, .int (nI n), .int (nI w)])), (a1, .inl (cI, 40, .inl F)), (a2, .inl (cI, 40, .inl G)), (t, .inr (0, [.ref b1, .ref b2, .int (nI n2), .int (nI w2)])), (b1, .inl (cI, 40, .inl F2)), (b2, .inl (cI, 40, .inl G2)), (ot, .inl (cJ, 1, .inr (.inl B1)))]) hP hD [0, 1, 2, 3, 4, 5, 6, 7] [8, 9, 10, 11, 12] rfl rfl rfl rfl 13 rfl (by decide) (by decide) hk1 hP1
  refine lv_istore (lv' := [(5, .int r1), (0, .ref b), (1, .ref o), (2, .ref u), (3, .ref ot), (4, .int (nI i))]) hx hb dL_law_734 hl (by decide) rfl (fun ls hl => ?_)
  refine lv_aload_n hx hb dL_law_736 rfl (lv_at hl 3 rfl) ?_
  refine lv_aload_n hx hb dL_law_737 rfl (lv_at hl 1 rfl) ?_
  refine lv_iload hx hb dL_law_738 (lv_at hl 5 rfl) ?_
  refine lv_iconst (v := nI 1) hx hb dL_law_740 (by decide) ?_
  refine an_add hx hb dL_law_741 ?_
  refine va_sld hx hb hXs hbl hbA hS (vp_in_nI (by omega) (by omega)) dL_law_742 ?_
  refine tp_i (y := xs (i + 1)) (congrArg xs (nI_clamp (by omega))) ?_
  have hPc : va_P D vwCl [(u, .inr (2, [.int e0, .int (nI n), .int (nI w), .ref c1, .ref c2, .ref c3, .ref c4, .int e7, .int e8, .int e9, .int e10])), (c1, .inl (cI, 40, .inl FM)), (c2, .inl (cI, 40, .inl V)), (c3, .inl (cI, 40, .inl O)), (c4, .inl (cI, 40, .inl Y))] H := hP.sub [8, 9, 10, 11, 12] rfl
  have hDc : va_D A [(u, .inr (2, [.int e0, .int (nI n), .int (nI w), .ref c1, .ref c2, .ref c3, .ref c4, .int e7, .int e8, .int e9, .int e10])), (c1, .inl (cI, 40, .inl FM)), (c2, .inl (cI, 40, .inl V)), (c3, .inl (cI, 40, .inl O)), (c4, .inl (cI, 40, .inl Y))] := hD.sub [8, 9, 10, 11, 12] (by decide) rfl
  have hFc := va_free (wc := [(u, .inr (2, [.int e0, .int (nI n), .int (nI w), .ref c1, .ref c2, .ref c3, .ref c4, .int e7, .int e8, .int e9, .int e10])), (c1, .inl (cI, 40, .inl FM)), (c2, .inl (cI, 40, .inl V)), (c3, .inl (cI, 40, .inl O)), (c4, .inl (cI, 40, .inl Y))]) hD hS hA [8, 9, 10, 11, 12] rfl
  refine pq_i (va_runV (rest := []) CF (m_X2_placeFor l D cI u c1 c2 c3 c4 M O Y e0 e7 e8 e9 e10 (xs (i + 1)) H.size) (cwV 1 hts gL_law_X2_placeFor rfl rfl rfl k_X2_placeFor ⟨Nat.le_of_ble_eq_true rfl, Nat.le_of_ble_eq_true rfl⟩) (mv_pre hK hPc hDc rfl rfl rfl) rfl rfl hl.1 rfl (lv_room (Nat.le_of_ble_eq_true rfl)) dL_law_743 ⟨by show _ ≤ 638288; omega, by show _ ≤ 7181241; omega⟩) hS hFc (fun r2 H locs hB hk1 hS => ?_)
  obtain ⟨c9, d7, d8, d9, d10, hQ2, hP1⟩ := hB
  obtain ⟨hP, hD⟩ := jn (wb := [(o, .inr (1, [.ref r, .ref t])), (r, .inr (0, [.ref a1, .ref a2, .int (nI n), .int (nI w)])), (a1, .inl (cI, 40, .inl F)), (a2, .inl (cI, 40, .inl G)), (t, .inr (0, [.ref b1, .ref b2, .int (nI n2), .int (nI w2)])), (b1, .inl (cI, 40, .inl F2)), (b2, .inl (cI, 40, .inl G2)), (ot, .inl (cJ, 1, .inr (.inl B1))), (u, .inr (2, [.int c9, .int (nI n), .int (nI w), .ref c1, .ref c2, .ref c3, .ref c4, .int d7, .int d8, .int d9, .int d10])), (c1, .inl (cI, 40, .inl FM)), (c2, .inl (cI, 40, .inl V)), (c3, .inl (cI, 40, .inl O)), (c4, .inl (cI, 40, .inl Y))]) (w1 := [(u, .inr (2, [.int c9, .int (nI n), .int (nI w), .ref c1, .ref c2, .ref c3, .ref c4, .int d7, .int d8, .int d9, .int d10])), (c1, .inl (cI, 40, .inl FM)), (c2, .inl (cI, 40, .inl V)), (c3, .inl (cI, 40, .inl O)), (c4, .inl (cI, 40, .inl Y))]) hP hD [8, 9, 10, 11, 12] [0, 1, 2, 3, 4, 5, 6, 7] rfl rfl rfl rfl 13 rfl (by decide) (by decide) hk1 hP1
  obtain ⟨hcc, hrr⟩ := Q1.rn hQ1 hQ2
  refine lv_istore (lv' := [(6, .int r2), (5, .int r1), (0, .ref b), (1, .ref o), (2, .ref u), (3, .ref ot), (4, .int (nI i))]) hx hb dL_law_746 hl (by decide) rfl (fun ls hl => ?_)
  refine lv_aload_n hx hb dL_law_748 rfl (lv_at hl 4 rfl) ?_
  refine pv_i CF (m_X2_thrown l D cI u c1 c2 c3 c4 M O Y c9 d7 d8 d9 d10) (cwV 0 hts gL_law_X2_thrown rfl rfl rfl k_X2_thrown ⟨Nat.le_of_ble_eq_true rfl, Nat.le_of_ble_eq_true rfl⟩) hK (hP.sub [8, 9, 10, 11, 12] rfl) rfl rfl rfl rfl hl.1 rfl (Nat.le_of_ble_eq_true rfl) dL_law_749 ⟨by show _ ≤ 638288; omega, by show _ ≤ 7181241; omega⟩ ?_
  refine lv_iload hx hb dL_law_752 (lv_at hl 1 rfl) ?_
  refine lv_icmp_eq (tgt := 759) hx hb dL_law_754 (by decide) (fun c754 => ?_) (fun c754 => ?_)
  · skip
    refine lv_iload hx hb dL_law_759 (lv_at hl 1 rfl) ?_
    refine lv_if_ne (tgt := 776) hx hb dL_law_761 (by decide) (fun c761 => ?_) (fun c761 => ?_)
    · skip
      refine lv_goto (tgt := 1147) hx hb dL_law_776 (by decide) ?_
      refine w_widen (k := kc + 50) (n := ks + 300) (by omega) (by omega) ?_
      exact hk _ _ _ _ _ _ _ _ _ _ _ _ _ _ _ _ _ _ _ _ _ _ _ _ _ _ _ _ _ _ _ _ _ _ _ _ S M hP hD hS (lv_sub hl [2, 3, 4, 5, 6] rfl)
    · skip
      refine lv_aload_n hx hb dL_law_764 rfl (lv_at hl 5 rfl) ?_
      refine lv_iconst (v := nI 0) hx hb dL_law_765 (by decide) ?_
      refine va_lald hx hb hKw hP 7 1 rfl rfl (vp_in_nI (by decide) (by decide)) dL_law_766 ?_
      refine tp_l (y := ra.toInt64) (by rw [nI_clamp (by decide)]; exact hBv (c761.trans (by decide))) ?_
      refine lv_iload hx hb dL_law_767 (lv_at hl 0 rfl) ?_
      refine lv_i2l hx hb dL_law_769 rfl ?_
      refine lw_lcmp hx hb (congrArg Int32.toInt64 (hrr (c761.trans (by decide)))) dL_law_770 ?_
      refine lv_if_eq (tgt := 776) hx hb dL_law_771 (by decide) (fun c771 => ?_) (fun c771 => ?_)
      · skip
        refine lv_goto (tgt := 1147) hx hb dL_law_776 (by decide) ?_
        refine w_widen (k := kc + 50) (n := ks + 300) (by omega) (by omega) ?_
        exact hk _ _ _ _ _ _ _ _ _ _ _ _ _ _ _ _ _ _ _ _ _ _ _ _ _ _ _ _ _ _ _ _ _ _ _ _ S M hP hD hS (lv_sub hl [2, 3, 4, 5, 6] rfl)
      · skip
        exact absurd rfl c771
  · skip
    exact absurd hcc.symm c754
set_option maxHeartbeats 4000000 in
set_option maxRecDepth 100000 in
theorem law_c16 {p : Program} {l : Launch} {e : Env} {s : State} {m : MethodId} {below : List Frame} {meth : Method} {c : Code} {b L : Nat} {xs : Nat → Int32} {D : va_G} {cI cJ : ClassId} {A : Nat → Prop} {Q : State → Prop} (F9 : LF p l s m meth c b L xs D cI cJ A) {i kc ks : Nat} (hi : i + 3 ≤ L) (hkc : kc + 50 ≤ 638288) (hks : ks + 300 ≤ 7181241) (hk : LG p l e s m below meth c b D cI cJ A Q 1147 i (kc + 50) (ks + 300)) : LG p l e s m below meth c b D cI cJ A Q 779 i kc ks := by
  obtain ⟨CF, hXs, hbl, hbA, hA, hKw, hXS, hZ, hN, hlt, hL⟩ := id F9
  obtain ⟨hx, hb, hml, hown, hts⟩ := id CF
  have hK : va_K D vwCl [(cI, .int)] s := hKw.sub [0] rfl
  intro o r t a1 a2 b1 b2 ot u c1 c2 c3 c4 n w n2 w2 F G f g F2 G2 FM V O Y B e0 e7 e8 e9 e10 H locs ls S M hP hD hS hl
  obtain ⟨hn3, hn, hw2, -, -, -⟩ := id S
  have hP : va_P D vwCl [(o, .inr (1, [.ref r, .ref t])), (r, .inr (0, [.ref a1, .ref a2, .int (nI n), .int (nI w)])), (a1, .inl (cI, 40, .inl F)), (a2, .inl (cI, 40, .inl G)), (t, .inr (0, [.ref b1, .ref b2, .int (nI n2), .int (nI w2)])), (b1, .inl (cI, 40, .inl F2)), (b2, .inl (cI, 40, .inl G2)), (ot, .inl (cJ, 1, .inr (.inl B))), (u, .inr (2, [.int e0, .int (nI n), .int (nI w), .ref c1, .ref c2, .ref c3, .ref c4, .int e7, .int e8, .int e9, .int e10])), (c1, .inl (cI, 40, .inl FM)), (c2, .inl (cI, 40, .inl V)), (c3, .inl (cI, 40, .inl O)), (c4, .inl (cI, 40, .inl Y))] H := hP
  have hD : va_D A [(o, .inr (1, [.ref r, .ref t])), (r, .inr (0, [.ref a1, .ref a2, .int (nI n), .int (nI w)])), (a1, .inl (cI, 40, .inl F)), (a2, .inl (cI, 40, .inl G)), (t, .inr (0, [.ref b1, .ref b2, .int (nI n2), .int (nI w2)])), (b1, .inl (cI, 40, .inl F2)), (b2, .inl (cI, 40, .inl G2)), (ot, .inl (cJ, 1, .inr (.inl B))), (u, .inr (2, [.int e0, .int (nI n), .int (nI w), .ref c1, .ref c2, .ref c3, .ref c4, .int e7, .int e8, .int e9, .int e10])), (c1, .inl (cI, 40, .inl FM)), (c2, .inl (cI, 40, .inl V)), (c3, .inl (cI, 40, .inl O)), (c4, .inl (cI, 40, .inl Y))] := hD
  refine lv_aload_n hx hb dL_law_779 rfl (lv_at hl 1 rfl) ?_
  refine lv_aload_n hx hb dL_law_780 rfl (lv_at hl 0 rfl) ?_
  refine lv_iload hx hb dL_law_781 (lv_at hl 4 rfl) ?_
  refine lv_iconst (v := nI 1) hx hb dL_law_783 (by decide) ?_
  refine an_add hx hb dL_law_784 ?_
  refine va_sld hx hb hXs hbl hbA hS (vp_in_nI (by omega) (by omega)) dL_law_785 ?_
  refine tp_i (y := xs (i + 1)) (congrArg xs (nI_clamp (by omega))) ?_
  refine lv_aload_n hx hb dL_law_786 rfl (lv_at hl 0 rfl) ?_
  refine lv_iload hx hb dL_law_787 (lv_at hl 4 rfl) ?_
  refine lv_iconst (v := nI 2) hx hb dL_law_789 (by decide) ?_
  refine an_add hx hb dL_law_790 ?_
  refine va_sld hx hb hXs hbl hbA hS (vp_in_nI (by omega) (by omega)) dL_law_791 ?_
  refine tp_i (y := xs (i + 2)) (congrArg xs (nI_clamp (by omega))) ?_
  refine lv_aload_n hx hb dL_law_792 rfl (lv_at hl 3 rfl) ?_
  have hPc : va_P D vwCl [(o, .inr (1, [.ref r, .ref t])), (r, .inr (0, [.ref a1, .ref a2, .int (nI n), .int (nI w)])), (a1, .inl (cI, 40, .inl F)), (a2, .inl (cI, 40, .inl G)), (t, .inr (0, [.ref b1, .ref b2, .int (nI n2), .int (nI w2)])), (b1, .inl (cI, 40, .inl F2)), (b2, .inl (cI, 40, .inl G2)), (ot, .inl (cJ, 1, .inr (.inl B)))] H := hP.sub [0, 1, 2, 3, 4, 5, 6, 7] rfl
  have hDc : va_D A [(o, .inr (1, [.ref r, .ref t])), (r, .inr (0, [.ref a1, .ref a2, .int (nI n), .int (nI w)])), (a1, .inl (cI, 40, .inl F)), (a2, .inl (cI, 40, .inl G)), (t, .inr (0, [.ref b1, .ref b2, .int (nI n2), .int (nI w2)])), (b1, .inl (cI, 40, .inl F2)), (b2, .inl (cI, 40, .inl G2)), (ot, .inl (cJ, 1, .inr (.inl B)))] := hD.sub [0, 1, 2, 3, 4, 5, 6, 7] (by decide) rfl
  have hFc := va_free (wc := [(o, .inr (1, [.ref r, .ref t])), (r, .inr (0, [.ref a1, .ref a2, .int (nI n), .int (nI w)])), (a1, .inl (cI, 40, .inl F)), (a2, .inl (cI, 40, .inl G)), (t, .inr (0, [.ref b1, .ref b2, .int (nI n2), .int (nI w2)])), (b1, .inl (cI, 40, .inl F2)), (b2, .inl (cI, 40, .inl G2)), (ot, .inl (cJ, 1, .inr (.inl B)))]) hD hS hA [0, 1, 2, 3, 4, 5, 6, 7] rfl
  refine pq_i (vx_runSW (rest := []) CF (m_L_lookedAt l hlt D cI cJ o r t a1 a2 b1 b2 ot S n2 w2 F2 G2 B (xs (i + 1)) (xs (i + 2)) H.size) (vx_cwSW 4 hts gL_law_L_lookedAt rfl rfl rfl k_L_lookedAt.2 ⟨Nat.le_of_ble_eq_true rfl, Nat.le_of_ble_eq_true rfl⟩) (pl_pre hKw hPc hDc hXS (hZ.kept hS.2.1) hFc hN) rfl rfl hl.1 rfl (lv_room (Nat.le_of_ble_eq_true rfl)) dL_law_793 ⟨by show _ ≤ 638288; omega, by show _ ≤ 7181241; omega⟩) hS hFc (fun r1 H locs hB hk1 hS => ?_)
  obtain ⟨B1, ra, hQ1, hBv, hP1⟩ := hB
  obtain ⟨hP, hD⟩ := jn (wb := [(o, .inr (1, [.ref r, .ref t])), (r, .inr (0, [.ref a1, .ref a2, .int (nI n), .int (nI w)])), (a1, .inl (cI, 40, .inl F)), (a2, .inl (cI, 40, .inl G)), (t, .inr (0, [.ref b1, .ref b2, .int (nI n2), .int (nI w2)])), (b1, .inl (cI, 40, .inl F2)), (b2, .inl (cI, 40, .inl G2)), (ot, .inl (cJ, 1, .inr (.inl B1))), (u, .inr (2, [.int e0, .int (nI n), .int (nI w), .ref c1, .ref c2, .ref c3, .ref c4, .int e7, .int e8, .int e9, .int e10])), (c1, .inl (cI, 40, .inl FM)), (c2, .inl (cI, 40, .inl V)), (c3, .inl (cI, 40, .inl O)), (c4, .inl (cI, 40, .inl Y))]) (w1 := [(o, .inr (1, [.ref r, .ref t])), (r, .inr (0, [.ref a1, .ref a2, .int (nI n), .int (nI w)])), (a1, .inl (cI, 40, .inl F)), (a2, .inl (cI, 40, .inl G)), (t, .inr (0, [.ref b1, .ref b2, .int (nI n2), .int (nI w2)])), (b1, .inl (cI, 40, .inl F2)), (b2, .inl (cI, 40, .inl G2)), (ot, .inl (cJ, 1, .inr (.inl B1)))]) hP hD [0, 1, 2, 3, 4, 5, 6, 7] [8, 9, 10, 11, 12] rfl rfl rfl rfl 13 rfl (by decide) (by decide) hk1 hP1
  refine lv_istore (lv' := [(5, .int r1), (0, .ref b), (1, .ref o), (2, .ref u), (3, .ref ot), (4, .int (nI i))]) hx hb dL_law_796 hl (by decide) rfl (fun ls hl => ?_)
  refine lv_aload_n hx hb dL_law_798 rfl (lv_at hl 3 rfl) ?_
  refine lv_aload_n hx hb dL_law_799 rfl (lv_at hl 1 rfl) ?_
  refine lv_iload hx hb dL_law_800 (lv_at hl 5 rfl) ?_
  refine lv_iconst (v := nI 1) hx hb dL_law_802 (by decide) ?_
  refine an_add hx hb dL_law_803 ?_
  refine va_sld hx hb hXs hbl hbA hS (vp_in_nI (by omega) (by omega)) dL_law_804 ?_
  refine tp_i (y := xs (i + 1)) (congrArg xs (nI_clamp (by omega))) ?_
  refine lv_aload_n hx hb dL_law_805 rfl (lv_at hl 1 rfl) ?_
  refine lv_iload hx hb dL_law_806 (lv_at hl 5 rfl) ?_
  refine lv_iconst (v := nI 2) hx hb dL_law_808 (by decide) ?_
  refine an_add hx hb dL_law_809 ?_
  refine va_sld hx hb hXs hbl hbA hS (vp_in_nI (by omega) (by omega)) dL_law_810 ?_
  refine tp_i (y := xs (i + 2)) (congrArg xs (nI_clamp (by omega))) ?_
  have hPc : va_P D vwCl [(u, .inr (2, [.int e0, .int (nI n), .int (nI w), .ref c1, .ref c2, .ref c3, .ref c4, .int e7, .int e8, .int e9, .int e10])), (c1, .inl (cI, 40, .inl FM)), (c2, .inl (cI, 40, .inl V)), (c3, .inl (cI, 40, .inl O)), (c4, .inl (cI, 40, .inl Y))] H := hP.sub [8, 9, 10, 11, 12] rfl
  have hDc : va_D A [(u, .inr (2, [.int e0, .int (nI n), .int (nI w), .ref c1, .ref c2, .ref c3, .ref c4, .int e7, .int e8, .int e9, .int e10])), (c1, .inl (cI, 40, .inl FM)), (c2, .inl (cI, 40, .inl V)), (c3, .inl (cI, 40, .inl O)), (c4, .inl (cI, 40, .inl Y))] := hD.sub [8, 9, 10, 11, 12] (by decide) rfl
  have hFc := va_free (wc := [(u, .inr (2, [.int e0, .int (nI n), .int (nI w), .ref c1, .ref c2, .ref c3, .ref c4, .int e7, .int e8, .int e9, .int e10])), (c1, .inl (cI, 40, .inl FM)), (c2, .inl (cI, 40, .inl V)), (c3, .inl (cI, 40, .inl O)), (c4, .inl (cI, 40, .inl Y))]) hD hS hA [8, 9, 10, 11, 12] rfl
  refine pq_i (va_runV (rest := []) CF (m_X2_lookedAt l D cI u c1 c2 c3 c4 M O Y e0 e7 e8 e9 e10 (xs (i + 1)) (xs (i + 2)) H.size) (cwV 2 hts gL_law_X2_lookedAt rfl rfl rfl k_X2_lookedAt ⟨Nat.le_of_ble_eq_true rfl, Nat.le_of_ble_eq_true rfl⟩) (mv_pre hK hPc hDc rfl rfl rfl) rfl rfl hl.1 rfl (lv_room (Nat.le_of_ble_eq_true rfl)) dL_law_811 ⟨by show _ ≤ 638288; omega, by show _ ≤ 7181241; omega⟩) hS hFc (fun r2 H locs hB hk1 hS => ?_)
  obtain ⟨c9, hQ2, hP1⟩ := hB
  obtain ⟨hP, hD⟩ := jn (wb := [(o, .inr (1, [.ref r, .ref t])), (r, .inr (0, [.ref a1, .ref a2, .int (nI n), .int (nI w)])), (a1, .inl (cI, 40, .inl F)), (a2, .inl (cI, 40, .inl G)), (t, .inr (0, [.ref b1, .ref b2, .int (nI n2), .int (nI w2)])), (b1, .inl (cI, 40, .inl F2)), (b2, .inl (cI, 40, .inl G2)), (ot, .inl (cJ, 1, .inr (.inl B1))), (u, .inr (2, [.int c9, .int (nI n), .int (nI w), .ref c1, .ref c2, .ref c3, .ref c4, .int e7, .int e8, .int e9, .int e10])), (c1, .inl (cI, 40, .inl FM)), (c2, .inl (cI, 40, .inl V)), (c3, .inl (cI, 40, .inl O)), (c4, .inl (cI, 40, .inl Y))]) (w1 := [(u, .inr (2, [.int c9, .int (nI n), .int (nI w), .ref c1, .ref c2, .ref c3, .ref c4, .int e7, .int e8, .int e9, .int e10])), (c1, .inl (cI, 40, .inl FM)), (c2, .inl (cI, 40, .inl V)), (c3, .inl (cI, 40, .inl O)), (c4, .inl (cI, 40, .inl Y))]) hP hD [8, 9, 10, 11, 12] [0, 1, 2, 3, 4, 5, 6, 7] rfl rfl rfl rfl 13 rfl (by decide) (by decide) hk1 hP1
  obtain ⟨hcc, hrr⟩ := Q1.rl hQ1 hQ2
  refine lv_istore (lv' := [(6, .int r2), (5, .int r1), (0, .ref b), (1, .ref o), (2, .ref u), (3, .ref ot), (4, .int (nI i))]) hx hb dL_law_814 hl (by decide) rfl (fun ls hl => ?_)
  refine lv_aload_n hx hb dL_law_816 rfl (lv_at hl 4 rfl) ?_
  refine pv_i CF (m_X2_thrown l D cI u c1 c2 c3 c4 M O Y c9 e7 e8 e9 e10) (cwV 0 hts gL_law_X2_thrown rfl rfl rfl k_X2_thrown ⟨Nat.le_of_ble_eq_true rfl, Nat.le_of_ble_eq_true rfl⟩) hK (hP.sub [8, 9, 10, 11, 12] rfl) rfl rfl rfl rfl hl.1 rfl (Nat.le_of_ble_eq_true rfl) dL_law_817 ⟨by show _ ≤ 638288; omega, by show _ ≤ 7181241; omega⟩ ?_
  refine lv_iload hx hb dL_law_820 (lv_at hl 1 rfl) ?_
  refine lv_icmp_eq (tgt := 827) hx hb dL_law_822 (by decide) (fun c822 => ?_) (fun c822 => ?_)
  · skip
    refine lv_iload hx hb dL_law_827 (lv_at hl 1 rfl) ?_
    refine lv_if_ne (tgt := 844) hx hb dL_law_829 (by decide) (fun c829 => ?_) (fun c829 => ?_)
    · skip
      refine lv_goto (tgt := 1147) hx hb dL_law_844 (by decide) ?_
      refine w_widen (k := kc + 50) (n := ks + 300) (by omega) (by omega) ?_
      exact hk _ _ _ _ _ _ _ _ _ _ _ _ _ _ _ _ _ _ _ _ _ _ _ _ _ _ _ _ _ _ _ _ _ _ _ _ S M hP hD hS (lv_sub hl [2, 3, 4, 5, 6] rfl)
    · skip
      refine lv_aload_n hx hb dL_law_832 rfl (lv_at hl 5 rfl) ?_
      refine lv_iconst (v := nI 0) hx hb dL_law_833 (by decide) ?_
      refine va_lald hx hb hKw hP 7 1 rfl rfl (vp_in_nI (by decide) (by decide)) dL_law_834 ?_
      refine tp_l (y := ra.toInt64) (by rw [nI_clamp (by decide)]; exact hBv (c829.trans (by decide))) ?_
      refine lv_iload hx hb dL_law_835 (lv_at hl 0 rfl) ?_
      refine lv_i2l hx hb dL_law_837 rfl ?_
      refine lw_lcmp hx hb (congrArg Int32.toInt64 (hrr (c829.trans (by decide)))) dL_law_838 ?_
      refine lv_if_eq (tgt := 844) hx hb dL_law_839 (by decide) (fun c839 => ?_) (fun c839 => ?_)
      · skip
        refine lv_goto (tgt := 1147) hx hb dL_law_844 (by decide) ?_
        refine w_widen (k := kc + 50) (n := ks + 300) (by omega) (by omega) ?_
        exact hk _ _ _ _ _ _ _ _ _ _ _ _ _ _ _ _ _ _ _ _ _ _ _ _ _ _ _ _ _ _ _ _ _ _ _ _ S M hP hD hS (lv_sub hl [2, 3, 4, 5, 6] rfl)
      · skip
        exact absurd rfl c839
  · skip
    exact absurd hcc.symm c822
set_option maxHeartbeats 4000000 in
set_option maxRecDepth 100000 in
theorem law_c22 {p : Program} {l : Launch} {e : Env} {s : State} {m : MethodId} {below : List Frame} {meth : Method} {c : Code} {b L : Nat} {xs : Nat → Int32} {D : va_G} {cI cJ : ClassId} {A : Nat → Prop} {Q : State → Prop} (F9 : LF p l s m meth c b L xs D cI cJ A) {i kc ks : Nat} (hi : i + 3 ≤ L) (hkc : kc + 50 ≤ 638288) (hks : ks + 300 ≤ 7181241) (hk : LG p l e s m below meth c b D cI cJ A Q 1147 i (kc + 50) (ks + 300)) : LG p l e s m below meth c b D cI cJ A Q 955 i kc ks := by
  obtain ⟨CF, hXs, hbl, hbA, hA, hKw, hXS, hZ, hN, hlt, hL⟩ := id F9
  obtain ⟨hx, hb, hml, hown, hts⟩ := id CF
  have hK : va_K D vwCl [(cI, .int)] s := hKw.sub [0] rfl
  intro o r t a1 a2 b1 b2 ot u c1 c2 c3 c4 n w n2 w2 F G f g F2 G2 FM V O Y B e0 e7 e8 e9 e10 H locs ls S M hP hD hS hl
  obtain ⟨hn3, hn, hw2, -, -, -⟩ := id S
  have hP : va_P D vwCl [(o, .inr (1, [.ref r, .ref t])), (r, .inr (0, [.ref a1, .ref a2, .int (nI n), .int (nI w)])), (a1, .inl (cI, 40, .inl F)), (a2, .inl (cI, 40, .inl G)), (t, .inr (0, [.ref b1, .ref b2, .int (nI n2), .int (nI w2)])), (b1, .inl (cI, 40, .inl F2)), (b2, .inl (cI, 40, .inl G2)), (ot, .inl (cJ, 1, .inr (.inl B))), (u, .inr (2, [.int e0, .int (nI n), .int (nI w), .ref c1, .ref c2, .ref c3, .ref c4, .int e7, .int e8, .int e9, .int e10])), (c1, .inl (cI, 40, .inl FM)), (c2, .inl (cI, 40, .inl V)), (c3, .inl (cI, 40, .inl O)), (c4, .inl (cI, 40, .inl Y))] H := hP
  have hD : va_D A [(o, .inr (1, [.ref r, .ref t])), (r, .inr (0, [.ref a1, .ref a2, .int (nI n), .int (nI w)])), (a1, .inl (cI, 40, .inl F)), (a2, .inl (cI, 40, .inl G)), (t, .inr (0, [.ref b1, .ref b2, .int (nI n2), .int (nI w2)])), (b1, .inl (cI, 40, .inl F2)), (b2, .inl (cI, 40, .inl G2)), (ot, .inl (cJ, 1, .inr (.inl B))), (u, .inr (2, [.int e0, .int (nI n), .int (nI w), .ref c1, .ref c2, .ref c3, .ref c4, .int e7, .int e8, .int e9, .int e10])), (c1, .inl (cI, 40, .inl FM)), (c2, .inl (cI, 40, .inl V)), (c3, .inl (cI, 40, .inl O)), (c4, .inl (cI, 40, .inl Y))] := hD
  refine lv_aload_n hx hb dL_law_955 rfl (lv_at hl 1 rfl) ?_
  refine lv_aload_n hx hb dL_law_956 rfl (lv_at hl 0 rfl) ?_
  refine lv_iload hx hb dL_law_957 (lv_at hl 4 rfl) ?_
  refine lv_iconst (v := nI 1) hx hb dL_law_959 (by decide) ?_
  refine an_add hx hb dL_law_960 ?_
  refine va_sld hx hb hXs hbl hbA hS (vp_in_nI (by omega) (by omega)) dL_law_961 ?_
  refine tp_i (y := xs (i + 1)) (congrArg xs (nI_clamp (by omega))) ?_
  refine lv_aload_n hx hb dL_law_962 rfl (lv_at hl 0 rfl) ?_
  refine lv_iload hx hb dL_law_963 (lv_at hl 4 rfl) ?_
  refine lv_iconst (v := nI 2) hx hb dL_law_965 (by decide) ?_
  refine an_add hx hb dL_law_966 ?_
  refine va_sld hx hb hXs hbl hbA hS (vp_in_nI (by omega) (by omega)) dL_law_967 ?_
  refine tp_i (y := xs (i + 2)) (congrArg xs (nI_clamp (by omega))) ?_
  refine lv_aload_n hx hb dL_law_968 rfl (lv_at hl 3 rfl) ?_
  have hPc : va_P D vwCl [(o, .inr (1, [.ref r, .ref t])), (r, .inr (0, [.ref a1, .ref a2, .int (nI n), .int (nI w)])), (a1, .inl (cI, 40, .inl F)), (a2, .inl (cI, 40, .inl G)), (t, .inr (0, [.ref b1, .ref b2, .int (nI n2), .int (nI w2)])), (b1, .inl (cI, 40, .inl F2)), (b2, .inl (cI, 40, .inl G2)), (ot, .inl (cJ, 1, .inr (.inl B)))] H := hP.sub [0, 1, 2, 3, 4, 5, 6, 7] rfl
  have hDc : va_D A [(o, .inr (1, [.ref r, .ref t])), (r, .inr (0, [.ref a1, .ref a2, .int (nI n), .int (nI w)])), (a1, .inl (cI, 40, .inl F)), (a2, .inl (cI, 40, .inl G)), (t, .inr (0, [.ref b1, .ref b2, .int (nI n2), .int (nI w2)])), (b1, .inl (cI, 40, .inl F2)), (b2, .inl (cI, 40, .inl G2)), (ot, .inl (cJ, 1, .inr (.inl B)))] := hD.sub [0, 1, 2, 3, 4, 5, 6, 7] (by decide) rfl
  have hFc := va_free (wc := [(o, .inr (1, [.ref r, .ref t])), (r, .inr (0, [.ref a1, .ref a2, .int (nI n), .int (nI w)])), (a1, .inl (cI, 40, .inl F)), (a2, .inl (cI, 40, .inl G)), (t, .inr (0, [.ref b1, .ref b2, .int (nI n2), .int (nI w2)])), (b1, .inl (cI, 40, .inl F2)), (b2, .inl (cI, 40, .inl G2)), (ot, .inl (cJ, 1, .inr (.inl B)))]) hD hS hA [0, 1, 2, 3, 4, 5, 6, 7] rfl
  refine pq_i (vx_runSW (rest := []) CF (m_L_looksWith l hlt D cI cJ o r t a1 a2 b1 b2 ot S n2 w2 F2 G2 B (xs (i + 1)) (xs (i + 2)) H.size) (vx_cwSW 4 hts gL_law_L_looksWith rfl rfl rfl k_L_looksWith.2 ⟨Nat.le_of_ble_eq_true rfl, Nat.le_of_ble_eq_true rfl⟩) (pl_pre hKw hPc hDc hXS (hZ.kept hS.2.1) hFc hN) rfl rfl hl.1 rfl (lv_room (Nat.le_of_ble_eq_true rfl)) dL_law_969 ⟨by show _ ≤ 638288; omega, by show _ ≤ 7181241; omega⟩) hS hFc (fun r1 H locs hB hk1 hS => ?_)
  obtain ⟨B1, ra, n4, w4, F4, G4, hQ1, hBv, hP1⟩ := hB
  obtain ⟨hP, hD⟩ := jn (wb := [(o, .inr (1, [.ref r, .ref t])), (r, .inr (0, [.ref a1, .ref a2, .int (nI n), .int (nI w)])), (a1, .inl (cI, 40, .inl F)), (a2, .inl (cI, 40, .inl G)), (t, .inr (0, [.ref b1, .ref b2, .int (nI n4), .int (nI w4)])), (b1, .inl (cI, 40, .inl F4)), (b2, .inl (cI, 40, .inl G4)), (ot, .inl (cJ, 1, .inr (.inl B1))), (u, .inr (2, [.int e0, .int (nI n), .int (nI w), .ref c1, .ref c2, .ref c3, .ref c4, .int e7, .int e8, .int e9, .int e10])), (c1, .inl (cI, 40, .inl FM)), (c2, .inl (cI, 40, .inl V)), (c3, .inl (cI, 40, .inl O)), (c4, .inl (cI, 40, .inl Y))]) (w1 := [(o, .inr (1, [.ref r, .ref t])), (r, .inr (0, [.ref a1, .ref a2, .int (nI n), .int (nI w)])), (a1, .inl (cI, 40, .inl F)), (a2, .inl (cI, 40, .inl G)), (t, .inr (0, [.ref b1, .ref b2, .int (nI n4), .int (nI w4)])), (b1, .inl (cI, 40, .inl F4)), (b2, .inl (cI, 40, .inl G4)), (ot, .inl (cJ, 1, .inr (.inl B1)))]) hP hD [0, 1, 2, 3, 4, 5, 6, 7] [8, 9, 10, 11, 12] rfl rfl rfl rfl 13 rfl (by decide) (by decide) hk1 hP1
  refine lv_istore (lv' := [(5, .int r1), (0, .ref b), (1, .ref o), (2, .ref u), (3, .ref ot), (4, .int (nI i))]) hx hb dL_law_972 hl (by decide) rfl (fun ls hl => ?_)
  refine lv_aload_n hx hb dL_law_974 rfl (lv_at hl 3 rfl) ?_
  refine lv_aload_n hx hb dL_law_975 rfl (lv_at hl 1 rfl) ?_
  refine lv_iload hx hb dL_law_976 (lv_at hl 5 rfl) ?_
  refine lv_iconst (v := nI 1) hx hb dL_law_978 (by decide) ?_
  refine an_add hx hb dL_law_979 ?_
  refine va_sld hx hb hXs hbl hbA hS (vp_in_nI (by omega) (by omega)) dL_law_980 ?_
  refine tp_i (y := xs (i + 1)) (congrArg xs (nI_clamp (by omega))) ?_
  refine lv_aload_n hx hb dL_law_981 rfl (lv_at hl 1 rfl) ?_
  refine lv_iload hx hb dL_law_982 (lv_at hl 5 rfl) ?_
  refine lv_iconst (v := nI 2) hx hb dL_law_984 (by decide) ?_
  refine an_add hx hb dL_law_985 ?_
  refine va_sld hx hb hXs hbl hbA hS (vp_in_nI (by omega) (by omega)) dL_law_986 ?_
  refine tp_i (y := xs (i + 2)) (congrArg xs (nI_clamp (by omega))) ?_
  have hPc : va_P D vwCl [(u, .inr (2, [.int e0, .int (nI n), .int (nI w), .ref c1, .ref c2, .ref c3, .ref c4, .int e7, .int e8, .int e9, .int e10])), (c1, .inl (cI, 40, .inl FM)), (c2, .inl (cI, 40, .inl V)), (c3, .inl (cI, 40, .inl O)), (c4, .inl (cI, 40, .inl Y))] H := hP.sub [8, 9, 10, 11, 12] rfl
  have hDc : va_D A [(u, .inr (2, [.int e0, .int (nI n), .int (nI w), .ref c1, .ref c2, .ref c3, .ref c4, .int e7, .int e8, .int e9, .int e10])), (c1, .inl (cI, 40, .inl FM)), (c2, .inl (cI, 40, .inl V)), (c3, .inl (cI, 40, .inl O)), (c4, .inl (cI, 40, .inl Y))] := hD.sub [8, 9, 10, 11, 12] (by decide) rfl
  have hFc := va_free (wc := [(u, .inr (2, [.int e0, .int (nI n), .int (nI w), .ref c1, .ref c2, .ref c3, .ref c4, .int e7, .int e8, .int e9, .int e10])), (c1, .inl (cI, 40, .inl FM)), (c2, .inl (cI, 40, .inl V)), (c3, .inl (cI, 40, .inl O)), (c4, .inl (cI, 40, .inl Y))]) hD hS hA [8, 9, 10, 11, 12] rfl
  refine pq_i (va_runV (rest := []) CF (m_X2_looksWith l D cI u c1 c2 c3 c4 M O Y e0 e7 e8 e9 e10 (xs (i + 1)) (xs (i + 2)) H.size) (cwV 2 hts gL_law_X2_looksWith rfl rfl rfl k_X2_looksWith ⟨Nat.le_of_ble_eq_true rfl, Nat.le_of_ble_eq_true rfl⟩) (mv_pre hK hPc hDc rfl rfl rfl) rfl rfl hl.1 rfl (lv_room (Nat.le_of_ble_eq_true rfl)) dL_law_987 ⟨by show _ ≤ 638288; omega, by show _ ≤ 7181241; omega⟩) hS hFc (fun r2 H locs hB hk1 hS => ?_)
  obtain ⟨c9, O3, Y3, d7, d8, d9, d10, hQ2, hP1⟩ := hB
  obtain ⟨hP, hD⟩ := jn (wb := [(o, .inr (1, [.ref r, .ref t])), (r, .inr (0, [.ref a1, .ref a2, .int (nI n), .int (nI w)])), (a1, .inl (cI, 40, .inl F)), (a2, .inl (cI, 40, .inl G)), (t, .inr (0, [.ref b1, .ref b2, .int (nI n4), .int (nI w4)])), (b1, .inl (cI, 40, .inl F4)), (b2, .inl (cI, 40, .inl G4)), (ot, .inl (cJ, 1, .inr (.inl B1))), (u, .inr (2, [.int c9, .int (nI n), .int (nI w), .ref c1, .ref c2, .ref c3, .ref c4, .int d7, .int d8, .int d9, .int d10])), (c1, .inl (cI, 40, .inl FM)), (c2, .inl (cI, 40, .inl V)), (c3, .inl (cI, 40, .inl O3)), (c4, .inl (cI, 40, .inl Y3))]) (w1 := [(u, .inr (2, [.int c9, .int (nI n), .int (nI w), .ref c1, .ref c2, .ref c3, .ref c4, .int d7, .int d8, .int d9, .int d10])), (c1, .inl (cI, 40, .inl FM)), (c2, .inl (cI, 40, .inl V)), (c3, .inl (cI, 40, .inl O3)), (c4, .inl (cI, 40, .inl Y3))]) hP hD [8, 9, 10, 11, 12] [0, 1, 2, 3, 4, 5, 6, 7] rfl rfl rfl rfl 13 rfl (by decide) (by decide) hk1 hP1
  obtain ⟨hcc, hrr⟩ := Q1.rw hQ1 hQ2
  refine lv_istore (lv' := [(6, .int r2), (5, .int r1), (0, .ref b), (1, .ref o), (2, .ref u), (3, .ref ot), (4, .int (nI i))]) hx hb dL_law_990 hl (by decide) rfl (fun ls hl => ?_)
  refine lv_aload_n hx hb dL_law_992 rfl (lv_at hl 4 rfl) ?_
  refine pv_i CF (m_X2_thrown l D cI u c1 c2 c3 c4 M O3 Y3 c9 d7 d8 d9 d10) (cwV 0 hts gL_law_X2_thrown rfl rfl rfl k_X2_thrown ⟨Nat.le_of_ble_eq_true rfl, Nat.le_of_ble_eq_true rfl⟩) hK (hP.sub [8, 9, 10, 11, 12] rfl) rfl rfl rfl rfl hl.1 rfl (Nat.le_of_ble_eq_true rfl) dL_law_993 ⟨by show _ ≤ 638288; omega, by show _ ≤ 7181241; omega⟩ ?_
  refine lv_iload hx hb dL_law_996 (lv_at hl 1 rfl) ?_
  refine lv_icmp_eq (tgt := 1003) hx hb dL_law_998 (by decide) (fun c998 => ?_) (fun c998 => ?_)
  · skip
    refine lv_iload hx hb dL_law_1003 (lv_at hl 1 rfl) ?_
    refine lv_if_ne (tgt := 1020) hx hb dL_law_1005 (by decide) (fun c1005 => ?_) (fun c1005 => ?_)
    · skip
      refine lv_goto (tgt := 1147) hx hb dL_law_1020 (by decide) ?_
      refine w_widen (k := kc + 50) (n := ks + 300) (by omega) (by omega) ?_
      exact hk _ _ _ _ _ _ _ _ _ _ _ _ _ _ _ _ _ _ _ _ _ _ _ _ _ _ _ _ _ _ _ _ _ _ _ _ S M hP hD hS (lv_sub hl [2, 3, 4, 5, 6] rfl)
    · skip
      refine lv_aload_n hx hb dL_law_1008 rfl (lv_at hl 5 rfl) ?_
      refine lv_iconst (v := nI 0) hx hb dL_law_1009 (by decide) ?_
      refine va_lald hx hb hKw hP 7 1 rfl rfl (vp_in_nI (by decide) (by decide)) dL_law_1010 ?_
      refine tp_l (y := ra.toInt64) (by rw [nI_clamp (by decide)]; exact hBv (c1005.trans (by decide))) ?_
      refine lv_iload hx hb dL_law_1011 (lv_at hl 0 rfl) ?_
      refine lv_i2l hx hb dL_law_1013 rfl ?_
      refine lw_lcmp hx hb (congrArg Int32.toInt64 (hrr (c1005.trans (by decide)))) dL_law_1014 ?_
      refine lv_if_eq (tgt := 1020) hx hb dL_law_1015 (by decide) (fun c1015 => ?_) (fun c1015 => ?_)
      · skip
        refine lv_goto (tgt := 1147) hx hb dL_law_1020 (by decide) ?_
        refine w_widen (k := kc + 50) (n := ks + 300) (by omega) (by omega) ?_
        exact hk _ _ _ _ _ _ _ _ _ _ _ _ _ _ _ _ _ _ _ _ _ _ _ _ _ _ _ _ _ _ _ _ _ _ _ _ S M hP hD hS (lv_sub hl [2, 3, 4, 5, 6] rfl)
      · skip
        exact absurd rfl c1015
  · skip
    exact absurd hcc.symm c998
set_option maxHeartbeats 4000000 in
set_option maxRecDepth 100000 in
theorem law_c24 {p : Program} {l : Launch} {e : Env} {s : State} {m : MethodId} {below : List Frame} {meth : Method} {c : Code} {b L : Nat} {xs : Nat → Int32} {D : va_G} {cI cJ : ClassId} {A : Nat → Prop} {Q : State → Prop} (F9 : LF p l s m meth c b L xs D cI cJ A) {i kc ks : Nat} (hi : i + 3 ≤ L) (hkc : kc + 50 ≤ 638288) (hks : ks + 300 ≤ 7181241) (hk : LG p l e s m below meth c b D cI cJ A Q 1147 i (kc + 50) (ks + 300)) : LG p l e s m below meth c b D cI cJ A Q 1036 i kc ks := by
  obtain ⟨CF, hXs, hbl, hbA, hA, hKw, hXS, hZ, hN, hlt, hL⟩ := id F9
  obtain ⟨hx, hb, hml, hown, hts⟩ := id CF
  have hK : va_K D vwCl [(cI, .int)] s := hKw.sub [0] rfl
  intro o r t a1 a2 b1 b2 ot u c1 c2 c3 c4 n w n2 w2 F G f g F2 G2 FM V O Y B e0 e7 e8 e9 e10 H locs ls S M hP hD hS hl
  obtain ⟨hn3, hn, hw2, -, -, -⟩ := id S
  have hP : va_P D vwCl [(o, .inr (1, [.ref r, .ref t])), (r, .inr (0, [.ref a1, .ref a2, .int (nI n), .int (nI w)])), (a1, .inl (cI, 40, .inl F)), (a2, .inl (cI, 40, .inl G)), (t, .inr (0, [.ref b1, .ref b2, .int (nI n2), .int (nI w2)])), (b1, .inl (cI, 40, .inl F2)), (b2, .inl (cI, 40, .inl G2)), (ot, .inl (cJ, 1, .inr (.inl B))), (u, .inr (2, [.int e0, .int (nI n), .int (nI w), .ref c1, .ref c2, .ref c3, .ref c4, .int e7, .int e8, .int e9, .int e10])), (c1, .inl (cI, 40, .inl FM)), (c2, .inl (cI, 40, .inl V)), (c3, .inl (cI, 40, .inl O)), (c4, .inl (cI, 40, .inl Y))] H := hP
  have hD : va_D A [(o, .inr (1, [.ref r, .ref t])), (r, .inr (0, [.ref a1, .ref a2, .int (nI n), .int (nI w)])), (a1, .inl (cI, 40, .inl F)), (a2, .inl (cI, 40, .inl G)), (t, .inr (0, [.ref b1, .ref b2, .int (nI n2), .int (nI w2)])), (b1, .inl (cI, 40, .inl F2)), (b2, .inl (cI, 40, .inl G2)), (ot, .inl (cJ, 1, .inr (.inl B))), (u, .inr (2, [.int e0, .int (nI n), .int (nI w), .ref c1, .ref c2, .ref c3, .ref c4, .int e7, .int e8, .int e9, .int e10])), (c1, .inl (cI, 40, .inl FM)), (c2, .inl (cI, 40, .inl V)), (c3, .inl (cI, 40, .inl O)), (c4, .inl (cI, 40, .inl Y))] := hD
  refine lv_aload_n hx hb dL_law_1036 rfl (lv_at hl 1 rfl) ?_
  refine lv_aload_n hx hb dL_law_1037 rfl (lv_at hl 0 rfl) ?_
  refine lv_iload hx hb dL_law_1038 (lv_at hl 4 rfl) ?_
  refine lv_iconst (v := nI 1) hx hb dL_law_1040 (by decide) ?_
  refine an_add hx hb dL_law_1041 ?_
  refine va_sld hx hb hXs hbl hbA hS (vp_in_nI (by omega) (by omega)) dL_law_1042 ?_
  refine tp_i (y := xs (i + 1)) (congrArg xs (nI_clamp (by omega))) ?_
  refine lv_aload_n hx hb dL_law_1043 rfl (lv_at hl 3 rfl) ?_
  have hPc : va_P D vwCl [(o, .inr (1, [.ref r, .ref t])), (r, .inr (0, [.ref a1, .ref a2, .int (nI n), .int (nI w)])), (a1, .inl (cI, 40, .inl F)), (a2, .inl (cI, 40, .inl G)), (t, .inr (0, [.ref b1, .ref b2, .int (nI n2), .int (nI w2)])), (b1, .inl (cI, 40, .inl F2)), (b2, .inl (cI, 40, .inl G2)), (ot, .inl (cJ, 1, .inr (.inl B)))] H := hP.sub [0, 1, 2, 3, 4, 5, 6, 7] rfl
  have hDc : va_D A [(o, .inr (1, [.ref r, .ref t])), (r, .inr (0, [.ref a1, .ref a2, .int (nI n), .int (nI w)])), (a1, .inl (cI, 40, .inl F)), (a2, .inl (cI, 40, .inl G)), (t, .inr (0, [.ref b1, .ref b2, .int (nI n2), .int (nI w2)])), (b1, .inl (cI, 40, .inl F2)), (b2, .inl (cI, 40, .inl G2)), (ot, .inl (cJ, 1, .inr (.inl B)))] := hD.sub [0, 1, 2, 3, 4, 5, 6, 7] (by decide) rfl
  have hFc := va_free (wc := [(o, .inr (1, [.ref r, .ref t])), (r, .inr (0, [.ref a1, .ref a2, .int (nI n), .int (nI w)])), (a1, .inl (cI, 40, .inl F)), (a2, .inl (cI, 40, .inl G)), (t, .inr (0, [.ref b1, .ref b2, .int (nI n2), .int (nI w2)])), (b1, .inl (cI, 40, .inl F2)), (b2, .inl (cI, 40, .inl G2)), (ot, .inl (cJ, 1, .inr (.inl B)))]) hD hS hA [0, 1, 2, 3, 4, 5, 6, 7] rfl
  refine pq_i (vx_runSW (rest := []) CF (m_L_hooksWanted l hlt D cI cJ o r t a1 a2 b1 b2 ot S n2 w2 F2 G2 B (xs (i + 1)) H.size) (vx_cwSW 3 hts gL_law_L_hooksWanted rfl rfl rfl k_L_hooksWanted.2 ⟨Nat.le_of_ble_eq_true rfl, Nat.le_of_ble_eq_true rfl⟩) (pl_pre hKw hPc hDc hXS (hZ.kept hS.2.1) hFc hN) rfl rfl hl.1 rfl (lv_room (Nat.le_of_ble_eq_true rfl)) dL_law_1044 ⟨by show _ ≤ 638288; omega, by show _ ≤ 7181241; omega⟩) hS hFc (fun r1 H locs hB hk1 hS => ?_)
  obtain ⟨B1, ra, n4, w4, F4, G4, hQ1, hBv, hP1⟩ := hB
  obtain ⟨hP, hD⟩ := jn (wb := [(o, .inr (1, [.ref r, .ref t])), (r, .inr (0, [.ref a1, .ref a2, .int (nI n), .int (nI w)])), (a1, .inl (cI, 40, .inl F)), (a2, .inl (cI, 40, .inl G)), (t, .inr (0, [.ref b1, .ref b2, .int (nI n4), .int (nI w4)])), (b1, .inl (cI, 40, .inl F4)), (b2, .inl (cI, 40, .inl G4)), (ot, .inl (cJ, 1, .inr (.inl B1))), (u, .inr (2, [.int e0, .int (nI n), .int (nI w), .ref c1, .ref c2, .ref c3, .ref c4, .int e7, .int e8, .int e9, .int e10])), (c1, .inl (cI, 40, .inl FM)), (c2, .inl (cI, 40, .inl V)), (c3, .inl (cI, 40, .inl O)), (c4, .inl (cI, 40, .inl Y))]) (w1 := [(o, .inr (1, [.ref r, .ref t])), (r, .inr (0, [.ref a1, .ref a2, .int (nI n), .int (nI w)])), (a1, .inl (cI, 40, .inl F)), (a2, .inl (cI, 40, .inl G)), (t, .inr (0, [.ref b1, .ref b2, .int (nI n4), .int (nI w4)])), (b1, .inl (cI, 40, .inl F4)), (b2, .inl (cI, 40, .inl G4)), (ot, .inl (cJ, 1, .inr (.inl B1)))]) hP hD [0, 1, 2, 3, 4, 5, 6, 7] [8, 9, 10, 11, 12] rfl rfl rfl rfl 13 rfl (by decide) (by decide) hk1 hP1
  refine lv_istore (lv' := [(5, .int r1), (0, .ref b), (1, .ref o), (2, .ref u), (3, .ref ot), (4, .int (nI i))]) hx hb dL_law_1047 hl (by decide) rfl (fun ls hl => ?_)
  refine lv_aload_n hx hb dL_law_1049 rfl (lv_at hl 3 rfl) ?_
  refine lv_aload_n hx hb dL_law_1050 rfl (lv_at hl 1 rfl) ?_
  refine lv_iload hx hb dL_law_1051 (lv_at hl 5 rfl) ?_
  refine lv_iconst (v := nI 1) hx hb dL_law_1053 (by decide) ?_
  refine an_add hx hb dL_law_1054 ?_
  refine va_sld hx hb hXs hbl hbA hS (vp_in_nI (by omega) (by omega)) dL_law_1055 ?_
  refine tp_i (y := xs (i + 1)) (congrArg xs (nI_clamp (by omega))) ?_
  have hPc : va_P D vwCl [(u, .inr (2, [.int e0, .int (nI n), .int (nI w), .ref c1, .ref c2, .ref c3, .ref c4, .int e7, .int e8, .int e9, .int e10])), (c1, .inl (cI, 40, .inl FM)), (c2, .inl (cI, 40, .inl V)), (c3, .inl (cI, 40, .inl O)), (c4, .inl (cI, 40, .inl Y))] H := hP.sub [8, 9, 10, 11, 12] rfl
  have hDc : va_D A [(u, .inr (2, [.int e0, .int (nI n), .int (nI w), .ref c1, .ref c2, .ref c3, .ref c4, .int e7, .int e8, .int e9, .int e10])), (c1, .inl (cI, 40, .inl FM)), (c2, .inl (cI, 40, .inl V)), (c3, .inl (cI, 40, .inl O)), (c4, .inl (cI, 40, .inl Y))] := hD.sub [8, 9, 10, 11, 12] (by decide) rfl
  have hFc := va_free (wc := [(u, .inr (2, [.int e0, .int (nI n), .int (nI w), .ref c1, .ref c2, .ref c3, .ref c4, .int e7, .int e8, .int e9, .int e10])), (c1, .inl (cI, 40, .inl FM)), (c2, .inl (cI, 40, .inl V)), (c3, .inl (cI, 40, .inl O)), (c4, .inl (cI, 40, .inl Y))]) hD hS hA [8, 9, 10, 11, 12] rfl
  refine pq_i (va_runV (rest := []) CF (m_X2_hooksWanted l D cI u c1 c2 c3 c4 M O Y e0 e7 e8 e9 e10 (xs (i + 1)) H.size) (cwV 1 hts gL_law_X2_hooksWanted rfl rfl rfl k_X2_hooksWanted ⟨Nat.le_of_ble_eq_true rfl, Nat.le_of_ble_eq_true rfl⟩) (mv_pre hK hPc hDc rfl rfl rfl) rfl rfl hl.1 rfl (lv_room (Nat.le_of_ble_eq_true rfl)) dL_law_1056 ⟨by show _ ≤ 638288; omega, by show _ ≤ 7181241; omega⟩) hS hFc (fun r2 H locs hB hk1 hS => ?_)
  obtain ⟨c9, O3, Y3, d7, d8, d9, d10, hQ2, hP1⟩ := hB
  obtain ⟨hP, hD⟩ := jn (wb := [(o, .inr (1, [.ref r, .ref t])), (r, .inr (0, [.ref a1, .ref a2, .int (nI n), .int (nI w)])), (a1, .inl (cI, 40, .inl F)), (a2, .inl (cI, 40, .inl G)), (t, .inr (0, [.ref b1, .ref b2, .int (nI n4), .int (nI w4)])), (b1, .inl (cI, 40, .inl F4)), (b2, .inl (cI, 40, .inl G4)), (ot, .inl (cJ, 1, .inr (.inl B1))), (u, .inr (2, [.int c9, .int (nI n), .int (nI w), .ref c1, .ref c2, .ref c3, .ref c4, .int d7, .int d8, .int d9, .int d10])), (c1, .inl (cI, 40, .inl FM)), (c2, .inl (cI, 40, .inl V)), (c3, .inl (cI, 40, .inl O3)), (c4, .inl (cI, 40, .inl Y3))]) (w1 := [(u, .inr (2, [.int c9, .int (nI n), .int (nI w), .ref c1, .ref c2, .ref c3, .ref c4, .int d7, .int d8, .int d9, .int d10])), (c1, .inl (cI, 40, .inl FM)), (c2, .inl (cI, 40, .inl V)), (c3, .inl (cI, 40, .inl O3)), (c4, .inl (cI, 40, .inl Y3))]) hP hD [8, 9, 10, 11, 12] [0, 1, 2, 3, 4, 5, 6, 7] rfl rfl rfl rfl 13 rfl (by decide) (by decide) hk1 hP1
  obtain ⟨hcc, hrr⟩ := Q1.rh hQ1 hQ2
  refine lv_istore (lv' := [(6, .int r2), (5, .int r1), (0, .ref b), (1, .ref o), (2, .ref u), (3, .ref ot), (4, .int (nI i))]) hx hb dL_law_1059 hl (by decide) rfl (fun ls hl => ?_)
  refine lv_aload_n hx hb dL_law_1061 rfl (lv_at hl 4 rfl) ?_
  refine pv_i CF (m_X2_thrown l D cI u c1 c2 c3 c4 M O3 Y3 c9 d7 d8 d9 d10) (cwV 0 hts gL_law_X2_thrown rfl rfl rfl k_X2_thrown ⟨Nat.le_of_ble_eq_true rfl, Nat.le_of_ble_eq_true rfl⟩) hK (hP.sub [8, 9, 10, 11, 12] rfl) rfl rfl rfl rfl hl.1 rfl (Nat.le_of_ble_eq_true rfl) dL_law_1062 ⟨by show _ ≤ 638288; omega, by show _ ≤ 7181241; omega⟩ ?_
  refine lv_iload hx hb dL_law_1065 (lv_at hl 1 rfl) ?_
  refine lv_icmp_eq (tgt := 1072) hx hb dL_law_1067 (by decide) (fun c1067 => ?_) (fun c1067 => ?_)
  · skip
    refine lv_iload hx hb dL_law_1072 (lv_at hl 1 rfl) ?_
    refine lv_if_ne (tgt := 1089) hx hb dL_law_1074 (by decide) (fun c1074 => ?_) (fun c1074 => ?_)
    · skip
      refine lv_goto (tgt := 1147) hx hb dL_law_1089 (by decide) ?_
      refine w_widen (k := kc + 50) (n := ks + 300) (by omega) (by omega) ?_
      exact hk _ _ _ _ _ _ _ _ _ _ _ _ _ _ _ _ _ _ _ _ _ _ _ _ _ _ _ _ _ _ _ _ _ _ _ _ S M hP hD hS (lv_sub hl [2, 3, 4, 5, 6] rfl)
    · skip
      refine lv_aload_n hx hb dL_law_1077 rfl (lv_at hl 5 rfl) ?_
      refine lv_iconst (v := nI 0) hx hb dL_law_1078 (by decide) ?_
      refine va_lald hx hb hKw hP 7 1 rfl rfl (vp_in_nI (by decide) (by decide)) dL_law_1079 ?_
      refine tp_l (y := ra.toInt64) (by rw [nI_clamp (by decide)]; exact hBv (c1074.trans (by decide))) ?_
      refine lv_iload hx hb dL_law_1080 (lv_at hl 0 rfl) ?_
      refine lv_i2l hx hb dL_law_1082 rfl ?_
      refine lw_lcmp hx hb (congrArg Int32.toInt64 (hrr (c1074.trans (by decide)))) dL_law_1083 ?_
      refine lv_if_eq (tgt := 1089) hx hb dL_law_1084 (by decide) (fun c1084 => ?_) (fun c1084 => ?_)
      · skip
        refine lv_goto (tgt := 1147) hx hb dL_law_1089 (by decide) ?_
        refine w_widen (k := kc + 50) (n := ks + 300) (by omega) (by omega) ?_
        exact hk _ _ _ _ _ _ _ _ _ _ _ _ _ _ _ _ _ _ _ _ _ _ _ _ _ _ _ _ _ _ _ _ _ _ _ _ S M hP hD hS (lv_sub hl [2, 3, 4, 5, 6] rfl)
      · skip
        exact absurd rfl c1084
  · skip
    exact absurd hcc.symm c1067
set_option maxHeartbeats 4000000 in
set_option maxRecDepth 100000 in
theorem law_c26 {p : Program} {l : Launch} {e : Env} {s : State} {m : MethodId} {below : List Frame} {meth : Method} {c : Code} {b L : Nat} {xs : Nat → Int32} {D : va_G} {cI cJ : ClassId} {A : Nat → Prop} {Q : State → Prop} (F9 : LF p l s m meth c b L xs D cI cJ A) {i kc ks : Nat} (hi : i + 3 ≤ L) (hkc : kc + 50 ≤ 638288) (hks : ks + 300 ≤ 7181241) (hk : LG p l e s m below meth c b D cI cJ A Q 1147 i (kc + 50) (ks + 300)) : LG p l e s m below meth c b D cI cJ A Q 1133 i kc ks := by
  obtain ⟨CF, hXs, hbl, hbA, hA, hKw, hXS, hZ, hN, hlt, hL⟩ := id F9
  obtain ⟨hx, hb, hml, hown, hts⟩ := id CF
  have hK : va_K D vwCl [(cI, .int)] s := hKw.sub [0] rfl
  intro o r t a1 a2 b1 b2 ot u c1 c2 c3 c4 n w n2 w2 F G f g F2 G2 FM V O Y B e0 e7 e8 e9 e10 H locs ls S M hP hD hS hl
  obtain ⟨hn3, hn, hw2, -, -, -⟩ := id S
  have hP : va_P D vwCl [(o, .inr (1, [.ref r, .ref t])), (r, .inr (0, [.ref a1, .ref a2, .int (nI n), .int (nI w)])), (a1, .inl (cI, 40, .inl F)), (a2, .inl (cI, 40, .inl G)), (t, .inr (0, [.ref b1, .ref b2, .int (nI n2), .int (nI w2)])), (b1, .inl (cI, 40, .inl F2)), (b2, .inl (cI, 40, .inl G2)), (ot, .inl (cJ, 1, .inr (.inl B))), (u, .inr (2, [.int e0, .int (nI n), .int (nI w), .ref c1, .ref c2, .ref c3, .ref c4, .int e7, .int e8, .int e9, .int e10])), (c1, .inl (cI, 40, .inl FM)), (c2, .inl (cI, 40, .inl V)), (c3, .inl (cI, 40, .inl O)), (c4, .inl (cI, 40, .inl Y))] H := hP
  have hD : va_D A [(o, .inr (1, [.ref r, .ref t])), (r, .inr (0, [.ref a1, .ref a2, .int (nI n), .int (nI w)])), (a1, .inl (cI, 40, .inl F)), (a2, .inl (cI, 40, .inl G)), (t, .inr (0, [.ref b1, .ref b2, .int (nI n2), .int (nI w2)])), (b1, .inl (cI, 40, .inl F2)), (b2, .inl (cI, 40, .inl G2)), (ot, .inl (cJ, 1, .inr (.inl B))), (u, .inr (2, [.int e0, .int (nI n), .int (nI w), .ref c1, .ref c2, .ref c3, .ref c4, .int e7, .int e8, .int e9, .int e10])), (c1, .inl (cI, 40, .inl FM)), (c2, .inl (cI, 40, .inl V)), (c3, .inl (cI, 40, .inl O)), (c4, .inl (cI, 40, .inl Y))] := hD
  refine lv_aload_n hx hb dL_law_1133 rfl (lv_at hl 1 rfl) ?_
  have hPc : va_P D vwCl [(o, .inr (1, [.ref r, .ref t])), (r, .inr (0, [.ref a1, .ref a2, .int (nI n), .int (nI w)])), (a1, .inl (cI, 40, .inl F)), (a2, .inl (cI, 40, .inl G)), (t, .inr (0, [.ref b1, .ref b2, .int (nI n2), .int (nI w2)])), (b1, .inl (cI, 40, .inl F2)), (b2, .inl (cI, 40, .inl G2))] H := hP.sub [0, 1, 2, 3, 4, 5, 6] rfl
  have hDc : va_D A [(o, .inr (1, [.ref r, .ref t])), (r, .inr (0, [.ref a1, .ref a2, .int (nI n), .int (nI w)])), (a1, .inl (cI, 40, .inl F)), (a2, .inl (cI, 40, .inl G)), (t, .inr (0, [.ref b1, .ref b2, .int (nI n2), .int (nI w2)])), (b1, .inl (cI, 40, .inl F2)), (b2, .inl (cI, 40, .inl G2))] := hD.sub [0, 1, 2, 3, 4, 5, 6] (by decide) rfl
  have hFc := va_free (wc := [(o, .inr (1, [.ref r, .ref t])), (r, .inr (0, [.ref a1, .ref a2, .int (nI n), .int (nI w)])), (a1, .inl (cI, 40, .inl F)), (a2, .inl (cI, 40, .inl G)), (t, .inr (0, [.ref b1, .ref b2, .int (nI n2), .int (nI w2)])), (b1, .inl (cI, 40, .inl F2)), (b2, .inl (cI, 40, .inl G2))]) hD hS hA [0, 1, 2, 3, 4, 5, 6] rfl
  refine pq_l (va_runV (rest := []) CF (m_X1_digest l D cI o r t a1 a2 b1 b2 S n2 w2 F2 G2 H.size) (cwV 0 hts gL_law_X1_digest rfl rfl rfl k_X1_digest ⟨Nat.le_of_ble_eq_true rfl, Nat.le_of_ble_eq_true rfl⟩) (mv_pre hK hPc hDc rfl rfl rfl) rfl rfl hl.1 rfl (lv_room (Nat.le_of_ble_eq_true rfl)) dL_law_1134 ⟨by show _ ≤ 638288; omega, by show _ ≤ 7181241; omega⟩) hS hFc (fun r1 H locs hB hk1 hS => ?_)
  obtain ⟨rfl, n3, w3, F3, G3, hP1⟩ := hB
  obtain ⟨hP, hD⟩ := jn (wb := [(o, .inr (1, [.ref r, .ref t])), (r, .inr (0, [.ref a1, .ref a2, .int (nI n), .int (nI w)])), (a1, .inl (cI, 40, .inl F)), (a2, .inl (cI, 40, .inl G)), (t, .inr (0, [.ref b1, .ref b2, .int (nI n3), .int (nI w3)])), (b1, .inl (cI, 40, .inl F3)), (b2, .inl (cI, 40, .inl G3)), (ot, .inl (cJ, 1, .inr (.inl B))), (u, .inr (2, [.int e0, .int (nI n), .int (nI w), .ref c1, .ref c2, .ref c3, .ref c4, .int e7, .int e8, .int e9, .int e10])), (c1, .inl (cI, 40, .inl FM)), (c2, .inl (cI, 40, .inl V)), (c3, .inl (cI, 40, .inl O)), (c4, .inl (cI, 40, .inl Y))]) (w1 := [(o, .inr (1, [.ref r, .ref t])), (r, .inr (0, [.ref a1, .ref a2, .int (nI n), .int (nI w)])), (a1, .inl (cI, 40, .inl F)), (a2, .inl (cI, 40, .inl G)), (t, .inr (0, [.ref b1, .ref b2, .int (nI n3), .int (nI w3)])), (b1, .inl (cI, 40, .inl F3)), (b2, .inl (cI, 40, .inl G3))]) hP hD [0, 1, 2, 3, 4, 5, 6] [7, 8, 9, 10, 11, 12] rfl rfl rfl rfl 13 rfl (by decide) (by decide) hk1 hP1
  refine lv_aload_n hx hb dL_law_1137 rfl (lv_at hl 2 rfl) ?_
  have hPc : va_P D vwCl [(u, .inr (2, [.int e0, .int (nI n), .int (nI w), .ref c1, .ref c2, .ref c3, .ref c4, .int e7, .int e8, .int e9, .int e10])), (c1, .inl (cI, 40, .inl FM)), (c2, .inl (cI, 40, .inl V)), (c3, .inl (cI, 40, .inl O)), (c4, .inl (cI, 40, .inl Y))] H := hP.sub [8, 9, 10, 11, 12] rfl
  have hDc : va_D A [(u, .inr (2, [.int e0, .int (nI n), .int (nI w), .ref c1, .ref c2, .ref c3, .ref c4, .int e7, .int e8, .int e9, .int e10])), (c1, .inl (cI, 40, .inl FM)), (c2, .inl (cI, 40, .inl V)), (c3, .inl (cI, 40, .inl O)), (c4, .inl (cI, 40, .inl Y))] := hD.sub [8, 9, 10, 11, 12] (by decide) rfl
  have hFc := va_free (wc := [(u, .inr (2, [.int e0, .int (nI n), .int (nI w), .ref c1, .ref c2, .ref c3, .ref c4, .int e7, .int e8, .int e9, .int e10])), (c1, .inl (cI, 40, .inl FM)), (c2, .inl (cI, 40, .inl V)), (c3, .inl (cI, 40, .inl O)), (c4, .inl (cI, 40, .inl Y))]) hD hS hA [8, 9, 10, 11, 12] rfl
  refine pq_l (va_runV (rest := [.long (DG n w f g)]) CF (m_X2_digest l D cI u c1 c2 c3 c4 M O Y e0 e7 e8 e9 e10 H.size) (cwV 0 hts gL_law_X2_digest rfl rfl rfl k_X2_digest ⟨Nat.le_of_ble_eq_true rfl, Nat.le_of_ble_eq_true rfl⟩) (mv_pre hK hPc hDc rfl rfl rfl) rfl rfl hl.1 rfl (lv_room (Nat.le_of_ble_eq_true rfl)) dL_law_1138 ⟨by show _ ≤ 638288; omega, by show _ ≤ 7181241; omega⟩) hS hFc (fun r2 H locs hB hk1 hS => ?_)
  obtain ⟨rfl, O3, Y3, d7, d8, d9, d10, hP1⟩ := hB
  obtain ⟨hP, hD⟩ := jn (wb := [(o, .inr (1, [.ref r, .ref t])), (r, .inr (0, [.ref a1, .ref a2, .int (nI n), .int (nI w)])), (a1, .inl (cI, 40, .inl F)), (a2, .inl (cI, 40, .inl G)), (t, .inr (0, [.ref b1, .ref b2, .int (nI n3), .int (nI w3)])), (b1, .inl (cI, 40, .inl F3)), (b2, .inl (cI, 40, .inl G3)), (ot, .inl (cJ, 1, .inr (.inl B))), (u, .inr (2, [.int (nI 0), .int (nI n), .int (nI w), .ref c1, .ref c2, .ref c3, .ref c4, .int d7, .int d8, .int d9, .int d10])), (c1, .inl (cI, 40, .inl FM)), (c2, .inl (cI, 40, .inl V)), (c3, .inl (cI, 40, .inl O3)), (c4, .inl (cI, 40, .inl Y3))]) (w1 := [(u, .inr (2, [.int (nI 0), .int (nI n), .int (nI w), .ref c1, .ref c2, .ref c3, .ref c4, .int d7, .int d8, .int d9, .int d10])), (c1, .inl (cI, 40, .inl FM)), (c2, .inl (cI, 40, .inl V)), (c3, .inl (cI, 40, .inl O3)), (c4, .inl (cI, 40, .inl Y3))]) hP hD [8, 9, 10, 11, 12] [0, 1, 2, 3, 4, 5, 6, 7] rfl rfl rfl rfl 13 rfl (by decide) (by decide) hk1 hP1
  refine lw_lcmp hx hb rfl dL_law_1141 ?_
  refine lv_if_eq (tgt := 1147) hx hb dL_law_1142 (by decide) (fun c1142 => ?_) (fun c1142 => ?_)
  · skip
    refine w_widen (k := kc + 50) (n := ks + 300) (by omega) (by omega) ?_
    exact hk _ _ _ _ _ _ _ _ _ _ _ _ _ _ _ _ _ _ _ _ _ _ _ _ _ _ _ _ _ _ _ _ _ _ _ _ S M hP hD hS (lv_sub hl [0, 1, 2, 3, 4] rfl)
  · skip
    exact absurd rfl c1142
set_option maxHeartbeats 4000000 in
set_option maxRecDepth 100000 in
theorem law_c25 {p : Program} {l : Launch} {e : Env} {s : State} {m : MethodId} {below : List Frame} {meth : Method} {c : Code} {b L : Nat} {xs : Nat → Int32} {D : va_G} {cI cJ : ClassId} {A : Nat → Prop} {Q : State → Prop} (F9 : LF p l s m meth c b L xs D cI cJ A) {i kc ks : Nat} (hi : i + 3 ≤ L) (hkc : kc + 50 ≤ 638288) (hks : ks + 300 ≤ 7181241) (hk : LG p l e s m below meth c b D cI cJ A Q 1147 i (kc + 50) (ks + 300)) : LG p l e s m below meth c b D cI cJ A Q 1092 i kc ks := by
  obtain ⟨CF, hXs, hbl, hbA, hA, hKw, hXS, hZ, hN, hlt, hL⟩ := id F9
  obtain ⟨hx, hb, hml, hown, hts⟩ := id CF
  have hK : va_K D vwCl [(cI, .int)] s := hKw.sub [0] rfl
  intro o r t a1 a2 b1 b2 ot u c1 c2 c3 c4 n w n2 w2 F G f g F2 G2 FM V O Y B e0 e7 e8 e9 e10 H locs ls S M hP hD hS hl
  obtain ⟨hn3, hn, hw2, -, -, -⟩ := id S
  have hP : va_P D vwCl [(o, .inr (1, [.ref r, .ref t])), (r, .inr (0, [.ref a1, .ref a2, .int (nI n), .int (nI w)])), (a1, .inl (cI, 40, .inl F)), (a2, .inl (cI, 40, .inl G)), (t, .inr (0, [.ref b1, .ref b2, .int (nI n2), .int (nI w2)])), (b1, .inl (cI, 40, .inl F2)), (b2, .inl (cI, 40, .inl G2)), (ot, .inl (cJ, 1, .inr (.inl B))), (u, .inr (2, [.int e0, .int (nI n), .int (nI w), .ref c1, .ref c2, .ref c3, .ref c4, .int e7, .int e8, .int e9, .int e10])), (c1, .inl (cI, 40, .inl FM)), (c2, .inl (cI, 40, .inl V)), (c3, .inl (cI, 40, .inl O)), (c4, .inl (cI, 40, .inl Y))] H := hP
  have hD : va_D A [(o, .inr (1, [.ref r, .ref t])), (r, .inr (0, [.ref a1, .ref a2, .int (nI n), .int (nI w)])), (a1, .inl (cI, 40, .inl F)), (a2, .inl (cI, 40, .inl G)), (t, .inr (0, [.ref b1, .ref b2, .int (nI n2), .int (nI w2)])), (b1, .inl (cI, 40, .inl F2)), (b2, .inl (cI, 40, .inl G2)), (ot, .inl (cJ, 1, .inr (.inl B))), (u, .inr (2, [.int e0, .int (nI n), .int (nI w), .ref c1, .ref c2, .ref c3, .ref c4, .int e7, .int e8, .int e9, .int e10])), (c1, .inl (cI, 40, .inl FM)), (c2, .inl (cI, 40, .inl V)), (c3, .inl (cI, 40, .inl O)), (c4, .inl (cI, 40, .inl Y))] := hD
  refine lv_aload_n hx hb dL_law_1092 rfl (lv_at hl 1 rfl) ?_
  refine pv_d CF (m_X1_meanLooks l D cI o r t a1 a2 b1 b2 S n2 w2 F2 G2 (fun a9 b9 h9 => nn_all a9 b9 h9)) (cwV 0 hts gL_law_X1_meanLooks rfl rfl rfl k_X1_meanLooks ⟨Nat.le_of_ble_eq_true rfl, Nat.le_of_ble_eq_true rfl⟩) hK (hP.sub [0, 1, 2, 3, 4, 5, 6] rfl) rfl rfl rfl rfl hl.1 rfl (Nat.le_of_ble_eq_true rfl) dL_law_1093 ⟨by show _ ≤ 638288; omega, by show _ ≤ 7181241; omega⟩ ?_
  refine lv_dstore (lv' := [(5, .double (ml n w f)), (0, .ref b), (1, .ref o), (2, .ref u), (3, .ref ot), (4, .int (nI i))]) hx hb dL_law_1096 hl (by decide) rfl (fun ls hl => ?_)
  refine lv_aload_n hx hb dL_law_1098 rfl (lv_at hl 3 rfl) ?_
  have hPc : va_P D vwCl [(u, .inr (2, [.int e0, .int (nI n), .int (nI w), .ref c1, .ref c2, .ref c3, .ref c4, .int e7, .int e8, .int e9, .int e10])), (c1, .inl (cI, 40, .inl FM)), (c2, .inl (cI, 40, .inl V)), (c3, .inl (cI, 40, .inl O)), (c4, .inl (cI, 40, .inl Y))] H := hP.sub [8, 9, 10, 11, 12] rfl
  have hDc : va_D A [(u, .inr (2, [.int e0, .int (nI n), .int (nI w), .ref c1, .ref c2, .ref c3, .ref c4, .int e7, .int e8, .int e9, .int e10])), (c1, .inl (cI, 40, .inl FM)), (c2, .inl (cI, 40, .inl V)), (c3, .inl (cI, 40, .inl O)), (c4, .inl (cI, 40, .inl Y))] := hD.sub [8, 9, 10, 11, 12] (by decide) rfl
  have hFc := va_free (wc := [(u, .inr (2, [.int e0, .int (nI n), .int (nI w), .ref c1, .ref c2, .ref c3, .ref c4, .int e7, .int e8, .int e9, .int e10])), (c1, .inl (cI, 40, .inl FM)), (c2, .inl (cI, 40, .inl V)), (c3, .inl (cI, 40, .inl O)), (c4, .inl (cI, 40, .inl Y))]) hD hS hA [8, 9, 10, 11, 12] rfl
  refine pq_d (va_runV (rest := []) CF (m_X2_meanLooks l D cI u c1 c2 c3 c4 M O Y e0 e7 e8 e9 e10 H.size) (cwV 0 hts gL_law_X2_meanLooks rfl rfl rfl k_X2_meanLooks ⟨Nat.le_of_ble_eq_true rfl, Nat.le_of_ble_eq_true rfl⟩) (mv_pre hK hPc hDc rfl rfl rfl) rfl rfl hl.1 rfl (lv_room (Nat.le_of_ble_eq_true rfl)) dL_law_1099 ⟨by show _ ≤ 638288; omega, by show _ ≤ 7181241; omega⟩) hS hFc (fun r1 H locs hB hk1 hS => ?_)
  obtain ⟨rfl, d7, d8, d9, d10, hP1⟩ := hB
  obtain ⟨hP, hD⟩ := jn (wb := [(o, .inr (1, [.ref r, .ref t])), (r, .inr (0, [.ref a1, .ref a2, .int (nI n), .int (nI w)])), (a1, .inl (cI, 40, .inl F)), (a2, .inl (cI, 40, .inl G)), (t, .inr (0, [.ref b1, .ref b2, .int (nI n2), .int (nI w2)])), (b1, .inl (cI, 40, .inl F2)), (b2, .inl (cI, 40, .inl G2)), (ot, .inl (cJ, 1, .inr (.inl B))), (u, .inr (2, [.int (nI 0), .int (nI n), .int (nI w), .ref c1, .ref c2, .ref c3, .ref c4, .int d7, .int d8, .int d9, .int d10])), (c1, .inl (cI, 40, .inl FM)), (c2, .inl (cI, 40, .inl V)), (c3, .inl (cI, 40, .inl O)), (c4, .inl (cI, 40, .inl Y))]) (w1 := [(u, .inr (2, [.int (nI 0), .int (nI n), .int (nI w), .ref c1, .ref c2, .ref c3, .ref c4, .int d7, .int d8, .int d9, .int d10])), (c1, .inl (cI, 40, .inl FM)), (c2, .inl (cI, 40, .inl V)), (c3, .inl (cI, 40, .inl O)), (c4, .inl (cI, 40, .inl Y))]) hP hD [8, 9, 10, 11, 12] [0, 1, 2, 3, 4, 5, 6, 7] rfl rfl rfl rfl 13 rfl (by decide) (by decide) hk1 hP1
  refine lv_dstore (lv' := [(7, .double (ml n w f)), (5, .double (ml n w f)), (0, .ref b), (1, .ref o), (2, .ref u), (3, .ref ot), (4, .int (nI i))]) hx hb dL_law_1102 hl (by decide) rfl (fun ls hl => ?_)
  refine lv_dload hx hb dL_law_1104 (lv_at hl 1 rfl) ?_
  refine lv_dload hx hb dL_law_1106 (lv_at hl 0 rfl) ?_
  refine lv_dcmp hx hb dL_law_1108 ?_
  refine lv_if_eq (tgt := 1130) hx hb dL_law_1109 (by decide) (fun c1109 => ?_) (fun c1109 => ?_)
  · skip
    refine lv_goto (tgt := 1147) hx hb dL_law_1130 (by decide) ?_
    refine w_widen (k := kc + 50) (n := ks + 300) (by omega) (by omega) ?_
    exact hk _ _ _ _ _ _ _ _ _ _ _ _ _ _ _ _ _ _ _ _ _ _ _ _ _ _ _ _ _ _ _ _ _ _ _ _ S M hP hD hS (lv_sub hl [2, 3, 4, 5, 6] rfl)
  · skip
    refine lv_dload hx hb dL_law_1112 (lv_at hl 1 rfl) ?_
    refine lv_dload hx hb dL_law_1114 (lv_at hl 1 rfl) ?_
    refine lv_dcmp hx hb dL_law_1116 ?_
    refine lv_if_eq (tgt := 1128) hx hb dL_law_1117 (by decide) (fun c1117 => ?_) (fun c1117 => ?_)
    · skip
      exact absurd c1117 c1109
    · skip
      refine lv_dload hx hb dL_law_1120 (lv_at hl 0 rfl) ?_
      refine lv_dload hx hb dL_law_1122 (lv_at hl 0 rfl) ?_
      refine lv_dcmp hx hb dL_law_1124 ?_
      refine lv_if_ne (tgt := 1130) hx hb dL_law_1125 (by decide) (fun c1125 => ?_) (fun c1125 => ?_)
      · skip
        refine lv_goto (tgt := 1147) hx hb dL_law_1130 (by decide) ?_
        refine w_widen (k := kc + 50) (n := ks + 300) (by omega) (by omega) ?_
        exact hk _ _ _ _ _ _ _ _ _ _ _ _ _ _ _ _ _ _ _ _ _ _ _ _ _ _ _ _ _ _ _ _ _ _ _ _ S M hP hD hS (lv_sub hl [2, 3, 4, 5, 6] rfl)
      · skip
        exact absurd c1125 c1109
