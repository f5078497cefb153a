/-! the law: each hook -/
set_option maxHeartbeats 8000000 in
set_option maxRecDepth 100000 in
theorem law_hooks {p : Program} {l : Launch} {e : Env} {s : State} {m : MethodId} {below : List Frame} {meth : Method} {c : Code} {b L : Nat} {xs : Nat → Int32} {D : va_G} {cI cZ : ClassId} {A : Nat → Prop} {Q : State → Prop} {o r t a1 a2 b1 b2 u : Nat} (F9 : LF p l s m meth c b L xs D cI cZ A) {kc ks n w : Nat} {f g : Nat → Int32} {i : Nat} {x : Int32} (hkc : kc ≤ 10000) (hks : ks ≤ 100000) (hd : Ds n f) (hk : KG p l e s m below meth c b D cI cZ A Q o r t a1 a2 b1 b2 u 360 [(0, .ref b), (1, .ref o), (2, .ref u), (3, .int (nI i)), (4, .int x), (5, .long (DG n w f g)), (7, .int (nI n)), (8, .int (nI (ct n f (nI 0)))), (9, .int (nI (n - ct n f (nI 0)))), (10, .int (nI (sm n w f))), (11, .int (nI (fa n w f).2))] kc ks n w f g) : KG p l e s m below meth c b D cI cZ A Q o r t a1 a2 b1 b2 u 82 [(0, .ref b), (1, .ref o), (2, .ref u), (3, .int (nI i)), (4, .int x)] kc ks n w f g := by
  obtain ⟨CF, hXs, hbl, hbA, hA, hK, hX, hZ, hNx, hlt, hL⟩ := id F9
  obtain ⟨hx, hb, hml, hown, hts⟩ := id CF
  have hK1 : va_K D vwCl [(cI, .int)] s := hK.sub [0] rfl
  have hKc := hK1
  intro c1 c2 c3 n2 w2 F G F2 G2 C V Z H locs ls S S2 hP hD hS hl
  obtain ⟨hn3, hn, hw2, hF, hG, hO⟩ := id S
  obtain ⟨-, -, -, hC, hV, hZv, -⟩ := id S2
  have hP : va_P D vwCl [(o, .inr (1, [.ref r, .ref t])), (r, .inr (0, [.ref a1, .ref a2, .int (nI n), .int (nI w)])), (a1, .inl (cI, 40, .inl F)), (a2, .inl (cI, 40, .inl G)), (t, .inr (0, [.ref b1, .ref b2, .int (nI n2), .int (nI w2)])), (b1, .inl (cI, 40, .inl F2)), (b2, .inl (cI, 40, .inl G2)), (u, .inr (2, [.int (nI w), .ref c1, .ref c2, .ref c3])), (c1, .inl (cI, n, .inl C)), (c2, .inl (cI, n, .inl V)), (c3, .inl (cZ, n, .inl Z))] H := hP
  have hD : va_D A [(o, .inr (1, [.ref r, .ref t])), (r, .inr (0, [.ref a1, .ref a2, .int (nI n), .int (nI w)])), (a1, .inl (cI, 40, .inl F)), (a2, .inl (cI, 40, .inl G)), (t, .inr (0, [.ref b1, .ref b2, .int (nI n2), .int (nI w2)])), (b1, .inl (cI, 40, .inl F2)), (b2, .inl (cI, 40, .inl G2)), (u, .inr (2, [.int (nI w), .ref c1, .ref c2, .ref c3])), (c1, .inl (cI, n, .inl C)), (c2, .inl (cI, n, .inl V)), (c3, .inl (cZ, n, .inl Z))] := hD
  refine lv_aload_n hx hb dL_law_82 rfl (lv_at hl 1 rfl) ?_
  have hPc : va_P D vwCl [(o, .inr (1, [.ref r, .ref t])), (r, .inr (0, [.ref a1, .ref a2, .int (nI n), .int (nI w)])), (a1, .inl (cI, 40, .inl F)), (a2, .inl (cI, 40, .inl G)), (t, .inr (0, [.ref b1, .ref b2, .int (nI n2), .int (nI w2)])), (b1, .inl (cI, 40, .inl F2)), (b2, .inl (cI, 40, .inl G2))] H := hP.sub [0, 1, 2, 3, 4, 5, 6] rfl
  have hDc : va_D A [(o, .inr (1, [.ref r, .ref t])), (r, .inr (0, [.ref a1, .ref a2, .int (nI n), .int (nI w)])), (a1, .inl (cI, 40, .inl F)), (a2, .inl (cI, 40, .inl G)), (t, .inr (0, [.ref b1, .ref b2, .int (nI n2), .int (nI w2)])), (b1, .inl (cI, 40, .inl F2)), (b2, .inl (cI, 40, .inl G2))] := hD.sub [0, 1, 2, 3, 4, 5, 6] (by decide) rfl
  have hFc := va_free (wc := [(o, .inr (1, [.ref r, .ref t])), (r, .inr (0, [.ref a1, .ref a2, .int (nI n), .int (nI w)])), (a1, .inl (cI, 40, .inl F)), (a2, .inl (cI, 40, .inl G)), (t, .inr (0, [.ref b1, .ref b2, .int (nI n2), .int (nI w2)])), (b1, .inl (cI, 40, .inl F2)), (b2, .inl (cI, 40, .inl G2))]) hD hS hA [0, 1, 2, 3, 4, 5, 6] rfl
  refine pq_l (va_runV (rest := []) CF (m_X1_digest l D cI o r t a1 a2 b1 b2 S n2 w2 F2 G2  H.size) (cwV 0 hts gL_law_X1_digest rfl rfl rfl k_X1_digest ⟨Nat.le_of_ble_eq_true rfl, Nat.le_of_ble_eq_true rfl⟩) (mv_pre hKc hPc hDc rfl rfl rfl) rfl rfl hl.1 rfl (lv_room (Nat.le_of_ble_eq_true rfl)) dL_law_83 ⟨by show _ ≤ 600172; omega, by show _ ≤ 7300668; omega⟩) hS hFc (fun r1 H locs hB hk1 hS => ?_)
  obtain ⟨rfl, n3, w3, F3, G3, hP1⟩ := hB
  obtain ⟨hP, hD⟩ := jn (wb := [(o, .inr (1, [.ref r, .ref t])), (r, .inr (0, [.ref a1, .ref a2, .int (nI n), .int (nI w)])), (a1, .inl (cI, 40, .inl F)), (a2, .inl (cI, 40, .inl G)), (t, .inr (0, [.ref b1, .ref b2, .int (nI n3), .int (nI w3)])), (b1, .inl (cI, 40, .inl F3)), (b2, .inl (cI, 40, .inl G3)), (u, .inr (2, [.int (nI w), .ref c1, .ref c2, .ref c3])), (c1, .inl (cI, n, .inl C)), (c2, .inl (cI, n, .inl V)), (c3, .inl (cZ, n, .inl Z))]) (w1 := [(o, .inr (1, [.ref r, .ref t])), (r, .inr (0, [.ref a1, .ref a2, .int (nI n), .int (nI w)])), (a1, .inl (cI, 40, .inl F)), (a2, .inl (cI, 40, .inl G)), (t, .inr (0, [.ref b1, .ref b2, .int (nI n3), .int (nI w3)])), (b1, .inl (cI, 40, .inl F3)), (b2, .inl (cI, 40, .inl G3))]) hP hD [0, 1, 2, 3, 4, 5, 6] [7, 8, 9, 10] rfl rfl rfl rfl 11 rfl (by decide) (by decide) hk1 hP1
  refine lv_lstore (lv' := [(5, .long (DG n w f g)), (0, .ref b), (1, .ref o), (2, .ref u), (3, .int (nI i)), (4, .int x)]) hx hb dL_law_86 hl (by decide) rfl (fun ls hl => ?_)
  refine lv_aload_n hx hb dL_law_88 rfl (lv_at hl 2 rfl) ?_
  refine pv_i CF (m_X1_hooks l D cI o r t a1 a2 b1 b2 S n3 w3 F3 G3 ) (cwV 0 hts gL_law_X1_hooks rfl rfl rfl k_X1_hooks ⟨Nat.le_of_ble_eq_true rfl, Nat.le_of_ble_eq_true rfl⟩) hK1 (hP.sub [0, 1, 2, 3, 4, 5, 6] rfl) rfl rfl rfl rfl hl.1 rfl (Nat.le_of_ble_eq_true rfl) dL_law_89 ⟨by show _ ≤ 600172; omega, by show _ ≤ 7300668; omega⟩ ?_
  refine lv_istore (lv' := [(7, .int (nI n)), (5, .long (DG n w f g)), (0, .ref b), (1, .ref o), (2, .ref u), (3, .int (nI i)), (4, .int x)]) hx hb dL_law_92 hl (by decide) rfl (fun ls hl => ?_)
  refine lv_iconst (v := nI 0) hx hb dL_law_94 (by decide) ?_
  refine lv_istore (lv' := [(8, .int (nI 0)), (7, .int (nI n)), (5, .long (DG n w f g)), (0, .ref b), (1, .ref o), (2, .ref u), (3, .int (nI i)), (4, .int x)]) hx hb dL_law_95 hl (by decide) rfl (fun ls hl => ?_)
  refine lv_iconst (v := nI 0) hx hb dL_law_97 (by decide) ?_
  refine lv_istore (lv' := [(9, .int (nI 0)), (8, .int (nI 0)), (7, .int (nI n)), (5, .long (DG n w f g)), (0, .ref b), (1, .ref o), (2, .ref u), (3, .int (nI i)), (4, .int x)]) hx hb dL_law_98 hl (by decide) rfl (fun ls hl => ?_)
  refine lv_iconst (v := nI 0) hx hb dL_law_100 (by decide) ?_
  refine lv_istore (lv' := [(10, .int (nI 0)), (9, .int (nI 0)), (8, .int (nI 0)), (7, .int (nI n)), (5, .long (DG n w f g)), (0, .ref b), (1, .ref o), (2, .ref u), (3, .int (nI i)), (4, .int x)]) hx hb dL_law_101 hl (by decide) rfl (fun ls hl => ?_)
  refine lv_iconst (v := nI 0) hx hb dL_law_103 (by decide) ?_
  refine lv_istore (lv' := [(11, .int (nI 0)), (10, .int (nI 0)), (9, .int (nI 0)), (8, .int (nI 0)), (7, .int (nI n)), (5, .long (DG n w f g)), (0, .ref b), (1, .ref o), (2, .ref u), (3, .int (nI i)), (4, .int x)]) hx hb dL_law_104 hl (by decide) rfl (fun ls hl => ?_)
  refine lv_iconst (v := nI 0) hx hb dL_law_106 (by decide) ?_
  refine lv_istore (lv' := [(12, .int (nI 0)), (11, .int (nI 0)), (10, .int (nI 0)), (9, .int (nI 0)), (8, .int (nI 0)), (7, .int (nI n)), (5, .long (DG n w f g)), (0, .ref b), (1, .ref o), (2, .ref u), (3, .int (nI i)), (4, .int x)]) hx hb dL_law_107 hl (by decide) rfl (fun ls hl => ?_)
  have LP109 : ∀ (q j9 fa9 bq sm9 : Nat) (af : Int32) (mm : Nat), j9 + q = n → fo (fun a i => if st (f i) = nI 0 then a + 1 else a) q j9 fa9 = ct n f (nI 0) → bq + fa9 = j9 → fo (fun a i => a + lx n w f i) q j9 sm9 = sm n w f → mm ≤ n → fo (fun (a : Int32 × Nat) i => if a.2 < lx n w f i then (f i, lx n w f i) else a) q j9 (af, mm) = fa n w f → ∀ (ls : Array Slot), lv_has ls 30 [(12, .int (nI j9)), (11, .int (nI mm)), (10, .int (nI sm9)), (9, .int (nI bq)), (8, .int (nI fa9)), (7, .int (nI n)), (5, .long (DG n w f g)), (0, .ref b), (1, .ref o), (2, .ref u), (3, .int (nI i)), (4, .int x)] → W p l e room_1 s m #[.ref b] below meth c H locs kc ks Q (F0 m 109 ls []) := by
    intro q
    induction q with
    | zero =>
      intro j9 fa9 bq sm9 af mm h1 ha hbq hs hm9 hf ls hl
      refine lv_iload hx hb dL_law_109 (lv_at hl 0 rfl) ?_
      refine lv_iload hx hb dL_law_111 (lv_at hl 5 rfl) ?_
      refine bn_ge (tgt := 360) hx hb dL_law_113 (by decide) (by omega) (by omega) (fun c113 => ?_) (fun c113 => ?_)
      · skip
        have ea : fa9 = ct n f (nI 0) := ha
        have eb : bq = n - ct n f (nI 0) := by omega
        have es : sm9 = sm n w f := hs
        have em : mm = (fa n w f).2 := congrArg Prod.snd hf
        rw [eb, es, em] at hl
        rw [ea] at hl
        refine w_widen (k := kc) (n := ks) (by omega) (by omega) ?_
        exact hk _ _ _ _ _ _ _ _ _ _ _ _ _ _ _ S S2 hP hD hS (lv_sub hl [7, 8, 9, 10, 11, 6, 5, 4, 3, 2, 1] rfl)
      · skip
        omega
    | succ q ih =>
      intro j9 fa9 bq sm9 af mm h1 ha hbq hs hm9 hf ls hl
      refine lv_iload hx hb dL_law_109 (lv_at hl 0 rfl) ?_
      refine lv_iload hx hb dL_law_111 (lv_at hl 5 rfl) ?_
      refine bn_ge (tgt := 360) hx hb dL_law_113 (by decide) (by omega) (by omega) (fun c113 => ?_) (fun c113 => ?_)
      · skip
        omega
      · skip
        have hrle := rl_le (show 0 < n by omega) f j9
        have hlr := lr_ge (f := f) (show j9 < n by omega)
        have hlrn := lr_le (show 0 < n by omega) (f := f)
        rcases hO j9 (by omega) with ⟨e1, e2⟩ | ⟨e1, e2⟩ | ⟨y9, z9, hx9, e1, hy1, hy2, e2⟩
        · skip
          have hst : st (f j9) = nI 0 := by rw [e1]; decide
          have hcn : cn (f j9) = -1 := by rw [e1]; decide
          have hng : ¬ 0 ≤ f j9 := by rw [e1]; decide
          have hrl : rl n f j9 = 0 := rl_0 e1
          refine lv_aload_n hx hb dL_law_116 rfl (lv_at hl 8 rfl) ?_
          refine lv_iload hx hb dL_law_117 (lv_at hl 0 rfl) ?_
          refine xn_i (vx_runV (rest := []) CF (m_X1_stateOf l hlt D cI o r t a1 a2 b1 b2 S n3 w3 F3 G3 (nI j9)) (cwV 1 hts gL_law_X1_stateOf rfl rfl rfl k_X1_stateOf ⟨Nat.le_of_ble_eq_true rfl, Nat.le_of_ble_eq_true rfl⟩) (px_pre hK1 (hP.sub [0, 1, 2, 3, 4, 5, 6] rfl) hX (xz_at hZ hS) rfl rfl rfl) rfl rfl hl.1 rfl (lv_room (Nat.le_of_ble_eq_true rfl)) dL_law_119 ⟨by show _ ≤ 600172; omega, by show _ ≤ 7300668; omega⟩) (fun E hE => hE.2 ⟨j9, (by omega), rfl⟩) (fun r1 hr1 => ?_)
          obtain ⟨k9, hk9, e9, er⟩ := hr1
          rw [show k9 = j9 from nI_inj (by omega) (by omega) e9.symm] at er
          refine tp_i (y := (nI 0)) (er.trans hst) ?_
          refine lv_istore (lv' := [(13, .int (nI 0)), (12, .int (nI j9)), (11, .int (nI mm)), (10, .int (nI sm9)), (9, .int (nI bq)), (8, .int (nI fa9)), (7, .int (nI n)), (5, .long (DG n w f g)), (0, .ref b), (1, .ref o), (2, .ref u), (3, .int (nI i)), (4, .int x)]) hx hb dL_law_122 hl (by decide) rfl (fun ls hl => ?_)
          refine lv_aload_n hx hb dL_law_124 rfl (lv_at hl 9 rfl) ?_
          refine lv_iload hx hb dL_law_125 (lv_at hl 1 rfl) ?_
          refine xn_i (vx_runV (rest := []) CF (m_X1_coatAt l hlt D cI o r t a1 a2 b1 b2 S n3 w3 F3 G3 (nI j9)) (cwV 1 hts gL_law_X1_coatAt rfl rfl rfl k_X1_coatAt ⟨Nat.le_of_ble_eq_true rfl, Nat.le_of_ble_eq_true rfl⟩) (px_pre hK1 (hP.sub [0, 1, 2, 3, 4, 5, 6] rfl) hX (xz_at hZ hS) rfl rfl rfl) rfl rfl hl.1 rfl (lv_room (Nat.le_of_ble_eq_true rfl)) dL_law_127 ⟨by show _ ≤ 600172; omega, by show _ ≤ 7300668; omega⟩) (fun E hE => hE.2 ⟨j9, (by omega), rfl⟩) (fun r1 hr1 => ?_)
          obtain ⟨k9, hk9, e9, er⟩ := hr1
          rw [show k9 = j9 from nI_inj (by omega) (by omega) e9.symm] at er
          refine tp_i (y := (-1)) (er.trans hcn) ?_
          refine lv_istore (lv' := [(14, .int (-1)), (13, .int (nI 0)), (12, .int (nI j9)), (11, .int (nI mm)), (10, .int (nI sm9)), (9, .int (nI bq)), (8, .int (nI fa9)), (7, .int (nI n)), (5, .long (DG n w f g)), (0, .ref b), (1, .ref o), (2, .ref u), (3, .int (nI i)), (4, .int x)]) hx hb dL_law_130 hl (by decide) rfl (fun ls hl => ?_)
          refine lv_iload hx hb dL_law_132 (lv_at hl 6 rfl) ?_
          refine lv_iload hx hb dL_law_134 (lv_at hl 1 rfl) ?_
          refine bz_ne (tgt := 143) hx hb dL_law_136 (by decide) (by omega) (fun c136 => ?_) (fun c136 => ?_)
          · skip
            omega
          · skip
            refine lv_iconst (v := nI 1) hx hb dL_law_139 (by decide) ?_
            refine lv_goto (tgt := 144) hx hb dL_law_140 (by decide) ?_
            refine an_add hx hb dL_law_144 ?_
            refine lv_istore (lv' := [(8, .int (nI (fa9 + 1))), (14, .int (-1)), (13, .int (nI 0)), (12, .int (nI j9)), (11, .int (nI mm)), (10, .int (nI sm9)), (9, .int (nI bq)), (7, .int (nI n)), (5, .long (DG n w f g)), (0, .ref b), (1, .ref o), (2, .ref u), (3, .int (nI i)), (4, .int x)]) hx hb dL_law_145 hl (by decide) rfl (fun ls hl => ?_)
            refine lv_iload hx hb dL_law_147 (lv_at hl 6 rfl) ?_
            refine lv_aload_n hx hb dL_law_149 rfl (lv_at hl 10 rfl) ?_
            refine lv_iload hx hb dL_law_150 (lv_at hl 3 rfl) ?_
            refine xn_i (vx_runV (rest := [.int (nI bq)]) CF (m_X1_rowAt l hlt D cI o r t a1 a2 b1 b2 S n3 w3 F3 G3 (nI j9)) (cwV 1 hts gL_law_X1_rowAt rfl rfl rfl k_X1_rowAt ⟨Nat.le_of_ble_eq_true rfl, Nat.le_of_ble_eq_true rfl⟩) (px_pre hK1 (hP.sub [0, 1, 2, 3, 4, 5, 6] rfl) hX (xz_at hZ hS) rfl rfl rfl) rfl rfl hl.1 rfl (lv_room (Nat.le_of_ble_eq_true rfl)) dL_law_152 ⟨by show _ ≤ 600172; omega, by show _ ≤ 7300668; omega⟩) (fun E hE => hE.2 ⟨j9, (by omega), rfl⟩) (fun r1 hr1 => ?_)
            obtain ⟨k9, hk9, e9, er⟩ := hr1
            rw [show k9 = j9 from nI_inj (by omega) (by omega) e9.symm] at er
            refine tp_i (y := (nI (rl n f j9))) er ?_
            refine bz_le (tgt := 162) hx hb dL_law_155 (by decide) (by omega) (fun c155 => ?_) (fun c155 => ?_)
            · skip
              refine lv_iconst (v := nI 0) hx hb dL_law_162 (by decide) ?_
              refine an_add hx hb dL_law_163 ?_
              refine lv_istore (lv' := [(9, .int (nI (bq + 0))), (8, .int (nI (fa9 + 1))), (14, .int (-1)), (13, .int (nI 0)), (12, .int (nI j9)), (11, .int (nI mm)), (10, .int (nI sm9)), (7, .int (nI n)), (5, .long (DG n w f g)), (0, .ref b), (1, .ref o), (2, .ref u), (3, .int (nI i)), (4, .int x)]) hx hb dL_law_164 hl (by decide) rfl (fun ls hl => ?_)
              refine lv_iload hx hb dL_law_166 (lv_at hl 3 rfl) ?_
              refine bz_lt (tgt := 269) hx hb dL_law_168 (by decide) (by omega) ?_
              refine lv_iload hx hb dL_law_171 (lv_at hl 3 rfl) ?_
              refine lv_iconst (v := nI 2) hx hb dL_law_173 (by decide) ?_
              refine bn_gt (tgt := 269) hx hb dL_law_174 (by decide) (by omega) (by omega) (fun c174 => ?_) (fun c174 => ?_)
              · skip
                omega
              · skip
                refine lv_iload hx hb dL_law_177 (lv_at hl 3 rfl) ?_
                refine lv_iconst (v := nI 1) hx hb dL_law_179 (by decide) ?_
                refine bn_ne (tgt := 187) hx hb dL_law_180 (by decide) (by omega) (by omega) (fun c180 => ?_) (fun c180 => ?_)
                · skip
                  refine lv_iconst (v := nI 0) hx hb dL_law_187 (by decide) ?_
                  refine lv_iload hx hb dL_law_188 (lv_at hl 2 rfl) ?_
                  refine lv_if_lt (tgt := 197) hx hb dL_law_190 (by decide) (fun c190 => ?_) (fun c190 => ?_)
                  · skip
                    refine lv_iconst (v := nI 0) hx hb dL_law_197 (by decide) ?_
                    refine bn_ne (tgt := 269) hx hb dL_law_198 (by decide) (by omega) (by omega) (fun c198 => ?_) (fun c198 => ?_)
                    · skip
                      omega
                    · skip
                      refine lv_aload_n hx hb dL_law_201 rfl (lv_at hl 10 rfl) ?_
                      refine lv_iload hx hb dL_law_202 (lv_at hl 4 rfl) ?_
                      refine xn_i (vx_runV (rest := []) CF (m_X1_weightAt l hlt D cI o r t a1 a2 b1 b2 S n3 w3 F3 G3 (nI j9)) (cwV 1 hts gL_law_X1_weightAt rfl rfl rfl k_X1_weightAt ⟨Nat.le_of_ble_eq_true rfl, Nat.le_of_ble_eq_true rfl⟩) (px_pre hK1 (hP.sub [0, 1, 2, 3, 4, 5, 6] rfl) hX (xz_at hZ hS) rfl rfl rfl) rfl rfl hl.1 rfl (lv_room (Nat.le_of_ble_eq_true rfl)) dL_law_204 ⟨by show _ ≤ 600172; omega, by show _ ≤ 7300668; omega⟩) (fun E hE => hE.2 ⟨j9, (by omega), rfl⟩) (fun r1 hr1 => ?_)
                      obtain ⟨k9, hk9, e9, er⟩ := hr1
                      rw [show k9 = j9 from nI_inj (by omega) (by omega) e9.symm] at er
                      refine tp_i (y := (nI 0)) (er.trans e2) ?_
                      refine bz_le (tgt := 214) hx hb dL_law_207 (by decide) (by omega) (fun c207 => ?_) (fun c207 => ?_)
                      · skip
                        refine lv_iconst (v := nI 0) hx hb dL_law_214 (by decide) ?_
                        refine lv_iload hx hb dL_law_215 (lv_at hl 3 rfl) ?_
                        refine lv_iconst (v := nI 1) hx hb dL_law_217 (by decide) ?_
                        refine bn_ne (tgt := 225) hx hb dL_law_218 (by decide) (by omega) (by omega) (fun c218 => ?_) (fun c218 => ?_)
                        · skip
                          refine lv_iconst (v := nI 0) hx hb dL_law_225 (by decide) ?_
                          refine bn_ne (tgt := 269) hx hb dL_law_226 (by decide) (by omega) (by omega) (fun c226 => ?_) (fun c226 => ?_)
                          · skip
                            omega
                          · skip
                            refine lv_aload_n hx hb dL_law_229 rfl (lv_at hl 10 rfl) ?_
                            refine lv_iload hx hb dL_law_230 (lv_at hl 4 rfl) ?_
                            refine xn_i (vx_runV (rest := []) CF (m_X1_rowAt l hlt D cI o r t a1 a2 b1 b2 S n3 w3 F3 G3 (nI j9)) (cwV 1 hts gL_law_X1_rowAt rfl rfl rfl k_X1_rowAt ⟨Nat.le_of_ble_eq_true rfl, Nat.le_of_ble_eq_true rfl⟩) (px_pre hK1 (hP.sub [0, 1, 2, 3, 4, 5, 6] rfl) hX (xz_at hZ hS) rfl rfl rfl) rfl rfl hl.1 rfl (lv_room (Nat.le_of_ble_eq_true rfl)) dL_law_232 ⟨by show _ ≤ 600172; omega, by show _ ≤ 7300668; omega⟩) (fun E hE => hE.2 ⟨j9, (by omega), rfl⟩) (fun r1 hr1 => ?_)
                            obtain ⟨k9, hk9, e9, er⟩ := hr1
                            rw [show k9 = j9 from nI_inj (by omega) (by omega) e9.symm] at er
                            refine tp_i (y := (nI (rl n f j9))) er ?_
                            refine bz_ne (tgt := 242) hx hb dL_law_235 (by decide) (by omega) (fun c235 => ?_) (fun c235 => ?_)
                            · skip
                              omega
                            · skip
                              refine lv_iconst (v := nI 1) hx hb dL_law_238 (by decide) ?_
                              refine lv_goto (tgt := 243) hx hb dL_law_239 (by decide) ?_
                              refine lv_iload hx hb dL_law_243 (lv_at hl 3 rfl) ?_
                              refine bz_ne (tgt := 252) hx hb dL_law_245 (by decide) (by omega) (fun c245 => ?_) (fun c245 => ?_)
                              · skip
                                omega
                              · skip
                                refine lv_iconst (v := nI 1) hx hb dL_law_248 (by decide) ?_
                                refine lv_goto (tgt := 253) hx hb dL_law_249 (by decide) ?_
                                refine bn_ne (tgt := 269) hx hb dL_law_253 (by decide) (by omega) (by omega) (fun c253 => ?_) (fun c253 => ?_)
                                · skip
                                  omega
                                · skip
                                  refine lv_aload_n hx hb dL_law_256 rfl (lv_at hl 10 rfl) ?_
                                  refine lv_iload hx hb dL_law_257 (lv_at hl 4 rfl) ?_
                                  refine xn_i (vx_runV (rest := []) CF (m_X1_rowAt l hlt D cI o r t a1 a2 b1 b2 S n3 w3 F3 G3 (nI j9)) (cwV 1 hts gL_law_X1_rowAt rfl rfl rfl k_X1_rowAt ⟨Nat.le_of_ble_eq_true rfl, Nat.le_of_ble_eq_true rfl⟩) (px_pre hK1 (hP.sub [0, 1, 2, 3, 4, 5, 6] rfl) hX (xz_at hZ hS) rfl rfl rfl) rfl rfl hl.1 rfl (lv_room (Nat.le_of_ble_eq_true rfl)) dL_law_259 ⟨by show _ ≤ 600172; omega, by show _ ≤ 7300668; omega⟩) (fun E hE => hE.2 ⟨j9, (by omega), rfl⟩) (fun r1 hr1 => ?_)
                                  obtain ⟨k9, hk9, e9, er⟩ := hr1
                                  rw [show k9 = j9 from nI_inj (by omega) (by omega) e9.symm] at er
                                  refine tp_i (y := (nI (rl n f j9))) er ?_
                                  refine lv_aload_n hx hb dL_law_262 rfl (lv_at hl 10 rfl) ?_
                                  refine pv_i CF (m_X1_longestRow l D cI o r t a1 a2 b1 b2 S n3 w3 F3 G3 ) (cwV 0 hts gL_law_X1_longestRow rfl rfl rfl k_X1_longestRow ⟨Nat.le_of_ble_eq_true rfl, Nat.le_of_ble_eq_true rfl⟩) hK1 (hP.sub [0, 1, 2, 3, 4, 5, 6] rfl) rfl rfl rfl rfl hl.1 rfl (Nat.le_of_ble_eq_true rfl) dL_law_263 ⟨by show _ ≤ 600172; omega, by show _ ≤ 7300668; omega⟩ ?_
                                  refine bn_le (tgt := 271) hx hb dL_law_266 (by decide) (by omega) (by omega) (fun c266 => ?_) (fun c266 => ?_)
                                  · skip
                                    refine lv_iload hx hb dL_law_271 (lv_at hl 2 rfl) ?_
                                    refine lv_if_ge (tgt := 279) hx hb dL_law_273 (by decide) (fun c273 => ?_) (fun c273 => ?_)
                                    · skip
                                      exact absurd c273 (by decide)
                                    · skip
                                      refine lv_goto (tgt := 354) hx hb dL_law_276 (by decide) ?_
                                      refine lv_iinc (v := (nI (j9 + 1))) (lv' := [(12, .int (nI (j9 + 1))), (9, .int (nI (bq + 0))), (8, .int (nI (fa9 + 1))), (14, .int (-1)), (13, .int (nI 0)), (11, .int (nI mm)), (10, .int (nI sm9)), (7, .int (nI n)), (5, .long (DG n w f g)), (0, .ref b), (1, .ref o), (2, .ref u), (3, .int (nI i)), (4, .int x)]) hx hb dL_law_354 hl (k := 4) rfl (inc1 _) (by decide) rfl (fun ls hl => ?_)
                                      refine lv_goto (tgt := 109) hx hb dL_law_357 (by decide) ?_
                                      exact ih (j9 + 1) (fa9 + 1) (bq + 0) sm9 af mm (by omega) (by rw [fo_s, if_pos hst] at ha; exact ha) (by omega) (by rw [fo_s, lx_0 hng] at hs; exact hs) hm9 (fa_skip hng hf) _ (lv_sub hl [0, 5, 6, 1, 2, 7, 8, 9, 10, 11, 12, 13] rfl)
                                  · skip
                                    omega
                        · skip
                          omega
                      · skip
                        omega
                  · skip
                    exact absurd (show (-1 : Int32) < 0 by decide) c190
                · skip
                  omega
            · skip
              omega
        · skip
          have hst : st (f j9) = nI 2 := by rw [e1]; decide
          have hcn : cn (f j9) = -1 := by rw [e1]; decide
          have hng : ¬ 0 ≤ f j9 := by rw [e1]; decide
          have hrl : 0 < rl n f j9 := rl_p (by rw [e1]; decide)
          refine lv_aload_n hx hb dL_law_116 rfl (lv_at hl 8 rfl) ?_
          refine lv_iload hx hb dL_law_117 (lv_at hl 0 rfl) ?_
          refine xn_i (vx_runV (rest := []) CF (m_X1_stateOf l hlt D cI o r t a1 a2 b1 b2 S n3 w3 F3 G3 (nI j9)) (cwV 1 hts gL_law_X1_stateOf rfl rfl rfl k_X1_stateOf ⟨Nat.le_of_ble_eq_true rfl, Nat.le_of_ble_eq_true rfl⟩) (px_pre hK1 (hP.sub [0, 1, 2, 3, 4, 5, 6] rfl) hX (xz_at hZ hS) rfl rfl rfl) rfl rfl hl.1 rfl (lv_room (Nat.le_of_ble_eq_true rfl)) dL_law_119 ⟨by show _ ≤ 600172; omega, by show _ ≤ 7300668; omega⟩) (fun E hE => hE.2 ⟨j9, (by omega), rfl⟩) (fun r1 hr1 => ?_)
          obtain ⟨k9, hk9, e9, er⟩ := hr1
          rw [show k9 = j9 from nI_inj (by omega) (by omega) e9.symm] at er
          refine tp_i (y := (nI 2)) (er.trans hst) ?_
          refine lv_istore (lv' := [(13, .int (nI 2)), (12, .int (nI j9)), (11, .int (nI mm)), (10, .int (nI sm9)), (9, .int (nI bq)), (8, .int (nI fa9)), (7, .int (nI n)), (5, .long (DG n w f g)), (0, .ref b), (1, .ref o), (2, .ref u), (3, .int (nI i)), (4, .int x)]) hx hb dL_law_122 hl (by decide) rfl (fun ls hl => ?_)
          refine lv_aload_n hx hb dL_law_124 rfl (lv_at hl 9 rfl) ?_
          refine lv_iload hx hb dL_law_125 (lv_at hl 1 rfl) ?_
          refine xn_i (vx_runV (rest := []) CF (m_X1_coatAt l hlt D cI o r t a1 a2 b1 b2 S n3 w3 F3 G3 (nI j9)) (cwV 1 hts gL_law_X1_coatAt rfl rfl rfl k_X1_coatAt ⟨Nat.le_of_ble_eq_true rfl, Nat.le_of_ble_eq_true rfl⟩) (px_pre hK1 (hP.sub [0, 1, 2, 3, 4, 5, 6] rfl) hX (xz_at hZ hS) rfl rfl rfl) rfl rfl hl.1 rfl (lv_room (Nat.le_of_ble_eq_true rfl)) dL_law_127 ⟨by show _ ≤ 600172; omega, by show _ ≤ 7300668; omega⟩) (fun E hE => hE.2 ⟨j9, (by omega), rfl⟩) (fun r1 hr1 => ?_)
          obtain ⟨k9, hk9, e9, er⟩ := hr1
          rw [show k9 = j9 from nI_inj (by omega) (by omega) e9.symm] at er
          refine tp_i (y := (-1)) (er.trans hcn) ?_
          refine lv_istore (lv' := [(14, .int (-1)), (13, .int (nI 2)), (12, .int (nI j9)), (11, .int (nI mm)), (10, .int (nI sm9)), (9, .int (nI bq)), (8, .int (nI fa9)), (7, .int (nI n)), (5, .long (DG n w f g)), (0, .ref b), (1, .ref o), (2, .ref u), (3, .int (nI i)), (4, .int x)]) hx hb dL_law_130 hl (by decide) rfl (fun ls hl => ?_)
          refine lv_iload hx hb dL_law_132 (lv_at hl 6 rfl) ?_
          refine lv_iload hx hb dL_law_134 (lv_at hl 1 rfl) ?_
          refine bz_ne (tgt := 143) hx hb dL_law_136 (by decide) (by omega) (fun c136 => ?_) (fun c136 => ?_)
          · skip
            refine lv_iconst (v := nI 0) hx hb dL_law_143 (by decide) ?_
            refine an_add hx hb dL_law_144 ?_
            refine lv_istore (lv' := [(8, .int (nI (fa9 + 0))), (14, .int (-1)), (13, .int (nI 2)), (12, .int (nI j9)), (11, .int (nI mm)), (10, .int (nI sm9)), (9, .int (nI bq)), (7, .int (nI n)), (5, .long (DG n w f g)), (0, .ref b), (1, .ref o), (2, .ref u), (3, .int (nI i)), (4, .int x)]) hx hb dL_law_145 hl (by decide) rfl (fun ls hl => ?_)
            refine lv_iload hx hb dL_law_147 (lv_at hl 6 rfl) ?_
            refine lv_aload_n hx hb dL_law_149 rfl (lv_at hl 10 rfl) ?_
            refine lv_iload hx hb dL_law_150 (lv_at hl 3 rfl) ?_
            refine xn_i (vx_runV (rest := [.int (nI bq)]) CF (m_X1_rowAt l hlt D cI o r t a1 a2 b1 b2 S n3 w3 F3 G3 (nI j9)) (cwV 1 hts gL_law_X1_rowAt rfl rfl rfl k_X1_rowAt ⟨Nat.le_of_ble_eq_true rfl, Nat.le_of_ble_eq_true rfl⟩) (px_pre hK1 (hP.sub [0, 1, 2, 3, 4, 5, 6] rfl) hX (xz_at hZ hS) rfl rfl rfl) rfl rfl hl.1 rfl (lv_room (Nat.le_of_ble_eq_true rfl)) dL_law_152 ⟨by show _ ≤ 600172; omega, by show _ ≤ 7300668; omega⟩) (fun E hE => hE.2 ⟨j9, (by omega), rfl⟩) (fun r1 hr1 => ?_)
            obtain ⟨k9, hk9, e9, er⟩ := hr1
            rw [show k9 = j9 from nI_inj (by omega) (by omega) e9.symm] at er
            refine tp_i (y := (nI (rl n f j9))) er ?_
            refine bz_le (tgt := 162) hx hb dL_law_155 (by decide) (by omega) (fun c155 => ?_) (fun c155 => ?_)
            · skip
              omega
            · skip
              refine lv_iconst (v := nI 1) hx hb dL_law_158 (by decide) ?_
              refine lv_goto (tgt := 163) hx hb dL_law_159 (by decide) ?_
              refine an_add hx hb dL_law_163 ?_
              refine lv_istore (lv' := [(9, .int (nI (bq + 1))), (8, .int (nI (fa9 + 0))), (14, .int (-1)), (13, .int (nI 2)), (12, .int (nI j9)), (11, .int (nI mm)), (10, .int (nI sm9)), (7, .int (nI n)), (5, .long (DG n w f g)), (0, .ref b), (1, .ref o), (2, .ref u), (3, .int (nI i)), (4, .int x)]) hx hb dL_law_164 hl (by decide) rfl (fun ls hl => ?_)
              refine lv_iload hx hb dL_law_166 (lv_at hl 3 rfl) ?_
              refine bz_lt (tgt := 269) hx hb dL_law_168 (by decide) (by omega) ?_
              refine lv_iload hx hb dL_law_171 (lv_at hl 3 rfl) ?_
              refine lv_iconst (v := nI 2) hx hb dL_law_173 (by decide) ?_
              refine bn_gt (tgt := 269) hx hb dL_law_174 (by decide) (by omega) (by omega) (fun c174 => ?_) (fun c174 => ?_)
              · skip
                omega
              · skip
                refine lv_iload hx hb dL_law_177 (lv_at hl 3 rfl) ?_
                refine lv_iconst (v := nI 1) hx hb dL_law_179 (by decide) ?_
                refine bn_ne (tgt := 187) hx hb dL_law_180 (by decide) (by omega) (by omega) (fun c180 => ?_) (fun c180 => ?_)
                · skip
                  refine lv_iconst (v := nI 0) hx hb dL_law_187 (by decide) ?_
                  refine lv_iload hx hb dL_law_188 (lv_at hl 2 rfl) ?_
                  refine lv_if_lt (tgt := 197) hx hb dL_law_190 (by decide) (fun c190 => ?_) (fun c190 => ?_)
                  · skip
                    refine lv_iconst (v := nI 0) hx hb dL_law_197 (by decide) ?_
                    refine bn_ne (tgt := 269) hx hb dL_law_198 (by decide) (by omega) (by omega) (fun c198 => ?_) (fun c198 => ?_)
                    · skip
                      omega
                    · skip
                      refine lv_aload_n hx hb dL_law_201 rfl (lv_at hl 10 rfl) ?_
                      refine lv_iload hx hb dL_law_202 (lv_at hl 4 rfl) ?_
                      refine xn_i (vx_runV (rest := []) CF (m_X1_weightAt l hlt D cI o r t a1 a2 b1 b2 S n3 w3 F3 G3 (nI j9)) (cwV 1 hts gL_law_X1_weightAt rfl rfl rfl k_X1_weightAt ⟨Nat.le_of_ble_eq_true rfl, Nat.le_of_ble_eq_true rfl⟩) (px_pre hK1 (hP.sub [0, 1, 2, 3, 4, 5, 6] rfl) hX (xz_at hZ hS) rfl rfl rfl) rfl rfl hl.1 rfl (lv_room (Nat.le_of_ble_eq_true rfl)) dL_law_204 ⟨by show _ ≤ 600172; omega, by show _ ≤ 7300668; omega⟩) (fun E hE => hE.2 ⟨j9, (by omega), rfl⟩) (fun r1 hr1 => ?_)
                      obtain ⟨k9, hk9, e9, er⟩ := hr1
                      rw [show k9 = j9 from nI_inj (by omega) (by omega) e9.symm] at er
                      refine tp_i (y := (nI 0)) (er.trans e2) ?_
                      refine bz_le (tgt := 214) hx hb dL_law_207 (by decide) (by omega) (fun c207 => ?_) (fun c207 => ?_)
                      · skip
                        refine lv_iconst (v := nI 0) hx hb dL_law_214 (by decide) ?_
                        refine lv_iload hx hb dL_law_215 (lv_at hl 3 rfl) ?_
                        refine lv_iconst (v := nI 1) hx hb dL_law_217 (by decide) ?_
                        refine bn_ne (tgt := 225) hx hb dL_law_218 (by decide) (by omega) (by omega) (fun c218 => ?_) (fun c218 => ?_)
                        · skip
                          refine lv_iconst (v := nI 0) hx hb dL_law_225 (by decide) ?_
                          refine bn_ne (tgt := 269) hx hb dL_law_226 (by decide) (by omega) (by omega) (fun c226 => ?_) (fun c226 => ?_)
                          · skip
                            omega
                          · skip
                            refine lv_aload_n hx hb dL_law_229 rfl (lv_at hl 10 rfl) ?_
                            refine lv_iload hx hb dL_law_230 (lv_at hl 4 rfl) ?_
                            refine xn_i (vx_runV (rest := []) CF (m_X1_rowAt l hlt D cI o r t a1 a2 b1 b2 S n3 w3 F3 G3 (nI j9)) (cwV 1 hts gL_law_X1_rowAt rfl rfl rfl k_X1_rowAt ⟨Nat.le_of_ble_eq_true rfl, Nat.le_of_ble_eq_true rfl⟩) (px_pre hK1 (hP.sub [0, 1, 2, 3, 4, 5, 6] rfl) hX (xz_at hZ hS) rfl rfl rfl) rfl rfl hl.1 rfl (lv_room (Nat.le_of_ble_eq_true rfl)) dL_law_232 ⟨by show _ ≤ 600172; omega, by show _ ≤ 7300668; omega⟩) (fun E hE => hE.2 ⟨j9, (by omega), rfl⟩) (fun r1 hr1 => ?_)
                            obtain ⟨k9, hk9, e9, er⟩ := hr1
                            rw [show k9 = j9 from nI_inj (by omega) (by omega) e9.symm] at er
                            refine tp_i (y := (nI (rl n f j9))) er ?_
                            refine bz_ne (tgt := 242) hx hb dL_law_235 (by decide) (by omega) (fun c235 => ?_) (fun c235 => ?_)
                            · skip
                              refine lv_iconst (v := nI 0) hx hb dL_law_242 (by decide) ?_
                              refine lv_iload hx hb dL_law_243 (lv_at hl 3 rfl) ?_
                              refine bz_ne (tgt := 252) hx hb dL_law_245 (by decide) (by omega) (fun c245 => ?_) (fun c245 => ?_)
                              · skip
                                refine lv_iconst (v := nI 0) hx hb dL_law_252 (by decide) ?_
                                refine bn_ne (tgt := 269) hx hb dL_law_253 (by decide) (by omega) (by omega) (fun c253 => ?_) (fun c253 => ?_)
                                · skip
                                  omega
                                · skip
                                  refine lv_aload_n hx hb dL_law_256 rfl (lv_at hl 10 rfl) ?_
                                  refine lv_iload hx hb dL_law_257 (lv_at hl 4 rfl) ?_
                                  refine xn_i (vx_runV (rest := []) CF (m_X1_rowAt l hlt D cI o r t a1 a2 b1 b2 S n3 w3 F3 G3 (nI j9)) (cwV 1 hts gL_law_X1_rowAt rfl rfl rfl k_X1_rowAt ⟨Nat.le_of_ble_eq_true rfl, Nat.le_of_ble_eq_true rfl⟩) (px_pre hK1 (hP.sub [0, 1, 2, 3, 4, 5, 6] rfl) hX (xz_at hZ hS) rfl rfl rfl) rfl rfl hl.1 rfl (lv_room (Nat.le_of_ble_eq_true rfl)) dL_law_259 ⟨by show _ ≤ 600172; omega, by show _ ≤ 7300668; omega⟩) (fun E hE => hE.2 ⟨j9, (by omega), rfl⟩) (fun r1 hr1 => ?_)
                                  obtain ⟨k9, hk9, e9, er⟩ := hr1
                                  rw [show k9 = j9 from nI_inj (by omega) (by omega) e9.symm] at er
                                  refine tp_i (y := (nI (rl n f j9))) er ?_
                                  refine lv_aload_n hx hb dL_law_262 rfl (lv_at hl 10 rfl) ?_
                                  refine pv_i CF (m_X1_longestRow l D cI o r t a1 a2 b1 b2 S n3 w3 F3 G3 ) (cwV 0 hts gL_law_X1_longestRow rfl rfl rfl k_X1_longestRow ⟨Nat.le_of_ble_eq_true rfl, Nat.le_of_ble_eq_true rfl⟩) hK1 (hP.sub [0, 1, 2, 3, 4, 5, 6] rfl) rfl rfl rfl rfl hl.1 rfl (Nat.le_of_ble_eq_true rfl) dL_law_263 ⟨by show _ ≤ 600172; omega, by show _ ≤ 7300668; omega⟩ ?_
                                  refine bn_le (tgt := 271) hx hb dL_law_266 (by decide) (by omega) (by omega) (fun c266 => ?_) (fun c266 => ?_)
                                  · skip
                                    refine lv_iload hx hb dL_law_271 (lv_at hl 2 rfl) ?_
                                    refine lv_if_ge (tgt := 279) hx hb dL_law_273 (by decide) (fun c273 => ?_) (fun c273 => ?_)
                                    · skip
                                      exact absurd c273 (by decide)
                                    · skip
                                      refine lv_goto (tgt := 354) hx hb dL_law_276 (by decide) ?_
                                      refine lv_iinc (v := (nI (j9 + 1))) (lv' := [(12, .int (nI (j9 + 1))), (9, .int (nI (bq + 1))), (8, .int (nI (fa9 + 0))), (14, .int (-1)), (13, .int (nI 2)), (11, .int (nI mm)), (10, .int (nI sm9)), (7, .int (nI n)), (5, .long (DG n w f g)), (0, .ref b), (1, .ref o), (2, .ref u), (3, .int (nI i)), (4, .int x)]) hx hb dL_law_354 hl (k := 4) rfl (inc1 _) (by decide) rfl (fun ls hl => ?_)
                                      refine lv_goto (tgt := 109) hx hb dL_law_357 (by decide) ?_
                                      exact ih (j9 + 1) (fa9 + 0) (bq + 1) sm9 af mm (by omega) (by rw [fo_s, if_neg (by rw [hst]; decide)] at ha; exact ha) (by omega) (by rw [fo_s, lx_0 hng] at hs; exact hs) hm9 (fa_skip hng hf) _ (lv_sub hl [0, 5, 6, 1, 2, 7, 8, 9, 10, 11, 12, 13] rfl)
                                  · skip
                                    omega
                              · skip
                                omega
                            · skip
                              omega
                        · skip
                          omega
                      · skip
                        omega
                  · skip
                    exact absurd (show (-1 : Int32) < 0 by decide) c190
                · skip
                  omega
          · skip
            omega
        · skip
          have h0p : 0 ≤ f j9 := by rw [e1]; exact nI_pos' (by omega)
          have hst : st (f j9) = nI 1 := (st_i1 hO (by omega)).mpr h0p
          have hcn : cn (f j9) = nI y9 := by rw [← e1]; exact cn_id h0p
          have hrl : 0 < rl n f j9 := rl_p (nx_m1 hx9 e1)
          have HL : lx n w f j9 = lk n w f y9 := lx_p h0p (by rw [e1]; exact nI_clamp (by omega))
          have hlk := lk_le n w f y9
          refine lv_aload_n hx hb dL_law_116 rfl (lv_at hl 8 rfl) ?_
          refine lv_iload hx hb dL_law_117 (lv_at hl 0 rfl) ?_
          refine xn_i (vx_runV (rest := []) CF (m_X1_stateOf l hlt D cI o r t a1 a2 b1 b2 S n3 w3 F3 G3 (nI j9)) (cwV 1 hts gL_law_X1_stateOf rfl rfl rfl k_X1_stateOf ⟨Nat.le_of_ble_eq_true rfl, Nat.le_of_ble_eq_true rfl⟩) (px_pre hK1 (hP.sub [0, 1, 2, 3, 4, 5, 6] rfl) hX (xz_at hZ hS) rfl rfl rfl) rfl rfl hl.1 rfl (lv_room (Nat.le_of_ble_eq_true rfl)) dL_law_119 ⟨by show _ ≤ 600172; omega, by show _ ≤ 7300668; omega⟩) (fun E hE => hE.2 ⟨j9, (by omega), rfl⟩) (fun r1 hr1 => ?_)
          obtain ⟨k9, hk9, e9, er⟩ := hr1
          rw [show k9 = j9 from nI_inj (by omega) (by omega) e9.symm] at er
          refine tp_i (y := (nI 1)) (er.trans hst) ?_
          refine lv_istore (lv' := [(13, .int (nI 1)), (12, .int (nI j9)), (11, .int (nI mm)), (10, .int (nI sm9)), (9, .int (nI bq)), (8, .int (nI fa9)), (7, .int (nI n)), (5, .long (DG n w f g)), (0, .ref b), (1, .ref o), (2, .ref u), (3, .int (nI i)), (4, .int x)]) hx hb dL_law_122 hl (by decide) rfl (fun ls hl => ?_)
          refine lv_aload_n hx hb dL_law_124 rfl (lv_at hl 9 rfl) ?_
          refine lv_iload hx hb dL_law_125 (lv_at hl 1 rfl) ?_
          refine xn_i (vx_runV (rest := []) CF (m_X1_coatAt l hlt D cI o r t a1 a2 b1 b2 S n3 w3 F3 G3 (nI j9)) (cwV 1 hts gL_law_X1_coatAt rfl rfl rfl k_X1_coatAt ⟨Nat.le_of_ble_eq_true rfl, Nat.le_of_ble_eq_true rfl⟩) (px_pre hK1 (hP.sub [0, 1, 2, 3, 4, 5, 6] rfl) hX (xz_at hZ hS) rfl rfl rfl) rfl rfl hl.1 rfl (lv_room (Nat.le_of_ble_eq_true rfl)) dL_law_127 ⟨by show _ ≤ 600172; omega, by show _ ≤ 7300668; omega⟩) (fun E hE => hE.2 ⟨j9, (by omega), rfl⟩) (fun r1 hr1 => ?_)
          obtain ⟨k9, hk9, e9, er⟩ := hr1
          rw [show k9 = j9 from nI_inj (by omega) (by omega) e9.symm] at er
          refine tp_i (y := (nI y9)) (er.trans hcn) ?_
          refine lv_istore (lv' := [(14, .int (nI y9)), (13, .int (nI 1)), (12, .int (nI j9)), (11, .int (nI mm)), (10, .int (nI sm9)), (9, .int (nI bq)), (8, .int (nI fa9)), (7, .int (nI n)), (5, .long (DG n w f g)), (0, .ref b), (1, .ref o), (2, .ref u), (3, .int (nI i)), (4, .int x)]) hx hb dL_law_130 hl (by decide) rfl (fun ls hl => ?_)
          refine lv_iload hx hb dL_law_132 (lv_at hl 6 rfl) ?_
          refine lv_iload hx hb dL_law_134 (lv_at hl 1 rfl) ?_
          refine bz_ne (tgt := 143) hx hb dL_law_136 (by decide) (by omega) (fun c136 => ?_) (fun c136 => ?_)
          · skip
            refine lv_iconst (v := nI 0) hx hb dL_law_143 (by decide) ?_
            refine an_add hx hb dL_law_144 ?_
            refine lv_istore (lv' := [(8, .int (nI (fa9 + 0))), (14, .int (nI y9)), (13, .int (nI 1)), (12, .int (nI j9)), (11, .int (nI mm)), (10, .int (nI sm9)), (9, .int (nI bq)), (7, .int (nI n)), (5, .long (DG n w f g)), (0, .ref b), (1, .ref o), (2, .ref u), (3, .int (nI i)), (4, .int x)]) hx hb dL_law_145 hl (by decide) rfl (fun ls hl => ?_)
            refine lv_iload hx hb dL_law_147 (lv_at hl 6 rfl) ?_
            refine lv_aload_n hx hb dL_law_149 rfl (lv_at hl 10 rfl) ?_
            refine lv_iload hx hb dL_law_150 (lv_at hl 3 rfl) ?_
            refine xn_i (vx_runV (rest := [.int (nI bq)]) CF (m_X1_rowAt l hlt D cI o r t a1 a2 b1 b2 S n3 w3 F3 G3 (nI j9)) (cwV 1 hts gL_law_X1_rowAt rfl rfl rfl k_X1_rowAt ⟨Nat.le_of_ble_eq_true rfl, Nat.le_of_ble_eq_true rfl⟩) (px_pre hK1 (hP.sub [0, 1, 2, 3, 4, 5, 6] rfl) hX (xz_at hZ hS) rfl rfl rfl) rfl rfl hl.1 rfl (lv_room (Nat.le_of_ble_eq_true rfl)) dL_law_152 ⟨by show _ ≤ 600172; omega, by show _ ≤ 7300668; omega⟩) (fun E hE => hE.2 ⟨j9, (by omega), rfl⟩) (fun r1 hr1 => ?_)
            obtain ⟨k9, hk9, e9, er⟩ := hr1
            rw [show k9 = j9 from nI_inj (by omega) (by omega) e9.symm] at er
            refine tp_i (y := (nI (rl n f j9))) er ?_
            refine bz_le (tgt := 162) hx hb dL_law_155 (by decide) (by omega) (fun c155 => ?_) (fun c155 => ?_)
            · skip
              omega
            · skip
              refine lv_iconst (v := nI 1) hx hb dL_law_158 (by decide) ?_
              refine lv_goto (tgt := 163) hx hb dL_law_159 (by decide) ?_
              refine an_add hx hb dL_law_163 ?_
              refine lv_istore (lv' := [(9, .int (nI (bq + 1))), (8, .int (nI (fa9 + 0))), (14, .int (nI y9)), (13, .int (nI 1)), (12, .int (nI j9)), (11, .int (nI mm)), (10, .int (nI sm9)), (7, .int (nI n)), (5, .long (DG n w f g)), (0, .ref b), (1, .ref o), (2, .ref u), (3, .int (nI i)), (4, .int x)]) hx hb dL_law_164 hl (by decide) rfl (fun ls hl => ?_)
              refine lv_iload hx hb dL_law_166 (lv_at hl 3 rfl) ?_
              refine bz_lt (tgt := 269) hx hb dL_law_168 (by decide) (by omega) ?_
              refine lv_iload hx hb dL_law_171 (lv_at hl 3 rfl) ?_
              refine lv_iconst (v := nI 2) hx hb dL_law_173 (by decide) ?_
              refine bn_gt (tgt := 269) hx hb dL_law_174 (by decide) (by omega) (by omega) (fun c174 => ?_) (fun c174 => ?_)
              · skip
                omega
              · skip
                refine lv_iload hx hb dL_law_177 (lv_at hl 3 rfl) ?_
                refine lv_iconst (v := nI 1) hx hb dL_law_179 (by decide) ?_
                refine bn_ne (tgt := 187) hx hb dL_law_180 (by decide) (by omega) (by omega) (fun c180 => ?_) (fun c180 => ?_)
                · skip
                  omega
                · skip
                  refine lv_iconst (v := nI 1) hx hb dL_law_183 (by decide) ?_
                  refine lv_goto (tgt := 188) hx hb dL_law_184 (by decide) ?_
                  refine lv_iload hx hb dL_law_188 (lv_at hl 2 rfl) ?_
                  refine bz_lt (tgt := 197) hx hb dL_law_190 (by decide) (by omega) ?_
                  refine lv_iconst (v := nI 1) hx hb dL_law_193 (by decide) ?_
                  refine lv_goto (tgt := 198) hx hb dL_law_194 (by decide) ?_
                  refine bn_ne (tgt := 269) hx hb dL_law_198 (by decide) (by omega) (by omega) (fun c198 => ?_) (fun c198 => ?_)
                  · skip
                    omega
                  · skip
                    refine lv_aload_n hx hb dL_law_201 rfl (lv_at hl 10 rfl) ?_
                    refine lv_iload hx hb dL_law_202 (lv_at hl 4 rfl) ?_
                    refine xn_i (vx_runV (rest := []) CF (m_X1_weightAt l hlt D cI o r t a1 a2 b1 b2 S n3 w3 F3 G3 (nI j9)) (cwV 1 hts gL_law_X1_weightAt rfl rfl rfl k_X1_weightAt ⟨Nat.le_of_ble_eq_true rfl, Nat.le_of_ble_eq_true rfl⟩) (px_pre hK1 (hP.sub [0, 1, 2, 3, 4, 5, 6] rfl) hX (xz_at hZ hS) rfl rfl rfl) rfl rfl hl.1 rfl (lv_room (Nat.le_of_ble_eq_true rfl)) dL_law_204 ⟨by show _ ≤ 600172; omega, by show _ ≤ 7300668; omega⟩) (fun E hE => hE.2 ⟨j9, (by omega), rfl⟩) (fun r1 hr1 => ?_)
                    obtain ⟨k9, hk9, e9, er⟩ := hr1
                    rw [show k9 = j9 from nI_inj (by omega) (by omega) e9.symm] at er
                    refine tp_i (y := (nI z9)) (er.trans e2) ?_
                    refine bz_le (tgt := 214) hx hb dL_law_207 (by decide) (by omega) (fun c207 => ?_) (fun c207 => ?_)
                    · skip
                      omega
                    · skip
                      refine lv_iconst (v := nI 1) hx hb dL_law_210 (by decide) ?_
                      refine lv_goto (tgt := 215) hx hb dL_law_211 (by decide) ?_
                      refine lv_iload hx hb dL_law_215 (lv_at hl 3 rfl) ?_
                      refine lv_iconst (v := nI 1) hx hb dL_law_217 (by decide) ?_
                      refine bn_ne (tgt := 225) hx hb dL_law_218 (by decide) (by omega) (by omega) (fun c218 => ?_) (fun c218 => ?_)
                      · skip
                        omega
                      · skip
                        refine lv_iconst (v := nI 1) hx hb dL_law_221 (by decide) ?_
                        refine lv_goto (tgt := 226) hx hb dL_law_222 (by decide) ?_
                        refine bn_ne (tgt := 269) hx hb dL_law_226 (by decide) (by omega) (by omega) (fun c226 => ?_) (fun c226 => ?_)
                        · skip
                          omega
                        · skip
                          refine lv_aload_n hx hb dL_law_229 rfl (lv_at hl 10 rfl) ?_
                          refine lv_iload hx hb dL_law_230 (lv_at hl 4 rfl) ?_
                          refine xn_i (vx_runV (rest := []) CF (m_X1_rowAt l hlt D cI o r t a1 a2 b1 b2 S n3 w3 F3 G3 (nI j9)) (cwV 1 hts gL_law_X1_rowAt rfl rfl rfl k_X1_rowAt ⟨Nat.le_of_ble_eq_true rfl, Nat.le_of_ble_eq_true rfl⟩) (px_pre hK1 (hP.sub [0, 1, 2, 3, 4, 5, 6] rfl) hX (xz_at hZ hS) rfl rfl rfl) rfl rfl hl.1 rfl (lv_room (Nat.le_of_ble_eq_true rfl)) dL_law_232 ⟨by show _ ≤ 600172; omega, by show _ ≤ 7300668; omega⟩) (fun E hE => hE.2 ⟨j9, (by omega), rfl⟩) (fun r1 hr1 => ?_)
                          obtain ⟨k9, hk9, e9, er⟩ := hr1
                          rw [show k9 = j9 from nI_inj (by omega) (by omega) e9.symm] at er
                          refine tp_i (y := (nI (rl n f j9))) er ?_
                          refine bz_ne (tgt := 242) hx hb dL_law_235 (by decide) (by omega) (fun c235 => ?_) (fun c235 => ?_)
                          · skip
                            refine lv_iconst (v := nI 0) hx hb dL_law_242 (by decide) ?_
                            refine lv_iload hx hb dL_law_243 (lv_at hl 3 rfl) ?_
                            refine bz_ne (tgt := 252) hx hb dL_law_245 (by decide) (by omega) (fun c245 => ?_) (fun c245 => ?_)
                            · skip
                              refine lv_iconst (v := nI 0) hx hb dL_law_252 (by decide) ?_
                              refine bn_ne (tgt := 269) hx hb dL_law_253 (by decide) (by omega) (by omega) (fun c253 => ?_) (fun c253 => ?_)
                              · skip
                                omega
                              · skip
                                refine lv_aload_n hx hb dL_law_256 rfl (lv_at hl 10 rfl) ?_
                                refine lv_iload hx hb dL_law_257 (lv_at hl 4 rfl) ?_
                                refine xn_i (vx_runV (rest := []) CF (m_X1_rowAt l hlt D cI o r t a1 a2 b1 b2 S n3 w3 F3 G3 (nI j9)) (cwV 1 hts gL_law_X1_rowAt rfl rfl rfl k_X1_rowAt ⟨Nat.le_of_ble_eq_true rfl, Nat.le_of_ble_eq_true rfl⟩) (px_pre hK1 (hP.sub [0, 1, 2, 3, 4, 5, 6] rfl) hX (xz_at hZ hS) rfl rfl rfl) rfl rfl hl.1 rfl (lv_room (Nat.le_of_ble_eq_true rfl)) dL_law_259 ⟨by show _ ≤ 600172; omega, by show _ ≤ 7300668; omega⟩) (fun E hE => hE.2 ⟨j9, (by omega), rfl⟩) (fun r1 hr1 => ?_)
                                obtain ⟨k9, hk9, e9, er⟩ := hr1
                                rw [show k9 = j9 from nI_inj (by omega) (by omega) e9.symm] at er
                                refine tp_i (y := (nI (rl n f j9))) er ?_
                                refine lv_aload_n hx hb dL_law_262 rfl (lv_at hl 10 rfl) ?_
                                refine pv_i CF (m_X1_longestRow l D cI o r t a1 a2 b1 b2 S n3 w3 F3 G3 ) (cwV 0 hts gL_law_X1_longestRow rfl rfl rfl k_X1_longestRow ⟨Nat.le_of_ble_eq_true rfl, Nat.le_of_ble_eq_true rfl⟩) hK1 (hP.sub [0, 1, 2, 3, 4, 5, 6] rfl) rfl rfl rfl rfl hl.1 rfl (Nat.le_of_ble_eq_true rfl) dL_law_263 ⟨by show _ ≤ 600172; omega, by show _ ≤ 7300668; omega⟩ ?_
                                refine bn_le (tgt := 271) hx hb dL_law_266 (by decide) (by omega) (by omega) (fun c266 => ?_) (fun c266 => ?_)
                                · skip
                                  refine lv_iload hx hb dL_law_271 (lv_at hl 2 rfl) ?_
                                  refine bz_ge (tgt := 279) hx hb dL_law_273 (by decide) (by omega) ?_
                                  refine lv_iload hx hb dL_law_279 (lv_at hl 6 rfl) ?_
                                  refine lv_aload_n hx hb dL_law_281 rfl (lv_at hl 10 rfl) ?_
                                  refine lv_iload hx hb dL_law_282 (lv_at hl 2 rfl) ?_
                                  refine xn_i (vx_runV (rest := [.int (nI sm9)]) CF (m_X1_looksFor l hlt D cI o r t a1 a2 b1 b2 S n3 w3 F3 G3 (nI y9)) (cwV 1 hts gL_law_X1_looksFor rfl rfl rfl k_X1_looksFor ⟨Nat.le_of_ble_eq_true rfl, Nat.le_of_ble_eq_true rfl⟩) (px_pre hK1 (hP.sub [0, 1, 2, 3, 4, 5, 6] rfl) hX (xz_at hZ hS) rfl rfl rfl) rfl rfl hl.1 rfl (lv_room (Nat.le_of_ble_eq_true rfl)) dL_law_284 ⟨by show _ ≤ 600172; omega, by show _ ≤ 7300668; omega⟩) (fun E hE => hE.2 ⟨y9, Nat.zero_le _, hx9, rfl⟩) (fun r1 hr1 => ?_)
                                  obtain ⟨k9, hk9, e9, er⟩ := hr1
                                  rw [show k9 = y9 from nI_inj (by omega) (by omega) e9.symm] at er
                                  refine tp_i (y := (nI (lk n w f y9))) er ?_
                                  refine an_add hx hb dL_law_287 ?_
                                  refine lv_istore (lv' := [(10, .int (nI (sm9 + (lk n w f y9)))), (9, .int (nI (bq + 1))), (8, .int (nI (fa9 + 0))), (14, .int (nI y9)), (13, .int (nI 1)), (12, .int (nI j9)), (11, .int (nI mm)), (7, .int (nI n)), (5, .long (DG n w f g)), (0, .ref b), (1, .ref o), (2, .ref u), (3, .int (nI i)), (4, .int x)]) hx hb dL_law_288 hl (by decide) rfl (fun ls hl => ?_)
                                  refine lv_iload hx hb dL_law_290 (lv_at hl 6 rfl) ?_
                                  refine lv_aload_n hx hb dL_law_292 rfl (lv_at hl 10 rfl) ?_
                                  refine lv_iload hx hb dL_law_293 (lv_at hl 3 rfl) ?_
                                  refine xn_i (vx_runV (rest := [.int (nI mm)]) CF (m_X1_looksFor l hlt D cI o r t a1 a2 b1 b2 S n3 w3 F3 G3 (nI y9)) (cwV 1 hts gL_law_X1_looksFor rfl rfl rfl k_X1_looksFor ⟨Nat.le_of_ble_eq_true rfl, Nat.le_of_ble_eq_true rfl⟩) (px_pre hK1 (hP.sub [0, 1, 2, 3, 4, 5, 6] rfl) hX (xz_at hZ hS) rfl rfl rfl) rfl rfl hl.1 rfl (lv_room (Nat.le_of_ble_eq_true rfl)) dL_law_295 ⟨by show _ ≤ 600172; omega, by show _ ≤ 7300668; omega⟩) (fun E hE => hE.2 ⟨y9, Nat.zero_le _, hx9, rfl⟩) (fun r1 hr1 => ?_)
                                  obtain ⟨k9, hk9, e9, er⟩ := hr1
                                  rw [show k9 = y9 from nI_inj (by omega) (by omega) e9.symm] at er
                                  refine tp_i (y := (nI (lk n w f y9))) er ?_
                                  refine va_mmax hx hb (by rw [hml]; exact hl.1.symm) hown (hts _ (List.mem_of_getElem? (i := 3) rfl)) (hts _ (List.mem_of_getElem? (i := 4) rfl)) (hts _ (List.mem_of_getElem? (i := 5) rfl)) (hts _ (List.mem_of_getElem? (i := 6) rfl)) (Nat.le_of_ble_eq_true rfl) (Nat.le_of_ble_eq_true rfl) (by show _ ≤ 600172; omega) (by show _ ≤ 7300668; omega) dL_law_298 ?_
                                  refine tp_i (y := (nI (if mm < lk n w f y9 then lk n w f y9 else mm))) (mx_n (by omega) (by omega)) ?_
                                  refine lv_istore (lv' := [(11, .int (nI (if mm < lk n w f y9 then lk n w f y9 else mm))), (10, .int (nI (sm9 + (lk n w f y9)))), (9, .int (nI (bq + 1))), (8, .int (nI (fa9 + 0))), (14, .int (nI y9)), (13, .int (nI 1)), (12, .int (nI j9)), (7, .int (nI n)), (5, .long (DG n w f g)), (0, .ref b), (1, .ref o), (2, .ref u), (3, .int (nI i)), (4, .int x)]) hx hb dL_law_301 hl (by decide) rfl (fun ls hl => ?_)
                                  refine lv_aload_n hx hb dL_law_303 rfl (lv_at hl 10 rfl) ?_
                                  refine lv_iload hx hb dL_law_304 (lv_at hl 4 rfl) ?_
                                  refine xn_i (vx_runV (rest := []) CF (m_X1_find l hlt D cI o r t a1 a2 b1 b2 S n3 w3 F3 G3 (nI y9)) (cwV 1 hts gL_law_X1_find rfl rfl rfl k_X1_find ⟨Nat.le_of_ble_eq_true rfl, Nat.le_of_ble_eq_true rfl⟩) (px_pre hK1 (hP.sub [0, 1, 2, 3, 4, 5, 6] rfl) hX (xz_at hZ hS) rfl rfl rfl) rfl rfl hl.1 rfl (lv_room (Nat.le_of_ble_eq_true rfl)) dL_law_306 ⟨by show _ ≤ 600172; omega, by show _ ≤ 7300668; omega⟩) (fun E hE => hE.2 ⟨y9, Nat.zero_le _, hx9, rfl⟩) (fun r1 hr1 => ?_)
                                  obtain ⟨k9, hk9, e9, er⟩ := hr1
                                  rw [show k9 = y9 from nI_inj (by omega) (by omega) e9.symm] at er
                                  refine tp_i (y := (fd n w f y9)) er ?_
                                  refine lv_if_lt (tgt := 342) hx hb dL_law_309 (by decide) (fun c309 => ?_) (fun c309 => ?_)
                                  · skip
                                    refine lv_aload_n hx hb dL_law_342 rfl (lv_at hl 10 rfl) ?_
                                    refine lv_iload hx hb dL_law_343 (lv_at hl 4 rfl) ?_
                                    refine xn_i (vx_runV (rest := []) CF (m_X1_placeFor l hlt D cI o r t a1 a2 b1 b2 S n3 w3 F3 G3 (nI y9)) (cwV 1 hts gL_law_X1_placeFor rfl rfl rfl k_X1_placeFor ⟨Nat.le_of_ble_eq_true rfl, Nat.le_of_ble_eq_true rfl⟩) (px_pre hK1 (hP.sub [0, 1, 2, 3, 4, 5, 6] rfl) hX (xz_at hZ hS) rfl rfl rfl) rfl rfl hl.1 rfl (lv_room (Nat.le_of_ble_eq_true rfl)) dL_law_345 ⟨by show _ ≤ 600172; omega, by show _ ≤ 7300668; omega⟩) (fun E hE => hE.2 ⟨y9, Nat.zero_le _, hx9, rfl⟩) (fun r1 hr1 => ?_)
                                    obtain ⟨k9, hk9, e9, er⟩ := hr1
                                    rw [show k9 = y9 from nI_inj (by omega) (by omega) e9.symm] at er
                                    refine tp_i (y := (pl n w f y9)) er ?_
                                    refine lv_iconst (v := (-1)) hx hb dL_law_348 (by decide) ?_
                                    refine lv_icmp_eq (tgt := 354) hx hb dL_law_349 (by decide) (fun c349 => ?_) (fun c349 => ?_)
                                    · skip
                                      refine lv_iinc (v := (nI (j9 + 1))) (lv' := [(12, .int (nI (j9 + 1))), (11, .int (nI (if mm < lk n w f y9 then lk n w f y9 else mm))), (10, .int (nI (sm9 + (lk n w f y9)))), (9, .int (nI (bq + 1))), (8, .int (nI (fa9 + 0))), (14, .int (nI y9)), (13, .int (nI 1)), (7, .int (nI n)), (5, .long (DG n w f g)), (0, .ref b), (1, .ref o), (2, .ref u), (3, .int (nI i)), (4, .int x)]) hx hb dL_law_354 hl (k := 6) rfl (inc1 _) (by decide) rfl (fun ls hl => ?_)
                                      refine lv_goto (tgt := 109) hx hb dL_law_357 (by decide) ?_
                                      exact ih (j9 + 1) (fa9 + 0) (bq + 1) (sm9 + lk n w f y9) (if mm < lk n w f y9 then nI y9 else af) (if mm < lk n w f y9 then lk n w f y9 else mm) (by omega) (by rw [fo_s, if_neg (by rw [hst]; decide)] at ha; exact ha) (by omega) (by rw [fo_s, HL] at hs; exact hs) (by split <;> omega) (fa_step HL e1 hf) _ (lv_sub hl [0, 1, 2, 3, 4, 7, 8, 9, 10, 11, 12, 13] rfl)
                                    · skip
                                      exact absurd (pl_hung (by omega) e1) c349
                                  · skip
                                    obtain ⟨efd, hfl⟩ := fd_cases (show 0 < n by omega) hn (nlt_m1 c309)
                                    have ela := la_eq (show 0 < n by omega) hd (show j9 < n by omega) hx9 e1 hfl
                                    refine lv_aload_n hx hb dL_law_312 rfl (lv_at hl 10 rfl) ?_
                                    refine lv_iload hx hb dL_law_313 (lv_at hl 4 rfl) ?_
                                    refine xn_i (vx_runV (rest := []) CF (m_X1_find l hlt D cI o r t a1 a2 b1 b2 S n3 w3 F3 G3 (nI y9)) (cwV 1 hts gL_law_X1_find rfl rfl rfl k_X1_find ⟨Nat.le_of_ble_eq_true rfl, Nat.le_of_ble_eq_true rfl⟩) (px_pre hK1 (hP.sub [0, 1, 2, 3, 4, 5, 6] rfl) hX (xz_at hZ hS) rfl rfl rfl) rfl rfl hl.1 rfl (lv_room (Nat.le_of_ble_eq_true rfl)) dL_law_315 ⟨by show _ ≤ 600172; omega, by show _ ≤ 7300668; omega⟩) (fun E hE => hE.2 ⟨y9, Nat.zero_le _, hx9, rfl⟩) (fun r1 hr1 => ?_)
                                    obtain ⟨k9, hk9, e9, er⟩ := hr1
                                    rw [show k9 = y9 from nI_inj (by omega) (by omega) e9.symm] at er
                                    refine tp_i (y := (nI j9)) (er.trans (efd.trans (congrArg nI ela))) ?_
                                    refine lv_iload hx hb dL_law_318 (lv_at hl 6 rfl) ?_
                                    refine bn_ne (tgt := 352) hx hb dL_law_320 (by decide) (by omega) (by omega) (fun c320 => ?_) (fun c320 => ?_)
                                    · skip
                                      omega
                                    · skip
                                      refine lv_aload_n hx hb dL_law_323 rfl (lv_at hl 10 rfl) ?_
                                      refine lv_iload hx hb dL_law_324 (lv_at hl 4 rfl) ?_
                                      refine lv_aload_n hx hb dL_law_326 rfl (lv_at hl 10 rfl) ?_
                                      refine lv_iload hx hb dL_law_327 (lv_at hl 4 rfl) ?_
                                      refine xn_i (vx_runV (rest := [.int (nI y9), .ref o]) CF (m_X1_looksFor l hlt D cI o r t a1 a2 b1 b2 S n3 w3 F3 G3 (nI y9)) (cwV 1 hts gL_law_X1_looksFor rfl rfl rfl k_X1_looksFor ⟨Nat.le_of_ble_eq_true rfl, Nat.le_of_ble_eq_true rfl⟩) (px_pre hK1 (hP.sub [0, 1, 2, 3, 4, 5, 6] rfl) hX (xz_at hZ hS) rfl rfl rfl) rfl rfl hl.1 rfl (lv_room (Nat.le_of_ble_eq_true rfl)) dL_law_329 ⟨by show _ ≤ 600172; omega, by show _ ≤ 7300668; omega⟩) (fun E hE => hE.2 ⟨y9, Nat.zero_le _, hx9, rfl⟩) (fun r1 hr1 => ?_)
                                      obtain ⟨k9, hk9, e9, er⟩ := hr1
                                      rw [show k9 = y9 from nI_inj (by omega) (by omega) e9.symm] at er
                                      refine tp_i (y := (nI (lk n w f y9))) er ?_
                                      refine lv_iconst (v := nI 1) hx hb dL_law_332 (by decide) ?_
                                      refine an_sub hx hb (lk_pos (by omega) w f y9) dL_law_333 ?_
                                      refine xn_i (vx_runV (rest := []) CF (m_X1_lookedAt l hlt D cI o r t a1 a2 b1 b2 S n3 w3 F3 G3 (nI y9) (nI ((lk n w f y9) - 1))) (cwV 2 hts gL_law_X1_lookedAt rfl rfl rfl k_X1_lookedAt ⟨Nat.le_of_ble_eq_true rfl, Nat.le_of_ble_eq_true rfl⟩) (px_pre hK1 (hP.sub [0, 1, 2, 3, 4, 5, 6] rfl) hX (xz_at hZ hS) rfl rfl rfl) rfl rfl hl.1 rfl (lv_room (Nat.le_of_ble_eq_true rfl)) dL_law_334 ⟨by show _ ≤ 600172; omega, by show _ ≤ 7300668; omega⟩) (fun E hE => hE.2 ⟨⟨y9, Nat.zero_le _, hx9, rfl⟩, ⟨((lk n w f y9) - 1), Nat.zero_le _, by omega, rfl⟩⟩) (fun r1 hr1 => ?_)
                                      obtain ⟨v9, k9, h9v, e8, h9k, e9, er⟩ := hr1
                                      rw [show v9 = y9 from nI_inj (by omega) (by omega) e8.symm, show k9 = ((lk n w f y9) - 1) from nI_inj (by omega) (by omega) e9.symm] at er
                                      refine tp_i (y := (nI j9)) (er.trans (congrArg nI ela)) ?_
                                      refine lv_iload hx hb dL_law_337 (lv_at hl 6 rfl) ?_
                                      refine bn_ne (tgt := 352) hx hb dL_law_339 (by decide) (by omega) (by omega) (fun c339 => ?_) (fun c339 => ?_)
                                      · skip
                                        omega
                                      · skip
                                        refine lv_aload_n hx hb dL_law_342 rfl (lv_at hl 10 rfl) ?_
                                        refine lv_iload hx hb dL_law_343 (lv_at hl 4 rfl) ?_
                                        refine xn_i (vx_runV (rest := []) CF (m_X1_placeFor l hlt D cI o r t a1 a2 b1 b2 S n3 w3 F3 G3 (nI y9)) (cwV 1 hts gL_law_X1_placeFor rfl rfl rfl k_X1_placeFor ⟨Nat.le_of_ble_eq_true rfl, Nat.le_of_ble_eq_true rfl⟩) (px_pre hK1 (hP.sub [0, 1, 2, 3, 4, 5, 6] rfl) hX (xz_at hZ hS) rfl rfl rfl) rfl rfl hl.1 rfl (lv_room (Nat.le_of_ble_eq_true rfl)) dL_law_345 ⟨by show _ ≤ 600172; omega, by show _ ≤ 7300668; omega⟩) (fun E hE => hE.2 ⟨y9, Nat.zero_le _, hx9, rfl⟩) (fun r1 hr1 => ?_)
                                        obtain ⟨k9, hk9, e9, er⟩ := hr1
                                        rw [show k9 = y9 from nI_inj (by omega) (by omega) e9.symm] at er
                                        refine tp_i (y := (pl n w f y9)) er ?_
                                        refine lv_iconst (v := (-1)) hx hb dL_law_348 (by decide) ?_
                                        refine lv_icmp_eq (tgt := 354) hx hb dL_law_349 (by decide) (fun c349 => ?_) (fun c349 => ?_)
                                        · skip
                                          refine lv_iinc (v := (nI (j9 + 1))) (lv' := [(12, .int (nI (j9 + 1))), (11, .int (nI (if mm < lk n w f y9 then lk n w f y9 else mm))), (10, .int (nI (sm9 + (lk n w f y9)))), (9, .int (nI (bq + 1))), (8, .int (nI (fa9 + 0))), (14, .int (nI y9)), (13, .int (nI 1)), (7, .int (nI n)), (5, .long (DG n w f g)), (0, .ref b), (1, .ref o), (2, .ref u), (3, .int (nI i)), (4, .int x)]) hx hb dL_law_354 hl (k := 6) rfl (inc1 _) (by decide) rfl (fun ls hl => ?_)
                                          refine lv_goto (tgt := 109) hx hb dL_law_357 (by decide) ?_
                                          exact ih (j9 + 1) (fa9 + 0) (bq + 1) (sm9 + lk n w f y9) (if mm < lk n w f y9 then nI y9 else af) (if mm < lk n w f y9 then lk n w f y9 else mm) (by omega) (by rw [fo_s, if_neg (by rw [hst]; decide)] at ha; exact ha) (by omega) (by rw [fo_s, HL] at hs; exact hs) (by split <;> omega) (fa_step HL e1 hf) _ (lv_sub hl [0, 1, 2, 3, 4, 7, 8, 9, 10, 11, 12, 13] rfl)
                                        · skip
                                          exact absurd (pl_hung (by omega) e1) c349
                                · skip
                                  omega
                            · skip
                              omega
                          · skip
                            omega
          · skip
            omega
  exact LP109 n 0 0 0 0 (-1) 0 (Nat.zero_add n) rfl rfl rfl (Nat.zero_le n) rfl _ (lv_sub hl [0, 1, 2, 3, 4, 5, 6, 7, 8, 9, 10, 11] rfl)
