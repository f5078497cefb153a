/-! the law: its places -/
/-- what the law walks on -/
def LF (p : Program) (l : Launch) (s : State) (m : MethodId) (meth : Method) (c : Code) (b L : Nat) (xs : Nat → Int32) (D : va_G) (cI cZ : ClassId) (A : Nat → Prop) : Prop := CallFix p m c cL_law 30 s #[.ref b] wsL_law RL ∧ va_X b L xs s s.heap ∧ b < s.heap.size ∧ ¬ A b ∧ (∀ q : Nat, s.heap.size ≤ q → A q) ∧ va_K D vwCl [(cI, .int), (cZ, .boolean)] s ∧ XS s ∧ XZ A s s.heap ∧ va_Nw (.methodLinkNest RL 64 yX2_init RL) s ∧ l.stackTraces = false ∧ L ≤ 260
/-- a place of the law, over a theatre and hooks by hand that hold the same -/
def KG (p : Program) (l : Launch) (e : Env) (s : State) (m : MethodId) (below : List Frame) (meth : Method) (c : Code) (b : Nat) (D : va_G) (cI cZ : ClassId) (A : Nat → Prop) (Q : State → Prop) (o r t a1 a2 b1 b2 u pc : Nat) (lv : List (Nat × Value)) (kc ks n w : Nat) (f g : Nat → Int32) : Prop := ∀ (c1 c2 c3 n2 w2 : Nat) (F G F2 G2 C V Z : Nat → Int32) (H : Heap) (locs : List Loc) (ls : Array Slot), RS n w F G f g → SS n w C V Z f g → va_P D vwCl (clw cI o r t a1 a2 b1 b2 n w F G n2 w2 F2 G2 ++ smw cI cZ u c1 c2 c3 n w C V Z) H → va_D A (clw cI o r t a1 a2 b1 b2 n w F G n2 w2 F2 G2 ++ smw cI cZ u c1 c2 c3 n w C V Z) → va_S A s.heap H locs → lv_has ls 30 lv → W p l e room_1 s m #[.ref b] below meth c H locs kc ks Q (F0 m pc ls [])
theorem fa_all {n w : Nat} {f g : Nat → Int32} (hn : 0 < n) (hO : Ok n f g) : ∀ M, M ≤ n → FAI n w f M (fo (fun (a : Int32 × Nat) i => if a.2 < lx n w f i then (f i, lx n w f i) else a) M 0 (-1, 0)).1 (fo (fun (a : Int32 × Nat) i => if a.2 < lx n w f i then (f i, lx n w f i) else a) M 0 (-1, 0)).2
  | 0, _ => FAI_0
  | M + 1, hM => by
    have ih := fa_all (w := w) hn hO M (by omega)
    rw [fo_top]
    generalize fo (fun (a : Int32 × Nat) i => if a.2 < lx n w f i then (f i, lx n w f i) else a) M 0 (-1, 0) = K at ih
    by_cases h0 : 0 ≤ f M
    · obtain ⟨x, hx, ex, ez⟩ := hO.num (k := M) (by omega) h0
      have e := FAI_y hn ih (show M < n by omega) hx ex
      rw [lx_p h0 ez, ex]
      by_cases c : K.2 < lk n w f x
      · rw [if_pos c] at e ⊢; rw [if_pos c] at e; exact e
      · rw [if_neg c] at e ⊢; rw [if_neg c] at e; exact e
    · rw [lx_0 h0, if_neg (Nat.not_lt_zero _)]
      exact FAI_n ih h0
theorem fa_fin {n w : Nat} {f g : Nat → Int32} (hn : 0 < n) (hO : Ok n f g) : FAI n w f n (fa n w f).1 (fa n w f).2 := fa_all hn hO n (Nat.le_refl n)
theorem rc_lt {n : Nat} (hn : 0 < n) (hn40 : n ≤ 40) (f : Nat → Int32) : rc n f < 2 ^ 31 := by
  by_cases e : al f n = 0
  · rw [rc_bs hn e]
    have : su (fun j => one (¬ f j = -1 ∧ f ((j + n - 1) % n) = -1)) n ≤ su (fun _ => 1) n := su_le n (fun i _ => one_le)
    rw [su_n] at this
    have h2 : bs n f n ≤ n := this
    omega
  · rw [rc_al hn e]; decide
set_option maxHeartbeats 8000000 in
set_option maxRecDepth 100000 in
theorem law_acts {p : Program} {l : Launch} {e : Env} {s : State} {m : MethodId} {below : List Frame} {meth : Method} {c : Code} {b L : Nat} {xs : Nat → Int32} {D : va_G} {cI cZ : ClassId} {A : Nat → Prop} {Q : State → Prop} {o r t a1 a2 b1 b2 u : Nat} (F9 : LF p l s m meth c b L xs D cI cZ A) {kc ks n w : Nat} {f g : Nat → Int32} {i : Nat} (hi : i < 7) (hkc : kc ≤ 10000) (hks : ks ≤ 100000) (hd : Ds n f) (hk : ∀ (x : Int32) (n w : Nat) (f g : Nat → Int32), Ds n f → KG p l e s m below meth c b D cI cZ A Q o r t a1 a2 b1 b2 u 82 [(0, .ref b), (1, .ref o), (2, .ref u), (3, .int (nI i)), (4, .int x)] (kc + 40) (ks + 700) n w f g) : KG p l e s m below meth c b D cI cZ A Q o r t a1 a2 b1 b2 u 28 [(0, .ref b), (1, .ref o), (2, .ref u), (3, .int (nI i))] kc ks n w f g := by
  obtain ⟨CF, hXs, hbl, hbA, hA, hK, hX, hZ, hNx, hlt, hL⟩ := id F9
  obtain ⟨hx, hb, hml, hown, hts⟩ := id CF
  have hK1 : va_K D vwCl [(cI, .int)] s := hK.sub [0] rfl
  have hKc := hK1
  intro c1 c2 c3 n2 w2 F G F2 G2 C V Z H locs ls S S2 hP hD hS hl
  obtain ⟨hn3, hn, hw2, hF, hG, hO⟩ := id S
  obtain ⟨-, -, -, hC, hV, hZv, -⟩ := id S2
  have hP : va_P D vwCl [(o, .inr (1, [.ref r, .ref t])), (r, .inr (0, [.ref a1, .ref a2, .int (nI n), .int (nI w)])), (a1, .inl (cI, 40, .inl F)), (a2, .inl (cI, 40, .inl G)), (t, .inr (0, [.ref b1, .ref b2, .int (nI n2), .int (nI w2)])), (b1, .inl (cI, 40, .inl F2)), (b2, .inl (cI, 40, .inl G2)), (u, .inr (2, [.int (nI w), .ref c1, .ref c2, .ref c3])), (c1, .inl (cI, n, .inl C)), (c2, .inl (cI, n, .inl V)), (c3, .inl (cZ, n, .inl Z))] H := hP
  have hD : va_D A [(o, .inr (1, [.ref r, .ref t])), (r, .inr (0, [.ref a1, .ref a2, .int (nI n), .int (nI w)])), (a1, .inl (cI, 40, .inl F)), (a2, .inl (cI, 40, .inl G)), (t, .inr (0, [.ref b1, .ref b2, .int (nI n2), .int (nI w2)])), (b1, .inl (cI, 40, .inl F2)), (b2, .inl (cI, 40, .inl G2)), (u, .inr (2, [.int (nI w), .ref c1, .ref c2, .ref c3])), (c1, .inl (cI, n, .inl C)), (c2, .inl (cI, n, .inl V)), (c3, .inl (cZ, n, .inl Z))] := hD
  refine lv_aload_n hx hb dL_law_28 rfl (lv_at hl 0 rfl) ?_
  refine lv_iload_n hx hb dL_law_29 rfl (lv_at hl 3 rfl) ?_
  refine lv_iconst (v := nI 1) hx hb dL_law_30 (by decide) ?_
  refine an_add hx hb dL_law_31 ?_
  refine ps_i (va_runS (As := [.ref b, .int (nI (i + 1))]) (rest := []) CF (m_L_cell l b L xs (i + 1) (by omega) (by omega)) (va_cwS 2 hts gL_law_L_cell rfl rfl rfl k_L_cell.2 ⟨Nat.le_of_ble_eq_true rfl, Nat.le_of_ble_eq_true rfl⟩) (psc_pre hXs hbl hbA hS) rfl rfl hl.1 rfl (lv_room (Nat.le_of_ble_eq_true rfl)) dL_law_32 ⟨by show _ ≤ 600172; omega, by show _ ≤ 7300668; omega⟩) (fun y32 _ => ?_)
  refine lv_iconst (v := nI 2) hx hb dL_law_35 (by decide) ?_
  refine lv_ishr hx hb dL_law_36 ?_
  refine lv_bipush (v := nI 53) hx hb dL_law_37 (by decide) ?_
  refine lv_iload_n hx hb dL_law_39 rfl (lv_at hl 3 rfl) ?_
  refine an_mul hx hb dL_law_40 ?_
  refine lv_iadd hx hb dL_law_41 ?_
  obtain ⟨x9, ex9⟩ : ∃ x9 : Int32, (y32 >>> ((nI 2) &&& 31)) + (nI (53 * i)) = x9 := ⟨_, rfl⟩
  refine tp_i (y := x9) ex9 ?_
  refine lv_istore (lv' := [(4, .int x9), (0, .ref b), (1, .ref o), (2, .ref u), (3, .int (nI i))]) hx hb dL_law_42 hl (by decide) rfl (fun ls hl => ?_)
  refine lv_iconst (v := nI 0) hx hb dL_law_44 (by decide) ?_
  refine lv_istore (lv' := [(5, .int (nI 0)), (4, .int x9), (0, .ref b), (1, .ref o), (2, .ref u), (3, .int (nI i))]) hx hb dL_law_45 hl (by decide) rfl (fun ls hl => ?_)
  have LP47 : ∀ (q k9 : Nat) (n w c1 c2 c3 n2 w2 : Nat) (F G f g F2 G2 C V Z : Nat → Int32), k9 + q = 4 → RS n w F G f g → SS n w C V Z f g → Ds n f → ∀ (H : Heap) (locs : List Loc), va_P D vwCl [(o, .inr (1, [.ref r, .ref t])), (r, .inr (0, [.ref a1, .ref a2, .int (nI n), .int (nI w)])), (a1, .inl (cI, 40, .inl F)), (a2, .inl (cI, 40, .inl G)), (t, .inr (0, [.ref b1, .ref b2, .int (nI n2), .int (nI w2)])), (b1, .inl (cI, 40, .inl F2)), (b2, .inl (cI, 40, .inl G2)), (u, .inr (2, [.int (nI w), .ref c1, .ref c2, .ref c3])), (c1, .inl (cI, n, .inl C)), (c2, .inl (cI, n, .inl V)), (c3, .inl (cZ, n, .inl Z))] H → va_D A [(o, .inr (1, [.ref r, .ref t])), (r, .inr (0, [.ref a1, .ref a2, .int (nI n), .int (nI w)])), (a1, .inl (cI, 40, .inl F)), (a2, .inl (cI, 40, .inl G)), (t, .inr (0, [.ref b1, .ref b2, .int (nI n2), .int (nI w2)])), (b1, .inl (cI, 40, .inl F2)), (b2, .inl (cI, 40, .inl G2)), (u, .inr (2, [.int (nI w), .ref c1, .ref c2, .ref c3])), (c1, .inl (cI, n, .inl C)), (c2, .inl (cI, n, .inl V)), (c3, .inl (cZ, n, .inl Z))] → va_S A s.heap H locs → ∀ (ls : Array Slot), lv_has ls 30 [(5, .int (nI k9)), (4, .int x9), (0, .ref b), (1, .ref o), (2, .ref u), (3, .int (nI i))] → W p l e room_1 s m #[.ref b] below meth c H locs (kc + 9 * k9) (ks + 160 * k9) Q (F0 m 47 ls []) := by
    intro q
    induction q with
    | zero =>
      intro k9 n w c1 c2 c3 n2 w2 F G f g F2 G2 C V Z h1 S S2 hd H locs hP hD hS ls hl
      refine lv_iload hx hb dL_law_47 (lv_at hl 0 rfl) ?_
      refine lv_iconst (v := nI 4) hx hb dL_law_49 (by decide) ?_
      refine bn_ge (tgt := 82) hx hb dL_law_50 (by decide) (by omega) (by omega) (fun c50 => ?_) (fun c50 => ?_)
      · skip
        refine w_widen (k := kc + 40) (n := ks + 700) (by omega) (by omega) ?_
        exact hk x9 _ _ _ _ hd _ _ _ _ _ _ _ _ _ _ _ _ _ _ _ S S2 hP hD hS (lv_sub hl [2, 3, 4, 5, 1] rfl)
      · skip
        omega
    | succ q ih =>
      intro k9 n w c1 c2 c3 n2 w2 F G f g F2 G2 C V Z h1 S S2 hd H locs hP hD hS ls hl
      refine lv_iload hx hb dL_law_47 (lv_at hl 0 rfl) ?_
      refine lv_iconst (v := nI 4) hx hb dL_law_49 (by decide) ?_
      refine bn_ge (tgt := 82) hx hb dL_law_50 (by decide) (by omega) (by omega) (fun c50 => ?_) (fun c50 => ?_)
      · skip
        omega
      · skip
        refine lv_aload_n hx hb dL_law_53 rfl (lv_at hl 3 rfl) ?_
        refine lv_aload_n hx hb dL_law_54 rfl (lv_at hl 4 rfl) ?_
        refine lv_iload hx hb dL_law_55 (lv_at hl 1 rfl) ?_
        refine lv_iconst (v := nI 3) hx hb dL_law_57 (by decide) ?_
        refine lv_iload hx hb dL_law_58 (lv_at hl 0 rfl) ?_
        refine an_mul hx hb dL_law_60 ?_
        refine lv_ishr hx hb dL_law_61 ?_
        refine lv_bipush (v := nI 29) hx hb dL_law_62 (by decide) ?_
        refine lv_iload hx hb dL_law_64 (lv_at hl 0 rfl) ?_
        refine an_mul hx hb dL_law_66 ?_
        refine lv_iadd hx hb dL_law_67 ?_
        have hPc : va_P D vwCl [(o, .inr (1, [.ref r, .ref t])), (r, .inr (0, [.ref a1, .ref a2, .int (nI n), .int (nI w)])), (a1, .inl (cI, 40, .inl F)), (a2, .inl (cI, 40, .inl G)), (t, .inr (0, [.ref b1, .ref b2, .int (nI n2), .int (nI w2)])), (b1, .inl (cI, 40, .inl F2)), (b2, .inl (cI, 40, .inl G2)), (u, .inr (2, [.int (nI w), .ref c1, .ref c2, .ref c3])), (c1, .inl (cI, n, .inl C)), (c2, .inl (cI, n, .inl V)), (c3, .inl (cZ, n, .inl Z))] H := hP.sub [0, 1, 2, 3, 4, 5, 6, 7, 8, 9, 10] rfl
        have hDc : va_D A [(o, .inr (1, [.ref r, .ref t])), (r, .inr (0, [.ref a1, .ref a2, .int (nI n), .int (nI w)])), (a1, .inl (cI, 40, .inl F)), (a2, .inl (cI, 40, .inl G)), (t, .inr (0, [.ref b1, .ref b2, .int (nI n2), .int (nI w2)])), (b1, .inl (cI, 40, .inl F2)), (b2, .inl (cI, 40, .inl G2)), (u, .inr (2, [.int (nI w), .ref c1, .ref c2, .ref c3])), (c1, .inl (cI, n, .inl C)), (c2, .inl (cI, n, .inl V)), (c3, .inl (cZ, n, .inl Z))] := hD.sub [0, 1, 2, 3, 4, 5, 6, 7, 8, 9, 10] (by decide) rfl
        have hFc := va_free (wc := [(o, .inr (1, [.ref r, .ref t])), (r, .inr (0, [.ref a1, .ref a2, .int (nI n), .int (nI w)])), (a1, .inl (cI, 40, .inl F)), (a2, .inl (cI, 40, .inl G)), (t, .inr (0, [.ref b1, .ref b2, .int (nI n2), .int (nI w2)])), (b1, .inl (cI, 40, .inl F2)), (b2, .inl (cI, 40, .inl G2)), (u, .inr (2, [.int (nI w), .ref c1, .ref c2, .ref c3])), (c1, .inl (cI, n, .inl C)), (c2, .inl (cI, n, .inl V)), (c3, .inl (cZ, n, .inl Z))]) hD hS hA [0, 1, 2, 3, 4, 5, 6, 7, 8, 9, 10] rfl
        refine pq_i (vx_runSW (rest := []) CF (m_L_act l hlt D cI cZ u c1 c2 c3 o r t a1 a2 b1 b2 S n2 w2 F2 G2 S2 hd ((x9 >>> ((nI (3 * k9)) &&& 31)) + (nI (29 * k9))) H.size) (vx_cwSW 3 hts gL_law_L_act rfl rfl rfl k_L_act.2 ⟨Nat.le_of_ble_eq_true rfl, Nat.le_of_ble_eq_true rfl⟩) (pxm_ps hK hPc hDc hX (hZ.kept hS.2.1) hFc) rfl rfl hl.1 rfl (lv_room (Nat.le_of_ble_eq_true rfl)) dL_law_68 ⟨by show _ ≤ 600172; omega, by show _ ≤ 7300668; omega⟩) hS hFc (fun r1 H locs hB hk1 hS => ?_)
        obtain ⟨ea, n, w, f, g, c1, c2, c3, n2, w2, F, G, F2, G2, C, V, Z, S, S2, hd, hP, hD1⟩ := hB
        have hP : va_P D vwCl [(o, .inr (1, [.ref r, .ref t])), (r, .inr (0, [.ref a1, .ref a2, .int (nI n), .int (nI w)])), (a1, .inl (cI, 40, .inl F)), (a2, .inl (cI, 40, .inl G)), (t, .inr (0, [.ref b1, .ref b2, .int (nI n2), .int (nI w2)])), (b1, .inl (cI, 40, .inl F2)), (b2, .inl (cI, 40, .inl G2)), (u, .inr (2, [.int (nI w), .ref c1, .ref c2, .ref c3])), (c1, .inl (cI, n, .inl C)), (c2, .inl (cI, n, .inl V)), (c3, .inl (cZ, n, .inl Z))] H := hP
        have hD : va_D A [(o, .inr (1, [.ref r, .ref t])), (r, .inr (0, [.ref a1, .ref a2, .int (nI n), .int (nI w)])), (a1, .inl (cI, 40, .inl F)), (a2, .inl (cI, 40, .inl G)), (t, .inr (0, [.ref b1, .ref b2, .int (nI n2), .int (nI w2)])), (b1, .inl (cI, 40, .inl F2)), (b2, .inl (cI, 40, .inl G2)), (u, .inr (2, [.int (nI w), .ref c1, .ref c2, .ref c3])), (c1, .inl (cI, n, .inl C)), (c2, .inl (cI, n, .inl V)), (c3, .inl (cZ, n, .inl Z))] := hD1.weaken (fun _ _ _ h => hFc _ h)
        refine tp_i (y := nI 1) ea ?_
        refine bz_ne (tgt := 76) hx hb dL_law_71 (by decide) (by omega) (fun c71 => ?_) (fun c71 => ?_)
        · skip
          refine lv_iinc (v := (nI (k9 + 1))) (lv' := [(5, .int (nI (k9 + 1))), (4, .int x9), (0, .ref b), (1, .ref o), (2, .ref u), (3, .int (nI i))]) hx hb dL_law_76 hl (k := 0) rfl (inc1 _) (by decide) rfl (fun ls hl => ?_)
          refine lv_goto (tgt := 47) hx hb dL_law_79 (by decide) ?_
          refine w_widen (k := kc + 9 * (k9 + 1)) (n := ks + 160 * (k9 + 1)) (by omega) (by omega) ?_
          exact ih (k9 + 1) n w c1 c2 c3 n2 w2 F G f g F2 G2 C V Z (by omega) S S2 hd _ _ hP hD hS _ (lv_sub hl [0, 1, 2, 3, 4, 5] rfl)
        · skip
          omega
  exact LP47 4 0 n w c1 c2 c3 n2 w2 F G f g F2 G2 C V Z rfl S S2 hd _ _ hP hD hS _ (lv_sub hl [0, 1, 2, 3, 4, 5] rfl)
