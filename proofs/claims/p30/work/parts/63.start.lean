/-! THE CLAIM OUT OF ONE WALK OF THE LAW'S BODY. Your part is whole_start (and what it stands on); all else here is the same for every law, but numbers. -/
def R_law : String := "CoatHooksLaw"
def lw_P (b : Addr) (xs : List Int32) (args : Array Value) (s : State) : Prop := args = #[.ref b] ∧ s.IntsAt b xs ∧ xs.length ≤ 260 ∧ (Jvm.Cond.and given_1 narrow_1).before args s = true
/-- what a walk over the start with the record d0 says of its end, said of the start itself -/
theorem lw_closed {s t : State} {o : Outcome} {d0 : Drawn} {L : List Loc} {k n : Nat} (hd0 : s.drawn.sameBut d0 lw_cs) (hv : ∃ v, o = .returned v) (hW : (s.setDrawn d0).WarmedH t.vm) (hs : (s.setDrawn d0).sameButNew ({ t with vm := s.vm } : State) L k n) : State.butDraws s t lw_cs (fun t1 => Framed s o t1 L k n) := by
  have h2 : t.drawn = d0 := congrArg State.drawn hs.1
  refine ⟨⟨hv, hW, State.sameButNew.setDrawn hs s.drawn⟩, ?_, by decide⟩
  rw [h2]
  exact hd0
def lw_Q (_ : Array Value) (s : State) (o : Outcome) (t : State) : Prop := o = .returned (some (.int 1)) ∧ State.butDraws s t lw_cs (fun t1 => Framed s o t1 [] 600172 7300668)
def lw_Z (below : List Frame) (a : Array Value) (s : State) : State → Prop := fun t => ∃ o, t.status = .running ∧ Ended t below o ∧ lw_Q a s o t
/-- the law's own end, with 1 on the stack, nothing written that was there before, its room as the claim has it; d0: the record of draws at this point (at the entry s.drawn: begin with 'refine W.base ?_' and 'have hd0 := Drawn.sameBut.refl s.drawn lw_cs') -/
theorem lw_ret {p : Program} {l : Launch} {e : Env} {s : State} {m : MethodId} {below : List Frame} {meth : Method} {c : Code} {b : Nat} {d0 : Drawn} (hd0 : s.drawn.sameBut d0 lw_cs) (hx : p.tables.exec = Jvm.exec) (hb : c.code = code) (hr : meth.sig.returnType = ret) (hlocks : meth.locks = false) {pc : Nat} {H : Heap} {ls : Array Slot} (hdg : decode code pc = .ok (.ireturn, 1)) : W p l e room_1 (s.setDrawn d0) m #[Value.ref b] below meth c H [] 600172 7300668 (lw_Z below #[Value.ref b] s) (F0 m pc ls [.int 1]) := by
  intro T hT X
  obtain ⟨fs, hret, hrun, hended, hW, hframe⟩ := X.leave (v := some (.int 1)) (hlocks := hlocks) (fun h => by rw [hr] at h; cases h)
  have hmeth' : T.vm.method? m = some meth := X.method'
  refine ⟨T.setFrames fs, ?_, .returned (some (.int 1)), hrun, hended, rfl, lw_closed hd0 ⟨_, rfl⟩ hW hframe⟩
  jvm_step X.here [X.here.top, hx, hb, hdg, hmeth', hr, ret, narrow_b1]
  (try refine ⟨rfl, ?_⟩); (try refine ⟨rfl, ?_⟩)
  first | (intro acts; rw [hret _ acts rfl rfl rfl]) | rw [hret _ _ rfl rfl rfl]
  exact Steps.refl _
/-- what holds at the law's entry: the machine, the code, the tables' words (any of lw_tbl by 'hts w (by decide +kernel)'), the script of L ints xs at the cell b, what the Statement gives of the start (any of its parts by flat_of_before) -/
def lw_At (p : Program) (s : State) (m : MethodId) (meth : Method) (c : Code) (b L : Nat) (xs : Nat → Int32) : Prop :=
  p.tables.exec = Jvm.exec ∧ c.code = code ∧ meth.sig.returnType = ret ∧ c.maxLocals = 30 ∧ s.vm.findClass R_law = some m.cls ∧ (∀ w ∈ lw_tbl, w.before #[Value.ref b] s = true) ∧ va_X b L xs s s.heap ∧ b < s.heap.size ∧ meth.locks = false ∧ (Jvm.Cond.and given_1 narrow_1).before #[Value.ref b] s = true
set_option maxHeartbeats 8000000 in
set_option maxRecDepth 100000 in
theorem whole_start {p : Program} {e : Env} {s : State} {m : MethodId} {below : List Frame} {meth : Method} {c : Code} (l : Launch) (hflags : l.flags = flags0) {b L : Nat} {xs : Nat → Int32} (hL : L ≤ 260) (C0 : lw_At p s m meth c b L xs) : W p l e room_1 s m #[Value.ref b] below meth c s.heap [] 0 0 (lw_Z below #[Value.ref b] s) (entryFrame m ([Value.ref b] : List Value).toArray 30) := by
  obtain ⟨hx, hb, hr, hml, hown, htb, hX0, hbl, hlocks, hgv⟩ := id C0
  have hgf := flat_of_before _ hgv
  have hts : ∀ w ∈ wsL_law, w.before #[Value.ref b] s = true := fun w h => htb w (wsL_law_in w h)
  have CF : CallFix p m c cL_law 30 s #[.ref b] wsL_law RL := ⟨hx, hb, hml, hown, hts⟩
  obtain ⟨A, hAe⟩ : ∃ A : Nat → Prop, A = fun q => s.heap.size ≤ q := ⟨_, rfl⟩
  have hA : ∀ q : Nat, s.heap.size ≤ q → A q := fun q h => by rw [hAe]; exact h
  have hAn : ∀ q : Nat, q < s.heap.size → ¬ A q := fun q h => by rw [hAe]; exact Nat.not_le.mpr h
  have hAs : ∀ q : Nat, A q → s.heap.size ≤ q := fun q h => by rw [hAe] at h; exact h
  have hbA : ¬ A b := hAn b hbl
  obtain ⟨d0, i0, hKn0⟩ := u_known (C := RX0) (T := TX0) (N := 4) (n := 4) htb inX0 (htb (.instantiable RX0 4) (by decide +kernel))
  obtain ⟨d1, i1, hKn1⟩ := u_known (C := RX1) (T := TX1) (N := 2) (n := 2) htb inX1 (htb (.instantiable RX1 2) (by decide +kernel))
  obtain ⟨d2, i2, hKn2⟩ := u_known (C := RX2) (T := TX2) (N := 4) (n := 4) htb inX2 (htb (.instantiable RX2 4) (by decide +kernel))
  obtain ⟨D, hKc⟩ : ∃ D : va_G, ∀ (k : Nat) (q : vw_C), vwCl[k]? = some q → u_Kn s q.1 q.2.1 q.2.2 (D.1 k) (D.2 k) := by
    refine ⟨(fun k => if k = 0 then d0 else if k = 1 then d1 else d2, fun k => if k = 0 then i0 else if k = 1 then i1 else i2), ?_⟩
    intro k q hq
    match k, hq with
    | 0, hq => cases hq; exact hKn0
    | 1, hq => cases hq; exact hKn1
    | 2, hq => cases hq; exact hKn2
    | k + 3, hq => simp at hq
  obtain ⟨cI, hcI⟩ := ar_K (htb (.arrayClass .int) (by decide +kernel))
  obtain ⟨cZ, hcZ⟩ := ar_KZ (htb (.arrayClass .boolean) (by decide +kernel))
  have hK : va_K D vwCl [(cI, .int), (cZ, .boolean)] s := ⟨hKc, fun k q h => by
    match k, h with
    | 0, h => cases h; exact hcI
    | 1, h => cases h; exact hcZ
    | k + 2, h => simp at h⟩
  have hK1 : va_K D vwCl [(cI, .int)] s := hK.sub [0] rfl
  have hX : XS s := xs_of (fun w hw => htb w ((by decide +kernel : ∀ w ∈ xs_w, w ∈ lw_tbl) w hw)) (htb (.instantiable RX1 2) (by decide +kernel)) (fun q hq => htb _ ((by decide +kernel : ∀ q ∈ xs_tx, Cond.stringRef RX1 q.1 q.2 ∈ lw_tbl) q hq))
  have hZ : XZ A s s.heap := ⟨vx_Zqof (htb (.laysStatic Bundle.tN "UNASSIGNED_STACK" Bundle.steD) (by decide +kernel)) (htb (.initialized Bundle.tN) (by decide +kernel)) (hgf (.isRef (.static Bundle.tN "UNASSIGNED_STACK" Bundle.steD)) (by decide +kernel)) (fun a h => hAn a h),
    vx_Zqof (htb (.laysStatic Bundle.tN "SUPPRESSED_SENTINEL" Bundle.listD) (by decide +kernel)) (htb (.initialized Bundle.tN) (by decide +kernel)) (hgf (.isRef (.static Bundle.tN "SUPPRESSED_SENTINEL" Bundle.listD)) (by decide +kernel)) (fun a h => hAn a h)⟩
  have hNx : va_Nw (.methodLinkNest RL 64 yX2_init RL) s := va_Nw.of rfl (htb (.methodLinkNest RL 64 yX2_init RL) (by decide +kernel))
  have hlt : l.stackTraces = false := by rw [Launch.stackTraces, hflags]; decide
  have hnn : NN := fun a b h => nn_all a b h
  have F9 : LF p l s m meth c b L xs D cI cZ A := ⟨CF, hX0, hbl, hbA, hA, hK, hX, hZ, hNx, hlt, hL⟩
  have hXs := hX0
  have hend : ∀ (o r t a1 a2 b1 b2 u kc ks n w : Nat) (f g : Nat → Int32), kc ≤ 10000 → ks ≤ 100000 → KG p l e s m below meth c b D cI cZ A (lw_Z below #[Value.ref b] s) o r t a1 a2 b1 b2 u 1164 [(0, .ref b), (1, .ref o), (2, .ref u)] kc ks n w f g := by
    intro o r t a1 a2 b1 b2 u kc ks n w f g hkc hks c1 c2 c3 n2 w2 F G F2 G2 C V Z H locs ls S S2 hP hD hS hl
    refine lv_aload_n hx hb dL_law_1164 rfl (lv_at hl 2 rfl) ?_
    refine lv_aload_n hx hb dL_law_1165 rfl (lv_at hl 1 rfl) ?_
    refine ps_i (va_runV (rest := []) CF (m_X2_isSame l hlt D cI cZ u c1 c2 c3 o r t a1 a2 b1 b2 S n2 w2 F2 G2 S2 hnn) (cwV 1 hts gL_law_X2_isSame rfl rfl rfl k_X2_isSame ⟨Nat.le_of_ble_eq_true rfl, Nat.le_of_ble_eq_true rfl⟩) (px_pre hK (hP.sub [7, 8, 9, 10, 0, 1, 2, 3, 4, 5, 6] rfl) hX (xz_at hZ hS) rfl rfl rfl) rfl rfl hl.1 rfl (lv_room (Nat.le_of_ble_eq_true rfl)) dL_law_1166 ⟨by show _ ≤ 600172; omega, by show _ ≤ 7300668; omega⟩) (fun r1 hr1 => ?_)
    refine tp_i (y := 1) (hr1.trans (by decide)) ?_
    refine va_forget (fun q hq => hAs _ (hS.2.2 q hq)) ?_
    refine w_widen (k := 600172) (n := 7300668) (by omega) (by omega) ?_
    refine W.base ?_
    exact lw_ret (Drawn.sameBut.refl s.drawn lw_cs) hx hb hr hlocks dL_law_1169
  have hS : va_S A s.heap s.heap [] := va_S.rf
  have hP : va_P D vwCl [] s.heap := fun k q h => by simp at h
  have hD : va_D A [] := ⟨fun i j p q h => by simp at h, fun k q h => by simp at h⟩
  have hl := lv_entry ([.ref b]) (n := 30) (Nat.le_of_ble_eq_true rfl)
  rw [lg_entry_eq]
  generalize (lg_sl ([.ref b]) ++ List.replicate (30 - (lg_sl ([.ref b])).length) Slot.unset).toArray = ls at hl ⊢
  have hl : lv_has ls 30 [(0, .ref b)] := hl
  generalize hH0 : s.heap = H at hP
  have hS : va_S A s.heap H [] := by rw [← hH0]; exact va_S.rf
  generalize hlc0 : ([] : List Loc) = locs at hS ⊢
  refine va_new (ci := 1) (fs := [.null, .null]) (C := RX1) (T := TX1) (N := 2) hx hb hts (fun _ h => (List.mem_append_left _ (List.mem_append_left _ (List.mem_append_left _ (List.mem_append_left _ (List.mem_append_left _ (List.mem_append_left _ (List.mem_append_right _ h)))))))) tyX1 tyX1_ok hown (hts _ (List.mem_of_getElem? (i := 0) rfl)) (hts _ (List.mem_of_getElem? (i := 1) rfl)) (hts _ (List.mem_of_getElem? (i := 2) rfl)) hK hP hD hS hA rfl (fun j hj => by rcases (show j = 0 ∨ j = 1 by omega) with rfl | rfl <;> rfl) (Nat.le_of_ble_eq_true rfl) (Nat.le_of_ble_eq_true rfl) dL_law_0 (fun q0 H hP hD hS => ?_)
  have hP : va_P D vwCl [(q0, .inr (1, [.null, .null]))] H := hP
  have hD : va_D A [(q0, .inr (1, [.null, .null]))] := hD
  refine lv_dup hx hb dL_law_3 rfl ?_
  have hKb := hK
  have hK := hK1
  have hPc : va_P D vwCl [(q0, .inr (1, [.null, .null]))] H := hP.sub [0] rfl
  have hDc : va_D A [(q0, .inr (1, [.null, .null]))] := hD.sub [0] (by decide) rfl
  have hFc := va_free (wc := [(q0, .inr (1, [.null, .null]))]) hD hS hA [0] rfl
  refine pq_v (va_runI (As := []) (rest := [.ref q0]) CF (m_X1_init l D cI q0 H.size) (cwI 0 hts gL_law_X1_init rfl rfl rfl (hts _ (List.mem_of_getElem? (i := 2) rfl)) (hts _ (List.mem_of_getElem? (i := 11) rfl)) (hts _ (List.mem_of_getElem? (i := 12) rfl)) rfl k_X1_init ⟨Nat.le_of_ble_eq_true rfl, Nat.le_of_ble_eq_true rfl⟩) (ms_pre hK hPc hDc) rfl rfl hl.1 rfl (lv_room (Nat.le_of_ble_eq_true rfl)) dL_law_4 ⟨Nat.le_of_ble_eq_true rfl, Nat.le_of_ble_eq_true rfl⟩) hS hFc (fun H locs hB hk1 hS => ?_)
  obtain ⟨r, t, a1, a2, b1, b2, F, G, F2, G2, hF1, hG1, hP1, hD1⟩ := hB
  obtain ⟨hP, hD⟩ := va_join (wr := []) (w1 := [(q0, .inr (1, [.ref r, .ref t])), (r, .inr (0, [.ref a1, .ref a2, .int (nI 8), .int (nI 0)])), (a1, .inl (cI, 40, .inl F)), (a2, .inl (cI, 40, .inl G)), (t, .inr (0, [.ref b1, .ref b2, .int (nI 8), .int (nI 0)])), (b1, .inl (cI, 40, .inl F2)), (b2, .inl (cI, 40, .inl G2))]) hP hD [0] [] rfl rfl (by decide) (by decide) hk1 hFc hP1 hD1
  have hP : va_P D vwCl [(q0, .inr (1, [.ref r, .ref t])), (r, .inr (0, [.ref a1, .ref a2, .int (nI 8), .int (nI 0)])), (a1, .inl (cI, 40, .inl F)), (a2, .inl (cI, 40, .inl G)), (t, .inr (0, [.ref b1, .ref b2, .int (nI 8), .int (nI 0)])), (b1, .inl (cI, 40, .inl F2)), (b2, .inl (cI, 40, .inl G2))] H := hP
  have hD : va_D A [(q0, .inr (1, [.ref r, .ref t])), (r, .inr (0, [.ref a1, .ref a2, .int (nI 8), .int (nI 0)])), (a1, .inl (cI, 40, .inl F)), (a2, .inl (cI, 40, .inl G)), (t, .inr (0, [.ref b1, .ref b2, .int (nI 8), .int (nI 0)])), (b1, .inl (cI, 40, .inl F2)), (b2, .inl (cI, 40, .inl G2))] := hD
  have hK := hKb
  refine lv_astore_n (lv' := [(1, .ref q0), (0, .ref b)]) hx hb dL_law_7 rfl hl (by decide) rfl (fun ls hl => ?_)
  refine lv_aload_n hx hb dL_law_8 rfl (lv_at hl 0 rfl) ?_
  refine lv_aload_n hx hb dL_law_9 rfl (lv_at hl 1 rfl) ?_
  have hPc : va_P D vwCl [(q0, .inr (1, [.ref r, .ref t])), (r, .inr (0, [.ref a1, .ref a2, .int (nI 8), .int (nI 0)])), (a1, .inl (cI, 40, .inl F)), (a2, .inl (cI, 40, .inl G)), (t, .inr (0, [.ref b1, .ref b2, .int (nI 8), .int (nI 0)])), (b1, .inl (cI, 40, .inl F2)), (b2, .inl (cI, 40, .inl G2))] H := hP.sub [0, 1, 2, 3, 4, 5, 6] rfl
  have hDc : va_D A [(q0, .inr (1, [.ref r, .ref t])), (r, .inr (0, [.ref a1, .ref a2, .int (nI 8), .int (nI 0)])), (a1, .inl (cI, 40, .inl F)), (a2, .inl (cI, 40, .inl G)), (t, .inr (0, [.ref b1, .ref b2, .int (nI 8), .int (nI 0)])), (b1, .inl (cI, 40, .inl F2)), (b2, .inl (cI, 40, .inl G2))] := hD.sub [0, 1, 2, 3, 4, 5, 6] (by decide) rfl
  have hFc := va_free (wc := [(q0, .inr (1, [.ref r, .ref t])), (r, .inr (0, [.ref a1, .ref a2, .int (nI 8), .int (nI 0)])), (a1, .inl (cI, 40, .inl F)), (a2, .inl (cI, 40, .inl G)), (t, .inr (0, [.ref b1, .ref b2, .int (nI 8), .int (nI 0)])), (b1, .inl (cI, 40, .inl F2)), (b2, .inl (cI, 40, .inl G2))]) hD hS hA [0, 1, 2, 3, 4, 5, 6] rfl
  refine pq_r (va_runS (As := [.ref q0, .ref b]) (rest := []) CF (m_L_build l hlt D cI cZ b L xs hL q0 r t a1 a2 b1 b2 (RS.clear (by decide) (by decide) (by decide) hF1 hG1) 8 0 F2 G2 H.size) (va_cwS 2 hts gL_law_L_build rfl rfl rfl k_L_build.2 ⟨Nat.le_of_ble_eq_true rfl, Nat.le_of_ble_eq_true rfl⟩) (pb_pre hK hPc hDc hX (hZ.kept hS.2.1) hFc hXs hbl hbA hS hNx) rfl rfl hl.1 rfl (lv_room (Nat.le_of_ble_eq_true rfl)) dL_law_10 ⟨Nat.le_of_ble_eq_true rfl, Nat.le_of_ble_eq_true rfl⟩) hS hFc (fun r1 H locs hB hk1 hS => ?_)
  obtain ⟨u, rfl, n, w, f, g, c1, c2, c3, n2, w2, F, G, F2, G2, C, V, Z, S, S2, hd, hP1, hD1⟩ := hB
  have hP : va_P D vwCl [(q0, .inr (1, [.ref r, .ref t])), (r, .inr (0, [.ref a1, .ref a2, .int (nI n), .int (nI w)])), (a1, .inl (cI, 40, .inl F)), (a2, .inl (cI, 40, .inl G)), (t, .inr (0, [.ref b1, .ref b2, .int (nI n2), .int (nI w2)])), (b1, .inl (cI, 40, .inl F2)), (b2, .inl (cI, 40, .inl G2)), (u, .inr (2, [.int (nI w), .ref c1, .ref c2, .ref c3])), (c1, .inl (cI, n, .inl C)), (c2, .inl (cI, n, .inl V)), (c3, .inl (cZ, n, .inl Z))] H := hP1
  have hD : va_D A [(q0, .inr (1, [.ref r, .ref t])), (r, .inr (0, [.ref a1, .ref a2, .int (nI n), .int (nI w)])), (a1, .inl (cI, 40, .inl F)), (a2, .inl (cI, 40, .inl G)), (t, .inr (0, [.ref b1, .ref b2, .int (nI n2), .int (nI w2)])), (b1, .inl (cI, 40, .inl F2)), (b2, .inl (cI, 40, .inl G2)), (u, .inr (2, [.int (nI w), .ref c1, .ref c2, .ref c3])), (c1, .inl (cI, n, .inl C)), (c2, .inl (cI, n, .inl V)), (c3, .inl (cZ, n, .inl Z))] := hD1.weaken (fun _ _ _ h => hFc _ h)
  refine W.eq (g2 := F0 m 13 ls [.ref u]) rfl ?_
  refine lv_astore_n (lv' := [(2, .ref u), (1, .ref q0), (0, .ref b)]) hx hb dL_law_13 rfl hl (by decide) rfl (fun ls hl => ?_)
  refine lv_aload_n hx hb dL_law_14 rfl (lv_at hl 0 rfl) ?_
  refine lv_ifnonnull (tgt := 20) hx hb dL_law_15 (by decide) ?_
  refine lv_iconst (v := nI 0) hx hb dL_law_20 (by decide) ?_
  refine lv_istore_n (lv' := [(3, .int (nI 0)), (2, .ref u), (1, .ref q0), (0, .ref b)]) hx hb dL_law_21 rfl hl (by decide) rfl (fun ls hl => ?_)
  refine w_widen (k := 500) (n := 8000) (Nat.le_of_ble_eq_true rfl) (Nat.le_of_ble_eq_true rfl) ?_
  exact law_loop F9 (hend q0 r t a1 a2 b1 b2 u) 7 0 500 8000 rfl (by decide) (by decide) n w f g hd _ _ _ _ _ _ _ _ _ _ _ _ _ _ _ S S2 hP hD hS (lv_sub hl [3, 2, 1, 0] rfl)
set_option maxHeartbeats 4000000 in
theorem lw_walk (l : Launch) (hflags : l.flags = flags0) (b : Addr) (xs : List Int32) : MetFree l x (headSpec (Jvm.Cond.code x code maxLocals ret :: tables_1) room_1) (lw_P b xs) (fun _ _ _ _ _ => True) lw_Q := by
  refine MetFree.of_bodyS (code := code) (maxLocals := maxLocals) (ret := ret) (by decide) ?_ ?_
  · intro args s m h hn
    obtain ⟨meth, c, h1, h2, h3, h4, h5, h6, -, -⟩ := Cond.code_spec hn (atoms_spec (ws := Jvm.Cond.code x code maxLocals ret :: tables_1) h _ List.mem_cons_self)
    exact ⟨meth, c, h1, h2, h3, h4, h5, h6⟩
  · intro p e s m args below meth c s₁ B hml0 hP _
    obtain ⟨rfl, hx, hbd, hgv⟩ := hP
    obtain ⟨scr, harrAt, hlist, hof, hsmall⟩ := hx
    obtain ⟨hcb, hkn, -, -⟩ := State.arrayAt?_spec harrAt
    have hown : s.vm.findClass R_law = some m.cls := findClass_of_methodNamed B.named
    have hts0 : ∀ c ∈ (Jvm.Cond.code x code maxLocals ret :: tables_1), c.before #[Value.ref b] s = true := atoms_spec (ws := Jvm.Cond.code x code maxLocals ret :: tables_1) B.pre
    have hts : ∀ w ∈ lw_tbl, w.before #[Value.ref b] s = true := k2_hts_sels lw_privs (fun w hw => hts0 w (List.mem_cons_of_mem _ hw)) lw_privs_ok
    have hml : c.maxLocals = 30 := B.maxLocals_eq (hts0 _ List.mem_cons_self)
    have X₀ : Stand p l e room_1 s m #[Value.ref b] below meth c s₁ [] 0 0 := Stand.of_body B
    have hh0 : s₁.heap = s.heap := by rw [B.state]; rfl
    have hsz : scr.slots.size = xs.length := by rw [← Array.length_toList, hlist, List.length_map]
    have hval : ∀ j : Nat, j < xs.length → scr.slots[j]? = some (.int (xs.getD j 0)) := fun j hj => by
      rw [← Array.getElem?_toList, hlist]
      simp [hj]
    have hbl : b < s.heap.size := (Array.getElem?_eq_some_iff.mp hcb).1
    have hX : va_X b xs.length (fun j => xs.getD j 0) s s.heap := ⟨scr, hcb, hof, hkn, hsz, hval⟩
    have K : W p l e room_1 s m #[Value.ref b] below meth c s₁.heap [] 0 0 (lw_Z below #[Value.ref b] s) (entryFrame m ([Value.ref b] : List Value).toArray 30) := by
      rw [hh0]
      exact whole_start l hflags hbd ⟨B.exec, B.bytes, B.returns, hml, hown, hts, hX, hbl, B.notSynchronized, hgv⟩
    obtain ⟨t, a1, o, b1, b2, b3⟩ := K s₁ rfl X₀
    exact ⟨t, o, a1, b1, b2, b3⟩
theorem lw_pre_spec {args : Array Value} {s : State} (h : (Jvm.Cond.and given_1 narrow_1).before args s = true) (hr : rest_1_c.before args s = true) : ∃ (b : Addr) (xs : List Int32), lw_P b xs args s := by
  have hs := flat_of_before _ h
  have hq := flat_of_before _ hr
  have hc : (Cond.count 1).before args s = true := hs _ (by decide +kernel)
  have harr : (Cond.arrayOf (.arg 0) .int).before args s = true := hs _ (by decide +kernel)
  have hle : (Cond.le (.length (.arg 0)) (.int 260)).before args s = true := hs _ (by decide +kernel)
  have hlen : (Cond.isInt (.length (.arg 0))).before args s = true := hq _ (by decide +kernel)
  have hall : (Cond.all (.arg 0) (.isInt (.elem (.arg 0) (.index 0)))).before args s = true := hq _ (by decide +kernel)
  obtain ⟨b, xs, hb, hx⟩ := State.ints_of_pre rfl harr hlen hall
  have hsm : xs.length < 2 ^ 31 := hx.choose_spec.2.2.2
  have hev : (Term.length (.arg 0)).eval args s none [] s = some (.int xs.length.toInt32) := hx.length_eval hb
  have hv := Cond.le_ints hev (show (Term.int 260).eval args s none [] s = some (.int 260) from rfl)
  have hd : xs.length.toInt32 ≤ 260 := by
    simpa [Cond.before, Cond.holds, hv] using hle
  have hN : xs.length ≤ 260 := (Int32.ofNat_le_ofNat hsm (by decide)).mp (show Int32.ofNat xs.length ≤ Int32.ofNat 260 from hd)
  exact ⟨b, xs, Cond.one_arg hc (show args[0]? = some (.ref b) from hb), hx, hN, h⟩
theorem lw_comes (l : Launch) (hflags : l.flags = flags0) : Comes l x (Jvm.Cond.code x code maxLocals ret :: tables_1) room_1 (fun tb e args s => Calls_1 tb e args s ∧ rest_1 tb e args s ∧ Pre_1 tb e args s)
    (fun _ _ args s o t => lw_Q args s o t) := by
  intro p e ha hc hk s m args below hf hfit hheap happ hpre
  obtain ⟨b, xs, hP⟩ := lw_pre_spec hpre.2.2 hpre.2.1
  obtain ⟨k, o, h1, h2, h3, hQ⟩ := lw_walk l hflags b xs p e ha hc hk s m args below hf ((Spec.applies_iff_loose hf).mp happ).1 hP trivial
  exact ⟨k, o, h1, h2, h3, hQ⟩
theorem lw_frame {s t : State} {o : Outcome} {args : Array Value} (h : State.butDraws s t lw_cs (fun t1 => Framed s o t1 [] 600172 7300668)) :
    State.butDraws s t [Jvm.Choice.named "NaN.bits"] (fun t1 => Framed s o t1 (fieldLocs frame_1_writes args s ++ arrayLocs frame_1_arrays args s ++ staticLocs frame_1_statics s) 600172 7300668) := h
theorem lw_limb (L : Cond) (hL : ∀ (args : Array Value) (s t : State), L.after args s (.returned (some (.int 1))) t = true) :
    ArmFor flags0 classFile x code maxLocals ret World_1 tables_1 room_1 Calls_1 rest_1 Pre_1
      (fun tb e a s o t => postC L tb e a s o t ∧ State.butDraws s t [Jvm.Choice.named "NaN.bits"] (fun t1 => Framed s o t1 (fieldLocs frame_1_writes a s ++ arrayLocs frame_1_arrays a s ++ staticLocs frame_1_statics s) 600172 7300668)) := by
  intro l hflags _ _ p e ha hc hk s m args below hf hfit hheap happ hpre
  obtain ⟨k, o, h1, h2, h3, rfl, hF⟩ := lw_comes l hflags p e ha hc hk s m args below hf hfit hheap happ hpre
  exact ⟨k, _, h1, h2, h3, hL args s _, lw_frame hF⟩
theorem i_vc : Claimed_1_1 ∧ Claimed_1_2 := ⟨lw_limb limb_1_1 (fun args s t => by simp [limb_1_1, Cond.after, Cond.holds, Cond.value]), lw_limb limb_1_2 (fun args s t => Cond.after_iff.mpr (by
  first | (rw [show limb_1_2 = Cond.eq .result (.int 1) from rfl, Cond.eq_ints (x := 1) (y := 1) rfl rfl]; simp; done) | (simp [limb_1_2, Cond.value, Term.eval]; done)))⟩
