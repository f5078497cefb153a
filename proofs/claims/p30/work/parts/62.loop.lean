/-! the law's loop -/
theorem xs_of {s : State} {args : Array Value} (h1 : ∀ w ∈ xs_w, w.before args s = true) (hi : (Cond.instantiable RX1 2).before args s = true) (h2 : ∀ q ∈ xs_tx, (Cond.stringRef RX1 q.1 q.2).before args s = true) : XS s := by
  obtain ⟨cC, kC, hfc, -⟩ := Cond.instantiable_spec hi
  refine ⟨fun w hw => va_Nw.of ?_ (h1 w hw), fun q hq => ?_⟩
  · simp only [xs_w, List.mem_cons, List.mem_nil_iff, or_false] at hw
    rcases hw with rfl | rfl | rfl | rfl | rfl | rfl <;> rfl
  · obtain ⟨-, -, -, a, -, -, -, -, -, hev⟩ := Cond.stringRef_spec hfc (h2 q hq)
    exact ⟨a, vk_R.of (h2 q hq) hev⟩
theorem ar_KZ {args : Array Value} {s : State} (h : (Cond.arrayClass .boolean).before args s = true) : ∃ cA : ClassId, ArrOfT s cA .boolean ∧ va_RA s cA .boolean := by
  obtain ⟨cA, kA, comp, h1, h2, h3⟩ := Cond.arrayClass_spec h
  exact ⟨cA, fun n z => ⟨fun k h => (by cases h), kA, h2, comp, h3⟩, h1⟩
theorem law_back {p : Program} {l : Launch} {e : Env} {s : State} {m : MethodId} {below : List Frame} {meth : Method} {c : Code} {b L : Nat} {xs : Nat → Int32} {D : va_G} {cI cZ : ClassId} {A : Nat → Prop} {Q : State → Prop} {o r t a1 a2 b1 b2 u : Nat} (F9 : LF p l s m meth c b L xs D cI cZ A) {i kc ks n w : Nat} {f g : Nat → Int32} (hk : KG p l e s m below meth c b D cI cZ A Q o r t a1 a2 b1 b2 u 22 [(0, .ref b), (1, .ref o), (2, .ref u), (3, .int (nI (i + 1)))] kc ks n w f g) : KG p l e s m below meth c b D cI cZ A Q o r t a1 a2 b1 b2 u 1158 [(0, .ref b), (1, .ref o), (2, .ref u), (3, .int (nI i))] kc ks n w f g := by
  obtain ⟨CF, hXs, hbl, hbA, hA, hK, hX, hZ, hNx, hlt, hL⟩ := id F9
  obtain ⟨hx, hb, hml, hown, hts⟩ := id CF
  intro c1 c2 c3 n2 w2 F G F2 G2 C V Z H locs ls S S2 hP hD hS hl
  refine lv_iinc (v := nI (i + 1)) (lv' := [(3, .int (nI (i + 1))), (0, .ref b), (1, .ref o), (2, .ref u)]) hx hb dL_law_1158 hl (k := 3) rfl (inc1 _) (by decide) rfl (fun ls hl => ?_)
  refine lv_goto (tgt := 22) hx hb dL_law_1161 (by decide) ?_
  exact hk _ _ _ _ _ _ _ _ _ _ _ _ _ _ _ S S2 hP hD hS (lv_sub hl [1, 2, 3, 0] rfl)
set_option maxHeartbeats 4000000 in
set_option maxRecDepth 100000 in
theorem law_loop {p : Program} {l : Launch} {e : Env} {s : State} {m : MethodId} {below : List Frame} {meth : Method} {c : Code} {b L : Nat} {xs : Nat → Int32} {D : va_G} {cI cZ : ClassId} {A : Nat → Prop} {Q : State → Prop} {o r t a1 a2 b1 b2 u : Nat} (F9 : LF p l s m meth c b L xs D cI cZ A) (hend : ∀ (kc ks n w : Nat) (f g : Nat → Int32), kc ≤ 10000 → ks ≤ 100000 → KG p l e s m below meth c b D cI cZ A Q o r t a1 a2 b1 b2 u 1164 [(0, .ref b), (1, .ref o), (2, .ref u)] kc ks n w f g) : ∀ (q i kc ks : Nat), i + q = 7 → kc + 100 * q ≤ 9000 → ks + 2000 * q ≤ 90000 → ∀ (n w : Nat) (f g : Nat → Int32), Ds n f → KG p l e s m below meth c b D cI cZ A Q o r t a1 a2 b1 b2 u 22 [(0, .ref b), (1, .ref o), (2, .ref u), (3, .int (nI i))] kc ks n w f g := by
  obtain ⟨CF, hXs, hbl, hbA, hA, hK, hX, hZ, hNx, hlt, hL⟩ := id F9
  obtain ⟨hx, hb, hml, hown, hts⟩ := id CF
  intro q
  induction q with
  | zero =>
    intro i kc ks h1 hkc hks n w f g hd c1 c2 c3 n2 w2 F G F2 G2 C V Z H locs ls S S2 hP hD hS hl
    refine lv_iload_n hx hb dL_law_22 rfl (lv_at hl 3 rfl) ?_
    refine lv_bipush (v := nI 7) hx hb dL_law_23 (by decide) ?_
    refine bn_ge (tgt := 1164) hx hb dL_law_25 (by decide) (by omega) (by omega) (fun c25 => ?_) (fun c25 => ?_)
    · exact hend kc ks n w f g (by omega) (by omega) _ _ _ _ _ _ _ _ _ _ _ _ _ _ _ S S2 hP hD hS (lv_sub hl [0, 1, 2] rfl)
    · omega
  | succ q ih =>
    intro i kc ks h1 hkc hks n w f g hd c1 c2 c3 n2 w2 F G F2 G2 C V Z H locs ls S S2 hP hD hS hl
    refine lv_iload_n hx hb dL_law_22 rfl (lv_at hl 3 rfl) ?_
    refine lv_bipush (v := nI 7) hx hb dL_law_23 (by decide) ?_
    refine bn_ge (tgt := 1164) hx hb dL_law_25 (by decide) (by omega) (by omega) (fun c25 => ?_) (fun c25 => ?_)
    · omega
    · refine law_acts F9 (i := i) (by omega) (by omega) (by omega) hd (fun x n w f g hd => ?_) _ _ _ _ _ _ _ _ _ _ _ _ _ _ _ S S2 hP hD hS hl
      refine law_hooks F9 (by omega) (by omega) hd (law_sums F9 (by omega) (by omega) hd (law_place F9 (by omega) (by omega) hd (law_would F9 (by omega) (by omega) hd (fun N w1 hN3 hN40 hw1 => law_ends F9 hN3 hN40 hw1 (by omega) (by omega) hd (fun n w f g hd => law_back F9 ?_)))))
      exact ih (i + 1) _ _ (by omega) (by omega) (by omega) n w f g hd
