/-! the law's loop -/
theorem xs_of {s : State} {args : Array Value} (h1 : ∀ w ∈ xs_w, w.before args s = true) (hi : (Cond.instantiable RX1 2).before args s = true) (h2 : ∀ q ∈ xs_tx, (Cond.stringRef RX1 q.1 q.2).before args s = true) : XS s := by
  obtain ⟨cC, kC, hfc, -⟩ := Cond.instantiable_spec hi
  refine ⟨fun w hw => va_Nw.of ?_ (h1 w hw), fun q hq => ?_⟩
  · simp only [xs_w, List.mem_cons, List.mem_nil_iff, or_false] at hw
    rcases hw with rfl | rfl | rfl | rfl | rfl | rfl <;> rfl
  · obtain ⟨-, -, -, a, -, -, -, -, -, hev⟩ := Cond.stringRef_spec hfc (h2 q hq)
    exact ⟨a, vk_R.of (h2 q hq) hev⟩
theorem and31 (x : Int32) : ∃ k : Nat, k ≤ 31 ∧ x &&& nI 31 = nI k := by
  have h1 : (x &&& nI 31).toBitVec.toNat ≤ 31 := by
    show (x.toBitVec &&& (nI 31).toBitVec).toNat ≤ 31
    rw [BitVec.toNat_and]
    exact Nat.and_le_right
  refine ⟨(x &&& nI 31).toBitVec.toNat, h1, Int32.toInt_inj.mp ?_⟩
  rw [nI_toInt (by omega)]
  show (x &&& nI 31).toBitVec.toInt = _
  rw [BitVec.toInt_eq_toNat_of_lt (by omega)]
theorem hd_gt {i L : Nat} (hi : i < 2 ^ 31) (hL : L < 2 ^ 31) : nI L - nI 3 < nI i ↔ L < i + 3 := by
  by_cases h : 3 ≤ L
  · rw [pk_sub h, nI_ltI (by omega) hi]
    omega
  · refine ⟨fun _ => by omega, fun _ => ?_⟩
    rw [Int32.lt_iff_toInt_lt, nI_toInt hi]
    rcases (show L = 0 ∨ L = 1 ∨ L = 2 by omega) with rfl | rfl | rfl
    · have : (nI 0 - nI 3).toInt = -3 := by decide
      omega
    · have : (nI 1 - nI 3).toInt = -2 := by decide
      omega
    · have : (nI 2 - nI 3).toInt = -1 := by decide
      omega
theorem ar_oneL {D : va_G} {cl : List vw_C} {tys : List (ClassId × FieldType)} {s : State} (hK : va_K D cl tys s) (i j : Nat) {c1 c2 : ClassId} (h1 : tys[i]? = some (c1, .long)) (h2 : tys[j]? = some (c2, .long)) : c1 = c2 := by
  have e1 : s.vm.findClass ("[" ++ FieldType.long.toString) = some c1 := (hK.2 i _ h1).2
  have e2 : s.vm.findClass ("[" ++ FieldType.long.toString) = some c2 := (hK.2 j _ h2).2
  exact Option.some.inj (e1.symm.trans e2)
theorem law_back {p : Program} {l : Launch} {e : Env} {s : State} {m : MethodId} {below : List Frame} {meth : Method} {c : Code} {b L : Nat} {xs : Nat → Int32} {D : va_G} {cI cJ : ClassId} {A : Nat → Prop} {Q : State → Prop} (F9 : LF p l s m meth c b L xs D cI cJ A) {i kc ks : Nat} (hk : LG p l e s m below meth c b D cI cJ A Q 23 (i + 3) kc ks) : LG p l e s m below meth c b D cI cJ A Q 1147 i kc ks := by
  obtain ⟨CF, hXs, hbl, hbA, hA, hKw, hXS, hZ, hN, hlt, hL⟩ := id F9
  obtain ⟨hx, hb, hml, hown, hts⟩ := id CF
  intro o r t a1 a2 b1 b2 ot u c1 c2 c3 c4 n w n2 w2 F G f g F2 G2 FM V O Y B e0 e7 e8 e9 e10 H locs ls S M hP hD hS hl
  refine lv_iinc (v := nI (i + 3)) (lv' := [(4, .int (nI (i + 3))), (0, .ref b), (1, .ref o), (2, .ref u), (3, .ref ot)]) hx hb dL_law_1147 hl (k := 4) rfl (inc3 _) (by decide) rfl (fun ls hl => ?_)
  refine lv_goto (tgt := 23) hx hb dL_law_1150 (by decide) ?_
  exact hk _ _ _ _ _ _ _ _ _ _ _ _ _ _ _ _ _ _ _ _ _ _ _ _ _ _ _ _ _ _ _ _ _ _ _ _ S M hP hD hS (lv_sub hl [1, 2, 3, 4, 0] rfl)
set_option maxHeartbeats 4000000 in
set_option maxRecDepth 100000 in
theorem law_loop {p : Program} {l : Launch} {e : Env} {s : State} {m : MethodId} {below : List Frame} {meth : Method} {c : Code} {b L : Nat} {xs : Nat → Int32} {D : va_G} {cI cJ : ClassId} {A : Nat → Prop} {Q : State → Prop} (F9 : LF p l s m meth c b L xs D cI cJ A) (hend : ∀ i kc ks : Nat, kc ≤ 638288 → ks ≤ 7181241 → LG p l e s m below meth c b D cI cJ A Q 1153 i kc ks) : ∀ (q i kc ks : Nat), L ≤ i + 3 * q → i ≤ L + 3 → kc + 50 * q ≤ 638288 → ks + 300 * q ≤ 7181241 → LG p l e s m below meth c b D cI cJ A Q 23 i kc ks := by
  obtain ⟨CF, hXs, hbl, hbA, hA, hKw, hXS, hZ, hN, hlt, hL⟩ := id F9
  obtain ⟨hx, hb, hml, hown, hts⟩ := id CF
  intro q
  induction q with
  | zero =>
    intro i kc ks h1 h0 hkc hks
    intro o r t a1 a2 b1 b2 ot u c1 c2 c3 c4 n w n2 w2 F G f g F2 G2 FM V O Y B e0 e7 e8 e9 e10 H locs ls S M hP hD hS hl
    refine lv_iload hx hb dL_law_23 (lv_at hl 4 rfl) ?_
    refine lv_aload_n hx hb dL_law_25 rfl (lv_at hl 0 rfl) ?_
    refine va_slen hx hb hXs hbl hbA hS dL_law_26 ?_
    refine tp_i (y := nI L) rfl ?_
    refine lv_iconst (v := nI 3) hx hb dL_law_27 (by decide) ?_
    refine lv_isub hx hb dL_law_28 ?_
    refine lv_icmp_gt (tgt := 1153) hx hb dL_law_29 (by decide) (fun c29 => ?_) (fun c29 => ?_)
    · exact hend i kc ks (by omega) (by omega) _ _ _ _ _ _ _ _ _ _ _ _ _ _ _ _ _ _ _ _ _ _ _ _ _ _ _ _ _ _ _ _ _ _ _ _ S M hP hD hS hl
    · exact absurd ((hd_gt (by omega) (by omega)).mpr (by omega)) c29
  | succ q ih =>
    intro i kc ks h1 h0 hkc hks
    have back : LG p l e s m below meth c b D cI cJ A Q 1147 i (kc + 50) (ks + 300) ∨ L < i + 3 := by
      by_cases h : i + 3 ≤ L
      · exact Or.inl (law_back F9 (ih (i + 3) (kc + 50) (ks + 300) (by omega) (by omega) (by omega) (by omega)))
      · exact Or.inr (by omega)
    intro o r t a1 a2 b1 b2 ot u c1 c2 c3 c4 n w n2 w2 F G f g F2 G2 FM V O Y B e0 e7 e8 e9 e10 H locs ls S M hP hD hS hl
    refine lv_iload hx hb dL_law_23 (lv_at hl 4 rfl) ?_
    refine lv_aload_n hx hb dL_law_25 rfl (lv_at hl 0 rfl) ?_
    refine va_slen hx hb hXs hbl hbA hS dL_law_26 ?_
    refine tp_i (y := nI L) rfl ?_
    refine lv_iconst (v := nI 3) hx hb dL_law_27 (by decide) ?_
    refine lv_isub hx hb dL_law_28 ?_
    refine lv_icmp_gt (tgt := 1153) hx hb dL_law_29 (by decide) (fun c29 => ?_) (fun c29 => ?_)
    · exact hend i kc ks (by omega) (by omega) _ _ _ _ _ _ _ _ _ _ _ _ _ _ _ _ _ _ _ _ _ _ _ _ _ _ _ _ _ _ _ _ _ _ _ _ S M hP hD hS hl
    · have hi : i + 3 ≤ L := Nat.le_of_not_lt (fun z => c29 ((hd_gt (by omega) (by omega)).mpr z))
      have back := back.resolve_right (by omega)
      refine lv_aload_n hx hb dL_law_32 rfl (lv_at hl 0 rfl) ?_
      refine lv_iload hx hb dL_law_33 (lv_at hl 4 rfl) ?_
      refine va_sld hx hb hXs hbl hbA hS (vp_in_nI (by omega) (by omega)) dL_law_35 ?_
      refine lv_bipush (v := nI 31) hx hb dL_law_36 (by decide) ?_
      refine lv_iand hx hb dL_law_38 ?_
      obtain ⟨k9, hk9, ek⟩ := and31 (xs (nI i).toNatClampNeg)
      refine tp_i (y := nI k9) ek ?_
      by_cases h9 : 26 < k9
      · refine lv_tableOut (tgt := 1147) hx hb dL_law_39 (Or.inr (by rw [nI_toInt (by omega)]; omega)) (by decide) ?_
        refine w_widen (k := kc + 50) (n := ks + 300) (by omega) (by omega) ?_
        exact back _ _ _ _ _ _ _ _ _ _ _ _ _ _ _ _ _ _ _ _ _ _ _ _ _ _ _ _ _ _ _ _ _ _ _ _ S M hP hD hS hl
      · rcases (show k9 = 0 ∨ k9 = 1 ∨ k9 = 2 ∨ k9 = 3 ∨ k9 = 4 ∨ k9 = 5 ∨ k9 = 6 ∨ k9 = 7 ∨ k9 = 8 ∨ k9 = 9 ∨ k9 = 10 ∨ k9 = 11 ∨ k9 = 12 ∨ k9 = 13 ∨ k9 = 14 ∨ k9 = 15 ∨ k9 = 16 ∨ k9 = 17 ∨ k9 = 18 ∨ k9 = 19 ∨ k9 = 20 ∨ k9 = 21 ∨ k9 = 22 ∨ k9 = 23 ∨ k9 = 24 ∨ k9 = 25 ∨ k9 = 26 by omega) with rfl | rfl | rfl | rfl | rfl | rfl | rfl | rfl | rfl | rfl | rfl | rfl | rfl | rfl | rfl | rfl | rfl | rfl | rfl | rfl | rfl | rfl | rfl | rfl | rfl | rfl | rfl
        · refine lv_tableIn (off := 121) (tgt := 160) hx hb dL_law_39 (by decide) (by decide) (by decide) (by decide) ?_
          exact law_c0 F9 hi (by omega) (by omega) back _ _ _ _ _ _ _ _ _ _ _ _ _ _ _ _ _ _ _ _ _ _ _ _ _ _ _ _ _ _ _ _ _ _ _ _ S M hP hD hS hl
        · refine lv_tableIn (off := 189) (tgt := 228) hx hb dL_law_39 (by decide) (by decide) (by decide) (by decide) ?_
          exact law_c1 F9 hi (by omega) (by omega) back _ _ _ _ _ _ _ _ _ _ _ _ _ _ _ _ _ _ _ _ _ _ _ _ _ _ _ _ _ _ _ _ _ _ _ _ S M hP hD hS hl
        · refine lv_tableIn (off := 245) (tgt := 284) hx hb dL_law_39 (by decide) (by decide) (by decide) (by decide) ?_
          exact law_c2 F9 hi (by omega) (by omega) back _ _ _ _ _ _ _ _ _ _ _ _ _ _ _ _ _ _ _ _ _ _ _ _ _ _ _ _ _ _ _ _ _ _ _ _ S M hP hD hS hl
        · refine lv_tableIn (off := 313) (tgt := 352) hx hb dL_law_39 (by decide) (by decide) (by decide) (by decide) ?_
          exact law_c3 F9 hi (by omega) (by omega) back _ _ _ _ _ _ _ _ _ _ _ _ _ _ _ _ _ _ _ _ _ _ _ _ _ _ _ _ _ _ _ _ _ _ _ _ S M hP hD hS hl
        · refine lv_tableIn (off := 326) (tgt := 365) hx hb dL_law_39 (by decide) (by decide) (by decide) (by decide) ?_
          exact law_c4 F9 hi (by omega) (by omega) back _ _ _ _ _ _ _ _ _ _ _ _ _ _ _ _ _ _ _ _ _ _ _ _ _ _ _ _ _ _ _ _ _ _ _ _ S M hP hD hS hl
        · refine lv_tableIn (off := 339) (tgt := 378) hx hb dL_law_39 (by decide) (by decide) (by decide) (by decide) ?_
          exact law_c5 F9 hi (by omega) (by omega) back _ _ _ _ _ _ _ _ _ _ _ _ _ _ _ _ _ _ _ _ _ _ _ _ _ _ _ _ _ _ _ _ _ _ _ _ S M hP hD hS hl
        · refine lv_tableIn (off := 352) (tgt := 391) hx hb dL_law_39 (by decide) (by decide) (by decide) (by decide) ?_
          exact law_c6 F9 hi (by omega) (by omega) back _ _ _ _ _ _ _ _ _ _ _ _ _ _ _ _ _ _ _ _ _ _ _ _ _ _ _ _ _ _ _ _ _ _ _ _ S M hP hD hS hl
        · refine lv_tableIn (off := 365) (tgt := 404) hx hb dL_law_39 (by decide) (by decide) (by decide) (by decide) ?_
          exact law_c7 F9 hi (by omega) (by omega) back _ _ _ _ _ _ _ _ _ _ _ _ _ _ _ _ _ _ _ _ _ _ _ _ _ _ _ _ _ _ _ _ _ _ _ _ S M hP hD hS hl
        · refine lv_tableIn (off := 378) (tgt := 417) hx hb dL_law_39 (by decide) (by decide) (by decide) (by decide) ?_
          exact law_c8 F9 hi (by omega) (by omega) back _ _ _ _ _ _ _ _ _ _ _ _ _ _ _ _ _ _ _ _ _ _ _ _ _ _ _ _ _ _ _ _ _ _ _ _ S M hP hD hS hl
        · refine lv_tableIn (off := 434) (tgt := 473) hx hb dL_law_39 (by decide) (by decide) (by decide) (by decide) ?_
          exact law_c9 F9 hi (by omega) (by omega) back _ _ _ _ _ _ _ _ _ _ _ _ _ _ _ _ _ _ _ _ _ _ _ _ _ _ _ _ _ _ _ _ _ _ _ _ S M hP hD hS hl
        · refine lv_tableIn (off := 490) (tgt := 529) hx hb dL_law_39 (by decide) (by decide) (by decide) (by decide) ?_
          exact law_c10 F9 hi (by omega) (by omega) back _ _ _ _ _ _ _ _ _ _ _ _ _ _ _ _ _ _ _ _ _ _ _ _ _ _ _ _ _ _ _ _ _ _ _ _ S M hP hD hS hl
        · refine lv_tableIn (off := 546) (tgt := 585) hx hb dL_law_39 (by decide) (by decide) (by decide) (by decide) ?_
          exact law_c11 F9 hi (by omega) (by omega) back _ _ _ _ _ _ _ _ _ _ _ _ _ _ _ _ _ _ _ _ _ _ _ _ _ _ _ _ _ _ _ _ _ _ _ _ S M hP hD hS hl
        · refine lv_tableIn (off := 559) (tgt := 598) hx hb dL_law_39 (by decide) (by decide) (by decide) (by decide) ?_
          exact law_c12 F9 hi (by omega) (by omega) back _ _ _ _ _ _ _ _ _ _ _ _ _ _ _ _ _ _ _ _ _ _ _ _ _ _ _ _ _ _ _ _ _ _ _ _ S M hP hD hS hl
        · refine lv_tableIn (off := 572) (tgt := 611) hx hb dL_law_39 (by decide) (by decide) (by decide) (by decide) ?_
          exact law_c13 F9 hi (by omega) (by omega) back _ _ _ _ _ _ _ _ _ _ _ _ _ _ _ _ _ _ _ _ _ _ _ _ _ _ _ _ _ _ _ _ _ _ _ _ S M hP hD hS hl
        · refine lv_tableIn (off := 628) (tgt := 667) hx hb dL_law_39 (by decide) (by decide) (by decide) (by decide) ?_
          exact law_c14 F9 hi (by omega) (by omega) back _ _ _ _ _ _ _ _ _ _ _ _ _ _ _ _ _ _ _ _ _ _ _ _ _ _ _ _ _ _ _ _ _ _ _ _ S M hP hD hS hl
        · refine lv_tableIn (off := 684) (tgt := 723) hx hb dL_law_39 (by decide) (by decide) (by decide) (by decide) ?_
          exact law_c15 F9 hi (by omega) (by omega) back _ _ _ _ _ _ _ _ _ _ _ _ _ _ _ _ _ _ _ _ _ _ _ _ _ _ _ _ _ _ _ _ _ _ _ _ S M hP hD hS hl
        · refine lv_tableIn (off := 740) (tgt := 779) hx hb dL_law_39 (by decide) (by decide) (by decide) (by decide) ?_
          exact law_c16 F9 hi (by omega) (by omega) back _ _ _ _ _ _ _ _ _ _ _ _ _ _ _ _ _ _ _ _ _ _ _ _ _ _ _ _ _ _ _ _ _ _ _ _ S M hP hD hS hl
        · refine lv_tableIn (off := 808) (tgt := 847) hx hb dL_law_39 (by decide) (by decide) (by decide) (by decide) ?_
          exact law_c17 F9 hi (by omega) (by omega) back _ _ _ _ _ _ _ _ _ _ _ _ _ _ _ _ _ _ _ _ _ _ _ _ _ _ _ _ _ _ _ _ _ _ _ _ S M hP hD hS hl
        · refine lv_tableIn (off := 821) (tgt := 860) hx hb dL_law_39 (by decide) (by decide) (by decide) (by decide) ?_
          exact law_c18 F9 hi (by omega) (by omega) back _ _ _ _ _ _ _ _ _ _ _ _ _ _ _ _ _ _ _ _ _ _ _ _ _ _ _ _ _ _ _ _ _ _ _ _ S M hP hD hS hl
        · refine lv_tableIn (off := 834) (tgt := 873) hx hb dL_law_39 (by decide) (by decide) (by decide) (by decide) ?_
          exact law_c19 F9 hi (by omega) (by omega) back _ _ _ _ _ _ _ _ _ _ _ _ _ _ _ _ _ _ _ _ _ _ _ _ _ _ _ _ _ _ _ _ _ _ _ _ S M hP hD hS hl
        · refine lv_tableIn (off := 847) (tgt := 886) hx hb dL_law_39 (by decide) (by decide) (by decide) (by decide) ?_
          exact law_c20 F9 hi (by omega) (by omega) back _ _ _ _ _ _ _ _ _ _ _ _ _ _ _ _ _ _ _ _ _ _ _ _ _ _ _ _ _ _ _ _ _ _ _ _ S M hP hD hS hl
        · refine lv_tableIn (off := 860) (tgt := 899) hx hb dL_law_39 (by decide) (by decide) (by decide) (by decide) ?_
          exact law_c21 F9 hi (by omega) (by omega) back _ _ _ _ _ _ _ _ _ _ _ _ _ _ _ _ _ _ _ _ _ _ _ _ _ _ _ _ _ _ _ _ _ _ _ _ S M hP hD hS hl
        · refine lv_tableIn (off := 916) (tgt := 955) hx hb dL_law_39 (by decide) (by decide) (by decide) (by decide) ?_
          exact law_c22 F9 hi (by omega) (by omega) back _ _ _ _ _ _ _ _ _ _ _ _ _ _ _ _ _ _ _ _ _ _ _ _ _ _ _ _ _ _ _ _ _ _ _ _ S M hP hD hS hl
        · refine lv_tableIn (off := 984) (tgt := 1023) hx hb dL_law_39 (by decide) (by decide) (by decide) (by decide) ?_
          exact law_c23 F9 hi (by omega) (by omega) back _ _ _ _ _ _ _ _ _ _ _ _ _ _ _ _ _ _ _ _ _ _ _ _ _ _ _ _ _ _ _ _ _ _ _ _ S M hP hD hS hl
        · refine lv_tableIn (off := 997) (tgt := 1036) hx hb dL_law_39 (by decide) (by decide) (by decide) (by decide) ?_
          exact law_c24 F9 hi (by omega) (by omega) back _ _ _ _ _ _ _ _ _ _ _ _ _ _ _ _ _ _ _ _ _ _ _ _ _ _ _ _ _ _ _ _ _ _ _ _ S M hP hD hS hl
        · refine lv_tableIn (off := 1053) (tgt := 1092) hx hb dL_law_39 (by decide) (by decide) (by decide) (by decide) ?_
          exact law_c25 F9 hi (by omega) (by omega) back _ _ _ _ _ _ _ _ _ _ _ _ _ _ _ _ _ _ _ _ _ _ _ _ _ _ _ _ _ _ _ _ _ _ _ _ S M hP hD hS hl
        · refine lv_tableIn (off := 1094) (tgt := 1133) hx hb dL_law_39 (by decide) (by decide) (by decide) (by decide) ?_
          exact law_c26 F9 hi (by omega) (by omega) back _ _ _ _ _ _ _ _ _ _ _ _ _ _ _ _ _ _ _ _ _ _ _ _ _ _ _ _ _ _ _ _ _ _ _ _ S M hP hD hS hl
