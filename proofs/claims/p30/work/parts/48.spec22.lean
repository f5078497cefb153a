/-! pure words, on: what is counted by hand -/
theorem su_0 {h : Nat → Nat} : ∀ M, (∀ i, i < M → h i = 0) → su h M = 0
  | 0, _ => rfl
  | M + 1, hz => by rw [su_s, su_0 M (fun i hi => hz i (by omega)), hz M (by omega)]
theorem su_mem {h : Nat → Nat} {i : Nat} : ∀ M, i < M → h i ≤ su h M
  | 0, hi => absurd hi (Nat.not_lt_zero i)
  | M + 1, hi => by
    rw [su_s]
    by_cases e : i = M
    · rw [e]; omega
    · have := su_mem (h := h) M (show i < M by omega); omega
/-- hooks that are not free, behind one that is -/
def bs (n : Nat) (f : Nat → Int32) (i : Nat) : Nat := su (fun j => one (¬ f j = -1 ∧ f ((j + n - 1) % n) = -1)) i
theorem bs_a {n i : Nat} {f : Nat → Int32} (h : f i = -1) : bs n f i + 0 = bs n f (i + 1) := by
  unfold bs; rw [su_s, one_n (fun z => z.1 h)]
theorem bs_b {n i : Nat} {f : Nat → Int32} (h : ¬ f ((i + n - 1) % n) = -1) : bs n f i + 0 = bs n f (i + 1) := by
  unfold bs; rw [su_s, one_n (fun z => h z.2)]
theorem bs_c {n i : Nat} {f : Nat → Int32} (h1 : ¬ f i = -1) (h : f ((i + n - 1) % n) = -1) : bs n f i + 1 = bs n f (i + 1) := by
  unfold bs; rw [su_s, one_y ⟨h1, h⟩]
def al (f : Nat → Int32) : Nat → Nat
  | 0 => 1
  | i + 1 => if f i = -1 then 0 else al f i
theorem al_le (f : Nat → Int32) : ∀ i, al f i ≤ 1
  | 0 => Nat.le_refl 1
  | i + 1 => by rw [al]; split; omega; exact al_le f i
theorem al_y {f : Nat → Int32} : ∀ {i : Nat}, ¬ al f i = 0 → ∀ k, k < i → ¬ f k = -1
  | 0, _, k, hk => absurd hk (Nat.not_lt_zero k)
  | i + 1, h, k, hk => by
    rw [al] at h
    by_cases e : f i = -1
    · rw [if_pos e] at h; exact absurd rfl h
    · rw [if_neg e] at h
      by_cases e2 : k = i
      · rw [e2]; exact e
      · exact al_y h k (by omega)
theorem al_n {f : Nat → Int32} : ∀ {i : Nat}, al f i = 0 → ∃ k, k < i ∧ f k = -1
  | 0, h => absurd h (show ¬ 1 = 0 by decide)
  | i + 1, h => by
    rw [al] at h
    by_cases e : f i = -1
    · exact ⟨i, by omega, e⟩
    · rw [if_neg e] at h
      obtain ⟨k, hk, h2⟩ := al_n h
      exact ⟨k, by omega, h2⟩
theorem al_f {f : Nat → Int32} {i : Nat} (h : f i = -1) : nI (al f i) &&& nI 0 = nI (al f (i + 1)) := by
  rw [al, if_pos h]
  have := al_le f i
  rcases (show al f i = 0 ∨ al f i = 1 by omega) with e | e <;> rw [e] <;> decide
theorem al_t {f : Nat → Int32} {i : Nat} (h : ¬ f i = -1) : nI (al f i) &&& nI 1 = nI (al f (i + 1)) := by
  rw [al, if_neg h]
  have := al_le f i
  rcases (show al f i = 0 ∨ al f i = 1 by omega) with e | e <;> rw [e] <;> decide
theorem cw_su (n : Nat) (f : Nat → Int32) (v : Int32) : cw n f v = su (fun i => one (f i = v)) n := fo_su n
theorem cw_none {n : Nat} {f : Nat → Int32} {v : Int32} (h : ∀ k, k < n → ¬ f k = v) : cw n f v = 0 := by
  rw [cw_su]; exact su_0 n (fun i hi => one_n (h i hi))
theorem cw_some {n k : Nat} {f : Nat → Int32} {v : Int32} (hk : k < n) (h : f k = v) : ¬ cw n f v = 0 := by
  rw [cw_su]
  have e1 : one (f k = v) ≤ su (fun i => one (f i = v)) n := su_mem (h := fun i => one (f i = v)) n hk
  rw [one_y h] at e1
  omega
theorem rs_su (n : Nat) (f : Nat → Int32) : rs n f = su (fun i => one (f i = -1 ∧ ¬ f ((i + 1) % n) = -1)) n := fo_su n
theorem su_shift {h : Nat → Nat} {n : Nat} : ∀ m, m < n → su (fun j => h ((j + n - 1) % n)) (m + 1) = h (n - 1) + su h m
  | 0, hm => by
    rw [su_s]
    show 0 + h ((0 + n - 1) % n) = h (n - 1) + 0
    rw [show 0 + n - 1 = n - 1 by omega, Nat.mod_eq_of_lt (show n - 1 < n by omega)]
    omega
  | m + 1, hm => by
    rw [su_s, su_shift m (by omega), su_s]
    show h (n - 1) + su h m + h ((m + 1 + n - 1) % n) = _
    rw [show m + 1 + n - 1 = m + n by omega, Nat.add_mod_right, Nat.mod_eq_of_lt (show m < n by omega)]
    omega
theorem bs_rs {n : Nat} (hn : 0 < n) (f : Nat → Int32) : bs n f n = rs n f := by
  obtain ⟨m, rfl⟩ : ∃ m, n = m + 1 := ⟨n - 1, by omega⟩
  have e := su_shift (h := fun i => one (f i = -1 ∧ ¬ f ((i + 1) % (m + 1)) = -1)) (n := m + 1) m (by omega)
  rw [rs_su, su_s]
  show bs (m + 1) f (m + 1) = su (fun i => one (f i = -1 ∧ ¬ f ((i + 1) % (m + 1)) = -1)) m + one (f m = -1 ∧ ¬ f ((m + 1) % (m + 1)) = -1)
  have e2 : bs (m + 1) f (m + 1) = su (fun j => (fun i => one (f i = -1 ∧ ¬ f ((i + 1) % (m + 1)) = -1)) ((j + (m + 1) - 1) % (m + 1))) (m + 1) := by
    unfold bs
    refine su_ext (m + 1) (fun j hj => ?_)
    have e3 : ((j + (m + 1) - 1) % (m + 1) + 1) % (m + 1) = j := by
      rw [Nat.mod_add_mod, show j + (m + 1) - 1 + 1 = j + (m + 1) by omega, Nat.add_mod_right, Nat.mod_eq_of_lt hj]
    show one (¬ f j = -1 ∧ f ((j + (m + 1) - 1) % (m + 1)) = -1) = one (f ((j + (m + 1) - 1) % (m + 1)) = -1 ∧ ¬ f (((j + (m + 1) - 1) % (m + 1) + 1) % (m + 1)) = -1)
    rw [e3]
    by_cases a : f j = -1
    · rw [one_n (fun z => z.1 a), one_n (fun z => z.2 a)]
    · by_cases b : f ((j + (m + 1) - 1) % (m + 1)) = -1
      · rw [one_y ⟨a, b⟩, one_y ⟨b, a⟩]
      · rw [one_n (fun z => b z.2), one_n (fun z => b z.1)]
  rw [e2, e]
  show one (f (m + 1 - 1) = -1 ∧ ¬ f ((m + 1 - 1 + 1) % (m + 1)) = -1) + _ = _
  rw [Nat.add_sub_cancel, Nat.add_comm]
theorem rc_al {n : Nat} (hn : 0 < n) {f : Nat → Int32} (h : ¬ al f n = 0) : rc n f = 1 := rc_0 hn (cw_none (al_y h))
theorem rc_bs {n : Nat} (hn : 0 < n) {f : Nat → Int32} (h : al f n = 0) : rc n f = bs n f n := by
  obtain ⟨k, hk, e⟩ := al_n h
  rw [rc_1 hn (cw_some hk e), bs_rs hn]
theorem cn_c {y : Int32} (h3 : y = -1 ∨ y = -2 ∨ 0 ≤ y) (h1 : cn y < 0) (h2 : tz y = 0) : st y = nI 0 := by
  rcases h3 with h | h | h
  · rw [h]; decide
  · exact absurd h (tz_0 h2)
  · rw [cn_id h] at h1; exact absurd h1 (not_lt0 h)
theorem cn_d {y : Int32} (h : ¬ cn y < 0) : 0 ≤ y := cn_0 (ge0 h)
theorem dc_self {a : UInt64} (h : vf_n64 a) : FP.dcmp a a = some .eq := by
  refine FP.Core.dcmp_self (fun z => ?_)
  have h1 : FP.Core.dIsNaN a = true := decide_eq_true z
  have h2 := (FP.Core.isNaN_bits _).mp h1
  have h3 : a &&& 0x7fffffffffffffff ≤ 0x7ff0000000000000 := h
  rw [UInt64.le_iff_toNat_le, FP.Core.mask_toNat] at h3
  have h4 : a.toNat % 2 ^ 63 ≤ 9218868437227405312 := h3
  omega
theorem ml_c0 {n w : Nat} {f : Nat → Int32} (h : ct n f (nI 1) = 0) : Op.cmpValue (FP.dcmp (ml n w f) 0) .l = nI 0 := by
  have e : ml n w f = 0 := if_pos h
  rw [e, dc_self (show vf_n64 0 by unfold vf_n64; decide)]
  rfl
theorem ml_c1 {n w : Nat} {f : Nat → Int32} (hnn : NN) (hn : n ≤ 40) (h : ¬ ct n f (nI 1) = 0) : Op.cmpValue (FP.dcmp (ml n w f) (FP.ddiv (FP.i2d (nI (sm n w f))) (FP.i2d (nI (ct n f (nI 1)))))) .l = nI 0 := by
  have e : ml n w f = FP.ddiv (FP.i2d (nI (sm n w f))) (FP.i2d (nI (ct n f (nI 1)))) := if_neg h
  have h1 := ct_le n f (nI 1) n
  have h1 : ct n f (nI 1) ≤ n := h1
  rw [e, dc_self (hnn _ _ (nI_ne0 (Nat.pos_of_ne_zero h) (by omega)))]
  rfl
theorem pl_hung {n w x k : Nat} {f : Nat → Int32} (hk : k < n) (h : f k = nI x) : pl n w f x = -1 := by
  refine if_neg (fun z => ?_)
  unfold hs at z
  split at z
  · exact absurd z (by decide)
  · rename_i h1
    refine h1 ?_
    have h2 := fs_le (fun i => decide (f i = nI x)) n 0
    by_cases e : fs (fun i => decide (f i = nI x)) n 0 < n
    · exact e
    · have h3 : ¬ f k = nI x := of_decide_eq_false (fs_no (fun i => decide (f i = nI x)) n 0 k (Nat.zero_le k) (by omega))
      exact absurd h h3
