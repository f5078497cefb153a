/-! no coat hangs twice, and stays so -/
theorem hs_0 {n x : Nat} {f : Nat → Int32} (h : hs n f x = 0) : ∀ k, k < n → ¬ f k = nI x := by
  intro k hk e
  have h1 := fs_le (fun i => decide (f i = nI x)) n 0
  unfold hs at h
  split at h
  · exact absurd h (by decide)
  · rename_i h2
    have h3 : ¬ f k = nI x := of_decide_eq_false (fs_no (fun i => decide (f i = nI x)) n 0 k (Nat.zero_le k) (by omega))
    exact h3 e
theorem pl_hs {n w x : Nat} {f : Nat → Int32} (h : ¬ pl n w f x = -1) : hs n f x = 0 := by
  unfold pl at h
  by_cases e : hs n f x = 0
  · exact e
  · rw [if_neg e] at h; exact absurd rfl h
theorem Ds_put {n p x : Nat} {f : Nat → Int32} (h : Ds n f) (hx : ∀ k, k < n → ¬ f k = nI x) : Ds n (upd f p (nI x)) := by
  intro i j hi hj h0 e
  by_cases ei : i = p
  · by_cases ej : j = p
    · rw [ei, ej]
    · rw [ei, upd_same, upd_ne ej] at e
      exact absurd e.symm (hx j hj)
  · by_cases ej : j = p
    · rw [ej, upd_same, upd_ne ei] at e
      exact absurd e (hx i hi)
    · rw [upd_ne ei] at h0 e
      rw [upd_ne ej] at e
      exact h i j hi hj h0 e
theorem Ds_neg {n p : Nat} {f : Nat → Int32} {v : Int32} (h : Ds n f) (hv : ¬ 0 ≤ v) : Ds n (upd f p v) := by
  intro i j hi hj h0 e
  by_cases ei : i = p
  · rw [ei, upd_same] at h0; exact absurd h0 hv
  · by_cases ej : j = p
    · rw [upd_ne ei] at h0 e
      rw [ej, upd_same] at e
      rw [e] at h0; exact absurd h0 hv
    · rw [upd_ne ei] at h0 e
      rw [upd_ne ej] at e
      exact h i j hi hj h0 e
theorem Ds_tick {n p : Nat} {f : Nat → Int32} (h : Ds n f) : Ds n (upd f p (-2)) := Ds_neg h (by decide)
theorem swp_coat {n k : Nat} {f : Nat → Int32} (hn : 0 < n) (hk : k < n) (h : 0 ≤ (swp n f).1 k) : (swp n f).1 k = f k := by
  rcases swp_fin hn f k hk with e | ⟨-, e⟩
  · by_cases c : ct n f (nI 2) = n
    · rw [sb_y c] at e; rw [e] at h; exact absurd h (show ¬ (0 : Int32) ≤ -1 by decide)
    · rw [sb_n c] at e; exact e
  · rw [e] at h; exact absurd h (by decide)
theorem swp_coat2 {n k : Nat} {f : Nat → Int32} (hn : 0 < n) (hk : k < n) (h : 0 ≤ f k) : (swp n f).1 k = f k := by
  by_cases c : ct n f (nI 2) = n
  · have e := st_2 (ct_all n c k hk)
    rw [e] at h; exact absurd h (by decide)
  · rcases swp_fin hn f k hk with e | ⟨e, -⟩
    · rw [sb_n c] at e; exact e
    · rw [sb_n c] at e; rw [e] at h; exact absurd h (by decide)
theorem Ds_swp {n : Nat} {f : Nat → Int32} (hn : 0 < n) (h : Ds n f) : Ds n (swp n f).1 := by
  intro i j hi hj h0 e
  have ei := swp_coat hn hi h0
  have ej := swp_coat hn hj (by rw [← e]; exact h0)
  rw [ei, ej] at e
  rw [ei] at h0
  exact h i j hi hj h0 e
theorem hg_ds {n N w : Nat} {f g : Nat → Int32} (hN : 0 < N) (hO : Ok n f g) (hd : Ds n f) : ∀ (q i s : Nat) (T U T2 U2 : Nat → Int32) (z : Nat), i + q = n → cmf i N f T → Ds N T → hg N w f g q i T U s = some (T2, U2, z) → cmf n N f T2 ∧ Ds N T2
  | 0, i, s, T, U, T2, U2, z, h1, h2, h3, h4 => by
    rw [hg] at h4
    injection h4 with h4
    injection h4 with e1 e2
    rw [← e1, show n = i by omega]
    exact ⟨h2, h3⟩
  | q + 1, i, s, T, U, T2, U2, z, h1, h2, h3, h4 => by
    by_cases h0 : 0 ≤ f i
    · obtain ⟨x, hx, ex, ez⟩ := hO.num (k := i) (by omega) h0
      by_cases hf : T (la N w T x) = -1
      · exact hg_ds hN hO hd q (i + 1) _ _ _ T2 U2 z (by omega) (cmf_put h2 ex.symm) (Ds_put h3 (hs_0 (cmf_hs hd (by omega) hx ex h2))) (hg_y h0 ex ez hf h4)
      · exact absurd (hg_no h0 ez hf h4) (by intro h; cases h)
    · exact hg_ds hN hO hd q (i + 1) s T U T2 U2 z (by omega) (cmf_s h2) h3 (hg_n h0 h4)
theorem Ds_free {n : Nat} : Ds n (fun _ => -1) := fun _ _ _ _ h _ => absurd h (show ¬ (0 : Int32) ≤ -1 by decide)
theorem HG_ds {n N w : Nat} {f g T U : Nat → Int32} {z : Nat} (hN : 0 < N) (hO : Ok n f g) (hd : Ds n f) (h : HG n f g N w = some (T, U, z)) : cmf n N f T ∧ Ds N T :=
  hg_ds hN hO hd n 0 0 _ _ T U z (Nat.zero_add n) cmf_0 Ds_free h
/-- the hooks hung anew, -1 behind them -/
def o4 (N : Nat) (T : Nat → Int32) : Nat → Int32 := fun k => if k < N then T k else -1
theorem o4_in {N k : Nat} {T : Nat → Int32} (h : k < N) : o4 N T k = T k := if_pos h
theorem o4_out {N k : Nat} {T : Nat → Int32} (h : N ≤ k) : o4 N T k = -1 := if_neg (Nat.not_lt.mpr h)
theorem mv_o4 {n N w : Nat} {f g T U : Nat → Int32} {z : Nat} (hn : n ≤ 40) (hN0 : 0 < N) (hN : N ≤ 40) (hO : Ok n f g) (h : HG n f g N w = some (T, U, z)) : mv n f (o4 N T) = cm n f N T :=
  mv_cm hn hN (fun k hk => o4_in hk) (fun k hk _ => o4_out hk) (HG_nc hN0 hO h)
theorem mv_a {n q i a : Nat} {f o : Nat → Int32} (h : ¬ 0 ≤ f i) (h2 : fo (fun a i => if 0 ≤ f i ∧ ¬ o i = f i then a + 1 else a) (q + 1) i a = mv n f o) : fo (fun a i => if 0 ≤ f i ∧ ¬ o i = f i then a + 1 else a) q (i + 1) (a + 0) = mv n f o := by
  rw [fo_s, if_neg (fun z => h z.1)] at h2; exact h2
theorem mv_b {n q i a : Nat} {f o : Nat → Int32} (h : o i = f i) (h2 : fo (fun a i => if 0 ≤ f i ∧ ¬ o i = f i then a + 1 else a) (q + 1) i a = mv n f o) : fo (fun a i => if 0 ≤ f i ∧ ¬ o i = f i then a + 1 else a) q (i + 1) (a + 0) = mv n f o := by
  rw [fo_s, if_neg (fun z => z.2 h)] at h2; exact h2
theorem mv_c {n q i a : Nat} {f o : Nat → Int32} (h0 : 0 ≤ f i) (h : ¬ o i = f i) (h2 : fo (fun a i => if 0 ≤ f i ∧ ¬ o i = f i then a + 1 else a) (q + 1) i a = mv n f o) : fo (fun a i => if 0 ≤ f i ∧ ¬ o i = f i then a + 1 else a) q (i + 1) (a + 1) = mv n f o := by
  rw [fo_s, if_pos ⟨h0, h⟩] at h2; exact h2
theorem mv_le {n : Nat} {f o : Nat → Int32} : mv n f o ≤ n := by
  have : ∀ M, fo (fun a i => if 0 ≤ f i ∧ ¬ o i = f i then a + 1 else a) M 0 0 ≤ M := by
    intro M
    induction M with
    | zero => exact Nat.le_refl 0
    | succ M ih => rw [fo_top]; split <;> omega
  exact this n
theorem cn_eq {x y : Int32} (h : 0 ≤ y) (e : cn x = cn y) : x = y := by
  rw [cn_id h] at e
  by_cases h0 : 0 ≤ x
  · rw [cn_id h0] at e; exact e
  · rw [cn_neg h0] at e; rw [← e] at h; exact absurd h (by decide)
theorem and_pos (v : Int32) : ∃ m : Nat, m < 2 ^ 31 ∧ v &&& 2147483647 = nI m := by
  have h1 : (v &&& 2147483647).toBitVec.toNat < 2 ^ 31 := by
    show (v.toBitVec &&& (2147483647 : Int32).toBitVec).toNat < 2 ^ 31
    rw [BitVec.toNat_and]
    exact Nat.lt_of_le_of_lt Nat.and_le_right (by decide)
  refine ⟨(v &&& 2147483647).toBitVec.toNat, h1, Int32.toInt_inj.mp ?_⟩
  rw [nI_toInt h1]
  show (v &&& 2147483647).toBitVec.toInt = _
  rw [BitVec.toInt_eq_toNat_of_lt (by omega)]
theorem fd_in {n w x : Nat} {f : Nat → Int32} (h : f (la n w f x) = nI x) : fd n w f x = nI (la n w f x) := if_pos h
theorem fd_m1 {n w x : Nat} {f : Nat → Int32} (hn : 0 < n) (hn40 : n ≤ 40) (h : fd n w f x < 0) : fd n w f x = -1 := by
  by_cases e : fd n w f x = -1
  · exact e
  · rw [(fd_cases hn hn40 e).1] at h
    exact absurd h (nI_pos (by have := la_lt hn w f x; omega))
theorem pl_m1 {n w x : Nat} {f : Nat → Int32} (hn : 0 < n) (hn40 : n ≤ 40) (h : pl n w f x < 0) : pl n w f x = -1 := by
  by_cases e : pl n w f x = -1
  · exact e
  · obtain ⟨p, hp, e2⟩ := pl_cases hn e
    rw [e2] at h
    exact absurd h (nI_pos (by omega))
theorem nlt_m1 {x : Int32} (h : ¬ x < 0) : ¬ x = -1 := fun e => by rw [e] at h; exact absurd h (by decide)
