/-! pure words, on: the looks of those hung anew, added -/
theorem fs_eq {p : Nat → Bool} {N j : Nat} (hj : j < N) (h1 : ∀ i, i < j → p i = false) (h2 : p j = true) : fs p N 0 = j := by
  have a := fs_le p N 0
  rcases Nat.lt_trichotomy (fs p N 0) j with h | h | h
  · have b := fs_yes p N 0 (by omega)
    rw [h1 _ h] at b
    exact absurd b (by decide)
  · exact h
  · have b := fs_no p N 0 j (Nat.zero_le j) h
    rw [h2] at b
    exact absurd b (by decide)
theorem fo_top {α : Type} (f : α → Nat → α) (n : Nat) (a : α) : fo f (n + 1) 0 a = f (fo f n 0 a) n := by
  rw [fo_app f n 1 0 a, Nat.zero_add]
  rfl
/-- a sum in which one place changes from 0 -/
theorem sum_put {h h' : Nat → Nat} {p v : Nat} (he : ∀ k, k ≠ p → h' k = h k) (h0 : h p = 0) (hv : h' p = v) : ∀ N, fo (fun a i => a + h' i) N 0 0 = fo (fun a i => a + h i) N 0 0 + (if p < N then v else 0)
  | 0 => by rw [if_neg (Nat.not_lt_zero p)]; rfl
  | N + 1 => by
    rw [fo_top, fo_top, sum_put he h0 hv N]
    by_cases e : N = p
    · subst e
      rw [hv, h0, if_neg (Nat.lt_irrefl _), if_pos (Nat.lt_succ_self _)]
    · rw [he N e]
      by_cases e2 : p < N
      · rw [if_pos e2, if_pos (by omega)]; omega
      · rw [if_neg e2, if_neg (by omega)]; omega
/-- the usher comes to the hook k for the number x at the step j -/
def rch (N w : Nat) (T : Nat → Int32) (x j : Nat) : Prop := j < N ∧ T (at_ N w x j) = nI x ∧ ∀ i, i < j → sp N w T x i = false
theorem rch_lk {N w : Nat} {T : Nat → Int32} {x j : Nat} (h : rch N w T x j) : lk N w T x = j + 1 := by
  obtain ⟨h1, h2, h3⟩ := h
  have e : fs (sp N w T x) N 0 = j := fs_eq h1 h3 (sp_t (Or.inl h2))
  unfold lk
  rw [e, if_pos h1]
def gd (N w : Nat) (T : Nat → Int32) : Prop := ∀ k, k < N → 0 ≤ T k → ∃ x j : Nat, x ≤ 9999 ∧ T k = nI x ∧ at_ N w x j = k ∧ rch N w T x j
theorem sp_put {N w : Nat} {T : Nat → Int32} {p y i : Nat} {v : Int32} (hp : T p = -1) (h : sp N w T y i = false) : sp N w (upd T p v) y i = false ∧ at_ N w y i ≠ p := by
  have h1 := of_decide_eq_false h
  have h2 : at_ N w y i ≠ p := fun e => h1 (Or.inr (by rw [e]; exact hp))
  refine ⟨decide_eq_false ?_, h2⟩
  rw [upd_ne h2]
  exact h1
theorem rch_put {N w : Nat} {T : Nat → Int32} {p y j : Nat} {v : Int32} (hp : T p = -1) (hy : y ≤ 9999) (h : rch N w T y j) : rch N w (upd T p v) y j := by
  obtain ⟨h1, h2, h3⟩ := h
  refine ⟨h1, ?_, fun i hi => (sp_put hp (h3 i hi)).1⟩
  rw [upd_ne]
  · exact h2
  · intro e
    rw [e, hp] at h2
    exact ne_m1 (by omega) h2.symm
theorem rch_new {N w : Nat} {T : Nat → Int32} {x : Nat} (hN : 0 < N) (hf : T (la N w T x) = -1) : rch N w (upd T (la N w T x) (nI x)) x (lk N w T x - 1) := by
  have a := fs_le (sp N w T x) N 0
  have b : ∀ i, i < lk N w T x - 1 → sp N w T x i = false := by
    intro i hi
    refine fs_no (sp N w T x) N 0 i (Nat.zero_le i) ?_
    unfold lk at hi
    split at hi <;> omega
  refine ⟨by have := lk_le N w T x; omega, ?_, fun i hi => (sp_put hf (b i hi)).1⟩
  show upd T (la N w T x) (nI x) (la N w T x) = nI x
  exact upd_same
theorem gd_put {N w : Nat} {T : Nat → Int32} {x : Nat} (hN : 0 < N) (hx : x ≤ 9999) (hf : T (la N w T x) = -1) (h : gd N w T) : gd N w (upd T (la N w T x) (nI x)) := by
  intro k hk h0
  by_cases e : k = la N w T x
  · subst e
    exact ⟨x, lk N w T x - 1, hx, upd_same, rfl, rch_new hN hf⟩
  · rw [upd_ne e] at h0 ⊢
    obtain ⟨y, j, hy, h1, h2, h3⟩ := h k hk h0
    exact ⟨y, j, hy, h1, h2, rch_put hf hy h3⟩
theorem lx_of {N w : Nat} {T : Nat → Int32} {k x j : Nat} (hx : x ≤ 9999) (h1 : T k = nI x) (h : rch N w T x j) : lx N w T k = j + 1 := by
  rw [lx_p (x := x) (by rw [h1]; exact nI_pos' (by omega)) (by rw [h1]; exact nI_clamp (by omega))]
  exact rch_lk h
theorem sm_put {N w : Nat} {T : Nat → Int32} {x : Nat} (hN : 0 < N) (hx : x ≤ 9999) (hf : T (la N w T x) = -1) (h : gd N w T) : sm N w (upd T (la N w T x) (nI x)) = sm N w T + lk N w T x := by
  have hp := la_lt hN w T x
  have key := sum_put (h := fun k => if k < N then lx N w T k else 0) (h' := fun k => if k < N then lx N w (upd T (la N w T x) (nI x)) k else 0) (p := la N w T x) (v := lk N w T x) (fun k hk => ?_) ?_ ?_ N
  · have e : ∀ T', fo (fun a i => a + (if i < N then lx N w T' i else 0)) N 0 0 = sm N w T' := fun T' => fo_cong N 0 0 (fun a j _ hj => by rw [if_pos (by omega)])
    rw [e, e, if_pos hp] at key
    exact key
  · show (if k < N then _ else 0) = (if k < N then _ else 0)
    by_cases hkN : k < N
    · rw [if_pos hkN, if_pos hkN]
      by_cases h0 : 0 ≤ T k
      · obtain ⟨y, j, hy, h1, h2, h3⟩ := h k hkN h0
        rw [lx_of hy h1 h3, lx_of hy (by rw [upd_ne hk]; exact h1) (rch_put hf hy h3)]
      · rw [lx_0 h0, lx_0 (by rw [upd_ne hk]; exact h0)]
    · rw [if_neg hkN, if_neg hkN]
  · show (if la N w T x < N then _ else 0) = 0
    rw [if_pos hp]
    exact lx_0 (by rw [hf]; decide)
  · show (if la N w T x < N then _ else 0) = _
    rw [if_pos hp, lx_of hx upd_same (rch_new hN hf)]
    have := lk_pos hN w T x
    omega
theorem hg_sum {n N w : Nat} {f g : Nat → Int32} (hN : 0 < N) (hO : Ok n f g) : ∀ (q i s : Nat) (T U T2 U2 : Nat → Int32) (z : Nat), i + q = n → gd N w T → sm N w T = s → hg N w f g q i T U s = some (T2, U2, z) → gd N w T2 ∧ sm N w T2 = z
  | 0, i, s, T, U, T2, U2, z, h1, h2, h3, h4 => by
    rw [hg] at h4
    injection h4 with h4
    injection h4 with e1 e2
    injection e2 with e2 e3
    rw [← e1, ← e3]
    exact ⟨h2, h3⟩
  | q + 1, i, s, T, U, T2, U2, z, h1, h2, h3, h4 => by
    by_cases h0 : 0 ≤ f i
    · obtain ⟨x, hx, ex, ez⟩ := hO.num (k := i) (by omega) h0
      by_cases hf : T (la N w T x) = -1
      · refine hg_sum hN hO q (i + 1) _ _ _ T2 U2 z (by omega) (gd_put hN hx hf h2) ?_ (hg_y h0 ex ez hf h4)
        rw [sm_put hN hx hf h2, h3]
      · exact absurd (hg_no h0 ez hf h4) (by intro h; cases h)
    · exact hg_sum hN hO q (i + 1) s T U T2 U2 z (by omega) h2 h3 (hg_n h0 h4)
theorem sm_free {N w : Nat} : ∀ {M : Nat}, fo (fun a i => a + lx N w (fun _ => -1) i) M 0 0 = 0
  | 0 => rfl
  | M + 1 => by rw [fo_top, sm_free, lx_0 (by decide)]
theorem HG_sum {n N w : Nat} {f g T U : Nat → Int32} {z : Nat} (hN : 0 < N) (hO : Ok n f g) (h : HG n f g N w = some (T, U, z)) : sm N w T = z :=
  (hg_sum hN hO n 0 0 _ _ T U z (Nat.zero_add n) (fun k _ h0 => absurd h0 (by decide)) sm_free h).2
theorem LW_some {n N w : Nat} {f g T U : Nat → Int32} {z : Nat} (h : HG n f g N w = some (T, U, z)) : LW n f g N w = nI z := by rw [LW, h]
theorem LW_none {n N w : Nat} {f g : Nat → Int32} (h : HG n f g N w = none) : LW n f g N w = -1 := by rw [LW, h]
theorem sm_le {n w : Nat} {f : Nat → Int32} : ∀ M, fo (fun a i => a + lx n w f i) M 0 0 ≤ M * n
  | 0 => by rw [Nat.zero_mul]; exact Nat.le_refl 0
  | M + 1 => by
    rw [fo_top, Nat.succ_mul]
    exact Nat.add_le_add (sm_le M) (lx_le n w f M)
theorem LW_cases {n N w : Nat} {f g : Nat → Int32} (hN : 0 < N) (hN40 : N ≤ 40) (hO : Ok n f g) : (LW n f g N w = -1 ∧ HG n f g N w = none) ∨ ∃ T U z, z ≤ 1600 ∧ HG n f g N w = some (T, U, z) ∧ LW n f g N w = nI z := by
  cases h : HG n f g N w with
  | none => exact Or.inl ⟨LW_none h, rfl⟩
  | some v =>
    obtain ⟨T, U, z⟩ := v
    refine Or.inr ⟨T, U, z, ?_, rfl, LW_some h⟩
    rw [← HG_sum hN hO h]
    exact Nat.le_trans (sm_le N) (Nat.le_trans (Nat.mul_le_mul hN40 hN40) (by decide))
theorem ct_le (n : Nat) (f : Nat → Int32) (v : Int32) : ∀ M, fo (fun a i => if st (f i) = v then a + 1 else a) M 0 0 ≤ M
  | 0 => Nat.le_refl 0
  | M + 1 => by
    have ih := ct_le n f v M
    rw [fo_top]
    split <;> omega
/-- sweeping, whole -/
def swp (n : Nat) (f : Nat → Int32) : (Nat → Int32) × Nat := if ct n f (nI 2) = n then (fun _ => -1, n) else sw n (2 * n) f 0
theorem ct_all {f : Nat → Int32} {v : Int32} : ∀ M, fo (fun a i => if st (f i) = v then a + 1 else a) M 0 0 = M → ∀ k, k < M → st (f k) = v
  | 0, _, k, hk => absurd hk (Nat.not_lt_zero k)
  | M + 1, h, k, hk => by
    rw [fo_top] at h
    have ih := ct_le 0 f v M
    by_cases e : st (f M) = v
    · rw [if_pos e] at h
      by_cases e2 : k = M
      · rw [e2]; exact e
      · exact ct_all M (by omega) k (by omega)
    · rw [if_neg e] at h
      omega
theorem st_2 {x : Int32} (h : st x = nI 2) : x = -2 := by
  unfold st at h
  split at h
  · exact absurd h (by decide)
  · split at h
    · assumption
    · exact absurd h (by decide)
theorem RS.all {n w : Nat} {F G f g F3 G3 : Nat → Int32} (S : RS n w F G f g) (h : ct n f (nI 2) = n) (hF : ∀ k, k < 40 → F3 k = -1) (hG : ∀ k, k < 40 → G3 k = nI 0) : RS n w F3 G3 (fun _ => -1) g := by
  obtain ⟨a1, a2, a3, h1, h2, hO⟩ := S
  have hg : ∀ k, k < n → g k = nI 0 := fun k hk => (hO.neg hk (by rw [st_2 (ct_all n h k hk)]; decide)).2
  exact ⟨a1, a2, a3, fun k hk => hF k (by omega), fun k hk => (hG k (by omega)).trans (hg k hk).symm, fun k hk => Or.inl ⟨rfl, hg k hk⟩⟩
theorem fd_cases {n w : Nat} {f : Nat → Int32} {x : Nat} (hn : 0 < n) (hn40 : n ≤ 40) (h : ¬ fd n w f x = -1) : fd n w f x = nI (la n w f x) ∧ f (la n w f x) = nI x := by
  unfold fd at h ⊢
  by_cases e : f (la n w f x) = nI x
  · rw [if_pos e]; exact ⟨rfl, e⟩
  · rw [if_neg e] at h; exact absurd rfl h
theorem tk_cases {n w : Nat} {f : Nat → Int32} {x : Nat} (hn : 0 < n) : ∀ k, tk n w f x k = -1 ∨ ∃ p, p < n ∧ tk n w f x k = nI p ∧ f p = -2
  | 0 => Or.inl rfl
  | k + 1 => by
    rw [tk]
    split
    · rename_i h
      exact Or.inr ⟨_, at_lt hn w x k, rfl, h.2⟩
    · exact tk_cases hn k
theorem op_cases {n w : Nat} {f : Nat → Int32} {x : Nat} (hn : 0 < n) (h : ¬ op n w f x = -1) : ∃ p, p < n ∧ op n w f x = nI p ∧ ¬ 0 ≤ f p := by
  unfold op at h ⊢
  by_cases e : tk n w f x (lk n w f x) = -1
  · rw [if_pos e] at h ⊢
    unfold fr at h ⊢
    by_cases e2 : f (la n w f x) = -1
    · rw [if_pos e2]; exact ⟨_, la_lt hn w f x, rfl, by rw [e2]; decide⟩
    · rw [if_neg e2] at h; exact absurd rfl h
  · rw [if_neg e] at h ⊢
    rcases tk_cases (w := w) (f := f) (x := x) hn (lk n w f x) with h1 | ⟨p, hp, h1, h2⟩
    · exact absurd h1 e
    · exact ⟨p, hp, h1, by rw [h2]; decide⟩
theorem pl_cases {n w : Nat} {f : Nat → Int32} {x : Nat} (hn : 0 < n) (h : ¬ pl n w f x = -1) : ∃ p, p < n ∧ pl n w f x = nI p := by
  unfold pl at h ⊢
  by_cases e : hs n f x = 0
  · rw [if_pos e] at h ⊢
    obtain ⟨p, hp, h1, -⟩ := op_cases hn h
    exact ⟨p, hp, h1⟩
  · rw [if_neg e] at h; exact absurd rfl h
theorem fh_y {n w : Nat} {f g : Nat → Int32} {v q i : Nat} (h2 : fs (hwS n w f g v) (q + 1) i = fs (hwS n w f g v) 38 3) (h : 0 ≤ LW n f g i w ∧ LW n f g i w ≤ nI v) (hi : i < 41) : nI i = fh n w f g v := by
  rw [fs_y (decide_eq_true h)] at h2
  unfold fh
  rw [← h2, if_pos hi]
theorem fh_n {n w : Nat} {f g : Nat → Int32} {v q i K : Nat} (h2 : fs (hwS n w f g v) (q + 1) i = K) (h : ¬ (0 ≤ LW n f g i w ∧ LW n f g i w ≤ nI v)) : fs (hwS n w f g v) q (i + 1) = K := by
  rw [fs_n (decide_eq_false h)] at h2
  exact h2
theorem fh_z {n w : Nat} {f g : Nat → Int32} {v i : Nat} (h2 : fs (hwS n w f g v) 0 i = fs (hwS n w f g v) 38 3) (hi : i + 0 = 41) : -1 = fh n w f g v := by
  rw [fs_z] at h2
  unfold fh
  rw [← h2, if_neg (by omega)]
theorem to_F {F T : Nat → Int32} {i : Nat} {v d : Int32} (h : ∀ k, k < 40 → F k = if k < i then T k else d) (hv : v = T i) : ∀ k, k < 40 → upd F i v k = if k < i + 1 then T k else d := by
  intro k hk
  by_cases e : k = i
  · rw [e, upd_same, if_pos (Nat.lt_succ_self i)]; exact hv
  · rw [upd_ne e, h k hk]
    by_cases e2 : k < i
    · rw [if_pos e2, if_pos (by omega)]
    · rw [if_neg e2, if_neg (by omega)]
theorem to_n {F T : Nat → Int32} {i : Nat} {d : Int32} (h : ∀ k, k < 40 → F k = if k < i then T k else d) (hv : T i = d) : ∀ k, k < 40 → F k = if k < i + 1 then T k else d := by
  intro k hk
  rw [h k hk]
  by_cases e : k = i
  · rw [e, if_neg (Nat.lt_irrefl i), if_pos (Nat.lt_succ_self i)]; exact hv.symm
  · by_cases e2 : k < i
    · rw [if_pos e2, if_pos (by omega)]
    · rw [if_neg e2, if_neg (by omega)]
theorem nt_neg {N : Nat} {T U : Nat → Int32} (hO : Ok N T U) (hT : nt N T) {k : Nat} (hk : k < N) (h : ¬ 0 ≤ T k) : T k = -1 ∧ U k = nI 0 := by
  obtain ⟨h1, h2⟩ := hO.neg hk h
  exact ⟨h1.elim id (fun z => absurd z (hT k hk)), h2⟩
