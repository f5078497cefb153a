/-! pure words, on: what the law asks of a theatre -/
theorem rl_0 {n k : Nat} {f : Nat → Int32} (h : f k = -1) : rl n f k = 0 := if_pos h
theorem rl_p {n k : Nat} {f : Nat → Int32} (h : ¬ f k = -1) : 0 < rl n f k := by
  unfold rl
  rw [if_neg h]
  have h1 := fw_le n f (n - 1) 1 (bh n k)
  have h2 := bw_le n f (n - fw n f (n - 1) 1 (bh n k)) (fw n f (n - 1) 1 (bh n k)) (bf n k)
  omega
theorem fo_max {h : Nat → Nat} {k : Nat} : ∀ M, k < M → h k ≤ fo (fun a i => if a < h i then h i else a) M 0 0
  | 0, hk => absurd hk (Nat.not_lt_zero k)
  | M + 1, hk => by
    rw [fo_top]
    by_cases e : k = M
    · rw [← e]; split <;> omega
    · have := fo_max (h := h) M (show k < M by omega)
      split <;> omega
theorem lr_ge {n k : Nat} {f : Nat → Int32} (hk : k < n) : rl n f k ≤ lr n f := fo_max (h := fun i => rl n f i) n hk
theorem lr_le {n : Nat} (hn : 0 < n) {f : Nat → Int32} : lr n f ≤ n := by
  have : ∀ M, fo (fun a i => if a < rl n f i then rl n f i else a) M 0 0 ≤ n := by
    intro M
    induction M with
    | zero => exact Nat.zero_le n
    | succ M ih => rw [fo_top]; have := rl_le hn f M; split <;> omega
  exact this n
theorem ct3 (n : Nat) (f : Nat → Int32) : ct n f (nI 0) + ct n f (nI 1) + ct n f (nI 2) = n := by
  have : ∀ M, fo (fun a i => if st (f i) = nI 0 then a + 1 else a) M 0 0 + fo (fun a i => if st (f i) = nI 1 then a + 1 else a) M 0 0 + fo (fun a i => if st (f i) = nI 2 then a + 1 else a) M 0 0 = M := by
    intro M
    induction M with
    | zero => rfl
    | succ M ih =>
      rw [fo_top, fo_top, fo_top]
      have h3 : st (f M) = nI 0 ∨ st (f M) = nI 1 ∨ st (f M) = nI 2 := by
        unfold st
        split
        · exact Or.inl rfl
        · split
          · exact Or.inr (Or.inr rfl)
          · exact Or.inr (Or.inl rfl)
      rcases h3 with e | e | e
      · rw [e, if_pos rfl, if_neg (by decide), if_neg (by decide)]; omega
      · rw [e, if_neg (by decide), if_pos rfl, if_neg (by decide)]; omega
      · rw [e, if_neg (by decide), if_neg (by decide), if_pos rfl]; omega
  exact this n
theorem ct_su (n : Nat) (f : Nat → Int32) (v : Int32) : ct n f v = su (fun i => one (st (f i) = v)) n := fo_su n
theorem ct_pos {n k : Nat} {f : Nat → Int32} {v : Int32} (hk : k < n) (h : st (f k) = v) : 0 < ct n f v := by
  rw [ct_su]
  have e1 : one (st (f k) = v) ≤ su (fun i => one (st (f i) = v)) n := su_mem (h := fun i => one (st (f i) = v)) n hk
  rw [one_y h] at e1
  omega
theorem su_le {a b : Nat → Nat} : ∀ M, (∀ i, i < M → a i ≤ b i) → su a M ≤ su b M
  | 0, _ => Nat.le_refl _
  | M + 1, h => by
    rw [su_s, su_s]
    have := su_le M (fun i hi => h i (by omega))
    have := h M (by omega)
    omega
theorem su_n : ∀ M, su (fun _ => 1) M = M
  | 0 => rfl
  | M + 1 => by rw [su_s, su_n M]
theorem one_le {P : Prop} [Decidable P] : one P ≤ 1 := by unfold one; split <;> omega
theorem ct_n {n : Nat} {f : Nat → Int32} {v : Int32} (h : ∀ k, k < n → st (f k) = v) : ct n f v = n := by
  rw [ct_su, su_ext n (b := fun _ => 1) (fun i hi => one_y (h i hi)), su_n]
theorem st_0 {x : Int32} (h : st x = nI 0) : x = -1 := by
  by_cases e : x = -1
  · exact e
  · unfold st at h
    rw [if_neg e] at h
    split at h
    · exact absurd h (by decide)
    · exact absurd h (by decide)
/-- the usher who looks farthest, so far -/
def FAI (n w : Nat) (f : Nat → Int32) (i : Nat) (af : Int32) (m : Nat) : Prop := (af = -1 ∧ m = 0 ∧ ∀ k, k < i → ¬ 0 ≤ f k) ∨ ∃ x k : Nat, x ≤ 9999 ∧ k < n ∧ f k = nI x ∧ af = nI x ∧ m = lk n w f x
theorem FAI_0 {n w : Nat} {f : Nat → Int32} : FAI n w f 0 (-1) 0 := Or.inl ⟨rfl, rfl, fun k hk => absurd hk (Nat.not_lt_zero k)⟩
theorem FAI_n {n w i m : Nat} {f : Nat → Int32} {af : Int32} (h : FAI n w f i af m) (h0 : ¬ 0 ≤ f i) : FAI n w f (i + 1) af m := by
  rcases h with ⟨h1, h2, h3⟩ | h
  · refine Or.inl ⟨h1, h2, fun k hk => ?_⟩
    by_cases e : k = i
    · rw [e]; exact h0
    · exact h3 k (by omega)
  · exact Or.inr h
theorem FAI_y {n w i m x : Nat} {f : Nat → Int32} {af : Int32} (hn : 0 < n) (h : FAI n w f i af m) (hi : i < n) (hx : x ≤ 9999) (ex : f i = nI x) : FAI n w f (i + 1) (if m < lk n w f x then nI x else af) (if m < lk n w f x then lk n w f x else m) := by
  by_cases c : m < lk n w f x
  · rw [if_pos c, if_pos c]; exact Or.inr ⟨x, i, hx, hi, ex, rfl, rfl⟩
  · rw [if_neg c, if_neg c]
    rcases h with ⟨-, h2, -⟩ | h
    · have := lk_pos hn w f x; omega
    · exact Or.inr h
theorem FAI_le {n w i m : Nat} {f : Nat → Int32} {af : Int32} (h : FAI n w f i af m) : m ≤ n := by
  rcases h with ⟨-, h2, -⟩ | ⟨x, k, -, -, -, -, h2⟩
  · omega
  · rw [h2]; exact lk_le n w f x
theorem fa_step {n w q i m x : Nat} {f : Nat → Int32} {af : Int32} {K : Int32 × Nat} (hx : lx n w f i = lk n w f x) (ex : f i = nI x) (h : fo (fun (a : Int32 × Nat) i => if a.2 < lx n w f i then (f i, lx n w f i) else a) (q + 1) i (af, m) = K) :
    fo (fun (a : Int32 × Nat) i => if a.2 < lx n w f i then (f i, lx n w f i) else a) q (i + 1) ((if m < lk n w f x then nI x else af), (if m < lk n w f x then lk n w f x else m)) = K := by
  rw [fo_s, hx] at h
  by_cases c : m < lk n w f x
  · rw [if_pos c, if_pos c]
    rw [if_pos c, ex] at h
    exact h
  · rw [if_neg c, if_neg c]
    rw [if_neg c] at h
    exact h
theorem fa_skip {n w q i m : Nat} {f : Nat → Int32} {af : Int32} {K : Int32 × Nat} (h0 : ¬ 0 ≤ f i) (h : fo (fun (a : Int32 × Nat) i => if a.2 < lx n w f i then (f i, lx n w f i) else a) (q + 1) i (af, m) = K) :
    fo (fun (a : Int32 × Nat) i => if a.2 < lx n w f i then (f i, lx n w f i) else a) q (i + 1) (af, m) = K := by
  rw [fo_s, lx_0 h0, if_neg (Nat.not_lt_zero _)] at h
  exact h
theorem ct1_0 {n : Nat} {f g : Nat → Int32} (hO : Ok n f g) (h : ∀ k, k < n → ¬ 0 ≤ f k) : ct n f (nI 1) = 0 := ct_0 (fun k hk z => h k hk ((st_i1 hO hk).mp z))
theorem fa_pos {n w m : Nat} {f g : Nat → Int32} {af : Int32} (hO : Ok n f g) (h : FAI n w f n af m) (h1 : 0 < ct n f (nI 1)) : ∃ x : Nat, x ≤ 9999 ∧ af = nI x ∧ m = lk n w f x := by
  rcases h with ⟨-, -, h3⟩ | ⟨x, k, hx, -, -, h4, h5⟩
  · rw [ct1_0 hO h3] at h1; exact absurd h1 (Nat.lt_irrefl 0)
  · exact ⟨x, hx, h4, h5⟩
theorem fa_neg {n w m : Nat} {f g : Nat → Int32} {af : Int32} (hO : Ok n f g) (h : FAI n w f n af m) : af < 0 ↔ ct n f (nI 1) = 0 := by
  rcases h with ⟨h1, -, h3⟩ | ⟨x, k, hx, hk, ex, h4, -⟩
  · rw [h1]; exact ⟨fun _ => ct1_0 hO h3, fun _ => by decide⟩
  · rw [h4]
    refine ⟨fun z => absurd z (nI_pos (by omega)), fun z => ?_⟩
    have := ct_pos hk ((st_i1 hO hk).mpr (by rw [ex]; exact nI_pos' (by omega)))
    omega
theorem su_z {h : Nat → Nat} : ∀ M, su h M = 0 → ∀ i, i < M → h i = 0 := fun M e i hi => by
  have := su_mem (h := h) M hi
  omega
theorem rc_iff {n : Nat} (hn : 0 < n) {f : Nat → Int32} : rc n f = 0 ↔ ct n f (nI 0) = n := by
  constructor
  · intro h
    have ha : al f n = 0 := by
      by_cases e : al f n = 0
      · exact e
      · rw [rc_al hn e] at h; exact absurd h (by decide)
    obtain ⟨k, hk, ek⟩ := al_n ha
    rw [rc_bs hn ha] at h
    have hz : ∀ j, j < n → f ((j + n - 1) % n) = -1 → f j = -1 := fun j hj e => by
      have h1 : one (¬ f j = -1 ∧ f ((j + n - 1) % n) = -1) = 0 := su_z n h j hj
      by_cases c : f j = -1
      · exact c
      · rw [one_y ⟨c, e⟩] at h1; exact absurd h1 (by decide)
    have hs : ∀ d, f ((k + d) % n) = -1 := by
      intro d
      induction d with
      | zero => rw [Nat.add_zero, Nat.mod_eq_of_lt hk]; exact ek
      | succ d ih =>
        refine hz _ (Nat.mod_lt _ hn) ?_
        have e := bf_mod (q := k + (d + 1)) hn
        have e2 := bf_mod (q := (k + (d + 1)) % n) hn
        rw [Nat.mod_mod, e] at e2
        rw [← e2, show k + (d + 1) + n - 1 = k + d + n by omega, Nat.add_mod_right]
        exact ih
    refine ct_n (fun j hj => ?_)
    have := hs (j + n - k)
    rw [show k + (j + n - k) = j + n by omega, Nat.add_mod_right, Nat.mod_eq_of_lt hj] at this
    rw [this]; decide
  · intro h
    have hf : ∀ k, k < n → f k = -1 := fun k hk => st_0 (ct_all n h k hk)
    have ha : al f n = 0 := by
      by_cases e : al f n = 0
      · exact e
      · exact absurd (hf 0 hn) (al_y e 0 hn)
    rw [rc_bs hn ha]
    exact su_0 n (fun i hi => one_n (fun z => z.1 (hf i hi)))
/-- is the place met among the first looks: 1 or 0 -/
def mt (n w v : Nat) (P : Int32) : Nat → Nat
  | 0 => 0
  | k + 1 => if nI (at_ n w v k) = P then 1 else mt n w v P k
theorem mt_le (n w v : Nat) (P : Int32) : ∀ k, mt n w v P k ≤ 1
  | 0 => Nat.zero_le 1
  | k + 1 => by rw [mt]; split; omega; exact mt_le n w v P k
theorem mt_y {n w v k : Nat} {P : Int32} (h : nI (at_ n w v k) = P) : nI (mt n w v P k) ||| nI 1 = nI (mt n w v P (k + 1)) := by
  rw [mt, if_pos h]
  have := mt_le n w v P k
  rcases (show mt n w v P k = 0 ∨ mt n w v P k = 1 by omega) with e | e <;> rw [e] <;> decide
theorem mt_n {n w v k : Nat} {P : Int32} (h : ¬ nI (at_ n w v k) = P) : nI (mt n w v P k) ||| nI 0 = nI (mt n w v P (k + 1)) := by
  rw [mt, if_neg h]
  have := mt_le n w v P k
  rcases (show mt n w v P k = 0 ∨ mt n w v P k = 1 by omega) with e | e <;> rw [e] <;> decide
theorem mt_1 {n w v k : Nat} {P : Int32} (h : nI (at_ n w v k) = P) : ∀ K, k < K → mt n w v P K = 1
  | 0, hk => absurd hk (Nat.not_lt_zero k)
  | K + 1, hk => by
    rw [mt]
    by_cases c : nI (at_ n w v K) = P
    · rw [if_pos c]
    · rw [if_neg c]
      refine mt_1 h K ?_
      by_cases e : k = K
      · rw [e] at h; exact absurd h c
      · omega
theorem tk_at {n w x : Nat} {f : Nat → Int32} : ∀ K, tk n w f x K = -1 ∨ ∃ k, k < K ∧ tk n w f x K = nI (at_ n w x k) ∧ f (at_ n w x k) = -2
  | 0 => Or.inl rfl
  | K + 1 => by
    by_cases c : tk n w f x K = -1 ∧ f (at_ n w x K) = -2
    · exact Or.inr ⟨K, by omega, by rw [tk, if_pos c], c.2⟩
    · rcases tk_at (f := f) (n := n) (w := w) (x := x) K with h | ⟨k, hk, h1, h2⟩
      · exact Or.inl (by rw [tk, if_neg c]; exact h)
      · exact Or.inr ⟨k, by omega, by rw [tk, if_neg c]; exact h1, h2⟩
theorem pl_at {n w x : Nat} {f : Nat → Int32} (hn : 0 < n) (h : ¬ pl n w f x = -1) : ∃ k, k < lk n w f x ∧ pl n w f x = nI (at_ n w x k) ∧ ¬ 0 ≤ f (at_ n w x k) := by
  have e := pl_op (w := w) (pl_hs h)
  rw [e] at h ⊢
  rcases tk_at (f := f) (n := n) (w := w) (x := x) (lk n w f x) with h1 | ⟨k, hk, h1, h2⟩
  · have e2 : op n w f x = fr n w f x := if_pos h1
    rw [e2] at h ⊢
    obtain ⟨h3, h4⟩ := fr_cases h
    exact ⟨lk n w f x - 1, by have := lk_pos hn w f x; omega, h4, by show ¬ 0 ≤ f (la n w f x); rw [h3]; decide⟩
  · by_cases c : tk n w f x (lk n w f x) = -1
    · have e2 : op n w f x = fr n w f x := if_pos c
      rw [e2] at h ⊢
      obtain ⟨h3, h4⟩ := fr_cases h
      exact ⟨lk n w f x - 1, by have := lk_pos hn w f x; omega, h4, by show ¬ 0 ≤ f (la n w f x); rw [h3]; decide⟩
    · exact ⟨k, hk, by rw [show op n w f x = tk n w f x (lk n w f x) from if_neg c]; exact h1, by rw [h2]; decide⟩
theorem la_free {n w x : Nat} {f : Nat → Int32} (h : lk n w f x < n) (h2 : fd n w f x = -1) (hn40 : n ≤ 40) : f (la n w f x) = -1 := by
  have h0 : ¬ f (la n w f x) = nI x := fun e => by
    rw [fd_in e] at h2
    exact ne_m1 (by have := la_lt (show 0 < n by omega) w f x; omega) h2
  by_cases c : fs (sp n w f x) n 0 < n
  · have h3 := of_decide_eq_true (fs_yes (sp n w f x) n 0 (by omega))
    have e : lk n w f x - 1 = fs (sp n w f x) n 0 := by
      unfold lk; rw [if_pos c]; omega
    rw [← e] at h3
    rcases h3 with h3 | h3
    · exact absurd h3 h0
    · exact h3
  · unfold lk at h
    rw [if_neg c] at h
    omega
theorem la_eq {n w x k : Nat} {f : Nat → Int32} (hn : 0 < n) (hd : Ds n f) (hk : k < n) (hx : x ≤ 9999) (ex : f k = nI x) (h : f (la n w f x) = nI x) : la n w f x = k :=
  hd _ _ (la_lt hn w f x) hk (by rw [h]; exact nI_pos' (by omega)) (by rw [h, ex])
/-- those hung anew -/
theorem nc_ct {n : Nat} {f g : Nat → Int32} (hO : Ok n f g) : nc n f = ct n f (nI 1) := by
  rw [← mn_ct hO]
  exact (fo_su n).symm
theorem LW_ge {n N w : Nat} {f g : Nat → Int32} (hN : 0 < N) (hN40 : N ≤ 40) (hO : Ok n f g) (h : 0 ≤ LW n f g N w) : ∃ z : Nat, LW n f g N w = nI z ∧ z ≤ 1600 ∧ ct n f (nI 1) ≤ z ∧ ct n f (nI 1) ≤ N := by
  rcases LW_cases hN hN40 hO (w := w) with ⟨h1, -⟩ | ⟨T, U, z, hz, hHG, e⟩
  · rw [h1] at h; exact absurd h (by decide)
  · refine ⟨z, e, hz, ?_, ?_⟩
    · rw [← nc_ct hO, ← HG_nc hN hO hHG, ← HG_sum hN hO hHG]
      have hT := HG_ok hN hO hHG
      show su (fun i => one (0 ≤ T i)) N ≤ su (fun i => lx N w T i) N
      refine su_le N (fun i hi => ?_)
      by_cases c : 0 ≤ T i
      · rw [one_y c]
        unfold lx; rw [if_pos c]
        exact lk_pos hN w T _
      · rw [one_n c]; exact Nat.zero_le _
    · rw [← nc_ct hO, ← HG_nc hN hO hHG]
      have : su (fun i => one (0 ≤ T i)) N ≤ su (fun _ => 1) N := su_le N (fun i _ => one_le)
      rw [su_n] at this
      exact this
def bstf (L : Nat → Int32) : Int32 × Int32 → Nat → Int32 × Int32 := fun a i => if 0 ≤ L i ∧ (a.1 = -1 ∨ L i < a.2) then (nI i, L i) else a
theorem le_rf (x : Int32) : x ≤ x := Int32.le_iff_toInt_le.mpr (Int.le_refl _)
theorem bst_inv {L : Nat → Int32} : ∀ M, M ≤ 40 → ((fo (bstf L) M 0 (-1, nI 0)).1 = -1 ∧ ∀ j, j < M → ¬ 0 ≤ L j) ∨ ∃ k, k < M ∧ fo (bstf L) M 0 (-1, nI 0) = (nI k, L k) ∧ 0 ≤ L k ∧ ∀ j, j < M → 0 ≤ L j → L k ≤ L j ∧ (L k = L j → k ≤ j)
  | 0, _ => Or.inl ⟨rfl, fun j hj => absurd hj (Nat.not_lt_zero j)⟩
  | M + 1, hM => by
    rw [fo_top]
    rcases bst_inv (L := L) M (by omega) with ⟨h1, h2⟩ | ⟨k, hk, h1, h2, h3⟩
    · generalize fo (bstf L) M 0 (-1, nI 0) = a at h1
      unfold bstf
      by_cases c : 0 ≤ L M
      · rw [if_pos ⟨c, Or.inl h1⟩]
        refine Or.inr ⟨M, by omega, rfl, c, fun j hj h0 => ?_⟩
        by_cases e : j = M
        · rw [e]; exact ⟨le_rf _, fun _ => Nat.le_refl _⟩
        · exact absurd h0 (h2 j (by omega))
      · rw [if_neg (fun z => c z.1)]
        refine Or.inl ⟨h1, fun j hj => ?_⟩
        by_cases e : j = M
        · rw [e]; exact c
        · exact h2 j (by omega)
    · have hk9 : ¬ nI k = -1 := ne_m1 (by omega)
      rw [h1]
      unfold bstf
      by_cases c : 0 ≤ L M ∧ L M < L k
      · rw [if_pos ⟨c.1, Or.inr c.2⟩]
        refine Or.inr ⟨M, by omega, rfl, c.1, fun j hj h0 => ?_⟩
        by_cases e : j = M
        · rw [e]; exact ⟨le_rf _, fun _ => Nat.le_refl _⟩
        · have h4 := (h3 j (by omega) h0).1
          have c2 := c.2
          rw [Int32.lt_iff_toInt_lt] at c2
          rw [Int32.le_iff_toInt_le] at h4
          refine ⟨Int32.le_iff_toInt_le.mpr (by omega), fun e2 => ?_⟩
          rw [e2] at c2
          omega
      · rw [if_neg (fun z => z.2.elim hk9 (fun y => c ⟨z.1, y⟩))]
        refine Or.inr ⟨k, by omega, rfl, h2, fun j hj h0 => ?_⟩
        by_cases e : j = M
        · rw [e] at h0 ⊢
          refine ⟨Int32.le_iff_toInt_le.mpr ?_, fun _ => by omega⟩
          have c2 : ¬ L M < L k := fun y => c ⟨h0, y⟩
          rw [Int32.lt_iff_toInt_lt] at c2
          omega
        · exact h3 j (by omega) h0
theorem bst_ok {n w1 : Nat} {f g : Nat → Int32} (hw : w1 ≤ 2) (h : 0 ≤ LW n f g n w1) : ∃ k, k ≤ 2 ∧ (bst n f g).1 = nI k ∧ 0 ≤ LW n f g n k ∧ LW n f g n k ≤ LW n f g n w1 ∧ (LW n f g n k = LW n f g n w1 → k ≤ w1) := by
  rcases bst_inv (L := fun i => LW n f g n i) 3 (by decide) with ⟨-, h2⟩ | ⟨k, hk, h1, h2, h3⟩
  · exact absurd h (h2 w1 (by omega))
  · have h4 := h3 w1 (by omega) h
    exact ⟨k, by omega, congrArg Prod.fst h1, h2, h4.1, h4.2⟩
theorem fh_ok {n w v : Nat} {f g : Nat → Int32} (h : ¬ fh n w f g v < 0) : ∃ k, 3 ≤ k ∧ k ≤ 40 ∧ fh n w f g v = nI k ∧ 0 ≤ LW n f g k w ∧ LW n f g k w ≤ nI v ∧ (3 < k → ¬ (0 ≤ LW n f g (k - 1) w ∧ LW n f g (k - 1) w ≤ nI v)) := by
  unfold fh at h ⊢
  by_cases c : fs (hwS n w f g v) 38 3 < 41
  · rw [if_pos c]
    have h1 := fs_ge (hwS n w f g v) 38 3
    have h2 := of_decide_eq_true (fs_yes (hwS n w f g v) 38 3 (by omega))
    refine ⟨_, h1, by omega, rfl, h2.1, h2.2, fun h3 => ?_⟩
    exact of_decide_eq_false (fs_no (hwS n w f g v) 38 3 (fs (hwS n w f g v) 38 3 - 1) (by omega) (by omega))
  · rw [if_neg c] at h
    exact absurd (show (-1 : Int32) < 0 by decide) h
/-- behind the sweeping, and behind the hanging anew -/
theorem ct_iff {n : Nat} {v : Int32} {f f2 : Nat → Int32} (h : ∀ k, k < n → (st (f k) = v ↔ st (f2 k) = v)) : ct n f v = ct n f2 v := by
  rw [ct_su, ct_su]
  refine su_ext n (fun i hi => ?_)
  by_cases c : st (f i) = v
  · rw [one_y c, one_y ((h i hi).mp c)]
  · rw [one_n c, one_n (fun z => c ((h i hi).mpr z))]
theorem ct1_swp {n : Nat} {f g g2 : Nat → Int32} (hn : 0 < n) (hO : Ok n f g) (hO2 : Ok n (swp n f).1 g2) : ct n (swp n f).1 (nI 1) = ct n f (nI 1) := by
  refine ct_iff (fun k hk => ⟨fun h => ?_, fun h => ?_⟩)
  · have h0 := (st_i1 hO2 hk).mp h
    rw [swp_coat hn hk h0] at h
    exact h
  · have h0 := (st_i1 hO hk).mp h
    rw [swp_coat2 hn hk h0]
    exact h
theorem cm_le {n N : Nat} {f T U : Nat → Int32} (hT : Ok N T U) : cm n f N T ≤ ct N T (nI 1) := by
  have e : cm n f N T = su (fun i => if (¬ cn (T i) = -1 ∧ ¬ cn (hd n f i) = cn (T i)) then 1 else 0) N := fo_su N
  rw [e, ct_su]
  refine su_le N (fun i hi => ?_)
  by_cases c : 0 ≤ T i
  · rw [one_y ((st_i1 hT hi).mpr c)]
    split <;> omega
  · rw [if_neg (fun z => z.1 (cn_neg c))]
    exact Nat.zero_le _
theorem ct2_0 {N : Nat} {T : Nat → Int32} (h : nt N T) : ct N T (nI 2) = 0 := ct_0 (fun k hk z => h k hk (st_2 z))
def ri (g : Nat → Int32) : Nat → Nat → Int32
  | 0, _ => nI 0
  | q + 1, i => g i + ri g q (i + 1)
theorem wa_ri (g : Nat → Int32) : ∀ (q i : Nat) (a : Int32), fo (fun a i => a + g i) q i a = a + ri g q i
  | 0, i, a => (add_n0 a).symm
  | q + 1, i, a => by rw [fo_s, wa_ri g q (i + 1), ri, Int32.add_assoc]
theorem wa_put {p : Nat} {U : Nat → Int32} {v : Int32} (h0 : U p = nI 0) : ∀ M, fo (fun a i => a + upd U p v i) M 0 (nI 0) = fo (fun a i => a + U i) M 0 (nI 0) + (if p < M then v else nI 0)
  | 0 => by rw [if_neg (Nat.not_lt_zero p)]; rfl
  | M + 1 => by
    rw [fo_top, fo_top, wa_put h0 M]
    by_cases e : p = M
    · rw [if_neg (by omega), if_pos (by omega), e, upd_same, add_n0, ← e, h0, add_n0]
    · rw [upd_ne (by omega)]
      by_cases c : p < M
      · rw [if_pos c, if_pos (by omega), Int32.add_assoc, Int32.add_assoc, Int32.add_comm v]
      · rw [if_neg c, if_neg (by omega), add_n0, add_n0]
theorem hg_wa {n N w : Nat} {f g : Nat → Int32} (hN : 0 < N) (hO : Ok n f g) : ∀ (q i s : Nat) (T U T2 U2 : Nat → Int32) (z : Nat), i + q = n → Ok N T U → hg N w f g q i T U s = some (T2, U2, z) → wa N U2 = wa N U + ri g q i
  | 0, i, s, T, U, T2, U2, z, h1, h2, h4 => by
    rw [hg] at h4
    injection h4 with h4
    injection h4 with e1 e2
    injection e2 with e2 e3
    rw [← e2]
    exact (add_n0 _).symm
  | q + 1, i, s, T, U, T2, U2, z, h1, h2, h4 => by
    by_cases h0 : 0 ≤ f i
    · obtain ⟨x, hx, ex, ez⟩ := hO.num (k := i) (by omega) h0
      obtain ⟨y, hy1, hy2, ey⟩ := hO.wt (k := i) (by omega) h0
      by_cases hf : T (la N w T x) = -1
      · have hp := la_lt hN w T x
        have hu : U (la N w T x) = nI 0 := (h2.neg hp (by rw [hf]; decide)).2
        rw [hg_wa hN hO q (i + 1) _ _ _ T2 U2 z (by omega) (h2.put hx hy1 hy2 ey) (hg_y h0 ex ez hf h4)]
        have e : wa N (upd U (la N w T x) (g i)) = wa N U + g i := by
          unfold wa
          rw [wa_put hu, if_pos hp]
        rw [e, ri, Int32.add_assoc]
      · exact absurd (hg_no h0 ez hf h4) (by intro h; cases h)
    · have eg := (hO.neg (k := i) (by omega) h0).2
      rw [hg_wa hN hO q (i + 1) s T U T2 U2 z (by omega) h2 (hg_n h0 h4), ri, eg, Int32.add_comm (nI 0), add_n0]
theorem wa_0 : ∀ N, wa N (fun _ => nI 0) = nI 0
  | 0 => rfl
  | N + 1 => by
    show fo _ (N + 1) 0 (nI 0) = nI 0
    rw [fo_top]
    show wa N (fun _ => nI 0) + nI 0 = nI 0
    rw [wa_0 N, add_n0]
theorem wa_HG {n N w : Nat} {f g T U : Nat → Int32} {z : Nat} (hN : 0 < N) (hO : Ok n f g) (h : HG n f g N w = some (T, U, z)) : wa N U = wa n g := by
  rw [hg_wa hN hO n 0 0 _ _ T U z (Nat.zero_add n) (fun k _ => Or.inl ⟨rfl, rfl⟩) h, wa_0]
  exact (wa_ri g n 0 (nI 0)).symm
theorem HG_gd {n N w : Nat} {f g T U : Nat → Int32} {z : Nat} (hN : 0 < N) (hO : Ok n f g) (h : HG n f g N w = some (T, U, z)) : gd N w T :=
  (hg_sum hN hO n 0 0 _ _ T U z (Nat.zero_add n) (fun k _ h0 => absurd h0 (show ¬ (0 : Int32) ≤ -1 by decide)) sm_free h).1
theorem fd_gd {N w k x : Nat} {T : Nat → Int32} (hN40 : N ≤ 40) (h : gd N w T) (hk : k < N) (hx : x ≤ 9999) (ex : T k = nI x) : 0 ≤ fd N w T x := by
  obtain ⟨y, j, hy, e1, e2, e3⟩ := h k hk (by rw [ex]; exact nI_pos' (by omega))
  have exy : x = y := nI_inj (by omega) (by omega) (by rw [← ex, e1])
  rw [← exy] at e2 e3
  have e4 : la N w T x = k := by
    unfold la
    rw [rch_lk e3]
    exact e2
  rw [fd_in (by rw [e4]; exact ex)]
  exact nI_pos' (by omega)
theorem xz_at {A : Nat → Prop} {s : State} {H : Heap} {locs : List Loc} (hZ : XZ A s s.heap) (hS : va_S A s.heap H locs) : XZ (fun _ => False) s H := (hZ.kept hS.2.1).narrow (fun q h => h.elim)
