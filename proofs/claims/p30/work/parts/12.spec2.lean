/-! pure words, on: rows, and small facts of the words -/
def bh (n k : Nat) : Nat := if k + 1 < n then k + 1 else 0
def bf (n k : Nat) : Nat := if 0 < k then k - 1 else n - 1
theorem bh_lt {n k : Nat} (h : 0 < n) : bh n k < n := by unfold bh; split <;> omega
theorem bf_lt {n k : Nat} (h : k < n) : bf n k < n := by unfold bf; split <;> omega
def fw (n : Nat) (f : Nat → Int32) : Nat → Nat → Nat → Nat
  | 0, L, _ => L
  | q + 1, L, j => if f j = -1 then L else fw n f q (L + 1) (bh n j)
def bw (n : Nat) (f : Nat → Int32) : Nat → Nat → Nat → Nat
  | 0, L, _ => L
  | q + 1, L, j => if f j = -1 then L else bw n f q (L + 1) (bf n j)
theorem fw_y {n : Nat} {f : Nat → Int32} {q L j : Nat} (h : f j = -1) : fw n f (q + 1) L j = L := if_pos h
theorem fw_n {n : Nat} {f : Nat → Int32} {q L j : Nat} (h : ¬ f j = -1) : fw n f (q + 1) L j = fw n f q (L + 1) (bh n j) := if_neg h
theorem bw_y {n : Nat} {f : Nat → Int32} {q L j : Nat} (h : f j = -1) : bw n f (q + 1) L j = L := if_pos h
theorem bw_n {n : Nat} {f : Nat → Int32} {q L j : Nat} (h : ¬ f j = -1) : bw n f (q + 1) L j = bw n f q (L + 1) (bf n j) := if_neg h
theorem fw_le (n : Nat) (f : Nat → Int32) : ∀ (q L j : Nat), L ≤ fw n f q L j ∧ fw n f q L j ≤ L + q
  | 0, L, _ => ⟨Nat.le_refl _, Nat.le_refl _⟩
  | q + 1, L, j => by
    unfold fw
    split
    · omega
    · have := fw_le n f q (L + 1) (bh n j)
      omega
theorem bw_le (n : Nat) (f : Nat → Int32) : ∀ (q L j : Nat), L ≤ bw n f q L j ∧ bw n f q L j ≤ L + q
  | 0, L, _ => ⟨Nat.le_refl _, Nat.le_refl _⟩
  | q + 1, L, j => by
    unfold bw
    split
    · omega
    · have := bw_le n f q (L + 1) (bf n j)
      omega
def rl (n : Nat) (f : Nat → Int32) (k : Nat) : Nat := if f k = -1 then 0 else bw n f (n - fw n f (n - 1) 1 (bh n k)) (fw n f (n - 1) 1 (bh n k)) (bf n k)
theorem rl_le {n : Nat} (hn : 0 < n) (f : Nat → Int32) (k : Nat) : rl n f k ≤ n := by
  unfold rl
  split
  · omega
  · have h1 := fw_le n f (n - 1) 1 (bh n k)
    have h2 := bw_le n f (n - fw n f (n - 1) 1 (bh n k)) (fw n f (n - 1) 1 (bh n k)) (bf n k)
    omega
def rcs (n : Nat) (f : Nat → Int32) : Nat × Nat := fo (fun (a : Nat × Nat) i => if f i = -1 then a else (a.1 + (if f (bh n i) = -1 then 1 else 0), a.2 + 1)) n 0 (0, 0)
def rc (n : Nat) (f : Nat → Int32) : Nat := if (rcs n f).2 = n then 1 else (rcs n f).1
def lr (n : Nat) (f : Nat → Int32) : Nat := fo (fun a i => if a < rl n f i then rl n f i else a) n 0 0
theorem hd_in {n : Nat} {f : Nat → Int32} {k : Nat} (h : k < n) : hd n f k = f k := if_pos h
theorem sp_t {n w : Nat} {f : Nat → Int32} {x k : Nat} (h : f (at_ n w x k) = nI x ∨ f (at_ n w x k) = -1) : sp n w f x k = true := decide_eq_true h
theorem sp_f {n w : Nat} {f : Nat → Int32} {x k : Nat} (h1 : ¬ f (at_ n w x k) = nI x) (h2 : ¬ f (at_ n w x k) = -1) : sp n w f x k = false := decide_eq_false (fun z => z.elim h1 h2)
theorem lk_y {n w : Nat} {f : Nat → Int32} {x q i : Nat} (h2 : fs (sp n w f x) (q + 1) i = fs (sp n w f x) n 0) (hp : f (at_ n w x i) = nI x ∨ f (at_ n w x i) = -1) (hi : i < n) : i + 1 = lk n w f x := by
  rw [fs_y (sp_t hp)] at h2
  unfold lk
  rw [← h2, if_pos hi]
theorem lk_n {n w : Nat} {f : Nat → Int32} {x q i K : Nat} (h2 : fs (sp n w f x) (q + 1) i = K) (h3 : ¬ f (at_ n w x i) = nI x) (h4 : ¬ f (at_ n w x i) = -1) : fs (sp n w f x) q (i + 1) = K := by
  rw [fs_n (sp_f h3 h4)] at h2
  exact h2
theorem lk_z {n w : Nat} {f : Nat → Int32} {x i : Nat} (h2 : fs (sp n w f x) 0 i = fs (sp n w f x) n 0) (hi : i + 0 = n) : n = lk n w f x := by
  rw [fs_z] at h2
  unfold lk
  rw [← h2, if_neg (by omega)]
theorem hs_y {n : Nat} {f : Nat → Int32} {x q i : Nat} (h2 : fs (fun i => decide (f i = nI x)) (q + 1) i = fs (fun i => decide (f i = nI x)) n 0) (hp : f i = nI x) (hi : i < n) : 1 = hs n f x := by
  rw [fs_y (decide_eq_true hp)] at h2
  unfold hs
  rw [← h2, if_pos hi]
theorem hs_n {f : Nat → Int32} {x q i K : Nat} (h2 : fs (fun i => decide (f i = nI x)) (q + 1) i = K) (hp : ¬ f i = nI x) : fs (fun i => decide (f i = nI x)) q (i + 1) = K := by
  rw [fs_n (decide_eq_false hp)] at h2
  exact h2
theorem hs_z {n : Nat} {f : Nat → Int32} {x i : Nat} (h2 : fs (fun i => decide (f i = nI x)) 0 i = fs (fun i => decide (f i = nI x)) n 0) (hi : i + 0 = n) : 0 = hs n f x := by
  rw [fs_z] at h2
  unfold hs
  rw [← h2, if_neg (by omega)]
theorem hs_lt (n : Nat) (f : Nat → Int32) (x : Nat) : hs n f x < 2 ^ 31 := by unfold hs; split <;> omega
theorem tk_keep {n w : Nat} {f : Nat → Int32} {x i : Nat} {v : Int32} (h : tk n w f x i = v) (hv : v ≠ -1) : ∀ d, tk n w f x (i + d) = v
  | 0 => h
  | d + 1 => by
    have ih := tk_keep h hv d
    rw [← Nat.add_assoc, tk, if_neg (fun z => hv (by rw [← ih]; exact z.1))]
    exact ih
theorem tk_no {n w : Nat} {f : Nat → Int32} {x i : Nat} (h : tk n w f x i = -1) (h2 : ¬ f (at_ n w x i) = -2) : tk n w f x (i + 1) = -1 := by rw [tk, if_neg (fun z => h2 z.2)]; exact h
theorem tk_hit {n w : Nat} {f : Nat → Int32} {x i : Nat} (h : tk n w f x i = -1) (h2 : f (at_ n w x i) = -2) : tk n w f x (i + 1) = nI (at_ n w x i) := by rw [tk, if_pos ⟨h, h2⟩]
theorem op_t {n w : Nat} {f : Nat → Int32} {x i : Nat} (hn : 0 < n) (hn40 : n ≤ 40) (h : tk n w f x i = -1) (h2 : f (at_ n w x i) = -2) (hi : i < lk n w f x) : nI (at_ n w x i) = op n w f x := by
  have hne : nI (at_ n w x i) ≠ -1 := ne_m1 (by have := at_lt hn w x i; omega)
  have h3 := tk_keep (tk_hit h h2) hne (lk n w f x - (i + 1))
  rw [show i + 1 + (lk n w f x - (i + 1)) = lk n w f x by omega] at h3
  unfold op
  rw [h3, if_neg hne]
theorem op_f {n w : Nat} {f : Nat → Int32} {x i : Nat} (h : tk n w f x i = -1) (hi : i + 0 = lk n w f x) : op n w f x = fr n w f x := by
  have hi : i = lk n w f x := by omega
  unfold op
  rw [← hi, if_pos h]
theorem lx_p {n w : Nat} {f : Nat → Int32} {i x : Nat} (h0 : 0 ≤ f i) (h : (f i).toNatClampNeg = x) : lx n w f i = lk n w f x := by unfold lx; rw [if_pos h0, h]
theorem lx_0 {n w : Nat} {f : Nat → Int32} {i : Nat} (h0 : ¬ 0 ≤ f i) : lx n w f i = 0 := if_neg h0
/-! pure words, on: sweeping -/
def sw (n : Nat) : Nat → (Nat → Int32) → Nat → (Nat → Int32) × Nat
  | 0, f, a => (f, a)
  | q + 1, f, a => if f (q % n) = -2 ∧ f ((q + 1) % n) = -1 then sw n q (upd f (q % n) (-1)) (a + 1) else sw n q f a
theorem sw_0 {n : Nat} (h : 3 ≤ n) : n - 1 = (2 * n + n - 1) % n := by
  rw [show 2 * n + n - 1 = (n - 1) + n * 2 by omega, Nat.add_mul_mod_self_left]
  exact (Nat.mod_eq_of_lt (by omega)).symm
theorem sw_i {n q : Nat} (h : 0 < n) {t : Nat} (et : t = (q + 1 + n - 1) % n) : t = q % n := by
  rw [et, show q + 1 + n - 1 = q + n by omega, Nat.add_mod_right]
theorem bh_mod {n q : Nat} (h : 0 < n) : bh n (q % n) = (q + 1) % n := by
  have h1 := Nat.mod_lt q h
  unfold bh
  by_cases h2 : q % n + 1 < n
  · rw [if_pos h2, Nat.add_mod, Nat.mod_eq_of_lt (show 1 < n by omega), Nat.mod_eq_of_lt h2]
  · rw [if_neg h2]
    have h3 : q % n + 1 = n := by omega
    have h4 := Nat.div_add_mod q n
    rw [show q + 1 = n * (q / n + 1) by rw [Nat.mul_add, Nat.mul_one]; omega]
    exact (Nat.mul_mod_right n _).symm
theorem bf_mod {n q : Nat} (h : 0 < n) : bf n (q % n) = (q + n - 1) % n := by
  have h1 := Nat.mod_lt q h
  have h4 := Nat.div_add_mod q n
  unfold bf
  by_cases h2 : 0 < q % n
  · rw [if_pos h2, show q + n - 1 = (q % n - 1) + n * (q / n + 1) by rw [Nat.mul_add, Nat.mul_one]; omega, Nat.add_mul_mod_self_left]
    exact (Nat.mod_eq_of_lt (by omega)).symm
  · rw [if_neg h2, show q + n - 1 = (n - 1) + n * (q / n) by omega, Nat.add_mul_mod_self_left]
    exact (Nat.mod_eq_of_lt (by omega)).symm
theorem sw_t {n q t : Nat} (h : 0 < n) (et : t = (q + 1 + n - 1) % n) : bf n t = (q + n - 1) % n := by rw [sw_i h et]; exact bf_mod h
theorem sw_y {n q t a : Nat} {f : Nat → Int32} {V : (Nat → Int32) × Nat} (h : 0 < n) (et : t = (q + 1 + n - 1) % n) (h1 : f t = -2) (h2 : f (bh n t) = -1) (h3 : sw n (q + 1) f a = V) : sw n q (upd f t (-1)) (a + 1) = V := by
  have e := sw_i h et
  rw [e, bh_mod h] at h2
  rw [e] at h1 ⊢
  rw [← h3, sw, if_pos ⟨h1, h2⟩]
theorem sw_n1 {n q t a : Nat} {f : Nat → Int32} {V : (Nat → Int32) × Nat} (h : 0 < n) (et : t = (q + 1 + n - 1) % n) (h1 : ¬ f t = -2) (h3 : sw n (q + 1) f a = V) : sw n q f a = V := by
  have e := sw_i h et
  rw [e] at h1
  rw [← h3, sw, if_neg (fun z => h1 z.1)]
theorem sw_n2 {n q t a : Nat} {f : Nat → Int32} {V : (Nat → Int32) × Nat} (h : 0 < n) (et : t = (q + 1 + n - 1) % n) (h2 : ¬ f (bh n t) = -1) (h3 : sw n (q + 1) f a = V) : sw n q f a = V := by
  have e := sw_i h et
  rw [e, bh_mod h] at h2
  rw [← h3, sw, if_neg (fun z => h2 z.2)]
theorem ag_up {n t : Nat} {F f : Nat → Int32} {v : Int32} (h : ∀ k, k < n → F k = f k) : ∀ k, k < n → upd F t v k = upd f t v k := by
  intro k hk
  unfold upd
  split
  · rfl
  · exact h k hk
theorem RS.free {n w t : Nat} {F G f g : Nat → Int32} (S : RS n w F G f g) (ht : t < n) (h : f t = -2) : RS n w (upd F t (-1)) (upd G t (nI 0)) (upd f t (-1)) g := by
  obtain ⟨h1, h2, h3, hF, hG, hO⟩ := S
  have hg : g t = nI 0 := (hO.neg ht (by rw [h]; decide)).2
  refine ⟨h1, h2, h3, ag_up hF, fun k hk => ?_, fun k hk => ?_⟩
  · unfold upd
    split
    · rename_i e; rw [e]; exact hg.symm
    · exact hG k hk
  · unfold upd
    split
    · rename_i e; exact Or.inl ⟨rfl, by rw [e]; exact hg⟩
    · exact hO k hk
