/-! pure words, on: rows, and small facts of the words -/
def bh (n k : Nat) : Nat := if k + 1 < n then k + 1 else 0
def bf (n k : Nat) : Nat := if 0 < k then k - 1 else n - 1
theorem bh_lt {n k : Nat} (h : 0 < n) : bh n k < n := by unfold bh; split <;> omega
theorem bf_lt {n k : Nat} (h : k < n) : bf n k < n := by unfold bf; split <;> omega
def fw (n : Nat) (f : Nat → Int32) : Nat → Nat → Nat → Nat
  | 0, L, _ => L
  | q + 1, L, j => if f j = -1 then L else fw n f q (L + 1) (bh n j)
def bw (n : Nat) (f : Nat → Int32) : Nat → Nat → Nat → Nat
  | 0, L, _ => L
  | q + 1, L, j => if f j = -1 then L else bw n f q (L + 1) (bf n j)
theorem fw_y {n : Nat} {f : Nat → Int32} {q L j : Nat} (h : f j = -1) : fw n f (q + 1) L j = L := if_pos h
theorem fw_n {n : Nat} {f : Nat → Int32} {q L j : Nat} (h : ¬ f j = -1) : fw n f (q + 1) L j = fw n f q (L + 1) (bh n j) := if_neg h
theorem bw_y {n : Nat} {f : Nat → Int32} {q L j : Nat} (h : f j = -1) : bw n f (q + 1) L j = L := if_pos h
theorem bw_n {n : Nat} {f : Nat → Int32} {q L j : Nat} (h : ¬ f j = -1) : bw n f (q + 1) L j = bw n f q (L + 1) (bf n j) := if_neg h
theorem fw_le (n : Nat) (f : Nat → Int32) : ∀ (q L j : Nat), L ≤ fw n f q L j ∧ fw n f q L j ≤ L + q
  | 0, L, _ => ⟨Nat.le_refl _, Nat.le_refl _⟩
  | q + 1, L, j => by
    unfold fw
    split
    · omega
    · have := fw_le n f q (L + 1) (bh n j)
      omega
theorem bw_le (n : Nat) (f : Nat → Int32) : ∀ (q L j : Nat), L ≤ bw n f q L j ∧ bw n f q L j ≤ L + q
  | 0, L, _ => ⟨Nat.le_refl _, Nat.le_refl _⟩
  | q + 1, L, j => by
    unfold bw
    split
    · omega
    · have := bw_le n f q (L + 1) (bf n j)
      omega
def rl (n : Nat) (f : Nat → Int32) (k : Nat) : Nat := if f k = -1 then 0 else bw n f (n - fw n f (n - 1) 1 (bh n k)) (fw n f (n - 1) 1 (bh n k)) (bf n k)
theorem rl_le {n : Nat} (hn : 0 < n) (f : Nat → Int32) (k : Nat) : rl n f k ≤ n := by
  unfold rl
  split
  · omega
  · have h1 := fw_le n f (n - 1) 1 (bh n k)
    have h2 := bw_le n f (n - fw n f (n - 1) 1 (bh n k)) (fw n f (n - 1) 1 (bh n k)) (bf n k)
    omega
def rcs (n : Nat) (f : Nat → Int32) : Nat × Nat := fo (fun (a : Nat × Nat) i => if f i = -1 then a else (a.1 + (if f (bh n i) = -1 then 1 else 0), a.2 + 1)) n 0 (0, 0)
def rc (n : Nat) (f : Nat → Int32) : Nat := if (rcs n f).2 = n then 1 else (rcs n f).1
def lr (n : Nat) (f : Nat → Int32) : Nat := fo (fun a i => if a < rl n f i then rl n f i else a) n 0 0
theorem hd_in {n : Nat} {f : Nat → Int32} {k : Nat} (h : k < n) : hd n f k = f k := if_pos h
theorem sp_t {n w : Nat} {f : Nat → Int32} {x k : Nat} (h : f (at_ n w x k) = nI x ∨ f (at_ n w x k) = -1) : sp n w f x k = true := decide_eq_true h
theorem sp_f {n w : Nat} {f : Nat → Int32} {x k : Nat} (h1 : ¬ f (at_ n w x k) = nI x) (h2 : ¬ f (at_ n w x k) = -1) : sp n w f x k = false := decide_eq_false (fun z => z.elim h1 h2)
theorem lk_y {n w : Nat} {f : Nat → Int32} {x q i : Nat} (h2 : fs (sp n w f x) (q + 1) i = fs (sp n w f x) n 0) (hp : f (at_ n w x i) = nI x ∨ f (at_ n w x i) = -1) (hi : i < n) : i + 1 = lk n w f x := by
  rw [fs_y (sp_t hp)] at h2
  unfold lk
  rw [← h2, if_pos hi]
theorem lk_n {n w : Nat} {f : Nat → Int32} {x q i K : Nat} (h2 : fs (sp n w f x) (q + 1) i = K) (h3 : ¬ f (at_ n w x i) = nI x) (h4 : ¬ f (at_ n w x i) = -1) : fs (sp n w f x) q (i + 1) = K := by
  rw [fs_n (sp_f h3 h4)] at h2
  exact h2
theorem lk_z {n w : Nat} {f : Nat → Int32} {x i : Nat} (h2 : fs (sp n w f x) 0 i = fs (sp n w f x) n 0) (hi : i + 0 = n) : n = lk n w f x := by
  rw [fs_z] at h2
  unfold lk
  rw [← h2, if_neg (by omega)]
theorem hs_y {n : Nat} {f : Nat → Int32} {x q i : Nat} (h2 : fs (fun i => decide (f i = nI x)) (q + 1) i = fs (fun i => decide (f i = nI x)) n 0) (hp : f i = nI x) (hi : i < n) : 1 = hs n f x := by
  rw [fs_y (decide_eq_true hp)] at h2
  unfold hs
  rw [← h2, if_pos hi]
theorem hs_n {f : Nat → Int32} {x q i K : Nat} (h2 : fs (fun i => decide (f i = nI x)) (q + 1) i = K) (hp : ¬ f i = nI x) : fs (fun i => decide (f i = nI x)) q (i + 1) = K := by
  rw [fs_n (decide_eq_false hp)] at h2
  exact h2
theorem hs_z {n : Nat} {f : Nat → Int32} {x i : Nat} (h2 : fs (fun i => decide (f i = nI x)) 0 i = fs (fun i => decide (f i = nI x)) n 0) (hi : i + 0 = n) : 0 = hs n f x := by
  rw [fs_z] at h2
  unfold hs
  rw [← h2, if_neg (by omega)]
theorem hs_lt (n : Nat) (f : Nat → Int32) (x : Nat) : hs n f x < 2 ^ 31 := by unfold hs; split <;> omega
theorem tk_keep {n w : Nat} {f : Nat → Int32} {x i : Nat} {v : Int32} (h : tk n w f x i = v) (hv : v ≠ -1) : ∀ d, tk n w f x (i + d) = v
  | 0 => h
  | d + 1 => by
    have ih := tk_keep h hv d
    rw [← Nat.add_assoc, tk, if_neg (fun z => hv (by rw [← ih]; exact z.1))]
    exact ih
theorem tk_no {n w : Nat} {f : Nat → Int32} {x i : Nat} (h : tk n w f x i = -1) (h2 : ¬ f (at_ n w x i) = -2) : tk n w f x (i + 1) = -1 := by rw [tk, if_neg (fun z => h2 z.2)]; exact h
theorem tk_hit {n w : Nat} {f : Nat → Int32} {x i : Nat} (h : tk n w f x i = -1) (h2 : f (at_ n w x i) = -2) : tk n w f x (i + 1) = nI (at_ n w x i) := by rw [tk, if_pos ⟨h, h2⟩]
theorem op_t {n w : Nat} {f : Nat → Int32} {x i : Nat} (hn : 0 < n) (hn40 : n ≤ 40) (h : tk n w f x i = -1) (h2 : f (at_ n w x i) = -2) (hi : i < lk n w f x) : nI (at_ n w x i) = op n w f x := by
  have hne : nI (at_ n w x i) ≠ -1 := ne_m1 (by have := at_lt hn w x i; omega)
  have h3 := tk_keep (tk_hit h h2) hne (lk n w f x - (i + 1))
  rw [show i + 1 + (lk n w f x - (i + 1)) = lk n w f x by omega] at h3
  unfold op
  rw [h3, if_neg hne]
theorem op_f {n w : Nat} {f : Nat → Int32} {x i : Nat} (h : tk n w f x i = -1) (hi : i + 0 = lk n w f x) : op n w f x = fr n w f x := by
  have hi : i = lk n w f x := by omega
  unfold op
  rw [← hi, if_pos h]
theorem lx_p {n w : Nat} {f : Nat → Int32} {i x : Nat} (h0 : 0 ≤ f i) (h : (f i).toNatClampNeg = x) : lx n w f i = lk n w f x := by unfold lx; rw [if_pos h0, h]
theorem lx_0 {n w : Nat} {f : Nat → Int32} {i : Nat} (h0 : ¬ 0 ≤ f i) : lx n w f i = 0 := if_neg h0
