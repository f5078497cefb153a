/-! pure words, on: what the reference counts otherwise -/
theorem cw_le (n : Nat) (f : Nat → Int32) (v : Int32) : ∀ M, fo (fun a i => if f i = v then a + 1 else a) M 0 0 ≤ M
  | 0 => Nat.le_refl 0
  | M + 1 => by
    have ih := cw_le n f v M
    rw [fo_top]
    split <;> omega
theorem sb_ad {k r n : Nat} (h : r ≤ k + n) : nI k - nI r + nI n = nI (k + n - r) := by
  rw [← pk_sub h, ← nI_add]
  rw [Int32.sub_eq_add_neg, Int32.sub_eq_add_neg, Int32.add_assoc, Int32.add_assoc, Int32.add_comm (-nI r)]
theorem mx_n {a b : Nat} (ha : a < 2 ^ 31) (hb : b < 2 ^ 31) : (if nI a < nI b then nI b else nI a) = nI (if a < b then b else a) := by
  by_cases h : a < b
  · rw [if_pos h, if_pos ((nI_ltI ha hb).mpr h)]
  · rw [if_neg h, if_neg (fun z => h ((nI_ltI ha hb).mp z))]
/-- rows by their beginnings -/
def rs (n : Nat) (f : Nat → Int32) : Nat := fo (fun a i => if f i = -1 ∧ ¬ f ((i + 1) % n) = -1 then a + 1 else a) n 0 0
theorem bh_m {n i : Nat} (hi : i < n) : bh n i = (i + 1) % n := by
  unfold bh
  split
  · rename_i h; exact (Nat.mod_eq_of_lt h).symm
  · have : i + 1 = n := by omega
    rw [this, Nat.mod_self]
theorem rs_aux (f : Nat → Int32) (n : Nat) (hn : 0 < n) : ∀ m, m < n →
    fo (fun a i => if f i = -1 ∧ ¬ f ((i + 1) % n) = -1 then a + 1 else a) m 0 0 + (if f m = -1 then 1 else 0)
    = (fo (fun (a : Nat × Nat) i => if f i = -1 then a else (a.1 + (if f (bh n i) = -1 then 1 else 0), a.2 + 1)) m 0 (0, 0)).1 + (if f 0 = -1 then 1 else 0)
  | 0, _ => rfl
  | m + 1, h => by
    have ih := rs_aux f n hn m (by omega)
    have e1 : bh n m = m + 1 := by rw [bh, if_pos h]
    rw [fo_top, fo_top, e1, Nat.mod_eq_of_lt h]
    by_cases a : f m = -1
    · rw [if_pos a] at ih ⊢
      by_cases b : f (m + 1) = -1
      · rw [if_neg (fun z => z.2 b), if_pos b]; omega
      · rw [if_pos ⟨a, b⟩, if_neg b]; omega
    · rw [if_neg a] at ih ⊢
      rw [if_neg (fun z => a z.1)]
      show _ = (fo _ m 0 (0, 0)).1 + (if f (m + 1) = -1 then 1 else 0) + _
      omega
theorem rs_rc {n : Nat} (hn : 0 < n) (f : Nat → Int32) : rs n f = (rcs n f).1 := by
  obtain ⟨m, rfl⟩ : ∃ m, n = m + 1 := ⟨n - 1, by omega⟩
  have ih := rs_aux f (m + 1) hn m (by omega)
  have e1 : bh (m + 1) m = 0 := by rw [bh, if_neg (by omega)]
  unfold rs rcs
  rw [fo_top, fo_top, e1, Nat.mod_self]
  by_cases a : f m = -1
  · rw [if_pos a] at ih ⊢
    by_cases b : f 0 = -1
    · rw [if_neg (fun z => z.2 b)]; rw [if_pos b] at ih; omega
    · rw [if_pos ⟨a, b⟩]; rw [if_neg b] at ih; omega
  · rw [if_neg a] at ih ⊢
    rw [if_neg (fun z => a z.1)]
    show _ = (fo _ m 0 (0, 0)).1 + (if f 0 = -1 then 1 else 0)
    omega
theorem rc_cw (n : Nat) (f : Nat → Int32) : ∀ m, fo (fun a i => if f i = -1 then a + 1 else a) m 0 0 + (fo (fun (a : Nat × Nat) i => if f i = -1 then a else (a.1 + (if f (bh n i) = -1 then 1 else 0), a.2 + 1)) m 0 (0, 0)).2 = m
  | 0 => rfl
  | m + 1 => by
    have ih := rc_cw n f m
    rw [fo_top, fo_top]
    by_cases a : f m = -1
    · rw [if_pos a, if_pos a]; omega
    · rw [if_neg a, if_neg a]
      show _ + ((fo _ m 0 (0, 0)).2 + 1) = _
      omega
theorem rc_0 {n : Nat} (hn : 0 < n) {f : Nat → Int32} (h : cw n f (-1) = 0) : rc n f = 1 := by
  have e := rc_cw n f n
  have h2 : fo (fun a i => if f i = -1 then a + 1 else a) n 0 0 = 0 := h
  rw [h2, Nat.zero_add] at e
  unfold rc
  exact if_pos e
theorem rc_1 {n : Nat} (hn : 0 < n) {f : Nat → Int32} (h : ¬ cw n f (-1) = 0) : rc n f = rs n f := by
  have e := rc_cw n f n
  have h2 : ¬ fo (fun a i => if f i = -1 then a + 1 else a) n 0 0 = 0 := h
  unfold rc
  rw [rs_rc hn]
  refine if_neg (fun z => ?_)
  have z : (fo (fun (a : Nat × Nat) i => if f i = -1 then a else (a.1 + (if f (bh n i) = -1 then 1 else 0), a.2 + 1)) n 0 (0, 0)).2 = n := z
  omega
/-- a row's length, by the free hook next before and behind -/
def lf (n : Nat) (f : Nat → Int32) (k : Nat) : Nat := fs (fun j => decide (f ((k + j) % n) = -1)) n 0
def lb (n : Nat) (f : Nat → Int32) (k : Nat) : Nat := fs (fun j => decide (f ((k + n - j) % n) = -1)) n 0
theorem fs_1 {p : Nat → Bool} {n : Nat} (hn : 0 < n) (h : p 0 = false) : fs p n 0 = fs p (n - 1) 1 := by
  obtain ⟨m, rfl⟩ : ∃ m, n = m + 1 := ⟨n - 1, by omega⟩
  rw [fs_n h]; rfl
theorem fw_fs {n : Nat} (hn : 0 < n) (f : Nat → Int32) (k : Nat) : ∀ (q L : Nat), fw n f q L ((k + L) % n) = fs (fun j => decide (f ((k + j) % n) = -1)) q L
  | 0, L => rfl
  | q + 1, L => by
    by_cases h : f ((k + L) % n) = -1
    · rw [fw_y h, fs_y (decide_eq_true h)]
    · rw [fw_n h, fs_n (decide_eq_false h), bh_mod hn, Nat.add_assoc]
      exact fw_fs hn f k q (L + 1)
theorem bw_fs {n : Nat} (hn : 0 < n) (f : Nat → Int32) {k : Nat} (hk : k < n) : ∀ (q L j : Nat), j + q ≤ n → bw n f q L ((k + n - j) % n) + j = fs (fun j => decide (f ((k + n - j) % n) = -1)) q j + L
  | 0, L, j, _ => Nat.add_comm L j
  | q + 1, L, j, hj => by
    by_cases h : f ((k + n - j) % n) = -1
    · rw [bw_y h, fs_y (decide_eq_true h), Nat.add_comm]
    · rw [bw_n h, fs_n (decide_eq_false h), bf_mod hn]
      have e : (k + n - j + n - 1) % n = (k + n - (j + 1)) % n := by
        rw [show k + n - j + n - 1 = (k + n - (j + 1)) + n by omega, Nat.add_mod_right]
      rw [e]
      have ih := bw_fs hn f hk q (L + 1) (j + 1) (by omega)
      omega
theorem fs_min (p : Nat → Bool) : ∀ (q d i : Nat), fs p q i = (if fs p (q + d) i < i + q then fs p (q + d) i else i + q)
  | 0, d, i => by
    rw [fs_z, if_neg]
    · rfl
    · have := fs_ge p (0 + d) i
      omega
  | q + 1, d, i => by
    cases h : p i
    · rw [show q + 1 + d = (q + d) + 1 by omega, fs_n h, fs_n h, fs_min p q d (i + 1), show i + 1 + q = i + (q + 1) by omega]
    · rw [show q + 1 + d = (q + d) + 1 by omega, fs_y h, fs_y h, if_pos (by omega)]
theorem lf_pos {n : Nat} (hn : 0 < n) {f : Nat → Int32} {k : Nat} (hk : k < n) (h : ¬ f k = -1) : 0 < lf n f k := by
  have e : decide (f ((k + 0) % n) = -1) = false := decide_eq_false (by rw [Nat.add_zero, Nat.mod_eq_of_lt hk]; exact h)
  unfold lf
  rw [fs_1 hn e]
  exact fs_ge _ _ 1
theorem rl_lf {n : Nat} (hn : 0 < n) {f : Nat → Int32} {k : Nat} (hk : k < n) (h : ¬ f k = -1) : rl n f k = if lb n f k + lf n f k - 1 < n then lb n f k + lf n f k - 1 else n := by
  have e : decide (f ((k + 0) % n) = -1) = false := decide_eq_false (by rw [Nat.add_zero, Nat.mod_eq_of_lt hk]; exact h)
  have eb : decide (f ((k + n - 0) % n) = -1) = false := decide_eq_false (by rw [Nat.sub_zero, Nat.add_mod_right, Nat.mod_eq_of_lt hk]; exact h)
  have e1 : fw n f (n - 1) 1 (bh n k) = lf n f k := by
    rw [bh_m hk, fw_fs hn f k (n - 1) 1, lf, fs_1 hn e]
  have h1 := lf_pos hn hk h
  have h2 : lf n f k ≤ n := by have := fs_le (fun j => decide (f ((k + j) % n) = -1)) n 0; unfold lf; omega
  have e2 : bf n k = (k + n - 1) % n := by
    have := bf_mod (q := k) hn
    rw [Nat.mod_eq_of_lt hk] at this
    exact this
  have e3 := bw_fs hn f hk (n - lf n f k) (lf n f k) 1 (by omega)
  have e4 : lb n f k = fs (fun j => decide (f ((k + n - j) % n) = -1)) (n - 1) 1 := by rw [lb, fs_1 hn eb]
  have e5 := fs_min (fun j => decide (f ((k + n - j) % n) = -1)) (n - lf n f k) (lf n f k - 1) 1
  rw [show n - lf n f k + (lf n f k - 1) = n - 1 by omega, ← e4] at e5
  have h3 : 0 < lb n f k := by rw [e4]; exact fs_ge _ _ 1
  unfold rl
  rw [if_neg h, e1, e2]
  rw [e5] at e3
  split at e3
  · rw [if_pos (by omega)]; omega
  · split
    · omega
    · omega
theorem lf_y {n : Nat} {f : Nat → Int32} {k q l : Nat} (h2 : fs (fun j => decide (f ((k + j) % n) = -1)) (q + 1) l = lf n f k) (h : f ((k + l) % n) = -1) : l = lf n f k := by
  rw [fs_y (decide_eq_true h)] at h2; exact h2
theorem lf_n {n : Nat} {f : Nat → Int32} {k q l : Nat} (h2 : fs (fun j => decide (f ((k + j) % n) = -1)) (q + 1) l = lf n f k) (h : ¬ f ((k + l) % n) = -1) : fs (fun j => decide (f ((k + j) % n) = -1)) q (l + 1) = lf n f k := by
  rw [fs_n (decide_eq_false h)] at h2; exact h2
theorem lb_y {n : Nat} {f : Nat → Int32} {k q l : Nat} (h2 : fs (fun j => decide (f ((k + n - j) % n) = -1)) (q + 1) l = lb n f k) (h : f ((k + n - l) % n) = -1) : l = lb n f k := by
  rw [fs_y (decide_eq_true h)] at h2; exact h2
theorem lb_n {n : Nat} {f : Nat → Int32} {k q l : Nat} (h2 : fs (fun j => decide (f ((k + n - j) % n) = -1)) (q + 1) l = lb n f k) (h : ¬ f ((k + n - l) % n) = -1) : fs (fun j => decide (f ((k + n - j) % n) = -1)) q (l + 1) = lb n f k := by
  rw [fs_n (decide_eq_false h)] at h2; exact h2
theorem lf_le (n : Nat) (f : Nat → Int32) (k : Nat) : lf n f k ≤ n := by have := fs_le (fun j => decide (f ((k + j) % n) = -1)) n 0; unfold lf; omega
theorem lb_le (n : Nat) (f : Nat → Int32) (k : Nat) : lb n f k ≤ n := by have := fs_le (fun j => decide (f ((k + n - j) % n) = -1)) n 0; unfold lb; omega
theorem mn_rl {n : Nat} (hn : 0 < n) (hn40 : n ≤ 40) {f : Nat → Int32} {k : Nat} (hk : k < n) (h : ¬ f k = -1) : (if nI (lb n f k + lf n f k - 1) < nI n then nI (lb n f k + lf n f k - 1) else nI n) = nI (rl n f k) := by
  have h1 := lf_le n f k
  have h2 := lb_le n f k
  rw [rl_lf hn hk h]
  by_cases e : lb n f k + lf n f k - 1 < n
  · rw [if_pos e, if_pos ((nI_ltI (by omega) (by omega)).mpr e)]
  · rw [if_neg e, if_neg (fun z => e ((nI_ltI (by omega) (by omega)).mp z))]
/-- the heaviest -/
theorem hv_no {n : Nat} {f g : Nat → Int32} (hO : Ok n f g) {i : Nat} {b : Int32} (hi : i < n) (hb : 0 ≤ b) (h : f i < 0) : ¬ b < g i := by
  have e := (hO.neg hi (fun z => not_lt0 z h)).2
  rw [e]
  exact nlt_of_le hb
theorem hv_first {n : Nat} {f g : Nat → Int32} (hO : Ok n f g) {i : Nat} (hi : i < n) (h : 0 ≤ f i) : nI 0 < g i := by
  obtain ⟨y, h1, h2, e⟩ := hO.wt hi h
  rw [e]
  exact (nI_ltI (by omega) (by omega)).mpr (by omega)
theorem hv_b0 {n : Nat} {f g : Nat → Int32} (hO : Ok n f g) {a b : Int32} (hb : (a = -1 ∧ b = nI 0) ∨ ∃ k : Nat, k < n ∧ a = nI k ∧ b = g k ∧ 0 ≤ f k) : 0 ≤ b := by
  rcases hb with ⟨-, rfl⟩ | ⟨k, hk, -, rfl, h0⟩
  · decide
  · obtain ⟨y, h1, h2, e⟩ := hO.wt hk h0
    rw [e]; exact nI_pos' (by omega)
theorem hv_a {n : Nat} {f g : Nat → Int32} (hn : n ≤ 40) {a b : Int32} (hb : (a = -1 ∧ b = nI 0) ∨ ∃ k : Nat, k < n ∧ a = nI k ∧ b = g k ∧ 0 ≤ f k) (h : a = -1) : b = nI 0 := by
  rcases hb with ⟨-, h1⟩ | ⟨k, hk, h1, -⟩
  · exact h1
  · exact absurd (h1.symm.trans h) (ne_m1 (by omega))
theorem hv_k {n : Nat} {f g : Nat → Int32} {a b : Int32} (hb : (a = -1 ∧ b = nI 0) ∨ ∃ k : Nat, k < n ∧ a = nI k ∧ b = g k ∧ 0 ≤ f k) (h : ¬ a = -1) : ∃ k : Nat, k < n ∧ a = nI k ∧ b = g k ∧ 0 ≤ f k := by
  rcases hb with ⟨h1, -⟩ | h1
  · exact absurd h1 h
  · exact h1
