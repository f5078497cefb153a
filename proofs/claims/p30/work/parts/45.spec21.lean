/-! pure words, on: a row by its beginning -/
theorem fs_none {p : Nat → Bool} {n : Nat} (h : ∀ i, i < n → p i = false) : fs p n 0 = n := by
  have a := fs_le p n 0
  by_cases e : fs p n 0 < n
  · have b := fs_yes p n 0 (by omega)
    rw [h _ e] at b
    exact absurd b (by decide)
  · omega
theorem row_m {n h k : Nat} (hn : 0 < n) (hk : k < n) : ((h + n - k) % n + n - 1) % n = (h + n - (k + 1)) % n := by
  have e1 := bf_mod (q := h + n - k) hn
  have e2 := bf_mod (q := (h + n - k) % n) hn
  rw [Nat.mod_mod] at e2
  rw [← e2, e1, show h + n - k + n - 1 = (h + n - (k + 1)) + n by omega, Nat.add_mod_right]
theorem row_0 {n h : Nat} {f : Nat → Int32} (hh : h < n) (h0 : ¬ f h = -1) : ∀ j, j ≤ 0 → ¬ f ((h + n - j) % n) = -1 := by
  intro j hj
  obtain rfl : j = 0 := by omega
  rw [Nat.sub_zero, Nat.add_mod_right, Nat.mod_eq_of_lt hh]
  exact h0
theorem row_s {n h k : Nat} {f : Nat → Int32} (hns : ∀ j, j ≤ k → ¬ f ((h + n - j) % n) = -1) (h0 : ¬ f ((h + n - (k + 1)) % n) = -1) : ∀ j, j ≤ k + 1 → ¬ f ((h + n - j) % n) = -1 := by
  intro j hj
  by_cases e : j = k + 1
  · rw [e]; exact h0
  · exact hns j (by omega)
theorem row_h {n h k : Nat} {f : Nat → Int32} (hh : h < n) (hns : ∀ j, j ≤ k → ¬ f ((h + n - j) % n) = -1) : ¬ f h = -1 := by
  have := hns 0 (Nat.zero_le k)
  rw [Nat.sub_zero, Nat.add_mod_right, Nat.mod_eq_of_lt hh] at this
  exact this
theorem row_b {n h k : Nat} {f : Nat → Int32} (hn : 0 < n) (hh : h < n) (hk : k < n) (hns : ∀ j, j ≤ k → ¬ f ((h + n - j) % n) = -1) (hf : f ((h + n - (k + 1)) % n) = -1) : lf n f ((h + n - k) % n) = rl n f h := by
  have h0 := row_h hh hns
  have hk2 : k + 1 < n := by
    by_cases e : k + 1 = n
    · rw [e, show h + n - n = h by omega, Nat.mod_eq_of_lt hh] at hf
      exact absurd hf h0
    · omega
  have elb : lb n f h = k + 1 := by
    unfold lb
    exact fs_eq hk2 (fun i hi => decide_eq_false (hns i (by omega))) (decide_eq_true hf)
  have hL := lf_pos hn hh h0
  have hL2 : lf n f h ≤ n - (k + 1) := by
    by_cases e : lf n f h ≤ n - (k + 1)
    · exact e
    · have t : ¬ f ((h + (n - (k + 1))) % n) = -1 := of_decide_eq_false (fs_no (fun j => decide (f ((h + j) % n) = -1)) n 0 (n - (k + 1)) (Nat.zero_le _) (by show _ < lf n f h; omega))
      rw [show h + (n - (k + 1)) = h + n - (k + 1) by omega] at t
      exact absurd hf t
  have erl : rl n f h = k + lf n f h := by
    rw [rl_lf hn hh h0, elb, if_pos (by omega)]
    omega
  rw [erl]
  unfold lf
  refine fs_eq (by have : lf n f h < n - k := by omega
                   show k + lf n f h < n
                   omega) (fun i hi => decide_eq_false ?_) (decide_eq_true ?_)
  · by_cases e : i ≤ k
    · have := hns (k - i) (by omega)
      rw [Nat.mod_add_mod, show h + n - k + i = h + n - (k - i) by omega]
      exact this
    · have hi2 : i < k + lf n f h := hi
      have t : ¬ f ((h + (i - k)) % n) = -1 := of_decide_eq_false (fs_no (fun j => decide (f ((h + j) % n) = -1)) n 0 (i - k) (Nat.zero_le _) (by show _ < lf n f h; omega))
      rw [Nat.mod_add_mod, show h + n - k + i = h + (i - k) + n by omega, Nat.add_mod_right]
      exact t
  · have t : f ((h + lf n f h) % n) = -1 := of_decide_eq_true (fs_yes (fun j => decide (f ((h + j) % n) = -1)) n 0 (by show lf n f h < _; omega))
    show f (((h + n - k) % n + (k + lf n f h)) % n) = -1
    rw [Nat.mod_add_mod, show h + n - k + (k + lf n f h) = h + lf n f h + n by omega, Nat.add_mod_right]
    exact t
theorem row_a {n h k : Nat} {f : Nat → Int32} (hn : 0 < n) (hh : h < n) (hk : k = n) (hns : ∀ j, j ≤ k → ¬ f ((h + n - j) % n) = -1) : lf n f ((h + n - k) % n) = rl n f h := by
  subst hk
  have h0 := row_h hh hns
  have elb : lb k f h = k := by
    unfold lb
    exact fs_none (fun i hi => decide_eq_false (hns i (by omega)))
  have hL := lf_pos hn hh h0
  rw [rl_lf hn hh h0, elb, if_neg (by omega)]
  unfold lf
  refine fs_none (fun i hi => decide_eq_false ?_)
  have := hns (k - i) (by omega)
  rw [Nat.mod_add_mod, show h + k - k + i = h + k - (k - i) by omega]
  exact this
/-! sweeping, whatever the order -/
def Stb (n : Nat) (F : Nat → Int32) : Prop := ∀ k, k < n → ¬ (F k = -2 ∧ F ((k + 1) % n) = -1)
def Fin_ (n : Nat) (f B : Nat → Int32) : Prop := ∀ k, k < n → B k = f k ∨ (f k = -2 ∧ B k = -1)
def Inv_ (n : Nat) (f B f1 : Nat → Int32) : Prop := ∀ k, k < n → f1 k = f k ∨ (f k = -2 ∧ f1 k = -1 ∧ B k = -1)
theorem inv_0 {n : Nat} {f B : Nat → Int32} : Inv_ n f B f := fun _ _ => Or.inl rfl
theorem inv_fin {n : Nat} {f B f1 : Nat → Int32} (h : Inv_ n f B f1) : Fin_ n f f1 := fun k hk => (h k hk).elim Or.inl (fun z => Or.inr ⟨z.1, z.2.1⟩)
theorem inv_step {n t : Nat} {f B f1 : Nat → Int32} (hn : 0 < n) (hB : Stb n B) (hF : Fin_ n f B) (hI : Inv_ n f B f1) (ht : t < n) (h1 : f1 t = -2) (h2 : f1 ((t + 1) % n) = -1) : Inv_ n f B (upd f1 t (-1)) := by
  have hm := Nat.mod_lt (t + 1) hn
  have b1 : B ((t + 1) % n) = -1 := by
    rcases hI _ hm with e | ⟨-, -, e⟩
    · rw [h2] at e
      rcases hF _ hm with e2 | ⟨e2, -⟩
      · rw [e2, ← e]
      · rw [← e] at e2; exact absurd e2 (by decide)
    · exact e
  have ft : f t = -2 := by
    rcases hI t ht with e | ⟨-, e, -⟩
    · rw [← e]; exact h1
    · rw [e] at h1; exact absurd h1 (by decide)
  have bt : B t = -1 := by
    rcases hF t ht with e | ⟨-, e⟩
    · exact absurd ⟨e.trans ft, b1⟩ (hB t ht)
    · exact e
  intro k hk
  by_cases e : k = t
  · rw [e, upd_same]; exact Or.inr ⟨ft, rfl, bt⟩
  · rw [upd_ne e]; exact hI k hk
theorem sw_inv {n : Nat} {f B : Nat → Int32} (hn : 0 < n) (hB : Stb n B) (hF : Fin_ n f B) : ∀ (q : Nat) (f1 : Nat → Int32) (a : Nat), Inv_ n f B f1 → Inv_ n f B (sw n q f1 a).1
  | 0, _, _, h => h
  | q + 1, f1, a, h => by
    rw [sw]
    by_cases c : f1 (q % n) = -2 ∧ f1 ((q + 1) % n) = -1
    · rw [if_pos c]
      refine sw_inv hn hB hF q _ _ (inv_step hn hB hF h (Nat.mod_lt q hn) c.1 ?_)
      rw [Nat.mod_add_mod]; exact c.2
    · rw [if_neg c]; exact sw_inv hn hB hF q _ _ h
theorem sw_fin {n : Nat} {f : Nat → Int32} (hn : 0 < n) : ∀ (q : Nat) (f1 : Nat → Int32) (a : Nat), Fin_ n f f1 → Fin_ n f (sw n q f1 a).1
  | 0, _, _, h => h
  | q + 1, f1, a, h => by
    rw [sw]
    by_cases c : f1 (q % n) = -2 ∧ f1 ((q + 1) % n) = -1
    · rw [if_pos c]
      refine sw_fin hn q _ _ (fun k hk => ?_)
      by_cases e : k = q % n
      · rw [e, upd_same]
        rcases h _ (Nat.mod_lt q hn) with e2 | ⟨-, e2⟩
        · exact Or.inr ⟨e2.symm.trans c.1, rfl⟩
        · rw [e2] at c; exact absurd c.1 (by decide)
      · rw [upd_ne e]; exact h k hk
    · rw [if_neg c]; exact sw_fin hn q _ _ h
theorem sw_keep {n : Nat} : ∀ (q : Nat) (f : Nat → Int32) (a k : Nat), q ≤ k → k < n → (sw n q f a).1 k = f k
  | 0, _, _, _, _, _ => rfl
  | q + 1, f, a, k, h1, h2 => by
    rw [sw, Nat.mod_eq_of_lt (show q < n by omega)]
    split
    · rw [sw_keep q _ _ k (by omega) h2, upd_ne (by omega)]
    · exact sw_keep q _ _ k (by omega) h2
theorem sw_round {n : Nat} : ∀ (q : Nat) (f : Nat → Int32) (a k : Nat), q ≤ n → k < q → k + 1 < n → ¬ ((sw n q f a).1 k = -2 ∧ (sw n q f a).1 (k + 1) = -1)
  | 0, _, _, _, _, h, _ => absurd h (Nat.not_lt_zero _)
  | q + 1, f, a, k, h0, h1, h2 => by
    rw [sw]
    by_cases e : k = q
    · subst e
      rw [Nat.mod_eq_of_lt (show k < n by omega), Nat.mod_eq_of_lt h2]
      split
      · rw [sw_keep k _ _ k (Nat.le_refl k) (by omega), upd_same]
        intro z; exact absurd z.1 (by decide)
      · rename_i c
        rw [sw_keep k _ _ k (Nat.le_refl k) (by omega), sw_keep k _ _ (k + 1) (by omega) h2]
        exact c
    · split
      · exact sw_round q _ _ k (by omega) (by omega) h2
      · exact sw_round q _ _ k (by omega) (by omega) h2
theorem sw_add {n : Nat} : ∀ (q : Nat) (f : Nat → Int32) (a : Nat), sw n (n + q) f a = sw n n (sw n q f a).1 (sw n q f a).2
  | 0, f, a => rfl
  | q + 1, f, a => by
    show sw n ((n + q) + 1) f a = _
    rw [sw, Nat.add_mod_left, show n + q + 1 = n + (q + 1) by omega, Nat.add_mod_left, sw]
    split
    · exact sw_add q _ _
    · exact sw_add q _ _
theorem sw_id {n : Nat} {F : Nat → Int32} (hn : 0 < n) (h : Stb n F) : ∀ q a, sw n q F a = (F, a)
  | 0, _ => rfl
  | q + 1, a => by
    rw [sw, if_neg (fun z => h (q % n) (Nat.mod_lt q hn) ⟨z.1, by rw [Nat.mod_add_mod]; exact z.2⟩)]
    exact sw_id hn h q a
theorem sw_stb {n : Nat} (hn : 0 < n) (f : Nat → Int32) : Stb n (sw n (2 * n) f 0).1 := by
  obtain ⟨m, rfl⟩ : ∃ m, n = m + 1 := ⟨n - 1, by omega⟩
  rw [show 2 * (m + 1) = (m + 1) + (m + 1) by omega, sw_add]
  generalize hr : sw (m + 1) (m + 1) f 0 = r
  have h1 : ∀ k, k + 1 < m + 1 → ¬ (r.1 k = -2 ∧ r.1 (k + 1) = -1) := fun k hk => by
    rw [← hr]; exact sw_round (m + 1) f 0 k (Nat.le_refl _) (by omega) hk
  by_cases c : r.1 m = -2 ∧ r.1 0 = -1
  · intro k hk
    by_cases e : k = m
    · subst e
      rw [sw, Nat.mod_eq_of_lt (show k < k + 1 by omega), Nat.mod_self, if_pos c, sw_keep k _ _ k (Nat.le_refl k) (by omega), upd_same]
      intro z; exact absurd z.1 (by decide)
    · rw [Nat.mod_eq_of_lt (show k + 1 < m + 1 by omega)]
      exact sw_round (m + 1) r.1 r.2 k (Nat.le_refl _) hk (by omega)
  · have hs : Stb (m + 1) r.1 := fun k hk => by
      by_cases e : k = m
      · subst e; rw [Nat.mod_self]; exact c
      · rw [Nat.mod_eq_of_lt (show k + 1 < m + 1 by omega)]; exact h1 k (by omega)
    rw [sw_id (Nat.succ_pos m) hs]
    exact hs
theorem ct_free {n t : Nat} {f : Nat → Int32} (ht : t < n) (h : f t = -2) : ct n (upd f t (-1)) (nI 2) + 1 = ct n f (nI 2) := by
  rw [← cw_ct, ← cw_ct]; exact cw_free ht h
theorem sw_cnt {n : Nat} (hn : 0 < n) : ∀ (q : Nat) (f : Nat → Int32) (a : Nat), (sw n q f a).2 + ct n (sw n q f a).1 (nI 2) = a + ct n f (nI 2)
  | 0, _, _ => rfl
  | q + 1, f, a => by
    rw [sw]
    by_cases c : f (q % n) = -2 ∧ f ((q + 1) % n) = -1
    · rw [if_pos c, sw_cnt hn q]
      have := ct_free (Nat.mod_lt q hn) c.1
      omega
    · rw [if_neg c, sw_cnt hn q]
/-- with which hooks sweeping begins -/
def sb (n : Nat) (f : Nat → Int32) : Nat → Int32 := if ct n f (nI 2) = n then (fun _ => -1) else f
theorem sb_y {n : Nat} {f : Nat → Int32} (h : ct n f (nI 2) = n) : sb n f = (fun _ => -1) := if_pos h
theorem sb_n {n : Nat} {f : Nat → Int32} (h : ¬ ct n f (nI 2) = n) : sb n f = f := if_neg h
theorem ct_0 {n : Nat} {v : Int32} {f : Nat → Int32} (h : ∀ k, k < n → ¬ st (f k) = v) : ct n f v = 0 := by
  unfold ct
  have : ∀ M, M ≤ n → fo (fun a i => if st (f i) = v then a + 1 else a) M 0 0 = 0 := by
    intro M
    induction M with
    | zero => intro _; rfl
    | succ M ih => intro hM; rw [fo_top, ih (by omega), if_neg (h M (by omega))]
  exact this n (Nat.le_refl n)
theorem ct_ext {n : Nat} {v : Int32} {f f2 : Nat → Int32} (h : ∀ k, k < n → f k = f2 k) : ct n f v = ct n f2 v := by
  unfold ct
  exact fo_cong n 0 0 (fun a j _ hj => by rw [h j (by omega)])
theorem sb_1 {n : Nat} (hn : 0 < n) (f : Nat → Int32) : (swp n f).1 = (sw n (2 * n) (sb n f) 0).1 := by
  unfold swp
  by_cases h : ct n f (nI 2) = n
  · rw [if_pos h, sb_y h, sw_id hn (fun k hk z => absurd z.1 (show ¬ (-1 : Int32) = -2 by decide))]
  · rw [if_neg h, sb_n h]
theorem swp_stb {n : Nat} (hn : 0 < n) (f : Nat → Int32) : Stb n (swp n f).1 := by
  rw [sb_1 hn]; exact sw_stb hn _
theorem swp_fin {n : Nat} (hn : 0 < n) (f : Nat → Int32) : Fin_ n (sb n f) (swp n f).1 := by
  rw [sb_1 hn]; exact sw_fin hn _ _ _ (fun k hk => Or.inl rfl)
theorem swp_cnt {n : Nat} (hn : 0 < n) (f : Nat → Int32) : (swp n f).2 + ct n (swp n f).1 (nI 2) = ct n f (nI 2) := by
  unfold swp
  by_cases h : ct n f (nI 2) = n
  · rw [if_pos h, h]
    show n + ct n (fun _ => -1) (nI 2) = n
    rw [ct_0 (f := fun _ => -1) (fun k hk => (show ¬ st (-1) = nI 2 by decide))]
    omega
  · rw [if_neg h]
    have := sw_cnt hn (2 * n) f 0
    omega
theorem swp_eq {n : Nat} {f f1 : Nat → Int32} (hn : 0 < n) (hs : Stb n f1) (hI : Inv_ n (sb n f) (swp n f).1 f1) : ∀ k, k < n → f1 k = (swp n f).1 k := by
  intro k hk
  have h2 : Inv_ n (sb n f) f1 (swp n f).1 := by
    rw [sb_1 hn]
    exact sw_inv hn hs (inv_fin hI) _ _ _ inv_0
  rcases hI k hk with e | ⟨e1, e2, e3⟩
  · rcases h2 k hk with e4 | ⟨e4, e5, e6⟩
    · rw [e, e4]
    · rw [e6, e5]
  · rw [e2, e3]
theorem stb_s {n j : Nat} {F : Nat → Int32} (h : ∀ k, k < j → ¬ (F k = -2 ∧ F ((k + 1) % n) = -1)) (h1 : ¬ (F j = -2 ∧ F ((j + 1) % n) = -1)) : ∀ k, k < j + 1 → ¬ (F k = -2 ∧ F ((k + 1) % n) = -1) := fun k hk => by
  by_cases e : k = j
  · rw [e]; exact h1
  · exact h k (by omega)
