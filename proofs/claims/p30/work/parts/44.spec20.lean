/-! the law's own hooks by hand: what its rows hold -/
def tz (x : Int32) : Int32 := if x = -2 then nI 1 else nI 0
def fz (x : Int32) : Int32 := if x = -1 then nI 1 else nI 0
def SS (n w : Nat) (C V Z f g : Nat → Int32) : Prop := 3 ≤ n ∧ n ≤ 40 ∧ w ≤ 2 ∧ (∀ k, k < n → C k = cn (f k)) ∧ (∀ k, k < n → 0 ≤ f k → V k = g k) ∧ (∀ k, k < n → Z k = tz (f k)) ∧ Ok n f g
theorem tz_0 {x : Int32} (h : tz x = 0) : ¬ x = -2 := by
  intro e
  rw [e] at h
  exact absurd h (by decide)
theorem tz_1 {x : Int32} (h : ¬ tz x = 0) : x = -2 := by
  by_cases e : x = -2
  · exact e
  · exact absurd (if_neg e) h
theorem fz_0 {x : Int32} (h : fz x = 0) : ¬ x = -1 := by
  intro e
  rw [e] at h
  exact absurd h (by decide)
theorem fz_1 {x : Int32} (h : ¬ fz x = 0) : x = -1 := by
  by_cases e : x = -1
  · exact e
  · exact absurd (if_neg e) h
theorem fz_01 (x : Int32) : fz x = 0 ∨ fz x = 1 := by unfold fz; split; exact Or.inr rfl; exact Or.inl rfl
theorem fz_c {x : Int32} (h : 0 ≤ cn x) : nI 0 = fz x := by
  by_cases e : x = -1
  · rw [e] at h; exact absurd h (by decide)
  · exact (if_neg e).symm
theorem fz_t {x : Int32} (h : ¬ tz x = 0) : nI 0 = fz x := by
  rw [tz_1 h]; decide
theorem fz_y {x : Int32} (h3 : x = -1 ∨ x = -2 ∨ 0 ≤ x) (h1 : ¬ 0 ≤ cn x) (h2 : tz x = 0) : nI 1 = fz x := by
  rcases h3 with h | h | h
  · exact (if_pos h).symm
  · exact absurd h (tz_0 h2)
  · exact absurd (by rw [cn_id h]; exact h) h1
theorem cn_nx {y : Int32} {x : Nat} (hx : x ≤ 9999) (h : cn y = nI x) : y = nI x := by
  by_cases h0 : 0 ≤ y
  · rw [cn_id h0] at h; exact h
  · unfold cn at h
    rw [if_neg h0] at h
    exact absurd h.symm (ne_m1 (by omega))
theorem nx_cn {y : Int32} {x : Nat} (hx : x ≤ 9999) (h : y = nI x) : cn y = nI x := by
  rw [h]
  exact cn_id (nI_pos' (by omega))
theorem cn_0 {y : Int32} (h : 0 ≤ cn y) : 0 ≤ y := by
  by_cases h0 : 0 ≤ y
  · exact h0
  · unfold cn at h
    rw [if_neg h0] at h
    exact absurd h (by decide)
theorem cn_n {y : Int32} (h : ¬ 0 ≤ cn y) : ¬ 0 ≤ y := fun h0 => h (by rw [cn_id h0]; exact h0)
theorem cn_neg {y : Int32} (h : ¬ 0 ≤ y) : cn y = -1 := if_neg h
theorem st_t1 {x : Int32} (h : ¬ tz x = 0) : st x = nI 2 := by rw [tz_1 h]; decide
theorem st_t0 {x : Int32} (h : tz x = 0) : ¬ st x = nI 2 := fun e => tz_0 h (st_2 e)
theorem cn_m1 : cn (-1) = -1 := by decide
/-- no coat hangs on two hooks -/
def Ds (n : Nat) (f : Nat → Int32) : Prop := ∀ i j, i < n → j < n → 0 ≤ f i → f i = f j → i = j
theorem SS.ext {n w : Nat} {C V Z f g f2 : Nat → Int32} (S : SS n w C V Z f g) (h : ∀ k, k < n → f k = f2 k) : SS n w C V Z f2 g := by
  obtain ⟨a1, a2, a3, a4, a5, a6, a7⟩ := S
  refine ⟨a1, a2, a3, fun k hk => ?_, fun k hk => ?_, fun k hk => ?_, fun k hk => ?_⟩
  · rw [← h k hk]; exact a4 k hk
  · rw [← h k hk]; exact a5 k hk
  · rw [← h k hk]; exact a6 k hk
  · have := a7 k hk; rw [h k hk] at this; exact this
theorem RS.ext {n w : Nat} {F G f g f2 : Nat → Int32} (S : RS n w F G f g) (h : ∀ k, k < n → f k = f2 k) : RS n w F G f2 g := by
  obtain ⟨a1, a2, a3, a4, a5, a7⟩ := S
  refine ⟨a1, a2, a3, fun k hk => (a4 k hk).trans (h k hk), a5, fun k hk => ?_⟩
  have := a7 k hk; rw [h k hk] at this; exact this
theorem SS.put {n w : Nat} {C V Z f g : Nat → Int32} (S : SS n w C V Z f g) {p x y : Nat} (hx : x ≤ 9999) (h1 : 1 ≤ y) (h2 : y ≤ 99) {v : Int32} (hv : v = nI y) : SS n w (upd C p (nI x)) (upd V p v) (upd Z p (nI 0)) (upd f p (nI x)) (upd g p v) := by
  obtain ⟨a1, a2, a3, a4, a5, a6, a7⟩ := S
  refine ⟨a1, a2, a3, fun k hk => ?_, fun k hk h0 => ?_, fun k hk => ?_, a7.put hx h1 h2 hv⟩
  · by_cases e : k = p
    · rw [e, upd_same, upd_same, cn_id (nI_pos' (by omega))]
    · rw [upd_ne e, upd_ne e]; exact a4 k hk
  · by_cases e : k = p
    · rw [e, upd_same, upd_same]
    · rw [upd_ne e] at h0
      rw [upd_ne e, upd_ne e]; exact a5 k hk h0
  · by_cases e : k = p
    · rw [e, upd_same, upd_same]; exact (if_neg (ne_m2 (by omega))).symm
    · rw [upd_ne e, upd_ne e]; exact a6 k hk
theorem SS.tick {n w : Nat} {C V Z f g : Nat → Int32} (S : SS n w C V Z f g) (p : Nat) : SS n w (upd C p (-1)) V (upd Z p (nI 1)) (upd f p (-2)) (upd g p (nI 0)) := by
  obtain ⟨a1, a2, a3, a4, a5, a6, a7⟩ := S
  refine ⟨a1, a2, a3, fun k hk => ?_, fun k hk h0 => ?_, fun k hk => ?_, fun k hk => ?_⟩
  · by_cases e : k = p
    · rw [e, upd_same, upd_same]; decide
    · rw [upd_ne e, upd_ne e]; exact a4 k hk
  · by_cases e : k = p
    · rw [e, upd_same] at h0; exact absurd h0 (by decide)
    · rw [upd_ne e] at h0
      rw [upd_ne e]; exact a5 k hk h0
  · by_cases e : k = p
    · rw [e, upd_same, upd_same]; decide
    · rw [upd_ne e, upd_ne e]; exact a6 k hk
  · by_cases e : k = p
    · rw [e, upd_same, upd_same]; exact Or.inr (Or.inl ⟨rfl, rfl⟩)
    · rw [upd_ne e, upd_ne e]; exact a7 k hk
theorem SS.free {n w t : Nat} {C V Z f g : Nat → Int32} (S : SS n w C V Z f g) (ht : t < n) (h : f t = -2) : SS n w C V (upd Z t (nI 0)) (upd f t (-1)) g := by
  obtain ⟨a1, a2, a3, a4, a5, a6, a7⟩ := S
  refine ⟨a1, a2, a3, fun k hk => ?_, fun k hk h0 => ?_, fun k hk => ?_, fun k hk => ?_⟩
  · by_cases e : k = t
    · rw [e, upd_same, a4 t ht, h]; decide
    · rw [upd_ne e]; exact a4 k hk
  · by_cases e : k = t
    · rw [e, upd_same] at h0; exact absurd h0 (by decide)
    · rw [upd_ne e] at h0; exact a5 k hk h0
  · by_cases e : k = t
    · rw [e, upd_same, upd_same]; decide
    · rw [upd_ne e, upd_ne e]; exact a6 k hk
  · by_cases e : k = t
    · rw [e, upd_same]; exact Or.inl ⟨rfl, (a7.neg ht (by rw [h]; decide)).2⟩
    · rw [upd_ne e]; exact a7 k hk
theorem SS.all {n w : Nat} {C V Z f g Z3 : Nat → Int32} (S : SS n w C V Z f g) (h : ct n f (nI 2) = n) (hZ : ∀ k, k < n → Z3 k = nI 0) : SS n w C V Z3 (fun _ => -1) g := by
  obtain ⟨a1, a2, a3, a4, a5, a6, a7⟩ := S
  have ha : ∀ k, k < n → f k = -2 := fun k hk => st_2 (ct_all n h k hk)
  refine ⟨a1, a2, a3, fun k hk => ?_, fun k hk h0 => absurd h0 (show ¬ (0 : Int32) ≤ -1 by decide), fun k hk => ?_, fun k hk => ?_⟩
  · rw [a4 k hk, ha k hk]; exact (show cn (-2) = cn (-1) by decide)
  · rw [hZ k hk]; exact (show nI 0 = tz (-1) by decide)
  · exact Or.inl ⟨rfl, (a7.neg hk (by rw [ha k hk]; decide)).2⟩
/-- all hooks free -/
theorem SS.clear {N w : Nat} {C V Z : Nat → Int32} (h3 : 3 ≤ N) (h40 : N ≤ 40) (hw : w ≤ 2) (hC : ∀ k, k < N → C k = -1) (hZ : ∀ k, k < N → Z k = nI 0) : SS N w C V Z (fun _ => -1) (fun _ => nI 0) :=
  ⟨h3, h40, hw, fun k hk => (hC k hk).trans cn_m1.symm, fun k hk h0 => absurd h0 (show ¬ (0 : Int32) ≤ -1 by decide), fun k hk => (hZ k hk).trans (show nI 0 = tz (-1) by decide), fun k hk => Or.inl ⟨rfl, rfl⟩⟩
/-- what is hung anew came of the hooks before -/
theorem hs_none {N x : Nat} {T : Nat → Int32} (h : ∀ k, k < N → ¬ T k = nI x) : hs N T x = 0 := by
  unfold hs
  rw [if_neg]
  intro h1
  have h2 := fs_yes (fun i => decide (T i = nI x)) N 0 (by omega)
  exact h _ h1 (of_decide_eq_true h2)
theorem hs_some {N x : Nat} {T : Nat → Int32} (h : ¬ hs N T x = 0) : ∃ k, k < N ∧ T k = nI x := by
  unfold hs at h
  split at h
  · rename_i h1
    exact ⟨_, h1, of_decide_eq_true (fs_yes (fun i => decide (T i = nI x)) N 0 (by omega))⟩
  · exact absurd rfl h
def cmf (i N : Nat) (f T : Nat → Int32) : Prop := ∀ k, k < N → 0 ≤ T k → ∃ j, j < i ∧ T k = f j
theorem cmf_s {i N : Nat} {f T : Nat → Int32} (h : cmf i N f T) : cmf (i + 1) N f T := fun k hk h0 => by
  obtain ⟨j, hj, e⟩ := h k hk h0
  exact ⟨j, by omega, e⟩
theorem cmf_put {i N p : Nat} {f T : Nat → Int32} {v : Int32} (h : cmf i N f T) (hv : v = f i) : cmf (i + 1) N f (upd T p v) := fun k hk h0 => by
  by_cases e : k = p
  · rw [e, upd_same]; exact ⟨i, by omega, hv⟩
  · rw [upd_ne e] at h0 ⊢
    exact cmf_s h k hk h0
theorem cmf_hs {n i N x : Nat} {f T : Nat → Int32} (hd : Ds n f) (hi : i < n) (hx : x ≤ 9999) (ex : f i = nI x) (h : cmf i N f T) : hs N T x = 0 := by
  refine hs_none (fun k hk e => ?_)
  obtain ⟨j, hj, e2⟩ := h k hk (by rw [e]; exact nI_pos' (by omega))
  have := hd i j hi (by omega) (by rw [ex]; exact nI_pos' (by omega)) (by rw [ex, ← e, e2])
  omega
theorem cmf_0 {N : Nat} {f : Nat → Int32} : cmf 0 N f (fun _ => -1) := fun _ _ h => absurd h (show ¬ (0 : Int32) ≤ -1 by decide)
theorem pl_op {N w x : Nat} {T : Nat → Int32} (h : hs N T x = 0) : pl N w T x = op N w T x := if_pos h
theorem op_neg {N w x : Nat} {T : Nat → Int32} (hN : 0 < N) (hN40 : N ≤ 40) (h : ¬ 0 ≤ op N w T x) : op N w T x = -1 := by
  by_cases e : op N w T x = -1
  · exact e
  · obtain ⟨p, hp, e2, -⟩ := op_cases hN e
    exact absurd (by rw [e2]; exact nI_pos' (by omega)) h
theorem ge_m1 {x : Int32} (h : 0 ≤ x) : ¬ x = -1 := fun e => by rw [e] at h; exact absurd h (by decide)
