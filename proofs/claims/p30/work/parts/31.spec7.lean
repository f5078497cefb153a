/-! pure words, on: what the reference's way of looking has to do with them -/
def MS (n w : Nat) (F V f g : Nat → Int32) : Prop := 3 ≤ n ∧ n ≤ 40 ∧ w ≤ 2 ∧ (∀ k, k < n → F k = f k) ∧ (∀ k, k < n → 0 ≤ f k → V k = g k) ∧ Ok n f g
def inc_ (n w x k : Nat) : Nat := if w = 0 then 1 else if w = 1 then k + 1 else 1 + x / n % (n - 1)
theorem tri (k : Nat) : (k + 1) * (k + 1 + 1) / 2 = k * (k + 1) / 2 + (k + 1) := by
  have h : (k + 1) * (k + 1 + 1) = k * (k + 1) + (k + 1) * 2 := by
    rw [show (k + 1) * (k + 1 + 1) = (k + 1) * (k + 2) from rfl, Nat.mul_add, Nat.mul_comm (k + 1) k]
  rw [h, Nat.add_mul_div_right _ _ (by decide)]
theorem of_step {n w x k : Nat} (hw : w ≤ 2) : of_ n w x (k + 1) = of_ n w x k + inc_ n w x k := by
  unfold of_ inc_
  rcases (show w = 0 ∨ w = 1 ∨ w = 2 by omega) with rfl | rfl | rfl
  · simp
  · simp only [if_pos, show (1 : Nat) ≠ 0 from by decide, if_false]
    exact tri k
  · simp only [show (2 : Nat) ≠ 1 from by decide, show (2 : Nat) ≠ 0 from by decide, if_false, if_pos]
    rw [Nat.add_mul, Nat.one_mul]
theorem at_step {n w x k : Nat} (hw : w ≤ 2) : (at_ n w x k + inc_ n w x k) % n = at_ n w x (k + 1) := by
  unfold at_
  rw [of_step hw, Nat.mod_add_mod, Nat.add_assoc]
theorem at_0 {n w x : Nat} : x % n = at_ n w x 0 := by
  unfold at_ of_
  split
  · simp
  · split
    · simp
    · simp
theorem inc_s {n w x k : Nat} (h0 : ¬ w = 0) (h1 : ¬ w = 1) : 1 + ((x / n) % (n - 1)) = inc_ n w x k := by unfold inc_; rw [if_neg h0, if_neg h1]
theorem inc_1 {n w x k : Nat} (h1 : w = 1) : k + 1 = inc_ n w x k := by unfold inc_; rw [if_neg (by omega), if_pos h1]
theorem inc_0 {n w x k : Nat} (h0 : w = 0) : 1 = inc_ n w x k := by unfold inc_; rw [if_pos h0]
theorem lk_at {n w : Nat} {f : Nat → Int32} {x k : Nat} (hk : k < n) (hns : ∀ j, j < k → sp n w f x j = false) (hp : f (at_ n w x k) = nI x ∨ f (at_ n w x k) = -1) : lk n w f x = k + 1 := by
  have e : fs (sp n w f x) n 0 = k := fs_eq hk hns (sp_t hp)
  unfold lk
  rw [e, if_pos hk]
theorem la_at {n w : Nat} {f : Nat → Int32} {x k : Nat} (hk : k < n) (hns : ∀ j, j < k → sp n w f x j = false) (hp : f (at_ n w x k) = nI x ∨ f (at_ n w x k) = -1) : la n w f x = at_ n w x k := by
  unfold la
  rw [lk_at hk hns hp, Nat.add_sub_cancel]
theorem lk_all {n w : Nat} {f : Nat → Int32} {x : Nat} (hns : ∀ j, j < n → sp n w f x j = false) : lk n w f x = n := by
  have a := fs_le (sp n w f x) n 0
  have e : ¬ fs (sp n w f x) n 0 < n := by
    intro h
    have b := fs_yes (sp n w f x) n 0 (by omega)
    rw [hns _ h] at b
    exact absurd b (by decide)
  unfold lk
  rw [if_neg e]
theorem la_all {n w : Nat} {f : Nat → Int32} {x : Nat} (hn : 0 < n) (hns : ∀ j, j < n → sp n w f x j = false) : ¬ f (la n w f x) = nI x ∧ ¬ f (la n w f x) = -1 := by
  have h := of_decide_eq_false (hns (n - 1) (by omega))
  unfold la
  rw [lk_all hns]
  exact ⟨fun z => h (Or.inl z), fun z => h (Or.inr z)⟩
theorem nx_m1 {x : Nat} (hx : x ≤ 9999) {y : Int32} (h : y = nI x) : ¬ y = -1 := fun z => ne_m1 (by omega) (h.symm.trans z)
theorem nx_m2 {x : Nat} (hx : x ≤ 9999) {y : Int32} (h : y = nI x) : ¬ y = -2 := fun z => ne_m2 (by omega) (h.symm.trans z)
theorem tk_stop {n w : Nat} {f : Nat → Int32} {x k : Nat} (h : ¬ f (at_ n w x k) = -2) : tk n w f x (k + 1) = tk n w f x k := by rw [tk, if_neg (fun z => h z.2)]
theorem tk_more {n w : Nat} {f : Nat → Int32} {x k : Nat} (h : ¬ tk n w f x k = -1) : tk n w f x (k + 1) = tk n w f x k := by rw [tk, if_neg (fun z => h z.1)]
theorem ns_s {n w : Nat} {f : Nat → Int32} {x k : Nat} (hns : ∀ j, j < k → sp n w f x j = false) (h1 : ¬ f (at_ n w x k) = nI x) (h2 : ¬ f (at_ n w x k) = -1) : ∀ j, j < k + 1 → sp n w f x j = false := by
  intro j hj
  by_cases e : j = k
  · rw [e]; exact sp_f h1 h2
  · exact hns j (by omega)
/-- is it in a range: 1 or 0 -/
def isI (v a b : Int32) : Int32 := if a ≤ v ∧ v ≤ b then nI 1 else nI 0
theorem isI_01 (v a b : Int32) : isI v a b = 0 ∨ isI v a b = 1 := by unfold isI; split; exact Or.inr rfl; exact Or.inl rfl
theorem isI_no {v : Int32} {a b : Nat} (ha : a < 2 ^ 31) (hb : b < 2 ^ 31) (h : isI v (nI a) (nI b) = 0) : ¬ rg a b v := by
  rintro ⟨k, h1, h2, rfl⟩
  unfold isI at h
  rw [if_pos ⟨(nI_leI ha (by omega)).mpr h1, (nI_leI (by omega) hb).mpr h2⟩] at h
  exact absurd h (by decide)
theorem isI_yes {v : Int32} {a b : Nat} (hab : a ≤ b) (hb : b < 2 ^ 31) (h : ¬ isI v (nI a) (nI b) = 0) : rg a b v := by
  unfold isI at h
  split at h
  · rename_i h1
    refine rg_in hb hab (fun z => ?_) h1.2
    have := h1.1
    rw [Int32.le_iff_toInt_le] at this
    rw [Int32.lt_iff_toInt_lt] at z
    omega
  · exact absurd rfl h
theorem rg_rh {n : Nat} {v : Int32} (hn : 3 ≤ n) : rg 0 (n - 1) v ↔ rh n v := by
  constructor
  · rintro ⟨k, -, h2, h3⟩; exact ⟨k, by omega, h3⟩
  · rintro ⟨k, h2, h3⟩; exact ⟨k, Nat.zero_le k, by omega, h3⟩
/-- how many hooks hold just this -/
def cw (n : Nat) (f : Nat → Int32) (v : Int32) : Nat := fo (fun a i => if f i = v then a + 1 else a) n 0 0
theorem st_i2 {x : Int32} : st x = nI 2 ↔ x = -2 := ⟨st_2, fun h => by rw [h]; decide⟩
theorem cw_ct (n : Nat) (f : Nat → Int32) : cw n f (-2) = ct n f (nI 2) := by
  unfold cw ct
  refine fo_cong n 0 0 (fun a j _ _ => ?_)
  by_cases h : f j = -2
  · rw [if_pos h, if_pos (st_i2.mpr h)]
  · rw [if_neg h, if_neg (fun z => h (st_i2.mp z))]
theorem st_i1 {n : Nat} {f g : Nat → Int32} (hO : Ok n f g) {k : Nat} (hk : k < n) : st (f k) = nI 1 ↔ 0 ≤ f k := by
  rcases hO k hk with ⟨h, -⟩ | ⟨h, -⟩ | ⟨x, y, hx, h, -⟩
  · rw [h]; decide
  · rw [h]; decide
  · rw [h]
    constructor
    · intro _; exact nI_pos' (by omega)
    · intro _
      unfold st
      rw [if_neg (ne_m1 (by omega)), if_neg (ne_m2 (by omega))]
def mn (n : Nat) (f : Nat → Int32) : Nat := fo (fun a i => if 0 ≤ f i then a + 1 else a) n 0 0
theorem mn_ct {n : Nat} {f g : Nat → Int32} (hO : Ok n f g) : mn n f = ct n f (nI 1) := by
  unfold mn ct
  refine fo_cong n 0 0 (fun a j _ hj => ?_)
  have h := st_i1 hO (show j < n by omega)
  by_cases h0 : 0 ≤ f j
  · rw [if_pos h0, if_pos (h.mpr h0)]
  · rw [if_neg h0, if_neg (fun z => h0 (h.mp z))]
theorem st_st (x : Int32) : st x = if x = -1 then nI 0 else if x = -2 then nI 2 else nI 1 := rfl
theorem cn_max (x : Int32) (h : x = -1 ∨ x = -2 ∨ 0 ≤ x) : (if (-1 : Int32) < x then x else -1) = cn x := by
  rcases h with rfl | rfl | h
  · decide
  · decide
  · rw [cn_id h, if_pos]
    rw [Int32.le_iff_toInt_le] at h
    rw [Int32.lt_iff_toInt_lt]
    have e1 : (0 : Int32).toInt = 0 := rfl
    have e2 : (-1 : Int32).toInt = -1 := rfl
    omega
theorem Ok.three {n : Nat} {f g : Nat → Int32} (h : Ok n f g) {k : Nat} (hk : k < n) : f k = -1 ∨ f k = -2 ∨ 0 ≤ f k := by
  rcases h k hk with ⟨h1, -⟩ | ⟨h1, -⟩ | ⟨x, y, hx, h1, -⟩
  · exact Or.inl h1
  · exact Or.inr (Or.inl h1)
  · exact Or.inr (Or.inr (by rw [h1]; exact nI_pos' (by omega)))
theorem Ok.st3 {n : Nat} {f g : Nat → Int32} (h : Ok n f g) {k : Nat} (hk : k < n) (h1 : ¬ f k = -1) (h2 : ¬ f k = -2) : 0 ≤ f k := by
  rcases h.three hk with a | a | a
  · exact absurd a h1
  · exact absurd a h2
  · exact a
