/-! pure words, on: ranges of arguments, hanging anew, what would be -/
def rg (a b : Nat) (x : Int32) : Prop := ∃ v : Nat, a ≤ v ∧ v ≤ b ∧ x = nI v
theorem rg_lo {a b : Nat} {x : Int32} (hb : b < 2 ^ 31) (h : x < nI a) : ¬ rg a b x := by
  rintro ⟨v, h1, h2, rfl⟩
  have := (nI_ltI (by omega) (by omega)).mp h
  omega
theorem rg_lo0 {a b : Nat} {x : Int32} (hb : b < 2 ^ 31) (h : x < 0) : ¬ rg a b x := by
  rintro ⟨v, h1, h2, rfl⟩
  exact nI_pos (by omega) h
theorem rg_hi {a b : Nat} {x : Int32} (hb : b < 2 ^ 31) (h : ¬ x ≤ nI b) : ¬ rg a b x := by
  rintro ⟨v, h1, h2, rfl⟩
  exact h ((nI_leI (by omega) (by omega)).mpr h2)
theorem rg_in0 {b : Nat} {x : Int32} (hb : b < 2 ^ 31) (h1 : ¬ x < 0) (h2 : x ≤ nI b) : rg 0 b x := by
  obtain ⟨j, hj, e⟩ := nI_of2 (n := b) (nI_toInt hb) h1 h2
  exact ⟨j, Nat.zero_le j, hj, e⟩
theorem rg_in {a b : Nat} {x : Int32} (hb : b < 2 ^ 31) (hab : a ≤ b) (h1 : ¬ x < nI a) (h2 : x ≤ nI b) : rg a b x := by
  have h0 : ¬ x < 0 := by
    intro h
    refine h1 ?_
    have e1 := nI_toInt (show a < 2 ^ 31 by omega)
    rw [Int32.lt_iff_toInt_lt] at h ⊢
    rw [e1]
    have : (0 : Int32).toInt = 0 := rfl
    omega
  obtain ⟨j, hj, e⟩ := nI_of2 (n := b) (nI_toInt hb) h0 h2
  refine ⟨j, ?_, hj, e⟩
  by_cases h : a ≤ j
  · exact h
  · exact absurd (by rw [e]; exact (nI_ltI (by omega) (by omega)).mpr (by omega)) h1
theorem rg_lt {a b c : Nat} {x : Int32} (hb : b < 2 ^ 31) (h : ¬ x < nI c) (hc : c = b + 1) (h2 : c < 2 ^ 31) : ¬ rg a b x := by
  rintro ⟨v, h1, h3, rfl⟩
  exact h ((nI_ltI (by omega) (by omega)).mpr (by omega))
theorem rg_inlt {b c : Nat} {x : Int32} (hc : c = b + 1) (h3 : c < 2 ^ 31) (h1 : ¬ x < 0) (h2 : x < nI c) : rg 0 b x := by
  obtain ⟨j, hj, e⟩ := nI_of h1
  rw [e] at h2
  have := (nI_ltI hj h3).mp h2
  exact ⟨j, Nat.zero_le j, by omega, e⟩
/-- a hook that there is -/
def rh (n : Nat) (x : Int32) : Prop := ∃ k : Nat, k < n ∧ x = nI k
theorem rh_lo {n : Nat} {x : Int32} (hn : n ≤ 40) (h : x < 0) : ¬ rh n x := by
  rintro ⟨v, h1, rfl⟩
  exact nI_pos (by omega) h
theorem rh_hi {n : Nat} {x : Int32} (hn : n ≤ 40) (h : ¬ x < nI n) : ¬ rh n x := by
  rintro ⟨v, h1, rfl⟩
  exact h ((nI_ltI (by omega) (by omega)).mpr h1)
theorem rh_in {n : Nat} {x : Int32} (hn : n ≤ 40) (h1 : ¬ x < 0) (h2 : x < nI n) : rh n x := by
  obtain ⟨j, hj, e⟩ := nI_of h1
  rw [e] at h2
  exact ⟨j, (nI_ltI hj (by omega)).mp h2, e⟩
theorem cn_id {x : Int32} (h : 0 ≤ x) : cn x = x := if_pos h
theorem cn_ge {x : Int32} (h : ¬ cn x = -1) : 0 ≤ x := by
  by_cases h0 : 0 ≤ x
  · exact h0
  · exact absurd (if_neg h0) h
theorem cn_lt {x : Int32} (h : cn x = -1) : ¬ 0 ≤ x := by
  intro h0
  rw [cn_id h0] at h
  rw [h] at h0
  exact absurd h0 (by decide)
theorem cn_hd {n : Nat} {f : Nat → Int32} {k : Nat} (h : k < n) : cn (hd n f k) = cn (f k) := by rw [hd_in h]
/-- hanging anew: hooks N, way w; c coats' hooks from i on; the new hooks T, their weights U, the looks so far -/
def hg (N w : Nat) (f g : Nat → Int32) : Nat → Nat → (Nat → Int32) → (Nat → Int32) → Nat → Option ((Nat → Int32) × (Nat → Int32) × Nat)
  | 0, _, T, U, s => some (T, U, s)
  | q + 1, i, T, U, s => if 0 ≤ f i then
      (if T (la N w T (f i).toNatClampNeg) = -1 then hg N w f g q (i + 1) (upd T (la N w T (f i).toNatClampNeg) (f i)) (upd U (la N w T (f i).toNatClampNeg) (g i)) (s + lk N w T (f i).toNatClampNeg) else none)
    else hg N w f g q (i + 1) T U s
def HG (n : Nat) (f g : Nat → Int32) (N w : Nat) : Option ((Nat → Int32) × (Nat → Int32) × Nat) := hg N w f g n 0 (fun _ => -1) (fun _ => nI 0) 0
theorem hg_y {N w : Nat} {f g : Nat → Int32} {q i x s : Nat} {T U : Nat → Int32} {V : Option ((Nat → Int32) × (Nat → Int32) × Nat)} (h0 : 0 ≤ f i) (ex : f i = nI x) (ez : (f i).toNatClampNeg = x) (hf : T (la N w T x) = -1) (h : hg N w f g (q + 1) i T U s = V) : hg N w f g q (i + 1) (upd T (la N w T x) (nI x)) (upd U (la N w T x) (g i)) (s + lk N w T x) = V := by
  rw [hg, if_pos h0, ez, if_pos hf, ex] at h
  exact h
theorem hg_no {N w : Nat} {f g : Nat → Int32} {q i x s : Nat} {T U : Nat → Int32} {V : Option ((Nat → Int32) × (Nat → Int32) × Nat)} (h0 : 0 ≤ f i) (ez : (f i).toNatClampNeg = x) (hf : ¬ T (la N w T x) = -1) (h : hg N w f g (q + 1) i T U s = V) : V = none := by
  rw [hg, if_pos h0, ez, if_neg hf] at h
  exact h.symm
theorem hg_n {N w : Nat} {f g : Nat → Int32} {q i s : Nat} {T U : Nat → Int32} {V : Option ((Nat → Int32) × (Nat → Int32) × Nat)} (h0 : ¬ 0 ≤ f i) (h : hg N w f g (q + 1) i T U s = V) : hg N w f g q (i + 1) T U s = V := by
  rw [hg, if_neg h0] at h
  exact h
/-- no tickets -/
def nt (N : Nat) (T : Nat → Int32) : Prop := ∀ k, k < N → T k ≠ -2
theorem nt_tk {N w : Nat} {T : Nat → Int32} (hN : 0 < N) (h : nt N T) (x : Nat) : ∀ k, tk N w T x k = -1
  | 0 => rfl
  | k + 1 => by rw [tk, if_neg (fun z => h _ (at_lt hN w x k) z.2)]; exact nt_tk hN h x k
theorem nt_op {N w : Nat} {T : Nat → Int32} (hN : 0 < N) (h : nt N T) (x : Nat) : op N w T x = fr N w T x := by
  unfold op
  rw [if_pos (nt_tk hN h x _)]
theorem la_lt {n : Nat} (hn : 0 < n) (w : Nat) (f : Nat → Int32) (x : Nat) : la n w f x < n := at_lt hn w x _
theorem nt_free {N w : Nat} {T : Nat → Int32} {x : Nat} (hN : 0 < N) (h : nt N T) (hop : ¬ op N w T x = -1) : T (la N w T x) = -1 ∧ op N w T x = nI (la N w T x) := by
  rw [nt_op hN h] at hop ⊢
  unfold fr at hop ⊢
  by_cases e : T (la N w T x) = -1
  · rw [if_pos e]; exact ⟨e, rfl⟩
  · rw [if_neg e] at hop; exact absurd rfl hop
theorem nt_full {N w : Nat} {T : Nat → Int32} {x : Nat} (hN : 0 < N) (hN40 : N ≤ 40) (h : nt N T) (hop : op N w T x = -1) : ¬ T (la N w T x) = -1 := by
  rw [nt_op hN h] at hop
  unfold fr at hop
  intro e
  rw [if_pos e] at hop
  exact ne_m1 (by have := la_lt hN w T x; omega) hop
theorem upd_same {F : Nat → Int32} {k : Nat} {v : Int32} : upd F k v k = v := by unfold upd; exact if_pos rfl
theorem upd_ne {F : Nat → Int32} {k j : Nat} {v : Int32} (h : j ≠ k) : upd F k v j = F j := by unfold upd; exact if_neg h
theorem nt_put {N p : Nat} {T : Nat → Int32} {x : Nat} (h : nt N T) (hx : x ≤ 9999) : nt N (upd T p (nI x)) := by
  intro k hk
  by_cases e : k = p
  · rw [e, upd_same]; exact ne_m2 (by omega)
  · rw [upd_ne e]; exact h k hk
theorem Ok.wt {n : Nat} {f g : Nat → Int32} (h : Ok n f g) {k : Nat} (hk : k < n) (h0 : 0 ≤ f k) : ∃ y : Nat, 1 ≤ y ∧ y ≤ 99 ∧ g k = nI y := by
  rcases h k hk with ⟨h1, -⟩ | ⟨h1, -⟩ | ⟨x, y, hx, h1, h2, h3, h4⟩
  · rw [h1] at h0; exact absurd h0 (by decide)
  · rw [h1] at h0; exact absurd h0 (by decide)
  · exact ⟨y, h2, h3, h4⟩
theorem Ok.put {n : Nat} {f g : Nat → Int32} (h : Ok n f g) {p x y : Nat} (hx : x ≤ 9999) (h1 : 1 ≤ y) (h2 : y ≤ 99) {v : Int32} (hv : v = nI y) : Ok n (upd f p (nI x)) (upd g p v) := by
  intro k hk
  by_cases e : k = p
  · rw [e, upd_same, upd_same]; exact Or.inr (Or.inr ⟨x, y, hx, rfl, h1, h2, hv⟩)
  · rw [upd_ne e, upd_ne e]; exact h k hk
theorem RS.put {n w : Nat} {F G f g : Nat → Int32} (S : RS n w F G f g) {p x y : Nat} (hx : x ≤ 9999) (h1 : 1 ≤ y) (h2 : y ≤ 99) {v : Int32} (hv : v = nI y) : RS n w (upd F p (nI x)) (upd G p v) (upd f p (nI x)) (upd g p v) := by
  obtain ⟨a1, a2, a3, hF, hG, hO⟩ := S
  exact ⟨a1, a2, a3, ag_up hF, ag_up hG, hO.put hx h1 h2 hv⟩
theorem RS.tick {n w : Nat} {F G f g : Nat → Int32} (S : RS n w F G f g) (p : Nat) : RS n w (upd F p (-2)) (upd G p (nI 0)) (upd f p (-2)) (upd g p (nI 0)) := by
  obtain ⟨a1, a2, a3, hF, hG, hO⟩ := S
  refine ⟨a1, a2, a3, ag_up hF, ag_up hG, fun k hk => ?_⟩
  by_cases e : k = p
  · rw [e, upd_same, upd_same]; exact Or.inr (Or.inl ⟨rfl, rfl⟩)
  · rw [upd_ne e, upd_ne e]; exact hO k hk
/-- all hooks free -/
theorem RS.clear {N w : Nat} {F G : Nat → Int32} (h3 : 3 ≤ N) (h40 : N ≤ 40) (hw : w ≤ 2) (hF : ∀ k, k < 40 → F k = -1) (hG : ∀ k, k < 40 → G k = nI 0) : RS N w F G (fun _ => -1) (fun _ => nI 0) :=
  ⟨h3, h40, hw, fun k hk => hF k (by omega), fun k hk => hG k (by omega), fun k hk => Or.inl ⟨rfl, rfl⟩⟩
/-- the looks if all were hung anew; -1 if there is no place -/
def LW (n : Nat) (f g : Nat → Int32) (N w : Nat) : Int32 := match HG n f g N w with
  | some z => nI z.2.2
  | none => -1
def bst (n : Nat) (f g : Nat → Int32) : Int32 × Int32 := fo (fun (a : Int32 × Int32) i => if 0 ≤ LW n f g n i ∧ (a.1 = -1 ∨ LW n f g n i < a.2) then (nI i, LW n f g n i) else a) 3 0 (-1, nI 0)
def hwS (n w : Nat) (f g : Nat → Int32) (v : Nat) (i : Nat) : Bool := decide (0 ≤ LW n f g i w ∧ LW n f g i w ≤ nI v)
def fh (n w : Nat) (f g : Nat → Int32) (v : Nat) : Int32 := if fs (hwS n w f g v) 38 3 < 41 then nI (fs (hwS n w f g v) 38 3) else -1
def cm (n : Nat) (f : Nat → Int32) (N : Nat) (T : Nat → Int32) : Nat := fo (fun a i => if ¬ cn (T i) = -1 ∧ ¬ cn (hd n f i) = cn (T i) then a + 1 else a) N 0 0
