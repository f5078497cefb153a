/-! pure words: what both sides compute -/
def fo {α : Type} (f : α → Nat → α) : Nat → Nat → α → α
  | 0, _, a => a
  | c + 1, i, a => fo f c (i + 1) (f a i)
theorem fo_s {α : Type} (f : α → Nat → α) (c i : Nat) (a : α) : fo f (c + 1) i a = fo f c (i + 1) (f a i) := rfl
theorem fo_z {α : Type} (f : α → Nat → α) (i : Nat) (a : α) : fo f 0 i a = a := rfl
theorem fo_cong {α : Type} {f f' : α → Nat → α} : ∀ (c i : Nat) (a : α), (∀ a j, i ≤ j → j < i + c → f a j = f' a j) → fo f c i a = fo f' c i a
  | 0, _, _, _ => rfl
  | c + 1, i, a, h => by
    rw [fo_s, fo_s, h a i (Nat.le_refl i) (by omega)]
    exact fo_cong c (i + 1) _ (fun a j h1 h2 => h a j (by omega) (by omega))
theorem fo_app {α : Type} (f : α → Nat → α) : ∀ (c d i : Nat) (a : α), fo f (c + d) i a = fo f d (i + c) (fo f c i a)
  | 0, d, i, a => by rw [Nat.zero_add]; rfl
  | c + 1, d, i, a => by
    rw [show c + 1 + d = (c + d) + 1 by omega, fo_s, fo_app f c d (i + 1), fo_s, show i + 1 + c = i + (c + 1) by omega]
/-- what lies on a hook that may not be there -/
def hd (n : Nat) (f : Nat → Int32) (k : Nat) : Int32 := if k < n then f k else -1
def hw (n : Nat) (g : Nat → Int32) (k : Nat) : Int32 := if k < n then g k else 0
def st (x : Int32) : Int32 := if x = -1 then nI 0 else if x = -2 then nI 2 else nI 1
def cn (x : Int32) : Int32 := if 0 ≤ x then x else -1
def ct (n : Nat) (f : Nat → Int32) (v : Int32) : Nat := fo (fun a i => if st (f i) = v then a + 1 else a) n 0 0
def wa (n : Nat) (g : Nat → Int32) : Int32 := fo (fun a i => a + g i) n 0 (nI 0)
def hv (n : Nat) (g : Nat → Int32) : Int32 × Int32 := fo (fun (a : Int32 × Int32) i => if a.2 < g i then (nI i, g i) else a) n 0 (-1, nI 0)
/-- how far the usher goes from the first hook, and at which hook the usher looks -/
def of_ (n w x k : Nat) : Nat := if w = 1 then k * (k + 1) / 2 else if w = 2 then k * (1 + x / n % (n - 1)) else k
def at_ (n w x k : Nat) : Nat := (x + of_ n w x k) % n
theorem at_lt {n : Nat} (h : 0 < n) (w x k : Nat) : at_ n w x k < n := Nat.mod_lt _ h
def sp (n w : Nat) (f : Nat → Int32) (x k : Nat) : Bool := decide (f (at_ n w x k) = nI x ∨ f (at_ n w x k) = -1)
/-- the first of c places from i on at which p holds, else the one behind them -/
def fs (p : Nat → Bool) : Nat → Nat → Nat
  | 0, i => i
  | c + 1, i => if p i then i else fs p c (i + 1)
theorem fs_z (p : Nat → Bool) (i : Nat) : fs p 0 i = i := rfl
theorem fs_y {p : Nat → Bool} {c i : Nat} (h : p i = true) : fs p (c + 1) i = i := if_pos h
theorem fs_n {p : Nat → Bool} {c i : Nat} (h : p i = false) : fs p (c + 1) i = fs p c (i + 1) := if_neg (by rw [h]; decide)
theorem fs_ge (p : Nat → Bool) : ∀ (c i : Nat), i ≤ fs p c i
  | 0, i => Nat.le_refl i
  | c + 1, i => by
    unfold fs
    split
    · exact Nat.le_refl i
    · exact Nat.le_trans (Nat.le_succ i) (fs_ge p c (i + 1))
theorem fs_le (p : Nat → Bool) : ∀ (c i : Nat), fs p c i ≤ i + c
  | 0, i => Nat.le_refl i
  | c + 1, i => by
    unfold fs
    split
    · omega
    · exact Nat.le_trans (fs_le p c (i + 1)) (by omega)
theorem fs_no (p : Nat → Bool) : ∀ (c i j : Nat), i ≤ j → j < fs p c i → p j = false
  | 0, i, j, h1, h2 => absurd h2 (by unfold fs; omega)
  | c + 1, i, j, h1, h2 => by
    unfold fs at h2
    split at h2
    · omega
    · rename_i h
      by_cases e : j = i
      · subst e
        cases hp : p j
        · rfl
        · exact absurd hp h
      · exact fs_no p c (i + 1) j (by omega) h2
theorem fs_yes (p : Nat → Bool) : ∀ (c i : Nat), fs p c i < i + c → p (fs p c i) = true
  | 0, i, h => absurd h (by unfold fs; omega)
  | c + 1, i, h => by
    unfold fs at h ⊢
    split
    · rename_i hp; exact hp
    · rename_i hp
      rw [if_neg hp] at h
      exact fs_yes p c (i + 1) (by omega)
/-- at how many hooks the usher looks -/
def lk (n w : Nat) (f : Nat → Int32) (x : Nat) : Nat := if fs (sp n w f x) n 0 < n then fs (sp n w f x) n 0 + 1 else n
theorem lk_le (n w : Nat) (f : Nat → Int32) (x : Nat) : lk n w f x ≤ n := by unfold lk; split <;> omega
theorem lk_pos {n : Nat} (h : 0 < n) (w : Nat) (f : Nat → Int32) (x : Nat) : 0 < lk n w f x := by unfold lk; split <;> omega
/-- the last hook looked at -/
def la (n w : Nat) (f : Nat → Int32) (x : Nat) : Nat := at_ n w x (lk n w f x - 1)
def fd (n w : Nat) (f : Nat → Int32) (x : Nat) : Int32 := if f (la n w f x) = nI x then nI (la n w f x) else -1
def fr (n w : Nat) (f : Nat → Int32) (x : Nat) : Int32 := if f (la n w f x) = -1 then nI (la n w f x) else -1
/-- the first hook with a ticket among the first k looked at -/
def tk (n w : Nat) (f : Nat → Int32) (x : Nat) : Nat → Int32
  | 0 => -1
  | k + 1 => if tk n w f x k = -1 ∧ f (at_ n w x k) = -2 then nI (at_ n w x k) else tk n w f x k
def op (n w : Nat) (f : Nat → Int32) (x : Nat) : Int32 := if tk n w f x (lk n w f x) = -1 then fr n w f x else tk n w f x (lk n w f x)
def hs (n : Nat) (f : Nat → Int32) (x : Nat) : Nat := if fs (fun i => decide (f i = nI x)) n 0 < n then 1 else 0
def pl (n w : Nat) (f : Nat → Int32) (x : Nat) : Int32 := if hs n f x = 0 then op n w f x else -1
/-- the looks for what hangs on a hook -/
def lx (n w : Nat) (f : Nat → Int32) (i : Nat) : Nat := if 0 ≤ f i then lk n w f (f i).toNatClampNeg else 0
theorem lx_le (n w : Nat) (f : Nat → Int32) (i : Nat) : lx n w f i ≤ n := by unfold lx; split; exact lk_le _ _ _ _; omega
def sm (n w : Nat) (f : Nat → Int32) : Nat := fo (fun a i => a + lx n w f i) n 0 0
def fa (n w : Nat) (f : Nat → Int32) : Int32 × Nat := fo (fun (a : Int32 × Nat) i => if a.2 < lx n w f i then (f i, lx n w f i) else a) n 0 (-1, 0)
/-- what is on the hooks of a theatre -/
def Ok (n : Nat) (f g : Nat → Int32) : Prop := ∀ k, k < n → (f k = -1 ∧ g k = nI 0) ∨ (f k = -2 ∧ g k = nI 0) ∨ ∃ x y : Nat, x ≤ 9999 ∧ f k = nI x ∧ 1 ≤ y ∧ y ≤ 99 ∧ g k = nI y
def RS (n w : Nat) (F G f g : Nat → Int32) : Prop := 3 ≤ n ∧ n ≤ 40 ∧ w ≤ 2 ∧ (∀ k, k < n → F k = f k) ∧ (∀ k, k < n → G k = g k) ∧ Ok n f g
theorem ne_m1 {x : Nat} (h : x < 2 ^ 31) : nI x ≠ -1 := by
  intro h1
  have h2 := nI_pos' h
  rw [h1] at h2
  exact absurd h2 (by decide)
theorem ne_m2 {x : Nat} (h : x < 2 ^ 31) : nI x ≠ -2 := by
  intro h1
  have h2 := nI_pos' h
  rw [h1] at h2
  exact absurd h2 (by decide)
theorem Ok.num {n : Nat} {f g : Nat → Int32} (h : Ok n f g) {k : Nat} (hk : k < n) (h0 : 0 ≤ f k) : ∃ x : Nat, x ≤ 9999 ∧ f k = nI x ∧ (f k).toNatClampNeg = x := by
  rcases h k hk with ⟨h1, -⟩ | ⟨h1, -⟩ | ⟨x, y, hx, h1, -⟩
  · rw [h1] at h0; exact absurd h0 (by decide)
  · rw [h1] at h0; exact absurd h0 (by decide)
  · exact ⟨x, hx, h1, by rw [h1]; exact nI_clamp (by omega)⟩
theorem Ok.neg {n : Nat} {f g : Nat → Int32} (h : Ok n f g) {k : Nat} (hk : k < n) (h0 : ¬ 0 ≤ f k) : (f k = -1 ∨ f k = -2) ∧ g k = nI 0 := by
  rcases h k hk with ⟨h1, h2⟩ | ⟨h1, h2⟩ | ⟨x, y, hx, h1, -⟩
  · exact ⟨Or.inl h1, h2⟩
  · exact ⟨Or.inr h1, h2⟩
  · exact absurd (by rw [h1]; exact nI_pos' (by omega)) h0
/-- a rack's cells -/
abbrev rkw (cI : ClassId) (h a1 a2 n w : Nat) (F G : Nat → Int32) : va_W := [(h, .inr (0, [.ref a1, .ref a2, .int (nI n), .int (nI w)])), (a1, .inl (cI, 40, .inl F)), (a2, .inl (cI, 40, .inl G))]
