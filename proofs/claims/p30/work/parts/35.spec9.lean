/-! pure words, on: hanging anew, moving and sweeping as the reference does it; answers -/
theorem fr_cases {N w : Nat} {T : Nat → Int32} {x : Nat} (h : ¬ fr N w T x = -1) : T (la N w T x) = -1 ∧ fr N w T x = nI (la N w T x) := by
  unfold fr at h ⊢
  by_cases e : T (la N w T x) = -1
  · rw [if_pos e]; exact ⟨e, rfl⟩
  · rw [if_neg e] at h; exact absurd rfl h
theorem fr_full {N w : Nat} {T : Nat → Int32} {x : Nat} (hN : 0 < N) (hN40 : N ≤ 40) (h : fr N w T x = -1) : ¬ T (la N w T x) = -1 := by
  unfold fr at h
  intro e
  rw [if_pos e] at h
  exact ne_m1 (by have := la_lt hN w T x; omega) h
/-- sums -/
def su (h : Nat → Nat) (M : Nat) : Nat := fo (fun a i => a + h i) M 0 0
theorem su_s (h : Nat → Nat) (M : Nat) : su h (M + 1) = su h M + h M := fo_top _ M 0
theorem su_add {a b c : Nat → Nat} : ∀ M, (∀ i, i < M → a i + b i = c i) → su a M + su b M = su c M
  | 0, _ => rfl
  | M + 1, h => by
    have ih := su_add M (fun i hi => h i (by omega))
    have := h M (by omega)
    rw [su_s, su_s, su_s]
    omega
theorem su_ext {a b : Nat → Nat} : ∀ M, (∀ i, i < M → a i = b i) → su a M = su b M
  | 0, _ => rfl
  | M + 1, h => by rw [su_s, su_s, su_ext M (fun i hi => h i (by omega)), h M (by omega)]
theorem su_tail {a : Nat → Nat} {M : Nat} (h : ∀ i, M ≤ i → a i = 0) : ∀ d, su a (M + d) = su a M
  | 0 => rfl
  | d + 1 => by rw [← Nat.add_assoc, su_s, su_tail h d, h _ (by omega)]; rfl
theorem su_to {a : Nat → Nat} {M K : Nat} (h : ∀ i, M ≤ i → a i = 0) (hK : M ≤ K) : su a K = su a M := by
  have := su_tail h (K - M)
  rw [show M + (K - M) = K by omega] at this
  exact this
theorem fo_su {P : Nat → Prop} [DecidablePred P] : ∀ M, fo (fun a i => if P i then a + 1 else a) M 0 0 = su (fun i => if P i then 1 else 0) M
  | 0 => rfl
  | M + 1 => by
    rw [fo_top, su_s, fo_su M]
    by_cases h : P M
    · rw [if_pos h, if_pos h]
    · rw [if_neg h, if_neg h]; rfl
def one (P : Prop) [Decidable P] : Nat := if P then 1 else 0
theorem one_y {P : Prop} [Decidable P] (h : P) : one P = 1 := if_pos h
theorem one_n {P : Prop} [Decidable P] (h : ¬ P) : one P = 0 := if_neg h
/-- how many coats are on the hooks -/
def nc (N : Nat) (T : Nat → Int32) : Nat := su (fun i => one (0 ≤ T i)) N
theorem nc_put {N p : Nat} {T : Nat → Int32} {x : Nat} (hp : p < N) (hf : T p = -1) (hx : x ≤ 9999) : nc N (upd T p (nI x)) = nc N T + 1 := by
  have := sum_put (h := fun i => one (0 ≤ T i)) (h' := fun i => one (0 ≤ upd T p (nI x) i)) (p := p) (v := 1) (fun k hk => by show one (0 ≤ upd T p (nI x) k) = one (0 ≤ T k); rw [upd_ne hk]) (one_n (by rw [hf]; decide)) (one_y (by rw [upd_same]; exact nI_pos' (by omega))) N
  rw [if_pos hp] at this
  exact this
theorem hg_nc {n N w : Nat} {f g : Nat → Int32} (hN : 0 < N) (hO : Ok n f g) : ∀ (q i s : Nat) (T U T2 U2 : Nat → Int32) (z : Nat), i + q = n → hg N w f g q i T U s = some (T2, U2, z) → nc N T2 + su (fun j => one (0 ≤ f j)) i = nc N T + nc n f
  | 0, i, s, T, U, T2, U2, z, h1, h4 => by
    rw [hg] at h4
    injection h4 with h4
    injection h4 with e1 e2
    rw [e1, show i = n by omega]
    rfl
  | q + 1, i, s, T, U, T2, U2, z, h1, h4 => by
    have es := su_s (fun j => one (0 ≤ f j)) i
    by_cases h0 : 0 ≤ f i
    · obtain ⟨x, hx, ex, ez⟩ := hO.num (k := i) (by omega) h0
      by_cases hf : T (la N w T x) = -1
      · have ih := hg_nc hN hO q (i + 1) _ _ _ T2 U2 z (by omega) (hg_y h0 ex ez hf h4)
        rw [nc_put (la_lt hN w T x) hf hx, es] at ih
        have : one (0 ≤ f i) = 1 := one_y h0
        omega
      · exact absurd (hg_no h0 ez hf h4) (by intro h; cases h)
    · have ih := hg_nc hN hO q (i + 1) s T U T2 U2 z (by omega) (hg_n h0 h4)
      rw [es] at ih
      have : one (0 ≤ f i) = 0 := one_n h0
      omega
theorem HG_nc {n N w : Nat} {f g T U : Nat → Int32} {z : Nat} (hN : 0 < N) (hO : Ok n f g) (h : HG n f g N w = some (T, U, z)) : nc N T = nc n f := by
  have e := hg_nc hN hO n 0 0 _ _ T U z (Nat.zero_add n) h
  have e0 : ∀ M, nc M (fun _ => -1) = 0 := fun M => by
    induction M with
    | zero => rfl
    | succ M ih => unfold nc at ih ⊢; rw [su_s, ih, one_n (show ¬ (0 : Int32) ≤ -1 by decide)]
  rw [e0] at e
  have : su (fun j => one (0 ≤ f j)) 0 = 0 := rfl
  omega
/-- how many old coats hang elsewhere -/
def mv (n : Nat) (f o : Nat → Int32) : Nat := fo (fun a i => if 0 ≤ f i ∧ ¬ o i = f i then a + 1 else a) n 0 0
theorem mv_cm {n N : Nat} {f T o : Nat → Int32} (hn : n ≤ 40) (hN : N ≤ 40) (h1 : ∀ k, k < N → o k = T k) (h2 : ∀ k, N ≤ k → k < 40 → o k = -1) (hc : nc N T = nc n f) : mv n f o = cm n f N T := by
  have a1 : mv n f o = su (fun i => one (i < n ∧ 0 ≤ f i ∧ ¬ o i = f i)) 40 := by
    rw [su_to (M := n) (fun i hi => one_n (fun z => absurd z.1 (by omega))) hn]
    refine (fo_su n).trans (su_ext n fun i hi => ?_)
    show (if _ then 1 else 0) = (if _ then 1 else 0)
    by_cases z : 0 ≤ f i ∧ ¬ o i = f i
    · rw [if_pos z, if_pos ⟨hi, z⟩]
    · rw [if_neg z, if_neg (fun y => z y.2)]
  have a2 : cm n f N T = su (fun i => one (i < N ∧ ¬ cn (T i) = -1 ∧ ¬ cn (hd n f i) = cn (T i))) 40 := by
    rw [su_to (M := N) (fun i hi => one_n (fun z => absurd z.1 (by omega))) hN]
    refine (fo_su N).trans (su_ext N fun i hi => ?_)
    show (if _ then 1 else 0) = (if _ then 1 else 0)
    by_cases z : ¬ cn (T i) = -1 ∧ ¬ cn (hd n f i) = cn (T i)
    · rw [if_pos z, if_pos ⟨hi, z⟩]
    · rw [if_neg z, if_neg (fun y => z y.2)]
  have a3 : nc n f = su (fun i => one (i < n ∧ 0 ≤ f i)) 40 := by
    rw [su_to (M := n) (fun i hi => one_n (fun z => absurd z.1 (by omega))) hn]
    refine su_ext n fun i hi => ?_
    by_cases z : 0 ≤ f i
    · rw [one_y z, one_y ⟨hi, z⟩]
    · rw [one_n z, one_n (fun y => z y.2)]
  have a4 : nc N T = su (fun i => one (i < N ∧ 0 ≤ T i)) 40 := by
    rw [su_to (M := N) (fun i hi => one_n (fun z => absurd z.1 (by omega))) hN]
    refine su_ext N fun i hi => ?_
    by_cases z : 0 ≤ T i
    · rw [one_y z, one_y ⟨hi, z⟩]
    · rw [one_n z, one_n (fun y => z y.2)]
  have b1 : su (fun i => one (i < n ∧ 0 ≤ f i ∧ ¬ o i = f i)) 40 + su (fun i => one (i < n ∧ i < N ∧ 0 ≤ f i ∧ T i = f i)) 40 = su (fun i => one (i < n ∧ 0 ≤ f i)) 40 := by
    refine su_add 40 fun i hi => ?_
    by_cases z : i < n ∧ 0 ≤ f i
    · rw [one_y z]
      by_cases y : i < N
      · by_cases v : T i = f i
        · rw [one_n (fun q => q.2.2 (by rw [h1 i y]; exact v)), one_y ⟨z.1, y, z.2, v⟩]
        · rw [one_y ⟨z.1, z.2, fun q => v (by rw [← h1 i y]; exact q)⟩, one_n (fun q => v q.2.2.2)]
      · rw [one_y ⟨z.1, z.2, fun q => by rw [h2 i (by omega) hi] at q; rw [← q] at z; exact absurd z.2 (by decide)⟩, one_n (fun q => y q.2.1)]
    · rw [one_n z, one_n (fun q => z ⟨q.1, q.2.1⟩), one_n (fun q => z ⟨q.1, q.2.2.1⟩)]
  have b2 : su (fun i => one (i < N ∧ ¬ cn (T i) = -1 ∧ ¬ cn (hd n f i) = cn (T i))) 40 + su (fun i => one (i < n ∧ i < N ∧ 0 ≤ f i ∧ T i = f i)) 40 = su (fun i => one (i < N ∧ 0 ≤ T i)) 40 := by
    refine su_add 40 fun i hi => ?_
    by_cases z : i < N ∧ 0 ≤ T i
    · rw [one_y z]
      have eT := cn_id z.2
      have hne : ¬ cn (T i) = -1 := by rw [eT]; intro q; rw [q] at z; exact absurd z.2 (by decide)
      by_cases y : i < n
      · have eh : hd n f i = f i := if_pos y
        by_cases v : T i = f i
        · rw [one_n (fun q => q.2.2 (by rw [eh, v])), one_y ⟨y, z.1, by rw [← v]; exact z.2, v⟩]
        · have hq : ¬ cn (hd n f i) = cn (T i) := by
            intro q
            rw [eh] at q
            by_cases u : 0 ≤ f i
            · rw [cn_id u, eT] at q; exact v q.symm
            · rw [show cn (f i) = -1 from if_neg u] at q; exact hne q.symm
          rw [one_y ⟨z.1, hne, hq⟩, one_n (fun q => v q.2.2.2)]
      · have eh : hd n f i = -1 := if_neg y
        rw [one_y ⟨z.1, hne, fun q => by rw [eh] at q; exact hne (q.symm.trans (by decide))⟩, one_n (fun q => y q.1)]
    · rw [one_n z, one_n (fun q => z ⟨q.1, cn_ge q.2.1⟩), one_n (fun q => z ⟨q.2.1, by rw [q.2.2.2]; exact q.2.2.1⟩)]
  omega
/-! sweeping -/
theorem cw_free {n t : Nat} {f : Nat → Int32} (ht : t < n) (h : f t = -2) : cw n (upd f t (-1)) (-2) + 1 = cw n f (-2) := by
  have := sum_put (h := fun i => one (upd f t (-1) i = -2)) (h' := fun i => one (f i = -2)) (p := t) (v := 1) (fun k hk => by show one (f k = -2) = one (upd f t (-1) k = -2); rw [upd_ne hk]) (one_n (by rw [upd_same]; decide)) (one_y h) n
  rw [if_pos ht] at this
  have e : ∀ F : Nat → Int32, cw n F (-2) = fo (fun a i => a + one (F i = -2)) n 0 0 := fun F => fo_su n
  rw [e, e]
  exact this.symm
theorem sw_none {n : Nat} {f : Nat → Int32} (h0 : 0 < n) (h : ∀ k, k < n → ¬ f k = -2) : ∀ q a, sw n q f a = (f, a)
  | 0, _ => rfl
  | q + 1, a => by rw [sw, if_neg (fun z => h _ (Nat.mod_lt q h0) z.1)]; exact sw_none h0 h q a
def kq (q : Nat) : Int32 := nI q + Int32.ofInt (-1)
theorem kq_0 : kq 0 = -1 := by decide
theorem kq_s (q : Nat) : kq (q + 1) = nI q := by
  unfold kq
  rw [← nI_add, Int32.add_assoc, show nI 1 + Int32.ofInt (-1) = 0 from by decide, Int32.add_zero]
theorem kq_p {m : Nat} (h : 0 < m) : nI (m - 1) = kq m := by
  obtain ⟨j, rfl⟩ : ∃ j, m = j + 1 := ⟨m - 1, by omega⟩
  rw [kq_s]; rfl
theorem sw_Y {n q a : Nat} {f : Nat → Int32} {V : (Nat → Int32) × Nat} (h1 : f (q % n) = -2) (h2 : f ((q + 1) % n) = -1) (h3 : sw n (q + 1) f a = V) : sw n q (upd f (q % n) (-1)) (a + 1) = V := by rw [← h3, sw, if_pos ⟨h1, h2⟩]
theorem sw_N {n q a : Nat} {f : Nat → Int32} {V : (Nat → Int32) × Nat} (h1 : ¬ (f (q % n) = -2 ∧ f ((q + 1) % n) = -1)) (h3 : sw n (q + 1) f a = V) : sw n q f a = V := by rw [← h3, sw, if_neg h1]
theorem MS.free {n w t : Nat} {F V f g : Nat → Int32} (S : MS n w F V f g) (ht : t < n) (h : f t = -2) : MS n w (upd F t (-1)) V (upd f t (-1)) g := by
  obtain ⟨h1, h2, h3, hF, hV, hO⟩ := S
  have hg : g t = nI 0 := (hO.neg ht (by rw [h]; decide)).2
  refine ⟨h1, h2, h3, ag_up hF, fun k hk h0 => ?_, fun k hk => ?_⟩
  · by_cases e : k = t
    · rw [e, upd_same] at h0; exact absurd h0 (by decide)
    · rw [upd_ne e] at h0; exact hV k hk h0
  · by_cases e : k = t
    · rw [e, upd_same]; exact Or.inl ⟨rfl, hg⟩
    · rw [upd_ne e]; exact hO k hk
theorem MS.all {n w : Nat} {F V f g F3 : Nat → Int32} (S : MS n w F V f g) (h : cw n f (-2) = n) (hF : ∀ k, k < n → F3 k = -1) : MS n w F3 V (fun _ => -1) g := by
  obtain ⟨a1, a2, a3, h1, h2, hO⟩ := S
  rw [cw_ct] at h
  have hg : ∀ k, k < n → g k = nI 0 := fun k hk => (hO.neg hk (by rw [st_2 (ct_all n h k hk)]; decide)).2
  exact ⟨a1, a2, a3, hF, fun k _ h0 => absurd h0 (show ¬ (0 : Int32) ≤ -1 by decide), fun k hk => Or.inl ⟨rfl, hg k hk⟩⟩
theorem cw_0 {n : Nat} {f : Nat → Int32} (h : ∀ k, k < n → ¬ f k = -2) : cw n f (-2) = 0 := by
  refine (fo_su n).trans ?_
  rw [su_ext (b := fun _ => 0) n (fun i hi => if_neg (h i hi))]
  have e := su_tail (a := fun _ => 0) (M := 0) (fun _ _ => rfl) n
  rw [Nat.zero_add] at e
  exact e
theorem MS.put {n w : Nat} {F V f g : Nat → Int32} (S : MS n w F V f g) {p x y : Nat} (hx : x ≤ 9999) (h1 : 1 ≤ y) (h2 : y ≤ 99) : MS n w (upd F p (nI x)) (upd V p (nI y)) (upd f p (nI x)) (upd g p (nI y)) := by
  obtain ⟨a1, a2, a3, hF, hV, hO⟩ := S
  refine ⟨a1, a2, a3, ag_up hF, fun k hk h0 => ?_, hO.put hx h1 h2 rfl⟩
  by_cases e : k = p
  · rw [e, upd_same, upd_same]
  · rw [upd_ne e] at h0 ⊢; rw [upd_ne e]; exact hV k hk h0
theorem MS.tick {n w : Nat} {F V f g : Nat → Int32} (S : MS n w F V f g) (p : Nat) : MS n w (upd F p (-2)) V (upd f p (-2)) (upd g p (nI 0)) := by
  obtain ⟨a1, a2, a3, hF, hV, hO⟩ := S
  refine ⟨a1, a2, a3, ag_up hF, fun k hk h0 => ?_, fun k hk => ?_⟩
  · by_cases e : k = p
    · rw [e, upd_same] at h0; exact absurd h0 (by decide)
    · rw [upd_ne e] at h0 ⊢; exact hV k hk h0
  · by_cases e : k = p
    · rw [e, upd_same, upd_same]; exact Or.inr (Or.inl ⟨rfl, rfl⟩)
    · rw [upd_ne e, upd_ne e]; exact hO k hk
theorem hg_ok {n N w : Nat} {f g : Nat → Int32} (hN : 0 < N) (hO : Ok n f g) : ∀ (q i s : Nat) (T U T2 U2 : Nat → Int32) (z : Nat), i + q = n → Ok N T U → nt N T → hg N w f g q i T U s = some (T2, U2, z) → Ok N T2 U2 ∧ nt N T2
  | 0, i, s, T, U, T2, U2, z, h1, h2, h3, h4 => by
    rw [hg] at h4
    injection h4 with h4
    injection h4 with e1 e2
    injection e2 with e2 e3
    rw [← e1, ← e2]
    exact ⟨h2, h3⟩
  | q + 1, i, s, T, U, T2, U2, z, h1, h2, h3, h4 => by
    by_cases h0 : 0 ≤ f i
    · obtain ⟨x, hx, ex, ez⟩ := hO.num (k := i) (by omega) h0
      obtain ⟨y, hy1, hy2, ey⟩ := hO.wt (k := i) (by omega) h0
      by_cases hf : T (la N w T x) = -1
      · exact hg_ok hN hO q (i + 1) _ _ _ T2 U2 z (by omega) (h2.put hx hy1 hy2 ey) (nt_put h3 hx) (hg_y h0 ex ez hf h4)
      · exact absurd (hg_no h0 ez hf h4) (by intro h; cases h)
    · exact hg_ok hN hO q (i + 1) s T U T2 U2 z (by omega) h2 h3 (hg_n h0 h4)
theorem HG_ok {n N w : Nat} {f g T U : Nat → Int32} {z : Nat} (hN : 0 < N) (hO : Ok n f g) (h : HG n f g N w = some (T, U, z)) : Ok N T U :=
  (hg_ok hN hO n 0 0 _ _ T U z (Nat.zero_add n) (fun k _ => Or.inl ⟨rfl, rfl⟩) (fun k _ => by show (-1 : Int32) ≠ -2; decide) h).1
theorem LW_m1 {n N w : Nat} {f g : Nat → Int32} (hN : 0 < N) (hN40 : N ≤ 40) (hO : Ok n f g) (h : LW n f g N w = -1) : HG n f g N w = none := by
  rcases LW_cases (w := w) hN hN40 hO with ⟨-, h1⟩ | ⟨T, U, z, hz, h1, h2⟩
  · exact h1
  · exact absurd (h2.symm.trans h) (ne_m1 (by omega))
theorem LW_ok {n N w : Nat} {f g : Nat → Int32} (hN : 0 < N) (hN40 : N ≤ 40) (hO : Ok n f g) (h : ¬ LW n f g N w = -1) : ∃ T U z, HG n f g N w = some (T, U, z) ∧ 0 ≤ LW n f g N w := by
  rcases LW_cases (w := w) hN hN40 hO with ⟨h1, -⟩ | ⟨T, U, z, hz, h1, h2⟩
  · exact absurd h1 h
  · exact ⟨T, U, z, h1, by rw [h2]; exact nI_pos' (by omega)⟩
theorem LW_no {n N w : Nat} {f g : Nat → Int32} (h : LW n f g N w = -1) : ¬ 0 ≤ LW n f g N w := by rw [h]; decide
/-! answers: a code and what is returned -/
def Q1 (P : Prop) (R : Int32 → Prop) (c r : Int32) : Prop := (¬ P ∧ c = nI 1) ∨ (c = nI 0 ∧ R r)
theorem Q1.eq {P : Prop} {R : Int32 → Prop} {c r c2 r2 : Int32} (hP : ∀ r, R r → P) (hu : ∀ r s, R r → R s → r = s) (h : Q1 P R c r) (h2 : Q1 P R c2 r2) : c = c2 ∧ (c = nI 0 → r = r2) := by
  rcases h with ⟨h, rfl⟩ | ⟨rfl, h⟩
  · rcases h2 with ⟨h2, rfl⟩ | ⟨rfl, h2⟩
    · exact ⟨rfl, fun z => absurd z (by decide)⟩
    · exact absurd (hP _ h2) h
  · rcases h2 with ⟨h2, rfl⟩ | ⟨rfl, h2⟩
    · exact absurd (hP _ h) h2
    · exact ⟨rfl, fun _ => hu _ _ h h2⟩
theorem nI_inj {a b : Nat} (ha : a < 2 ^ 31) (hb : b < 2 ^ 31) (h : nI a = nI b) : a = b := (nI_eq ha hb).mp h
def Rk (n : Nat) (x : Int32) (V : Nat → Int32) : Int32 → Prop := fun r => ∃ k, k < n ∧ x = nI k ∧ r = V k
def Rn (x : Int32) (V : Nat → Int32) : Int32 → Prop := fun r => ∃ v, v ≤ 9999 ∧ x = nI v ∧ r = V v
theorem Q1.rk {n : Nat} {x : Int32} {V : Nat → Int32} {c r c2 r2 : Int32} (hn : n ≤ 40) (h : Q1 (rh n x) (Rk n x V) c r) (h2 : Q1 (rh n x) (Rk n x V) c2 r2) : c = c2 ∧ (c = nI 0 → r = r2) :=
  Q1.eq (fun r ⟨k, hk, e, _⟩ => ⟨k, hk, e⟩) (fun r s ⟨k, hk, e, e2⟩ ⟨j, hj, f, f2⟩ => by rw [e2, f2, nI_inj (by omega) (by omega) (e.symm.trans f)]) h h2
theorem Q1.rn {x : Int32} {V : Nat → Int32} {c r c2 r2 : Int32} (h : Q1 (rg 0 9999 x) (Rn x V) c r) (h2 : Q1 (rg 0 9999 x) (Rn x V) c2 r2) : c = c2 ∧ (c = nI 0 → r = r2) :=
  Q1.eq (fun r ⟨k, hk, e, _⟩ => ⟨k, Nat.zero_le k, hk, e⟩) (fun r s ⟨k, hk, e, e2⟩ ⟨j, hj, f, f2⟩ => by rw [e2, f2, nI_inj (by omega) (by omega) (e.symm.trans f)]) h h2
def Rl (n w : Nat) (x y : Int32) : Int32 → Prop := fun r => ∃ v k, v ≤ 9999 ∧ x = nI v ∧ k ≤ 39 ∧ y = nI k ∧ r = nI (at_ n w v k)
theorem Q1.rl {n w : Nat} {x y : Int32} {c r c2 r2 : Int32} (h : Q1 (rg 0 9999 x ∧ rg 0 39 y) (Rl n w x y) c r) (h2 : Q1 (rg 0 9999 x ∧ rg 0 39 y) (Rl n w x y) c2 r2) : c = c2 ∧ (c = nI 0 → r = r2) :=
  Q1.eq (fun r ⟨v, k, hv, e, hk, e2, _⟩ => ⟨⟨v, Nat.zero_le v, hv, e⟩, k, Nat.zero_le k, hk, e2⟩) (fun r s ⟨v, k, hv, e, hk, e2, e3⟩ ⟨a, b, ha, f, hb, f2, f3⟩ => by rw [e3, f3, nI_inj (by omega) (by omega) (e.symm.trans f), nI_inj (by omega) (by omega) (e2.symm.trans f2)]) h h2
def Rw (n : Nat) (f g : Nat → Int32) (x y : Int32) : Int32 → Prop := fun r => ∃ N w1 : Nat, 3 ≤ N ∧ N ≤ 40 ∧ x = nI N ∧ w1 ≤ 2 ∧ y = nI w1 ∧ r = LW n f g N w1
theorem Q1.rw {n : Nat} {f g : Nat → Int32} {x y : Int32} {c r c2 r2 : Int32} (h : Q1 (rg 3 40 x ∧ rg 0 2 y) (Rw n f g x y) c r) (h2 : Q1 (rg 3 40 x ∧ rg 0 2 y) (Rw n f g x y) c2 r2) : c = c2 ∧ (c = nI 0 → r = r2) :=
  Q1.eq (fun r ⟨N, w1, h3, h40, e, hw, e2, _⟩ => ⟨⟨N, h3, h40, e⟩, w1, Nat.zero_le w1, hw, e2⟩) (fun r s ⟨N, w1, h3, h40, e, hw, e2, e3⟩ ⟨a, b, ha, hb, f, hc, f2, f3⟩ => by rw [e3, f3, nI_inj (by omega) (by omega) (e.symm.trans f), nI_inj (by omega) (by omega) (e2.symm.trans f2)]) h h2
def Rh (n w : Nat) (f g : Nat → Int32) (x : Int32) : Int32 → Prop := fun r => ∃ v : Nat, v ≤ 400 ∧ x = nI v ∧ r = fh n w f g v
theorem Q1.rh {n w : Nat} {f g : Nat → Int32} {x : Int32} {c r c2 r2 : Int32} (h : Q1 (rg 0 400 x) (Rh n w f g x) c r) (h2 : Q1 (rg 0 400 x) (Rh n w f g x) c2 r2) : c = c2 ∧ (c = nI 0 → r = r2) :=
  Q1.eq (fun r ⟨k, hk, e, _⟩ => ⟨k, Nat.zero_le k, hk, e⟩) (fun r s ⟨k, hk, e, e2⟩ ⟨j, hj, f, f2⟩ => by rw [e2, f2, nI_inj (by omega) (by omega) (e.symm.trans f)]) h h2
def Qh (n w : Nat) (f g : Nat → Int32) (x y c r : Int32) (f2 g2 : Nat → Int32) : Prop :=
  (¬ (rg 0 9999 x ∧ rg 1 99 y) ∧ c = nI 1 ∧ f2 = f ∧ g2 = g) ∨ ∃ v z : Nat, v ≤ 9999 ∧ x = nI v ∧ 1 ≤ z ∧ z ≤ 99 ∧ y = nI z ∧ ((pl n w f v = -1 ∧ c = nI 2 ∧ f2 = f ∧ g2 = g) ∨ ∃ k, k < n ∧ pl n w f v = nI k ∧ c = nI 0 ∧ r = nI k ∧ f2 = upd f k (nI v) ∧ g2 = upd g k (nI z))
theorem Qh.eq {n w : Nat} {f g f2 g2 f3 g3 : Nat → Int32} {x y c r c2 r2 : Int32} (hn : n ≤ 40) (h : Qh n w f g x y c r f2 g2) (h2 : Qh n w f g x y c2 r2 f3 g3) : c = c2 ∧ (c = nI 0 → r = r2) ∧ f2 = f3 ∧ g2 = g3 := by
  rcases h with ⟨a, rfl, rfl, rfl⟩ | ⟨v, z, hv, e, hz1, hz2, e2, h⟩
  · rcases h2 with ⟨b, rfl, rfl, rfl⟩ | ⟨v, z, hv, e, hz1, hz2, e2, h2⟩
    · exact ⟨rfl, fun z => absurd z (by decide), rfl, rfl⟩
    · exact absurd ⟨⟨v, Nat.zero_le v, hv, e⟩, z, hz1, hz2, e2⟩ a
  · rcases h2 with ⟨b, rfl, rfl, rfl⟩ | ⟨v2, z2, hv2, d, hy1, hy2, d2, h2⟩
    · exact absurd ⟨⟨v, Nat.zero_le v, hv, e⟩, z, hz1, hz2, e2⟩ b
    · obtain rfl := nI_inj (by omega) (by omega) (e.symm.trans d)
      obtain rfl := nI_inj (by omega) (by omega) (e2.symm.trans d2)
      rcases h with ⟨p, rfl, rfl, rfl⟩ | ⟨k, hk, p, rfl, rfl, rfl, rfl⟩
      · rcases h2 with ⟨p2, rfl, rfl, rfl⟩ | ⟨k2, hk2, p2, rfl, rfl, rfl, rfl⟩
        · exact ⟨rfl, fun z => absurd z (by decide), rfl, rfl⟩
        · exact absurd (p2.symm.trans p) (ne_m1 (by omega))
      · rcases h2 with ⟨p2, rfl, rfl, rfl⟩ | ⟨k2, hk2, p2, rfl, rfl, rfl, rfl⟩
        · exact absurd (p.symm.trans p2) (ne_m1 (by omega))
        · obtain rfl := nI_inj (by omega) (by omega) (p.symm.trans p2)
          exact ⟨rfl, fun _ => rfl, rfl, rfl⟩
def Qt (n w : Nat) (f g : Nat → Int32) (x c r : Int32) (f2 g2 : Nat → Int32) : Prop :=
  (¬ rg 0 9999 x ∧ c = nI 1 ∧ f2 = f ∧ g2 = g) ∨ ∃ v : Nat, v ≤ 9999 ∧ x = nI v ∧ ((fd n w f v = -1 ∧ c = nI 2 ∧ f2 = f ∧ g2 = g) ∨ (fd n w f v = nI (la n w f v) ∧ c = nI 0 ∧ r = g (la n w f v) ∧ f2 = upd f (la n w f v) (-2) ∧ g2 = upd g (la n w f v) (nI 0)))
theorem Qt.eq {n w : Nat} {f g f2 g2 f3 g3 : Nat → Int32} {x c r c2 r2 : Int32} (hn3 : 3 ≤ n) (hn : n ≤ 40) (h : Qt n w f g x c r f2 g2) (h2 : Qt n w f g x c2 r2 f3 g3) : c = c2 ∧ (c = nI 0 → r = r2) ∧ f2 = f3 ∧ g2 = g3 := by
  rcases h with ⟨a, rfl, rfl, rfl⟩ | ⟨v, hv, e, h⟩
  · rcases h2 with ⟨b, rfl, rfl, rfl⟩ | ⟨v, hv, e, h2⟩
    · exact ⟨rfl, fun z => absurd z (by decide), rfl, rfl⟩
    · exact absurd ⟨v, Nat.zero_le v, hv, e⟩ a
  · rcases h2 with ⟨b, rfl, rfl, rfl⟩ | ⟨v2, hv2, d, h2⟩
    · exact absurd ⟨v, Nat.zero_le v, hv, e⟩ b
    · obtain rfl := nI_inj (by omega) (by omega) (e.symm.trans d)
      have hla := la_lt (show 0 < n by omega) w f v
      rcases h with ⟨p, rfl, rfl, rfl⟩ | ⟨p, rfl, rfl, rfl, rfl⟩
      · rcases h2 with ⟨p2, rfl, rfl, rfl⟩ | ⟨p2, rfl, rfl, rfl, rfl⟩
        · exact ⟨rfl, fun z => absurd z (by decide), rfl, rfl⟩
        · exact absurd (p2.symm.trans p) (ne_m1 (by omega))
      · rcases h2 with ⟨p2, rfl, rfl, rfl⟩ | ⟨p2, rfl, rfl, rfl, rfl⟩
        · exact absurd (p.symm.trans p2) (ne_m1 (by omega))
        · exact ⟨rfl, fun _ => rfl, rfl, rfl⟩
def Qr (n w : Nat) (f g : Nat → Int32) (x y c r : Int32) (n2 w2 : Nat) (f2 g2 : Nat → Int32) : Prop :=
  (¬ (rg 3 40 x ∧ rg 0 2 y) ∧ c = nI 1 ∧ n2 = n ∧ w2 = w ∧ f2 = f ∧ g2 = g) ∨ ∃ N w1 : Nat, 3 ≤ N ∧ N ≤ 40 ∧ x = nI N ∧ w1 ≤ 2 ∧ y = nI w1 ∧ ((HG n f g N w1 = none ∧ c = nI 2 ∧ n2 = n ∧ w2 = w ∧ f2 = f ∧ g2 = g) ∨ ∃ (T U : Nat → Int32) (z : Nat), HG n f g N w1 = some (T, U, z) ∧ c = nI 0 ∧ r = nI (cm n f N T) ∧ n2 = N ∧ w2 = w1 ∧ f2 = T ∧ g2 = U)
theorem Qr.eq {n w n2 w2 n3 w3 : Nat} {f g f2 g2 f3 g3 : Nat → Int32} {x y c r c2 r2 : Int32} (h : Qr n w f g x y c r n2 w2 f2 g2) (h2 : Qr n w f g x y c2 r2 n3 w3 f3 g3) : c = c2 ∧ (c = nI 0 → r = r2) ∧ n2 = n3 ∧ w2 = w3 ∧ f2 = f3 ∧ g2 = g3 := by
  rcases h with ⟨a, rfl, rfl, rfl, rfl, rfl⟩ | ⟨N, w1, h3, h40, e, hw, e2, h⟩
  · rcases h2 with ⟨b, rfl, rfl, rfl, rfl, rfl⟩ | ⟨N, w1, h3, h40, e, hw, e2, h2⟩
    · exact ⟨rfl, fun z => absurd z (by decide), rfl, rfl, rfl, rfl⟩
    · exact absurd ⟨⟨N, h3, h40, e⟩, w1, Nat.zero_le w1, hw, e2⟩ a
  · rcases h2 with ⟨b, rfl, rfl, rfl, rfl, rfl⟩ | ⟨M, w4, i3, i40, d, iw, d2, h2⟩
    · exact absurd ⟨⟨N, h3, h40, e⟩, w1, Nat.zero_le w1, hw, e2⟩ b
    · obtain rfl := nI_inj (by omega) (by omega) (e.symm.trans d)
      obtain rfl := nI_inj (by omega) (by omega) (e2.symm.trans d2)
      rcases h with ⟨p, rfl, rfl, rfl, rfl, rfl⟩ | ⟨T, U, z, p, rfl, rfl, rfl, rfl, rfl, rfl⟩
      · rcases h2 with ⟨p2, rfl, rfl, rfl, rfl, rfl⟩ | ⟨T2, U2, z2, p2, rfl, rfl, rfl, rfl, rfl, rfl⟩
        · exact ⟨rfl, fun z => absurd z (by decide), rfl, rfl, rfl, rfl⟩
        · exact absurd (p.symm.trans p2) (by intro h; cases h)
      · rcases h2 with ⟨p2, rfl, rfl, rfl, rfl, rfl⟩ | ⟨T2, U2, z2, p2, rfl, rfl, rfl, rfl, rfl, rfl⟩
        · exact absurd (p.symm.trans p2) (by intro h; cases h)
        · have q := p.symm.trans p2
          injection q with q
          injection q with q1 q2
          injection q2 with q2 q3
          subst q1 q2
          exact ⟨rfl, fun _ => rfl, rfl, rfl, rfl, rfl⟩
