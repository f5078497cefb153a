/-! small facts for the reference's calls that write -/
theorem an_Y {N p : Nat} {T U Y : Nat → Int32} {x v : Int32} (h : ∀ k, k < N → 0 ≤ T k → Y k = U k) : ∀ k, k < N → 0 ≤ upd T p x k → upd Y p v k = upd U p v k := by
  intro k hk h0
  by_cases e : k = p
  · rw [e, upd_same, upd_same]
  · rw [upd_ne e] at h0 ⊢; rw [upd_ne e]; exact h k hk h0
theorem an_R {N p : Nat} {O O4 : Nat → Int32} {v : Int32} (hp : p < N) (h : ∀ k, N ≤ k → O4 k = O k) : ∀ k, N ≤ k → upd O4 p v k = O k := fun k hk => by rw [upd_ne (by omega)]; exact h k hk
theorem isI_n {x v : Int32} (h : isI x (nI 0) v = 0) : ¬ (0 ≤ x ∧ x ≤ v) := by
  intro z
  unfold isI at h
  rw [if_pos (show nI 0 ≤ x ∧ x ≤ v from z)] at h
  exact absurd h (by decide)
theorem isI_y {x v : Int32} (h : ¬ isI x (nI 0) v = 0) : 0 ≤ x ∧ x ≤ v := by
  unfold isI at h
  split at h
  · rename_i z; exact z
  · exact absurd rfl h
