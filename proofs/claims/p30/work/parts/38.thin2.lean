/-! a double answered by a call that writes; more room counted than used -/
section
variable {p : Program} {l : Launch} {e : Env} {R : Room} {s : State} {m : MethodId} {args : Array Value} {below : List Frame} {meth : Method} {c : Code} {H : Heap} {locs : List Loc} {cells slots : Nat}
theorem w_widen {Q : State → Prop} {g : JFrame} {k n : Nat} (h1 : cells ≤ k) (h2 : slots ≤ n) (kk : W p l e R s m args below meth c H locs k n Q g) : W p l e R s m args below meth c H locs cells slots Q g := fun T hT X => kk T hT { X with same := State.sameButNew.mono X.same h1 h2 }
def qm_d (BB : UInt64 → Heap → Prop) (A : Nat → Prop) : Array Value → State → Outcome → State → Prop := fun _ st oc t => (∃ r : UInt64, oc = .returned (some (.double r)) ∧ BB r t.heap) ∧ va_F A st t
theorem em_d {cc : ByteArray} {pc : Nat} {ls : Array Slot} {v : UInt64} {A : Nat → Prop} {BB : UInt64 → Heap → Prop} (hexec : p.tables.exec = Jvm.exec) (hb : c.code = cc) (hr : meth.sig.returnType = some .double) (hlocks : meth.locks = false) (hS : va_S A s.heap H locs) (h : BB v H) (hdg : decode cc pc = .ok (.dreturn, 1)) :
    W p l e R s m args below meth c H locs cells slots (MQ below (qm_d BB A) args s cells slots A) (F0 m pc ls [.double v]) :=
  W.dret hexec hb hr (fun t ht _ => ⟨⟨v, rfl, by rw [ht]; exact h⟩, hS.F ht⟩) hS.2.2 hdg hlocks
theorem pq_d {mc ms pc : Nat} {ls : Array Slot} {st0 rest : List Value} {Q : State → Prop} {BB : UInt64 → Heap → Prop} {a : Array Value} {A0 A1 : Nat → Prop} {H0 : Heap} (hr : va_Run p l e R s m args below meth c H locs cells slots mc ms (F0 m pc ls st0) rest (qm_d BB A1 a) A1) (hS : va_S A0 H0 H locs) (hA : ∀ q, A1 q → A0 q)
    (kk : ∀ (r : UInt64) (H1 : Heap) (locs1 : List Loc), BB r H1 → (∀ q : Nat, q < H.size → ¬ A1 q → H1[q]? = H[q]?) → va_S A0 H0 H1 locs1 → W p l e R s m args below meth c H1 locs1 (cells + mc) (slots + ms) Q (F0 m (pc + 3) ls (.double r :: rest))) : W p l e R s m args below meth c H locs cells slots Q (F0 m pc ls st0) := by
  intro T hT X
  obtain ⟨v, st₀, t, T', L, h0, X', hL, e1, e2, ⟨⟨r, hv, hp⟩, hF⟩, st⟩ := hr T hT X
  cases hv
  obtain ⟨-, k2, k3⟩ := fr_of h0 e1 hS hA hA hL hF
  obtain ⟨t2, a1, b1⟩ := kk r T'.heap (locs ++ L) (by rw [e1]; exact hp) k2 k3 T' rfl X'
  exact ⟨t2, st t2 a1, b1⟩
end
