/-! CoatHooks: methods that read -/
/-- a theatre's cells -/
abbrev clw (cI : ClassId) (o r t a1 a2 b1 b2 n w : Nat) (F G : Nat → Int32) (n2 w2 : Nat) (F2 G2 : Nat → Int32) : va_W := [(o, .inr (1, [.ref r, .ref t])), (r, .inr (0, [.ref a1, .ref a2, .int (nI n), .int (nI w)])), (a1, .inl (cI, 40, .inl F)), (a2, .inl (cI, 40, .inl G)), (t, .inr (0, [.ref b1, .ref b2, .int (nI n2), .int (nI w2)])), (b1, .inl (cI, 40, .inl F2)), (b2, .inl (cI, 40, .inl G2))]
theorem k_X1_hooks : yX1_hooks.cls = RX1 ∧ yX1_hooks.cls ≠ "java/lang/invoke/MethodHandle" ∧ yX1_hooks.cls ≠ "java/lang/invoke/VarHandle" ∧ (parseMethodDescriptor yX1_hooks.desc).map (fun d => d.parameters.length) = some 0 := by decide +kernel
set_option maxHeartbeats 4000000 in
set_option maxRecDepth 100000 in
theorem m_X1_hooks (l : Launch) (D : va_G) (cI : ClassId) (o r t a1 a2 b1 b2 : Nat) {n w : Nat} {F G f g : Nat → Int32} (S : RS n w F G f g) (n2 w2 : Nat) (F2 G2 : Nat → Int32) : Met l yX1_hooks wsX1_hooks ({ frames := 1, cells := 0, slots := 0, locals := 20 } : Room) (PR D [(cI, .int)] [.ref o] (clw cI o r t a1 a2 b1 b2 n w F G n2 w2 F2 G2)) (vp_Si (fun r => r = nI n)) 0 0 (fun _ => False) := by
  obtain ⟨hn3, hn, hw2, hF, hG, hO⟩ := id S
  refine bd_p (cc := cX1_hooks) (maxL := 1) (ret := (some .int)) (by decide) rfl (Nat.le_of_ble_eq_true rfl) ?_
  intro p e s m args below meth c ls CF hr hlocks hK hP hl
  obtain ⟨hx, hb, hml, hown, hts⟩ := id CF
  have hl : lv_has ls 1 [(0, .ref o)] := hl
  have hP : va_P D vwCl [(o, .inr (1, [.ref r, .ref t])), (r, .inr (0, [.ref a1, .ref a2, .int (nI n), .int (nI w)])), (a1, .inl (cI, 40, .inl F)), (a2, .inl (cI, 40, .inl G)), (t, .inr (0, [.ref b1, .ref b2, .int (nI n2), .int (nI w2)])), (b1, .inl (cI, 40, .inl F2)), (b2, .inl (cI, 40, .inl G2))] s.heap := hP
  refine lv_aload_n hx hb dX1_hooks_0 rfl (lv_at hl 0 rfl) ?_
  refine va_get (D := D) (ci := 1) (v := .ref r) (C := RX1) (T := TX1) (N := 2) hx hb hts (fun _ h => (List.mem_cons_of_mem _ (List.mem_append_left _ (List.mem_append_right _ h)))) hown hK hP 0 rfl rfl 0 (by decide) (hts _ (List.mem_of_getElem? (i := 1) rfl)) (fun _ h9 => h9) rfl dX1_hooks_1 ?_
  refine pv_i CF (m_X0_hookCount l D cI r a1 a2 S ) (cwV 0 hts gX1_hooks_X0_hookCount rfl rfl rfl k_X0_hookCount ⟨Nat.le_of_ble_eq_true rfl, Nat.le_of_ble_eq_true rfl⟩) hK (hP.sub [1, 2, 3] rfl) rfl rfl rfl rfl hl.1 rfl (Nat.le_of_ble_eq_true rfl) dX1_hooks_4 ⟨Nat.le_of_ble_eq_true rfl, Nat.le_of_ble_eq_true rfl⟩ ?_
  exact en_i hx hb hr hlocks rfl dX1_hooks_7
theorem k_X1_way : yX1_way.cls = RX1 ∧ yX1_way.cls ≠ "java/lang/invoke/MethodHandle" ∧ yX1_way.cls ≠ "java/lang/invoke/VarHandle" ∧ (parseMethodDescriptor yX1_way.desc).map (fun d => d.parameters.length) = some 0 := by decide +kernel
set_option maxHeartbeats 4000000 in
set_option maxRecDepth 100000 in
theorem m_X1_way (l : Launch) (D : va_G) (cI : ClassId) (o r t a1 a2 b1 b2 : Nat) {n w : Nat} {F G f g : Nat → Int32} (S : RS n w F G f g) (n2 w2 : Nat) (F2 G2 : Nat → Int32) : Met l yX1_way wsX1_way ({ frames := 1, cells := 0, slots := 0, locals := 20 } : Room) (PR D [(cI, .int)] [.ref o] (clw cI o r t a1 a2 b1 b2 n w F G n2 w2 F2 G2)) (vp_Si (fun r => r = nI w)) 0 0 (fun _ => False) := by
  obtain ⟨hn3, hn, hw2, hF, hG, hO⟩ := id S
  refine bd_p (cc := cX1_way) (maxL := 1) (ret := (some .int)) (by decide) rfl (Nat.le_of_ble_eq_true rfl) ?_
  intro p e s m args below meth c ls CF hr hlocks hK hP hl
  obtain ⟨hx, hb, hml, hown, hts⟩ := id CF
  have hl : lv_has ls 1 [(0, .ref o)] := hl
  have hP : va_P D vwCl [(o, .inr (1, [.ref r, .ref t])), (r, .inr (0, [.ref a1, .ref a2, .int (nI n), .int (nI w)])), (a1, .inl (cI, 40, .inl F)), (a2, .inl (cI, 40, .inl G)), (t, .inr (0, [.ref b1, .ref b2, .int (nI n2), .int (nI w2)])), (b1, .inl (cI, 40, .inl F2)), (b2, .inl (cI, 40, .inl G2))] s.heap := hP
  refine lv_aload_n hx hb dX1_way_0 rfl (lv_at hl 0 rfl) ?_
  refine va_get (D := D) (ci := 1) (v := .ref r) (C := RX1) (T := TX1) (N := 2) hx hb hts (fun _ h => (List.mem_cons_of_mem _ (List.mem_append_left _ (List.mem_append_right _ h)))) hown hK hP 0 rfl rfl 0 (by decide) (hts _ (List.mem_of_getElem? (i := 1) rfl)) (fun _ h9 => h9) rfl dX1_way_1 ?_
  refine pv_i CF (m_X0_usherWay l D cI r a1 a2 S ) (cwV 0 hts gX1_way_X0_usherWay rfl rfl rfl k_X0_usherWay ⟨Nat.le_of_ble_eq_true rfl, Nat.le_of_ble_eq_true rfl⟩) hK (hP.sub [1, 2, 3] rfl) rfl rfl rfl rfl hl.1 rfl (Nat.le_of_ble_eq_true rfl) dX1_way_4 ⟨Nat.le_of_ble_eq_true rfl, Nat.le_of_ble_eq_true rfl⟩ ?_
  exact en_i hx hb hr hlocks rfl dX1_way_7
theorem k_X1_coats : yX1_coats.cls = RX1 ∧ yX1_coats.cls ≠ "java/lang/invoke/MethodHandle" ∧ yX1_coats.cls ≠ "java/lang/invoke/VarHandle" ∧ (parseMethodDescriptor yX1_coats.desc).map (fun d => d.parameters.length) = some 0 := by decide +kernel
set_option maxHeartbeats 4000000 in
set_option maxRecDepth 100000 in
theorem m_X1_coats (l : Launch) (D : va_G) (cI : ClassId) (o r t a1 a2 b1 b2 : Nat) {n w : Nat} {F G f g : Nat → Int32} (S : RS n w F G f g) (n2 w2 : Nat) (F2 G2 : Nat → Int32) : Met l yX1_coats wsX1_coats ({ frames := 3, cells := 0, slots := 0, locals := 66 } : Room) (PR D [(cI, .int)] [.ref o] (clw cI o r t a1 a2 b1 b2 n w F G n2 w2 F2 G2)) (vp_Si (fun r => r = nI (ct n f (nI 1)))) 0 0 (fun _ => False) := by
  obtain ⟨hn3, hn, hw2, hF, hG, hO⟩ := id S
  refine bd_p (cc := cX1_coats) (maxL := 1) (ret := (some .int)) (by decide) rfl (Nat.le_of_ble_eq_true rfl) ?_
  intro p e s m args below meth c ls CF hr hlocks hK hP hl
  obtain ⟨hx, hb, hml, hown, hts⟩ := id CF
  have hl : lv_has ls 1 [(0, .ref o)] := hl
  have hP : va_P D vwCl [(o, .inr (1, [.ref r, .ref t])), (r, .inr (0, [.ref a1, .ref a2, .int (nI n), .int (nI w)])), (a1, .inl (cI, 40, .inl F)), (a2, .inl (cI, 40, .inl G)), (t, .inr (0, [.ref b1, .ref b2, .int (nI n2), .int (nI w2)])), (b1, .inl (cI, 40, .inl F2)), (b2, .inl (cI, 40, .inl G2))] s.heap := hP
  refine lv_aload_n hx hb dX1_coats_0 rfl (lv_at hl 0 rfl) ?_
  refine va_get (D := D) (ci := 1) (v := .ref r) (C := RX1) (T := TX1) (N := 2) hx hb hts (fun _ h => (List.mem_cons_of_mem _ (List.mem_append_left _ (List.mem_append_right _ h)))) hown hK hP 0 rfl rfl 0 (by decide) (hts _ (List.mem_of_getElem? (i := 1) rfl)) (fun _ h9 => h9) rfl dX1_coats_1 ?_
  refine lv_iconst (v := nI 1) hx hb dX1_coats_4 (by decide) ?_
  refine pv_i CF (m_X0_countInState l D cI r a1 a2 S (nI 1)) (cwV 1 hts gX1_coats_X0_countInState rfl rfl rfl k_X0_countInState ⟨Nat.le_of_ble_eq_true rfl, Nat.le_of_ble_eq_true rfl⟩) hK (hP.sub [1, 2, 3] rfl) rfl rfl rfl rfl hl.1 rfl (Nat.le_of_ble_eq_true rfl) dX1_coats_5 ⟨Nat.le_of_ble_eq_true rfl, Nat.le_of_ble_eq_true rfl⟩ ?_
  exact en_i hx hb hr hlocks rfl dX1_coats_8
theorem k_X1_tickets : yX1_tickets.cls = RX1 ∧ yX1_tickets.cls ≠ "java/lang/invoke/MethodHandle" ∧ yX1_tickets.cls ≠ "java/lang/invoke/VarHandle" ∧ (parseMethodDescriptor yX1_tickets.desc).map (fun d => d.parameters.length) = some 0 := by decide +kernel
set_option maxHeartbeats 4000000 in
set_option maxRecDepth 100000 in
theorem m_X1_tickets (l : Launch) (D : va_G) (cI : ClassId) (o r t a1 a2 b1 b2 : Nat) {n w : Nat} {F G f g : Nat → Int32} (S : RS n w F G f g) (n2 w2 : Nat) (F2 G2 : Nat → Int32) : Met l yX1_tickets wsX1_tickets ({ frames := 3, cells := 0, slots := 0, locals := 66 } : Room) (PR D [(cI, .int)] [.ref o] (clw cI o r t a1 a2 b1 b2 n w F G n2 w2 F2 G2)) (vp_Si (fun r => r = nI (ct n f (nI 2)))) 0 0 (fun _ => False) := by
  obtain ⟨hn3, hn, hw2, hF, hG, hO⟩ := id S
  refine bd_p (cc := cX1_tickets) (maxL := 1) (ret := (some .int)) (by decide) rfl (Nat.le_of_ble_eq_true rfl) ?_
  intro p e s m args below meth c ls CF hr hlocks hK hP hl
  obtain ⟨hx, hb, hml, hown, hts⟩ := id CF
  have hl : lv_has ls 1 [(0, .ref o)] := hl
  have hP : va_P D vwCl [(o, .inr (1, [.ref r, .ref t])), (r, .inr (0, [.ref a1, .ref a2, .int (nI n), .int (nI w)])), (a1, .inl (cI, 40, .inl F)), (a2, .inl (cI, 40, .inl G)), (t, .inr (0, [.ref b1, .ref b2, .int (nI n2), .int (nI w2)])), (b1, .inl (cI, 40, .inl F2)), (b2, .inl (cI, 40, .inl G2))] s.heap := hP
  refine lv_aload_n hx hb dX1_tickets_0 rfl (lv_at hl 0 rfl) ?_
  refine va_get (D := D) (ci := 1) (v := .ref r) (C := RX1) (T := TX1) (N := 2) hx hb hts (fun _ h => (List.mem_cons_of_mem _ (List.mem_append_left _ (List.mem_append_right _ h)))) hown hK hP 0 rfl rfl 0 (by decide) (hts _ (List.mem_of_getElem? (i := 1) rfl)) (fun _ h9 => h9) rfl dX1_tickets_1 ?_
  refine lv_iconst (v := nI 2) hx hb dX1_tickets_4 (by decide) ?_
  refine pv_i CF (m_X0_countInState l D cI r a1 a2 S (nI 2)) (cwV 1 hts gX1_tickets_X0_countInState rfl rfl rfl k_X0_countInState ⟨Nat.le_of_ble_eq_true rfl, Nat.le_of_ble_eq_true rfl⟩) hK (hP.sub [1, 2, 3] rfl) rfl rfl rfl rfl hl.1 rfl (Nat.le_of_ble_eq_true rfl) dX1_tickets_5 ⟨Nat.le_of_ble_eq_true rfl, Nat.le_of_ble_eq_true rfl⟩ ?_
  exact en_i hx hb hr hlocks rfl dX1_tickets_8
theorem k_X1_weight : yX1_weight.cls = RX1 ∧ yX1_weight.cls ≠ "java/lang/invoke/MethodHandle" ∧ yX1_weight.cls ≠ "java/lang/invoke/VarHandle" ∧ (parseMethodDescriptor yX1_weight.desc).map (fun d => d.parameters.length) = some 0 := by decide +kernel
set_option maxHeartbeats 4000000 in
set_option maxRecDepth 100000 in
theorem m_X1_weight (l : Launch) (D : va_G) (cI : ClassId) (o r t a1 a2 b1 b2 : Nat) {n w : Nat} {F G f g : Nat → Int32} (S : RS n w F G f g) (n2 w2 : Nat) (F2 G2 : Nat → Int32) : Met l yX1_weight wsX1_weight ({ frames := 2, cells := 0, slots := 0, locals := 43 } : Room) (PR D [(cI, .int)] [.ref o] (clw cI o r t a1 a2 b1 b2 n w F G n2 w2 F2 G2)) (vp_Si (fun r => r = wa n g)) 0 0 (fun _ => False) := by
  obtain ⟨hn3, hn, hw2, hF, hG, hO⟩ := id S
  refine bd_p (cc := cX1_weight) (maxL := 1) (ret := (some .int)) (by decide) rfl (Nat.le_of_ble_eq_true rfl) ?_
  intro p e s m args below meth c ls CF hr hlocks hK hP hl
  obtain ⟨hx, hb, hml, hown, hts⟩ := id CF
  have hl : lv_has ls 1 [(0, .ref o)] := hl
  have hP : va_P D vwCl [(o, .inr (1, [.ref r, .ref t])), (r, .inr (0, [.ref a1, .ref a2, .int (nI n), .int (nI w)])), (a1, .inl (cI, 40, .inl F)), (a2, .inl (cI, 40, .inl G)), (t, .inr (0, [.ref b1, .ref b2, .int (nI n2), .int (nI w2)])), (b1, .inl (cI, 40, .inl F2)), (b2, .inl (cI, 40, .inl G2))] s.heap := hP
  refine lv_aload_n hx hb dX1_weight_0 rfl (lv_at hl 0 rfl) ?_
  refine va_get (D := D) (ci := 1) (v := .ref r) (C := RX1) (T := TX1) (N := 2) hx hb hts (fun _ h => (List.mem_cons_of_mem _ (List.mem_append_left _ (List.mem_append_right _ h)))) hown hK hP 0 rfl rfl 0 (by decide) (hts _ (List.mem_of_getElem? (i := 1) rfl)) (fun _ h9 => h9) rfl dX1_weight_1 ?_
  refine pv_i CF (m_X0_weightOfAll l D cI r a1 a2 S ) (cwV 0 hts gX1_weight_X0_weightOfAll rfl rfl rfl k_X0_weightOfAll ⟨Nat.le_of_ble_eq_true rfl, Nat.le_of_ble_eq_true rfl⟩) hK (hP.sub [1, 2, 3] rfl) rfl rfl rfl rfl hl.1 rfl (Nat.le_of_ble_eq_true rfl) dX1_weight_4 ⟨Nat.le_of_ble_eq_true rfl, Nat.le_of_ble_eq_true rfl⟩ ?_
  exact en_i hx hb hr hlocks rfl dX1_weight_7
theorem k_X1_heaviestAt : yX1_heaviestAt.cls = RX1 ∧ yX1_heaviestAt.cls ≠ "java/lang/invoke/MethodHandle" ∧ yX1_heaviestAt.cls ≠ "java/lang/invoke/VarHandle" ∧ (parseMethodDescriptor yX1_heaviestAt.desc).map (fun d => d.parameters.length) = some 0 := by decide +kernel
set_option maxHeartbeats 4000000 in
set_option maxRecDepth 100000 in
theorem m_X1_heaviestAt (l : Launch) (D : va_G) (cI : ClassId) (o r t a1 a2 b1 b2 : Nat) {n w : Nat} {F G f g : Nat → Int32} (S : RS n w F G f g) (n2 w2 : Nat) (F2 G2 : Nat → Int32) : Met l yX1_heaviestAt wsX1_heaviestAt ({ frames := 2, cells := 0, slots := 0, locals := 44 } : Room) (PR D [(cI, .int)] [.ref o] (clw cI o r t a1 a2 b1 b2 n w F G n2 w2 F2 G2)) (vp_Si (fun r => r = (hv n g).1)) 0 0 (fun _ => False) := by
  obtain ⟨hn3, hn, hw2, hF, hG, hO⟩ := id S
  refine bd_p (cc := cX1_heaviestAt) (maxL := 1) (ret := (some .int)) (by decide) rfl (Nat.le_of_ble_eq_true rfl) ?_
  intro p e s m args below meth c ls CF hr hlocks hK hP hl
  obtain ⟨hx, hb, hml, hown, hts⟩ := id CF
  have hl : lv_has ls 1 [(0, .ref o)] := hl
  have hP : va_P D vwCl [(o, .inr (1, [.ref r, .ref t])), (r, .inr (0, [.ref a1, .ref a2, .int (nI n), .int (nI w)])), (a1, .inl (cI, 40, .inl F)), (a2, .inl (cI, 40, .inl G)), (t, .inr (0, [.ref b1, .ref b2, .int (nI n2), .int (nI w2)])), (b1, .inl (cI, 40, .inl F2)), (b2, .inl (cI, 40, .inl G2))] s.heap := hP
  refine lv_aload_n hx hb dX1_heaviestAt_0 rfl (lv_at hl 0 rfl) ?_
  refine va_get (D := D) (ci := 1) (v := .ref r) (C := RX1) (T := TX1) (N := 2) hx hb hts (fun _ h => (List.mem_cons_of_mem _ (List.mem_append_left _ (List.mem_append_right _ h)))) hown hK hP 0 rfl rfl 0 (by decide) (hts _ (List.mem_of_getElem? (i := 1) rfl)) (fun _ h9 => h9) rfl dX1_heaviestAt_1 ?_
  refine pv_i CF (m_X0_hookOfHeaviest l D cI r a1 a2 S ) (cwV 0 hts gX1_heaviestAt_X0_hookOfHeaviest rfl rfl rfl k_X0_hookOfHeaviest ⟨Nat.le_of_ble_eq_true rfl, Nat.le_of_ble_eq_true rfl⟩) hK (hP.sub [1, 2, 3] rfl) rfl rfl rfl rfl hl.1 rfl (Nat.le_of_ble_eq_true rfl) dX1_heaviestAt_4 ⟨Nat.le_of_ble_eq_true rfl, Nat.le_of_ble_eq_true rfl⟩ ?_
  exact en_i hx hb hr hlocks rfl dX1_heaviestAt_7
theorem k_X1_allLooks : yX1_allLooks.cls = RX1 ∧ yX1_allLooks.cls ≠ "java/lang/invoke/MethodHandle" ∧ yX1_allLooks.cls ≠ "java/lang/invoke/VarHandle" ∧ (parseMethodDescriptor yX1_allLooks.desc).map (fun d => d.parameters.length) = some 0 := by decide +kernel
set_option maxHeartbeats 4000000 in
set_option maxRecDepth 100000 in
theorem m_X1_allLooks (l : Launch) (D : va_G) (cI : ClassId) (o r t a1 a2 b1 b2 : Nat) {n w : Nat} {F G f g : Nat → Int32} (S : RS n w F G f g) (n2 w2 : Nat) (F2 G2 : Nat → Int32) : Met l yX1_allLooks wsX1_allLooks ({ frames := 3, cells := 0, slots := 0, locals := 69 } : Room) (PR D [(cI, .int)] [.ref o] (clw cI o r t a1 a2 b1 b2 n w F G n2 w2 F2 G2)) (vp_Si (fun r => r = nI (sm n w f))) 0 0 (fun _ => False) := by
  obtain ⟨hn3, hn, hw2, hF, hG, hO⟩ := id S
  refine bd_p (cc := cX1_allLooks) (maxL := 1) (ret := (some .int)) (by decide) rfl (Nat.le_of_ble_eq_true rfl) ?_
  intro p e s m args below meth c ls CF hr hlocks hK hP hl
  obtain ⟨hx, hb, hml, hown, hts⟩ := id CF
  have hl : lv_has ls 1 [(0, .ref o)] := hl
  have hP : va_P D vwCl [(o, .inr (1, [.ref r, .ref t])), (r, .inr (0, [.ref a1, .ref a2, .int (nI n), .int (nI w)])), (a1, .inl (cI, 40, .inl F)), (a2, .inl (cI, 40, .inl G)), (t, .inr (0, [.ref b1, .ref b2, .int (nI n2), .int (nI w2)])), (b1, .inl (cI, 40, .inl F2)), (b2, .inl (cI, 40, .inl G2))] s.heap := hP
  refine lv_aload_n hx hb dX1_allLooks_0 rfl (lv_at hl 0 rfl) ?_
  refine va_get (D := D) (ci := 1) (v := .ref r) (C := RX1) (T := TX1) (N := 2) hx hb hts (fun _ h => (List.mem_cons_of_mem _ (List.mem_append_left _ (List.mem_append_right _ h)))) hown hK hP 0 rfl rfl 0 (by decide) (hts _ (List.mem_of_getElem? (i := 1) rfl)) (fun _ h9 => h9) rfl dX1_allLooks_1 ?_
  refine pv_i CF (m_X0_looksForAll l D cI r a1 a2 S ) (cwV 0 hts gX1_allLooks_X0_looksForAll rfl rfl rfl k_X0_looksForAll ⟨Nat.le_of_ble_eq_true rfl, Nat.le_of_ble_eq_true rfl⟩) hK (hP.sub [1, 2, 3] rfl) rfl rfl rfl rfl hl.1 rfl (Nat.le_of_ble_eq_true rfl) dX1_allLooks_4 ⟨Nat.le_of_ble_eq_true rfl, Nat.le_of_ble_eq_true rfl⟩ ?_
  exact en_i hx hb hr hlocks rfl dX1_allLooks_7
theorem k_X1_farthest : yX1_farthest.cls = RX1 ∧ yX1_farthest.cls ≠ "java/lang/invoke/MethodHandle" ∧ yX1_farthest.cls ≠ "java/lang/invoke/VarHandle" ∧ (parseMethodDescriptor yX1_farthest.desc).map (fun d => d.parameters.length) = some 0 := by decide +kernel
set_option maxHeartbeats 4000000 in
set_option maxRecDepth 100000 in
theorem m_X1_farthest (l : Launch) (D : va_G) (cI : ClassId) (o r t a1 a2 b1 b2 : Nat) {n w : Nat} {F G f g : Nat → Int32} (S : RS n w F G f g) (n2 w2 : Nat) (F2 G2 : Nat → Int32) : Met l yX1_farthest wsX1_farthest ({ frames := 3, cells := 0, slots := 0, locals := 71 } : Room) (PR D [(cI, .int)] [.ref o] (clw cI o r t a1 a2 b1 b2 n w F G n2 w2 F2 G2)) (vp_Si (fun r => r = (fa n w f).1)) 0 0 (fun _ => False) := by
  obtain ⟨hn3, hn, hw2, hF, hG, hO⟩ := id S
  refine bd_p (cc := cX1_farthest) (maxL := 1) (ret := (some .int)) (by decide) rfl (Nat.le_of_ble_eq_true rfl) ?_
  intro p e s m args below meth c ls CF hr hlocks hK hP hl
  obtain ⟨hx, hb, hml, hown, hts⟩ := id CF
  have hl : lv_has ls 1 [(0, .ref o)] := hl
  have hP : va_P D vwCl [(o, .inr (1, [.ref r, .ref t])), (r, .inr (0, [.ref a1, .ref a2, .int (nI n), .int (nI w)])), (a1, .inl (cI, 40, .inl F)), (a2, .inl (cI, 40, .inl G)), (t, .inr (0, [.ref b1, .ref b2, .int (nI n2), .int (nI w2)])), (b1, .inl (cI, 40, .inl F2)), (b2, .inl (cI, 40, .inl G2))] s.heap := hP
  refine lv_aload_n hx hb dX1_farthest_0 rfl (lv_at hl 0 rfl) ?_
  refine va_get (D := D) (ci := 1) (v := .ref r) (C := RX1) (T := TX1) (N := 2) hx hb hts (fun _ h => (List.mem_cons_of_mem _ (List.mem_append_left _ (List.mem_append_right _ h)))) hown hK hP 0 rfl rfl 0 (by decide) (hts _ (List.mem_of_getElem? (i := 1) rfl)) (fun _ h9 => h9) rfl dX1_farthest_1 ?_
  refine pv_i CF (m_X0_coatWithMostLooks l D cI r a1 a2 S ) (cwV 0 hts gX1_farthest_X0_coatWithMostLooks rfl rfl rfl k_X0_coatWithMostLooks ⟨Nat.le_of_ble_eq_true rfl, Nat.le_of_ble_eq_true rfl⟩) hK (hP.sub [1, 2, 3] rfl) rfl rfl rfl rfl hl.1 rfl (Nat.le_of_ble_eq_true rfl) dX1_farthest_4 ⟨Nat.le_of_ble_eq_true rfl, Nat.le_of_ble_eq_true rfl⟩ ?_
  exact en_i hx hb hr hlocks rfl dX1_farthest_7
theorem k_X1_rows : yX1_rows.cls = RX1 ∧ yX1_rows.cls ≠ "java/lang/invoke/MethodHandle" ∧ yX1_rows.cls ≠ "java/lang/invoke/VarHandle" ∧ (parseMethodDescriptor yX1_rows.desc).map (fun d => d.parameters.length) = some 0 := by decide +kernel
set_option maxHeartbeats 4000000 in
set_option maxRecDepth 100000 in
theorem m_X1_rows (l : Launch) (D : va_G) (cI : ClassId) (o r t a1 a2 b1 b2 : Nat) {n w : Nat} {F G f g : Nat → Int32} (S : RS n w F G f g) (n2 w2 : Nat) (F2 G2 : Nat → Int32) : Met l yX1_rows wsX1_rows ({ frames := 2, cells := 0, slots := 0, locals := 44 } : Room) (PR D [(cI, .int)] [.ref o] (clw cI o r t a1 a2 b1 b2 n w F G n2 w2 F2 G2)) (vp_Si (fun r => r = nI (rc n f))) 0 0 (fun _ => False) := by
  obtain ⟨hn3, hn, hw2, hF, hG, hO⟩ := id S
  refine bd_p (cc := cX1_rows) (maxL := 1) (ret := (some .int)) (by decide) rfl (Nat.le_of_ble_eq_true rfl) ?_
  intro p e s m args below meth c ls CF hr hlocks hK hP hl
  obtain ⟨hx, hb, hml, hown, hts⟩ := id CF
  have hl : lv_has ls 1 [(0, .ref o)] := hl
  have hP : va_P D vwCl [(o, .inr (1, [.ref r, .ref t])), (r, .inr (0, [.ref a1, .ref a2, .int (nI n), .int (nI w)])), (a1, .inl (cI, 40, .inl F)), (a2, .inl (cI, 40, .inl G)), (t, .inr (0, [.ref b1, .ref b2, .int (nI n2), .int (nI w2)])), (b1, .inl (cI, 40, .inl F2)), (b2, .inl (cI, 40, .inl G2))] s.heap := hP
  refine lv_aload_n hx hb dX1_rows_0 rfl (lv_at hl 0 rfl) ?_
  refine va_get (D := D) (ci := 1) (v := .ref r) (C := RX1) (T := TX1) (N := 2) hx hb hts (fun _ h => (List.mem_cons_of_mem _ (List.mem_append_left _ (List.mem_append_right _ h)))) hown hK hP 0 rfl rfl 0 (by decide) (hts _ (List.mem_of_getElem? (i := 1) rfl)) (fun _ h9 => h9) rfl dX1_rows_1 ?_
  refine pv_i CF (m_X0_rowCount l D cI r a1 a2 S ) (cwV 0 hts gX1_rows_X0_rowCount rfl rfl rfl k_X0_rowCount ⟨Nat.le_of_ble_eq_true rfl, Nat.le_of_ble_eq_true rfl⟩) hK (hP.sub [1, 2, 3] rfl) rfl rfl rfl rfl hl.1 rfl (Nat.le_of_ble_eq_true rfl) dX1_rows_4 ⟨Nat.le_of_ble_eq_true rfl, Nat.le_of_ble_eq_true rfl⟩ ?_
  exact en_i hx hb hr hlocks rfl dX1_rows_7
theorem k_X1_longestRow : yX1_longestRow.cls = RX1 ∧ yX1_longestRow.cls ≠ "java/lang/invoke/MethodHandle" ∧ yX1_longestRow.cls ≠ "java/lang/invoke/VarHandle" ∧ (parseMethodDescriptor yX1_longestRow.desc).map (fun d => d.parameters.length) = some 0 := by decide +kernel
set_option maxHeartbeats 4000000 in
set_option maxRecDepth 100000 in
theorem m_X1_longestRow (l : Launch) (D : va_G) (cI : ClassId) (o r t a1 a2 b1 b2 : Nat) {n w : Nat} {F G f g : Nat → Int32} (S : RS n w F G f g) (n2 w2 : Nat) (F2 G2 : Nat → Int32) : Met l yX1_longestRow wsX1_longestRow ({ frames := 3, cells := 0, slots := 0, locals := 68 } : Room) (PR D [(cI, .int)] [.ref o] (clw cI o r t a1 a2 b1 b2 n w F G n2 w2 F2 G2)) (vp_Si (fun r => r = nI (lr n f))) 0 0 (fun _ => False) := by
  obtain ⟨hn3, hn, hw2, hF, hG, hO⟩ := id S
  refine bd_p (cc := cX1_longestRow) (maxL := 1) (ret := (some .int)) (by decide) rfl (Nat.le_of_ble_eq_true rfl) ?_
  intro p e s m args below meth c ls CF hr hlocks hK hP hl
  obtain ⟨hx, hb, hml, hown, hts⟩ := id CF
  have hl : lv_has ls 1 [(0, .ref o)] := hl
  have hP : va_P D vwCl [(o, .inr (1, [.ref r, .ref t])), (r, .inr (0, [.ref a1, .ref a2, .int (nI n), .int (nI w)])), (a1, .inl (cI, 40, .inl F)), (a2, .inl (cI, 40, .inl G)), (t, .inr (0, [.ref b1, .ref b2, .int (nI n2), .int (nI w2)])), (b1, .inl (cI, 40, .inl F2)), (b2, .inl (cI, 40, .inl G2))] s.heap := hP
  refine lv_aload_n hx hb dX1_longestRow_0 rfl (lv_at hl 0 rfl) ?_
  refine va_get (D := D) (ci := 1) (v := .ref r) (C := RX1) (T := TX1) (N := 2) hx hb hts (fun _ h => (List.mem_cons_of_mem _ (List.mem_append_left _ (List.mem_append_right _ h)))) hown hK hP 0 rfl rfl 0 (by decide) (hts _ (List.mem_of_getElem? (i := 1) rfl)) (fun _ h9 => h9) rfl dX1_longestRow_1 ?_
  refine pv_i CF (m_X0_longestRowLength l D cI r a1 a2 S ) (cwV 0 hts gX1_longestRow_X0_longestRowLength rfl rfl rfl k_X0_longestRowLength ⟨Nat.le_of_ble_eq_true rfl, Nat.le_of_ble_eq_true rfl⟩) hK (hP.sub [1, 2, 3] rfl) rfl rfl rfl rfl hl.1 rfl (Nat.le_of_ble_eq_true rfl) dX1_longestRow_4 ⟨Nat.le_of_ble_eq_true rfl, Nat.le_of_ble_eq_true rfl⟩ ?_
  exact en_i hx hb hr hlocks rfl dX1_longestRow_7
theorem k_X1_demandNumber : yX1_demandNumber.cls = RX1 ∧ yX1_demandNumber.cls ≠ "java/lang/invoke/MethodHandle" ∧ yX1_demandNumber.cls ≠ "java/lang/invoke/VarHandle" ∧ (parseMethodDescriptor yX1_demandNumber.desc).map (fun d => d.parameters.length) = some 1 := by decide +kernel
set_option maxHeartbeats 4000000 in
set_option maxRecDepth 100000 in
theorem m_X1_demandNumber (l : Launch) (hlt : l.stackTraces = false) (D : va_G) (cI : ClassId) (x : Int32) : vx_Met l yX1_demandNumber wsX1_demandNumber ({ frames := 6, cells := 1, slots := 6, locals := 90 } : Room) (PX D [(cI, .int)] [.int x] []) (vq_v (rg 0 9999 x)) (xk (fun E => E = IAE ∧ ¬ rg 0 9999 x)) 1 6 (fun _ => False) := by
  refine bd_x (cc := cX1_demandNumber) (maxL := 1) (ret := none) (by decide) rfl (Nat.le_of_ble_eq_true rfl) ?_
  intro p e s m args below meth c ls CF hr hlocks hT hK hP hX hZ hl
  obtain ⟨hx, hb, hml, hown, hts⟩ := id CF
  have hl : lv_has ls 1 [(0, .int x)] := hl
  have hP : va_P D vwCl [] s.heap := hP
  refine lv_iload_n hx hb dX1_demandNumber_0 rfl (lv_at hl 0 rfl) ?_
  refine lv_if_lt (tgt := 11) hx hb dX1_demandNumber_1 (by decide) (fun c1 => ?_) (fun c1 => ?_)
  · skip
    exact th_x (cls := IAE) (text := "the number is not 0 to 9999") (ik := 23) (is := 140) (ic := 27) hlt CF hX hZ va_S.rf (by decide +kernel) (List.mem_of_getElem? (i := 1) rfl) (List.mem_of_getElem? (i := 2) rfl) (List.mem_of_getElem? (i := 0) rfl) (fun _ h => (List.mem_cons_of_mem _ (List.mem_append_right _ h))) xb_IAE xg_IAE hl.1 dX1_demandNumber_11 dX1_demandNumber_14 dX1_demandNumber_15 dX1_demandNumber_17 dX1_demandNumber_20 hT ⟨Nat.le_of_ble_eq_true rfl, Nat.le_of_ble_eq_true rfl, Nat.le_of_ble_eq_true rfl, Nat.le_of_ble_eq_true rfl⟩ hlocks (fun t h1 h2 => ⟨⟨rfl, rg_lo0 (by decide) c1⟩, h1, h2⟩) (fun z hz => nomatch hz) (Nat.le_of_ble_eq_true rfl) (Nat.le_of_ble_eq_true rfl)
  · skip
    refine lv_iload_n hx hb dX1_demandNumber_4 rfl (lv_at hl 0 rfl) ?_
    refine lv_sipush (v := nI 9999) hx hb dX1_demandNumber_5 (by decide) ?_
    refine lv_icmp_le (tgt := 21) hx hb dX1_demandNumber_8 (by decide) (fun c8 => ?_) (fun c8 => ?_)
    · skip
      exact ex_v hx hb hr hlocks (Nat.le_of_ble_eq_true rfl) (Nat.le_of_ble_eq_true rfl) (rg_in0 (by decide) c1 c8) dX1_demandNumber_21
    · skip
      exact th_x (cls := IAE) (text := "the number is not 0 to 9999") (ik := 23) (is := 140) (ic := 27) hlt CF hX hZ va_S.rf (by decide +kernel) (List.mem_of_getElem? (i := 1) rfl) (List.mem_of_getElem? (i := 2) rfl) (List.mem_of_getElem? (i := 0) rfl) (fun _ h => (List.mem_cons_of_mem _ (List.mem_append_right _ h))) xb_IAE xg_IAE hl.1 dX1_demandNumber_11 dX1_demandNumber_14 dX1_demandNumber_15 dX1_demandNumber_17 dX1_demandNumber_20 hT ⟨Nat.le_of_ble_eq_true rfl, Nat.le_of_ble_eq_true rfl, Nat.le_of_ble_eq_true rfl, Nat.le_of_ble_eq_true rfl⟩ hlocks (fun t h1 h2 => ⟨⟨rfl, rg_hi (by decide) c8⟩, h1, h2⟩) (fun z hz => nomatch hz) (Nat.le_of_ble_eq_true rfl) (Nat.le_of_ble_eq_true rfl)
theorem k_X1_demandHooksAndWay : yX1_demandHooksAndWay.cls = RX1 ∧ yX1_demandHooksAndWay.cls ≠ "java/lang/invoke/MethodHandle" ∧ yX1_demandHooksAndWay.cls ≠ "java/lang/invoke/VarHandle" ∧ (parseMethodDescriptor yX1_demandHooksAndWay.desc).map (fun d => d.parameters.length) = some 2 := by decide +kernel
set_option maxHeartbeats 4000000 in
set_option maxRecDepth 100000 in
theorem m_X1_demandHooksAndWay (l : Launch) (hlt : l.stackTraces = false) (D : va_G) (cI : ClassId) (x y : Int32) : vx_Met l yX1_demandHooksAndWay wsX1_demandHooksAndWay ({ frames := 6, cells := 1, slots := 6, locals := 90 } : Room) (PX D [(cI, .int)] [.int x, .int y] []) (vq_v (rg 3 40 x ∧ rg 0 2 y)) (xk (fun E => E = IAE ∧ ¬ (rg 3 40 x ∧ rg 0 2 y))) 1 6 (fun _ => False) := by
  refine bd_x (cc := cX1_demandHooksAndWay) (maxL := 2) (ret := none) (by decide) rfl (Nat.le_of_ble_eq_true rfl) ?_
  intro p e s m args below meth c ls CF hr hlocks hT hK hP hX hZ hl
  obtain ⟨hx, hb, hml, hown, hts⟩ := id CF
  have hl : lv_has ls 2 [(0, .int x), (1, .int y)] := hl
  have hP : va_P D vwCl [] s.heap := hP
  refine lv_iload_n hx hb dX1_demandHooksAndWay_0 rfl (lv_at hl 0 rfl) ?_
  refine lv_iconst (v := nI 3) hx hb dX1_demandHooksAndWay_1 (by decide) ?_
  refine lv_icmp_lt (tgt := 11) hx hb dX1_demandHooksAndWay_2 (by decide) (fun c2 => ?_) (fun c2 => ?_)
  · skip
    exact th_x (cls := IAE) (text := "the hooks are not 3 to 40") (ik := 23) (is := 142) (ic := 27) hlt CF hX hZ va_S.rf (by decide +kernel) (List.mem_of_getElem? (i := 1) rfl) (List.mem_of_getElem? (i := 2) rfl) (List.mem_of_getElem? (i := 4) rfl) (fun _ h => (List.mem_cons_of_mem _ (List.mem_append_right _ h))) xb_IAE xg_IAE hl.1 dX1_demandHooksAndWay_11 dX1_demandHooksAndWay_14 dX1_demandHooksAndWay_15 dX1_demandHooksAndWay_17 dX1_demandHooksAndWay_20 hT ⟨Nat.le_of_ble_eq_true rfl, Nat.le_of_ble_eq_true rfl, Nat.le_of_ble_eq_true rfl, Nat.le_of_ble_eq_true rfl⟩ hlocks (fun t h1 h2 => ⟨⟨rfl, fun z => rg_lo (by decide) c2 z.1⟩, h1, h2⟩) (fun z hz => nomatch hz) (Nat.le_of_ble_eq_true rfl) (Nat.le_of_ble_eq_true rfl)
  · skip
    refine lv_iload_n hx hb dX1_demandHooksAndWay_5 rfl (lv_at hl 0 rfl) ?_
    refine lv_bipush (v := nI 40) hx hb dX1_demandHooksAndWay_6 (by decide) ?_
    refine lv_icmp_le (tgt := 21) hx hb dX1_demandHooksAndWay_8 (by decide) (fun c8 => ?_) (fun c8 => ?_)
    · skip
      refine lv_iload_n hx hb dX1_demandHooksAndWay_21 rfl (lv_at hl 1 rfl) ?_
      refine lv_if_lt (tgt := 30) hx hb dX1_demandHooksAndWay_22 (by decide) (fun c22 => ?_) (fun c22 => ?_)
      · skip
        exact th_x (cls := IAE) (text := "the way is not 0 to 2") (ik := 23) (is := 144) (ic := 27) hlt CF hX hZ va_S.rf (by decide +kernel) (List.mem_of_getElem? (i := 1) rfl) (List.mem_of_getElem? (i := 2) rfl) (List.mem_of_getElem? (i := 5) rfl) (fun _ h => (List.mem_cons_of_mem _ (List.mem_append_right _ h))) xb_IAE xg_IAE hl.1 dX1_demandHooksAndWay_30 dX1_demandHooksAndWay_33 dX1_demandHooksAndWay_34 dX1_demandHooksAndWay_36 dX1_demandHooksAndWay_39 hT ⟨Nat.le_of_ble_eq_true rfl, Nat.le_of_ble_eq_true rfl, Nat.le_of_ble_eq_true rfl, Nat.le_of_ble_eq_true rfl⟩ hlocks (fun t h1 h2 => ⟨⟨rfl, fun z => rg_lo0 (by decide) c22 z.2⟩, h1, h2⟩) (fun z hz => nomatch hz) (Nat.le_of_ble_eq_true rfl) (Nat.le_of_ble_eq_true rfl)
      · skip
        refine lv_iload_n hx hb dX1_demandHooksAndWay_25 rfl (lv_at hl 1 rfl) ?_
        refine lv_iconst (v := nI 2) hx hb dX1_demandHooksAndWay_26 (by decide) ?_
        refine lv_icmp_le (tgt := 40) hx hb dX1_demandHooksAndWay_27 (by decide) (fun c27 => ?_) (fun c27 => ?_)
        · skip
          exact ex_v hx hb hr hlocks (Nat.le_of_ble_eq_true rfl) (Nat.le_of_ble_eq_true rfl) (⟨rg_in (by decide) (by decide) c2 c8, rg_in0 (by decide) c22 c27⟩) dX1_demandHooksAndWay_40
        · skip
          exact th_x (cls := IAE) (text := "the way is not 0 to 2") (ik := 23) (is := 144) (ic := 27) hlt CF hX hZ va_S.rf (by decide +kernel) (List.mem_of_getElem? (i := 1) rfl) (List.mem_of_getElem? (i := 2) rfl) (List.mem_of_getElem? (i := 5) rfl) (fun _ h => (List.mem_cons_of_mem _ (List.mem_append_right _ h))) xb_IAE xg_IAE hl.1 dX1_demandHooksAndWay_30 dX1_demandHooksAndWay_33 dX1_demandHooksAndWay_34 dX1_demandHooksAndWay_36 dX1_demandHooksAndWay_39 hT ⟨Nat.le_of_ble_eq_true rfl, Nat.le_of_ble_eq_true rfl, Nat.le_of_ble_eq_true rfl, Nat.le_of_ble_eq_true rfl⟩ hlocks (fun t h1 h2 => ⟨⟨rfl, fun z => rg_hi (by decide) c27 z.2⟩, h1, h2⟩) (fun z hz => nomatch hz) (Nat.le_of_ble_eq_true rfl) (Nat.le_of_ble_eq_true rfl)
    · skip
      exact th_x (cls := IAE) (text := "the hooks are not 3 to 40") (ik := 23) (is := 142) (ic := 27) hlt CF hX hZ va_S.rf (by decide +kernel) (List.mem_of_getElem? (i := 1) rfl) (List.mem_of_getElem? (i := 2) rfl) (List.mem_of_getElem? (i := 4) rfl) (fun _ h => (List.mem_cons_of_mem _ (List.mem_append_right _ h))) xb_IAE xg_IAE hl.1 dX1_demandHooksAndWay_11 dX1_demandHooksAndWay_14 dX1_demandHooksAndWay_15 dX1_demandHooksAndWay_17 dX1_demandHooksAndWay_20 hT ⟨Nat.le_of_ble_eq_true rfl, Nat.le_of_ble_eq_true rfl, Nat.le_of_ble_eq_true rfl, Nat.le_of_ble_eq_true rfl⟩ hlocks (fun t h1 h2 => ⟨⟨rfl, fun z => rg_hi (by decide) c8 z.1⟩, h1, h2⟩) (fun z hz => nomatch hz) (Nat.le_of_ble_eq_true rfl) (Nat.le_of_ble_eq_true rfl)
theorem k_X1_demandHook : yX1_demandHook.cls = RX1 ∧ yX1_demandHook.cls ≠ "java/lang/invoke/MethodHandle" ∧ yX1_demandHook.cls ≠ "java/lang/invoke/VarHandle" ∧ (parseMethodDescriptor yX1_demandHook.desc).map (fun d => d.parameters.length) = some 1 := by decide +kernel
set_option maxHeartbeats 4000000 in
set_option maxRecDepth 100000 in
theorem m_X1_demandHook (l : Launch) (hlt : l.stackTraces = false) (D : va_G) (cI : ClassId) (o r t a1 a2 b1 b2 : Nat) {n w : Nat} {F G f g : Nat → Int32} (S : RS n w F G f g) (n2 w2 : Nat) (F2 G2 : Nat → Int32) (x : Int32) : vx_Met l yX1_demandHook wsX1_demandHook ({ frames := 6, cells := 1, slots := 6, locals := 90 } : Room) (PX D [(cI, .int)] [.ref o, .int x] (clw cI o r t a1 a2 b1 b2 n w F G n2 w2 F2 G2)) (vq_v (rh n x)) (xk (fun E => E = IOB ∧ ¬ rh n x)) 1 6 (fun _ => False) := by
  obtain ⟨hn3, hn, hw2, hF, hG, hO⟩ := id S
  refine bd_x (cc := cX1_demandHook) (maxL := 2) (ret := none) (by decide) rfl (Nat.le_of_ble_eq_true rfl) ?_
  intro p e s m args below meth c ls CF hr hlocks hT hK hP hX hZ hl
  obtain ⟨hx, hb, hml, hown, hts⟩ := id CF
  have hl : lv_has ls 2 [(0, .ref o), (1, .int x)] := hl
  have hP : va_P D vwCl [(o, .inr (1, [.ref r, .ref t])), (r, .inr (0, [.ref a1, .ref a2, .int (nI n), .int (nI w)])), (a1, .inl (cI, 40, .inl F)), (a2, .inl (cI, 40, .inl G)), (t, .inr (0, [.ref b1, .ref b2, .int (nI n2), .int (nI w2)])), (b1, .inl (cI, 40, .inl F2)), (b2, .inl (cI, 40, .inl G2))] s.heap := hP
  refine lv_iload_n hx hb dX1_demandHook_0 rfl (lv_at hl 1 rfl) ?_
  refine lv_if_lt (tgt := 15) hx hb dX1_demandHook_1 (by decide) (fun c1 => ?_) (fun c1 => ?_)
  · skip
    exact th_x (cls := IOB) (text := "there is no such hook") (ik := 146) (is := 148) (ic := 150) hlt CF hX hZ va_S.rf (by decide +kernel) (List.mem_of_getElem? (i := 1) rfl) (List.mem_of_getElem? (i := 2) rfl) (List.mem_of_getElem? (i := 7) rfl) (fun _ h => (List.mem_cons_of_mem _ (List.mem_append_right _ h))) xb_IOB xg_IOB hl.1 dX1_demandHook_15 dX1_demandHook_18 dX1_demandHook_19 dX1_demandHook_21 dX1_demandHook_24 hT ⟨Nat.le_of_ble_eq_true rfl, Nat.le_of_ble_eq_true rfl, Nat.le_of_ble_eq_true rfl, Nat.le_of_ble_eq_true rfl⟩ hlocks (fun t h1 h2 => ⟨⟨rfl, rh_lo hn c1⟩, h1, h2⟩) (fun z hz => nomatch hz) (Nat.le_of_ble_eq_true rfl) (Nat.le_of_ble_eq_true rfl)
  · skip
    refine lv_iload_n hx hb dX1_demandHook_4 rfl (lv_at hl 1 rfl) ?_
    refine lv_aload_n hx hb dX1_demandHook_5 rfl (lv_at hl 0 rfl) ?_
    refine va_get (D := D) (ci := 1) (v := .ref r) (C := RX1) (T := TX1) (N := 2) hx hb hts (fun _ h => (List.mem_cons_of_mem _ (List.mem_append_left _ (List.mem_append_left _ (List.mem_append_right _ h))))) hown hK hP 0 rfl rfl 0 (by decide) (hts _ (List.mem_of_getElem? (i := 3) rfl)) (fun _ h9 => h9) rfl dX1_demandHook_6 ?_
    refine pv_i CF (m_X0_hookCount l D cI r a1 a2 S ) (cwV 0 hts gX1_demandHook_X0_hookCount rfl rfl rfl k_X0_hookCount ⟨Nat.le_of_ble_eq_true rfl, Nat.le_of_ble_eq_true rfl⟩) hK (hP.sub [1, 2, 3] rfl) rfl rfl rfl rfl hl.1 rfl (Nat.le_of_ble_eq_true rfl) dX1_demandHook_9 ⟨Nat.le_of_ble_eq_true rfl, Nat.le_of_ble_eq_true rfl⟩ ?_
    refine lv_icmp_lt (tgt := 25) hx hb dX1_demandHook_12 (by decide) (fun c12 => ?_) (fun c12 => ?_)
    · skip
      exact ex_v hx hb hr hlocks (Nat.le_of_ble_eq_true rfl) (Nat.le_of_ble_eq_true rfl) (rh_in hn c1 c12) dX1_demandHook_25
    · skip
      exact th_x (cls := IOB) (text := "there is no such hook") (ik := 146) (is := 148) (ic := 150) hlt CF hX hZ va_S.rf (by decide +kernel) (List.mem_of_getElem? (i := 1) rfl) (List.mem_of_getElem? (i := 2) rfl) (List.mem_of_getElem? (i := 7) rfl) (fun _ h => (List.mem_cons_of_mem _ (List.mem_append_right _ h))) xb_IOB xg_IOB hl.1 dX1_demandHook_15 dX1_demandHook_18 dX1_demandHook_19 dX1_demandHook_21 dX1_demandHook_24 hT ⟨Nat.le_of_ble_eq_true rfl, Nat.le_of_ble_eq_true rfl, Nat.le_of_ble_eq_true rfl, Nat.le_of_ble_eq_true rfl⟩ hlocks (fun t h1 h2 => ⟨⟨rfl, rh_hi hn c12⟩, h1, h2⟩) (fun z hz => nomatch hz) (Nat.le_of_ble_eq_true rfl) (Nat.le_of_ble_eq_true rfl)
theorem k_X1_stateOf : yX1_stateOf.cls = RX1 ∧ yX1_stateOf.cls ≠ "java/lang/invoke/MethodHandle" ∧ yX1_stateOf.cls ≠ "java/lang/invoke/VarHandle" ∧ (parseMethodDescriptor yX1_stateOf.desc).map (fun d => d.parameters.length) = some 1 := by decide +kernel
set_option maxHeartbeats 4000000 in
set_option maxRecDepth 100000 in
theorem m_X1_stateOf (l : Launch) (hlt : l.stackTraces = false) (D : va_G) (cI : ClassId) (o r t a1 a2 b1 b2 : Nat) {n w : Nat} {F G f g : Nat → Int32} (S : RS n w F G f g) (n2 w2 : Nat) (F2 G2 : Nat → Int32) (x : Int32) : vx_Met l yX1_stateOf wsX1_stateOf ({ frames := 7, cells := 1, slots := 6, locals := 111 } : Room) (PX D [(cI, .int)] [.ref o, .int x] (clw cI o r t a1 a2 b1 b2 n w F G n2 w2 F2 G2)) (vp_Si (fun r => ∃ k, k < n ∧ x = nI k ∧ r = st (f k))) (xk (fun E => E = IOB ∧ ¬ rh n x)) 1 6 (fun _ => False) := by
  obtain ⟨hn3, hn, hw2, hF, hG, hO⟩ := id S
  refine bd_x (cc := cX1_stateOf) (maxL := 2) (ret := (some .int)) (by decide) rfl (Nat.le_of_ble_eq_true rfl) ?_
  intro p e s m args below meth c ls CF hr hlocks hT hK hP hX hZ hl
  obtain ⟨hx, hb, hml, hown, hts⟩ := id CF
  have hl : lv_has ls 2 [(0, .ref o), (1, .int x)] := hl
  have hP : va_P D vwCl [(o, .inr (1, [.ref r, .ref t])), (r, .inr (0, [.ref a1, .ref a2, .int (nI n), .int (nI w)])), (a1, .inl (cI, 40, .inl F)), (a2, .inl (cI, 40, .inl G)), (t, .inr (0, [.ref b1, .ref b2, .int (nI n2), .int (nI w2)])), (b1, .inl (cI, 40, .inl F2)), (b2, .inl (cI, 40, .inl G2))] s.heap := hP
  refine lv_aload_n hx hb dX1_stateOf_0 rfl (lv_at hl 0 rfl) ?_
  refine lv_iload_n hx hb dX1_stateOf_1 rfl (lv_at hl 1 rfl) ?_
  refine px_vv CF (m_X1_demandHook l hlt D cI o r t a1 a2 b1 b2 S n2 w2 F2 G2 x) (cwV 1 hts gX1_stateOf_X1_demandHook rfl rfl rfl k_X1_demandHook ⟨Nat.le_of_ble_eq_true rfl, Nat.le_of_ble_eq_true rfl⟩) hK (hP.sub [0, 1, 2, 3, 4, 5, 6] rfl) hX hZ rfl rfl rfl rfl hl.1 rfl (Nat.le_of_ble_eq_true rfl) dX1_stateOf_2 ⟨Nat.le_of_ble_eq_true rfl, Nat.le_of_ble_eq_true rfl⟩ hlocks hT (fun E t hE h1 h2 => ⟨hE, h1, h2⟩) (Nat.le_of_ble_eq_true rfl) (Nat.le_of_ble_eq_true rfl) (fun hc2 => ?_)
  obtain ⟨k, hk, rfl⟩ := hc2
  refine lv_aload_n hx hb dX1_stateOf_5 rfl (lv_at hl 0 rfl) ?_
  refine va_get (D := D) (ci := 1) (v := .ref r) (C := RX1) (T := TX1) (N := 2) hx hb hts (fun _ h => (List.mem_cons_of_mem _ (List.mem_append_left _ (List.mem_append_left _ (List.mem_append_right _ h))))) hown hK hP 0 rfl rfl 0 (by decide) (hts _ (List.mem_of_getElem? (i := 1) rfl)) (fun _ h9 => h9) rfl dX1_stateOf_6 ?_
  refine lv_iload_n hx hb dX1_stateOf_9 rfl (lv_at hl 1 rfl) ?_
  refine pv_i CF (m_X0_stateOn l D cI r a1 a2 S k (by omega)) (cwV 1 hts gX1_stateOf_X0_stateOn rfl rfl rfl k_X0_stateOn ⟨Nat.le_of_ble_eq_true rfl, Nat.le_of_ble_eq_true rfl⟩) hK (hP.sub [1, 2, 3] rfl) rfl rfl rfl rfl hl.1 rfl (Nat.le_of_ble_eq_true rfl) dX1_stateOf_10 ⟨Nat.le_of_ble_eq_true rfl, Nat.le_of_ble_eq_true rfl⟩ ?_
  refine tp_i (y := (st (f k))) (congrArg st (hd_in hk)) ?_
  exact ex_i hx hb hr hlocks (Nat.le_of_ble_eq_true rfl) (Nat.le_of_ble_eq_true rfl) (⟨k, hk, rfl, rfl⟩) dX1_stateOf_13
theorem k_X1_coatAt : yX1_coatAt.cls = RX1 ∧ yX1_coatAt.cls ≠ "java/lang/invoke/MethodHandle" ∧ yX1_coatAt.cls ≠ "java/lang/invoke/VarHandle" ∧ (parseMethodDescriptor yX1_coatAt.desc).map (fun d => d.parameters.length) = some 1 := by decide +kernel
set_option maxHeartbeats 4000000 in
set_option maxRecDepth 100000 in
theorem m_X1_coatAt (l : Launch) (hlt : l.stackTraces = false) (D : va_G) (cI : ClassId) (o r t a1 a2 b1 b2 : Nat) {n w : Nat} {F G f g : Nat → Int32} (S : RS n w F G f g) (n2 w2 : Nat) (F2 G2 : Nat → Int32) (x : Int32) : vx_Met l yX1_coatAt wsX1_coatAt ({ frames := 7, cells := 1, slots := 6, locals := 111 } : Room) (PX D [(cI, .int)] [.ref o, .int x] (clw cI o r t a1 a2 b1 b2 n w F G n2 w2 F2 G2)) (vp_Si (fun r => ∃ k, k < n ∧ x = nI k ∧ r = cn (f k))) (xk (fun E => E = IOB ∧ ¬ rh n x)) 1 6 (fun _ => False) := by
  obtain ⟨hn3, hn, hw2, hF, hG, hO⟩ := id S
  refine bd_x (cc := cX1_coatAt) (maxL := 2) (ret := (some .int)) (by decide) rfl (Nat.le_of_ble_eq_true rfl) ?_
  intro p e s m args below meth c ls CF hr hlocks hT hK hP hX hZ hl
  obtain ⟨hx, hb, hml, hown, hts⟩ := id CF
  have hl : lv_has ls 2 [(0, .ref o), (1, .int x)] := hl
  have hP : va_P D vwCl [(o, .inr (1, [.ref r, .ref t])), (r, .inr (0, [.ref a1, .ref a2, .int (nI n), .int (nI w)])), (a1, .inl (cI, 40, .inl F)), (a2, .inl (cI, 40, .inl G)), (t, .inr (0, [.ref b1, .ref b2, .int (nI n2), .int (nI w2)])), (b1, .inl (cI, 40, .inl F2)), (b2, .inl (cI, 40, .inl G2))] s.heap := hP
  refine lv_aload_n hx hb dX1_coatAt_0 rfl (lv_at hl 0 rfl) ?_
  refine lv_iload_n hx hb dX1_coatAt_1 rfl (lv_at hl 1 rfl) ?_
  refine px_vv CF (m_X1_demandHook l hlt D cI o r t a1 a2 b1 b2 S n2 w2 F2 G2 x) (cwV 1 hts gX1_coatAt_X1_demandHook rfl rfl rfl k_X1_demandHook ⟨Nat.le_of_ble_eq_true rfl, Nat.le_of_ble_eq_true rfl⟩) hK (hP.sub [0, 1, 2, 3, 4, 5, 6] rfl) hX hZ rfl rfl rfl rfl hl.1 rfl (Nat.le_of_ble_eq_true rfl) dX1_coatAt_2 ⟨Nat.le_of_ble_eq_true rfl, Nat.le_of_ble_eq_true rfl⟩ hlocks hT (fun E t hE h1 h2 => ⟨hE, h1, h2⟩) (Nat.le_of_ble_eq_true rfl) (Nat.le_of_ble_eq_true rfl) (fun hc2 => ?_)
  obtain ⟨k, hk, rfl⟩ := hc2
  refine lv_aload_n hx hb dX1_coatAt_5 rfl (lv_at hl 0 rfl) ?_
  refine va_get (D := D) (ci := 1) (v := .ref r) (C := RX1) (T := TX1) (N := 2) hx hb hts (fun _ h => (List.mem_cons_of_mem _ (List.mem_append_left _ (List.mem_append_left _ (List.mem_append_right _ h))))) hown hK hP 0 rfl rfl 0 (by decide) (hts _ (List.mem_of_getElem? (i := 1) rfl)) (fun _ h9 => h9) rfl dX1_coatAt_6 ?_
  refine lv_iload_n hx hb dX1_coatAt_9 rfl (lv_at hl 1 rfl) ?_
  refine pv_i CF (m_X0_coatOn l D cI r a1 a2 S k (by omega)) (cwV 1 hts gX1_coatAt_X0_coatOn rfl rfl rfl k_X0_coatOn ⟨Nat.le_of_ble_eq_true rfl, Nat.le_of_ble_eq_true rfl⟩) hK (hP.sub [1, 2, 3] rfl) rfl rfl rfl rfl hl.1 rfl (Nat.le_of_ble_eq_true rfl) dX1_coatAt_10 ⟨Nat.le_of_ble_eq_true rfl, Nat.le_of_ble_eq_true rfl⟩ ?_
  refine tp_i (y := (cn (f k))) (cn_hd hk) ?_
  exact ex_i hx hb hr hlocks (Nat.le_of_ble_eq_true rfl) (Nat.le_of_ble_eq_true rfl) (⟨k, hk, rfl, rfl⟩) dX1_coatAt_13
theorem k_X1_weightAt : yX1_weightAt.cls = RX1 ∧ yX1_weightAt.cls ≠ "java/lang/invoke/MethodHandle" ∧ yX1_weightAt.cls ≠ "java/lang/invoke/VarHandle" ∧ (parseMethodDescriptor yX1_weightAt.desc).map (fun d => d.parameters.length) = some 1 := by decide +kernel
set_option maxHeartbeats 4000000 in
set_option maxRecDepth 100000 in
theorem m_X1_weightAt (l : Launch) (hlt : l.stackTraces = false) (D : va_G) (cI : ClassId) (o r t a1 a2 b1 b2 : Nat) {n w : Nat} {F G f g : Nat → Int32} (S : RS n w F G f g) (n2 w2 : Nat) (F2 G2 : Nat → Int32) (x : Int32) : vx_Met l yX1_weightAt wsX1_weightAt ({ frames := 7, cells := 1, slots := 6, locals := 111 } : Room) (PX D [(cI, .int)] [.ref o, .int x] (clw cI o r t a1 a2 b1 b2 n w F G n2 w2 F2 G2)) (vp_Si (fun r => ∃ k, k < n ∧ x = nI k ∧ r = g k)) (xk (fun E => E = IOB ∧ ¬ rh n x)) 1 6 (fun _ => False) := by
  obtain ⟨hn3, hn, hw2, hF, hG, hO⟩ := id S
  refine bd_x (cc := cX1_weightAt) (maxL := 2) (ret := (some .int)) (by decide) rfl (Nat.le_of_ble_eq_true rfl) ?_
  intro p e s m args below meth c ls CF hr hlocks hT hK hP hX hZ hl
  obtain ⟨hx, hb, hml, hown, hts⟩ := id CF
  have hl : lv_has ls 2 [(0, .ref o), (1, .int x)] := hl
  have hP : va_P D vwCl [(o, .inr (1, [.ref r, .ref t])), (r, .inr (0, [.ref a1, .ref a2, .int (nI n), .int (nI w)])), (a1, .inl (cI, 40, .inl F)), (a2, .inl (cI, 40, .inl G)), (t, .inr (0, [.ref b1, .ref b2, .int (nI n2), .int (nI w2)])), (b1, .inl (cI, 40, .inl F2)), (b2, .inl (cI, 40, .inl G2))] s.heap := hP
  refine lv_aload_n hx hb dX1_weightAt_0 rfl (lv_at hl 0 rfl) ?_
  refine lv_iload_n hx hb dX1_weightAt_1 rfl (lv_at hl 1 rfl) ?_
  refine px_vv CF (m_X1_demandHook l hlt D cI o r t a1 a2 b1 b2 S n2 w2 F2 G2 x) (cwV 1 hts gX1_weightAt_X1_demandHook rfl rfl rfl k_X1_demandHook ⟨Nat.le_of_ble_eq_true rfl, Nat.le_of_ble_eq_true rfl⟩) hK (hP.sub [0, 1, 2, 3, 4, 5, 6] rfl) hX hZ rfl rfl rfl rfl hl.1 rfl (Nat.le_of_ble_eq_true rfl) dX1_weightAt_2 ⟨Nat.le_of_ble_eq_true rfl, Nat.le_of_ble_eq_true rfl⟩ hlocks hT (fun E t hE h1 h2 => ⟨hE, h1, h2⟩) (Nat.le_of_ble_eq_true rfl) (Nat.le_of_ble_eq_true rfl) (fun hc2 => ?_)
  obtain ⟨k, hk, rfl⟩ := hc2
  refine lv_aload_n hx hb dX1_weightAt_5 rfl (lv_at hl 0 rfl) ?_
  refine va_get (D := D) (ci := 1) (v := .ref r) (C := RX1) (T := TX1) (N := 2) hx hb hts (fun _ h => (List.mem_cons_of_mem _ (List.mem_append_left _ (List.mem_append_left _ (List.mem_append_right _ h))))) hown hK hP 0 rfl rfl 0 (by decide) (hts _ (List.mem_of_getElem? (i := 1) rfl)) (fun _ h9 => h9) rfl dX1_weightAt_6 ?_
  refine lv_iload_n hx hb dX1_weightAt_9 rfl (lv_at hl 1 rfl) ?_
  refine pv_i CF (m_X0_weightOn l D cI r a1 a2 S k (by omega)) (cwV 1 hts gX1_weightAt_X0_weightOn rfl rfl rfl k_X0_weightOn ⟨Nat.le_of_ble_eq_true rfl, Nat.le_of_ble_eq_true rfl⟩) hK (hP.sub [1, 2, 3] rfl) rfl rfl rfl rfl hl.1 rfl (Nat.le_of_ble_eq_true rfl) dX1_weightAt_10 ⟨Nat.le_of_ble_eq_true rfl, Nat.le_of_ble_eq_true rfl⟩ ?_
  refine tp_i (y := (g k)) (if_pos hk) ?_
  exact ex_i hx hb hr hlocks (Nat.le_of_ble_eq_true rfl) (Nat.le_of_ble_eq_true rfl) (⟨k, hk, rfl, rfl⟩) dX1_weightAt_13
theorem k_X1_rowAt : yX1_rowAt.cls = RX1 ∧ yX1_rowAt.cls ≠ "java/lang/invoke/MethodHandle" ∧ yX1_rowAt.cls ≠ "java/lang/invoke/VarHandle" ∧ (parseMethodDescriptor yX1_rowAt.desc).map (fun d => d.parameters.length) = some 1 := by decide +kernel
set_option maxHeartbeats 4000000 in
set_option maxRecDepth 100000 in
theorem m_X1_rowAt (l : Launch) (hlt : l.stackTraces = false) (D : va_G) (cI : ClassId) (o r t a1 a2 b1 b2 : Nat) {n w : Nat} {F G f g : Nat → Int32} (S : RS n w F G f g) (n2 w2 : Nat) (F2 G2 : Nat → Int32) (x : Int32) : vx_Met l yX1_rowAt wsX1_rowAt ({ frames := 7, cells := 1, slots := 6, locals := 111 } : Room) (PX D [(cI, .int)] [.ref o, .int x] (clw cI o r t a1 a2 b1 b2 n w F G n2 w2 F2 G2)) (vp_Si (fun r => ∃ k, k < n ∧ x = nI k ∧ r = nI (rl n f k))) (xk (fun E => E = IOB ∧ ¬ rh n x)) 1 6 (fun _ => False) := by
  obtain ⟨hn3, hn, hw2, hF, hG, hO⟩ := id S
  refine bd_x (cc := cX1_rowAt) (maxL := 2) (ret := (some .int)) (by decide) rfl (Nat.le_of_ble_eq_true rfl) ?_
  intro p e s m args below meth c ls CF hr hlocks hT hK hP hX hZ hl
  obtain ⟨hx, hb, hml, hown, hts⟩ := id CF
  have hl : lv_has ls 2 [(0, .ref o), (1, .int x)] := hl
  have hP : va_P D vwCl [(o, .inr (1, [.ref r, .ref t])), (r, .inr (0, [.ref a1, .ref a2, .int (nI n), .int (nI w)])), (a1, .inl (cI, 40, .inl F)), (a2, .inl (cI, 40, .inl G)), (t, .inr (0, [.ref b1, .ref b2, .int (nI n2), .int (nI w2)])), (b1, .inl (cI, 40, .inl F2)), (b2, .inl (cI, 40, .inl G2))] s.heap := hP
  refine lv_aload_n hx hb dX1_rowAt_0 rfl (lv_at hl 0 rfl) ?_
  refine lv_iload_n hx hb dX1_rowAt_1 rfl (lv_at hl 1 rfl) ?_
  refine px_vv CF (m_X1_demandHook l hlt D cI o r t a1 a2 b1 b2 S n2 w2 F2 G2 x) (cwV 1 hts gX1_rowAt_X1_demandHook rfl rfl rfl k_X1_demandHook ⟨Nat.le_of_ble_eq_true rfl, Nat.le_of_ble_eq_true rfl⟩) hK (hP.sub [0, 1, 2, 3, 4, 5, 6] rfl) hX hZ rfl rfl rfl rfl hl.1 rfl (Nat.le_of_ble_eq_true rfl) dX1_rowAt_2 ⟨Nat.le_of_ble_eq_true rfl, Nat.le_of_ble_eq_true rfl⟩ hlocks hT (fun E t hE h1 h2 => ⟨hE, h1, h2⟩) (Nat.le_of_ble_eq_true rfl) (Nat.le_of_ble_eq_true rfl) (fun hc2 => ?_)
  obtain ⟨k, hk, rfl⟩ := hc2
  refine lv_aload_n hx hb dX1_rowAt_5 rfl (lv_at hl 0 rfl) ?_
  refine va_get (D := D) (ci := 1) (v := .ref r) (C := RX1) (T := TX1) (N := 2) hx hb hts (fun _ h => (List.mem_cons_of_mem _ (List.mem_append_left _ (List.mem_append_left _ (List.mem_append_right _ h))))) hown hK hP 0 rfl rfl 0 (by decide) (hts _ (List.mem_of_getElem? (i := 1) rfl)) (fun _ h9 => h9) rfl dX1_rowAt_6 ?_
  refine lv_iload_n hx hb dX1_rowAt_9 rfl (lv_at hl 1 rfl) ?_
  refine pv_i CF (m_X0_rowLength l D cI r a1 a2 S k hk) (cwV 1 hts gX1_rowAt_X0_rowLength rfl rfl rfl k_X0_rowLength ⟨Nat.le_of_ble_eq_true rfl, Nat.le_of_ble_eq_true rfl⟩) hK (hP.sub [1, 2, 3] rfl) rfl rfl rfl rfl hl.1 rfl (Nat.le_of_ble_eq_true rfl) dX1_rowAt_10 ⟨Nat.le_of_ble_eq_true rfl, Nat.le_of_ble_eq_true rfl⟩ ?_
  exact ex_i hx hb hr hlocks (Nat.le_of_ble_eq_true rfl) (Nat.le_of_ble_eq_true rfl) (⟨k, hk, rfl, rfl⟩) dX1_rowAt_13
theorem k_X1_find : yX1_find.cls = RX1 ∧ yX1_find.cls ≠ "java/lang/invoke/MethodHandle" ∧ yX1_find.cls ≠ "java/lang/invoke/VarHandle" ∧ (parseMethodDescriptor yX1_find.desc).map (fun d => d.parameters.length) = some 1 := by decide +kernel
set_option maxHeartbeats 4000000 in
set_option maxRecDepth 100000 in
theorem m_X1_find (l : Launch) (hlt : l.stackTraces = false) (D : va_G) (cI : ClassId) (o r t a1 a2 b1 b2 : Nat) {n w : Nat} {F G f g : Nat → Int32} (S : RS n w F G f g) (n2 w2 : Nat) (F2 G2 : Nat → Int32) (x : Int32) : vx_Met l yX1_find wsX1_find ({ frames := 7, cells := 1, slots := 6, locals := 110 } : Room) (PX D [(cI, .int)] [.ref o, .int x] (clw cI o r t a1 a2 b1 b2 n w F G n2 w2 F2 G2)) (vp_Si (fun r => ∃ v, v ≤ 9999 ∧ x = nI v ∧ r = fd n w f v)) (xk (fun E => E = IAE ∧ ¬ rg 0 9999 x)) 1 6 (fun _ => False) := by
  obtain ⟨hn3, hn, hw2, hF, hG, hO⟩ := id S
  refine bd_x (cc := cX1_find) (maxL := 2) (ret := (some .int)) (by decide) rfl (Nat.le_of_ble_eq_true rfl) ?_
  intro p e s m args below meth c ls CF hr hlocks hT hK hP hX hZ hl
  obtain ⟨hx, hb, hml, hown, hts⟩ := id CF
  have hl : lv_has ls 2 [(0, .ref o), (1, .int x)] := hl
  have hP : va_P D vwCl [(o, .inr (1, [.ref r, .ref t])), (r, .inr (0, [.ref a1, .ref a2, .int (nI n), .int (nI w)])), (a1, .inl (cI, 40, .inl F)), (a2, .inl (cI, 40, .inl G)), (t, .inr (0, [.ref b1, .ref b2, .int (nI n2), .int (nI w2)])), (b1, .inl (cI, 40, .inl F2)), (b2, .inl (cI, 40, .inl G2))] s.heap := hP
  refine lv_iload_n hx hb dX1_find_0 rfl (lv_at hl 1 rfl) ?_
  refine px_sv CF (m_X1_demandNumber l hlt D cI x) (va_cwS 1 hts gX1_find_X1_demandNumber rfl rfl rfl k_X1_demandNumber.2 ⟨Nat.le_of_ble_eq_true rfl, Nat.le_of_ble_eq_true rfl⟩) hK (hP.sub [] rfl) hX hZ rfl hl.1 rfl (Nat.le_of_ble_eq_true rfl) dX1_find_1 ⟨Nat.le_of_ble_eq_true rfl, Nat.le_of_ble_eq_true rfl⟩ hlocks hT (fun E t hE h1 h2 => ⟨hE, h1, h2⟩) (Nat.le_of_ble_eq_true rfl) (Nat.le_of_ble_eq_true rfl) (fun hc1 => ?_)
  obtain ⟨v, -, hv9, rfl⟩ := hc1
  refine lv_aload_n hx hb dX1_find_4 rfl (lv_at hl 0 rfl) ?_
  refine va_get (D := D) (ci := 1) (v := .ref r) (C := RX1) (T := TX1) (N := 2) hx hb hts (fun _ h => (List.mem_cons_of_mem _ (List.mem_append_left _ (List.mem_append_left _ (List.mem_append_right _ h))))) hown hK hP 0 rfl rfl 0 (by decide) (hts _ (List.mem_of_getElem? (i := 1) rfl)) (fun _ h9 => h9) rfl dX1_find_5 ?_
  refine lv_iload_n hx hb dX1_find_8 rfl (lv_at hl 1 rfl) ?_
  refine pv_i CF (m_X0_whereFound l D cI r a1 a2 S v hv9) (cwV 1 hts gX1_find_X0_whereFound rfl rfl rfl k_X0_whereFound ⟨Nat.le_of_ble_eq_true rfl, Nat.le_of_ble_eq_true rfl⟩) hK (hP.sub [1, 2, 3] rfl) rfl rfl rfl rfl hl.1 rfl (Nat.le_of_ble_eq_true rfl) dX1_find_9 ⟨Nat.le_of_ble_eq_true rfl, Nat.le_of_ble_eq_true rfl⟩ ?_
  exact ex_i hx hb hr hlocks (Nat.le_of_ble_eq_true rfl) (Nat.le_of_ble_eq_true rfl) (⟨v, hv9, rfl, rfl⟩) dX1_find_12
theorem k_X1_looksFor : yX1_looksFor.cls = RX1 ∧ yX1_looksFor.cls ≠ "java/lang/invoke/MethodHandle" ∧ yX1_looksFor.cls ≠ "java/lang/invoke/VarHandle" ∧ (parseMethodDescriptor yX1_looksFor.desc).map (fun d => d.parameters.length) = some 1 := by decide +kernel
set_option maxHeartbeats 4000000 in
set_option maxRecDepth 100000 in
theorem m_X1_looksFor (l : Launch) (hlt : l.stackTraces = false) (D : va_G) (cI : ClassId) (o r t a1 a2 b1 b2 : Nat) {n w : Nat} {F G f g : Nat → Int32} (S : RS n w F G f g) (n2 w2 : Nat) (F2 G2 : Nat → Int32) (x : Int32) : vx_Met l yX1_looksFor wsX1_looksFor ({ frames := 7, cells := 1, slots := 6, locals := 110 } : Room) (PX D [(cI, .int)] [.ref o, .int x] (clw cI o r t a1 a2 b1 b2 n w F G n2 w2 F2 G2)) (vp_Si (fun r => ∃ v, v ≤ 9999 ∧ x = nI v ∧ r = nI (lk n w f v))) (xk (fun E => E = IAE ∧ ¬ rg 0 9999 x)) 1 6 (fun _ => False) := by
  obtain ⟨hn3, hn, hw2, hF, hG, hO⟩ := id S
  refine bd_x (cc := cX1_looksFor) (maxL := 2) (ret := (some .int)) (by decide) rfl (Nat.le_of_ble_eq_true rfl) ?_
  intro p e s m args below meth c ls CF hr hlocks hT hK hP hX hZ hl
  obtain ⟨hx, hb, hml, hown, hts⟩ := id CF
  have hl : lv_has ls 2 [(0, .ref o), (1, .int x)] := hl
  have hP : va_P D vwCl [(o, .inr (1, [.ref r, .ref t])), (r, .inr (0, [.ref a1, .ref a2, .int (nI n), .int (nI w)])), (a1, .inl (cI, 40, .inl F)), (a2, .inl (cI, 40, .inl G)), (t, .inr (0, [.ref b1, .ref b2, .int (nI n2), .int (nI w2)])), (b1, .inl (cI, 40, .inl F2)), (b2, .inl (cI, 40, .inl G2))] s.heap := hP
  refine lv_iload_n hx hb dX1_looksFor_0 rfl (lv_at hl 1 rfl) ?_
  refine px_sv CF (m_X1_demandNumber l hlt D cI x) (va_cwS 1 hts gX1_looksFor_X1_demandNumber rfl rfl rfl k_X1_demandNumber.2 ⟨Nat.le_of_ble_eq_true rfl, Nat.le_of_ble_eq_true rfl⟩) hK (hP.sub [] rfl) hX hZ rfl hl.1 rfl (Nat.le_of_ble_eq_true rfl) dX1_looksFor_1 ⟨Nat.le_of_ble_eq_true rfl, Nat.le_of_ble_eq_true rfl⟩ hlocks hT (fun E t hE h1 h2 => ⟨hE, h1, h2⟩) (Nat.le_of_ble_eq_true rfl) (Nat.le_of_ble_eq_true rfl) (fun hc1 => ?_)
  obtain ⟨v, -, hv9, rfl⟩ := hc1
  refine lv_aload_n hx hb dX1_looksFor_4 rfl (lv_at hl 0 rfl) ?_
  refine va_get (D := D) (ci := 1) (v := .ref r) (C := RX1) (T := TX1) (N := 2) hx hb hts (fun _ h => (List.mem_cons_of_mem _ (List.mem_append_left _ (List.mem_append_left _ (List.mem_append_right _ h))))) hown hK hP 0 rfl rfl 0 (by decide) (hts _ (List.mem_of_getElem? (i := 1) rfl)) (fun _ h9 => h9) rfl dX1_looksFor_5 ?_
  refine lv_iload_n hx hb dX1_looksFor_8 rfl (lv_at hl 1 rfl) ?_
  refine pv_i CF (m_X0_countLooks l D cI r a1 a2 S v hv9) (cwV 1 hts gX1_looksFor_X0_countLooks rfl rfl rfl k_X0_countLooks ⟨Nat.le_of_ble_eq_true rfl, Nat.le_of_ble_eq_true rfl⟩) hK (hP.sub [1, 2, 3] rfl) rfl rfl rfl rfl hl.1 rfl (Nat.le_of_ble_eq_true rfl) dX1_looksFor_9 ⟨Nat.le_of_ble_eq_true rfl, Nat.le_of_ble_eq_true rfl⟩ ?_
  exact ex_i hx hb hr hlocks (Nat.le_of_ble_eq_true rfl) (Nat.le_of_ble_eq_true rfl) (⟨v, hv9, rfl, rfl⟩) dX1_looksFor_12
theorem k_X1_placeFor : yX1_placeFor.cls = RX1 ∧ yX1_placeFor.cls ≠ "java/lang/invoke/MethodHandle" ∧ yX1_placeFor.cls ≠ "java/lang/invoke/VarHandle" ∧ (parseMethodDescriptor yX1_placeFor.desc).map (fun d => d.parameters.length) = some 1 := by decide +kernel
set_option maxHeartbeats 4000000 in
set_option maxRecDepth 100000 in
theorem m_X1_placeFor (l : Launch) (hlt : l.stackTraces = false) (D : va_G) (cI : ClassId) (o r t a1 a2 b1 b2 : Nat) {n w : Nat} {F G f g : Nat → Int32} (S : RS n w F G f g) (n2 w2 : Nat) (F2 G2 : Nat → Int32) (x : Int32) : vx_Met l yX1_placeFor wsX1_placeFor ({ frames := 7, cells := 1, slots := 6, locals := 110 } : Room) (PX D [(cI, .int)] [.ref o, .int x] (clw cI o r t a1 a2 b1 b2 n w F G n2 w2 F2 G2)) (vp_Si (fun r => ∃ v, v ≤ 9999 ∧ x = nI v ∧ r = pl n w f v)) (xk (fun E => E = IAE ∧ ¬ rg 0 9999 x)) 1 6 (fun _ => False) := by
  obtain ⟨hn3, hn, hw2, hF, hG, hO⟩ := id S
  refine bd_x (cc := cX1_placeFor) (maxL := 2) (ret := (some .int)) (by decide) rfl (Nat.le_of_ble_eq_true rfl) ?_
  intro p e s m args below meth c ls CF hr hlocks hT hK hP hX hZ hl
  obtain ⟨hx, hb, hml, hown, hts⟩ := id CF
  have hl : lv_has ls 2 [(0, .ref o), (1, .int x)] := hl
  have hP : va_P D vwCl [(o, .inr (1, [.ref r, .ref t])), (r, .inr (0, [.ref a1, .ref a2, .int (nI n), .int (nI w)])), (a1, .inl (cI, 40, .inl F)), (a2, .inl (cI, 40, .inl G)), (t, .inr (0, [.ref b1, .ref b2, .int (nI n2), .int (nI w2)])), (b1, .inl (cI, 40, .inl F2)), (b2, .inl (cI, 40, .inl G2))] s.heap := hP
  refine lv_iload_n hx hb dX1_placeFor_0 rfl (lv_at hl 1 rfl) ?_
  refine px_sv CF (m_X1_demandNumber l hlt D cI x) (va_cwS 1 hts gX1_placeFor_X1_demandNumber rfl rfl rfl k_X1_demandNumber.2 ⟨Nat.le_of_ble_eq_true rfl, Nat.le_of_ble_eq_true rfl⟩) hK (hP.sub [] rfl) hX hZ rfl hl.1 rfl (Nat.le_of_ble_eq_true rfl) dX1_placeFor_1 ⟨Nat.le_of_ble_eq_true rfl, Nat.le_of_ble_eq_true rfl⟩ hlocks hT (fun E t hE h1 h2 => ⟨hE, h1, h2⟩) (Nat.le_of_ble_eq_true rfl) (Nat.le_of_ble_eq_true rfl) (fun hc1 => ?_)
  obtain ⟨v, -, hv9, rfl⟩ := hc1
  refine lv_aload_n hx hb dX1_placeFor_4 rfl (lv_at hl 0 rfl) ?_
  refine va_get (D := D) (ci := 1) (v := .ref r) (C := RX1) (T := TX1) (N := 2) hx hb hts (fun _ h => (List.mem_cons_of_mem _ (List.mem_append_left _ (List.mem_append_left _ (List.mem_append_right _ h))))) hown hK hP 0 rfl rfl 0 (by decide) (hts _ (List.mem_of_getElem? (i := 1) rfl)) (fun _ h9 => h9) rfl dX1_placeFor_5 ?_
  refine lv_iload_n hx hb dX1_placeFor_8 rfl (lv_at hl 1 rfl) ?_
  refine pv_i CF (m_X0_placeOf l D cI r a1 a2 S v hv9) (cwV 1 hts gX1_placeFor_X0_placeOf rfl rfl rfl k_X0_placeOf ⟨Nat.le_of_ble_eq_true rfl, Nat.le_of_ble_eq_true rfl⟩) hK (hP.sub [1, 2, 3] rfl) rfl rfl rfl rfl hl.1 rfl (Nat.le_of_ble_eq_true rfl) dX1_placeFor_9 ⟨Nat.le_of_ble_eq_true rfl, Nat.le_of_ble_eq_true rfl⟩ ?_
  exact ex_i hx hb hr hlocks (Nat.le_of_ble_eq_true rfl) (Nat.le_of_ble_eq_true rfl) (⟨v, hv9, rfl, rfl⟩) dX1_placeFor_12
theorem k_X1_lookedAt : yX1_lookedAt.cls = RX1 ∧ yX1_lookedAt.cls ≠ "java/lang/invoke/MethodHandle" ∧ yX1_lookedAt.cls ≠ "java/lang/invoke/VarHandle" ∧ (parseMethodDescriptor yX1_lookedAt.desc).map (fun d => d.parameters.length) = some 2 := by decide +kernel
set_option maxHeartbeats 4000000 in
set_option maxRecDepth 100000 in
theorem m_X1_lookedAt (l : Launch) (hlt : l.stackTraces = false) (D : va_G) (cI : ClassId) (o r t a1 a2 b1 b2 : Nat) {n w : Nat} {F G f g : Nat → Int32} (S : RS n w F G f g) (n2 w2 : Nat) (F2 G2 : Nat → Int32) (x y : Int32) : vx_Met l yX1_lookedAt wsX1_lookedAt ({ frames := 7, cells := 2, slots := 12, locals := 110 } : Room) (PX D [(cI, .int)] [.ref o, .int x, .int y] (clw cI o r t a1 a2 b1 b2 n w F G n2 w2 F2 G2)) (vp_Si (fun r => ∃ v k, v ≤ 9999 ∧ x = nI v ∧ k ≤ 39 ∧ y = nI k ∧ r = nI (at_ n w v k))) (xk (fun E => E = IAE ∧ ¬ (rg 0 9999 x ∧ rg 0 39 y))) 2 12 (fun _ => False) := by
  obtain ⟨hn3, hn, hw2, hF, hG, hO⟩ := id S
  refine bd_x (cc := cX1_lookedAt) (maxL := 3) (ret := (some .int)) (by decide) rfl (Nat.le_of_ble_eq_true rfl) ?_
  intro p e s m args below meth c ls CF hr hlocks hT hK hP hX hZ hl
  obtain ⟨hx, hb, hml, hown, hts⟩ := id CF
  have hl : lv_has ls 3 [(0, .ref o), (1, .int x), (2, .int y)] := hl
  have hP : va_P D vwCl [(o, .inr (1, [.ref r, .ref t])), (r, .inr (0, [.ref a1, .ref a2, .int (nI n), .int (nI w)])), (a1, .inl (cI, 40, .inl F)), (a2, .inl (cI, 40, .inl G)), (t, .inr (0, [.ref b1, .ref b2, .int (nI n2), .int (nI w2)])), (b1, .inl (cI, 40, .inl F2)), (b2, .inl (cI, 40, .inl G2))] s.heap := hP
  refine lv_iload_n hx hb dX1_lookedAt_0 rfl (lv_at hl 1 rfl) ?_
  refine px_sv CF (m_X1_demandNumber l hlt D cI x) (va_cwS 1 hts gX1_lookedAt_X1_demandNumber rfl rfl rfl k_X1_demandNumber.2 ⟨Nat.le_of_ble_eq_true rfl, Nat.le_of_ble_eq_true rfl⟩) hK (hP.sub [] rfl) hX hZ rfl hl.1 rfl (Nat.le_of_ble_eq_true rfl) dX1_lookedAt_1 ⟨Nat.le_of_ble_eq_true rfl, Nat.le_of_ble_eq_true rfl⟩ hlocks hT (fun E t hE h1 h2 => ⟨⟨hE.1, fun z => hE.2 z.1⟩, h1, h2⟩) (Nat.le_of_ble_eq_true rfl) (Nat.le_of_ble_eq_true rfl) (fun hc1 => ?_)
  obtain ⟨v, -, hv9, rfl⟩ := hc1
  refine lv_iload_n hx hb dX1_lookedAt_4 rfl (lv_at hl 2 rfl) ?_
  refine lv_if_lt (tgt := 14) hx hb dX1_lookedAt_5 (by decide) (fun c5 => ?_) (fun c5 => ?_)
  · skip
    exact th_x (cls := IAE) (text := "the step is not 0 to 39") (ik := 23) (is := 104) (ic := 27) hlt CF hX hZ va_S.rf (by decide +kernel) (List.mem_of_getElem? (i := 1) rfl) (List.mem_of_getElem? (i := 2) rfl) (List.mem_of_getElem? (i := 8) rfl) (fun _ h => (List.mem_cons_of_mem _ (List.mem_append_right _ h))) xb_IAE xg_IAE hl.1 dX1_lookedAt_14 dX1_lookedAt_17 dX1_lookedAt_18 dX1_lookedAt_20 dX1_lookedAt_23 hT ⟨Nat.le_of_ble_eq_true rfl, Nat.le_of_ble_eq_true rfl, Nat.le_of_ble_eq_true rfl, Nat.le_of_ble_eq_true rfl⟩ hlocks (fun t h1 h2 => ⟨⟨rfl, fun z => rg_lo0 (by decide) c5 z.2⟩, h1, h2⟩) (fun z hz => nomatch hz) (Nat.le_of_ble_eq_true rfl) (Nat.le_of_ble_eq_true rfl)
  · skip
    refine lv_iload_n hx hb dX1_lookedAt_8 rfl (lv_at hl 2 rfl) ?_
    refine lv_bipush (v := nI 40) hx hb dX1_lookedAt_9 (by decide) ?_
    refine lv_icmp_lt (tgt := 24) hx hb dX1_lookedAt_11 (by decide) (fun c11 => ?_) (fun c11 => ?_)
    · skip
      obtain ⟨k, -, hk9, rfl⟩ := rg_inlt (b := 39) (c := 40) rfl (by decide) c5 c11
      refine lv_aload_n hx hb dX1_lookedAt_24 rfl (lv_at hl 0 rfl) ?_
      refine va_get (D := D) (ci := 1) (v := .ref r) (C := RX1) (T := TX1) (N := 2) hx hb hts (fun _ h => (List.mem_cons_of_mem _ (List.mem_append_left _ (List.mem_append_left _ (List.mem_append_right _ h))))) hown hK hP 0 rfl rfl 0 (by decide) (hts _ (List.mem_of_getElem? (i := 3) rfl)) (fun _ h9 => h9) rfl dX1_lookedAt_25 ?_
      refine lv_iload_n hx hb dX1_lookedAt_28 rfl (lv_at hl 1 rfl) ?_
      refine lv_iload_n hx hb dX1_lookedAt_29 rfl (lv_at hl 2 rfl) ?_
      refine pv_i CF (m_X0_hookInStep l D cI r a1 a2 S v k hv9 (by omega)) (cwV 2 hts gX1_lookedAt_X0_hookInStep rfl rfl rfl k_X0_hookInStep ⟨Nat.le_of_ble_eq_true rfl, Nat.le_of_ble_eq_true rfl⟩) hK (hP.sub [1, 2, 3] rfl) rfl rfl rfl rfl hl.1 rfl (Nat.le_of_ble_eq_true rfl) dX1_lookedAt_30 ⟨Nat.le_of_ble_eq_true rfl, Nat.le_of_ble_eq_true rfl⟩ ?_
      exact ex_i hx hb hr hlocks (Nat.le_of_ble_eq_true rfl) (Nat.le_of_ble_eq_true rfl) (⟨v, k, hv9, rfl, hk9, rfl, rfl⟩) dX1_lookedAt_33
    · skip
      exact th_x (cls := IAE) (text := "the step is not 0 to 39") (ik := 23) (is := 104) (ic := 27) hlt CF hX hZ va_S.rf (by decide +kernel) (List.mem_of_getElem? (i := 1) rfl) (List.mem_of_getElem? (i := 2) rfl) (List.mem_of_getElem? (i := 8) rfl) (fun _ h => (List.mem_cons_of_mem _ (List.mem_append_right _ h))) xb_IAE xg_IAE hl.1 dX1_lookedAt_14 dX1_lookedAt_17 dX1_lookedAt_18 dX1_lookedAt_20 dX1_lookedAt_23 hT ⟨Nat.le_of_ble_eq_true rfl, Nat.le_of_ble_eq_true rfl, Nat.le_of_ble_eq_true rfl, Nat.le_of_ble_eq_true rfl⟩ hlocks (fun t h1 h2 => ⟨⟨rfl, fun z => rg_lt (by decide) c11 rfl (by decide) z.2⟩, h1, h2⟩) (fun z hz => nomatch hz) (Nat.le_of_ble_eq_true rfl) (Nat.le_of_ble_eq_true rfl)
