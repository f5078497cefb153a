section
-- ===== PART A: goes FIRST, ahead of the names: the tables' words, and 'selects' of the private methods out of them =====
/-- a private method of a class that the tables say can be made, by its rows of tables_1 -/
def lw_okq (q : MethodName × Nat) : Prop := (q.1.cls ≠ "java/lang/invoke/MethodHandle" ∧ q.1.cls ≠ "java/lang/invoke/VarHandle") ∧ Cond.instantiable q.1.cls q.2 ∈ tables_1 ∧ Cond.privateMethod q.1 ∈ tables_1 ∧ Cond.instanceMethod q.1 ∈ tables_1
theorem lw_p0 : lw_okq (⟨"CoatHooks$Rack", "heldOn", "(I)I"⟩, 4) := ⟨⟨by decide +kernel, by decide +kernel⟩, List.mem_of_getElem? (i := 20) (by decide +kernel), List.mem_of_getElem? (i := 67) (by decide +kernel), List.mem_of_getElem? (i := 68) (by decide +kernel)⟩
theorem lw_p1 : lw_okq (⟨"CoatHooks$Rack", "behind", "(I)I"⟩, 4) := ⟨⟨by decide +kernel, by decide +kernel⟩, List.mem_of_getElem? (i := 20) (by decide +kernel), List.mem_of_getElem? (i := 83) (by decide +kernel), List.mem_of_getElem? (i := 84) (by decide +kernel)⟩
theorem lw_p2 : lw_okq (⟨"CoatHooks$Rack", "before", "(I)I"⟩, 4) := ⟨⟨by decide +kernel, by decide +kernel⟩, List.mem_of_getElem? (i := 20) (by decide +kernel), List.mem_of_getElem? (i := 87) (by decide +kernel), List.mem_of_getElem? (i := 88) (by decide +kernel)⟩
theorem lw_p3 : lw_okq (⟨"CoatHooks", "looksOnTrial", "(II)I"⟩, 2) := ⟨⟨by decide +kernel, by decide +kernel⟩, List.mem_of_getElem? (i := 12) (by decide +kernel), List.mem_of_getElem? (i := 179) (by decide +kernel), List.mem_of_getElem? (i := 180) (by decide +kernel)⟩
theorem lw_p4 : lw_okq (⟨"CoatHooks", "hangAnewOnTrial", "(II)Z"⟩, 2) := ⟨⟨by decide +kernel, by decide +kernel⟩, List.mem_of_getElem? (i := 12) (by decide +kernel), List.mem_of_getElem? (i := 183) (by decide +kernel), List.mem_of_getElem? (i := 184) (by decide +kernel)⟩
theorem lw_p5 : lw_okq (⟨"CoatHooks", "fewestHooks", "(I)I"⟩, 2) := ⟨⟨by decide +kernel, by decide +kernel⟩, List.mem_of_getElem? (i := 12) (by decide +kernel), List.mem_of_getElem? (i := 209) (by decide +kernel), List.mem_of_getElem? (i := 210) (by decide +kernel)⟩
theorem lw_p6 : lw_okq (⟨"java/lang/Throwable", "fillInStackTrace", "(I)Ljava/lang/Throwable;"⟩, 6) := ⟨⟨by decide +kernel, by decide +kernel⟩, List.mem_of_getElem? (i := 266) (by decide +kernel), List.mem_of_getElem? (i := 264) (by decide +kernel), List.mem_of_getElem? (i := 265) (by decide +kernel)⟩
theorem lw_p7 : lw_okq (⟨"CoatHooks$Rack", "hangs", "(I)Z"⟩, 4) := ⟨⟨by decide +kernel, by decide +kernel⟩, List.mem_of_getElem? (i := 20) (by decide +kernel), List.mem_of_getElem? (i := 301) (by decide +kernel), List.mem_of_getElem? (i := 302) (by decide +kernel)⟩
theorem lw_p8 : lw_okq (⟨"CoatHooks", "coatsMovedOnTrial", "()I"⟩, 2) := ⟨⟨by decide +kernel, by decide +kernel⟩, List.mem_of_getElem? (i := 12) (by decide +kernel), List.mem_of_getElem? (i := 351) (by decide +kernel), List.mem_of_getElem? (i := 352) (by decide +kernel)⟩
theorem lw_p9 : lw_okq (⟨"CoatHooks", "takeOverTrial", "()V"⟩, 2) := ⟨⟨by decide +kernel, by decide +kernel⟩, List.mem_of_getElem? (i := 12) (by decide +kernel), List.mem_of_getElem? (i := 355) (by decide +kernel), List.mem_of_getElem? (i := 356) (by decide +kernel)⟩
theorem lw_p10 : lw_okq (⟨"CoatHooks", "demandHook", "(I)V"⟩, 2) := ⟨⟨by decide +kernel, by decide +kernel⟩, List.mem_of_getElem? (i := 12) (by decide +kernel), List.mem_of_getElem? (i := 367) (by decide +kernel), List.mem_of_getElem? (i := 368) (by decide +kernel)⟩
theorem lw_p11 : lw_okq (⟨"CoatHooksModel", "no", "(I)I"⟩, 11) := ⟨⟨by decide +kernel, by decide +kernel⟩, List.mem_of_getElem? (i := 453) (by decide +kernel), List.mem_of_getElem? (i := 510) (by decide +kernel), List.mem_of_getElem? (i := 511) (by decide +kernel)⟩
theorem lw_p12 : lw_okq (⟨"CoatHooksModel", "place", "(I)I"⟩, 11) := ⟨⟨by decide +kernel, by decide +kernel⟩, List.mem_of_getElem? (i := 453) (by decide +kernel), List.mem_of_getElem? (i := 514) (by decide +kernel), List.mem_of_getElem? (i := 515) (by decide +kernel)⟩
theorem lw_p13 : lw_okq (⟨"CoatHooksModel", "hangs", "(I)Z"⟩, 11) := ⟨⟨by decide +kernel, by decide +kernel⟩, List.mem_of_getElem? (i := 453) (by decide +kernel), List.mem_of_getElem? (i := 518) (by decide +kernel), List.mem_of_getElem? (i := 519) (by decide +kernel)⟩
theorem lw_p14 : lw_okq (⟨"CoatHooksModel", "lookNow", "(I)V"⟩, 11) := ⟨⟨by decide +kernel, by decide +kernel⟩, List.mem_of_getElem? (i := 453) (by decide +kernel), List.mem_of_getElem? (i := 522) (by decide +kernel), List.mem_of_getElem? (i := 523) (by decide +kernel)⟩
theorem lw_p15 : lw_okq (⟨"CoatHooksModel", "look", "([IIII)V"⟩, 11) := ⟨⟨by decide +kernel, by decide +kernel⟩, List.mem_of_getElem? (i := 453) (by decide +kernel), List.mem_of_getElem? (i := 526) (by decide +kernel), List.mem_of_getElem? (i := 527) (by decide +kernel)⟩
def lw_privs_1 : List (MethodName × Nat) := [(⟨"CoatHooks$Rack", "heldOn", "(I)I"⟩, 4), (⟨"CoatHooks$Rack", "behind", "(I)I"⟩, 4), (⟨"CoatHooks$Rack", "before", "(I)I"⟩, 4), (⟨"CoatHooks", "looksOnTrial", "(II)I"⟩, 2), (⟨"CoatHooks", "hangAnewOnTrial", "(II)Z"⟩, 2), (⟨"CoatHooks", "fewestHooks", "(I)I"⟩, 2), (⟨"java/lang/Throwable", "fillInStackTrace", "(I)Ljava/lang/Throwable;"⟩, 6), (⟨"CoatHooks$Rack", "hangs", "(I)Z"⟩, 4), (⟨"CoatHooks", "coatsMovedOnTrial", "()I"⟩, 2), (⟨"CoatHooks", "takeOverTrial", "()V"⟩, 2), (⟨"CoatHooks", "demandHook", "(I)V"⟩, 2), (⟨"CoatHooksModel", "no", "(I)I"⟩, 11), (⟨"CoatHooksModel", "place", "(I)I"⟩, 11), (⟨"CoatHooksModel", "hangs", "(I)Z"⟩, 11), (⟨"CoatHooksModel", "lookNow", "(I)V"⟩, 11), (⟨"CoatHooksModel", "look", "([IIII)V"⟩, 11)]
theorem lw_r1 : ∀ q ∈ lw_privs_1, lw_okq q := List.forall_mem_cons.mpr ⟨lw_p0, List.forall_mem_cons.mpr ⟨lw_p1, List.forall_mem_cons.mpr ⟨lw_p2, List.forall_mem_cons.mpr ⟨lw_p3, List.forall_mem_cons.mpr ⟨lw_p4, List.forall_mem_cons.mpr ⟨lw_p5, List.forall_mem_cons.mpr ⟨lw_p6, List.forall_mem_cons.mpr ⟨lw_p7, List.forall_mem_cons.mpr ⟨lw_p8, List.forall_mem_cons.mpr ⟨lw_p9, List.forall_mem_cons.mpr ⟨lw_p10, List.forall_mem_cons.mpr ⟨lw_p11, List.forall_mem_cons.mpr ⟨lw_p12, List.forall_mem_cons.mpr ⟨lw_p13, List.forall_mem_cons.mpr ⟨lw_p14, List.forall_mem_cons.mpr ⟨lw_p15, fun _ h => absurd h List.not_mem_nil⟩⟩⟩⟩⟩⟩⟩⟩⟩⟩⟩⟩⟩⟩⟩⟩
theorem lw_p16 : lw_okq (⟨"CoatHooksModel", "hung", "(III)I"⟩, 11) := ⟨⟨by decide +kernel, by decide +kernel⟩, List.mem_of_getElem? (i := 453) (by decide +kernel), List.mem_of_getElem? (i := 530) (by decide +kernel), List.mem_of_getElem? (i := 531) (by decide +kernel)⟩
theorem lw_p17 : lw_okq (⟨"CoatHooksModel", "anew", "(II)I"⟩, 11) := ⟨⟨by decide +kernel, by decide +kernel⟩, List.mem_of_getElem? (i := 453) (by decide +kernel), List.mem_of_getElem? (i := 542) (by decide +kernel), List.mem_of_getElem? (i := 543) (by decide +kernel)⟩
theorem lw_p18 : lw_okq (⟨"CoatHooksModel", "moved", "()I"⟩, 11) := ⟨⟨by decide +kernel, by decide +kernel⟩, List.mem_of_getElem? (i := 453) (by decide +kernel), List.mem_of_getElem? (i := 546) (by decide +kernel), List.mem_of_getElem? (i := 547) (by decide +kernel)⟩
theorem lw_p19 : lw_okq (⟨"CoatHooksModel", "count", "(I)I"⟩, 11) := ⟨⟨by decide +kernel, by decide +kernel⟩, List.mem_of_getElem? (i := 453) (by decide +kernel), List.mem_of_getElem? (i := 554) (by decide +kernel), List.mem_of_getElem? (i := 555) (by decide +kernel)⟩
theorem lw_p20 : lw_okq (⟨"CoatHooksModel", "ok", "(I)I"⟩, 11) := ⟨⟨by decide +kernel, by decide +kernel⟩, List.mem_of_getElem? (i := 453) (by decide +kernel), List.mem_of_getElem? (i := 562) (by decide +kernel), List.mem_of_getElem? (i := 563) (by decide +kernel)⟩
theorem lw_p21 : lw_okq (⟨"CoatHooksModel", "many", "()I"⟩, 11) := ⟨⟨by decide +kernel, by decide +kernel⟩, List.mem_of_getElem? (i := 453) (by decide +kernel), List.mem_of_getElem? (i := 574) (by decide +kernel), List.mem_of_getElem? (i := 575) (by decide +kernel)⟩
theorem lw_p22 : lw_okq (⟨"CoatHooksModel", "isHook", "(I)Z"⟩, 11) := ⟨⟨by decide +kernel, by decide +kernel⟩, List.mem_of_getElem? (i := 453) (by decide +kernel), List.mem_of_getElem? (i := 586) (by decide +kernel), List.mem_of_getElem? (i := 587) (by decide +kernel)⟩
theorem lw_p23 : lw_okq (⟨"CoatHooksModel", "state", "(I)I"⟩, 11) := ⟨⟨by decide +kernel, by decide +kernel⟩, List.mem_of_getElem? (i := 453) (by decide +kernel), List.mem_of_getElem? (i := 590) (by decide +kernel), List.mem_of_getElem? (i := 591) (by decide +kernel)⟩
theorem lw_p24 : lw_okq (⟨"CoatHooksModel", "coat", "(I)I"⟩, 11) := ⟨⟨by decide +kernel, by decide +kernel⟩, List.mem_of_getElem? (i := 453) (by decide +kernel), List.mem_of_getElem? (i := 598) (by decide +kernel), List.mem_of_getElem? (i := 599) (by decide +kernel)⟩
theorem lw_p25 : lw_okq (⟨"CoatHooksModel", "weightOn", "(I)I"⟩, 11) := ⟨⟨by decide +kernel, by decide +kernel⟩, List.mem_of_getElem? (i := 453) (by decide +kernel), List.mem_of_getElem? (i := 609) (by decide +kernel), List.mem_of_getElem? (i := 610) (by decide +kernel)⟩
theorem lw_p26 : lw_okq (⟨"CoatHooksModel", "all", "()I"⟩, 11) := ⟨⟨by decide +kernel, by decide +kernel⟩, List.mem_of_getElem? (i := 453) (by decide +kernel), List.mem_of_getElem? (i := 617) (by decide +kernel), List.mem_of_getElem? (i := 618) (by decide +kernel)⟩
theorem lw_p27 : lw_okq (⟨"CoatHooksModel", "heaviest", "()I"⟩, 11) := ⟨⟨by decide +kernel, by decide +kernel⟩, List.mem_of_getElem? (i := 453) (by decide +kernel), List.mem_of_getElem? (i := 625) (by decide +kernel), List.mem_of_getElem? (i := 626) (by decide +kernel)⟩
theorem lw_p28 : lw_okq (⟨"CoatHooksModel", "manyLooks", "(I)I"⟩, 11) := ⟨⟨by decide +kernel, by decide +kernel⟩, List.mem_of_getElem? (i := 453) (by decide +kernel), List.mem_of_getElem? (i := 637) (by decide +kernel), List.mem_of_getElem? (i := 638) (by decide +kernel)⟩
theorem lw_p29 : lw_okq (⟨"CoatHooksModel", "looksForAll", "()I"⟩, 11) := ⟨⟨by decide +kernel, by decide +kernel⟩, List.mem_of_getElem? (i := 453) (by decide +kernel), List.mem_of_getElem? (i := 653) (by decide +kernel), List.mem_of_getElem? (i := 654) (by decide +kernel)⟩
theorem lw_p30 : lw_okq (⟨"CoatHooksModel", "far", "()I"⟩, 11) := ⟨⟨by decide +kernel, by decide +kernel⟩, List.mem_of_getElem? (i := 453) (by decide +kernel), List.mem_of_getElem? (i := 661) (by decide +kernel), List.mem_of_getElem? (i := 662) (by decide +kernel)⟩
theorem lw_p31 : lw_okq (⟨"CoatHooksModel", "rowsNow", "()I"⟩, 11) := ⟨⟨by decide +kernel, by decide +kernel⟩, List.mem_of_getElem? (i := 453) (by decide +kernel), List.mem_of_getElem? (i := 669) (by decide +kernel), List.mem_of_getElem? (i := 670) (by decide +kernel)⟩
def lw_privs_2 : List (MethodName × Nat) := [(⟨"CoatHooksModel", "hung", "(III)I"⟩, 11), (⟨"CoatHooksModel", "anew", "(II)I"⟩, 11), (⟨"CoatHooksModel", "moved", "()I"⟩, 11), (⟨"CoatHooksModel", "count", "(I)I"⟩, 11), (⟨"CoatHooksModel", "ok", "(I)I"⟩, 11), (⟨"CoatHooksModel", "many", "()I"⟩, 11), (⟨"CoatHooksModel", "isHook", "(I)Z"⟩, 11), (⟨"CoatHooksModel", "state", "(I)I"⟩, 11), (⟨"CoatHooksModel", "coat", "(I)I"⟩, 11), (⟨"CoatHooksModel", "weightOn", "(I)I"⟩, 11), (⟨"CoatHooksModel", "all", "()I"⟩, 11), (⟨"CoatHooksModel", "heaviest", "()I"⟩, 11), (⟨"CoatHooksModel", "manyLooks", "(I)I"⟩, 11), (⟨"CoatHooksModel", "looksForAll", "()I"⟩, 11), (⟨"CoatHooksModel", "far", "()I"⟩, 11), (⟨"CoatHooksModel", "rowsNow", "()I"⟩, 11)]
theorem lw_r2 : ∀ q ∈ lw_privs_2, lw_okq q := List.forall_mem_cons.mpr ⟨lw_p16, List.forall_mem_cons.mpr ⟨lw_p17, List.forall_mem_cons.mpr ⟨lw_p18, List.forall_mem_cons.mpr ⟨lw_p19, List.forall_mem_cons.mpr ⟨lw_p20, List.forall_mem_cons.mpr ⟨lw_p21, List.forall_mem_cons.mpr ⟨lw_p22, List.forall_mem_cons.mpr ⟨lw_p23, List.forall_mem_cons.mpr ⟨lw_p24, List.forall_mem_cons.mpr ⟨lw_p25, List.forall_mem_cons.mpr ⟨lw_p26, List.forall_mem_cons.mpr ⟨lw_p27, List.forall_mem_cons.mpr ⟨lw_p28, List.forall_mem_cons.mpr ⟨lw_p29, List.forall_mem_cons.mpr ⟨lw_p30, List.forall_mem_cons.mpr ⟨lw_p31, fun _ h => absurd h List.not_mem_nil⟩⟩⟩⟩⟩⟩⟩⟩⟩⟩⟩⟩⟩⟩⟩⟩
theorem lw_p32 : lw_okq (⟨"CoatHooksModel", "longest", "()I"⟩, 11) := ⟨⟨by decide +kernel, by decide +kernel⟩, List.mem_of_getElem? (i := 453) (by decide +kernel), List.mem_of_getElem? (i := 677) (by decide +kernel), List.mem_of_getElem? (i := 678) (by decide +kernel)⟩
theorem lw_p33 : lw_okq (⟨"CoatHooksModel", "rowOf", "(I)I"⟩, 11) := ⟨⟨by decide +kernel, by decide +kernel⟩, List.mem_of_getElem? (i := 453) (by decide +kernel), List.mem_of_getElem? (i := 681) (by decide +kernel), List.mem_of_getElem? (i := 682) (by decide +kernel)⟩
theorem lw_p34 : lw_okq (⟨"CoatHooksModel", "best", "()I"⟩, 11) := ⟨⟨by decide +kernel, by decide +kernel⟩, List.mem_of_getElem? (i := 453) (by decide +kernel), List.mem_of_getElem? (i := 700) (by decide +kernel), List.mem_of_getElem? (i := 701) (by decide +kernel)⟩
theorem lw_p35 : lw_okq (⟨"CoatHooksModel", "wanted", "(I)I"⟩, 11) := ⟨⟨by decide +kernel, by decide +kernel⟩, List.mem_of_getElem? (i := 453) (by decide +kernel), List.mem_of_getElem? (i := 708) (by decide +kernel), List.mem_of_getElem? (i := 709) (by decide +kernel)⟩
def lw_privs_3 : List (MethodName × Nat) := [(⟨"CoatHooksModel", "longest", "()I"⟩, 11), (⟨"CoatHooksModel", "rowOf", "(I)I"⟩, 11), (⟨"CoatHooksModel", "best", "()I"⟩, 11), (⟨"CoatHooksModel", "wanted", "(I)I"⟩, 11)]
theorem lw_r3 : ∀ q ∈ lw_privs_3, lw_okq q := List.forall_mem_cons.mpr ⟨lw_p32, List.forall_mem_cons.mpr ⟨lw_p33, List.forall_mem_cons.mpr ⟨lw_p34, List.forall_mem_cons.mpr ⟨lw_p35, fun _ h => absurd h List.not_mem_nil⟩⟩⟩⟩
def lw_privs : List (MethodName × Nat) := lw_privs_1 ++ (lw_privs_2 ++ (lw_privs_3))
def lw_tbl : List Cond := k2_sels lw_privs ++ tables_1
theorem lw_privs_ok : ∀ q ∈ lw_privs, lw_okq q := by
  show ∀ q ∈ lw_privs_1 ++ (lw_privs_2 ++ (lw_privs_3)), lw_okq q
  exact List.forall_mem_append.mpr ⟨lw_r1, List.forall_mem_append.mpr ⟨lw_r2, lw_r3⟩⟩
/-- the streams that the claim lets the run draw from -/
abbrev lw_cs : List Choice := [Jvm.Choice.named "NaN.bits"]
theorem lw_bits : nanBits ∈ lw_cs := by first | decide | exact List.mem_cons_self | simp [lw_cs, nanBits]
end
section
/-! ===== BEGIN words of one list among another's, by their places ===== -/
theorem goodIn_r {big : List Cond} (ws : List Cond) (ps : List Nat) (hp : ws = ps.filterMap (fun i => big[i]?)) (h : ws.all goodWord = true) : GoodIn big ws := by
  intro w hw
  have h1 := List.all_eq_true.mp h w hw
  rw [hp] at hw
  obtain ⟨i, -, hi⟩ := List.mem_filterMap.mp hw
  have hm : w ∈ big := by first | exact List.mem_of_getElem? hi | exact List.getElem?_mem hi
  exact ⟨hm, good_of_word h1⟩
theorem goodIn_app {big a b : List Cond} (ha : GoodIn big a) (hb : GoodIn big b) : GoodIn big (a ++ b) := fun w h => (List.mem_append.mp h).elim (ha w) (hb w)
theorem goodIn_ca {big a b : List Cond} {c : Cond} (ha : GoodIn big (c :: a)) (hb : GoodIn big b) : GoodIn big (c :: (a ++ b)) := fun w h => (List.mem_cons.mp h).elim (fun e => ha w (List.mem_cons.mpr (Or.inl e))) (fun h => (List.mem_append.mp h).elim (fun h => ha w (List.mem_cons.mpr (Or.inr h))) (hb w))
theorem goodIn_sub {big ws : List Cond} (hm : ∀ w ∈ ws, w ∈ big) (h : ws.all goodWord = true) : GoodIn big ws := fun w hw => ⟨hm w hw, good_of_word (List.all_eq_true.mp h w hw)⟩
/-! ===== END ===== -/

/-! ===== BEGIN exceptions that leave a method, and their catching by the caller (launches without stack traces) ===== -/
section VXA
/-! The laws vx_back, vx_callV, vx_callS, vx_callSW, vx_throw0, vx_throwS follow proofs of the library, with one case more: JvmDerived/Free/Laws.lean (Back.of_free), Shelf42/LK1.lean (callV, callS), Shelf/KitTraced.lean (throwNew0V, throwNewS). -/
/-- where a method has thrown q: the class by its name, the cell, what was written, the world -/
def vx_T (XC : String → State → State → Prop) (st : State) (q : Addr) (t : State) (mc ms : Nat) (free : Addr → Prop) : Prop :=
  ∃ (E : String) (ce : Cell) (L : List Loc), XC E st t ∧ t.heap[q]? = some ce ∧ ce.vm = .none ∧ st.vm.findClass E = some ce.cls ∧ st.WarmedH t.vm ∧ st.sameButNew ({ t with vm := st.vm } : State) L mc ms ∧ ∀ z ∈ L, free z.base
def vx_Q (Qc : Array Value → State → Outcome → State → Prop) (XC : String → State → State → Prop) (mc ms : Nat) (free : Addr → Prop) : Array Value → State → Outcome → State → Prop := fun a st o t =>
  (Qc a st o t ∧ ∃ L, FrameEnd st o t L mc ms ∧ ∀ q ∈ L, free q.base) ∨ ∃ q, o = .threw q ∧ vx_T XC st q t mc ms free
/-- a callee that returns or throws -/
def vx_Met (l : Launch) (y : MethodName) (ws : List Cond) (rm : Room) (Pc : Array Value → State → Prop) (Qc : Array Value → State → Outcome → State → Prop) (XC : String → State → State → Prop) (mc ms : Nat) (free : Addr → Prop) : Prop :=
  MetFree l y (headSpec ws rm) Pc (fun _ _ _ _ _ => True) (vx_Q Qc XC mc ms free)
def vx_Post (XC : String → State → State → Prop) (mc ms : Nat) (free : Addr → Prop) : Pt → Array Value → Addr → Pt → Prop := fun A a q B =>
  ∃ (g : JFrame) (mk : MethodId) (t : State) (L : List Loc) (E : String) (ce : Cell), B.U.heap = t.heap ∧ B.U.vm = t.vm ∧ XC E (A.U.calling g mk a) t ∧ t.heap[q]? = some ce ∧ ce.vm = .none ∧ A.U.vm.findClass E = some ce.cls ∧ B.locs = A.locs ++ L ∧ (∀ z ∈ L, free z.base) ∧ B.cells = A.cells + mc ∧ B.slots = A.slots + ms
def vx_Back (l : Launch) (R : Room) (p : Program) (e : Env) (below : List Frame) (s : State) (sargs : Array Value) (y : MethodName) (len W9 : Nat)
    (Pre : Pt → Array Value → Prop) (Post : Pt → Array Value → Option Value → Pt → Prop) (PostX : Pt → Array Value → Addr → Pt → Prop) : Prop :=
  ∀ (m : MethodId) (meth : Method) (c : Code) (A : Pt) (g : JFrame) (ig : Instr) (mk : MethodId) (a : Array Value),
    Stand p l e R s m sargs below meth c A.U A.locs A.cells A.slots → g.method = m → g.locals.size = c.maxLocals → decode c.code g.pc = .ok (ig, len) →
    2 * g.monitorRoom + (g.stack.map fun v => v.category).sum ≤ W9 → A.U.methodNamed? y = some mk → Pre A a →
    (∃ (v : Option Value) (B : Pt), Stand p l e R s m sargs below meth c B.U B.locs B.cells B.slots ∧ Post A a v B ∧
      Steps p.tables e below (doInvoke e (A.U.setTop g) [] mk a).1 (B.U.setTop { g with pc := g.pc + len, stack := v.toList ++ g.stack })) ∨
    (∃ (q : Addr) (B : Pt), Stand p l e R s m sargs below meth c B.U B.locs B.cells B.slots ∧ PostX A a q B ∧
      Steps p.tables e below (doInvoke e (A.U.setTop g) [] mk a).1 ((B.U.setTop g).pushFrame (.throwing q)))
section Payer
variable {l : Launch} {R : Room} {p : Program} {e : Env} {below : List Frame} {s : State} {sargs : Array Value} {y : MethodName} {len W9 : Nat}
theorem vx_back {ws : List Cond} {rm : Room} {Pc : Array Value → State → Prop} {Qc : Array Value → State → Outcome → State → Prop} {XC : String → State → State → Prop} {mc ms : Nat} {free : Addr → Prop} {bytes : ByteArray} {maxL : Nat} {ret : Option FieldType}
    (hM : vx_Met l y ws rm Pc Qc XC mc ms free) (hblind : FrameBlind Pc) (hrc : rm.cells = mc) (hrs : rm.slots = ms)
    (hframes : rm.frames + 1 ≤ R.frames) (hlocals : W9 + (maxL + 11) + rm.locals ≤ R.locals)
    (hws : ∀ w ∈ ws, ∀ a' U, s.WarmedH U.vm → w.before a' U = true) (hcode : Cond.code y bytes maxL ret ∈ ws) (hinit : ∀ a' U, s.WarmedH U.vm → (Cond.initialized y.cls).before a' U = true) :
    vx_Back l R p e below s sargs y len W9 (PreOf R mc ms Pc) (PostOf Qc mc ms free) (vx_Post XC mc ms free) := by
  intro m meth c A g ig mk a X hg hsize hdg hW hn hp
  have h1 : (headSpec ws rm).pre.before a A.U = true := atoms_intro fun w hw => hws w hw _ _ X.warmed
  have h2 : (Cond.code y bytes maxL ret).before a A.U = true := hws _ hcode _ _ X.warmed
  have h3 : (Cond.initialized y.cls).before a A.U = true := hinit _ _ X.warmed
  have h4 : A.cells + (headSpec ws rm).room.cells ≤ R.cells := by rw [show (headSpec ws rm).room.cells = mc from hrc]; exact hp.1
  have h5 : A.slots + (headSpec ws rm).room.slots ≤ R.slots := by rw [show (headSpec ws rm).room.slots = ms from hrs]; exact hp.2.1
  have hPc : Pc a (A.U.calling g mk a) := hblind _ _ _ _ hp.2.2
  obtain ⟨U, Ls, c0, s0⟩ := A
  dsimp only [Pt.U, Pt.locs, Pt.cells, Pt.slots] at h1 h2 h3 h4 h5 X hn hPc ⊢
  obtain ⟨methY, cY, hmY, hcY, -, hlY, -, -, -, -⟩ := Cond.code_spec hn h2
  obtain ⟨kY, hkY, -⟩ := className_of_methodNamed hn
  have hinitY : kY.init = .initialized := Cond.initialized_spec (findClass_of_methodNamed hn) hkY h3
  have h : At U g.method c below := by rw [hg]; exact X.here
  have hlocals9 : W9 + (maxL + 11) + (headSpec ws rm).room.locals ≤ R.locals := hlocals
  have happ : (headSpec ws rm).appliesLoose y e.platform (U.calling g mk a) = true :=
    Spec.appliesLoose_calling (g := g) h hdg hn hkY hinitY
      (X.room_calling (g := g) (R' := (headSpec ws rm).room) hsize hmY hcY hframes (by rw [hlY]; omega) h4 h5) h1
  obtain ⟨mid, hmid⟩ := h.above
  have hfr : (U.setTop g).frames = (.java g :: mid) ++ below := by rw [State.frames_setTop' g h.top, hmid]; rfl
  obtain ⟨o, s₂, hsteps, -, hend, hq⟩ := Steps.callFree hM p X.admits X.cas X.clock (acts := []) hfr happ hPc trivial
  have hq' : vx_Q Qc XC mc ms free a (U.calling g mk a) o s₂ := hq
  rw [State.frames_setTop' g h.top] at hend
  obtain ⟨g₀, hg0⟩ := Option.isSome_iff_exists.mp h.top
  obtain ⟨r, hr⟩ := State.topJava?_eq_some.mp hg0
  have hr' : (({ U with heap := s₂.heap, slotsUsed := s₂.slotsUsed } : State).setVm s₂.vm).frames = .java g₀ :: r := hr
  rcases hq' with ⟨hqc, L, hfe, hL⟩ | ⟨q, rfl, E, ce, L, hx, hce, hcv, hcl, hW₂, hsm, hL⟩
  · obtain ⟨⟨v, rfl⟩, hW₂, e2, q2, q3, q4, q5, q6⟩ := id hfe
    have e3 : s₂ = ({ (U.calling g mk a).setFrames s₂.frames with heap := s₂.heap, slotsUsed := s₂.slotsUsed } : State).setVm s₂.vm := by
      have : s₂ = ({ s₂ with vm := (U.calling g mk a).vm } : State).setVm s₂.vm := rfl
      rw [e2] at this
      exact this
    obtain ⟨c₂, i₂, len₂, hc₂, hd₂, hf₂⟩ := hend
    have hW' : U.WarmedH s₂.vm := hW₂
    have hcc : c₂ = c := by
      have h1 : s₂.code? g.method = U.code? g.method := by
        rw [State.code?_eq, State.code?_eq, hW'.alike.method?]
      exact Option.some.inj (hc₂.symm.trans (h1.trans h.code))
    subst hcc
    have hlen : len₂ = len := by rw [hdg] at hd₂; cases hd₂; rfl
    subst hlen
    have hs₂ : s₂ = (({ U with heap := s₂.heap, slotsUsed := s₂.slotsUsed } : State).setVm s₂.vm).setTop { g with pc := g.pc + len₂, stack := v.toList ++ g.stack } := by
      refine e3.trans ?_
      rw [hf₂, State.calling_eq h.top, State.setFrames_setFrames, State.setTop_of_frames _ hr', hr]
      rfl
    have hsame : U.sameButNew ({ U with heap := s₂.heap, slotsUsed := s₂.slotsUsed } : State) L mc ms := by
      refine ⟨?_, q2, q3, q4, q5, q6⟩
      obtain ⟨t, ht, -⟩ := State.frames_cons hr
      show ({ U with heap := s₂.heap, slotsUsed := s₂.slotsUsed } : State) = { U.setFrames U.frames with heap := s₂.heap, slotsUsed := s₂.slotsUsed }
      rw [State.setFrames_self ht]
    subst hg
    refine Or.inl ⟨v, ⟨(({ U with heap := s₂.heap, slotsUsed := s₂.slotsUsed } : State).setVm s₂.vm), Ls ++ L, c0 + mc, s0 + ms⟩,
      ⟨X.admits, X.cas, X.clock, X.frames, X.room, X.hears, X.method, X.code, (X.here.setHeapUsed s₂.heap s₂.slotsUsed).setVm hW'.alike, X.tail, State.WarmedH.trans X.warmed hW', X.limits, X.bytes, X.same.trans (hsame.setVm s.vm)⟩,
      ⟨g, mk, s₂, L, rfl, rfl, hqc, rfl, hL, rfl, rfl⟩, ?_⟩
    show Steps p.tables e below _ ((({ U with heap := s₂.heap, slotsUsed := s₂.slotsUsed } : State).setVm s₂.vm).setTop { g with pc := g.pc + len₂, stack := v.toList ++ g.stack })
    rw [← hs₂]
    exact hsteps
  · obtain ⟨e2, q2, q3, q4, q5, q6⟩ := id hsm
    have e3 : s₂ = ({ (U.calling g mk a).setFrames s₂.frames with heap := s₂.heap, slotsUsed := s₂.slotsUsed } : State).setVm s₂.vm := by
      have : s₂ = ({ s₂ with vm := (U.calling g mk a).vm } : State).setVm s₂.vm := rfl
      rw [e2] at this
      exact this
    have hf₂ : s₂.frames = .throwing q :: .java g :: U.frames.tail := hend
    have hW' : U.WarmedH s₂.vm := hW₂
    have hs₂ : s₂ = ((({ U with heap := s₂.heap, slotsUsed := s₂.slotsUsed } : State).setVm s₂.vm).setTop g).pushFrame (.throwing q) := by
      refine e3.trans ?_
      rw [hf₂, State.calling_eq h.top, State.setFrames_setFrames, State.pushFrame, State.frames_setTop _ hr', State.setTop_of_frames _ hr', State.setFrames_setFrames, hr]
      rfl
    have hsame : U.sameButNew ({ U with heap := s₂.heap, slotsUsed := s₂.slotsUsed } : State) L mc ms := by
      refine ⟨?_, q2, q3, q4, q5, q6⟩
      obtain ⟨t, ht, -⟩ := State.frames_cons hr
      show ({ U with heap := s₂.heap, slotsUsed := s₂.slotsUsed } : State) = { U.setFrames U.frames with heap := s₂.heap, slotsUsed := s₂.slotsUsed }
      rw [State.setFrames_self ht]
    subst hg
    refine Or.inr ⟨q, ⟨(({ U with heap := s₂.heap, slotsUsed := s₂.slotsUsed } : State).setVm s₂.vm), Ls ++ L, c0 + mc, s0 + ms⟩,
      ⟨X.admits, X.cas, X.clock, X.frames, X.room, X.hears, X.method, X.code, (X.here.setHeapUsed s₂.heap s₂.slotsUsed).setVm hW'.alike, X.tail, State.WarmedH.trans X.warmed hW', X.limits, X.bytes, X.same.trans (hsame.setVm s.vm)⟩,
      ⟨g, mk, s₂, L, E, ce, rfl, rfl, hx, hce, hcv, hcl, rfl, hL, rfl, rfl⟩, ?_⟩
    show Steps p.tables e below _ (((({ U with heap := s₂.heap, slotsUsed := s₂.slotsUsed } : State).setVm s₂.vm).setTop g).pushFrame (.throwing q))
    rw [← hs₂]
    exact hsteps
end Payer
section Calls
variable {p : Program} {l : Launch} {e : Env} {R : Room} {s : State} {m : MethodId} {args : Array Value} {below : List Frame} {meth : Method} {c : Code} {T : State} {locs : List Loc} {cells slots : Nat}
theorem vx_callV (X : Stand p l e R s m args below meth c T locs cells slots) (hexec : p.tables.exec = Jvm.exec) {own C : String} {index : Nat} {y : MethodName} {bytes : ByteArray} {maxL : Nat} {ret : Option FieldType}
    (hown : s.vm.findClass own = some m.cls) (hlink : (Cond.methodLink own index y).before args s = true) (hinst : (Cond.instanceMethod y).before args s = true) (hsel : (Cond.selects C y y).before args s = true)
    (hcode : (Cond.code y bytes maxL ret).before args s = true) (hy : y.cls ≠ "java/lang/invoke/MethodHandle" ∧ y.cls ≠ "java/lang/invoke/VarHandle")
    {W9 : Nat} {Pre : Pt → Array Value → Prop} {Post : Pt → Array Value → Option Value → Pt → Prop} {PostX : Pt → Array Value → Addr → Pt → Prop} (hK : vx_Back l R p e below s args y 3 W9 Pre Post PostX)
    {b : Addr} {cellB : Cell} (hcell : T.heap[b]? = some cellB) (hobj : cellB.vm.isStatics = false) (hcls : s.vm.findClass C = some cellB.cls)
    {g : JFrame} (hg : g.method = m) (hsize : g.locals.size = c.maxLocals) {argsL rest : List Value} (hlen : ∀ sig, parseMethodDescriptor y.desc = some sig → argsL.length = sig.parameters.length)
    (hstack : g.stack = argsL.reverse ++ .ref b :: rest) (hW : 2 * g.monitorRoom + (rest.map fun v => v.category).sum ≤ W9) (hdg : decode c.code g.pc = .ok (.invokevirtual index, 3))
    (hpre : ∀ vm₁, s.WarmedH vm₁ → Pre ⟨T.setVm vm₁, locs, cells, slots⟩ (Value.ref b :: argsL).toArray) :
    (∃ (v : Option Value) (vm₁ : Vm) (B : Pt), s.WarmedH vm₁ ∧ Stand p l e R s m args below meth c B.U B.locs B.cells B.slots ∧ Post ⟨T.setVm vm₁, locs, cells, slots⟩ (Value.ref b :: argsL).toArray v B ∧
      ∀ target, Steps p.tables e below (B.U.setTop { g with pc := g.pc + 3, stack := v.toList ++ rest }) target → Steps p.tables e below (T.setTop g) target) ∨
    (∃ (q : Addr) (vm₁ : Vm) (B : Pt), s.WarmedH vm₁ ∧ Stand p l e R s m args below meth c B.U B.locs B.cells B.slots ∧ PostX ⟨T.setVm vm₁, locs, cells, slots⟩ (Value.ref b :: argsL).toArray q B ∧
      Steps p.tables e below (T.setTop g) ((B.U.setTop { g with stack := rest }).pushFrame (.throwing q))) := by
  obtain ⟨mk, methM, hnamed, hmethM, hstM, habM⟩ := Cond.instanceMethod_spec hinst
  obtain ⟨methM', cM, hmethM', -, -, -, -, -, -, hsigM⟩ := Cond.code_spec hnamed hcode
  cases hmethM.symm.trans hmethM'
  obtain ⟨c2, r2, m2, q1, q2, q3, q4, kP, hkP, hkPi⟩ := Cond.selects_spec hsel
  cases hcls.symm.trans q1
  cases (State.methodFound?_of_named hnamed hy).symm.trans q2
  cases hnamed.symm.trans q3
  have hselP : selectMethod e.platform s.vm cellB.cls mk = .method mk := by rw [Launch.admits_selectMethod X.admits]; exact q4
  obtain ⟨vm₁, X₁, hstep₁⟩ := X.invokevirtual hexec hown hlink hnamed hmethM hstM hkP hkPi hy (a := b) (cell := cellB) hcell
    (fun z h => by rw [h] at hobj; cases hobj) hselP hmethM habM hkP hkPi (g := g) hg (argsL := argsL) (rest := rest) (hlen _ hsigM) hstack hdg
  rcases hK m meth c ⟨T.setVm vm₁, locs, cells, slots⟩ { g with stack := rest } (.invokevirtual index) mk (Value.ref b :: argsL).toArray X₁ hg hsize hdg hW (X₁.named hnamed) (hpre vm₁ X₁.warmed) with ⟨v, B, X', hpost, hsteps⟩ | ⟨q, B, X', hpost, hsteps⟩
  · exact Or.inl ⟨v, vm₁, B, X₁.warmed, X', hpost, fun target h => hstep₁ _ fun acts => by rw [doInvoke_state]; exact hsteps.trans h⟩
  · exact Or.inr ⟨q, vm₁, B, X₁.warmed, X', hpost, hstep₁ _ fun acts => by rw [doInvoke_state]; exact hsteps⟩
theorem vx_callS (X : Stand p l e R s m args below meth c T locs cells slots) (hexec : p.tables.exec = Jvm.exec) {own : String} {index : Nat} {y : MethodName} {bytes : ByteArray} {maxL : Nat} {ret : Option FieldType}
    (hown : s.vm.findClass own = some m.cls) (hlink : (Cond.methodLink own index y).before args s = true) (hstat : (Cond.static y).before args s = true) (hinit : (Cond.initialized y.cls).before args s = true)
    (hcode : (Cond.code y bytes maxL ret).before args s = true) (hy : y.cls ≠ "java/lang/invoke/MethodHandle" ∧ y.cls ≠ "java/lang/invoke/VarHandle")
    {W9 : Nat} {Pre : Pt → Array Value → Prop} {Post : Pt → Array Value → Option Value → Pt → Prop} {PostX : Pt → Array Value → Addr → Pt → Prop} (hK : vx_Back l R p e below s args y 3 W9 Pre Post PostX)
    {g : JFrame} (hg : g.method = m) (hsize : g.locals.size = c.maxLocals) {argsL rest : List Value} (hlen : ∀ sig, parseMethodDescriptor y.desc = some sig → argsL.length = sig.parameters.length)
    (hstack : g.stack = argsL.reverse ++ rest) (hW : 2 * g.monitorRoom + (rest.map fun v => v.category).sum ≤ W9) (hdg : decode c.code g.pc = .ok (.invokestatic index, 3))
    (hpre : ∀ vm₁, s.WarmedH vm₁ → Pre ⟨T.setVm vm₁, locs, cells, slots⟩ argsL.toArray) :
    (∃ (v : Option Value) (vm₁ : Vm) (B : Pt), s.WarmedH vm₁ ∧ Stand p l e R s m args below meth c B.U B.locs B.cells B.slots ∧ Post ⟨T.setVm vm₁, locs, cells, slots⟩ argsL.toArray v B ∧
      ∀ target, Steps p.tables e below (B.U.setTop { g with pc := g.pc + 3, stack := v.toList ++ rest }) target → Steps p.tables e below (T.setTop g) target) ∨
    (∃ (q : Addr) (vm₁ : Vm) (B : Pt), s.WarmedH vm₁ ∧ Stand p l e R s m args below meth c B.U B.locs B.cells B.slots ∧ PostX ⟨T.setVm vm₁, locs, cells, slots⟩ argsL.toArray q B ∧
      Steps p.tables e below (T.setTop g) ((B.U.setTop { g with stack := rest }).pushFrame (.throwing q))) := by
  obtain ⟨mk, hnamed⟩ := Cond.code_named hcode
  obtain ⟨methM, cM, hmethM, -, -, -, -, -, -, hsigM⟩ := Cond.code_spec hnamed hcode
  have hstatic : methM.isStatic = true := Cond.static_spec hnamed hmethM hstat
  obtain ⟨kP, hkP, -⟩ := className_of_methodNamed hnamed
  have hinitP : kP.init = .initialized := Cond.initialized_spec (findClass_of_methodNamed hnamed) hkP hinit
  obtain ⟨vm₁, X₁, hstep₁⟩ := X.invokestatic hexec hown hlink hnamed hmethM hstatic hkP hinitP hy (g := g) hg (argsL := argsL) (rest := rest) (hlen _ hsigM) hstack hdg
  rcases hK m meth c ⟨T.setVm vm₁, locs, cells, slots⟩ { g with stack := rest } (.invokestatic index) mk argsL.toArray X₁ hg hsize hdg hW (X₁.named hnamed) (hpre vm₁ X₁.warmed) with ⟨v, B, X', hpost, hsteps⟩ | ⟨q, B, X', hpost, hsteps⟩
  · exact Or.inl ⟨v, vm₁, B, X₁.warmed, X', hpost, fun target h => hstep₁ _ fun acts => by rw [doInvoke_state]; exact hsteps.trans h⟩
  · exact Or.inr ⟨q, vm₁, B, X₁.warmed, X', hpost, hstep₁ _ fun acts => by rw [doInvoke_state]; exact hsteps⟩
end Calls
theorem vx_cls {s : State} {T : State} {vm₁ : Vm} {E : String} {k : ClassId} (hW : s.WarmedH vm₁) (h : (T.setVm vm₁).vm.findClass E = some k) : s.vm.findClass E = some k := by
  have h1 : vm₁.findClass E = some k := h
  rw [hW.alike.findClass] at h1
  exact h1
/-- the method's frame g, with q thrown over it -/
def vx_W (p : Program) (l : Launch) (e : Env) (R : Room) (s : State) (m : MethodId) (args : Array Value) (below : List Frame) (meth : Method) (c : Code) (H : Heap) (locs : List Loc) (cells slots : Nat) (Q : State → Prop) (g : JFrame) (q : Addr) : Prop :=
  ∀ T : State, T.heap = H → Stand p l e R s m args below meth c T locs cells slots → ∃ t, Steps p.tables e below ((T.setTop g).pushFrame (.throwing q)) t ∧ Q t
def vx_Run (p : Program) (l : Launch) (e : Env) (R : Room) (s : State) (m : MethodId) (args : Array Value) (below : List Frame) (meth : Method) (c : Code) (H : Heap) (locs : List Loc) (cells slots mc ms : Nat) (g : JFrame) (rest : List Value) (Qa : State → Outcome → State → Prop) (XC : String → State → State → Prop) (free : Addr → Prop) : Prop :=
  ∀ T : State, T.heap = H → Stand p l e R s m args below meth c T locs cells slots →
    (∃ (v : Option Value) (st₀ t T' : State) (L : List Loc), st₀.heap = H ∧ Stand p l e R s m args below meth c T' (locs ++ L) (cells + mc) (slots + ms) ∧ (∀ q ∈ L, free q.base) ∧ T'.heap = t.heap ∧ T'.vm = t.vm ∧ Qa st₀ (.returned v) t ∧
      Goes p e below T g T' { g with pc := g.pc + 3, stack := v.toList ++ rest }) ∨
    (∃ (q : Addr) (st₀ t T' : State) (L : List Loc) (E : String) (ce : Cell), st₀.heap = H ∧ Stand p l e R s m args below meth c T' (locs ++ L) (cells + mc) (slots + ms) ∧ (∀ z ∈ L, free z.base) ∧ T'.heap = t.heap ∧ T'.vm = t.vm ∧ XC E st₀ t ∧ t.heap[q]? = some ce ∧ ce.vm = .none ∧ s.vm.findClass E = some ce.cls ∧
      Steps p.tables e below (T.setTop g) ((T'.setTop { g with stack := rest }).pushFrame (.throwing q)))
def vx_X {S : Type} (px : S → Prop) (B : String → S → State → Prop) (A : Nat → Prop) : String → State → State → Prop := fun E st t => ∃ u : S, px u ∧ B E u t ∧ va_F A st t
section Runs
variable {p : Program} {l : Launch} {e : Env} {R : Room} {s : State} {m : MethodId} {args : Array Value} {below : List Frame} {meth : Method} {c : Code} {H : Heap} {locs : List Loc} {cells slots : Nat}
variable {y : MethodName} {bytes cc : ByteArray} {maxL nL mc ms n index : Nat} {ret : Option FieldType} {ws : List Cond} {rm : Room} {Pc : Array Value → State → Prop} {Qc : Array Value → State → Outcome → State → Prop} {XC : String → State → State → Prop} {free : Addr → Prop} {Ts : List Cond} {own C : String} {b : Addr} {As rest : List Value} {g : JFrame}
theorem vx_callBack (cb : CallB R s args own index y bytes maxL ret ws rm mc ms n) (hM : vx_Met l y ws rm Pc Qc XC mc ms free) (hbl : FrameBlind Pc) : vx_Back l R p e below s args y 3 8 (PreOf R mc ms Pc) (PostOf Qc mc ms free) (vx_Post XC mc ms free) := by
  obtain ⟨hrc, hrs, hfr, hlo, hws, hcw, -, hini, -⟩ := cb
  exact vx_back (bytes := bytes) (maxL := maxL) (ret := ret) hM hbl hrc hrs hfr hlo hws hcw (fun a' U hW => word_at hW (Or.inl (by first | rfl | simp [Cond.onTables, Cond.keeps, Cond.steady])) hini)
theorem vx_runV (S : CallFix p m c cc nL s args Ts own) (hM : vx_Met l y ws rm Pc Qc XC mc ms free) (cw : CallW R s args own C index y bytes maxL ret ws rm mc ms n) (hp : PreV s H C b Pc As)
    (hg : g.method = m) (hn : As.length = n) (hsize : g.locals.size = nL) (hstack : g.stack = As.reverse ++ .ref b :: rest) (hW : 2 * g.monitorRoom + (rest.map fun v => v.category).sum ≤ 8) (hdg : decode cc g.pc = .ok (.invokevirtual index, 3)) (hf : cells + mc ≤ R.cells ∧ slots + ms ≤ R.slots) :
    vx_Run p l e R s m args below meth c H locs cells slots mc ms g rest (Qc (Value.ref b :: As).toArray) XC free := by
  have hK : vx_Back l R p e below s args y 3 8 (PreOf R mc ms Pc) (PostOf Qc mc ms free) (vx_Post XC mc ms free) := vx_callBack cw.1 hM hp.1
  obtain ⟨⟨-, -, -, -, -, -, hcode, -, hy, hlen, hl⟩, hin, hse⟩ := cw
  obtain ⟨hx, hb, hml, ho, -⟩ := S
  obtain ⟨-, ⟨cellB, hcB, hoB, hclB⟩, hPc⟩ := hp
  intro T hT X
  rcases vx_callV X hx (C := C) (bytes := bytes) (maxL := maxL) (ret := ret) ho hl hin hse hcode hy hK (by rw [hT]; exact hcB) hoB hclB hg (hsize.trans hml.symm) (argsL := As) (rest := rest) (fun sig h => hn.trans (hlen sig h)) hstack hW (by rw [hb]; exact hdg)
    (fun vm₁ hW₁ => ⟨hf.1, hf.2, hPc (T.setVm vm₁) hT hW₁⟩) with ⟨v, vm₁, ⟨U', l2, c2, s2⟩, hW₁, X', ⟨g', mk, t, L, e1, e2, hq, h1, hL, h2, h3⟩, st⟩ | ⟨q, vm₁, ⟨U', l2, c2, s2⟩, hW₁, X', ⟨g', mk, t, L, E, ce, e1, e2, hq, hce, hcv, hcl, h1, hL, h2, h3⟩, st⟩
  · dsimp only [Pt.U, Pt.locs, Pt.cells, Pt.slots] at X' e1 e2 h1 h2 h3 st
    subst h1; subst h2; subst h3
    exact Or.inl ⟨v, (T.setVm vm₁).calling g' mk (Value.ref b :: As).toArray, t, U', L, hT, X', hL, e1, e2, hq, st⟩
  · dsimp only [Pt.U, Pt.locs, Pt.cells, Pt.slots] at X' e1 e2 h1 h2 h3 st hcl
    subst h1; subst h2; subst h3
    exact Or.inr ⟨q, (T.setVm vm₁).calling g' mk (Value.ref b :: As).toArray, t, U', L, E, ce, hT, X', hL, e1, e2, hq, hce, hcv, vx_cls hW₁ hcl, st⟩
theorem vx_runS (S : CallFix p m c cc nL s args Ts own) (hM : vx_Met l y ws rm Pc Qc XC mc ms free) (cw : CallB R s args own index y bytes maxL ret ws rm mc ms n ∧ (Cond.static y).before args s = true) (hp : PreS s H Pc As)
    (hg : g.method = m) (hn : As.length = n) (hsize : g.locals.size = nL) (hstack : g.stack = As.reverse ++ rest) (hW : 2 * g.monitorRoom + (rest.map fun v => v.category).sum ≤ 8) (hdg : decode cc g.pc = .ok (.invokestatic index, 3)) (hf : cells + mc ≤ R.cells ∧ slots + ms ≤ R.slots) :
    vx_Run p l e R s m args below meth c H locs cells slots mc ms g rest (Qc As.toArray) XC free := by
  have hK : vx_Back l R p e below s args y 3 8 (PreOf R mc ms Pc) (PostOf Qc mc ms free) (vx_Post XC mc ms free) := vx_callBack cw.1 hM hp.1
  obtain ⟨⟨-, -, -, -, -, -, hcode, hini, hy, hlen, hl⟩, hstt⟩ := cw
  obtain ⟨hx, hb, hml, ho, -⟩ := S
  intro T hT X
  rcases vx_callS X hx (bytes := bytes) (maxL := maxL) (ret := ret) ho hl hstt hini hcode hy hK hg (hsize.trans hml.symm) (argsL := As) (rest := rest) (fun sig h => hn.trans (hlen sig h)) hstack hW (by rw [hb]; exact hdg)
    (fun vm₁ hW₁ => ⟨hf.1, hf.2, hp.2 (T.setVm vm₁) hT hW₁⟩) with ⟨v, vm₁, ⟨U', l2, c2, s2⟩, hW₁, X', ⟨g', mk, t, L, e1, e2, hq, h1, hL, h2, h3⟩, st⟩ | ⟨q, vm₁, ⟨U', l2, c2, s2⟩, hW₁, X', ⟨g', mk, t, L, E, ce, e1, e2, hq, hce, hcv, hcl, h1, hL, h2, h3⟩, st⟩
  · dsimp only [Pt.U, Pt.locs, Pt.cells, Pt.slots] at X' e1 e2 h1 h2 h3 st
    subst h1; subst h2; subst h3
    exact Or.inl ⟨v, (T.setVm vm₁).calling g' mk As.toArray, t, U', L, hT, X', hL, e1, e2, hq, st⟩
  · dsimp only [Pt.U, Pt.locs, Pt.cells, Pt.slots] at X' e1 e2 h1 h2 h3 st hcl
    subst h1; subst h2; subst h3
    exact Or.inr ⟨q, (T.setVm vm₁).calling g' mk As.toArray, t, U', L, E, ce, hT, X', hL, e1, e2, hq, hce, hcv, vx_cls hW₁ hcl, st⟩
end Runs
section Rows
variable {p : Program} {l : Launch} {e : Env} {R : Room} {s : State} {m : MethodId} {args : Array Value} {below : List Frame} {meth : Method} {c : Code} {H : Heap} {locs : List Loc} {cells slots : Nat} {Q : State → Prop}
variable {mc ms : Nat} {free : Addr → Prop} {A0 A1 : Nat → Prop} {H0 : Heap} {a : Array Value} {pc : Nat} {ls : Array Slot} {st0 rest : List Value}
theorem vx_keep {st₀ t T' : State} {L : List Loc} (h0 : st₀.heap = H) (e1 : T'.heap = t.heap) (hS : va_S A0 H0 H locs) (hA : ∀ q, q < H.size → A1 q → A0 q) (hf : ∀ q, free q → A0 q) (hL : ∀ q ∈ L, free q.base) (hF : va_F A1 st₀ t) :
    H.size ≤ T'.heap.size ∧ (∀ q : Nat, q < H.size → ¬ A1 q → T'.heap[q]? = H[q]?) ∧ va_S A0 H0 T'.heap (locs ++ L) := by
  obtain ⟨hz, hk⟩ := hF
  rw [h0] at hz hk
  exact ⟨by rw [e1]; exact hz, fun q h1 h2 => by rw [e1]; exact hk q h1 h2,
    ⟨Nat.le_trans hS.1 (by rw [e1]; exact hz), fun q h1 h2 => by rw [e1, hk q (Nat.lt_of_lt_of_le h1 hS.1) (fun z => h2 (hA q (Nat.lt_of_lt_of_le h1 hS.1) z))]; exact hS.2.1 q h1 h2, fun q hq => by
      rcases List.mem_append.mp hq with h | h
      · exact hS.2.2 q h
      · exact hf _ (hL q h)⟩⟩
theorem vx_calli {S SX : Type} {post : Int32 → S → Prop} {px : SX → Prop} {B : S → State → Prop} {BX : String → SX → State → Prop} {AX : Nat → Prop} (hr : vx_Run p l e R s m args below meth c H locs cells slots mc ms (F0 m pc ls st0) rest (va_Qi post B A1 a) (vx_X px BX AX) free) (hS : va_S A0 H0 H locs) (hA : ∀ q, q < H.size → A1 q → A0 q) (hf : ∀ q, free q → A0 q) (hAX : ∀ q, q < H.size → AX q → A0 q)
    (kx : ∀ (E : String) (ce : Cell) (q9 : Addr) (u : SX) (t : State) (H1 : Heap) (locs1 : List Loc), t.heap = H1 → s.vm.Alike t.vm → px u → BX E u t → H.size ≤ H1.size → (∀ q : Nat, q < H.size → ¬ AX q → H1[q]? = H[q]?) → va_S A0 H0 H1 locs1 → H1[q9]? = some ce → ce.vm = .none → s.vm.findClass E = some ce.cls → vx_W p l e R s m args below meth c H1 locs1 (cells + mc) (slots + ms) Q (F0 m pc ls rest) q9)
    (kk : ∀ (r : Int32) (u : S) (t : State) (H1 : Heap) (locs1 : List Loc), t.heap = H1 → s.vm.Alike t.vm → post r u → B u t → H.size ≤ H1.size → (∀ q : Nat, q < H.size → ¬ A1 q → H1[q]? = H[q]?) → va_S A0 H0 H1 locs1 → W p l e R s m args below meth c H1 locs1 (cells + mc) (slots + ms) Q (F0 m (pc + 3) ls (.int r :: rest))) : W p l e R s m args below meth c H locs cells slots Q (F0 m pc ls st0) := by
  intro T hT X
  rcases hr T hT X with ⟨v, st₀, t, T', L, h0, X', hL, e1, e2, ⟨⟨r, u, hv, hp, hb⟩, hF⟩, st⟩ | ⟨q, st₀, t, T', L, E, ce, h0, X', hL, e1, e2, ⟨u, hp, hb, hF⟩, hce, hcv, hcl, st⟩
  · cases hv
    obtain ⟨k1, k2, k3⟩ := vx_keep h0 e1 hS hA hf hL hF
    obtain ⟨t2, a1, b1⟩ := kk r u t T'.heap (locs ++ L) e1.symm (by rw [← e2]; exact X'.warmed.alike) hp hb k1 k2 k3 T' rfl X'
    exact ⟨t2, st t2 a1, b1⟩
  · obtain ⟨k1, k2, k3⟩ := vx_keep h0 e1 hS hAX hf hL hF
    obtain ⟨t2, a1, b1⟩ := kx E ce q u t T'.heap (locs ++ L) e1.symm (by rw [← e2]; exact X'.warmed.alike) hp hb k1 k2 k3 (by rw [e1]; exact hce) hcv hcl T' rfl X'
    exact ⟨t2, st.trans a1, b1⟩
theorem vx_calll {S SX : Type} {post : Int64 → S → Prop} {px : SX → Prop} {B : S → State → Prop} {BX : String → SX → State → Prop} {AX : Nat → Prop} (hr : vx_Run p l e R s m args below meth c H locs cells slots mc ms (F0 m pc ls st0) rest (va_Ql post B A1 a) (vx_X px BX AX) free) (hS : va_S A0 H0 H locs) (hA : ∀ q, q < H.size → A1 q → A0 q) (hf : ∀ q, free q → A0 q) (hAX : ∀ q, q < H.size → AX q → A0 q)
    (kx : ∀ (E : String) (ce : Cell) (q9 : Addr) (u : SX) (t : State) (H1 : Heap) (locs1 : List Loc), t.heap = H1 → s.vm.Alike t.vm → px u → BX E u t → H.size ≤ H1.size → (∀ q : Nat, q < H.size → ¬ AX q → H1[q]? = H[q]?) → va_S A0 H0 H1 locs1 → H1[q9]? = some ce → ce.vm = .none → s.vm.findClass E = some ce.cls → vx_W p l e R s m args below meth c H1 locs1 (cells + mc) (slots + ms) Q (F0 m pc ls rest) q9)
    (kk : ∀ (r : Int64) (u : S) (t : State) (H1 : Heap) (locs1 : List Loc), t.heap = H1 → s.vm.Alike t.vm → post r u → B u t → H.size ≤ H1.size → (∀ q : Nat, q < H.size → ¬ A1 q → H1[q]? = H[q]?) → va_S A0 H0 H1 locs1 → W p l e R s m args below meth c H1 locs1 (cells + mc) (slots + ms) Q (F0 m (pc + 3) ls (.long r :: rest))) : W p l e R s m args below meth c H locs cells slots Q (F0 m pc ls st0) := by
  intro T hT X
  rcases hr T hT X with ⟨v, st₀, t, T', L, h0, X', hL, e1, e2, ⟨⟨r, u, hv, hp, hb⟩, hF⟩, st⟩ | ⟨q, st₀, t, T', L, E, ce, h0, X', hL, e1, e2, ⟨u, hp, hb, hF⟩, hce, hcv, hcl, st⟩
  · cases hv
    obtain ⟨k1, k2, k3⟩ := vx_keep h0 e1 hS hA hf hL hF
    obtain ⟨t2, a1, b1⟩ := kk r u t T'.heap (locs ++ L) e1.symm (by rw [← e2]; exact X'.warmed.alike) hp hb k1 k2 k3 T' rfl X'
    exact ⟨t2, st t2 a1, b1⟩
  · obtain ⟨k1, k2, k3⟩ := vx_keep h0 e1 hS hAX hf hL hF
    obtain ⟨t2, a1, b1⟩ := kx E ce q u t T'.heap (locs ++ L) e1.symm (by rw [← e2]; exact X'.warmed.alike) hp hb k1 k2 k3 (by rw [e1]; exact hce) hcv hcl T' rfl X'
    exact ⟨t2, st.trans a1, b1⟩
theorem vx_callf {S SX : Type} {post : UInt32 → S → Prop} {px : SX → Prop} {B : S → State → Prop} {BX : String → SX → State → Prop} {AX : Nat → Prop} (hr : vx_Run p l e R s m args below meth c H locs cells slots mc ms (F0 m pc ls st0) rest (va_Qf post B A1 a) (vx_X px BX AX) free) (hS : va_S A0 H0 H locs) (hA : ∀ q, q < H.size → A1 q → A0 q) (hf : ∀ q, free q → A0 q) (hAX : ∀ q, q < H.size → AX q → A0 q)
    (kx : ∀ (E : String) (ce : Cell) (q9 : Addr) (u : SX) (t : State) (H1 : Heap) (locs1 : List Loc), t.heap = H1 → s.vm.Alike t.vm → px u → BX E u t → H.size ≤ H1.size → (∀ q : Nat, q < H.size → ¬ AX q → H1[q]? = H[q]?) → va_S A0 H0 H1 locs1 → H1[q9]? = some ce → ce.vm = .none → s.vm.findClass E = some ce.cls → vx_W p l e R s m args below meth c H1 locs1 (cells + mc) (slots + ms) Q (F0 m pc ls rest) q9)
    (kk : ∀ (r : UInt32) (u : S) (t : State) (H1 : Heap) (locs1 : List Loc), t.heap = H1 → s.vm.Alike t.vm → post r u → B u t → H.size ≤ H1.size → (∀ q : Nat, q < H.size → ¬ A1 q → H1[q]? = H[q]?) → va_S A0 H0 H1 locs1 → W p l e R s m args below meth c H1 locs1 (cells + mc) (slots + ms) Q (F0 m (pc + 3) ls (.float r :: rest))) : W p l e R s m args below meth c H locs cells slots Q (F0 m pc ls st0) := by
  intro T hT X
  rcases hr T hT X with ⟨v, st₀, t, T', L, h0, X', hL, e1, e2, ⟨⟨r, u, hv, hp, hb⟩, hF⟩, st⟩ | ⟨q, st₀, t, T', L, E, ce, h0, X', hL, e1, e2, ⟨u, hp, hb, hF⟩, hce, hcv, hcl, st⟩
  · cases hv
    obtain ⟨k1, k2, k3⟩ := vx_keep h0 e1 hS hA hf hL hF
    obtain ⟨t2, a1, b1⟩ := kk r u t T'.heap (locs ++ L) e1.symm (by rw [← e2]; exact X'.warmed.alike) hp hb k1 k2 k3 T' rfl X'
    exact ⟨t2, st t2 a1, b1⟩
  · obtain ⟨k1, k2, k3⟩ := vx_keep h0 e1 hS hAX hf hL hF
    obtain ⟨t2, a1, b1⟩ := kx E ce q u t T'.heap (locs ++ L) e1.symm (by rw [← e2]; exact X'.warmed.alike) hp hb k1 k2 k3 (by rw [e1]; exact hce) hcv hcl T' rfl X'
    exact ⟨t2, st.trans a1, b1⟩
theorem vx_calld {S SX : Type} {post : UInt64 → S → Prop} {px : SX → Prop} {B : S → State → Prop} {BX : String → SX → State → Prop} {AX : Nat → Prop} (hr : vx_Run p l e R s m args below meth c H locs cells slots mc ms (F0 m pc ls st0) rest (va_Qd post B A1 a) (vx_X px BX AX) free) (hS : va_S A0 H0 H locs) (hA : ∀ q, q < H.size → A1 q → A0 q) (hf : ∀ q, free q → A0 q) (hAX : ∀ q, q < H.size → AX q → A0 q)
    (kx : ∀ (E : String) (ce : Cell) (q9 : Addr) (u : SX) (t : State) (H1 : Heap) (locs1 : List Loc), t.heap = H1 → s.vm.Alike t.vm → px u → BX E u t → H.size ≤ H1.size → (∀ q : Nat, q < H.size → ¬ AX q → H1[q]? = H[q]?) → va_S A0 H0 H1 locs1 → H1[q9]? = some ce → ce.vm = .none → s.vm.findClass E = some ce.cls → vx_W p l e R s m args below meth c H1 locs1 (cells + mc) (slots + ms) Q (F0 m pc ls rest) q9)
    (kk : ∀ (r : UInt64) (u : S) (t : State) (H1 : Heap) (locs1 : List Loc), t.heap = H1 → s.vm.Alike t.vm → post r u → B u t → H.size ≤ H1.size → (∀ q : Nat, q < H.size → ¬ A1 q → H1[q]? = H[q]?) → va_S A0 H0 H1 locs1 → W p l e R s m args below meth c H1 locs1 (cells + mc) (slots + ms) Q (F0 m (pc + 3) ls (.double r :: rest))) : W p l e R s m args below meth c H locs cells slots Q (F0 m pc ls st0) := by
  intro T hT X
  rcases hr T hT X with ⟨v, st₀, t, T', L, h0, X', hL, e1, e2, ⟨⟨r, u, hv, hp, hb⟩, hF⟩, st⟩ | ⟨q, st₀, t, T', L, E, ce, h0, X', hL, e1, e2, ⟨u, hp, hb, hF⟩, hce, hcv, hcl, st⟩
  · cases hv
    obtain ⟨k1, k2, k3⟩ := vx_keep h0 e1 hS hA hf hL hF
    obtain ⟨t2, a1, b1⟩ := kk r u t T'.heap (locs ++ L) e1.symm (by rw [← e2]; exact X'.warmed.alike) hp hb k1 k2 k3 T' rfl X'
    exact ⟨t2, st t2 a1, b1⟩
  · obtain ⟨k1, k2, k3⟩ := vx_keep h0 e1 hS hAX hf hL hF
    obtain ⟨t2, a1, b1⟩ := kx E ce q u t T'.heap (locs ++ L) e1.symm (by rw [← e2]; exact X'.warmed.alike) hp hb k1 k2 k3 (by rw [e1]; exact hce) hcv hcl T' rfl X'
    exact ⟨t2, st.trans a1, b1⟩
theorem vx_callv {S SX : Type} {post : S → Prop} {px : SX → Prop} {B : S → State → Prop} {BX : String → SX → State → Prop} {AX : Nat → Prop} (hr : vx_Run p l e R s m args below meth c H locs cells slots mc ms (F0 m pc ls st0) rest (va_Qv post B A1 a) (vx_X px BX AX) free) (hS : va_S A0 H0 H locs) (hA : ∀ q, q < H.size → A1 q → A0 q) (hf : ∀ q, free q → A0 q) (hAX : ∀ q, q < H.size → AX q → A0 q)
    (kx : ∀ (E : String) (ce : Cell) (q9 : Addr) (u : SX) (t : State) (H1 : Heap) (locs1 : List Loc), t.heap = H1 → s.vm.Alike t.vm → px u → BX E u t → H.size ≤ H1.size → (∀ q : Nat, q < H.size → ¬ AX q → H1[q]? = H[q]?) → va_S A0 H0 H1 locs1 → H1[q9]? = some ce → ce.vm = .none → s.vm.findClass E = some ce.cls → vx_W p l e R s m args below meth c H1 locs1 (cells + mc) (slots + ms) Q (F0 m pc ls rest) q9)
    (kk : ∀ (u : S) (t : State) (H1 : Heap) (locs1 : List Loc), t.heap = H1 → s.vm.Alike t.vm → post u → B u t → H.size ≤ H1.size → (∀ q : Nat, q < H.size → ¬ A1 q → H1[q]? = H[q]?) → va_S A0 H0 H1 locs1 → W p l e R s m args below meth c H1 locs1 (cells + mc) (slots + ms) Q (F0 m (pc + 3) ls (rest))) : W p l e R s m args below meth c H locs cells slots Q (F0 m pc ls st0) := by
  intro T hT X
  rcases hr T hT X with ⟨v, st₀, t, T', L, h0, X', hL, e1, e2, ⟨⟨u, hv, hp, hb⟩, hF⟩, st⟩ | ⟨q, st₀, t, T', L, E, ce, h0, X', hL, e1, e2, ⟨u, hp, hb, hF⟩, hce, hcv, hcl, st⟩
  · cases hv
    obtain ⟨k1, k2, k3⟩ := vx_keep h0 e1 hS hA hf hL hF
    obtain ⟨t2, a1, b1⟩ := kk u t T'.heap (locs ++ L) e1.symm (by rw [← e2]; exact X'.warmed.alike) hp hb k1 k2 k3 T' rfl X'
    exact ⟨t2, st t2 a1, b1⟩
  · obtain ⟨k1, k2, k3⟩ := vx_keep h0 e1 hS hAX hf hL hF
    obtain ⟨t2, a1, b1⟩ := kx E ce q u t T'.heap (locs ++ L) e1.symm (by rw [← e2]; exact X'.warmed.alike) hp hb k1 k2 k3 (by rw [e1]; exact hce) hcv hcl T' rfl X'
    exact ⟨t2, st.trans a1, b1⟩
/-- caught by the row x of this method's table; the rows ahead don't take it -/
theorem vx_catch {own name : String} {E : String} {ce : Cell} {q : Addr} (hown : s.vm.findClass own = some m.cls) (pre : List ExceptionTableEntry) (x : ExceptionTableEntry) (suf : List ExceptionTableEntry) (hsplit : c.exceptionTable.toList = pre ++ x :: suf)
    (hpass : ∀ z ∈ pre, covers z pc = false ∨ (z.catchType ≠ 0 ∧ ∃ nm : String, (Cond.classLink own z.catchType nm).before args s = true ∧ va_Nc E nm s)) (hx : covers x pc = true) (h0 : x.catchType ≠ 0)
    (hlink : (Cond.classLink own x.catchType name).before args s = true) (hcast : (Cond.castable E name).before args s = true) (hcell : H[q]? = some ce) (hv : ce.vm = .none) (hcl : s.vm.findClass E = some ce.cls)
    (kk : W p l e R s m args below meth c H locs cells slots Q (F0 m x.handlerPc ls [.ref q])) : vx_W p l e R s m args below meth c H locs cells slots Q (F0 m pc ls rest) q := by
  intro T hT X
  have hpl : e.platform.magicAccessors = ({} : Platform).magicAccessors := by rw [X.admits.platform]
  obtain ⟨c3, c4, hc3, hc4, hasg⟩ := Cond.castable_spec hcast
  cases Option.some.inj (hc3.symm.trans hcl)
  obtain ⟨c5, hc5, hcl5⟩ := Cond.classLink_spec hown hlink e.platform hpl
  cases Option.some.inj (hc4.symm.trans hc5)
  obtain ⟨vm', X', st⟩ := X.thenCaughtThrough q (g := F0 m pc ls rest) rfl (Steps.refl _) (by rw [hT]; exact hcell) (by rw [hv]; rfl) (by obtain ⟨k9, h9, -⟩ := Vm.findClass_spec hcl; exact ⟨k9, h9⟩) pre x suf hsplit
    (fun z hz => by
      rcases hpass z hz with h | ⟨hz0, nm, hl1, hn1⟩
      · exact Or.inl h
      · obtain ⟨c6, hc6, hcl6⟩ := Cond.classLink_spec hown hl1 e.platform hpl
        obtain ⟨a8, b8, h1, h2, h3⟩ := hn1
        cases Option.some.inj (h1.symm.trans hcl)
        cases Option.some.inj (h2.symm.trans hc6)
        exact Or.inr ⟨hz0, _, hcl6, h3⟩) hx (Or.inr ⟨h0, c4, hcl5, hasg⟩)
  obtain ⟨t, a1, b1⟩ := kk (T.setVm vm') hT X'
  exact ⟨t, st.trans a1, b1⟩
end Rows
section Ends
variable {p : Program} {l : Launch} {e : Env} {R : Room} {s : State} {m : MethodId} {args : Array Value} {below : List Frame} {meth : Method} {c : Code} {H : Heap} {locs : List Loc} {cells slots : Nat} {Q : State → Prop}
variable {mc ms : Nat} {free : Addr → Prop} {A0 A1 : Nat → Prop} {H0 : Heap} {a : Array Value} {ls : Array Slot} {st0 rest : List Value}
variable {Qc : Array Value → State → Outcome → State → Prop} {XC : String → State → State → Prop}
/-- what a body that may throw owes at its end -/
def vx_MQ (below : List Frame) (Qc : Array Value → State → Outcome → State → Prop) (XC : String → State → State → Prop) (a : Array Value) (s : State) (mc ms : Nat) (free : Addr → Prop) : State → Prop := fun t =>
  ∃ o, t.status = .running ∧ Ended t below o ∧ vx_Q Qc XC mc ms free a s o t
theorem vx_ret {g : JFrame} {mc ms : Nat} (k : W p l e R s m args below meth c H locs cells slots (MQ below Qc args s mc ms free) g) : W p l e R s m args below meth c H locs cells slots (vx_MQ below Qc XC args s mc ms free) g := by
  intro T hT X
  obtain ⟨t, a1, o, b1, b2, b3, b4⟩ := k T hT X
  exact ⟨t, a1, o, b1, b2, Or.inl ⟨b3, b4⟩⟩
/-- not caught here: it goes on to the caller -/
theorem vx_widen {g : JFrame} {q : Addr} {k n : Nat} (h1 : cells ≤ k) (h2 : slots ≤ n) (kk : vx_W p l e R s m args below meth c H locs k n Q g q) : vx_W p l e R s m args below meth c H locs cells slots Q g q := fun T hT X => kk T hT (stand_widen X h1 h2)
theorem vx_out {pc : Nat} {E : String} {ce : Cell} {q : Addr} {mc ms : Nat} (hout : ∀ x ∈ c.exceptionTable.toList, covers x pc = false) (hlocks : meth.locks = false) (hcell : H[q]? = some ce) (hv : ce.vm = .none) (hcl : s.vm.findClass E = some ce.cls)
    (hx : ∀ t : State, t.heap = H → s.vm.Alike t.vm → XC E s t) (hf : ∀ z ∈ locs, free z.base) (hc : cells ≤ mc) (hs : slots ≤ ms) :
    vx_W p l e R s m args below meth c H locs cells slots (vx_MQ below Qc XC args s mc ms free) (F0 m pc ls rest) q := by
  intro T hT X
  obtain ⟨st1, hrun, hend, hW, hsm⟩ := X.leaveThrown q (g := F0 m pc ls rest) rfl rfl rfl hout hlocks
  have hcell9 : (T.setFrames (.throwing q :: below)).heap[q]? = some ce := by
    show T.heap[q]? = some ce
    rw [hT]; exact hcell
  exact ⟨_, st1, .threw q, hrun, hend, Or.inr ⟨q, rfl, E, ce, locs, hx _ hT hW.alike, hcell9, hv, hcl, hW, hsm.mono hc hs, hf⟩⟩
theorem vx_frame {U : State} {k n : Nat} (h : s.sameButNew ({ U with vm := s.vm } : State) locs k n) : s.heap.size ≤ U.heap.size ∧ ∀ q : Nat, q < s.heap.size → (∀ z ∈ locs, z.base ≠ q) → U.heap[q]? = s.heap[q]? := by
  obtain ⟨-, h2, -, -, -, h6⟩ := h
  refine ⟨h2, fun q hq hz => ?_⟩
  obtain ⟨c9, e1, e2, e3, e4⟩ := h6 q _ (Array.getElem?_eq_getElem hq)
  have hs : c9.slots = (s.heap[q]).slots := Array.ext_getElem? fun i => e4 i fun hm => hz _ hm rfl
  have h9 : c9 = s.heap[q] := by
    rw [hs] at e2
    exact e2
  have e5 : U.heap[q]? = some c9 := e1
  rw [e5, h9, Array.getElem?_eq_getElem hq]
/-- the words of a throw but the four that speak of the heap -/
def vx_no (w : Cond) : Bool := decide (w ≠ .isRef (.static Bundle.tN "UNASSIGNED_STACK" Bundle.steD)) && decide (w ≠ .isRef (.static Bundle.tN "SUPPRESSED_SENTINEL" Bundle.listD)) && decide (w ≠ .laysStatic Bundle.tN "UNASSIGNED_STACK" Bundle.steD) && decide (w ≠ .laysStatic Bundle.tN "SUPPRESSED_SENTINEL" Bundle.listD)
def vx_at0 (own : String) (ic : Nat) (X : String) (names : List String) : List Cond := (Bundle.ownAtoms0 own ic X names).filter vx_no
def vx_atS (own : String) (ic : Nat) (X : String) (names : List String) : List Cond := (Bundle.ownAtoms own ic X names).filter vx_no
/-- a word that the tables alone decide, or a good one -/
def vx_ot (w : Cond) : Bool := w.onTables || goodWord w
theorem vx_ot_at {args a' : Array Value} {s U : State} {w : Cond} (hW : s.WarmedH U.vm) (hvm : s.vm = U.vm) (hg : vx_ot w = true) (h : w.before args s = true) : w.before a' U = true := by
  simp only [vx_ot, Bool.or_eq_true] at hg
  rcases hg with hg | hg
  · exact va_tabs hg hvm h
  · exact word_at hW (good_of_word hg) h
/-- a list's words: the good ones out of the method's own list, the others by premises of their own -/
theorem vx_hat {args : Array Value} {s : State} {L B : List Cond} (h1 : ∀ w ∈ L.filter goodWord, w.before args s = true) (h2 : ∀ w ∈ L.filter (fun w => !goodWord w), w ∈ B) (h3 : ∀ w ∈ B, w.before args s = true) : ∀ w ∈ L, w.before args s = true := by
  intro w hw
  by_cases g : goodWord w = true
  · exact h1 w (List.mem_filter.mpr ⟨hw, g⟩)
  · refine h3 w (h2 w (List.mem_filter.mpr ⟨hw, ?_⟩))
    show (!goodWord w) = true
    cases hgw : goodWord w
    · rfl
    · exact absurd hgw g
theorem vx_c {args : Array Value} {s : State} {w : Cond} {B : List Cond} (h : w.before args s = true) (t : ∀ w ∈ B, w.before args s = true) : ∀ w' ∈ w :: B, w'.before args s = true := fun w' h' => (List.mem_cons.mp h').elim (fun e => by rw [e]; exact h) (t w')
theorem vx_n {args : Array Value} {s : State} : ∀ w ∈ ([] : List Cond), w.before args s = true := fun _ h => nomatch h
theorem vx_own {args : Array Value} {s : State} {L : List Cond} (h1 : ∀ w ∈ L.filter vx_no, w.before args s = true)
    (hU : (Cond.isRef (.static Bundle.tN "UNASSIGNED_STACK" Bundle.steD)).before args s = true) (hN : (Cond.isRef (.static Bundle.tN "SUPPRESSED_SENTINEL" Bundle.listD)).before args s = true)
    (lU : (Cond.laysStatic Bundle.tN "UNASSIGNED_STACK" Bundle.steD).before args s = true) (lN : (Cond.laysStatic Bundle.tN "SUPPRESSED_SENTINEL" Bundle.listD).before args s = true) : ∀ w ∈ L, w.before args s = true := by
  intro w hw
  by_cases e1 : w = .isRef (.static Bundle.tN "UNASSIGNED_STACK" Bundle.steD)
  · rw [e1]; exact hU
  · by_cases e2 : w = .isRef (.static Bundle.tN "SUPPRESSED_SENTINEL" Bundle.listD)
    · rw [e2]; exact hN
    · by_cases e3 : w = .laysStatic Bundle.tN "UNASSIGNED_STACK" Bundle.steD
      · rw [e3]; exact lU
      · by_cases e4 : w = .laysStatic Bundle.tN "SUPPRESSED_SENTINEL" Bundle.listD
        · rw [e4]; exact lN
        · exact h1 w (List.mem_filter.mpr ⟨hw, by unfold vx_no; rw [decide_eq_true e1, decide_eq_true e2, decide_eq_true e3, decide_eq_true e4]; rfl⟩)
/-- where a static field lies, its class's statics cell in H -/
def vx_L (C n d : String) (A : Nat → Prop) (U : State) (H : Heap) : Prop := ∃ (c : ClassId) (k : Class) (i : Nat) (f : Field) (a : Nat) (cell : Cell), U.vm.findClass C = some c ∧ U.fieldFound? C n d = some (c, k, i, f) ∧ f.isStatic = true ∧ k.statics = some a ∧ H[a]? = some cell ∧ cell.vm.isStatics = true ∧ cell.cls = c ∧ f.slot < cell.slots.size ∧ k.staticTypes[f.slot]? = some f.type ∧ ¬ A a
theorem vx_L.moved {C n d : String} {A : Nat → Prop} {u U : State} {H : Heap} (hvm : u.vm.Alike U.vm) (h : vx_L C n d A u H) : vx_L C n d A U H := by
  obtain ⟨c, k, i, f, a, cell, h1, h2, h3, h4, h5, h6, h7, h8, h9, h10⟩ := h
  obtain ⟨k', hi', he⟩ := State.fieldFound?_setVm hvm h2
  exact ⟨c, k', i, f, a, cell, by rw [hvm.findClass]; exact h1, hi', h3, by rw [he]; exact h4, h5, h6, h7, h8, by rw [he]; exact h9, h10⟩
theorem vx_L.kept {C n d : String} {A : Nat → Prop} {U : State} {H H1 : Heap} (h : vx_L C n d A U H) (hq : ∀ a : Nat, a < H.size → ¬ A a → H1[a]? = H[a]?) : vx_L C n d A U H1 := by
  obtain ⟨c, k, i, f, a, cell, h1, h2, h3, h4, h5, h6, h7, h8, h9, h10⟩ := h
  exact ⟨c, k, i, f, a, cell, h1, h2, h3, h4, by rw [hq a (Array.getElem?_eq_some_iff.mp h5).1 h10]; exact h5, h6, h7, h8, h9, h10⟩
theorem vx_L.narrow {C n d : String} {A B : Nat → Prop} {U : State} {H : Heap} (h : vx_L C n d A U H) (hAB : ∀ q, B q → A q) : vx_L C n d B U H := by
  obtain ⟨c, k, i, f, a, cell, h1, h2, h3, h4, h5, h6, h7, h8, h9, h10⟩ := h
  exact ⟨c, k, i, f, a, cell, h1, h2, h3, h4, h5, h6, h7, h8, h9, fun z => h10 (hAB _ z)⟩
theorem vx_L.word {C n d : String} {A : Nat → Prop} {s : State} {args : Array Value} (h : vx_L C n d A s s.heap) : (Cond.laysStatic C n d).before args s = true := by
  obtain ⟨c, k, i, f, a, cell, h1, h2, h3, h4, h5, h6, h7, h8, h9, -⟩ := h
  show (Cond.laysStatic C n d).holds args s none s [] = true
  exact Cond.laysStatic_of h1 h2 h3 h4 h5 h6 h7 h8 h9
/-- .. and what it holds: null or some reference -/
def vx_Zq (C n d : String) (A : Nat → Prop) (U : State) (H : Heap) : Prop := va_Zq C n d A U H ∧ vx_L C n d A U H
theorem vx_Zq.moved {C n d : String} {A : Nat → Prop} {u U : State} {H : Heap} (hvm : u.vm.Alike U.vm) (h : vx_Zq C n d A u H) : vx_Zq C n d A U H := ⟨va_Zq.moved hvm h.1, vx_L.moved hvm h.2⟩
theorem vx_Zq.kept {C n d : String} {A : Nat → Prop} {U : State} {H H1 : Heap} (h : vx_Zq C n d A U H) (hq : ∀ a : Nat, a < H.size → ¬ A a → H1[a]? = H[a]?) : vx_Zq C n d A U H1 := ⟨va_Zq.kept h.1 hq, vx_L.kept h.2 hq⟩
theorem vx_Zq.narrow {C n d : String} {A B : Nat → Prop} {U : State} {H : Heap} (h : vx_Zq C n d A U H) (hAB : ∀ q, B q → A q) : vx_Zq C n d B U H := ⟨va_Zq.narrow h.1 hAB, vx_L.narrow h.2 hAB⟩
theorem vx_Zqof {args : Array Value} {s : State} {C n d : String} {A : Nat → Prop} (hl : (Cond.laysStatic C n d).before args s = true) (hini : (Cond.initialized C).before args s = true) (h : (Cond.isRef (.static C n d)).before args s = true) (hA : ∀ a : Nat, a < s.heap.size → ¬ A a) : vx_Zq C n d A s s.heap := by
  refine ⟨va_Zqof hl hini h hA, ?_⟩
  obtain ⟨c, k, i, f, a, cell, h1, h2, h3, h4, h5, h6, h7, h8, h9⟩ := Cond.laysStatic_spec hl
  exact ⟨c, k, i, f, a, cell, h1, h2, h3, h4, h5, h6, h7, h8, h9, hA a (Array.getElem?_eq_some_iff.mp h5).1⟩
theorem vx_isRef {C n d : String} {v : Value} {A : Nat → Prop} {s : State} {args : Array Value} (h : va_Z C n d v A s s.heap) (hv : v.isRef = true) : (Cond.isRef (.static C n d)).before args s = true := by
  obtain ⟨cf, kf, fi, f, a, cell, h1, h2, h3, h4, h5, h6, h7, -⟩ := h
  have he : (Term.static C n d).eval args s none [] s = some v := by
    simp [Term.eval, State.fieldNamed?, h1, h2, h4, h5, h6, h7]
  simp only [Cond.before, Cond.holds, Cond.value, he]
  cases v <;> simp_all [Value.isRef]
theorem vx_isRefq {C n d : String} {A : Nat → Prop} {s : State} {args : Array Value} (h : va_Zq C n d A s s.heap) : (Cond.isRef (.static C n d)).before args s = true := by
  rcases h with h | ⟨t, h⟩
  · exact vx_isRef h rfl
  · exact vx_isRef h rfl
/-- the same frame, seen from here: as if the method were called anew in this heap -/
theorem vx_rebase {T : State} (X : Stand p l e R s m args below meth c T locs cells slots) {R' : Room} (hf : R'.frames ≤ R.frames) (hl : R'.locals ≤ R.locals) (hc : cells + R'.cells ≤ R.cells) (hs : slots + R'.slots ≤ R.slots) :
    Stand p l e R' ((T.setVm s.vm).setFrames (.invoking m args :: below)) m args below meth c T [] 0 0 := by
  have htop : (T.setVm s.vm).topJava?.isSome := X.here.top
  have hF : ((T.setVm s.vm).setFrames (.invoking m args :: below)).frames = .invoking m args :: below := State.frames_setFrames _ (State.cur_lt_of_top htop)
  obtain ⟨g₀, hg0⟩ := Option.isSome_iff_exists.mp htop
  obtain ⟨r, hr⟩ := State.topJava?_eq_some.mp hg0
  have hl9 : e.platform.stackLimits (T.setVm s.vm).me = e.platform.stackLimits s.me := X.limits
  have hb9 : (T.setVm s.vm).me.stackBytes = s.me.stackBytes := X.bytes
  refine ⟨X.admits, X.cas, X.clock, hF, ?_, X.hears, X.method, X.code, X.here, X.tail, X.warmed, ?_, ?_, ?_⟩
  · have h := X.room
    have hU : ((T.setVm s.vm).setFrames (.invoking m args :: below)).localsInUse = s.localsInUse := by
      rw [State.localsInUse_invoking hF (meth := meth) (c := c) X.method X.code, State.localsInUse_invoking X.frames X.method X.code]
    simp only [State.hasRoom, Bool.and_eq_true, decide_eq_true_eq] at h ⊢
    obtain ⟨⟨⟨⟨h1, h2, h3, h4, h5, h6⟩, h7⟩, h8⟩, h9⟩ := h
    rw [X.frames, List.length_cons] at h2 h3
    have q1 := X.heapSize
    have q2 := X.used
    simp only [hF, hU, List.length_cons, State.stackLimits_setFrames, State.stackBytes_setFrames, hl9, hb9]
    refine ⟨⟨⟨⟨by omega, by omega, by omega, by omega, by omega, h6⟩, ?_⟩, ?_⟩, X.book⟩
    · show T.heap.size + R'.cells ≤ e.platform.maxCells
      omega
    · show T.slotsUsed + R'.slots ≤ e.platform.maxSlots
      omega
  · rw [State.stackLimits_setFrames]; rfl
  · rw [State.stackBytes_setFrames]; rfl
  · refine ⟨?_, Nat.le_refl _, Nat.le_refl _, ?_, ?_, fun a c9 h9 => ⟨c9, h9, rfl, rfl, fun _ _ => rfl⟩⟩
    · obtain ⟨t, ht, -⟩ := State.frames_cons hr
      show T.setVm s.vm = { ((T.setVm s.vm).setFrames (.invoking m args :: below)).setFrames (T.setVm s.vm).frames with heap := T.heap, slotsUsed := T.slotsUsed }
      rw [State.setFrames_setFrames, State.setFrames_self ht]
      rfl
    · show T.slotsUsed = T.slotsUsed + ((T.heap.toList.drop T.heap.size).map (·.slots.size)).sum
      rw [List.drop_eq_nil_of_le (Nat.le_of_eq Array.length_toList)]
      rfl
    · show ((T.heap.toList.drop T.heap.size).map (·.slots.size)).sum ≤ 0
      rw [List.drop_eq_nil_of_le (Nat.le_of_eq Array.length_toList)]
      exact Nat.le_refl _
/-- 'throw new E()': new; dup; invokespecial; athrow -/
theorem vx_throw0 {cc : ByteArray} {pc : Nat} (hexec : p.tables.exec = Jvm.exec) (hb : c.code = cc) (hl : l.stackTraces = false) {own cls : String} {names : List String} {ik ic mc ms : Nat} {A : Nat → Prop}
    (hown : s.vm.findClass own = some m.cls) (hcls : Bundle.fit cls = true) (hnames : ∀ n ∈ names, Bundle.fit n = true)
    (hk : (Cond.classLink own ik cls).before args s = true) (hini : (Cond.initialized cls).before args s = true) (hat : ∀ w ∈ vx_at0 own ic cls names, w.before args s = true)
    (hgood : ∀ w ∈ Cond.classLink own ik cls :: Cond.initialized cls :: vx_at0 own ic cls names, vx_ot w = true)
    (hU : vx_Zq Bundle.tN "UNASSIGNED_STACK" Bundle.steD A s s.heap) (hN : vx_Zq Bundle.tN "SUPPRESSED_SENTINEL" Bundle.listD A s s.heap) (hS : va_S A s.heap H locs) (hsize : ls.size = c.maxLocals)
    (d0 : decode cc pc = .ok (.new ik, 3)) (d3 : decode cc (pc + 3) = .ok (.dup, 1)) (d4 : decode cc (pc + 4) = .ok (.invokespecial ic, 3)) (d7 : decode cc (pc + 7) = .ok (.athrow, 1))
    (hout : ∀ x ∈ c.exceptionTable.toList, covers x (pc + 7) = false)
    (hRframes : names.length + 3 < R.frames) (hRlocals : (rest.map fun v => v.category).sum + (13 * (names.length + 1) + 42) ≤ R.locals) (hRcells : cells + 1 ≤ R.cells) (hRslots : slots + 6 ≤ R.slots) (hlocks : meth.locks = false)
    (hx : ∀ t : State, s.vm.Alike t.vm → H.size ≤ t.heap.size → (∀ q : Nat, q < H.size → t.heap[q]? = H[q]?) → XC cls s t)
    (hf : ∀ z ∈ locs, free z.base) (hc : cells + 1 ≤ mc) (hs : slots + 6 ≤ ms) :
    W p l e R s m args below meth c H locs cells slots (vx_MQ below Qc XC args s mc ms free) (F0 m pc ls rest) := by
  intro T hT X
  have htr : e.platform.stackTraces = false := (show e.platform.stackTraces = l.stackTraces by rw [X.admits.platform]).trans hl
  have Y := vx_rebase X (R' := { frames := R.frames, locals := R.locals, cells := 1, slots := 6 }) (Nat.le_refl _) (Nat.le_refl _) hRcells hRslots
  obtain ⟨s', hA⟩ : ∃ z, z = (T.setVm s.vm).setFrames (.invoking m args :: below) := ⟨_, rfl⟩
  rw [← hA] at Y
  have hvm : s'.vm = s.vm := by rw [hA]; rfl
  have hhp : s'.heap = H := by rw [hA]; exact hT
  have hW0 : s.WarmedH s'.vm := by rw [hvm]; exact State.WarmedH.refl s
  have hat' : ∀ w ∈ vx_at0 own ic cls names, w.before args s' = true := fun w hw => vx_ot_at hW0 hvm.symm (hgood w (List.mem_cons_of_mem _ (List.mem_cons_of_mem _ hw))) (hat w hw)
  have hk' : (Cond.classLink own ik cls).before args s' = true := vx_ot_at hW0 hvm.symm (hgood _ List.mem_cons_self) hk
  have hini' : (Cond.initialized cls).before args s' = true := vx_ot_at hW0 hvm.symm (hgood _ (List.mem_cons_of_mem _ List.mem_cons_self)) hini
  have hU' : vx_Zq Bundle.tN "UNASSIGNED_STACK" Bundle.steD A s' s'.heap := by rw [hhp]; exact vx_Zq.moved hW0.alike (hU.kept hS.2.1)
  have hN' : vx_Zq Bundle.tN "SUPPRESSED_SENTINEL" Bundle.listD A s' s'.heap := by rw [hhp]; exact vx_Zq.moved hW0.alike (hN.kept hS.2.1)
  have h : ∀ w ∈ Bundle.ownAtoms0 own ic cls names, w.before args s' = true := vx_own hat' (vx_isRefq hU'.1) (vx_isRefq hN'.1) hU'.2.word hN'.2.word
  have hown' : s'.vm.findClass own = some m.cls := by rw [hvm]; exact hown
  have hins : (Cond.instantiable cls 6).before args s' = true := h _ (by simp [Bundle.ownAtoms0])
  obtain ⟨vm₁, cX, kX, hfX, hkX, -, -, X₁, st1⟩ := Y.newCold hexec (own := own) (C := cls) (index := ik) (n := 6) hown' hk' hins hini'
    (g := F0 m pc ls rest) rfl (by rw [hb]; exact d0) (Nat.le_refl _) (Nat.le_refl _)
  generalize hT1 : (T.setVm vm₁).pushCell { cls := cX, slots := kX.instanceTypes.map defaultValue, vm := .none } = T1 at X₁ st1
  have hcat : (Value.ref T.heap.size).category = 1 := rfl
  have hcellA : T1.heap[T.heap.size]? = some (freshCell cX kX) := by rw [← hT1]; exact State.heap_pushCell_size _ _
  have d3' : decode c.code (pc + 3) = .ok (.dup, 1) := by rw [hb]; exact d3
  obtain ⟨U, hsteps, hrun, hend, hW, hsame, ce, hce, hO⟩ := X₁.ctorThrow0 hexec htr (own := own) (cls := cls) (names := names) (ic := ic) hown' hcls hnames h (fun x hx => nomatch hx) hfX hkX hcellA (by rw [hhp, hT]; exact Nat.le_refl _)
    (g := { method := m, pc := pc + 4, locals := ls, stack := .ref T.heap.size :: .ref T.heap.size :: rest, locked := none }) rfl hsize rfl rfl (rest := rest) rfl
    (by rw [hb]; exact d4) (by rw [hb]; exact d7) hout hRframes (by simp only [List.map_cons, List.sum_cons, hcat]; omega) hlocks
  obtain ⟨f1, f2⟩ := vx_frame hsame
  rw [hhp] at f1 f2
  have hWs : s.WarmedH U.vm := State.WarmedH.trans hW0 hW
  have hcl : s.vm.findClass cls = some ce.cls := by
    have h9 := hO.cls
    rw [hvm] at h9
    exact h9
  have hall : s.sameButNew ({ U with vm := s.vm } : State) locs mc ms := by
    subst hA
    obtain ⟨e1, e2⟩ := hsame
    rw [State.setFrames_setFrames] at e1
    have h2 : (T.setVm s.vm).sameButNew ({ U with vm := s.vm } : State) [] (0 + 1) (0 + 6) := ⟨e1, e2⟩
    have h3 := X.same.trans h2
    rw [List.append_nil] at h3
    exact h3.mono hc hs
  refine ⟨U, ?_, .threw T.heap.size, hrun, hend, Or.inr ⟨T.heap.size, rfl, cls, ce, locs, hx U hWs.alike f1 (fun q hq => f2 q hq (fun z hz => nomatch hz)), hce, hO.vm, hcl, hWs, hall, hf⟩⟩
  refine st1 _ ?_
  show Steps p.tables e below (T1.setTop { method := m, pc := pc + 3, locals := ls, stack := .ref T.heap.size :: rest, locked := none }) _
  jvm_step X₁.here [X₁.here.top, hexec, d3', Value.category]
  exact hsteps
/-- 'throw new E("text")': new; dup; ldc; invokespecial; athrow -/
theorem vx_throwS {cc : ByteArray} {pc : Nat} (hexec : p.tables.exec = Jvm.exec) (hb : c.code = cc) (hl : l.stackTraces = false) {own cls text : String} {names : List String} {ik is ic mc ms sa : Nat} {A : Nat → Prop}
    (hown : s.vm.findClass own = some m.cls) (hcls : Bundle.fit cls = true) (hnames : ∀ n ∈ names, Bundle.fit n = true)
    (hk : (Cond.classLink own ik cls).before args s = true) (hini : (Cond.initialized cls).before args s = true) (hstr : vk_R own is text sa s) (hat : ∀ w ∈ vx_atS own ic cls names, w.before args s = true)
    (hgood : ∀ w ∈ Cond.classLink own ik cls :: Cond.initialized cls :: vx_atS own ic cls names, vx_ot w = true)
    (hU : vx_Zq Bundle.tN "UNASSIGNED_STACK" Bundle.steD A s s.heap) (hN : vx_Zq Bundle.tN "SUPPRESSED_SENTINEL" Bundle.listD A s s.heap) (hS : va_S A s.heap H locs) (hsize : ls.size = c.maxLocals)
    (d0 : decode cc pc = .ok (.new ik, 3)) (d3 : decode cc (pc + 3) = .ok (.dup, 1)) (d4 : decode cc (pc + 4) = .ok (.ldc is, 2)) (d6 : decode cc (pc + 6) = .ok (.invokespecial ic, 3)) (d9 : decode cc (pc + 9) = .ok (.athrow, 1))
    (hout : ∀ x ∈ c.exceptionTable.toList, covers x (pc + 9) = false)
    (hRframes : names.length + 3 < R.frames) (hRlocals : (rest.map fun v => v.category).sum + (13 * (names.length + 1) + 43) ≤ R.locals) (hRcells : cells + 1 ≤ R.cells) (hRslots : slots + 6 ≤ R.slots) (hlocks : meth.locks = false)
    (hx : ∀ t : State, s.vm.Alike t.vm → H.size ≤ t.heap.size → (∀ q : Nat, q < H.size → t.heap[q]? = H[q]?) → XC cls s t)
    (hf : ∀ z ∈ locs, free z.base) (hc : cells + 1 ≤ mc) (hs : slots + 6 ≤ ms) :
    W p l e R s m args below meth c H locs cells slots (vx_MQ below Qc XC args s mc ms free) (F0 m pc ls rest) := by
  intro T hT X
  have htr : e.platform.stackTraces = false := (show e.platform.stackTraces = l.stackTraces by rw [X.admits.platform]).trans hl
  have Y := vx_rebase X (R' := { frames := R.frames, locals := R.locals, cells := 1, slots := 6 }) (Nat.le_refl _) (Nat.le_refl _) hRcells hRslots
  obtain ⟨s', hA⟩ : ∃ z, z = (T.setVm s.vm).setFrames (.invoking m args :: below) := ⟨_, rfl⟩
  rw [← hA] at Y
  have hvm : s'.vm = s.vm := by rw [hA]; rfl
  have hhp : s'.heap = H := by rw [hA]; exact hT
  have hW0 : s.WarmedH s'.vm := by rw [hvm]; exact State.WarmedH.refl s
  have hat' : ∀ w ∈ vx_atS own ic cls names, w.before args s' = true := fun w hw => vx_ot_at hW0 hvm.symm (hgood w (List.mem_cons_of_mem _ (List.mem_cons_of_mem _ hw))) (hat w hw)
  have hk' : (Cond.classLink own ik cls).before args s' = true := vx_ot_at hW0 hvm.symm (hgood _ List.mem_cons_self) hk
  have hini' : (Cond.initialized cls).before args s' = true := vx_ot_at hW0 hvm.symm (hgood _ (List.mem_cons_of_mem _ List.mem_cons_self)) hini
  have hU' : vx_Zq Bundle.tN "UNASSIGNED_STACK" Bundle.steD A s' s'.heap := by rw [hhp]; exact vx_Zq.moved hW0.alike (hU.kept hS.2.1)
  have hN' : vx_Zq Bundle.tN "SUPPRESSED_SENTINEL" Bundle.listD A s' s'.heap := by rw [hhp]; exact vx_Zq.moved hW0.alike (hN.kept hS.2.1)
  have h : ∀ w ∈ Bundle.ownAtoms own ic cls names, w.before args s' = true := vx_own hat' (vx_isRefq hU'.1) (vx_isRefq hN'.1) hU'.2.word hN'.2.word
  have hown' : s'.vm.findClass own = some m.cls := by rw [hvm]; exact hown
  have hins : (Cond.instantiable cls 6).before args s' = true := h _ (by simp [Bundle.ownAtoms])
  obtain ⟨vm₁, cX, kX, hfX, hkX, -, -, X₁, st1⟩ := Y.newCold hexec (own := own) (C := cls) (index := ik) (n := 6) hown' hk' hins hini'
    (g := F0 m pc ls rest) rfl (by rw [hb]; exact d0) (Nat.le_refl _) (Nat.le_refl _)
  generalize hT1 : (T.setVm vm₁).pushCell { cls := cX, slots := kX.instanceTypes.map defaultValue, vm := .none } = T1 at X₁ st1
  have hcat : (Value.ref T.heap.size).category = 1 := rfl
  have hcellA : T1.heap[T.heap.size]? = some (freshCell cX kX) := by rw [← hT1]; exact State.heap_pushCell_size _ _
  have d3' : decode c.code (pc + 3) = .ok (.dup, 1) := by rw [hb]; exact d3
  have d4' : decode c.code (pc + 4) = .ok (.ldc is, 2) := by rw [hb]; exact d4
  have hstr' : vk_R own is text sa s' := vk_R.warm hW0 hstr
  obtain ⟨U, hsteps, hrun, hend, hW, hsame, ce, hce, hO⟩ := X₁.ctorThrowS hexec htr (own := own) (cls := cls) (names := names) (ic := ic) hown' hcls hnames h (fun x hx => nomatch hx) hfX hkX hcellA (by rw [hhp, hT]; exact Nat.le_refl _) (msg := .ref sa) rfl
    (g := { method := m, pc := pc + 6, locals := ls, stack := .ref sa :: .ref T.heap.size :: .ref T.heap.size :: rest, locked := none }) rfl hsize rfl rfl (rest := rest) rfl
    (by rw [hb]; exact d6) (by rw [hb]; exact d9) hout hRframes (by simp only [List.map_cons, List.sum_cons, hcat]; omega) hlocks
  obtain ⟨f1, f2⟩ := vx_frame hsame
  rw [hhp] at f1 f2
  have hWs : s.WarmedH U.vm := State.WarmedH.trans hW0 hW
  have hcl : s.vm.findClass cls = some ce.cls := by
    have h9 := hO.cls
    rw [hvm] at h9
    exact h9
  have hall : s.sameButNew ({ U with vm := s.vm } : State) locs mc ms := by
    subst hA
    obtain ⟨e1, e2⟩ := hsame
    rw [State.setFrames_setFrames] at e1
    have h2 : (T.setVm s.vm).sameButNew ({ U with vm := s.vm } : State) [] (0 + 1) (0 + 6) := ⟨e1, e2⟩
    have h3 := X.same.trans h2
    rw [List.append_nil] at h3
    exact h3.mono hc hs
  refine ⟨U, ?_, .threw T.heap.size, hrun, hend, Or.inr ⟨T.heap.size, rfl, cls, ce, locs, hx U hWs.alike f1 (fun q hq => f2 q hq (fun z hz => nomatch hz)), hce, hO.vm, hcl, hWs, hall, hf⟩⟩
  refine st1 _ ?_
  show Steps p.tables e below (T1.setTop { method := m, pc := pc + 3, locals := ls, stack := .ref T.heap.size :: rest, locked := none }) _
  jvm_step X₁.here [X₁.here.top, hexec, d3', Value.category]
  exact X₁.ldcString hexec (own := own) (text := text) (index := is) (a := sa) hown' hstr'.1 hstr'.2
    (g := { method := m, pc := pc + 4, locals := ls, stack := .ref T.heap.size :: .ref T.heap.size :: rest, locked := none }) rfl d4' _ hsteps
/-- 'throw new E("text")', the text by a wide index -/
theorem vx_throwSW {cc : ByteArray} {pc : Nat} (hexec : p.tables.exec = Jvm.exec) (hb : c.code = cc) (hl : l.stackTraces = false) {own cls text : String} {names : List String} {ik is ic mc ms sa : Nat} {A : Nat → Prop}
    (hown : s.vm.findClass own = some m.cls) (hcls : Bundle.fit cls = true) (hnames : ∀ n ∈ names, Bundle.fit n = true)
    (hk : (Cond.classLink own ik cls).before args s = true) (hini : (Cond.initialized cls).before args s = true) (hstr : vk_R own is text sa s) (hat : ∀ w ∈ vx_atS own ic cls names, w.before args s = true)
    (hgood : ∀ w ∈ Cond.classLink own ik cls :: Cond.initialized cls :: vx_atS own ic cls names, vx_ot w = true)
    (hU : vx_Zq Bundle.tN "UNASSIGNED_STACK" Bundle.steD A s s.heap) (hN : vx_Zq Bundle.tN "SUPPRESSED_SENTINEL" Bundle.listD A s s.heap) (hS : va_S A s.heap H locs) (hsize : ls.size = c.maxLocals)
    (d0 : decode cc pc = .ok (.new ik, 3)) (d3 : decode cc (pc + 3) = .ok (.dup, 1)) (d4 : decode cc (pc + 4) = .ok (.ldc_w is, 3)) (d7 : decode cc (pc + 7) = .ok (.invokespecial ic, 3)) (d10 : decode cc (pc + 10) = .ok (.athrow, 1))
    (hout : ∀ x ∈ c.exceptionTable.toList, covers x (pc + 10) = false)
    (hRframes : names.length + 3 < R.frames) (hRlocals : (rest.map fun v => v.category).sum + (13 * (names.length + 1) + 43) ≤ R.locals) (hRcells : cells + 1 ≤ R.cells) (hRslots : slots + 6 ≤ R.slots) (hlocks : meth.locks = false)
    (hx : ∀ t : State, s.vm.Alike t.vm → H.size ≤ t.heap.size → (∀ q : Nat, q < H.size → t.heap[q]? = H[q]?) → XC cls s t)
    (hf : ∀ z ∈ locs, free z.base) (hc : cells + 1 ≤ mc) (hs : slots + 6 ≤ ms) :
    W p l e R s m args below meth c H locs cells slots (vx_MQ below Qc XC args s mc ms free) (F0 m pc ls rest) := by
  intro T hT X
  have htr : e.platform.stackTraces = false := (show e.platform.stackTraces = l.stackTraces by rw [X.admits.platform]).trans hl
  have Y := vx_rebase X (R' := { frames := R.frames, locals := R.locals, cells := 1, slots := 6 }) (Nat.le_refl _) (Nat.le_refl _) hRcells hRslots
  obtain ⟨s', hA⟩ : ∃ z, z = (T.setVm s.vm).setFrames (.invoking m args :: below) := ⟨_, rfl⟩
  rw [← hA] at Y
  have hvm : s'.vm = s.vm := by rw [hA]; rfl
  have hhp : s'.heap = H := by rw [hA]; exact hT
  have hW0 : s.WarmedH s'.vm := by rw [hvm]; exact State.WarmedH.refl s
  have hat' : ∀ w ∈ vx_atS own ic cls names, w.before args s' = true := fun w hw => vx_ot_at hW0 hvm.symm (hgood w (List.mem_cons_of_mem _ (List.mem_cons_of_mem _ hw))) (hat w hw)
  have hk' : (Cond.classLink own ik cls).before args s' = true := vx_ot_at hW0 hvm.symm (hgood _ List.mem_cons_self) hk
  have hini' : (Cond.initialized cls).before args s' = true := vx_ot_at hW0 hvm.symm (hgood _ (List.mem_cons_of_mem _ List.mem_cons_self)) hini
  have hU' : vx_Zq Bundle.tN "UNASSIGNED_STACK" Bundle.steD A s' s'.heap := by rw [hhp]; exact vx_Zq.moved hW0.alike (hU.kept hS.2.1)
  have hN' : vx_Zq Bundle.tN "SUPPRESSED_SENTINEL" Bundle.listD A s' s'.heap := by rw [hhp]; exact vx_Zq.moved hW0.alike (hN.kept hS.2.1)
  have h : ∀ w ∈ Bundle.ownAtoms own ic cls names, w.before args s' = true := vx_own hat' (vx_isRefq hU'.1) (vx_isRefq hN'.1) hU'.2.word hN'.2.word
  have hown' : s'.vm.findClass own = some m.cls := by rw [hvm]; exact hown
  have hins : (Cond.instantiable cls 6).before args s' = true := h _ (by simp [Bundle.ownAtoms])
  obtain ⟨vm₁, cX, kX, hfX, hkX, -, -, X₁, st1⟩ := Y.newCold hexec (own := own) (C := cls) (index := ik) (n := 6) hown' hk' hins hini'
    (g := F0 m pc ls rest) rfl (by rw [hb]; exact d0) (Nat.le_refl _) (Nat.le_refl _)
  generalize hT1 : (T.setVm vm₁).pushCell { cls := cX, slots := kX.instanceTypes.map defaultValue, vm := .none } = T1 at X₁ st1
  have hcat : (Value.ref T.heap.size).category = 1 := rfl
  have hcellA : T1.heap[T.heap.size]? = some (freshCell cX kX) := by rw [← hT1]; exact State.heap_pushCell_size _ _
  have d3' : decode c.code (pc + 3) = .ok (.dup, 1) := by rw [hb]; exact d3
  have d4' : decode c.code (pc + 4) = .ok (.ldc_w is, 3) := by rw [hb]; exact d4
  have hstr' : vk_R own is text sa s' := vk_R.warm hW0 hstr
  obtain ⟨U, hsteps, hrun, hend, hW, hsame, ce, hce, hO⟩ := X₁.ctorThrowS hexec htr (own := own) (cls := cls) (names := names) (ic := ic) hown' hcls hnames h (fun x hx => nomatch hx) hfX hkX hcellA (by rw [hhp, hT]; exact Nat.le_refl _) (msg := .ref sa) rfl
    (g := { method := m, pc := pc + 7, locals := ls, stack := .ref sa :: .ref T.heap.size :: .ref T.heap.size :: rest, locked := none }) rfl hsize rfl rfl (rest := rest) rfl
    (by rw [hb]; exact d7) (by rw [hb]; exact d10) hout hRframes (by simp only [List.map_cons, List.sum_cons, hcat]; omega) hlocks
  obtain ⟨f1, f2⟩ := vx_frame hsame
  rw [hhp] at f1 f2
  have hWs : s.WarmedH U.vm := State.WarmedH.trans hW0 hW
  have hcl : s.vm.findClass cls = some ce.cls := by
    have h9 := hO.cls
    rw [hvm] at h9
    exact h9
  have hall : s.sameButNew ({ U with vm := s.vm } : State) locs mc ms := by
    subst hA
    obtain ⟨e1, e2⟩ := hsame
    rw [State.setFrames_setFrames] at e1
    have h2 : (T.setVm s.vm).sameButNew ({ U with vm := s.vm } : State) [] (0 + 1) (0 + 6) := ⟨e1, e2⟩
    have h3 := X.same.trans h2
    rw [List.append_nil] at h3
    exact h3.mono hc hs
  refine ⟨U, ?_, .threw T.heap.size, hrun, hend, Or.inr ⟨T.heap.size, rfl, cls, ce, locs, hx U hWs.alike f1 (fun q hq => f2 q hq (fun z hz => nomatch hz)), hce, hO.vm, hcl, hWs, hall, hf⟩⟩
  refine st1 _ ?_
  show Steps p.tables e below (T1.setTop { method := m, pc := pc + 3, locals := ls, stack := .ref T.heap.size :: rest, locked := none }) _
  jvm_step X₁.here [X₁.here.top, hexec, d3', Value.category]
  exact X₁.ldcStringW hexec (own := own) (text := text) (index := is) (a := sa) hown' hstr'.1 hstr'.2
    (g := { method := m, pc := pc + 4, locals := ls, stack := .ref T.heap.size :: .ref T.heap.size :: rest, locked := none }) rfl d4' _ hsteps
end Ends
section Bodies
variable {l : Launch}
theorem vx_ofW {y : MethodName} {ws ws' : List Cond} {rm : Room} {Pc : Array Value → State → Prop} {Qc : Array Value → State → Outcome → State → Prop} {XC : String → State → State → Prop} {mc ms : Nat} {free : Addr → Prop} {cc : ByteArray} {maxL : Nat} {ret : Option FieldType}
    (hy : plainName y.cls = true) (hw : ws = Cond.code y cc maxL ret :: ws')
    (body : ∀ p e s m args below meth c s₁, BodyLoose p l y (headSpec ws rm) cc maxL ret e s m args below meth c s₁ → c.maxLocals = maxL → (∀ x ∈ c.exceptionTable.toList, False) → Pc args s →
      W p l e (headSpec ws rm).room s m args below meth c s.heap [] 0 0 (vx_MQ below Qc XC args s mc ms free) (entryFrame m args maxL)) : vx_Met l y ws rm Pc Qc XC mc ms free := by
  refine MetFree.of_bodyS (code := cc) (maxLocals := maxL) (ret := ret) hy ?_ ?_
  · intro args s m h hn
    obtain ⟨meth, c, h1, h2, h3, h4, h5, h6, -, -⟩ := Cond.code_spec hn (atoms_spec (ws := ws) h _ (by rw [hw]; exact List.mem_cons_self))
    exact ⟨meth, c, h1, h2, h3, h4, h5, h6⟩
  · intro p e s m args below meth c s₁ B hml hP _
    have hh0 : s₁.heap = s.heap := by rw [B.state]; rfl
    have ht : ∀ x ∈ c.exceptionTable.toList, False := by
      obtain ⟨meth9, c9, h1, h2, -, -, -, -, h7, -⟩ := Cond.code_spec B.named (atoms_spec (ws := ws) B.pre _ (by rw [hw]; exact List.mem_cons_self))
      cases Option.some.inj (h1.symm.trans B.method)
      cases Option.some.inj (h2.symm.trans (Stand.of_body B).code)
      intro x hx
      rw [Array.isEmpty_iff.mp h7] at hx
      cases hx
    obtain ⟨t, a1, o, b1, b2, b3⟩ := body p e s m args below meth c s₁ B hml ht hP s₁ hh0 (Stand.of_body B)
    exact ⟨t, o, a1, b1, b2, b3⟩
/-- the table of a body with handlers -/
theorem vx_table {p : Program} {x y : MethodName} {S : Spec} {cc bytes : ByteArray} {maxL maxL' : Nat} {ret ret' : Option FieldType} {e : Env} {s s₁ : State} {m : MethodId} {args : Array Value} {below : List Frame} {meth : Method} {c : Code} {hh : List (Nat × Nat × Nat × Nat)}
    (B : BodyLoose p l y S cc maxL ret e s m args below meth c s₁) (h : (Cond.codeWith y bytes maxL' ret' hh).before args s = true) : c.exceptionTable.toList = tableOf hh := by
  obtain ⟨m9, meth9, c9, hn9, h1, h2, -, -, h6, -⟩ := Cond.codeWith_spec h
  cases Option.some.inj (hn9.symm.trans B.named)
  cases Option.some.inj (h1.symm.trans B.method)
  cases Option.some.inj (h2.symm.trans (Stand.of_body B).code)
  rw [← h6, table_eq]
end Bodies
end VXA
/-! ===== END ===== -/
/-! ===== BEGIN a static call of a method with an exception table ===== -/
section VXS
variable {p : Program} {l : Launch} {e : Env} {R : Room} {s : State} {m : MethodId} {args : Array Value} {below : List Frame} {meth : Method} {c : Code} {T : State} {H : Heap} {locs : List Loc} {cells slots : Nat}
abbrev vx_CSW (R : Room) (s : State) (args : Array Value) (own : String) (index : Nat) (y : MethodName) (bytes : ByteArray) (maxL : Nat) (ret : Option FieldType) (hh : List (Nat × Nat × Nat × Nat)) (ws : List Cond) (rm : Room) (mc ms n : Nat) : Prop :=
  (rm.cells = mc ∧ rm.slots = ms ∧ rm.frames + 1 ≤ R.frames ∧ 8 + (maxL + 11) + rm.locals ≤ R.locals ∧ (∀ w ∈ ws, ∀ (a' : Array Value) (U : State), s.WarmedH U.vm → w.before a' U = true) ∧ Cond.codeWith y bytes maxL ret hh ∈ ws) ∧
  (Cond.codeWith y bytes maxL ret hh).before args s = true ∧ (Cond.initialized y.cls).before args s = true ∧ (y.cls ≠ "java/lang/invoke/MethodHandle" ∧ y.cls ≠ "java/lang/invoke/VarHandle") ∧
  (∀ sig, parseMethodDescriptor y.desc = some sig → n = sig.parameters.length) ∧ (Cond.methodLink own index y).before args s = true ∧ (Cond.static y).before args s = true
theorem vx_cwSW {own : String} {index maxL mc ms : Nat} {y : MethodName} {bytes : ByteArray} {ret : Option FieldType} {hh : List (Nat × Nat × Nat × Nat)} {Ts ws ws' : List Cond} {rm : Room} (n : Nat) (ht : ∀ w ∈ Ts, w.before args s = true) (hT : GoodIn Ts (va_wsS own index y ws)) (hw : ws = Cond.codeWith y bytes maxL ret hh :: ws') (hrc : rm.cells = mc) (hrs : rm.slots = ms)
    (hd : y.cls ≠ "java/lang/invoke/MethodHandle" ∧ y.cls ≠ "java/lang/invoke/VarHandle" ∧ (parseMethodDescriptor y.desc).map (fun d => d.parameters.length) = some n) (hR : rm.frames + 1 ≤ R.frames ∧ 8 + (maxL + 11) + rm.locals ≤ R.locals) :
    vx_CSW R s args own index y bytes maxL ret hh ws rm mc ms n := by
  have ok : ∀ w ∈ va_wsS own index y ws, w.before args s = true := fun w h => ht w (hT w h).1
  have hG : GoodIn Ts ws := fun w h => hT w (by unfold va_wsS; exact List.mem_append_right _ h)
  have hc : Cond.codeWith y bytes maxL ret hh ∈ ws := by rw [hw]; exact List.mem_cons_self
  refine ⟨⟨hrc, hrs, hR.1, hR.2, pay_in ht hG, hc⟩, ht _ (hG _ hc).1, ok _ (by simp [va_wsS]), ⟨hd.1, hd.2.1⟩, fun sig h => ?_, ok _ (by simp [va_wsS]), ok _ (by simp [va_wsS])⟩
  have h2 := hd.2.2
  rw [h] at h2
  exact (Option.some.inj h2).symm
theorem vx_callSW (X : Stand p l e R s m args below meth c T locs cells slots) (hexec : p.tables.exec = Jvm.exec) {own : String} {index : Nat} {y : MethodName} {bytes : ByteArray} {maxL : Nat} {ret : Option FieldType} {hh : List (Nat × Nat × Nat × Nat)}
    (hown : s.vm.findClass own = some m.cls) (hlink : (Cond.methodLink own index y).before args s = true) (hstat : (Cond.static y).before args s = true) (hinit : (Cond.initialized y.cls).before args s = true)
    (hcode : (Cond.codeWith y bytes maxL ret hh).before args s = true) (hy : y.cls ≠ "java/lang/invoke/MethodHandle" ∧ y.cls ≠ "java/lang/invoke/VarHandle")
    {W9 : Nat} {Pre : Pt → Array Value → Prop} {Post : Pt → Array Value → Option Value → Pt → Prop} (hK : Back l R p e below s args y 3 W9 Pre Post)
    {g : JFrame} (hg : g.method = m) (hsize : g.locals.size = c.maxLocals) {argsL rest : List Value} (hlen : ∀ sig, parseMethodDescriptor y.desc = some sig → argsL.length = sig.parameters.length)
    (hstack : g.stack = argsL.reverse ++ rest) (hW : 2 * g.monitorRoom + (rest.map fun v => v.category).sum ≤ W9) (hdg : decode c.code g.pc = .ok (.invokestatic index, 3))
    (hpre : ∀ vm₁, s.WarmedH vm₁ → Pre ⟨T.setVm vm₁, locs, cells, slots⟩ argsL.toArray) :
    ∃ (v : Option Value) (vm₁ : Vm) (B : Pt), s.WarmedH vm₁ ∧ Stand p l e R s m args below meth c B.U B.locs B.cells B.slots ∧ Post ⟨T.setVm vm₁, locs, cells, slots⟩ argsL.toArray v B ∧
      ∀ target, Steps p.tables e below (B.U.setTop { g with pc := g.pc + 3, stack := v.toList ++ rest }) target → Steps p.tables e below (T.setTop g) target := by
  obtain ⟨mk, methM, cM, hnamed, hmethM, -, -, -, -, -, -, hsigM⟩ := Cond.codeWith_spec hcode
  have hstatic : methM.isStatic = true := Cond.static_spec hnamed hmethM hstat
  obtain ⟨kP, hkP, -⟩ := className_of_methodNamed hnamed
  have hinitP : kP.init = .initialized := Cond.initialized_spec (findClass_of_methodNamed hnamed) hkP hinit
  obtain ⟨vm₁, X₁, hstep₁⟩ := X.invokestatic hexec hown hlink hnamed hmethM hstatic hkP hinitP hy (g := g) hg (argsL := argsL) (rest := rest) (hlen _ hsigM) hstack hdg
  obtain ⟨v, B, X', hpost, hsteps⟩ := hK m meth c ⟨T.setVm vm₁, locs, cells, slots⟩ { g with stack := rest } (.invokestatic index) mk argsL.toArray X₁ hg hsize hdg hW (X₁.named hnamed) (hpre vm₁ X₁.warmed)
  exact ⟨v, vm₁, B, X₁.warmed, X', hpost, fun target h => hstep₁ _ fun acts => by rw [doInvoke_state]; exact hsteps.trans h⟩
theorem vx_runSW {y : MethodName} {bytes cc : ByteArray} {maxL nL mc ms n index : Nat} {ret : Option FieldType} {hh : List (Nat × Nat × Nat × Nat)} {ws : List Cond} {rm : Room} {Pc : Array Value → State → Prop} {Qc : Array Value → State → Outcome → State → Prop} {free : Addr → Prop} {Ts : List Cond} {own : String} {As rest : List Value} {g : JFrame}
    (S : CallFix p m c cc nL s args Ts own) (hM : Met l y ws rm Pc Qc mc ms free) (cw : vx_CSW R s args own index y bytes maxL ret hh ws rm mc ms n) (hp : PreS s H Pc As)
    (hg : g.method = m) (hn : As.length = n) (hsize : g.locals.size = nL) (hstack : g.stack = As.reverse ++ rest) (hW : 2 * g.monitorRoom + (rest.map fun v => v.category).sum ≤ 8) (hdg : decode cc g.pc = .ok (.invokestatic index, 3)) (hf : cells + mc ≤ R.cells ∧ slots + ms ≤ R.slots) :
    va_Run p l e R s m args below meth c H locs cells slots mc ms g rest (Qc As.toArray) (free) := by
  obtain ⟨⟨hrc, hrs, hfr, hlo, hws, hcw⟩, hcode, hini, hy, hlen, hl, hstt⟩ := cw
  have hK : Back l R p e below s args y 3 8 (PreOf R mc ms Pc) (PostOf Qc mc ms free) := va_backW (hh := hh) (bytes := bytes) (maxL := maxL) (ret := ret) hM hp.1 hrc hrs hfr hlo hws hcw (fun a' U hW => word_at hW (Or.inl (by first | rfl | simp [Cond.onTables, Cond.keeps, Cond.steady])) hini)
  obtain ⟨hx, hb, hml, ho, -⟩ := S
  intro T hT X
  obtain ⟨v, vm₁, ⟨U', l2, c2, s2⟩, hW₁, X', ⟨g', mk, t, L, e1, e2, hq, h1, hL, h2, h3⟩, st⟩ := vx_callSW X hx (hh := hh) (bytes := bytes) (maxL := maxL) (ret := ret) ho hl hstt hini hcode hy hK hg (hsize.trans hml.symm) (argsL := As) (rest := rest) (fun sig h => hn.trans (hlen sig h)) hstack hW (by rw [hb]; exact hdg)
    (fun vm₁ hW₁ => ⟨hf.1, hf.2, hp.2 (T.setVm vm₁) hT hW₁⟩)
  dsimp only [Pt.U, Pt.locs, Pt.cells, Pt.slots] at X' e1 e2 h1 h2 h3 st
  subst h1; subst h2; subst h3
  exact ⟨v, (T.setVm vm₁).calling g' mk As.toArray, t, U', L, hT, X', hL, e1, e2, hq, st⟩
/-- not caught here, past rows that name other classes: it goes on to the caller -/
theorem vx_outP {p : Program} {l : Launch} {e : Env} {R : Room} {s : State} {m : MethodId} {args : Array Value} {below : List Frame} {meth : Method} {c : Code} {H : Heap} {locs : List Loc} {cells slots : Nat} {free : Addr → Prop} {ls : Array Slot} {rest : List Value} {Qc : Array Value → State → Outcome → State → Prop} {XC : String → State → State → Prop}
    {pc : Nat} {own E : String} {ce : Cell} {q : Addr} {mc ms : Nat} (hown : s.vm.findClass own = some m.cls) (hlocks : meth.locks = false)
    (hpass : ∀ z ∈ c.exceptionTable.toList, covers z pc = false ∨ (z.catchType ≠ 0 ∧ ∃ nm : String, (Cond.classLink own z.catchType nm).before args s = true ∧ va_Nc E nm s)) (hcell : H[q]? = some ce) (hv : ce.vm = .none) (hcl : s.vm.findClass E = some ce.cls)
    (hx : ∀ t : State, t.heap = H → s.vm.Alike t.vm → XC E s t) (hf : ∀ z ∈ locs, free z.base) (hc : cells ≤ mc) (hs : slots ≤ ms) :
    vx_W p l e R s m args below meth c H locs cells slots (vx_MQ below Qc XC args s mc ms free) (F0 m pc ls rest) q := by
  intro T hT X
  have hpl : e.platform.magicAccessors = ({} : Platform).magicAccessors := by rw [X.admits.platform]
  obtain ⟨vm', hW', X', st⟩ := X.outThrough hlocks q (g := F0 m pc ls rest) rfl rfl rfl (cell := ce) (by rw [hT]; exact hcell) (by rw [hv]; rfl)
    (by obtain ⟨k9, h9, -⟩ := Vm.findClass_spec hcl; exact ⟨k9, h9⟩) (fun z hz => by
      rcases hpass z hz with h | ⟨hz0, nm, hl1, hn1⟩
      · exact Or.inl h
      · obtain ⟨c6, hc6, hcl6⟩ := Cond.classLink_spec hown hl1 e.platform hpl
        obtain ⟨a8, b8, h1, h2, h3⟩ := hn1
        cases Option.some.inj (h1.symm.trans hcl)
        cases Option.some.inj (h2.symm.trans hc6)
        exact Or.inr ⟨hz0, _, hcl6, h3⟩)
  obtain ⟨g₀, hfr⟩ := X'.frames_eq
  have hcell9 : ((T.setVm vm').setFrames (.throwing q :: below)).heap[q]? = some ce := by
    show T.heap[q]? = some ce
    rw [hT]; exact hcell
  have hend : Ended ((T.setVm vm').setFrames (.throwing q :: below)) below (.threw q) := State.frames_setFrames _ (State.cur_lt_of_frames hfr)
  refine ⟨(T.setVm vm').setFrames (.throwing q :: below), ?_, .threw q, X'.here.running, hend, Or.inr ⟨q, rfl, E, ce, locs, hx _ hT (X'.ends _).1.alike, hcell9, hv, hcl, (X'.ends _).1, (X'.ends _).2.mono hc hs, hf⟩⟩
  rw [X.pushThrowing_eq]
  exact st
/-- a thing of a world lies in the heap -/
theorem vx_lt {D : va_G} {cl : List vw_C} {ws : va_W} {H1 : Heap} (h : va_P D cl ws H1) {k : Nat} {q : Nat × va_E} (hk : ws[k]? = some q) : q.1 < H1.size := (h k q hk).lt
end VXS
/-! ===== END ===== -/
/-! ===== BEGIN methods with a table of their own: called by a name, returning or throwing ===== -/
section VXH
/-! vx_backW, vx_callVX, vx_callSX, vx_callVW, vx_runVW, vx_runVX, vx_runSX, vx_ofWH follow the same proofs as their sisters above (Free/Laws.lean, Shelf42/LK1.lean); vx_outP calls Shelf42/NT130.lean (outThrough). -/
section
variable {l : Launch} {R : Room} {p : Program} {e : Env} {below : List Frame} {s : State} {sargs : Array Value} {y : MethodName} {len W9 : Nat}
theorem vx_backW {ws : List Cond} {rm : Room} {Pc : Array Value → State → Prop} {Qc : Array Value → State → Outcome → State → Prop} {XC : String → State → State → Prop} {mc ms : Nat} {free : Addr → Prop} {bytes : ByteArray} {maxL : Nat} {ret : Option FieldType} {hh : List (Nat × Nat × Nat × Nat)}
    (hM : vx_Met l y ws rm Pc Qc XC mc ms free) (hblind : FrameBlind Pc) (hrc : rm.cells = mc) (hrs : rm.slots = ms)
    (hframes : rm.frames + 1 ≤ R.frames) (hlocals : W9 + (maxL + 11) + rm.locals ≤ R.locals)
    (hws : ∀ w ∈ ws, ∀ a' U, s.WarmedH U.vm → w.before a' U = true) (hcode : Cond.codeWith y bytes maxL ret hh ∈ ws) (hinit : ∀ a' U, s.WarmedH U.vm → (Cond.initialized y.cls).before a' U = true) :
    vx_Back l R p e below s sargs y len W9 (PreOf R mc ms Pc) (PostOf Qc mc ms free) (vx_Post XC mc ms free) := by
  intro m meth c A g ig mk a X hg hsize hdg hW hn hp
  have h1 : (headSpec ws rm).pre.before a A.U = true := atoms_intro fun w hw => hws w hw _ _ X.warmed
  have h2 : (Cond.codeWith y bytes maxL ret hh).before a A.U = true := hws _ hcode _ _ X.warmed
  have h3 : (Cond.initialized y.cls).before a A.U = true := hinit _ _ X.warmed
  have h4 : A.cells + (headSpec ws rm).room.cells ≤ R.cells := by rw [show (headSpec ws rm).room.cells = mc from hrc]; exact hp.1
  have h5 : A.slots + (headSpec ws rm).room.slots ≤ R.slots := by rw [show (headSpec ws rm).room.slots = ms from hrs]; exact hp.2.1
  have hPc : Pc a (A.U.calling g mk a) := hblind _ _ _ _ hp.2.2
  obtain ⟨U, Ls, c0, s0⟩ := A
  dsimp only [Pt.U, Pt.locs, Pt.cells, Pt.slots] at h1 h2 h3 h4 h5 X hn hPc ⊢
  obtain ⟨m9, methY, cY, hn9, hmY, hcY, -, hlY, -⟩ := Cond.codeWith_spec h2
  cases Option.some.inj (hn9.symm.trans hn)
  obtain ⟨kY, hkY, -⟩ := className_of_methodNamed hn
  have hinitY : kY.init = .initialized := Cond.initialized_spec (findClass_of_methodNamed hn) hkY h3
  have h : At U g.method c below := by rw [hg]; exact X.here
  have hlocals9 : W9 + (maxL + 11) + (headSpec ws rm).room.locals ≤ R.locals := hlocals
  have happ : (headSpec ws rm).appliesLoose y e.platform (U.calling g mk a) = true :=
    Spec.appliesLoose_calling (g := g) h hdg hn hkY hinitY
      (X.room_calling (g := g) (R' := (headSpec ws rm).room) hsize hmY hcY hframes (by rw [hlY]; omega) h4 h5) h1
  obtain ⟨mid, hmid⟩ := h.above
  have hfr : (U.setTop g).frames = (.java g :: mid) ++ below := by rw [State.frames_setTop' g h.top, hmid]; rfl
  obtain ⟨o, s₂, hsteps, -, hend, hq⟩ := Steps.callFree hM p X.admits X.cas X.clock (acts := []) hfr happ hPc trivial
  have hq' : vx_Q Qc XC mc ms free a (U.calling g mk a) o s₂ := hq
  rw [State.frames_setTop' g h.top] at hend
  obtain ⟨g₀, hg0⟩ := Option.isSome_iff_exists.mp h.top
  obtain ⟨r, hr⟩ := State.topJava?_eq_some.mp hg0
  have hr' : (({ U with heap := s₂.heap, slotsUsed := s₂.slotsUsed } : State).setVm s₂.vm).frames = .java g₀ :: r := hr
  rcases hq' with ⟨hqc, L, hfe, hL⟩ | ⟨q, rfl, E, ce, L, hx, hce, hcv, hcl, hW₂, hsm, hL⟩
  · obtain ⟨⟨v, rfl⟩, hW₂, e2, q2, q3, q4, q5, q6⟩ := id hfe
    have e3 : s₂ = ({ (U.calling g mk a).setFrames s₂.frames with heap := s₂.heap, slotsUsed := s₂.slotsUsed } : State).setVm s₂.vm := by
      have : s₂ = ({ s₂ with vm := (U.calling g mk a).vm } : State).setVm s₂.vm := rfl
      rw [e2] at this
      exact this
    obtain ⟨c₂, i₂, len₂, hc₂, hd₂, hf₂⟩ := hend
    have hW' : U.WarmedH s₂.vm := hW₂
    have hcc : c₂ = c := by
      have h1 : s₂.code? g.method = U.code? g.method := by
        rw [State.code?_eq, State.code?_eq, hW'.alike.method?]
      exact Option.some.inj (hc₂.symm.trans (h1.trans h.code))
    subst hcc
    have hlen : len₂ = len := by rw [hdg] at hd₂; cases hd₂; rfl
    subst hlen
    have hs₂ : s₂ = (({ U with heap := s₂.heap, slotsUsed := s₂.slotsUsed } : State).setVm s₂.vm).setTop { g with pc := g.pc + len₂, stack := v.toList ++ g.stack } := by
      refine e3.trans ?_
      rw [hf₂, State.calling_eq h.top, State.setFrames_setFrames, State.setTop_of_frames _ hr', hr]
      rfl
    have hsame : U.sameButNew ({ U with heap := s₂.heap, slotsUsed := s₂.slotsUsed } : State) L mc ms := by
      refine ⟨?_, q2, q3, q4, q5, q6⟩
      obtain ⟨t, ht, -⟩ := State.frames_cons hr
      show ({ U with heap := s₂.heap, slotsUsed := s₂.slotsUsed } : State) = { U.setFrames U.frames with heap := s₂.heap, slotsUsed := s₂.slotsUsed }
      rw [State.setFrames_self ht]
    subst hg
    refine Or.inl ⟨v, ⟨(({ U with heap := s₂.heap, slotsUsed := s₂.slotsUsed } : State).setVm s₂.vm), Ls ++ L, c0 + mc, s0 + ms⟩,
      ⟨X.admits, X.cas, X.clock, X.frames, X.room, X.hears, X.method, X.code, (X.here.setHeapUsed s₂.heap s₂.slotsUsed).setVm hW'.alike, X.tail, State.WarmedH.trans X.warmed hW', X.limits, X.bytes, X.same.trans (hsame.setVm s.vm)⟩,
      ⟨g, mk, s₂, L, rfl, rfl, hqc, rfl, hL, rfl, rfl⟩, ?_⟩
    show Steps p.tables e below _ ((({ U with heap := s₂.heap, slotsUsed := s₂.slotsUsed } : State).setVm s₂.vm).setTop { g with pc := g.pc + len₂, stack := v.toList ++ g.stack })
    rw [← hs₂]
    exact hsteps
  · obtain ⟨e2, q2, q3, q4, q5, q6⟩ := id hsm
    have e3 : s₂ = ({ (U.calling g mk a).setFrames s₂.frames with heap := s₂.heap, slotsUsed := s₂.slotsUsed } : State).setVm s₂.vm := by
      have : s₂ = ({ s₂ with vm := (U.calling g mk a).vm } : State).setVm s₂.vm := rfl
      rw [e2] at this
      exact this
    have hf₂ : s₂.frames = .throwing q :: .java g :: U.frames.tail := hend
    have hW' : U.WarmedH s₂.vm := hW₂
    have hs₂ : s₂ = ((({ U with heap := s₂.heap, slotsUsed := s₂.slotsUsed } : State).setVm s₂.vm).setTop g).pushFrame (.throwing q) := by
      refine e3.trans ?_
      rw [hf₂, State.calling_eq h.top, State.setFrames_setFrames, State.pushFrame, State.frames_setTop _ hr', State.setTop_of_frames _ hr', State.setFrames_setFrames, hr]
      rfl
    have hsame : U.sameButNew ({ U with heap := s₂.heap, slotsUsed := s₂.slotsUsed } : State) L mc ms := by
      refine ⟨?_, q2, q3, q4, q5, q6⟩
      obtain ⟨t, ht, -⟩ := State.frames_cons hr
      show ({ U with heap := s₂.heap, slotsUsed := s₂.slotsUsed } : State) = { U.setFrames U.frames with heap := s₂.heap, slotsUsed := s₂.slotsUsed }
      rw [State.setFrames_self ht]
    subst hg
    refine Or.inr ⟨q, ⟨(({ U with heap := s₂.heap, slotsUsed := s₂.slotsUsed } : State).setVm s₂.vm), Ls ++ L, c0 + mc, s0 + ms⟩,
      ⟨X.admits, X.cas, X.clock, X.frames, X.room, X.hears, X.method, X.code, (X.here.setHeapUsed s₂.heap s₂.slotsUsed).setVm hW'.alike, X.tail, State.WarmedH.trans X.warmed hW', X.limits, X.bytes, X.same.trans (hsame.setVm s.vm)⟩,
      ⟨g, mk, s₂, L, E, ce, rfl, rfl, hx, hce, hcv, hcl, rfl, hL, rfl, rfl⟩, ?_⟩
    show Steps p.tables e below _ (((({ U with heap := s₂.heap, slotsUsed := s₂.slotsUsed } : State).setVm s₂.vm).setTop g).pushFrame (.throwing q))
    rw [← hs₂]
    exact hsteps
end
variable {p : Program} {l : Launch} {e : Env} {R : Room} {s : State} {m : MethodId} {args : Array Value} {below : List Frame} {meth : Method} {c : Code} {T : State} {H : Heap} {locs : List Loc} {cells slots : Nat}
theorem vx_callVX (X : Stand p l e R s m args below meth c T locs cells slots) (hexec : p.tables.exec = Jvm.exec) {own C : String} {index : Nat} {y : MethodName} {bytes : ByteArray} {maxL : Nat} {ret : Option FieldType} {hh : List (Nat × Nat × Nat × Nat)}
    (hown : s.vm.findClass own = some m.cls) (hlink : (Cond.methodLink own index y).before args s = true) (hinst : (Cond.instanceMethod y).before args s = true) (hsel : (Cond.selects C y y).before args s = true)
    (hcode : (Cond.codeWith y bytes maxL ret hh).before args s = true) (hy : y.cls ≠ "java/lang/invoke/MethodHandle" ∧ y.cls ≠ "java/lang/invoke/VarHandle")
    {W9 : Nat} {Pre : Pt → Array Value → Prop} {Post : Pt → Array Value → Option Value → Pt → Prop} {PostX : Pt → Array Value → Addr → Pt → Prop} (hK : vx_Back l R p e below s args y 3 W9 Pre Post PostX)
    {b : Addr} {cellB : Cell} (hcell : T.heap[b]? = some cellB) (hobj : cellB.vm.isStatics = false) (hcls : s.vm.findClass C = some cellB.cls)
    {g : JFrame} (hg : g.method = m) (hsize : g.locals.size = c.maxLocals) {argsL rest : List Value} (hlen : ∀ sig, parseMethodDescriptor y.desc = some sig → argsL.length = sig.parameters.length)
    (hstack : g.stack = argsL.reverse ++ .ref b :: rest) (hW : 2 * g.monitorRoom + (rest.map fun v => v.category).sum ≤ W9) (hdg : decode c.code g.pc = .ok (.invokevirtual index, 3))
    (hpre : ∀ vm₁, s.WarmedH vm₁ → Pre ⟨T.setVm vm₁, locs, cells, slots⟩ (Value.ref b :: argsL).toArray) :
    (∃ (v : Option Value) (vm₁ : Vm) (B : Pt), s.WarmedH vm₁ ∧ Stand p l e R s m args below meth c B.U B.locs B.cells B.slots ∧ Post ⟨T.setVm vm₁, locs, cells, slots⟩ (Value.ref b :: argsL).toArray v B ∧
      ∀ target, Steps p.tables e below (B.U.setTop { g with pc := g.pc + 3, stack := v.toList ++ rest }) target → Steps p.tables e below (T.setTop g) target) ∨
    (∃ (q : Addr) (vm₁ : Vm) (B : Pt), s.WarmedH vm₁ ∧ Stand p l e R s m args below meth c B.U B.locs B.cells B.slots ∧ PostX ⟨T.setVm vm₁, locs, cells, slots⟩ (Value.ref b :: argsL).toArray q B ∧
      Steps p.tables e below (T.setTop g) ((B.U.setTop { g with stack := rest }).pushFrame (.throwing q))) := by
  obtain ⟨mk, methM, hnamed, hmethM, hstM, habM⟩ := Cond.instanceMethod_spec hinst
  obtain ⟨m8, methM', cM, hn8, hmethM', -, -, -, -, -, -, hsigM⟩ := Cond.codeWith_spec hcode
  cases Option.some.inj (hn8.symm.trans hnamed)
  cases hmethM.symm.trans hmethM'
  obtain ⟨c2, r2, m2, q1, q2, q3, q4, kP, hkP, hkPi⟩ := Cond.selects_spec hsel
  cases hcls.symm.trans q1
  cases (State.methodFound?_of_named hnamed hy).symm.trans q2
  cases hnamed.symm.trans q3
  have hselP : selectMethod e.platform s.vm cellB.cls mk = .method mk := by rw [Launch.admits_selectMethod X.admits]; exact q4
  obtain ⟨vm₁, X₁, hstep₁⟩ := X.invokevirtual hexec hown hlink hnamed hmethM hstM hkP hkPi hy (a := b) (cell := cellB) hcell
    (fun z h => by rw [h] at hobj; cases hobj) hselP hmethM habM hkP hkPi (g := g) hg (argsL := argsL) (rest := rest) (hlen _ hsigM) hstack hdg
  rcases hK m meth c ⟨T.setVm vm₁, locs, cells, slots⟩ { g with stack := rest } (.invokevirtual index) mk (Value.ref b :: argsL).toArray X₁ hg hsize hdg hW (X₁.named hnamed) (hpre vm₁ X₁.warmed) with ⟨v, B, X', hpost, hsteps⟩ | ⟨q, B, X', hpost, hsteps⟩
  · exact Or.inl ⟨v, vm₁, B, X₁.warmed, X', hpost, fun target h => hstep₁ _ fun acts => by rw [doInvoke_state]; exact hsteps.trans h⟩
  · exact Or.inr ⟨q, vm₁, B, X₁.warmed, X', hpost, hstep₁ _ fun acts => by rw [doInvoke_state]; exact hsteps⟩
theorem vx_callSX (X : Stand p l e R s m args below meth c T locs cells slots) (hexec : p.tables.exec = Jvm.exec) {own : String} {index : Nat} {y : MethodName} {bytes : ByteArray} {maxL : Nat} {ret : Option FieldType} {hh : List (Nat × Nat × Nat × Nat)}
    (hown : s.vm.findClass own = some m.cls) (hlink : (Cond.methodLink own index y).before args s = true) (hstat : (Cond.static y).before args s = true) (hinit : (Cond.initialized y.cls).before args s = true)
    (hcode : (Cond.codeWith y bytes maxL ret hh).before args s = true) (hy : y.cls ≠ "java/lang/invoke/MethodHandle" ∧ y.cls ≠ "java/lang/invoke/VarHandle")
    {W9 : Nat} {Pre : Pt → Array Value → Prop} {Post : Pt → Array Value → Option Value → Pt → Prop} {PostX : Pt → Array Value → Addr → Pt → Prop} (hK : vx_Back l R p e below s args y 3 W9 Pre Post PostX)
    {g : JFrame} (hg : g.method = m) (hsize : g.locals.size = c.maxLocals) {argsL rest : List Value} (hlen : ∀ sig, parseMethodDescriptor y.desc = some sig → argsL.length = sig.parameters.length)
    (hstack : g.stack = argsL.reverse ++ rest) (hW : 2 * g.monitorRoom + (rest.map fun v => v.category).sum ≤ W9) (hdg : decode c.code g.pc = .ok (.invokestatic index, 3))
    (hpre : ∀ vm₁, s.WarmedH vm₁ → Pre ⟨T.setVm vm₁, locs, cells, slots⟩ argsL.toArray) :
    (∃ (v : Option Value) (vm₁ : Vm) (B : Pt), s.WarmedH vm₁ ∧ Stand p l e R s m args below meth c B.U B.locs B.cells B.slots ∧ Post ⟨T.setVm vm₁, locs, cells, slots⟩ argsL.toArray v B ∧
      ∀ target, Steps p.tables e below (B.U.setTop { g with pc := g.pc + 3, stack := v.toList ++ rest }) target → Steps p.tables e below (T.setTop g) target) ∨
    (∃ (q : Addr) (vm₁ : Vm) (B : Pt), s.WarmedH vm₁ ∧ Stand p l e R s m args below meth c B.U B.locs B.cells B.slots ∧ PostX ⟨T.setVm vm₁, locs, cells, slots⟩ argsL.toArray q B ∧
      Steps p.tables e below (T.setTop g) ((B.U.setTop { g with stack := rest }).pushFrame (.throwing q))) := by
  obtain ⟨mk, methM, cM, hnamed, hmethM, -, -, -, -, -, -, hsigM⟩ := Cond.codeWith_spec hcode
  have hstatic : methM.isStatic = true := Cond.static_spec hnamed hmethM hstat
  obtain ⟨kP, hkP, -⟩ := className_of_methodNamed hnamed
  have hinitP : kP.init = .initialized := Cond.initialized_spec (findClass_of_methodNamed hnamed) hkP hinit
  obtain ⟨vm₁, X₁, hstep₁⟩ := X.invokestatic hexec hown hlink hnamed hmethM hstatic hkP hinitP hy (g := g) hg (argsL := argsL) (rest := rest) (hlen _ hsigM) hstack hdg
  rcases hK m meth c ⟨T.setVm vm₁, locs, cells, slots⟩ { g with stack := rest } (.invokestatic index) mk argsL.toArray X₁ hg hsize hdg hW (X₁.named hnamed) (hpre vm₁ X₁.warmed) with ⟨v, B, X', hpost, hsteps⟩ | ⟨q, B, X', hpost, hsteps⟩
  · exact Or.inl ⟨v, vm₁, B, X₁.warmed, X', hpost, fun target h => hstep₁ _ fun acts => by rw [doInvoke_state]; exact hsteps.trans h⟩
  · exact Or.inr ⟨q, vm₁, B, X₁.warmed, X', hpost, hstep₁ _ fun acts => by rw [doInvoke_state]; exact hsteps⟩
theorem vx_callVW (X : Stand p l e R s m args below meth c T locs cells slots) (hexec : p.tables.exec = Jvm.exec) {own C : String} {index : Nat} {y : MethodName} {bytes : ByteArray} {maxL : Nat} {ret : Option FieldType} {hh : List (Nat × Nat × Nat × Nat)}
    (hown : s.vm.findClass own = some m.cls) (hlink : (Cond.methodLink own index y).before args s = true) (hinst : (Cond.instanceMethod y).before args s = true) (hsel : (Cond.selects C y y).before args s = true)
    (hcode : (Cond.codeWith y bytes maxL ret hh).before args s = true) (hy : y.cls ≠ "java/lang/invoke/MethodHandle" ∧ y.cls ≠ "java/lang/invoke/VarHandle")
    {W9 : Nat} {Pre : Pt → Array Value → Prop} {Post : Pt → Array Value → Option Value → Pt → Prop} (hK : Back l R p e below s args y 3 W9 Pre Post)
    {b : Addr} {cellB : Cell} (hcell : T.heap[b]? = some cellB) (hobj : cellB.vm.isStatics = false) (hcls : s.vm.findClass C = some cellB.cls)
    {g : JFrame} (hg : g.method = m) (hsize : g.locals.size = c.maxLocals) {argsL rest : List Value} (hlen : ∀ sig, parseMethodDescriptor y.desc = some sig → argsL.length = sig.parameters.length)
    (hstack : g.stack = argsL.reverse ++ .ref b :: rest) (hW : 2 * g.monitorRoom + (rest.map fun v => v.category).sum ≤ W9) (hdg : decode c.code g.pc = .ok (.invokevirtual index, 3))
    (hpre : ∀ vm₁, s.WarmedH vm₁ → Pre ⟨T.setVm vm₁, locs, cells, slots⟩ (Value.ref b :: argsL).toArray) :
    ∃ (v : Option Value) (vm₁ : Vm) (B : Pt), s.WarmedH vm₁ ∧ Stand p l e R s m args below meth c B.U B.locs B.cells B.slots ∧ Post ⟨T.setVm vm₁, locs, cells, slots⟩ (Value.ref b :: argsL).toArray v B ∧
      ∀ target, Steps p.tables e below (B.U.setTop { g with pc := g.pc + 3, stack := v.toList ++ rest }) target → Steps p.tables e below (T.setTop g) target := by
  obtain ⟨mk, methM, hnamed, hmethM, hstM, habM⟩ := Cond.instanceMethod_spec hinst
  obtain ⟨m8, methM', cM, hn8, hmethM', -, -, -, -, -, -, hsigM⟩ := Cond.codeWith_spec hcode
  cases Option.some.inj (hn8.symm.trans hnamed)
  cases hmethM.symm.trans hmethM'
  obtain ⟨c2, r2, m2, q1, q2, q3, q4, kP, hkP, hkPi⟩ := Cond.selects_spec hsel
  cases hcls.symm.trans q1
  cases (State.methodFound?_of_named hnamed hy).symm.trans q2
  cases hnamed.symm.trans q3
  have hselP : selectMethod e.platform s.vm cellB.cls mk = .method mk := by rw [Launch.admits_selectMethod X.admits]; exact q4
  obtain ⟨vm₁, X₁, hstep₁⟩ := X.invokevirtual hexec hown hlink hnamed hmethM hstM hkP hkPi hy (a := b) (cell := cellB) hcell
    (fun z h => by rw [h] at hobj; cases hobj) hselP hmethM habM hkP hkPi (g := g) hg (argsL := argsL) (rest := rest) (hlen _ hsigM) hstack hdg
  obtain ⟨v, B, X', hpost, hsteps⟩ := hK m meth c ⟨T.setVm vm₁, locs, cells, slots⟩ { g with stack := rest } (.invokevirtual index) mk (Value.ref b :: argsL).toArray X₁ hg hsize hdg hW (X₁.named hnamed) (hpre vm₁ X₁.warmed)
  exact ⟨v, vm₁, B, X₁.warmed, X', hpost, fun target h => hstep₁ _ fun acts => by rw [doInvoke_state]; exact hsteps.trans h⟩
abbrev vx_CVW (R : Room) (s : State) (args : Array Value) (own C : String) (index : Nat) (y : MethodName) (bytes : ByteArray) (maxL : Nat) (ret : Option FieldType) (hh : List (Nat × Nat × Nat × Nat)) (ws : List Cond) (rm : Room) (mc ms n : Nat) : Prop :=
  (rm.cells = mc ∧ rm.slots = ms ∧ rm.frames + 1 ≤ R.frames ∧ 8 + (maxL + 11) + rm.locals ≤ R.locals ∧ (∀ w ∈ ws, ∀ (a' : Array Value) (U : State), s.WarmedH U.vm → w.before a' U = true) ∧ Cond.codeWith y bytes maxL ret hh ∈ ws) ∧
  (Cond.codeWith y bytes maxL ret hh).before args s = true ∧ (Cond.initialized y.cls).before args s = true ∧ (y.cls ≠ "java/lang/invoke/MethodHandle" ∧ y.cls ≠ "java/lang/invoke/VarHandle") ∧
  (∀ sig, parseMethodDescriptor y.desc = some sig → n = sig.parameters.length) ∧ (Cond.methodLink own index y).before args s = true ∧ (Cond.instanceMethod y).before args s = true ∧ (Cond.selects C y y).before args s = true
theorem vx_cwVW {own C : String} {index maxL mc ms : Nat} {y : MethodName} {bytes : ByteArray} {ret : Option FieldType} {hh : List (Nat × Nat × Nat × Nat)} {Ts ws ws' : List Cond} {rm : Room} (n : Nat) (ht : ∀ w ∈ Ts, w.before args s = true) (hT : GoodIn Ts (wsV own index C y ws)) (hw : ws = Cond.codeWith y bytes maxL ret hh :: ws') (hrc : rm.cells = mc) (hrs : rm.slots = ms)
    (hd : y.cls = C ∧ y.cls ≠ "java/lang/invoke/MethodHandle" ∧ y.cls ≠ "java/lang/invoke/VarHandle" ∧ (parseMethodDescriptor y.desc).map (fun d => d.parameters.length) = some n) (hR : rm.frames + 1 ≤ R.frames ∧ 8 + (maxL + 11) + rm.locals ≤ R.locals) :
    vx_CVW R s args own C index y bytes maxL ret hh ws rm mc ms n := by
  obtain ⟨hC, hd⟩ := hd
  subst hC
  have ok : ∀ w ∈ wsV own index y.cls y ws, w.before args s = true := fun w h => ht w (hT w h).1
  have hG : GoodIn Ts ws := fun w h => hT w (by unfold wsV; exact List.mem_append_right _ h)
  have hc : Cond.codeWith y bytes maxL ret hh ∈ ws := by rw [hw]; exact List.mem_cons_self
  refine ⟨⟨hrc, hrs, hR.1, hR.2, pay_in ht hG, hc⟩, ht _ (hG _ hc).1, ok _ (by simp [wsV]), ⟨hd.1, hd.2.1⟩, fun sig h => ?_, ok _ (by simp [wsV]), ok _ (by simp [wsV]), ok _ (by simp [wsV])⟩
  have h2 := hd.2.2
  rw [h] at h2
  exact (Option.some.inj h2).symm
theorem vx_runVW {y : MethodName} {bytes cc : ByteArray} {maxL nL mc ms n index : Nat} {ret : Option FieldType} {hh : List (Nat × Nat × Nat × Nat)} {ws : List Cond} {rm : Room} {Pc : Array Value → State → Prop} {Qc : Array Value → State → Outcome → State → Prop} {free : Addr → Prop} {Ts : List Cond} {own C : String} {b : Addr} {As rest : List Value} {g : JFrame}
    (S : CallFix p m c cc nL s args Ts own) (hM : Met l y ws rm Pc Qc mc ms free) (cw : vx_CVW R s args own C index y bytes maxL ret hh ws rm mc ms n) (hp : PreV s H C b Pc As)
    (hg : g.method = m) (hn : As.length = n) (hsize : g.locals.size = nL) (hstack : g.stack = As.reverse ++ .ref b :: rest) (hW : 2 * g.monitorRoom + (rest.map fun v => v.category).sum ≤ 8) (hdg : decode cc g.pc = .ok (.invokevirtual index, 3)) (hf : cells + mc ≤ R.cells ∧ slots + ms ≤ R.slots) :
    va_Run p l e R s m args below meth c H locs cells slots mc ms g rest (Qc (Value.ref b :: As).toArray) free := by
  obtain ⟨⟨hrc, hrs, hfr, hlo, hws, hcw⟩, hcode, hini, hy, hlen, hl, hin, hse⟩ := cw
  have hK : Back l R p e below s args y 3 8 (PreOf R mc ms Pc) (PostOf Qc mc ms free) := va_backW (hh := hh) (bytes := bytes) (maxL := maxL) (ret := ret) hM hp.1 hrc hrs hfr hlo hws hcw (fun a' U hW => word_at hW (Or.inl (by first | rfl | simp [Cond.onTables, Cond.keeps, Cond.steady])) hini)
  obtain ⟨hx, hb, hml, ho, -⟩ := S
  obtain ⟨-, ⟨cellB, hcB, hoB, hclB⟩, hPc⟩ := hp
  intro T hT X
  obtain ⟨v, vm₁, ⟨U', l2, c2, s2⟩, hW₁, X', ⟨g', mk, t, L, e1, e2, hq, h1, hL, h2, h3⟩, st⟩ := vx_callVW X hx (C := C) (hh := hh) (bytes := bytes) (maxL := maxL) (ret := ret) ho hl hin hse hcode hy hK (by rw [hT]; exact hcB) hoB hclB hg (hsize.trans hml.symm) (argsL := As) (rest := rest) (fun sig h => hn.trans (hlen sig h)) hstack hW (by rw [hb]; exact hdg)
    (fun vm₁ hW₁ => ⟨hf.1, hf.2, hPc (T.setVm vm₁) hT hW₁⟩)
  dsimp only [Pt.U, Pt.locs, Pt.cells, Pt.slots] at X' e1 e2 h1 h2 h3 st
  subst h1; subst h2; subst h3
  exact ⟨v, (T.setVm vm₁).calling g' mk (Value.ref b :: As).toArray, t, U', L, hT, X', hL, e1, e2, hq, st⟩
section
variable {y : MethodName} {bytes cc : ByteArray} {maxL nL mc ms n index : Nat} {ret : Option FieldType} {ws : List Cond} {rm : Room} {Pc : Array Value → State → Prop} {Qc : Array Value → State → Outcome → State → Prop} {XC : String → State → State → Prop} {free : Addr → Prop} {Ts : List Cond} {own C : String} {b : Addr} {As rest : List Value} {g : JFrame}
theorem vx_runVX {hh : List (Nat × Nat × Nat × Nat)} (S : CallFix p m c cc nL s args Ts own) (hM : vx_Met l y ws rm Pc Qc XC mc ms free) (cw : vx_CVW R s args own C index y bytes maxL ret hh ws rm mc ms n) (hp : PreV s H C b Pc As)
    (hg : g.method = m) (hn : As.length = n) (hsize : g.locals.size = nL) (hstack : g.stack = As.reverse ++ .ref b :: rest) (hW : 2 * g.monitorRoom + (rest.map fun v => v.category).sum ≤ 8) (hdg : decode cc g.pc = .ok (.invokevirtual index, 3)) (hf : cells + mc ≤ R.cells ∧ slots + ms ≤ R.slots) :
    vx_Run p l e R s m args below meth c H locs cells slots mc ms g rest (Qc (Value.ref b :: As).toArray) XC free := by
  obtain ⟨⟨hrc, hrs, hfr, hlo, hws, hcw⟩, hcode, hini, hy, hlen, hl, hin, hse⟩ := cw
  have hK : vx_Back l R p e below s args y 3 8 (PreOf R mc ms Pc) (PostOf Qc mc ms free) (vx_Post XC mc ms free) := vx_backW (hh := hh) (bytes := bytes) (maxL := maxL) (ret := ret) hM hp.1 hrc hrs hfr hlo hws hcw (fun a' U hW => word_at hW (Or.inl (by first | rfl | simp [Cond.onTables, Cond.keeps, Cond.steady])) hini)
  obtain ⟨hx, hb, hml, ho, -⟩ := S
  obtain ⟨-, ⟨cellB, hcB, hoB, hclB⟩, hPc⟩ := hp
  intro T hT X
  rcases vx_callVX X hx (C := C) (hh := hh) (bytes := bytes) (maxL := maxL) (ret := ret) ho hl hin hse hcode hy hK (by rw [hT]; exact hcB) hoB hclB hg (hsize.trans hml.symm) (argsL := As) (rest := rest) (fun sig h => hn.trans (hlen sig h)) hstack hW (by rw [hb]; exact hdg)
    (fun vm₁ hW₁ => ⟨hf.1, hf.2, hPc (T.setVm vm₁) hT hW₁⟩) with ⟨v, vm₁, ⟨U', l2, c2, s2⟩, hW₁, X', ⟨g', mk, t, L, e1, e2, hq, h1, hL, h2, h3⟩, st⟩ | ⟨q, vm₁, ⟨U', l2, c2, s2⟩, hW₁, X', ⟨g', mk, t, L, E, ce, e1, e2, hq, hce, hcv, hcl, h1, hL, h2, h3⟩, st⟩
  · dsimp only [Pt.U, Pt.locs, Pt.cells, Pt.slots] at X' e1 e2 h1 h2 h3 st
    subst h1; subst h2; subst h3
    exact Or.inl ⟨v, (T.setVm vm₁).calling g' mk (Value.ref b :: As).toArray, t, U', L, hT, X', hL, e1, e2, hq, st⟩
  · dsimp only [Pt.U, Pt.locs, Pt.cells, Pt.slots] at X' e1 e2 h1 h2 h3 st hcl
    subst h1; subst h2; subst h3
    exact Or.inr ⟨q, (T.setVm vm₁).calling g' mk (Value.ref b :: As).toArray, t, U', L, E, ce, hT, X', hL, e1, e2, hq, hce, hcv, vx_cls hW₁ hcl, st⟩
theorem vx_runSX {hh : List (Nat × Nat × Nat × Nat)} (S : CallFix p m c cc nL s args Ts own) (hM : vx_Met l y ws rm Pc Qc XC mc ms free) (cw : vx_CSW R s args own index y bytes maxL ret hh ws rm mc ms n) (hp : PreS s H Pc As)
    (hg : g.method = m) (hn : As.length = n) (hsize : g.locals.size = nL) (hstack : g.stack = As.reverse ++ rest) (hW : 2 * g.monitorRoom + (rest.map fun v => v.category).sum ≤ 8) (hdg : decode cc g.pc = .ok (.invokestatic index, 3)) (hf : cells + mc ≤ R.cells ∧ slots + ms ≤ R.slots) :
    vx_Run p l e R s m args below meth c H locs cells slots mc ms g rest (Qc As.toArray) XC free := by
  obtain ⟨⟨hrc, hrs, hfr, hlo, hws, hcw⟩, hcode, hini, hy, hlen, hl, hstt⟩ := cw
  have hK : vx_Back l R p e below s args y 3 8 (PreOf R mc ms Pc) (PostOf Qc mc ms free) (vx_Post XC mc ms free) := vx_backW (hh := hh) (bytes := bytes) (maxL := maxL) (ret := ret) hM hp.1 hrc hrs hfr hlo hws hcw (fun a' U hW => word_at hW (Or.inl (by first | rfl | simp [Cond.onTables, Cond.keeps, Cond.steady])) hini)
  obtain ⟨hx, hb, hml, ho, -⟩ := S
  intro T hT X
  rcases vx_callSX X hx (hh := hh) (bytes := bytes) (maxL := maxL) (ret := ret) ho hl hstt hini hcode hy hK hg (hsize.trans hml.symm) (argsL := As) (rest := rest) (fun sig h => hn.trans (hlen sig h)) hstack hW (by rw [hb]; exact hdg)
    (fun vm₁ hW₁ => ⟨hf.1, hf.2, hp.2 (T.setVm vm₁) hT hW₁⟩) with ⟨v, vm₁, ⟨U', l2, c2, s2⟩, hW₁, X', ⟨g', mk, t, L, e1, e2, hq, h1, hL, h2, h3⟩, st⟩ | ⟨q, vm₁, ⟨U', l2, c2, s2⟩, hW₁, X', ⟨g', mk, t, L, E, ce, e1, e2, hq, hce, hcv, hcl, h1, hL, h2, h3⟩, st⟩
  · dsimp only [Pt.U, Pt.locs, Pt.cells, Pt.slots] at X' e1 e2 h1 h2 h3 st
    subst h1; subst h2; subst h3
    exact Or.inl ⟨v, (T.setVm vm₁).calling g' mk As.toArray, t, U', L, hT, X', hL, e1, e2, hq, st⟩
  · dsimp only [Pt.U, Pt.locs, Pt.cells, Pt.slots] at X' e1 e2 h1 h2 h3 st hcl
    subst h1; subst h2; subst h3
    exact Or.inr ⟨q, (T.setVm vm₁).calling g' mk As.toArray, t, U', L, E, ce, hT, X', hL, e1, e2, hq, hce, hcv, vx_cls hW₁ hcl, st⟩
end
end VXH
theorem vx_ofWH {l : Launch} {y : MethodName} {ws ws' : List Cond} {rm : Room} {Pc : Array Value → State → Prop} {Qc : Array Value → State → Outcome → State → Prop} {XC : String → State → State → Prop} {mc ms : Nat} {free : Addr → Prop} {cc : ByteArray} {maxL : Nat} {ret : Option FieldType} {hh : List (Nat × Nat × Nat × Nat)}
    (hy : plainName y.cls = true) (hw : ws = Cond.codeWith y cc maxL ret hh :: ws')
    (body : ∀ p e s m args below meth c s₁, BodyLoose p l y (headSpec ws rm) cc maxL ret e s m args below meth c s₁ → c.maxLocals = maxL → Pc args s →
      W p l e (headSpec ws rm).room s m args below meth c s.heap [] 0 0 (vx_MQ below Qc XC args s mc ms free) (entryFrame m args maxL)) : vx_Met l y ws rm Pc Qc XC mc ms free := by
  refine MetFree.of_bodyS (code := cc) (maxLocals := maxL) (ret := ret) hy ?_ ?_
  · intro args s m h hn
    obtain ⟨m9, meth, c, hn9, h1, h2, h3, h4, -, h5, h6, -⟩ := Cond.codeWith_spec (atoms_spec (ws := ws) h _ (by rw [hw]; exact List.mem_cons_self))
    cases hn.symm.trans hn9
    exact ⟨meth, c, h1, h2, h3, h4, h5, h6⟩
  · intro p e s m args below meth c s₁ B hml hP _
    have hh0 : s₁.heap = s.heap := by rw [B.state]; rfl
    obtain ⟨t, a1, o, b1, b2, b3⟩ := body p e s m args below meth c s₁ B hml hP s₁ hh0 (Stand.of_body B)
    exact ⟨t, o, a1, b1, b2, b3⟩
/-! ===== END ===== -/
end
section
/-! ===== BEGIN printed: names, fields, word lists, decode rows ===== -/
def RX0 : String := "CoatHooks$Rack"
def TX0 : u_T := fun k => match k with
  | 0 => ("CoatHooks$Rack", "held", "[I", true)
  | 1 => ("CoatHooks$Rack", "weights", "[I", true)
  | 2 => ("CoatHooks$Rack", "size", "I", false)
  | _ => ("CoatHooks$Rack", "manner", "I", false)
def tyX0 : Nat → FieldType := fun k => match k with
  | 0 => .array .int
  | 1 => .array .int
  | 2 => .int
  | _ => .int
abbrev wsX00 : List Cond := u_ws RX0 TX0 4
theorem nmX0 : ∀ a, a < 4 → ∀ b, b < 4 → a ≠ b → (TX0 a).2.1 ≠ (TX0 b).2.1 := by decide +kernel
theorem tyX0_ok : ∀ k, k < 4 → parseFieldDescriptor (TX0 k).2.2.1 = some (tyX0 k) := by decide +kernel
abbrev cX0_init : ByteArray := prog_2_method_1_code
def yX0_init : MethodName := ⟨RX0, "<init>", "()V"⟩
abbrev cX0_clear : ByteArray := prog_2_method_2_code
def yX0_clear : MethodName := ⟨RX0, "clear", "(II)V"⟩
abbrev cX0_leaveTicket : ByteArray := prog_2_method_3_code
def yX0_leaveTicket : MethodName := ⟨RX0, "leaveTicket", "(I)V"⟩
abbrev cX0_put : ByteArray := prog_2_method_4_code
def yX0_put : MethodName := ⟨RX0, "put", "(III)V"⟩
abbrev cX0_heldOn : ByteArray := prog_2_method_5_code
def yX0_heldOn : MethodName := ⟨RX0, "heldOn", "(I)I"⟩
abbrev cX0_hookCount : ByteArray := prog_2_method_6_code
def yX0_hookCount : MethodName := ⟨RX0, "hookCount", "()I"⟩
abbrev cX0_usherWay : ByteArray := prog_2_method_7_code
def yX0_usherWay : MethodName := ⟨RX0, "usherWay", "()I"⟩
abbrev cX0_stateOn : ByteArray := prog_2_method_8_code
def yX0_stateOn : MethodName := ⟨RX0, "stateOn", "(I)I"⟩
abbrev cX0_coatOn : ByteArray := prog_2_method_9_code
def yX0_coatOn : MethodName := ⟨RX0, "coatOn", "(I)I"⟩
abbrev cX0_weightOn : ByteArray := prog_2_method_10_code
def yX0_weightOn : MethodName := ⟨RX0, "weightOn", "(I)I"⟩
abbrev cX0_countInState : ByteArray := prog_2_method_11_code
def yX0_countInState : MethodName := ⟨RX0, "countInState", "(I)I"⟩
abbrev cX0_weightOfAll : ByteArray := prog_2_method_12_code
def yX0_weightOfAll : MethodName := ⟨RX0, "weightOfAll", "()I"⟩
abbrev cX0_hookOfHeaviest : ByteArray := prog_2_method_13_code
def yX0_hookOfHeaviest : MethodName := ⟨RX0, "hookOfHeaviest", "()I"⟩
abbrev cX0_hookInStep : ByteArray := prog_2_method_14_code
def yX0_hookInStep : MethodName := ⟨RX0, "hookInStep", "(II)I"⟩
abbrev cX0_countLooks : ByteArray := prog_2_method_15_code
def yX0_countLooks : MethodName := ⟨RX0, "countLooks", "(I)I"⟩
abbrev cX0_whereFound : ByteArray := prog_2_method_16_code
def yX0_whereFound : MethodName := ⟨RX0, "whereFound", "(I)I"⟩
abbrev cX0_hangs : ByteArray := prog_2_method_17_code
def yX0_hangs : MethodName := ⟨RX0, "hangs", "(I)Z"⟩
abbrev cX0_placeOf : ByteArray := prog_2_method_18_code
def yX0_placeOf : MethodName := ⟨RX0, "placeOf", "(I)I"⟩
abbrev cX0_openHook : ByteArray := prog_2_method_19_code
def yX0_openHook : MethodName := ⟨RX0, "openHook", "(I)I"⟩
abbrev cX0_looksForAll : ByteArray := prog_2_method_20_code
def yX0_looksForAll : MethodName := ⟨RX0, "looksForAll", "()I"⟩
abbrev cX0_coatWithMostLooks : ByteArray := prog_2_method_21_code
def yX0_coatWithMostLooks : MethodName := ⟨RX0, "coatWithMostLooks", "()I"⟩
abbrev cX0_behind : ByteArray := prog_2_method_22_code
def yX0_behind : MethodName := ⟨RX0, "behind", "(I)I"⟩
abbrev cX0_before : ByteArray := prog_2_method_23_code
def yX0_before : MethodName := ⟨RX0, "before", "(I)I"⟩
abbrev cX0_freeAll : ByteArray := prog_2_method_24_code
def yX0_freeAll : MethodName := ⟨RX0, "freeAll", "()I"⟩
abbrev cX0_freeSweptTickets : ByteArray := prog_2_method_25_code
def yX0_freeSweptTickets : MethodName := ⟨RX0, "freeSweptTickets", "()I"⟩
abbrev cX0_rowLength : ByteArray := prog_2_method_26_code
def yX0_rowLength : MethodName := ⟨RX0, "rowLength", "(I)I"⟩
abbrev cX0_rowCount : ByteArray := prog_2_method_27_code
def yX0_rowCount : MethodName := ⟨RX0, "rowCount", "()I"⟩
abbrev cX0_longestRowLength : ByteArray := prog_2_method_28_code
def yX0_longestRowLength : MethodName := ⟨RX0, "longestRowLength", "()I"⟩
def RX1 : String := "CoatHooks"
def TX1 : u_T := fun k => match k with
  | 0 => ("CoatHooks", "rack", "LCoatHooks$Rack;", true)
  | _ => ("CoatHooks", "trial", "LCoatHooks$Rack;", true)
def tyX1 : Nat → FieldType := fun k => match k with
  | 0 => .object "CoatHooks$Rack"
  | _ => .object "CoatHooks$Rack"
abbrev wsX10 : List Cond := u_ws RX1 TX1 2
theorem nmX1 : ∀ a, a < 2 → ∀ b, b < 2 → a ≠ b → (TX1 a).2.1 ≠ (TX1 b).2.1 := by decide +kernel
theorem tyX1_ok : ∀ k, k < 2 → parseFieldDescriptor (TX1 k).2.2.1 = some (tyX1 k) := by decide +kernel
abbrev cX1_init : ByteArray := prog_1_method_1_code
def yX1_init : MethodName := ⟨RX1, "<init>", "()V"⟩
abbrev cX1_hang : ByteArray := prog_1_method_2_code
def yX1_hang : MethodName := ⟨RX1, "hang", "(II)I"⟩
abbrev cX1_take : ByteArray := prog_1_method_3_code
def yX1_take : MethodName := ⟨RX1, "take", "(I)I"⟩
abbrev cX1_rehang : ByteArray := prog_1_method_4_code
def yX1_rehang : MethodName := ⟨RX1, "rehang", "(II)I"⟩
abbrev cX1_sweep : ByteArray := prog_1_method_5_code
def yX1_sweep : MethodName := ⟨RX1, "sweep", "()I"⟩
abbrev cX1_hooks : ByteArray := prog_1_method_6_code
def yX1_hooks : MethodName := ⟨RX1, "hooks", "()I"⟩
abbrev cX1_way : ByteArray := prog_1_method_7_code
def yX1_way : MethodName := ⟨RX1, "way", "()I"⟩
abbrev cX1_coats : ByteArray := prog_1_method_8_code
def yX1_coats : MethodName := ⟨RX1, "coats", "()I"⟩
abbrev cX1_tickets : ByteArray := prog_1_method_9_code
def yX1_tickets : MethodName := ⟨RX1, "tickets", "()I"⟩
abbrev cX1_stateOf : ByteArray := prog_1_method_10_code
def yX1_stateOf : MethodName := ⟨RX1, "stateOf", "(I)I"⟩
abbrev cX1_coatAt : ByteArray := prog_1_method_11_code
def yX1_coatAt : MethodName := ⟨RX1, "coatAt", "(I)I"⟩
abbrev cX1_weightAt : ByteArray := prog_1_method_12_code
def yX1_weightAt : MethodName := ⟨RX1, "weightAt", "(I)I"⟩
abbrev cX1_weight : ByteArray := prog_1_method_13_code
def yX1_weight : MethodName := ⟨RX1, "weight", "()I"⟩
abbrev cX1_heaviestAt : ByteArray := prog_1_method_14_code
def yX1_heaviestAt : MethodName := ⟨RX1, "heaviestAt", "()I"⟩
abbrev cX1_find : ByteArray := prog_1_method_15_code
def yX1_find : MethodName := ⟨RX1, "find", "(I)I"⟩
abbrev cX1_looksFor : ByteArray := prog_1_method_16_code
def yX1_looksFor : MethodName := ⟨RX1, "looksFor", "(I)I"⟩
abbrev cX1_placeFor : ByteArray := prog_1_method_17_code
def yX1_placeFor : MethodName := ⟨RX1, "placeFor", "(I)I"⟩
abbrev cX1_lookedAt : ByteArray := prog_1_method_18_code
def yX1_lookedAt : MethodName := ⟨RX1, "lookedAt", "(II)I"⟩
abbrev cX1_allLooks : ByteArray := prog_1_method_19_code
def yX1_allLooks : MethodName := ⟨RX1, "allLooks", "()I"⟩
abbrev cX1_farthest : ByteArray := prog_1_method_20_code
def yX1_farthest : MethodName := ⟨RX1, "farthest", "()I"⟩
abbrev cX1_rows : ByteArray := prog_1_method_21_code
def yX1_rows : MethodName := ⟨RX1, "rows", "()I"⟩
abbrev cX1_longestRow : ByteArray := prog_1_method_22_code
def yX1_longestRow : MethodName := ⟨RX1, "longestRow", "()I"⟩
abbrev cX1_rowAt : ByteArray := prog_1_method_23_code
def yX1_rowAt : MethodName := ⟨RX1, "rowAt", "(I)I"⟩
abbrev cX1_looksWith : ByteArray := prog_1_method_24_code
def yX1_looksWith : MethodName := ⟨RX1, "looksWith", "(II)I"⟩
abbrev cX1_bestWay : ByteArray := prog_1_method_25_code
def yX1_bestWay : MethodName := ⟨RX1, "bestWay", "()I"⟩
abbrev cX1_hooksWanted : ByteArray := prog_1_method_26_code
def yX1_hooksWanted : MethodName := ⟨RX1, "hooksWanted", "(I)I"⟩
abbrev cX1_meanLooks : ByteArray := prog_1_method_27_code
def yX1_meanLooks : MethodName := ⟨RX1, "meanLooks", "()D"⟩
abbrev cX1_digest : ByteArray := prog_1_method_28_code
def yX1_digest : MethodName := ⟨RX1, "digest", "()J"⟩
abbrev cX1_demandNumber : ByteArray := prog_1_method_29_code
def yX1_demandNumber : MethodName := ⟨RX1, "demandNumber", "(I)V"⟩
abbrev cX1_demandHooksAndWay : ByteArray := prog_1_method_30_code
def yX1_demandHooksAndWay : MethodName := ⟨RX1, "demandHooksAndWay", "(II)V"⟩
abbrev cX1_demandHook : ByteArray := prog_1_method_31_code
def yX1_demandHook : MethodName := ⟨RX1, "demandHook", "(I)V"⟩
abbrev cX1_fewestHooks : ByteArray := prog_1_method_32_code
def yX1_fewestHooks : MethodName := ⟨RX1, "fewestHooks", "(I)I"⟩
abbrev cX1_looksOnTrial : ByteArray := prog_1_method_33_code
def yX1_looksOnTrial : MethodName := ⟨RX1, "looksOnTrial", "(II)I"⟩
abbrev cX1_hangAnewOnTrial : ByteArray := prog_1_method_34_code
def yX1_hangAnewOnTrial : MethodName := ⟨RX1, "hangAnewOnTrial", "(II)Z"⟩
abbrev cX1_coatsMovedOnTrial : ByteArray := prog_1_method_35_code
def yX1_coatsMovedOnTrial : MethodName := ⟨RX1, "coatsMovedOnTrial", "()I"⟩
abbrev cX1_takeOverTrial : ByteArray := prog_1_method_36_code
def yX1_takeOverTrial : MethodName := ⟨RX1, "takeOverTrial", "()V"⟩
def RX2 : String := "CoatHooksModel"
def TX2 : u_T := fun k => match k with
  | 0 => ("CoatHooksModel", "thrown", "I", false)
  | 1 => ("CoatHooksModel", "hooks", "I", false)
  | 2 => ("CoatHooksModel", "way", "I", false)
  | 3 => ("CoatHooksModel", "row", "[I", false)
  | 4 => ("CoatHooksModel", "heavy", "[I", false)
  | 5 => ("CoatHooksModel", "other", "[I", false)
  | 6 => ("CoatHooksModel", "otherHeavy", "[I", false)
  | 7 => ("CoatHooksModel", "looks", "I", false)
  | 8 => ("CoatHooksModel", "found", "I", false)
  | 9 => ("CoatHooksModel", "free", "I", false)
  | _ => ("CoatHooksModel", "ticket", "I", false)
def tyX2 : Nat → FieldType := fun k => match k with
  | 0 => .int
  | 1 => .int
  | 2 => .int
  | 3 => .array .int
  | 4 => .array .int
  | 5 => .array .int
  | 6 => .array .int
  | 7 => .int
  | 8 => .int
  | 9 => .int
  | _ => .int
abbrev wsX20 : List Cond := u_ws RX2 TX2 11
theorem nmX2 : ∀ a, a < 11 → ∀ b, b < 11 → a ≠ b → (TX2 a).2.1 ≠ (TX2 b).2.1 := by decide +kernel
theorem tyX2_ok : ∀ k, k < 11 → parseFieldDescriptor (TX2 k).2.2.1 = some (tyX2 k) := by decide +kernel
abbrev cX2_init : ByteArray := prog_4_method_1_code
def yX2_init : MethodName := ⟨RX2, "<init>", "()V"⟩
abbrev cX2_thrown : ByteArray := prog_4_method_2_code
def yX2_thrown : MethodName := ⟨RX2, "thrown", "()I"⟩
abbrev cX2_no : ByteArray := prog_4_method_3_code
def yX2_no : MethodName := ⟨RX2, "no", "(I)I"⟩
abbrev cX2_ok : ByteArray := prog_4_method_4_code
def yX2_ok : MethodName := ⟨RX2, "ok", "(I)I"⟩
abbrev cX2_isIn : ByteArray := prog_4_method_5_code
def yX2_isIn : MethodName := ⟨RX2, "isIn", "(III)Z"⟩
abbrev cX2_isNumber : ByteArray := prog_4_method_6_code
def yX2_isNumber : MethodName := ⟨RX2, "isNumber", "(I)Z"⟩
abbrev cX2_isHook : ByteArray := prog_4_method_7_code
def yX2_isHook : MethodName := ⟨RX2, "isHook", "(I)Z"⟩
abbrev cX2_clear : ByteArray := prog_4_method_8_code
def yX2_clear : MethodName := ⟨RX2, "clear", "([II)V"⟩
abbrev cX2_look : ByteArray := prog_4_method_9_code
def yX2_look : MethodName := ⟨RX2, "look", "([IIII)V"⟩
abbrev cX2_lookNow : ByteArray := prog_4_method_10_code
def yX2_lookNow : MethodName := ⟨RX2, "lookNow", "(I)V"⟩
abbrev cX2_hangs : ByteArray := prog_4_method_11_code
def yX2_hangs : MethodName := ⟨RX2, "hangs", "(I)Z"⟩
abbrev cX2_place : ByteArray := prog_4_method_12_code
def yX2_place : MethodName := ⟨RX2, "place", "(I)I"⟩
abbrev cX2_anew : ByteArray := prog_4_method_13_code
def yX2_anew : MethodName := ⟨RX2, "anew", "(II)I"⟩
abbrev cX2_moved : ByteArray := prog_4_method_14_code
def yX2_moved : MethodName := ⟨RX2, "moved", "()I"⟩
abbrev cX2_hung : ByteArray := prog_4_method_15_code
def yX2_hung : MethodName := ⟨RX2, "hung", "(III)I"⟩
abbrev cX2_hang : ByteArray := prog_4_method_16_code
def yX2_hang : MethodName := ⟨RX2, "hang", "(II)I"⟩
abbrev cX2_take : ByteArray := prog_4_method_17_code
def yX2_take : MethodName := ⟨RX2, "take", "(I)I"⟩
abbrev cX2_rehang : ByteArray := prog_4_method_18_code
def yX2_rehang : MethodName := ⟨RX2, "rehang", "(II)I"⟩
abbrev cX2_count : ByteArray := prog_4_method_19_code
def yX2_count : MethodName := ⟨RX2, "count", "(I)I"⟩
abbrev cX2_sweep : ByteArray := prog_4_method_20_code
def yX2_sweep : MethodName := ⟨RX2, "sweep", "()I"⟩
abbrev cX2_hooks : ByteArray := prog_4_method_21_code
def yX2_hooks : MethodName := ⟨RX2, "hooks", "()I"⟩
abbrev cX2_way : ByteArray := prog_4_method_22_code
def yX2_way : MethodName := ⟨RX2, "way", "()I"⟩
abbrev cX2_many : ByteArray := prog_4_method_23_code
def yX2_many : MethodName := ⟨RX2, "many", "()I"⟩
abbrev cX2_coats : ByteArray := prog_4_method_24_code
def yX2_coats : MethodName := ⟨RX2, "coats", "()I"⟩
abbrev cX2_tickets : ByteArray := prog_4_method_25_code
def yX2_tickets : MethodName := ⟨RX2, "tickets", "()I"⟩
abbrev cX2_state : ByteArray := prog_4_method_26_code
def yX2_state : MethodName := ⟨RX2, "state", "(I)I"⟩
abbrev cX2_stateOf : ByteArray := prog_4_method_27_code
def yX2_stateOf : MethodName := ⟨RX2, "stateOf", "(I)I"⟩
abbrev cX2_coat : ByteArray := prog_4_method_28_code
def yX2_coat : MethodName := ⟨RX2, "coat", "(I)I"⟩
abbrev cX2_coatAt : ByteArray := prog_4_method_29_code
def yX2_coatAt : MethodName := ⟨RX2, "coatAt", "(I)I"⟩
abbrev cX2_weightOn : ByteArray := prog_4_method_30_code
def yX2_weightOn : MethodName := ⟨RX2, "weightOn", "(I)I"⟩
abbrev cX2_weightAt : ByteArray := prog_4_method_31_code
def yX2_weightAt : MethodName := ⟨RX2, "weightAt", "(I)I"⟩
abbrev cX2_all : ByteArray := prog_4_method_32_code
def yX2_all : MethodName := ⟨RX2, "all", "()I"⟩
abbrev cX2_weight : ByteArray := prog_4_method_33_code
def yX2_weight : MethodName := ⟨RX2, "weight", "()I"⟩
abbrev cX2_heaviest : ByteArray := prog_4_method_34_code
def yX2_heaviest : MethodName := ⟨RX2, "heaviest", "()I"⟩
abbrev cX2_heaviestAt : ByteArray := prog_4_method_35_code
def yX2_heaviestAt : MethodName := ⟨RX2, "heaviestAt", "()I"⟩
abbrev cX2_find : ByteArray := prog_4_method_36_code
def yX2_find : MethodName := ⟨RX2, "find", "(I)I"⟩
abbrev cX2_manyLooks : ByteArray := prog_4_method_37_code
def yX2_manyLooks : MethodName := ⟨RX2, "manyLooks", "(I)I"⟩
abbrev cX2_looksFor : ByteArray := prog_4_method_38_code
def yX2_looksFor : MethodName := ⟨RX2, "looksFor", "(I)I"⟩
abbrev cX2_placeFor : ByteArray := prog_4_method_39_code
def yX2_placeFor : MethodName := ⟨RX2, "placeFor", "(I)I"⟩
abbrev cX2_lookedAt : ByteArray := prog_4_method_40_code
def yX2_lookedAt : MethodName := ⟨RX2, "lookedAt", "(II)I"⟩
abbrev cX2_looksForAll : ByteArray := prog_4_method_41_code
def yX2_looksForAll : MethodName := ⟨RX2, "looksForAll", "()I"⟩
abbrev cX2_allLooks : ByteArray := prog_4_method_42_code
def yX2_allLooks : MethodName := ⟨RX2, "allLooks", "()I"⟩
abbrev cX2_far : ByteArray := prog_4_method_43_code
def yX2_far : MethodName := ⟨RX2, "far", "()I"⟩
abbrev cX2_farthest : ByteArray := prog_4_method_44_code
def yX2_farthest : MethodName := ⟨RX2, "farthest", "()I"⟩
abbrev cX2_rowsNow : ByteArray := prog_4_method_45_code
def yX2_rowsNow : MethodName := ⟨RX2, "rowsNow", "()I"⟩
abbrev cX2_rows : ByteArray := prog_4_method_46_code
def yX2_rows : MethodName := ⟨RX2, "rows", "()I"⟩
abbrev cX2_rowOf : ByteArray := prog_4_method_47_code
def yX2_rowOf : MethodName := ⟨RX2, "rowOf", "(I)I"⟩
abbrev cX2_longest : ByteArray := prog_4_method_48_code
def yX2_longest : MethodName := ⟨RX2, "longest", "()I"⟩
abbrev cX2_longestRow : ByteArray := prog_4_method_49_code
def yX2_longestRow : MethodName := ⟨RX2, "longestRow", "()I"⟩
abbrev cX2_rowAt : ByteArray := prog_4_method_50_code
def yX2_rowAt : MethodName := ⟨RX2, "rowAt", "(I)I"⟩
abbrev cX2_looksWith : ByteArray := prog_4_method_51_code
def yX2_looksWith : MethodName := ⟨RX2, "looksWith", "(II)I"⟩
abbrev cX2_best : ByteArray := prog_4_method_52_code
def yX2_best : MethodName := ⟨RX2, "best", "()I"⟩
abbrev cX2_bestWay : ByteArray := prog_4_method_53_code
def yX2_bestWay : MethodName := ⟨RX2, "bestWay", "()I"⟩
abbrev cX2_wanted : ByteArray := prog_4_method_54_code
def yX2_wanted : MethodName := ⟨RX2, "wanted", "(I)I"⟩
abbrev cX2_hooksWanted : ByteArray := prog_4_method_55_code
def yX2_hooksWanted : MethodName := ⟨RX2, "hooksWanted", "(I)I"⟩
abbrev cX2_meanLooks : ByteArray := prog_4_method_56_code
def yX2_meanLooks : MethodName := ⟨RX2, "meanLooks", "()D"⟩
abbrev cX2_digest : ByteArray := prog_4_method_57_code
def yX2_digest : MethodName := ⟨RX2, "digest", "()J"⟩
def RJ9 : String := "java/lang/Math"
def TJ9 : u_T := fun k => match k with
  | _ => ("", "", "", false)
def tyJ9 : Nat → FieldType := fun k => match k with
  | _ => .int
abbrev wsJ90 : List Cond := u_ws RJ9 TJ9 0
theorem nmJ9 : ∀ a, a < 0 → ∀ b, b < 0 → a ≠ b → (TJ9 a).2.1 ≠ (TJ9 b).2.1 := by decide +kernel
theorem tyJ9_ok : ∀ k, k < 0 → parseFieldDescriptor (TJ9 k).2.2.1 = some (tyJ9 k) := by decide +kernel
abbrev cJ9_max_7cf53 : ByteArray := prog_9_method_65_code
def yJ9_max_7cf53 : MethodName := ⟨RJ9, "max", "(II)I"⟩
abbrev cJ9_min_7cf53 : ByteArray := prog_9_method_69_code
def yJ9_min_7cf53 : MethodName := ⟨RJ9, "min", "(II)I"⟩
def RJ0 : String := "java/lang/String"
def TJ0 : u_T := fun k => match k with
  | _ => ("", "", "", false)
def tyJ0 : Nat → FieldType := fun k => match k with
  | _ => .int
abbrev wsJ00 : List Cond := u_ws RJ0 TJ0 0
theorem nmJ0 : ∀ a, a < 0 → ∀ b, b < 0 → a ≠ b → (TJ0 a).2.1 ≠ (TJ0 b).2.1 := by decide +kernel
theorem tyJ0_ok : ∀ k, k < 0 → parseFieldDescriptor (TJ0 k).2.2.1 = some (tyJ0 k) := by decide +kernel
def RL : String := "CoatHooksLaw"
abbrev cL_hang : ByteArray := method_3_code
def yL_hang : MethodName := ⟨RL, "hang", "(LCoatHooks;II[J)I"⟩
abbrev cL_take : ByteArray := method_4_code
def yL_take : MethodName := ⟨RL, "take", "(LCoatHooks;I[J)I"⟩
abbrev cL_rehang : ByteArray := method_5_code
def yL_rehang : MethodName := ⟨RL, "rehang", "(LCoatHooks;II[J)I"⟩
abbrev cL_stateOf : ByteArray := method_6_code
def yL_stateOf : MethodName := ⟨RL, "stateOf", "(LCoatHooks;I[J)I"⟩
abbrev cL_coatAt : ByteArray := method_7_code
def yL_coatAt : MethodName := ⟨RL, "coatAt", "(LCoatHooks;I[J)I"⟩
abbrev cL_weightAt : ByteArray := method_8_code
def yL_weightAt : MethodName := ⟨RL, "weightAt", "(LCoatHooks;I[J)I"⟩
abbrev cL_find : ByteArray := method_9_code
def yL_find : MethodName := ⟨RL, "find", "(LCoatHooks;I[J)I"⟩
abbrev cL_looksFor : ByteArray := method_10_code
def yL_looksFor : MethodName := ⟨RL, "looksFor", "(LCoatHooks;I[J)I"⟩
abbrev cL_placeFor : ByteArray := method_11_code
def yL_placeFor : MethodName := ⟨RL, "placeFor", "(LCoatHooks;I[J)I"⟩
abbrev cL_lookedAt : ByteArray := method_12_code
def yL_lookedAt : MethodName := ⟨RL, "lookedAt", "(LCoatHooks;II[J)I"⟩
abbrev cL_rowAt : ByteArray := method_13_code
def yL_rowAt : MethodName := ⟨RL, "rowAt", "(LCoatHooks;I[J)I"⟩
abbrev cL_looksWith : ByteArray := method_14_code
def yL_looksWith : MethodName := ⟨RL, "looksWith", "(LCoatHooks;II[J)I"⟩
abbrev cL_hooksWanted : ByteArray := method_15_code
def yL_hooksWanted : MethodName := ⟨RL, "hooksWanted", "(LCoatHooks;I[J)I"⟩
abbrev cL_law : ByteArray := code
def yL_law : MethodName := ⟨RL, "law", "([I)Z"⟩
def wsX0_put : List Cond := .code yX0_put cX0_put 4 none :: ([.fieldLink RX0 9 "CoatHooks$Rack" "held" "[I", .fieldLink RX0 15 "CoatHooks$Rack" "weights" "[I"] ++ wsX00)
def wsX0_clear : List Cond := .code yX0_clear cX0_clear 4 none :: ([.fieldLink RX0 22 "CoatHooks$Rack" "size" "I", .fieldLink RX0 26 "CoatHooks$Rack" "manner" "I", .fieldLink RX0 9 "CoatHooks$Rack" "held" "[I", .methodLink RX0 29 yX0_put, .instanceMethod yX0_put, .selects RX0 yX0_put yX0_put, .initialized RX0, .code yX0_put cX0_put 4 none, .fieldLink RX0 15 "CoatHooks$Rack" "weights" "[I"] ++ wsX00)
def wsX0_init : List Cond := .code yX0_init cX0_init 1 none :: ([.methodLink RX0 3 objectInit, .instanceMethod objectInit, .code objectInit ⟨#[0xb1]⟩ 1 none, .arrayClass .int, .fieldLink RX0 9 "CoatHooks$Rack" "held" "[I", .fieldLink RX0 15 "CoatHooks$Rack" "weights" "[I", .methodLink RX0 18 yX0_clear, .instanceMethod yX0_clear, .selects RX0 yX0_clear yX0_clear, .initialized RX0, .code yX0_clear cX0_clear 4 none, .fieldLink RX0 22 "CoatHooks$Rack" "size" "I", .fieldLink RX0 26 "CoatHooks$Rack" "manner" "I", .methodLink RX0 29 yX0_put, .instanceMethod yX0_put, .selects RX0 yX0_put yX0_put, .code yX0_put cX0_put 4 none] ++ wsX00)
def wsX0_leaveTicket : List Cond := .code yX0_leaveTicket cX0_leaveTicket 2 none :: ([.methodLink RX0 29 yX0_put, .instanceMethod yX0_put, .selects RX0 yX0_put yX0_put, .initialized RX0, .code yX0_put cX0_put 4 none, .fieldLink RX0 9 "CoatHooks$Rack" "held" "[I", .fieldLink RX0 15 "CoatHooks$Rack" "weights" "[I"] ++ wsX00)
def wsX0_heldOn : List Cond := .code yX0_heldOn cX0_heldOn 2 (some .int) :: ([.fieldLink RX0 22 "CoatHooks$Rack" "size" "I", .fieldLink RX0 9 "CoatHooks$Rack" "held" "[I"] ++ wsX00)
def wsX0_hookCount : List Cond := .code yX0_hookCount cX0_hookCount 1 (some .int) :: ([.fieldLink RX0 22 "CoatHooks$Rack" "size" "I"] ++ wsX00)
def wsX0_usherWay : List Cond := .code yX0_usherWay cX0_usherWay 1 (some .int) :: ([.fieldLink RX0 26 "CoatHooks$Rack" "manner" "I"] ++ wsX00)
def wsX0_stateOn : List Cond := .code yX0_stateOn cX0_stateOn 3 (some .int) :: ([.methodLink RX0 33 yX0_heldOn, .instanceMethod yX0_heldOn, .selects RX0 yX0_heldOn yX0_heldOn, .initialized RX0, .code yX0_heldOn cX0_heldOn 2 (some .int), .fieldLink RX0 22 "CoatHooks$Rack" "size" "I", .fieldLink RX0 9 "CoatHooks$Rack" "held" "[I"] ++ wsX00)
def wsX0_coatOn : List Cond := .code yX0_coatOn cX0_coatOn 3 (some .int) :: ([.methodLink RX0 33 yX0_heldOn, .instanceMethod yX0_heldOn, .selects RX0 yX0_heldOn yX0_heldOn, .initialized RX0, .code yX0_heldOn cX0_heldOn 2 (some .int), .fieldLink RX0 22 "CoatHooks$Rack" "size" "I", .fieldLink RX0 9 "CoatHooks$Rack" "held" "[I"] ++ wsX00)
def wsX0_weightOn : List Cond := .code yX0_weightOn cX0_weightOn 2 (some .int) :: ([.fieldLink RX0 22 "CoatHooks$Rack" "size" "I", .fieldLink RX0 15 "CoatHooks$Rack" "weights" "[I"] ++ wsX00)
def wsX0_countInState : List Cond := .code yX0_countInState cX0_countInState 4 (some .int) :: ([.fieldLink RX0 22 "CoatHooks$Rack" "size" "I", .methodLink RX0 37 yX0_stateOn, .instanceMethod yX0_stateOn, .selects RX0 yX0_stateOn yX0_stateOn, .initialized RX0, .code yX0_stateOn cX0_stateOn 3 (some .int), .methodLink RX0 33 yX0_heldOn, .instanceMethod yX0_heldOn, .selects RX0 yX0_heldOn yX0_heldOn, .code yX0_heldOn cX0_heldOn 2 (some .int), .fieldLink RX0 9 "CoatHooks$Rack" "held" "[I"] ++ wsX00)
def wsX0_weightOfAll : List Cond := .code yX0_weightOfAll cX0_weightOfAll 3 (some .int) :: ([.fieldLink RX0 22 "CoatHooks$Rack" "size" "I", .methodLink RX0 40 yX0_weightOn, .instanceMethod yX0_weightOn, .selects RX0 yX0_weightOn yX0_weightOn, .initialized RX0, .code yX0_weightOn cX0_weightOn 2 (some .int), .fieldLink RX0 15 "CoatHooks$Rack" "weights" "[I"] ++ wsX00)
def wsX0_hookOfHeaviest : List Cond := .code yX0_hookOfHeaviest cX0_hookOfHeaviest 4 (some .int) :: ([.fieldLink RX0 22 "CoatHooks$Rack" "size" "I", .methodLink RX0 40 yX0_weightOn, .instanceMethod yX0_weightOn, .selects RX0 yX0_weightOn yX0_weightOn, .initialized RX0, .code yX0_weightOn cX0_weightOn 2 (some .int), .fieldLink RX0 15 "CoatHooks$Rack" "weights" "[I"] ++ wsX00)
def wsX0_hookInStep : List Cond := .code yX0_hookInStep cX0_hookInStep 4 (some .int) :: ([.fieldLink RX0 22 "CoatHooks$Rack" "size" "I", .fieldLink RX0 26 "CoatHooks$Rack" "manner" "I"] ++ wsX00)
def wsX0_countLooks : List Cond := .code yX0_countLooks cX0_countLooks 4 (some .int) :: ([.fieldLink RX0 22 "CoatHooks$Rack" "size" "I", .methodLink RX0 43 yX0_hookInStep, .instanceMethod yX0_hookInStep, .selects RX0 yX0_hookInStep yX0_hookInStep, .initialized RX0, .code yX0_hookInStep cX0_hookInStep 4 (some .int), .fieldLink RX0 26 "CoatHooks$Rack" "manner" "I", .methodLink RX0 33 yX0_heldOn, .instanceMethod yX0_heldOn, .selects RX0 yX0_heldOn yX0_heldOn, .code yX0_heldOn cX0_heldOn 2 (some .int), .fieldLink RX0 9 "CoatHooks$Rack" "held" "[I"] ++ wsX00)
def wsX0_whereFound : List Cond := .code yX0_whereFound cX0_whereFound 3 (some .int) :: ([.methodLink RX0 47 yX0_countLooks, .instanceMethod yX0_countLooks, .selects RX0 yX0_countLooks yX0_countLooks, .initialized RX0, .code yX0_countLooks cX0_countLooks 4 (some .int), .fieldLink RX0 22 "CoatHooks$Rack" "size" "I", .methodLink RX0 43 yX0_hookInStep, .instanceMethod yX0_hookInStep, .selects RX0 yX0_hookInStep yX0_hookInStep, .code yX0_hookInStep cX0_hookInStep 4 (some .int), .fieldLink RX0 26 "CoatHooks$Rack" "manner" "I", .methodLink RX0 33 yX0_heldOn, .instanceMethod yX0_heldOn, .selects RX0 yX0_heldOn yX0_heldOn, .code yX0_heldOn cX0_heldOn 2 (some .int), .fieldLink RX0 9 "CoatHooks$Rack" "held" "[I"] ++ wsX00)
def wsX0_hangs : List Cond := .code yX0_hangs cX0_hangs 3 (some .boolean) :: ([.fieldLink RX0 22 "CoatHooks$Rack" "size" "I", .methodLink RX0 33 yX0_heldOn, .instanceMethod yX0_heldOn, .selects RX0 yX0_heldOn yX0_heldOn, .initialized RX0, .code yX0_heldOn cX0_heldOn 2 (some .int), .fieldLink RX0 9 "CoatHooks$Rack" "held" "[I"] ++ wsX00)
def wsX0_openHook : List Cond := .code yX0_openHook cX0_openHook 5 (some .int) :: ([.methodLink RX0 47 yX0_countLooks, .instanceMethod yX0_countLooks, .selects RX0 yX0_countLooks yX0_countLooks, .initialized RX0, .code yX0_countLooks cX0_countLooks 4 (some .int), .fieldLink RX0 22 "CoatHooks$Rack" "size" "I", .methodLink RX0 43 yX0_hookInStep, .instanceMethod yX0_hookInStep, .selects RX0 yX0_hookInStep yX0_hookInStep, .code yX0_hookInStep cX0_hookInStep 4 (some .int), .fieldLink RX0 26 "CoatHooks$Rack" "manner" "I", .methodLink RX0 33 yX0_heldOn, .instanceMethod yX0_heldOn, .selects RX0 yX0_heldOn yX0_heldOn, .code yX0_heldOn cX0_heldOn 2 (some .int), .fieldLink RX0 9 "CoatHooks$Rack" "held" "[I"] ++ wsX00)
def wsX0_placeOf : List Cond := .code yX0_placeOf cX0_placeOf 2 (some .int) :: ([.methodLink RX0 50 yX0_hangs, .instanceMethod yX0_hangs, .selects RX0 yX0_hangs yX0_hangs, .initialized RX0, .code yX0_hangs cX0_hangs 3 (some .boolean), .fieldLink RX0 22 "CoatHooks$Rack" "size" "I", .methodLink RX0 33 yX0_heldOn, .instanceMethod yX0_heldOn, .selects RX0 yX0_heldOn yX0_heldOn, .code yX0_heldOn cX0_heldOn 2 (some .int), .fieldLink RX0 9 "CoatHooks$Rack" "held" "[I", .methodLink RX0 54 yX0_openHook, .instanceMethod yX0_openHook, .selects RX0 yX0_openHook yX0_openHook, .code yX0_openHook cX0_openHook 5 (some .int), .methodLink RX0 47 yX0_countLooks, .instanceMethod yX0_countLooks, .selects RX0 yX0_countLooks yX0_countLooks, .code yX0_countLooks cX0_countLooks 4 (some .int), .methodLink RX0 43 yX0_hookInStep, .instanceMethod yX0_hookInStep, .selects RX0 yX0_hookInStep yX0_hookInStep, .code yX0_hookInStep cX0_hookInStep 4 (some .int), .fieldLink RX0 26 "CoatHooks$Rack" "manner" "I"] ++ wsX00)
def wsX0_looksForAll : List Cond := .code yX0_looksForAll cX0_looksForAll 4 (some .int) :: ([.fieldLink RX0 22 "CoatHooks$Rack" "size" "I", .methodLink RX0 33 yX0_heldOn, .instanceMethod yX0_heldOn, .selects RX0 yX0_heldOn yX0_heldOn, .initialized RX0, .code yX0_heldOn cX0_heldOn 2 (some .int), .fieldLink RX0 9 "CoatHooks$Rack" "held" "[I", .methodLink RX0 47 yX0_countLooks, .instanceMethod yX0_countLooks, .selects RX0 yX0_countLooks yX0_countLooks, .code yX0_countLooks cX0_countLooks 4 (some .int), .methodLink RX0 43 yX0_hookInStep, .instanceMethod yX0_hookInStep, .selects RX0 yX0_hookInStep yX0_hookInStep, .code yX0_hookInStep cX0_hookInStep 4 (some .int), .fieldLink RX0 26 "CoatHooks$Rack" "manner" "I"] ++ wsX00)
def wsX0_coatWithMostLooks : List Cond := .code yX0_coatWithMostLooks cX0_coatWithMostLooks 6 (some .int) :: ([.fieldLink RX0 22 "CoatHooks$Rack" "size" "I", .methodLink RX0 33 yX0_heldOn, .instanceMethod yX0_heldOn, .selects RX0 yX0_heldOn yX0_heldOn, .initialized RX0, .code yX0_heldOn cX0_heldOn 2 (some .int), .fieldLink RX0 9 "CoatHooks$Rack" "held" "[I", .methodLink RX0 47 yX0_countLooks, .instanceMethod yX0_countLooks, .selects RX0 yX0_countLooks yX0_countLooks, .code yX0_countLooks cX0_countLooks 4 (some .int), .methodLink RX0 43 yX0_hookInStep, .instanceMethod yX0_hookInStep, .selects RX0 yX0_hookInStep yX0_hookInStep, .code yX0_hookInStep cX0_hookInStep 4 (some .int), .fieldLink RX0 26 "CoatHooks$Rack" "manner" "I"] ++ wsX00)
def wsX0_behind : List Cond := .code yX0_behind cX0_behind 2 (some .int) :: ([.fieldLink RX0 22 "CoatHooks$Rack" "size" "I"] ++ wsX00)
def wsX0_before : List Cond := .code yX0_before cX0_before 2 (some .int) :: ([.fieldLink RX0 22 "CoatHooks$Rack" "size" "I"] ++ wsX00)
def wsX0_freeAll : List Cond := .code yX0_freeAll cX0_freeAll 2 (some .int) :: ([.fieldLink RX0 22 "CoatHooks$Rack" "size" "I", .fieldLink RX0 26 "CoatHooks$Rack" "manner" "I", .methodLink RX0 18 yX0_clear, .instanceMethod yX0_clear, .selects RX0 yX0_clear yX0_clear, .initialized RX0, .code yX0_clear cX0_clear 4 none, .fieldLink RX0 9 "CoatHooks$Rack" "held" "[I", .methodLink RX0 29 yX0_put, .instanceMethod yX0_put, .selects RX0 yX0_put yX0_put, .code yX0_put cX0_put 4 none, .fieldLink RX0 15 "CoatHooks$Rack" "weights" "[I"] ++ wsX00)
def wsX0_freeSweptTickets : List Cond := .code yX0_freeSweptTickets cX0_freeSweptTickets 4 (some .int) :: ([.fieldLink RX0 22 "CoatHooks$Rack" "size" "I", .methodLink RX0 33 yX0_heldOn, .instanceMethod yX0_heldOn, .selects RX0 yX0_heldOn yX0_heldOn, .initialized RX0, .code yX0_heldOn cX0_heldOn 2 (some .int), .fieldLink RX0 9 "CoatHooks$Rack" "held" "[I", .methodLink RX0 57 yX0_behind, .instanceMethod yX0_behind, .selects RX0 yX0_behind yX0_behind, .code yX0_behind cX0_behind 2 (some .int), .methodLink RX0 29 yX0_put, .instanceMethod yX0_put, .selects RX0 yX0_put yX0_put, .code yX0_put cX0_put 4 none, .fieldLink RX0 15 "CoatHooks$Rack" "weights" "[I", .methodLink RX0 60 yX0_before, .instanceMethod yX0_before, .selects RX0 yX0_before yX0_before, .code yX0_before cX0_before 2 (some .int)] ++ wsX00)
def wsX0_rowLength : List Cond := .code yX0_rowLength cX0_rowLength 5 (some .int) :: ([.fieldLink RX0 22 "CoatHooks$Rack" "size" "I", .methodLink RX0 33 yX0_heldOn, .instanceMethod yX0_heldOn, .selects RX0 yX0_heldOn yX0_heldOn, .initialized RX0, .code yX0_heldOn cX0_heldOn 2 (some .int), .fieldLink RX0 9 "CoatHooks$Rack" "held" "[I", .methodLink RX0 57 yX0_behind, .instanceMethod yX0_behind, .selects RX0 yX0_behind yX0_behind, .code yX0_behind cX0_behind 2 (some .int), .methodLink RX0 60 yX0_before, .instanceMethod yX0_before, .selects RX0 yX0_before yX0_before, .code yX0_before cX0_before 2 (some .int)] ++ wsX00)
def wsX0_rowCount : List Cond := .code yX0_rowCount cX0_rowCount 4 (some .int) :: ([.fieldLink RX0 22 "CoatHooks$Rack" "size" "I", .methodLink RX0 33 yX0_heldOn, .instanceMethod yX0_heldOn, .selects RX0 yX0_heldOn yX0_heldOn, .initialized RX0, .code yX0_heldOn cX0_heldOn 2 (some .int), .fieldLink RX0 9 "CoatHooks$Rack" "held" "[I", .methodLink RX0 57 yX0_behind, .instanceMethod yX0_behind, .selects RX0 yX0_behind yX0_behind, .code yX0_behind cX0_behind 2 (some .int)] ++ wsX00)
def wsX0_longestRowLength : List Cond := .code yX0_longestRowLength cX0_longestRowLength 4 (some .int) :: ([.fieldLink RX0 22 "CoatHooks$Rack" "size" "I", .methodLink RX0 63 yX0_rowLength, .instanceMethod yX0_rowLength, .selects RX0 yX0_rowLength yX0_rowLength, .initialized RX0, .code yX0_rowLength cX0_rowLength 5 (some .int), .methodLink RX0 33 yX0_heldOn, .instanceMethod yX0_heldOn, .selects RX0 yX0_heldOn yX0_heldOn, .code yX0_heldOn cX0_heldOn 2 (some .int), .fieldLink RX0 9 "CoatHooks$Rack" "held" "[I", .methodLink RX0 57 yX0_behind, .instanceMethod yX0_behind, .selects RX0 yX0_behind yX0_behind, .code yX0_behind cX0_behind 2 (some .int), .methodLink RX0 60 yX0_before, .instanceMethod yX0_before, .selects RX0 yX0_before yX0_before, .code yX0_before cX0_before 2 (some .int)] ++ wsX00)
def wsX1_init_r1 : List Cond := [Cond.methodLink RX1 1 objectInit, Cond.instanceMethod objectInit, Cond.code objectInit ⟨#[0xb1]⟩ 1 none, Cond.classLink RX1 7 RX0, Cond.instantiable RX0 4, Cond.initialized RX0, Cond.fieldLink RX1 10 "CoatHooks" "rack" "LCoatHooks$Rack;", Cond.fieldLink RX1 16 "CoatHooks" "trial" "LCoatHooks$Rack;", Cond.methodLink RX1 9 yX0_init, Cond.instanceMethod yX0_init, Cond.code yX0_init cX0_init 1 none, Cond.methodLink RX0 3 objectInit, Cond.arrayClass .int, Cond.fieldLink RX0 9 "CoatHooks$Rack" "held" "[I", Cond.fieldLink RX0 15 "CoatHooks$Rack" "weights" "[I", Cond.methodLink RX0 18 yX0_clear, Cond.instanceMethod yX0_clear, Cond.selects RX0 yX0_clear yX0_clear, Cond.code yX0_clear cX0_clear 4 none, Cond.fieldLink RX0 22 "CoatHooks$Rack" "size" "I", Cond.fieldLink RX0 26 "CoatHooks$Rack" "manner" "I", Cond.methodLink RX0 29 yX0_put, Cond.instanceMethod yX0_put, Cond.selects RX0 yX0_put yX0_put]
def wsX1_init_r2 : List Cond := [Cond.code yX0_put cX0_put 4 none]
def wsX1_init : List Cond := .code yX1_init cX1_init 1 none :: ((wsX1_init_r1 ++ wsX1_init_r2) ++ wsX00 ++ wsX10)
def wsX1_demandNumber : List Cond := .code yX1_demandNumber cX1_demandNumber 1 none :: ([.classLink RX1 23 "java/lang/IllegalArgumentException", .initialized "java/lang/IllegalArgumentException"] ++ (vx_atS RX1 27 "java/lang/IllegalArgumentException" ["java/lang/RuntimeException", "java/lang/Exception"]).filter goodWord)
def wsX1_hang_r1 : List Cond := [Cond.classLink RX1 23 "java/lang/IllegalArgumentException", Cond.initialized "java/lang/IllegalArgumentException", Cond.classLink RX1 34 "java/lang/IllegalStateException", Cond.initialized "java/lang/IllegalStateException", Cond.fieldLink RX1 10 "CoatHooks" "rack" "LCoatHooks$Rack;", Cond.methodLink RX1 19 yX1_demandNumber, Cond.static yX1_demandNumber, Cond.initialized RX1, Cond.code yX1_demandNumber cX1_demandNumber 1 none, Cond.methodLink RX1 30 yX0_placeOf, Cond.instanceMethod yX0_placeOf, Cond.selects RX0 yX0_placeOf yX0_placeOf, Cond.initialized RX0, Cond.code yX0_placeOf cX0_placeOf 2 (some .int), Cond.methodLink RX0 50 yX0_hangs, Cond.instanceMethod yX0_hangs, Cond.selects RX0 yX0_hangs yX0_hangs, Cond.code yX0_hangs cX0_hangs 3 (some .boolean), Cond.fieldLink RX0 22 "CoatHooks$Rack" "size" "I", Cond.methodLink RX0 33 yX0_heldOn, Cond.instanceMethod yX0_heldOn, Cond.selects RX0 yX0_heldOn yX0_heldOn, Cond.code yX0_heldOn cX0_heldOn 2 (some .int), Cond.fieldLink RX0 9 "CoatHooks$Rack" "held" "[I"]
def wsX1_hang_r2 : List Cond := [Cond.methodLink RX0 54 yX0_openHook, Cond.instanceMethod yX0_openHook, Cond.selects RX0 yX0_openHook yX0_openHook, Cond.code yX0_openHook cX0_openHook 5 (some .int), Cond.methodLink RX0 47 yX0_countLooks, Cond.instanceMethod yX0_countLooks, Cond.selects RX0 yX0_countLooks yX0_countLooks, Cond.code yX0_countLooks cX0_countLooks 4 (some .int), Cond.methodLink RX0 43 yX0_hookInStep, Cond.instanceMethod yX0_hookInStep, Cond.selects RX0 yX0_hookInStep yX0_hookInStep, Cond.code yX0_hookInStep cX0_hookInStep 4 (some .int), Cond.fieldLink RX0 26 "CoatHooks$Rack" "manner" "I", Cond.methodLink RX1 39 yX0_put, Cond.instanceMethod yX0_put, Cond.selects RX0 yX0_put yX0_put, Cond.code yX0_put cX0_put 4 none, Cond.fieldLink RX0 15 "CoatHooks$Rack" "weights" "[I"]
def wsX1_hang : List Cond := .code yX1_hang cX1_hang 4 (some .int) :: ((wsX1_hang_r1 ++ wsX1_hang_r2) ++ wsX10 ++ wsX00 ++ (vx_atS RX1 27 "java/lang/IllegalArgumentException" ["java/lang/RuntimeException", "java/lang/Exception"]).filter goodWord ++ (vx_atS RX1 38 "java/lang/IllegalStateException" ["java/lang/RuntimeException", "java/lang/Exception"]).filter goodWord)
def wsX1_take_r1 : List Cond := [Cond.classLink RX1 34 "java/lang/IllegalStateException", Cond.initialized "java/lang/IllegalStateException", Cond.fieldLink RX1 10 "CoatHooks" "rack" "LCoatHooks$Rack;", Cond.methodLink RX1 19 yX1_demandNumber, Cond.static yX1_demandNumber, Cond.initialized RX1, Cond.code yX1_demandNumber cX1_demandNumber 1 none, Cond.classLink RX1 23 "java/lang/IllegalArgumentException", Cond.initialized "java/lang/IllegalArgumentException", Cond.methodLink RX1 43 yX0_whereFound, Cond.instanceMethod yX0_whereFound, Cond.selects RX0 yX0_whereFound yX0_whereFound, Cond.initialized RX0, Cond.code yX0_whereFound cX0_whereFound 3 (some .int), Cond.methodLink RX0 47 yX0_countLooks, Cond.instanceMethod yX0_countLooks, Cond.selects RX0 yX0_countLooks yX0_countLooks, Cond.code yX0_countLooks cX0_countLooks 4 (some .int), Cond.fieldLink RX0 22 "CoatHooks$Rack" "size" "I", Cond.methodLink RX0 43 yX0_hookInStep, Cond.instanceMethod yX0_hookInStep, Cond.selects RX0 yX0_hookInStep yX0_hookInStep, Cond.code yX0_hookInStep cX0_hookInStep 4 (some .int), Cond.fieldLink RX0 26 "CoatHooks$Rack" "manner" "I"]
def wsX1_take_r2 : List Cond := [Cond.methodLink RX0 33 yX0_heldOn, Cond.instanceMethod yX0_heldOn, Cond.selects RX0 yX0_heldOn yX0_heldOn, Cond.code yX0_heldOn cX0_heldOn 2 (some .int), Cond.fieldLink RX0 9 "CoatHooks$Rack" "held" "[I", Cond.methodLink RX1 48 yX0_weightOn, Cond.instanceMethod yX0_weightOn, Cond.selects RX0 yX0_weightOn yX0_weightOn, Cond.code yX0_weightOn cX0_weightOn 2 (some .int), Cond.fieldLink RX0 15 "CoatHooks$Rack" "weights" "[I", Cond.methodLink RX1 51 yX0_leaveTicket, Cond.instanceMethod yX0_leaveTicket, Cond.selects RX0 yX0_leaveTicket yX0_leaveTicket, Cond.code yX0_leaveTicket cX0_leaveTicket 2 none, Cond.methodLink RX0 29 yX0_put, Cond.instanceMethod yX0_put, Cond.selects RX0 yX0_put yX0_put, Cond.code yX0_put cX0_put 4 none]
def wsX1_take : List Cond := .code yX1_take cX1_take 4 (some .int) :: ((wsX1_take_r1 ++ wsX1_take_r2) ++ wsX10 ++ wsX00 ++ (vx_atS RX1 38 "java/lang/IllegalStateException" ["java/lang/RuntimeException", "java/lang/Exception"]).filter goodWord ++ (vx_atS RX1 27 "java/lang/IllegalArgumentException" ["java/lang/RuntimeException", "java/lang/Exception"]).filter goodWord)
def wsX1_demandHooksAndWay : List Cond := .code yX1_demandHooksAndWay cX1_demandHooksAndWay 2 none :: ([.classLink RX1 23 "java/lang/IllegalArgumentException", .initialized "java/lang/IllegalArgumentException"] ++ (vx_atS RX1 27 "java/lang/IllegalArgumentException" ["java/lang/RuntimeException", "java/lang/Exception"]).filter goodWord)
def wsX1_hangAnewOnTrial_r1 : List Cond := [Cond.fieldLink RX1 16 "CoatHooks" "trial" "LCoatHooks$Rack;", Cond.fieldLink RX1 10 "CoatHooks" "rack" "LCoatHooks$Rack;", Cond.methodLink RX1 151 yX0_clear, Cond.instanceMethod yX0_clear, Cond.selects RX0 yX0_clear yX0_clear, Cond.initialized RX0, Cond.code yX0_clear cX0_clear 4 none, Cond.fieldLink RX0 22 "CoatHooks$Rack" "size" "I", Cond.fieldLink RX0 26 "CoatHooks$Rack" "manner" "I", Cond.fieldLink RX0 9 "CoatHooks$Rack" "held" "[I", Cond.methodLink RX0 29 yX0_put, Cond.instanceMethod yX0_put, Cond.selects RX0 yX0_put yX0_put, Cond.code yX0_put cX0_put 4 none, Cond.fieldLink RX0 15 "CoatHooks$Rack" "weights" "[I", Cond.methodLink RX1 74 yX0_hookCount, Cond.instanceMethod yX0_hookCount, Cond.selects RX0 yX0_hookCount yX0_hookCount, Cond.code yX0_hookCount cX0_hookCount 1 (some .int), Cond.methodLink RX1 92 yX0_coatOn, Cond.instanceMethod yX0_coatOn, Cond.selects RX0 yX0_coatOn yX0_coatOn, Cond.code yX0_coatOn cX0_coatOn 3 (some .int), Cond.methodLink RX0 33 yX0_heldOn]
def wsX1_hangAnewOnTrial_r2 : List Cond := [Cond.instanceMethod yX0_heldOn, Cond.selects RX0 yX0_heldOn yX0_heldOn, Cond.code yX0_heldOn cX0_heldOn 2 (some .int), Cond.methodLink RX1 154 yX0_openHook, Cond.instanceMethod yX0_openHook, Cond.selects RX0 yX0_openHook yX0_openHook, Cond.code yX0_openHook cX0_openHook 5 (some .int), Cond.methodLink RX0 47 yX0_countLooks, Cond.instanceMethod yX0_countLooks, Cond.selects RX0 yX0_countLooks yX0_countLooks, Cond.code yX0_countLooks cX0_countLooks 4 (some .int), Cond.methodLink RX0 43 yX0_hookInStep, Cond.instanceMethod yX0_hookInStep, Cond.selects RX0 yX0_hookInStep yX0_hookInStep, Cond.code yX0_hookInStep cX0_hookInStep 4 (some .int), Cond.methodLink RX1 48 yX0_weightOn, Cond.instanceMethod yX0_weightOn, Cond.selects RX0 yX0_weightOn yX0_weightOn, Cond.code yX0_weightOn cX0_weightOn 2 (some .int), Cond.methodLink RX1 39 yX0_put]
def wsX1_hangAnewOnTrial : List Cond := .code yX1_hangAnewOnTrial cX1_hangAnewOnTrial 6 (some .boolean) :: ((wsX1_hangAnewOnTrial_r1 ++ wsX1_hangAnewOnTrial_r2) ++ wsX10 ++ wsX00)
def wsX1_coatsMovedOnTrial : List Cond := .code yX1_coatsMovedOnTrial cX1_coatsMovedOnTrial 4 (some .int) :: ([.fieldLink RX1 16 "CoatHooks" "trial" "LCoatHooks$Rack;", .fieldLink RX1 10 "CoatHooks" "rack" "LCoatHooks$Rack;", .methodLink RX1 74 yX0_hookCount, .instanceMethod yX0_hookCount, .selects RX0 yX0_hookCount yX0_hookCount, .initialized RX0, .code yX0_hookCount cX0_hookCount 1 (some .int), .fieldLink RX0 22 "CoatHooks$Rack" "size" "I", .methodLink RX1 92 yX0_coatOn, .instanceMethod yX0_coatOn, .selects RX0 yX0_coatOn yX0_coatOn, .code yX0_coatOn cX0_coatOn 3 (some .int), .methodLink RX0 33 yX0_heldOn, .instanceMethod yX0_heldOn, .selects RX0 yX0_heldOn yX0_heldOn, .code yX0_heldOn cX0_heldOn 2 (some .int), .fieldLink RX0 9 "CoatHooks$Rack" "held" "[I"] ++ wsX10 ++ wsX00)
def wsX1_takeOverTrial_r1 : List Cond := [Cond.fieldLink RX1 10 "CoatHooks" "rack" "LCoatHooks$Rack;", Cond.fieldLink RX1 16 "CoatHooks" "trial" "LCoatHooks$Rack;", Cond.methodLink RX1 74 yX0_hookCount, Cond.instanceMethod yX0_hookCount, Cond.selects RX0 yX0_hookCount yX0_hookCount, Cond.initialized RX0, Cond.code yX0_hookCount cX0_hookCount 1 (some .int), Cond.fieldLink RX0 22 "CoatHooks$Rack" "size" "I", Cond.methodLink RX1 83 yX0_usherWay, Cond.instanceMethod yX0_usherWay, Cond.selects RX0 yX0_usherWay yX0_usherWay, Cond.code yX0_usherWay cX0_usherWay 1 (some .int), Cond.fieldLink RX0 26 "CoatHooks$Rack" "manner" "I", Cond.methodLink RX1 151 yX0_clear, Cond.instanceMethod yX0_clear, Cond.selects RX0 yX0_clear yX0_clear, Cond.code yX0_clear cX0_clear 4 none, Cond.fieldLink RX0 9 "CoatHooks$Rack" "held" "[I", Cond.methodLink RX0 29 yX0_put, Cond.instanceMethod yX0_put, Cond.selects RX0 yX0_put yX0_put, Cond.code yX0_put cX0_put 4 none, Cond.fieldLink RX0 15 "CoatHooks$Rack" "weights" "[I", Cond.methodLink RX1 92 yX0_coatOn]
def wsX1_takeOverTrial_r2 : List Cond := [Cond.instanceMethod yX0_coatOn, Cond.selects RX0 yX0_coatOn yX0_coatOn, Cond.code yX0_coatOn cX0_coatOn 3 (some .int), Cond.methodLink RX0 33 yX0_heldOn, Cond.instanceMethod yX0_heldOn, Cond.selects RX0 yX0_heldOn yX0_heldOn, Cond.code yX0_heldOn cX0_heldOn 2 (some .int), Cond.methodLink RX1 48 yX0_weightOn, Cond.instanceMethod yX0_weightOn, Cond.selects RX0 yX0_weightOn yX0_weightOn, Cond.code yX0_weightOn cX0_weightOn 2 (some .int), Cond.methodLink RX1 39 yX0_put]
def wsX1_takeOverTrial : List Cond := .code yX1_takeOverTrial cX1_takeOverTrial 3 none :: ((wsX1_takeOverTrial_r1 ++ wsX1_takeOverTrial_r2) ++ wsX10 ++ wsX00)
def wsX1_rehang_r1 : List Cond := [Cond.classLink RX1 34 "java/lang/IllegalStateException", Cond.initialized "java/lang/IllegalStateException", Cond.methodLink RX1 54 yX1_demandHooksAndWay, Cond.static yX1_demandHooksAndWay, Cond.initialized RX1, Cond.code yX1_demandHooksAndWay cX1_demandHooksAndWay 2 none, Cond.classLink RX1 23 "java/lang/IllegalArgumentException", Cond.initialized "java/lang/IllegalArgumentException", Cond.methodLink RX1 58 yX1_hangAnewOnTrial, Cond.instanceMethod yX1_hangAnewOnTrial, Cond.selects RX1 yX1_hangAnewOnTrial yX1_hangAnewOnTrial, Cond.code yX1_hangAnewOnTrial cX1_hangAnewOnTrial 6 (some .boolean), Cond.fieldLink RX1 16 "CoatHooks" "trial" "LCoatHooks$Rack;", Cond.fieldLink RX1 10 "CoatHooks" "rack" "LCoatHooks$Rack;", Cond.methodLink RX1 151 yX0_clear, Cond.instanceMethod yX0_clear, Cond.selects RX0 yX0_clear yX0_clear, Cond.initialized RX0, Cond.code yX0_clear cX0_clear 4 none, Cond.fieldLink RX0 22 "CoatHooks$Rack" "size" "I", Cond.fieldLink RX0 26 "CoatHooks$Rack" "manner" "I", Cond.fieldLink RX0 9 "CoatHooks$Rack" "held" "[I", Cond.methodLink RX0 29 yX0_put, Cond.instanceMethod yX0_put]
def wsX1_rehang_r2 : List Cond := [Cond.selects RX0 yX0_put yX0_put, Cond.code yX0_put cX0_put 4 none, Cond.fieldLink RX0 15 "CoatHooks$Rack" "weights" "[I", Cond.methodLink RX1 74 yX0_hookCount, Cond.instanceMethod yX0_hookCount, Cond.selects RX0 yX0_hookCount yX0_hookCount, Cond.code yX0_hookCount cX0_hookCount 1 (some .int), Cond.methodLink RX1 92 yX0_coatOn, Cond.instanceMethod yX0_coatOn, Cond.selects RX0 yX0_coatOn yX0_coatOn, Cond.code yX0_coatOn cX0_coatOn 3 (some .int), Cond.methodLink RX0 33 yX0_heldOn, Cond.instanceMethod yX0_heldOn, Cond.selects RX0 yX0_heldOn yX0_heldOn, Cond.code yX0_heldOn cX0_heldOn 2 (some .int), Cond.methodLink RX1 154 yX0_openHook, Cond.instanceMethod yX0_openHook, Cond.selects RX0 yX0_openHook yX0_openHook, Cond.code yX0_openHook cX0_openHook 5 (some .int), Cond.methodLink RX0 47 yX0_countLooks, Cond.instanceMethod yX0_countLooks, Cond.selects RX0 yX0_countLooks yX0_countLooks, Cond.code yX0_countLooks cX0_countLooks 4 (some .int), Cond.methodLink RX0 43 yX0_hookInStep]
def wsX1_rehang_r3 : List Cond := [Cond.instanceMethod yX0_hookInStep, Cond.selects RX0 yX0_hookInStep yX0_hookInStep, Cond.code yX0_hookInStep cX0_hookInStep 4 (some .int), Cond.methodLink RX1 48 yX0_weightOn, Cond.instanceMethod yX0_weightOn, Cond.selects RX0 yX0_weightOn yX0_weightOn, Cond.code yX0_weightOn cX0_weightOn 2 (some .int), Cond.methodLink RX1 39 yX0_put, Cond.methodLink RX1 64 yX1_coatsMovedOnTrial, Cond.instanceMethod yX1_coatsMovedOnTrial, Cond.selects RX1 yX1_coatsMovedOnTrial yX1_coatsMovedOnTrial, Cond.code yX1_coatsMovedOnTrial cX1_coatsMovedOnTrial 4 (some .int), Cond.methodLink RX1 68 yX1_takeOverTrial, Cond.instanceMethod yX1_takeOverTrial, Cond.selects RX1 yX1_takeOverTrial yX1_takeOverTrial, Cond.code yX1_takeOverTrial cX1_takeOverTrial 3 none, Cond.methodLink RX1 83 yX0_usherWay, Cond.instanceMethod yX0_usherWay, Cond.selects RX0 yX0_usherWay yX0_usherWay, Cond.code yX0_usherWay cX0_usherWay 1 (some .int)]
def wsX1_rehang : List Cond := .code yX1_rehang cX1_rehang 4 (some .int) :: ((wsX1_rehang_r1 ++ (wsX1_rehang_r2 ++ wsX1_rehang_r3)) ++ wsX10 ++ wsX00 ++ (vx_atS RX1 38 "java/lang/IllegalStateException" ["java/lang/RuntimeException", "java/lang/Exception"]).filter goodWord ++ (vx_atS RX1 27 "java/lang/IllegalArgumentException" ["java/lang/RuntimeException", "java/lang/Exception"]).filter goodWord)
def wsX1_sweep_r1 : List Cond := [Cond.fieldLink RX1 10 "CoatHooks" "rack" "LCoatHooks$Rack;", Cond.methodLink RX1 71 yX0_countInState, Cond.instanceMethod yX0_countInState, Cond.selects RX0 yX0_countInState yX0_countInState, Cond.initialized RX0, Cond.code yX0_countInState cX0_countInState 4 (some .int), Cond.fieldLink RX0 22 "CoatHooks$Rack" "size" "I", Cond.methodLink RX0 37 yX0_stateOn, Cond.instanceMethod yX0_stateOn, Cond.selects RX0 yX0_stateOn yX0_stateOn, Cond.code yX0_stateOn cX0_stateOn 3 (some .int), Cond.methodLink RX0 33 yX0_heldOn, Cond.instanceMethod yX0_heldOn, Cond.selects RX0 yX0_heldOn yX0_heldOn, Cond.code yX0_heldOn cX0_heldOn 2 (some .int), Cond.fieldLink RX0 9 "CoatHooks$Rack" "held" "[I", Cond.methodLink RX1 74 yX0_hookCount, Cond.instanceMethod yX0_hookCount, Cond.selects RX0 yX0_hookCount yX0_hookCount, Cond.code yX0_hookCount cX0_hookCount 1 (some .int), Cond.methodLink RX1 77 yX0_freeAll, Cond.instanceMethod yX0_freeAll, Cond.selects RX0 yX0_freeAll yX0_freeAll, Cond.code yX0_freeAll cX0_freeAll 2 (some .int)]
def wsX1_sweep_r2 : List Cond := [Cond.fieldLink RX0 26 "CoatHooks$Rack" "manner" "I", Cond.methodLink RX0 18 yX0_clear, Cond.instanceMethod yX0_clear, Cond.selects RX0 yX0_clear yX0_clear, Cond.code yX0_clear cX0_clear 4 none, Cond.methodLink RX0 29 yX0_put, Cond.instanceMethod yX0_put, Cond.selects RX0 yX0_put yX0_put, Cond.code yX0_put cX0_put 4 none, Cond.fieldLink RX0 15 "CoatHooks$Rack" "weights" "[I", Cond.methodLink RX1 80 yX0_freeSweptTickets, Cond.instanceMethod yX0_freeSweptTickets, Cond.selects RX0 yX0_freeSweptTickets yX0_freeSweptTickets, Cond.code yX0_freeSweptTickets cX0_freeSweptTickets 4 (some .int), Cond.methodLink RX0 57 yX0_behind, Cond.instanceMethod yX0_behind, Cond.selects RX0 yX0_behind yX0_behind, Cond.code yX0_behind cX0_behind 2 (some .int), Cond.methodLink RX0 60 yX0_before, Cond.instanceMethod yX0_before, Cond.selects RX0 yX0_before yX0_before, Cond.code yX0_before cX0_before 2 (some .int)]
def wsX1_sweep : List Cond := .code yX1_sweep cX1_sweep 2 (some .int) :: ((wsX1_sweep_r1 ++ wsX1_sweep_r2) ++ wsX10 ++ wsX00)
def wsX1_hooks : List Cond := .code yX1_hooks cX1_hooks 1 (some .int) :: ([.fieldLink RX1 10 "CoatHooks" "rack" "LCoatHooks$Rack;", .methodLink RX1 74 yX0_hookCount, .instanceMethod yX0_hookCount, .selects RX0 yX0_hookCount yX0_hookCount, .initialized RX0, .code yX0_hookCount cX0_hookCount 1 (some .int), .fieldLink RX0 22 "CoatHooks$Rack" "size" "I"] ++ wsX10 ++ wsX00)
def wsX1_way : List Cond := .code yX1_way cX1_way 1 (some .int) :: ([.fieldLink RX1 10 "CoatHooks" "rack" "LCoatHooks$Rack;", .methodLink RX1 83 yX0_usherWay, .instanceMethod yX0_usherWay, .selects RX0 yX0_usherWay yX0_usherWay, .initialized RX0, .code yX0_usherWay cX0_usherWay 1 (some .int), .fieldLink RX0 26 "CoatHooks$Rack" "manner" "I"] ++ wsX10 ++ wsX00)
def wsX1_coats : List Cond := .code yX1_coats cX1_coats 1 (some .int) :: ([.fieldLink RX1 10 "CoatHooks" "rack" "LCoatHooks$Rack;", .methodLink RX1 71 yX0_countInState, .instanceMethod yX0_countInState, .selects RX0 yX0_countInState yX0_countInState, .initialized RX0, .code yX0_countInState cX0_countInState 4 (some .int), .fieldLink RX0 22 "CoatHooks$Rack" "size" "I", .methodLink RX0 37 yX0_stateOn, .instanceMethod yX0_stateOn, .selects RX0 yX0_stateOn yX0_stateOn, .code yX0_stateOn cX0_stateOn 3 (some .int), .methodLink RX0 33 yX0_heldOn, .instanceMethod yX0_heldOn, .selects RX0 yX0_heldOn yX0_heldOn, .code yX0_heldOn cX0_heldOn 2 (some .int), .fieldLink RX0 9 "CoatHooks$Rack" "held" "[I"] ++ wsX10 ++ wsX00)
def wsX1_tickets : List Cond := .code yX1_tickets cX1_tickets 1 (some .int) :: ([.fieldLink RX1 10 "CoatHooks" "rack" "LCoatHooks$Rack;", .methodLink RX1 71 yX0_countInState, .instanceMethod yX0_countInState, .selects RX0 yX0_countInState yX0_countInState, .initialized RX0, .code yX0_countInState cX0_countInState 4 (some .int), .fieldLink RX0 22 "CoatHooks$Rack" "size" "I", .methodLink RX0 37 yX0_stateOn, .instanceMethod yX0_stateOn, .selects RX0 yX0_stateOn yX0_stateOn, .code yX0_stateOn cX0_stateOn 3 (some .int), .methodLink RX0 33 yX0_heldOn, .instanceMethod yX0_heldOn, .selects RX0 yX0_heldOn yX0_heldOn, .code yX0_heldOn cX0_heldOn 2 (some .int), .fieldLink RX0 9 "CoatHooks$Rack" "held" "[I"] ++ wsX10 ++ wsX00)
def wsX1_demandHook : List Cond := .code yX1_demandHook cX1_demandHook 2 none :: ([.classLink RX1 146 "java/lang/IndexOutOfBoundsException", .initialized "java/lang/IndexOutOfBoundsException", .fieldLink RX1 10 "CoatHooks" "rack" "LCoatHooks$Rack;", .methodLink RX1 74 yX0_hookCount, .instanceMethod yX0_hookCount, .selects RX0 yX0_hookCount yX0_hookCount, .initialized RX0, .code yX0_hookCount cX0_hookCount 1 (some .int), .fieldLink RX0 22 "CoatHooks$Rack" "size" "I"] ++ wsX10 ++ wsX00 ++ (vx_atS RX1 150 "java/lang/IndexOutOfBoundsException" ["java/lang/RuntimeException", "java/lang/Exception"]).filter goodWord)
def wsX1_stateOf : List Cond := .code yX1_stateOf cX1_stateOf 2 (some .int) :: ([.fieldLink RX1 10 "CoatHooks" "rack" "LCoatHooks$Rack;", .methodLink RX1 86 yX1_demandHook, .instanceMethod yX1_demandHook, .selects RX1 yX1_demandHook yX1_demandHook, .initialized RX1, .code yX1_demandHook cX1_demandHook 2 none, .classLink RX1 146 "java/lang/IndexOutOfBoundsException", .initialized "java/lang/IndexOutOfBoundsException", .methodLink RX1 74 yX0_hookCount, .instanceMethod yX0_hookCount, .selects RX0 yX0_hookCount yX0_hookCount, .initialized RX0, .code yX0_hookCount cX0_hookCount 1 (some .int), .fieldLink RX0 22 "CoatHooks$Rack" "size" "I", .methodLink RX1 89 yX0_stateOn, .instanceMethod yX0_stateOn, .selects RX0 yX0_stateOn yX0_stateOn, .code yX0_stateOn cX0_stateOn 3 (some .int), .methodLink RX0 33 yX0_heldOn, .instanceMethod yX0_heldOn, .selects RX0 yX0_heldOn yX0_heldOn, .code yX0_heldOn cX0_heldOn 2 (some .int), .fieldLink RX0 9 "CoatHooks$Rack" "held" "[I"] ++ wsX10 ++ wsX00 ++ (vx_atS RX1 150 "java/lang/IndexOutOfBoundsException" ["java/lang/RuntimeException", "java/lang/Exception"]).filter goodWord)
def wsX1_coatAt : List Cond := .code yX1_coatAt cX1_coatAt 2 (some .int) :: ([.fieldLink RX1 10 "CoatHooks" "rack" "LCoatHooks$Rack;", .methodLink RX1 86 yX1_demandHook, .instanceMethod yX1_demandHook, .selects RX1 yX1_demandHook yX1_demandHook, .initialized RX1, .code yX1_demandHook cX1_demandHook 2 none, .classLink RX1 146 "java/lang/IndexOutOfBoundsException", .initialized "java/lang/IndexOutOfBoundsException", .methodLink RX1 74 yX0_hookCount, .instanceMethod yX0_hookCount, .selects RX0 yX0_hookCount yX0_hookCount, .initialized RX0, .code yX0_hookCount cX0_hookCount 1 (some .int), .fieldLink RX0 22 "CoatHooks$Rack" "size" "I", .methodLink RX1 92 yX0_coatOn, .instanceMethod yX0_coatOn, .selects RX0 yX0_coatOn yX0_coatOn, .code yX0_coatOn cX0_coatOn 3 (some .int), .methodLink RX0 33 yX0_heldOn, .instanceMethod yX0_heldOn, .selects RX0 yX0_heldOn yX0_heldOn, .code yX0_heldOn cX0_heldOn 2 (some .int), .fieldLink RX0 9 "CoatHooks$Rack" "held" "[I"] ++ wsX10 ++ wsX00 ++ (vx_atS RX1 150 "java/lang/IndexOutOfBoundsException" ["java/lang/RuntimeException", "java/lang/Exception"]).filter goodWord)
def wsX1_weightAt : List Cond := .code yX1_weightAt cX1_weightAt 2 (some .int) :: ([.fieldLink RX1 10 "CoatHooks" "rack" "LCoatHooks$Rack;", .methodLink RX1 86 yX1_demandHook, .instanceMethod yX1_demandHook, .selects RX1 yX1_demandHook yX1_demandHook, .initialized RX1, .code yX1_demandHook cX1_demandHook 2 none, .classLink RX1 146 "java/lang/IndexOutOfBoundsException", .initialized "java/lang/IndexOutOfBoundsException", .methodLink RX1 74 yX0_hookCount, .instanceMethod yX0_hookCount, .selects RX0 yX0_hookCount yX0_hookCount, .initialized RX0, .code yX0_hookCount cX0_hookCount 1 (some .int), .fieldLink RX0 22 "CoatHooks$Rack" "size" "I", .methodLink RX1 48 yX0_weightOn, .instanceMethod yX0_weightOn, .selects RX0 yX0_weightOn yX0_weightOn, .code yX0_weightOn cX0_weightOn 2 (some .int), .fieldLink RX0 15 "CoatHooks$Rack" "weights" "[I"] ++ wsX10 ++ wsX00 ++ (vx_atS RX1 150 "java/lang/IndexOutOfBoundsException" ["java/lang/RuntimeException", "java/lang/Exception"]).filter goodWord)
def wsX1_weight : List Cond := .code yX1_weight cX1_weight 1 (some .int) :: ([.fieldLink RX1 10 "CoatHooks" "rack" "LCoatHooks$Rack;", .methodLink RX1 95 yX0_weightOfAll, .instanceMethod yX0_weightOfAll, .selects RX0 yX0_weightOfAll yX0_weightOfAll, .initialized RX0, .code yX0_weightOfAll cX0_weightOfAll 3 (some .int), .fieldLink RX0 22 "CoatHooks$Rack" "size" "I", .methodLink RX0 40 yX0_weightOn, .instanceMethod yX0_weightOn, .selects RX0 yX0_weightOn yX0_weightOn, .code yX0_weightOn cX0_weightOn 2 (some .int), .fieldLink RX0 15 "CoatHooks$Rack" "weights" "[I"] ++ wsX10 ++ wsX00)
def wsX1_heaviestAt : List Cond := .code yX1_heaviestAt cX1_heaviestAt 1 (some .int) :: ([.fieldLink RX1 10 "CoatHooks" "rack" "LCoatHooks$Rack;", .methodLink RX1 98 yX0_hookOfHeaviest, .instanceMethod yX0_hookOfHeaviest, .selects RX0 yX0_hookOfHeaviest yX0_hookOfHeaviest, .initialized RX0, .code yX0_hookOfHeaviest cX0_hookOfHeaviest 4 (some .int), .fieldLink RX0 22 "CoatHooks$Rack" "size" "I", .methodLink RX0 40 yX0_weightOn, .instanceMethod yX0_weightOn, .selects RX0 yX0_weightOn yX0_weightOn, .code yX0_weightOn cX0_weightOn 2 (some .int), .fieldLink RX0 15 "CoatHooks$Rack" "weights" "[I"] ++ wsX10 ++ wsX00)
def wsX1_find_r1 : List Cond := [Cond.fieldLink RX1 10 "CoatHooks" "rack" "LCoatHooks$Rack;", Cond.methodLink RX1 19 yX1_demandNumber, Cond.static yX1_demandNumber, Cond.initialized RX1, Cond.code yX1_demandNumber cX1_demandNumber 1 none, Cond.classLink RX1 23 "java/lang/IllegalArgumentException", Cond.initialized "java/lang/IllegalArgumentException", Cond.methodLink RX1 43 yX0_whereFound, Cond.instanceMethod yX0_whereFound, Cond.selects RX0 yX0_whereFound yX0_whereFound, Cond.initialized RX0, Cond.code yX0_whereFound cX0_whereFound 3 (some .int), Cond.methodLink RX0 47 yX0_countLooks, Cond.instanceMethod yX0_countLooks, Cond.selects RX0 yX0_countLooks yX0_countLooks, Cond.code yX0_countLooks cX0_countLooks 4 (some .int), Cond.fieldLink RX0 22 "CoatHooks$Rack" "size" "I", Cond.methodLink RX0 43 yX0_hookInStep, Cond.instanceMethod yX0_hookInStep, Cond.selects RX0 yX0_hookInStep yX0_hookInStep, Cond.code yX0_hookInStep cX0_hookInStep 4 (some .int), Cond.fieldLink RX0 26 "CoatHooks$Rack" "manner" "I", Cond.methodLink RX0 33 yX0_heldOn, Cond.instanceMethod yX0_heldOn]
def wsX1_find_r2 : List Cond := [Cond.selects RX0 yX0_heldOn yX0_heldOn, Cond.code yX0_heldOn cX0_heldOn 2 (some .int), Cond.fieldLink RX0 9 "CoatHooks$Rack" "held" "[I"]
def wsX1_find : List Cond := .code yX1_find cX1_find 2 (some .int) :: ((wsX1_find_r1 ++ wsX1_find_r2) ++ wsX10 ++ wsX00 ++ (vx_atS RX1 27 "java/lang/IllegalArgumentException" ["java/lang/RuntimeException", "java/lang/Exception"]).filter goodWord)
def wsX1_looksFor : List Cond := .code yX1_looksFor cX1_looksFor 2 (some .int) :: ([.fieldLink RX1 10 "CoatHooks" "rack" "LCoatHooks$Rack;", .methodLink RX1 19 yX1_demandNumber, .static yX1_demandNumber, .initialized RX1, .code yX1_demandNumber cX1_demandNumber 1 none, .classLink RX1 23 "java/lang/IllegalArgumentException", .initialized "java/lang/IllegalArgumentException", .methodLink RX1 101 yX0_countLooks, .instanceMethod yX0_countLooks, .selects RX0 yX0_countLooks yX0_countLooks, .initialized RX0, .code yX0_countLooks cX0_countLooks 4 (some .int), .fieldLink RX0 22 "CoatHooks$Rack" "size" "I", .methodLink RX0 43 yX0_hookInStep, .instanceMethod yX0_hookInStep, .selects RX0 yX0_hookInStep yX0_hookInStep, .code yX0_hookInStep cX0_hookInStep 4 (some .int), .fieldLink RX0 26 "CoatHooks$Rack" "manner" "I", .methodLink RX0 33 yX0_heldOn, .instanceMethod yX0_heldOn, .selects RX0 yX0_heldOn yX0_heldOn, .code yX0_heldOn cX0_heldOn 2 (some .int), .fieldLink RX0 9 "CoatHooks$Rack" "held" "[I"] ++ wsX10 ++ wsX00 ++ (vx_atS RX1 27 "java/lang/IllegalArgumentException" ["java/lang/RuntimeException", "java/lang/Exception"]).filter goodWord)
def wsX1_placeFor_r1 : List Cond := [Cond.fieldLink RX1 10 "CoatHooks" "rack" "LCoatHooks$Rack;", Cond.methodLink RX1 19 yX1_demandNumber, Cond.static yX1_demandNumber, Cond.initialized RX1, Cond.code yX1_demandNumber cX1_demandNumber 1 none, Cond.classLink RX1 23 "java/lang/IllegalArgumentException", Cond.initialized "java/lang/IllegalArgumentException", Cond.methodLink RX1 30 yX0_placeOf, Cond.instanceMethod yX0_placeOf, Cond.selects RX0 yX0_placeOf yX0_placeOf, Cond.initialized RX0, Cond.code yX0_placeOf cX0_placeOf 2 (some .int), Cond.methodLink RX0 50 yX0_hangs, Cond.instanceMethod yX0_hangs, Cond.selects RX0 yX0_hangs yX0_hangs, Cond.code yX0_hangs cX0_hangs 3 (some .boolean), Cond.fieldLink RX0 22 "CoatHooks$Rack" "size" "I", Cond.methodLink RX0 33 yX0_heldOn, Cond.instanceMethod yX0_heldOn, Cond.selects RX0 yX0_heldOn yX0_heldOn, Cond.code yX0_heldOn cX0_heldOn 2 (some .int), Cond.fieldLink RX0 9 "CoatHooks$Rack" "held" "[I", Cond.methodLink RX0 54 yX0_openHook, Cond.instanceMethod yX0_openHook]
def wsX1_placeFor_r2 : List Cond := [Cond.selects RX0 yX0_openHook yX0_openHook, Cond.code yX0_openHook cX0_openHook 5 (some .int), Cond.methodLink RX0 47 yX0_countLooks, Cond.instanceMethod yX0_countLooks, Cond.selects RX0 yX0_countLooks yX0_countLooks, Cond.code yX0_countLooks cX0_countLooks 4 (some .int), Cond.methodLink RX0 43 yX0_hookInStep, Cond.instanceMethod yX0_hookInStep, Cond.selects RX0 yX0_hookInStep yX0_hookInStep, Cond.code yX0_hookInStep cX0_hookInStep 4 (some .int), Cond.fieldLink RX0 26 "CoatHooks$Rack" "manner" "I"]
def wsX1_placeFor : List Cond := .code yX1_placeFor cX1_placeFor 2 (some .int) :: ((wsX1_placeFor_r1 ++ wsX1_placeFor_r2) ++ wsX10 ++ wsX00 ++ (vx_atS RX1 27 "java/lang/IllegalArgumentException" ["java/lang/RuntimeException", "java/lang/Exception"]).filter goodWord)
def wsX1_lookedAt : List Cond := .code yX1_lookedAt cX1_lookedAt 3 (some .int) :: ([.classLink RX1 23 "java/lang/IllegalArgumentException", .initialized "java/lang/IllegalArgumentException", .fieldLink RX1 10 "CoatHooks" "rack" "LCoatHooks$Rack;", .methodLink RX1 19 yX1_demandNumber, .static yX1_demandNumber, .initialized RX1, .code yX1_demandNumber cX1_demandNumber 1 none, .methodLink RX1 106 yX0_hookInStep, .instanceMethod yX0_hookInStep, .selects RX0 yX0_hookInStep yX0_hookInStep, .initialized RX0, .code yX0_hookInStep cX0_hookInStep 4 (some .int), .fieldLink RX0 22 "CoatHooks$Rack" "size" "I", .fieldLink RX0 26 "CoatHooks$Rack" "manner" "I"] ++ wsX10 ++ wsX00 ++ (vx_atS RX1 27 "java/lang/IllegalArgumentException" ["java/lang/RuntimeException", "java/lang/Exception"]).filter goodWord)
def wsX1_allLooks : List Cond := .code yX1_allLooks cX1_allLooks 1 (some .int) :: ([.fieldLink RX1 10 "CoatHooks" "rack" "LCoatHooks$Rack;", .methodLink RX1 110 yX0_looksForAll, .instanceMethod yX0_looksForAll, .selects RX0 yX0_looksForAll yX0_looksForAll, .initialized RX0, .code yX0_looksForAll cX0_looksForAll 4 (some .int), .fieldLink RX0 22 "CoatHooks$Rack" "size" "I", .methodLink RX0 33 yX0_heldOn, .instanceMethod yX0_heldOn, .selects RX0 yX0_heldOn yX0_heldOn, .code yX0_heldOn cX0_heldOn 2 (some .int), .fieldLink RX0 9 "CoatHooks$Rack" "held" "[I", .methodLink RX0 47 yX0_countLooks, .instanceMethod yX0_countLooks, .selects RX0 yX0_countLooks yX0_countLooks, .code yX0_countLooks cX0_countLooks 4 (some .int), .methodLink RX0 43 yX0_hookInStep, .instanceMethod yX0_hookInStep, .selects RX0 yX0_hookInStep yX0_hookInStep, .code yX0_hookInStep cX0_hookInStep 4 (some .int), .fieldLink RX0 26 "CoatHooks$Rack" "manner" "I"] ++ wsX10 ++ wsX00)
def wsX1_farthest : List Cond := .code yX1_farthest cX1_farthest 1 (some .int) :: ([.fieldLink RX1 10 "CoatHooks" "rack" "LCoatHooks$Rack;", .methodLink RX1 113 yX0_coatWithMostLooks, .instanceMethod yX0_coatWithMostLooks, .selects RX0 yX0_coatWithMostLooks yX0_coatWithMostLooks, .initialized RX0, .code yX0_coatWithMostLooks cX0_coatWithMostLooks 6 (some .int), .fieldLink RX0 22 "CoatHooks$Rack" "size" "I", .methodLink RX0 33 yX0_heldOn, .instanceMethod yX0_heldOn, .selects RX0 yX0_heldOn yX0_heldOn, .code yX0_heldOn cX0_heldOn 2 (some .int), .fieldLink RX0 9 "CoatHooks$Rack" "held" "[I", .methodLink RX0 47 yX0_countLooks, .instanceMethod yX0_countLooks, .selects RX0 yX0_countLooks yX0_countLooks, .code yX0_countLooks cX0_countLooks 4 (some .int), .methodLink RX0 43 yX0_hookInStep, .instanceMethod yX0_hookInStep, .selects RX0 yX0_hookInStep yX0_hookInStep, .code yX0_hookInStep cX0_hookInStep 4 (some .int), .fieldLink RX0 26 "CoatHooks$Rack" "manner" "I"] ++ wsX10 ++ wsX00)
def wsX1_rows : List Cond := .code yX1_rows cX1_rows 1 (some .int) :: ([.fieldLink RX1 10 "CoatHooks" "rack" "LCoatHooks$Rack;", .methodLink RX1 116 yX0_rowCount, .instanceMethod yX0_rowCount, .selects RX0 yX0_rowCount yX0_rowCount, .initialized RX0, .code yX0_rowCount cX0_rowCount 4 (some .int), .fieldLink RX0 22 "CoatHooks$Rack" "size" "I", .methodLink RX0 33 yX0_heldOn, .instanceMethod yX0_heldOn, .selects RX0 yX0_heldOn yX0_heldOn, .code yX0_heldOn cX0_heldOn 2 (some .int), .fieldLink RX0 9 "CoatHooks$Rack" "held" "[I", .methodLink RX0 57 yX0_behind, .instanceMethod yX0_behind, .selects RX0 yX0_behind yX0_behind, .code yX0_behind cX0_behind 2 (some .int)] ++ wsX10 ++ wsX00)
def wsX1_longestRow : List Cond := .code yX1_longestRow cX1_longestRow 1 (some .int) :: ([.fieldLink RX1 10 "CoatHooks" "rack" "LCoatHooks$Rack;", .methodLink RX1 119 yX0_longestRowLength, .instanceMethod yX0_longestRowLength, .selects RX0 yX0_longestRowLength yX0_longestRowLength, .initialized RX0, .code yX0_longestRowLength cX0_longestRowLength 4 (some .int), .fieldLink RX0 22 "CoatHooks$Rack" "size" "I", .methodLink RX0 63 yX0_rowLength, .instanceMethod yX0_rowLength, .selects RX0 yX0_rowLength yX0_rowLength, .code yX0_rowLength cX0_rowLength 5 (some .int), .methodLink RX0 33 yX0_heldOn, .instanceMethod yX0_heldOn, .selects RX0 yX0_heldOn yX0_heldOn, .code yX0_heldOn cX0_heldOn 2 (some .int), .fieldLink RX0 9 "CoatHooks$Rack" "held" "[I", .methodLink RX0 57 yX0_behind, .instanceMethod yX0_behind, .selects RX0 yX0_behind yX0_behind, .code yX0_behind cX0_behind 2 (some .int), .methodLink RX0 60 yX0_before, .instanceMethod yX0_before, .selects RX0 yX0_before yX0_before, .code yX0_before cX0_before 2 (some .int)] ++ wsX10 ++ wsX00)
def wsX1_rowAt_r1 : List Cond := [Cond.fieldLink RX1 10 "CoatHooks" "rack" "LCoatHooks$Rack;", Cond.methodLink RX1 86 yX1_demandHook, Cond.instanceMethod yX1_demandHook, Cond.selects RX1 yX1_demandHook yX1_demandHook, Cond.initialized RX1, Cond.code yX1_demandHook cX1_demandHook 2 none, Cond.classLink RX1 146 "java/lang/IndexOutOfBoundsException", Cond.initialized "java/lang/IndexOutOfBoundsException", Cond.methodLink RX1 74 yX0_hookCount, Cond.instanceMethod yX0_hookCount, Cond.selects RX0 yX0_hookCount yX0_hookCount, Cond.initialized RX0, Cond.code yX0_hookCount cX0_hookCount 1 (some .int), Cond.fieldLink RX0 22 "CoatHooks$Rack" "size" "I", Cond.methodLink RX1 122 yX0_rowLength, Cond.instanceMethod yX0_rowLength, Cond.selects RX0 yX0_rowLength yX0_rowLength, Cond.code yX0_rowLength cX0_rowLength 5 (some .int), Cond.methodLink RX0 33 yX0_heldOn, Cond.instanceMethod yX0_heldOn, Cond.selects RX0 yX0_heldOn yX0_heldOn, Cond.code yX0_heldOn cX0_heldOn 2 (some .int), Cond.fieldLink RX0 9 "CoatHooks$Rack" "held" "[I", Cond.methodLink RX0 57 yX0_behind]
def wsX1_rowAt_r2 : List Cond := [Cond.instanceMethod yX0_behind, Cond.selects RX0 yX0_behind yX0_behind, Cond.code yX0_behind cX0_behind 2 (some .int), Cond.methodLink RX0 60 yX0_before, Cond.instanceMethod yX0_before, Cond.selects RX0 yX0_before yX0_before, Cond.code yX0_before cX0_before 2 (some .int)]
def wsX1_rowAt : List Cond := .code yX1_rowAt cX1_rowAt 2 (some .int) :: ((wsX1_rowAt_r1 ++ wsX1_rowAt_r2) ++ wsX10 ++ wsX00 ++ (vx_atS RX1 150 "java/lang/IndexOutOfBoundsException" ["java/lang/RuntimeException", "java/lang/Exception"]).filter goodWord)
def wsX1_looksOnTrial_r1 : List Cond := [Cond.fieldLink RX1 16 "CoatHooks" "trial" "LCoatHooks$Rack;", Cond.methodLink RX1 58 yX1_hangAnewOnTrial, Cond.instanceMethod yX1_hangAnewOnTrial, Cond.selects RX1 yX1_hangAnewOnTrial yX1_hangAnewOnTrial, Cond.initialized RX1, Cond.code yX1_hangAnewOnTrial cX1_hangAnewOnTrial 6 (some .boolean), Cond.fieldLink RX1 10 "CoatHooks" "rack" "LCoatHooks$Rack;", Cond.methodLink RX1 151 yX0_clear, Cond.instanceMethod yX0_clear, Cond.selects RX0 yX0_clear yX0_clear, Cond.initialized RX0, Cond.code yX0_clear cX0_clear 4 none, Cond.fieldLink RX0 22 "CoatHooks$Rack" "size" "I", Cond.fieldLink RX0 26 "CoatHooks$Rack" "manner" "I", Cond.fieldLink RX0 9 "CoatHooks$Rack" "held" "[I", Cond.methodLink RX0 29 yX0_put, Cond.instanceMethod yX0_put, Cond.selects RX0 yX0_put yX0_put, Cond.code yX0_put cX0_put 4 none, Cond.fieldLink RX0 15 "CoatHooks$Rack" "weights" "[I", Cond.methodLink RX1 74 yX0_hookCount, Cond.instanceMethod yX0_hookCount, Cond.selects RX0 yX0_hookCount yX0_hookCount, Cond.code yX0_hookCount cX0_hookCount 1 (some .int)]
def wsX1_looksOnTrial_r2 : List Cond := [Cond.methodLink RX1 92 yX0_coatOn, Cond.instanceMethod yX0_coatOn, Cond.selects RX0 yX0_coatOn yX0_coatOn, Cond.code yX0_coatOn cX0_coatOn 3 (some .int), Cond.methodLink RX0 33 yX0_heldOn, Cond.instanceMethod yX0_heldOn, Cond.selects RX0 yX0_heldOn yX0_heldOn, Cond.code yX0_heldOn cX0_heldOn 2 (some .int), Cond.methodLink RX1 154 yX0_openHook, Cond.instanceMethod yX0_openHook, Cond.selects RX0 yX0_openHook yX0_openHook, Cond.code yX0_openHook cX0_openHook 5 (some .int), Cond.methodLink RX0 47 yX0_countLooks, Cond.instanceMethod yX0_countLooks, Cond.selects RX0 yX0_countLooks yX0_countLooks, Cond.code yX0_countLooks cX0_countLooks 4 (some .int), Cond.methodLink RX0 43 yX0_hookInStep, Cond.instanceMethod yX0_hookInStep, Cond.selects RX0 yX0_hookInStep yX0_hookInStep, Cond.code yX0_hookInStep cX0_hookInStep 4 (some .int), Cond.methodLink RX1 48 yX0_weightOn, Cond.instanceMethod yX0_weightOn, Cond.selects RX0 yX0_weightOn yX0_weightOn, Cond.code yX0_weightOn cX0_weightOn 2 (some .int)]
def wsX1_looksOnTrial_r3 : List Cond := [Cond.methodLink RX1 39 yX0_put, Cond.methodLink RX1 110 yX0_looksForAll, Cond.instanceMethod yX0_looksForAll, Cond.selects RX0 yX0_looksForAll yX0_looksForAll, Cond.code yX0_looksForAll cX0_looksForAll 4 (some .int)]
def wsX1_looksOnTrial : List Cond := .code yX1_looksOnTrial cX1_looksOnTrial 3 (some .int) :: ((wsX1_looksOnTrial_r1 ++ (wsX1_looksOnTrial_r2 ++ wsX1_looksOnTrial_r3)) ++ wsX10 ++ wsX00)
def wsX1_looksWith_r1 : List Cond := [Cond.methodLink RX1 54 yX1_demandHooksAndWay, Cond.static yX1_demandHooksAndWay, Cond.initialized RX1, Cond.code yX1_demandHooksAndWay cX1_demandHooksAndWay 2 none, Cond.classLink RX1 23 "java/lang/IllegalArgumentException", Cond.initialized "java/lang/IllegalArgumentException", Cond.methodLink RX1 125 yX1_looksOnTrial, Cond.instanceMethod yX1_looksOnTrial, Cond.selects RX1 yX1_looksOnTrial yX1_looksOnTrial, Cond.code yX1_looksOnTrial cX1_looksOnTrial 3 (some .int), Cond.fieldLink RX1 16 "CoatHooks" "trial" "LCoatHooks$Rack;", Cond.methodLink RX1 58 yX1_hangAnewOnTrial, Cond.instanceMethod yX1_hangAnewOnTrial, Cond.selects RX1 yX1_hangAnewOnTrial yX1_hangAnewOnTrial, Cond.code yX1_hangAnewOnTrial cX1_hangAnewOnTrial 6 (some .boolean), Cond.fieldLink RX1 10 "CoatHooks" "rack" "LCoatHooks$Rack;", Cond.methodLink RX1 151 yX0_clear, Cond.instanceMethod yX0_clear, Cond.selects RX0 yX0_clear yX0_clear, Cond.initialized RX0, Cond.code yX0_clear cX0_clear 4 none, Cond.fieldLink RX0 22 "CoatHooks$Rack" "size" "I", Cond.fieldLink RX0 26 "CoatHooks$Rack" "manner" "I", Cond.fieldLink RX0 9 "CoatHooks$Rack" "held" "[I"]
def wsX1_looksWith_r2 : List Cond := [Cond.methodLink RX0 29 yX0_put, Cond.instanceMethod yX0_put, Cond.selects RX0 yX0_put yX0_put, Cond.code yX0_put cX0_put 4 none, Cond.fieldLink RX0 15 "CoatHooks$Rack" "weights" "[I", Cond.methodLink RX1 74 yX0_hookCount, Cond.instanceMethod yX0_hookCount, Cond.selects RX0 yX0_hookCount yX0_hookCount, Cond.code yX0_hookCount cX0_hookCount 1 (some .int), Cond.methodLink RX1 92 yX0_coatOn, Cond.instanceMethod yX0_coatOn, Cond.selects RX0 yX0_coatOn yX0_coatOn, Cond.code yX0_coatOn cX0_coatOn 3 (some .int), Cond.methodLink RX0 33 yX0_heldOn, Cond.instanceMethod yX0_heldOn, Cond.selects RX0 yX0_heldOn yX0_heldOn, Cond.code yX0_heldOn cX0_heldOn 2 (some .int), Cond.methodLink RX1 154 yX0_openHook, Cond.instanceMethod yX0_openHook, Cond.selects RX0 yX0_openHook yX0_openHook, Cond.code yX0_openHook cX0_openHook 5 (some .int), Cond.methodLink RX0 47 yX0_countLooks, Cond.instanceMethod yX0_countLooks, Cond.selects RX0 yX0_countLooks yX0_countLooks]
def wsX1_looksWith_r3 : List Cond := [Cond.code yX0_countLooks cX0_countLooks 4 (some .int), Cond.methodLink RX0 43 yX0_hookInStep, Cond.instanceMethod yX0_hookInStep, Cond.selects RX0 yX0_hookInStep yX0_hookInStep, Cond.code yX0_hookInStep cX0_hookInStep 4 (some .int), Cond.methodLink RX1 48 yX0_weightOn, Cond.instanceMethod yX0_weightOn, Cond.selects RX0 yX0_weightOn yX0_weightOn, Cond.code yX0_weightOn cX0_weightOn 2 (some .int), Cond.methodLink RX1 39 yX0_put, Cond.methodLink RX1 110 yX0_looksForAll, Cond.instanceMethod yX0_looksForAll, Cond.selects RX0 yX0_looksForAll yX0_looksForAll, Cond.code yX0_looksForAll cX0_looksForAll 4 (some .int)]
def wsX1_looksWith : List Cond := .code yX1_looksWith cX1_looksWith 3 (some .int) :: ((wsX1_looksWith_r1 ++ (wsX1_looksWith_r2 ++ wsX1_looksWith_r3)) ++ wsX10 ++ wsX00 ++ (vx_atS RX1 27 "java/lang/IllegalArgumentException" ["java/lang/RuntimeException", "java/lang/Exception"]).filter goodWord)
def wsX1_bestWay_r1 : List Cond := [Cond.fieldLink RX1 10 "CoatHooks" "rack" "LCoatHooks$Rack;", Cond.methodLink RX1 74 yX0_hookCount, Cond.instanceMethod yX0_hookCount, Cond.selects RX0 yX0_hookCount yX0_hookCount, Cond.initialized RX0, Cond.code yX0_hookCount cX0_hookCount 1 (some .int), Cond.fieldLink RX0 22 "CoatHooks$Rack" "size" "I", Cond.methodLink RX1 125 yX1_looksOnTrial, Cond.instanceMethod yX1_looksOnTrial, Cond.selects RX1 yX1_looksOnTrial yX1_looksOnTrial, Cond.initialized RX1, Cond.code yX1_looksOnTrial cX1_looksOnTrial 3 (some .int), Cond.fieldLink RX1 16 "CoatHooks" "trial" "LCoatHooks$Rack;", Cond.methodLink RX1 58 yX1_hangAnewOnTrial, Cond.instanceMethod yX1_hangAnewOnTrial, Cond.selects RX1 yX1_hangAnewOnTrial yX1_hangAnewOnTrial, Cond.code yX1_hangAnewOnTrial cX1_hangAnewOnTrial 6 (some .boolean), Cond.methodLink RX1 151 yX0_clear, Cond.instanceMethod yX0_clear, Cond.selects RX0 yX0_clear yX0_clear, Cond.code yX0_clear cX0_clear 4 none, Cond.fieldLink RX0 26 "CoatHooks$Rack" "manner" "I", Cond.fieldLink RX0 9 "CoatHooks$Rack" "held" "[I", Cond.methodLink RX0 29 yX0_put]
def wsX1_bestWay_r2 : List Cond := [Cond.instanceMethod yX0_put, Cond.selects RX0 yX0_put yX0_put, Cond.code yX0_put cX0_put 4 none, Cond.fieldLink RX0 15 "CoatHooks$Rack" "weights" "[I", Cond.methodLink RX1 92 yX0_coatOn, Cond.instanceMethod yX0_coatOn, Cond.selects RX0 yX0_coatOn yX0_coatOn, Cond.code yX0_coatOn cX0_coatOn 3 (some .int), Cond.methodLink RX0 33 yX0_heldOn, Cond.instanceMethod yX0_heldOn, Cond.selects RX0 yX0_heldOn yX0_heldOn, Cond.code yX0_heldOn cX0_heldOn 2 (some .int), Cond.methodLink RX1 154 yX0_openHook, Cond.instanceMethod yX0_openHook, Cond.selects RX0 yX0_openHook yX0_openHook, Cond.code yX0_openHook cX0_openHook 5 (some .int), Cond.methodLink RX0 47 yX0_countLooks, Cond.instanceMethod yX0_countLooks, Cond.selects RX0 yX0_countLooks yX0_countLooks, Cond.code yX0_countLooks cX0_countLooks 4 (some .int), Cond.methodLink RX0 43 yX0_hookInStep, Cond.instanceMethod yX0_hookInStep, Cond.selects RX0 yX0_hookInStep yX0_hookInStep, Cond.code yX0_hookInStep cX0_hookInStep 4 (some .int)]
def wsX1_bestWay_r3 : List Cond := [Cond.methodLink RX1 48 yX0_weightOn, Cond.instanceMethod yX0_weightOn, Cond.selects RX0 yX0_weightOn yX0_weightOn, Cond.code yX0_weightOn cX0_weightOn 2 (some .int), Cond.methodLink RX1 39 yX0_put, Cond.methodLink RX1 110 yX0_looksForAll, Cond.instanceMethod yX0_looksForAll, Cond.selects RX0 yX0_looksForAll yX0_looksForAll, Cond.code yX0_looksForAll cX0_looksForAll 4 (some .int)]
def wsX1_bestWay : List Cond := .code yX1_bestWay cX1_bestWay 5 (some .int) :: ((wsX1_bestWay_r1 ++ (wsX1_bestWay_r2 ++ wsX1_bestWay_r3)) ++ wsX10 ++ wsX00)
def wsX1_fewestHooks_r1 : List Cond := [Cond.fieldLink RX1 10 "CoatHooks" "rack" "LCoatHooks$Rack;", Cond.methodLink RX1 83 yX0_usherWay, Cond.instanceMethod yX0_usherWay, Cond.selects RX0 yX0_usherWay yX0_usherWay, Cond.initialized RX0, Cond.code yX0_usherWay cX0_usherWay 1 (some .int), Cond.fieldLink RX0 26 "CoatHooks$Rack" "manner" "I", Cond.methodLink RX1 125 yX1_looksOnTrial, Cond.instanceMethod yX1_looksOnTrial, Cond.selects RX1 yX1_looksOnTrial yX1_looksOnTrial, Cond.initialized RX1, Cond.code yX1_looksOnTrial cX1_looksOnTrial 3 (some .int), Cond.fieldLink RX1 16 "CoatHooks" "trial" "LCoatHooks$Rack;", Cond.methodLink RX1 58 yX1_hangAnewOnTrial, Cond.instanceMethod yX1_hangAnewOnTrial, Cond.selects RX1 yX1_hangAnewOnTrial yX1_hangAnewOnTrial, Cond.code yX1_hangAnewOnTrial cX1_hangAnewOnTrial 6 (some .boolean), Cond.methodLink RX1 151 yX0_clear, Cond.instanceMethod yX0_clear, Cond.selects RX0 yX0_clear yX0_clear, Cond.code yX0_clear cX0_clear 4 none, Cond.fieldLink RX0 22 "CoatHooks$Rack" "size" "I", Cond.fieldLink RX0 9 "CoatHooks$Rack" "held" "[I", Cond.methodLink RX0 29 yX0_put]
def wsX1_fewestHooks_r2 : List Cond := [Cond.instanceMethod yX0_put, Cond.selects RX0 yX0_put yX0_put, Cond.code yX0_put cX0_put 4 none, Cond.fieldLink RX0 15 "CoatHooks$Rack" "weights" "[I", Cond.methodLink RX1 74 yX0_hookCount, Cond.instanceMethod yX0_hookCount, Cond.selects RX0 yX0_hookCount yX0_hookCount, Cond.code yX0_hookCount cX0_hookCount 1 (some .int), Cond.methodLink RX1 92 yX0_coatOn, Cond.instanceMethod yX0_coatOn, Cond.selects RX0 yX0_coatOn yX0_coatOn, Cond.code yX0_coatOn cX0_coatOn 3 (some .int), Cond.methodLink RX0 33 yX0_heldOn, Cond.instanceMethod yX0_heldOn, Cond.selects RX0 yX0_heldOn yX0_heldOn, Cond.code yX0_heldOn cX0_heldOn 2 (some .int), Cond.methodLink RX1 154 yX0_openHook, Cond.instanceMethod yX0_openHook, Cond.selects RX0 yX0_openHook yX0_openHook, Cond.code yX0_openHook cX0_openHook 5 (some .int), Cond.methodLink RX0 47 yX0_countLooks, Cond.instanceMethod yX0_countLooks, Cond.selects RX0 yX0_countLooks yX0_countLooks, Cond.code yX0_countLooks cX0_countLooks 4 (some .int)]
def wsX1_fewestHooks_r3 : List Cond := [Cond.methodLink RX0 43 yX0_hookInStep, Cond.instanceMethod yX0_hookInStep, Cond.selects RX0 yX0_hookInStep yX0_hookInStep, Cond.code yX0_hookInStep cX0_hookInStep 4 (some .int), Cond.methodLink RX1 48 yX0_weightOn, Cond.instanceMethod yX0_weightOn, Cond.selects RX0 yX0_weightOn yX0_weightOn, Cond.code yX0_weightOn cX0_weightOn 2 (some .int), Cond.methodLink RX1 39 yX0_put, Cond.methodLink RX1 110 yX0_looksForAll, Cond.instanceMethod yX0_looksForAll, Cond.selects RX0 yX0_looksForAll yX0_looksForAll, Cond.code yX0_looksForAll cX0_looksForAll 4 (some .int)]
def wsX1_fewestHooks : List Cond := .code yX1_fewestHooks cX1_fewestHooks 4 (some .int) :: ((wsX1_fewestHooks_r1 ++ (wsX1_fewestHooks_r2 ++ wsX1_fewestHooks_r3)) ++ wsX10 ++ wsX00)
def wsX1_hooksWanted_r1 : List Cond := [Cond.classLink RX1 23 "java/lang/IllegalArgumentException", Cond.initialized "java/lang/IllegalArgumentException", Cond.methodLink RX1 130 yX1_fewestHooks, Cond.instanceMethod yX1_fewestHooks, Cond.selects RX1 yX1_fewestHooks yX1_fewestHooks, Cond.initialized RX1, Cond.code yX1_fewestHooks cX1_fewestHooks 4 (some .int), Cond.fieldLink RX1 10 "CoatHooks" "rack" "LCoatHooks$Rack;", Cond.methodLink RX1 83 yX0_usherWay, Cond.instanceMethod yX0_usherWay, Cond.selects RX0 yX0_usherWay yX0_usherWay, Cond.initialized RX0, Cond.code yX0_usherWay cX0_usherWay 1 (some .int), Cond.fieldLink RX0 26 "CoatHooks$Rack" "manner" "I", Cond.methodLink RX1 125 yX1_looksOnTrial, Cond.instanceMethod yX1_looksOnTrial, Cond.selects RX1 yX1_looksOnTrial yX1_looksOnTrial, Cond.code yX1_looksOnTrial cX1_looksOnTrial 3 (some .int), Cond.fieldLink RX1 16 "CoatHooks" "trial" "LCoatHooks$Rack;", Cond.methodLink RX1 58 yX1_hangAnewOnTrial, Cond.instanceMethod yX1_hangAnewOnTrial, Cond.selects RX1 yX1_hangAnewOnTrial yX1_hangAnewOnTrial, Cond.code yX1_hangAnewOnTrial cX1_hangAnewOnTrial 6 (some .boolean), Cond.methodLink RX1 151 yX0_clear]
def wsX1_hooksWanted_r2 : List Cond := [Cond.instanceMethod yX0_clear, Cond.selects RX0 yX0_clear yX0_clear, Cond.code yX0_clear cX0_clear 4 none, Cond.fieldLink RX0 22 "CoatHooks$Rack" "size" "I", Cond.fieldLink RX0 9 "CoatHooks$Rack" "held" "[I", Cond.methodLink RX0 29 yX0_put, Cond.instanceMethod yX0_put, Cond.selects RX0 yX0_put yX0_put, Cond.code yX0_put cX0_put 4 none, Cond.fieldLink RX0 15 "CoatHooks$Rack" "weights" "[I", Cond.methodLink RX1 74 yX0_hookCount, Cond.instanceMethod yX0_hookCount, Cond.selects RX0 yX0_hookCount yX0_hookCount, Cond.code yX0_hookCount cX0_hookCount 1 (some .int), Cond.methodLink RX1 92 yX0_coatOn, Cond.instanceMethod yX0_coatOn, Cond.selects RX0 yX0_coatOn yX0_coatOn, Cond.code yX0_coatOn cX0_coatOn 3 (some .int), Cond.methodLink RX0 33 yX0_heldOn, Cond.instanceMethod yX0_heldOn, Cond.selects RX0 yX0_heldOn yX0_heldOn, Cond.code yX0_heldOn cX0_heldOn 2 (some .int), Cond.methodLink RX1 154 yX0_openHook, Cond.instanceMethod yX0_openHook]
def wsX1_hooksWanted_r3 : List Cond := [Cond.selects RX0 yX0_openHook yX0_openHook, Cond.code yX0_openHook cX0_openHook 5 (some .int), Cond.methodLink RX0 47 yX0_countLooks, Cond.instanceMethod yX0_countLooks, Cond.selects RX0 yX0_countLooks yX0_countLooks, Cond.code yX0_countLooks cX0_countLooks 4 (some .int), Cond.methodLink RX0 43 yX0_hookInStep, Cond.instanceMethod yX0_hookInStep, Cond.selects RX0 yX0_hookInStep yX0_hookInStep, Cond.code yX0_hookInStep cX0_hookInStep 4 (some .int), Cond.methodLink RX1 48 yX0_weightOn, Cond.instanceMethod yX0_weightOn, Cond.selects RX0 yX0_weightOn yX0_weightOn, Cond.code yX0_weightOn cX0_weightOn 2 (some .int), Cond.methodLink RX1 39 yX0_put, Cond.methodLink RX1 110 yX0_looksForAll, Cond.instanceMethod yX0_looksForAll, Cond.selects RX0 yX0_looksForAll yX0_looksForAll, Cond.code yX0_looksForAll cX0_looksForAll 4 (some .int)]
def wsX1_hooksWanted : List Cond := .code yX1_hooksWanted cX1_hooksWanted 2 (some .int) :: ((wsX1_hooksWanted_r1 ++ (wsX1_hooksWanted_r2 ++ wsX1_hooksWanted_r3)) ++ wsX10 ++ wsX00 ++ (vx_atS RX1 27 "java/lang/IllegalArgumentException" ["java/lang/RuntimeException", "java/lang/Exception"]).filter goodWord)
def wsX1_meanLooks_r1 : List Cond := [Cond.fieldLink RX1 10 "CoatHooks" "rack" "LCoatHooks$Rack;", Cond.methodLink RX1 71 yX0_countInState, Cond.instanceMethod yX0_countInState, Cond.selects RX0 yX0_countInState yX0_countInState, Cond.initialized RX0, Cond.code yX0_countInState cX0_countInState 4 (some .int), Cond.fieldLink RX0 22 "CoatHooks$Rack" "size" "I", Cond.methodLink RX0 37 yX0_stateOn, Cond.instanceMethod yX0_stateOn, Cond.selects RX0 yX0_stateOn yX0_stateOn, Cond.code yX0_stateOn cX0_stateOn 3 (some .int), Cond.methodLink RX0 33 yX0_heldOn, Cond.instanceMethod yX0_heldOn, Cond.selects RX0 yX0_heldOn yX0_heldOn, Cond.code yX0_heldOn cX0_heldOn 2 (some .int), Cond.fieldLink RX0 9 "CoatHooks$Rack" "held" "[I", Cond.methodLink RX1 110 yX0_looksForAll, Cond.instanceMethod yX0_looksForAll, Cond.selects RX0 yX0_looksForAll yX0_looksForAll, Cond.code yX0_looksForAll cX0_looksForAll 4 (some .int), Cond.methodLink RX0 47 yX0_countLooks, Cond.instanceMethod yX0_countLooks, Cond.selects RX0 yX0_countLooks yX0_countLooks, Cond.code yX0_countLooks cX0_countLooks 4 (some .int)]
def wsX1_meanLooks_r2 : List Cond := [Cond.methodLink RX0 43 yX0_hookInStep, Cond.instanceMethod yX0_hookInStep, Cond.selects RX0 yX0_hookInStep yX0_hookInStep, Cond.code yX0_hookInStep cX0_hookInStep 4 (some .int), Cond.fieldLink RX0 26 "CoatHooks$Rack" "manner" "I"]
def wsX1_meanLooks : List Cond := .code yX1_meanLooks cX1_meanLooks 2 (some .double) :: ((wsX1_meanLooks_r1 ++ wsX1_meanLooks_r2) ++ wsX10 ++ wsX00)
def wsX1_digest_r1 : List Cond := [Cond.constantLong RX1 133 (2237), Cond.constantLong RX1 135 (31), Cond.fieldLink RX1 10 "CoatHooks" "rack" "LCoatHooks$Rack;", Cond.methodLink RX1 74 yX0_hookCount, Cond.instanceMethod yX0_hookCount, Cond.selects RX0 yX0_hookCount yX0_hookCount, Cond.initialized RX0, Cond.code yX0_hookCount cX0_hookCount 1 (some .int), Cond.fieldLink RX0 22 "CoatHooks$Rack" "size" "I", Cond.methodLink RX1 83 yX0_usherWay, Cond.instanceMethod yX0_usherWay, Cond.selects RX0 yX0_usherWay yX0_usherWay, Cond.code yX0_usherWay cX0_usherWay 1 (some .int), Cond.fieldLink RX0 26 "CoatHooks$Rack" "manner" "I", Cond.methodLink RX1 71 yX0_countInState, Cond.instanceMethod yX0_countInState, Cond.selects RX0 yX0_countInState yX0_countInState, Cond.code yX0_countInState cX0_countInState 4 (some .int), Cond.methodLink RX0 37 yX0_stateOn, Cond.instanceMethod yX0_stateOn, Cond.selects RX0 yX0_stateOn yX0_stateOn, Cond.code yX0_stateOn cX0_stateOn 3 (some .int), Cond.methodLink RX0 33 yX0_heldOn, Cond.instanceMethod yX0_heldOn]
def wsX1_digest_r2 : List Cond := [Cond.selects RX0 yX0_heldOn yX0_heldOn, Cond.code yX0_heldOn cX0_heldOn 2 (some .int), Cond.fieldLink RX0 9 "CoatHooks$Rack" "held" "[I", Cond.methodLink RX1 95 yX0_weightOfAll, Cond.instanceMethod yX0_weightOfAll, Cond.selects RX0 yX0_weightOfAll yX0_weightOfAll, Cond.code yX0_weightOfAll cX0_weightOfAll 3 (some .int), Cond.methodLink RX0 40 yX0_weightOn, Cond.instanceMethod yX0_weightOn, Cond.selects RX0 yX0_weightOn yX0_weightOn, Cond.code yX0_weightOn cX0_weightOn 2 (some .int), Cond.fieldLink RX0 15 "CoatHooks$Rack" "weights" "[I", Cond.methodLink RX1 98 yX0_hookOfHeaviest, Cond.instanceMethod yX0_hookOfHeaviest, Cond.selects RX0 yX0_hookOfHeaviest yX0_hookOfHeaviest, Cond.code yX0_hookOfHeaviest cX0_hookOfHeaviest 4 (some .int), Cond.methodLink RX1 110 yX0_looksForAll, Cond.instanceMethod yX0_looksForAll, Cond.selects RX0 yX0_looksForAll yX0_looksForAll, Cond.code yX0_looksForAll cX0_looksForAll 4 (some .int), Cond.methodLink RX0 47 yX0_countLooks, Cond.instanceMethod yX0_countLooks, Cond.selects RX0 yX0_countLooks yX0_countLooks, Cond.code yX0_countLooks cX0_countLooks 4 (some .int)]
def wsX1_digest_r3 : List Cond := [Cond.methodLink RX0 43 yX0_hookInStep, Cond.instanceMethod yX0_hookInStep, Cond.selects RX0 yX0_hookInStep yX0_hookInStep, Cond.code yX0_hookInStep cX0_hookInStep 4 (some .int), Cond.methodLink RX1 113 yX0_coatWithMostLooks, Cond.instanceMethod yX0_coatWithMostLooks, Cond.selects RX0 yX0_coatWithMostLooks yX0_coatWithMostLooks, Cond.code yX0_coatWithMostLooks cX0_coatWithMostLooks 6 (some .int), Cond.methodLink RX1 116 yX0_rowCount, Cond.instanceMethod yX0_rowCount, Cond.selects RX0 yX0_rowCount yX0_rowCount, Cond.code yX0_rowCount cX0_rowCount 4 (some .int), Cond.methodLink RX0 57 yX0_behind, Cond.instanceMethod yX0_behind, Cond.selects RX0 yX0_behind yX0_behind, Cond.code yX0_behind cX0_behind 2 (some .int), Cond.methodLink RX1 119 yX0_longestRowLength, Cond.instanceMethod yX0_longestRowLength, Cond.selects RX0 yX0_longestRowLength yX0_longestRowLength, Cond.code yX0_longestRowLength cX0_longestRowLength 4 (some .int), Cond.methodLink RX0 63 yX0_rowLength, Cond.instanceMethod yX0_rowLength, Cond.selects RX0 yX0_rowLength yX0_rowLength, Cond.code yX0_rowLength cX0_rowLength 5 (some .int)]
def wsX1_digest_r4 : List Cond := [Cond.methodLink RX0 60 yX0_before, Cond.instanceMethod yX0_before, Cond.selects RX0 yX0_before yX0_before, Cond.code yX0_before cX0_before 2 (some .int), Cond.methodLink RX1 137 yX1_bestWay, Cond.instanceMethod yX1_bestWay, Cond.selects RX1 yX1_bestWay yX1_bestWay, Cond.initialized RX1, Cond.code yX1_bestWay cX1_bestWay 5 (some .int), Cond.methodLink RX1 125 yX1_looksOnTrial, Cond.instanceMethod yX1_looksOnTrial, Cond.selects RX1 yX1_looksOnTrial yX1_looksOnTrial, Cond.code yX1_looksOnTrial cX1_looksOnTrial 3 (some .int), Cond.fieldLink RX1 16 "CoatHooks" "trial" "LCoatHooks$Rack;", Cond.methodLink RX1 58 yX1_hangAnewOnTrial, Cond.instanceMethod yX1_hangAnewOnTrial, Cond.selects RX1 yX1_hangAnewOnTrial yX1_hangAnewOnTrial, Cond.code yX1_hangAnewOnTrial cX1_hangAnewOnTrial 6 (some .boolean), Cond.methodLink RX1 151 yX0_clear, Cond.instanceMethod yX0_clear, Cond.selects RX0 yX0_clear yX0_clear, Cond.code yX0_clear cX0_clear 4 none, Cond.methodLink RX0 29 yX0_put, Cond.instanceMethod yX0_put]
def wsX1_digest_r5 : List Cond := [Cond.selects RX0 yX0_put yX0_put, Cond.code yX0_put cX0_put 4 none, Cond.methodLink RX1 92 yX0_coatOn, Cond.instanceMethod yX0_coatOn, Cond.selects RX0 yX0_coatOn yX0_coatOn, Cond.code yX0_coatOn cX0_coatOn 3 (some .int), Cond.methodLink RX1 154 yX0_openHook, Cond.instanceMethod yX0_openHook, Cond.selects RX0 yX0_openHook yX0_openHook, Cond.code yX0_openHook cX0_openHook 5 (some .int), Cond.methodLink RX1 48 yX0_weightOn, Cond.methodLink RX1 39 yX0_put, Cond.methodLink RX1 130 yX1_fewestHooks, Cond.instanceMethod yX1_fewestHooks, Cond.selects RX1 yX1_fewestHooks yX1_fewestHooks, Cond.code yX1_fewestHooks cX1_fewestHooks 4 (some .int), Cond.methodLink RX1 89 yX0_stateOn, Cond.methodLink RX1 122 yX0_rowLength, Cond.methodLink RX1 101 yX0_countLooks]
def wsX1_digest : List Cond := .code yX1_digest cX1_digest 4 (some .long) :: ((wsX1_digest_r1 ++ (wsX1_digest_r2 ++ (wsX1_digest_r3 ++ (wsX1_digest_r4 ++ wsX1_digest_r5)))) ++ wsX10 ++ wsX00)
def wsX2_clear : List Cond := .code yX2_clear cX2_clear 3 none :: ([])
def wsX2_init : List Cond := .code yX2_init cX2_init 1 none :: ([.methodLink RX2 1 objectInit, .instanceMethod objectInit, .code objectInit ⟨#[0xb1]⟩ 1 none, .fieldLink RX2 7 "CoatHooksModel" "hooks" "I", .arrayClass .int, .fieldLink RX2 13 "CoatHooksModel" "row" "[I", .fieldLink RX2 17 "CoatHooksModel" "heavy" "[I", .fieldLink RX2 20 "CoatHooksModel" "other" "[I", .fieldLink RX2 23 "CoatHooksModel" "otherHeavy" "[I", .methodLink RX2 26 yX2_clear, .static yX2_clear, .initialized RX2, .code yX2_clear cX2_clear 3 none] ++ wsX20)
def wsX2_thrown : List Cond := .code yX2_thrown cX2_thrown 1 (some .int) :: ([.fieldLink RX2 30 "CoatHooksModel" "thrown" "I"] ++ wsX20)
def wsX2_no : List Cond := .code yX2_no cX2_no 2 (some .int) :: ([.fieldLink RX2 30 "CoatHooksModel" "thrown" "I"] ++ wsX20)
def wsX2_ok : List Cond := .code yX2_ok cX2_ok 2 (some .int) :: ([.fieldLink RX2 30 "CoatHooksModel" "thrown" "I"] ++ wsX20)
def wsX2_isIn : List Cond := .code yX2_isIn cX2_isIn 3 (some .boolean) :: ([])
def wsX2_isNumber : List Cond := .code yX2_isNumber cX2_isNumber 1 (some .boolean) :: ([.methodLink RX2 33 yX2_isIn, .static yX2_isIn, .initialized RX2, .code yX2_isIn cX2_isIn 3 (some .boolean)])
def wsX2_isHook : List Cond := .code yX2_isHook cX2_isHook 2 (some .boolean) :: ([.fieldLink RX2 7 "CoatHooksModel" "hooks" "I", .methodLink RX2 33 yX2_isIn, .static yX2_isIn, .initialized RX2, .code yX2_isIn cX2_isIn 3 (some .boolean)] ++ wsX20)
def wsX2_look : List Cond := .code yX2_look cX2_look 7 none :: ([.fieldLink RX2 37 "CoatHooksModel" "looks" "I", .fieldLink RX2 40 "CoatHooksModel" "found" "I", .fieldLink RX2 43 "CoatHooksModel" "free" "I", .fieldLink RX2 46 "CoatHooksModel" "ticket" "I"] ++ wsX20)
def wsX2_lookNow : List Cond := .code yX2_lookNow cX2_lookNow 2 none :: ([.fieldLink RX2 13 "CoatHooksModel" "row" "[I", .fieldLink RX2 7 "CoatHooksModel" "hooks" "I", .fieldLink RX2 49 "CoatHooksModel" "way" "I", .methodLink RX2 52 yX2_look, .instanceMethod yX2_look, .selects RX2 yX2_look yX2_look, .initialized RX2, .code yX2_look cX2_look 7 none, .fieldLink RX2 37 "CoatHooksModel" "looks" "I", .fieldLink RX2 40 "CoatHooksModel" "found" "I", .fieldLink RX2 43 "CoatHooksModel" "free" "I", .fieldLink RX2 46 "CoatHooksModel" "ticket" "I"] ++ wsX20)
def wsX2_hangs : List Cond := .code yX2_hangs cX2_hangs 3 (some .boolean) :: ([.fieldLink RX2 7 "CoatHooksModel" "hooks" "I", .fieldLink RX2 13 "CoatHooksModel" "row" "[I"] ++ wsX20)
def wsX2_place : List Cond := .code yX2_place cX2_place 2 (some .int) :: ([.fieldLink RX2 46 "CoatHooksModel" "ticket" "I", .fieldLink RX2 43 "CoatHooksModel" "free" "I", .methodLink RX2 56 yX2_hangs, .instanceMethod yX2_hangs, .selects RX2 yX2_hangs yX2_hangs, .initialized RX2, .code yX2_hangs cX2_hangs 3 (some .boolean), .fieldLink RX2 7 "CoatHooksModel" "hooks" "I", .fieldLink RX2 13 "CoatHooksModel" "row" "[I", .methodLink RX2 60 yX2_lookNow, .instanceMethod yX2_lookNow, .selects RX2 yX2_lookNow yX2_lookNow, .code yX2_lookNow cX2_lookNow 2 none, .fieldLink RX2 49 "CoatHooksModel" "way" "I", .methodLink RX2 52 yX2_look, .instanceMethod yX2_look, .selects RX2 yX2_look yX2_look, .code yX2_look cX2_look 7 none, .fieldLink RX2 37 "CoatHooksModel" "looks" "I", .fieldLink RX2 40 "CoatHooksModel" "found" "I"] ++ wsX20)
def wsX2_anew : List Cond := .code yX2_anew cX2_anew 5 (some .int) :: ([.fieldLink RX2 20 "CoatHooksModel" "other" "[I", .fieldLink RX2 7 "CoatHooksModel" "hooks" "I", .fieldLink RX2 13 "CoatHooksModel" "row" "[I", .fieldLink RX2 43 "CoatHooksModel" "free" "I", .fieldLink RX2 23 "CoatHooksModel" "otherHeavy" "[I", .fieldLink RX2 17 "CoatHooksModel" "heavy" "[I", .fieldLink RX2 37 "CoatHooksModel" "looks" "I", .methodLink RX2 26 yX2_clear, .static yX2_clear, .initialized RX2, .code yX2_clear cX2_clear 3 none, .methodLink RX2 52 yX2_look, .instanceMethod yX2_look, .selects RX2 yX2_look yX2_look, .code yX2_look cX2_look 7 none, .fieldLink RX2 40 "CoatHooksModel" "found" "I", .fieldLink RX2 46 "CoatHooksModel" "ticket" "I"] ++ wsX20)
def wsX2_moved : List Cond := .code yX2_moved cX2_moved 3 (some .int) :: ([.fieldLink RX2 7 "CoatHooksModel" "hooks" "I", .fieldLink RX2 13 "CoatHooksModel" "row" "[I", .fieldLink RX2 20 "CoatHooksModel" "other" "[I"] ++ wsX20)
def wsX2_hung : List Cond := .code yX2_hung cX2_hung 4 (some .int) :: ([.fieldLink RX2 13 "CoatHooksModel" "row" "[I", .fieldLink RX2 17 "CoatHooksModel" "heavy" "[I"] ++ wsX20)
def wsX2_hang_r1 : List Cond := [Cond.fieldLink RX2 30 "CoatHooksModel" "thrown" "I", Cond.methodLink RX2 64 yX2_isNumber, Cond.static yX2_isNumber, Cond.initialized RX2, Cond.code yX2_isNumber cX2_isNumber 1 (some .boolean), Cond.methodLink RX2 33 yX2_isIn, Cond.static yX2_isIn, Cond.code yX2_isIn cX2_isIn 3 (some .boolean), Cond.methodLink RX2 67 yX2_no, Cond.instanceMethod yX2_no, Cond.selects RX2 yX2_no yX2_no, Cond.code yX2_no cX2_no 2 (some .int), Cond.methodLink RX2 71 yX2_place, Cond.instanceMethod yX2_place, Cond.selects RX2 yX2_place yX2_place, Cond.code yX2_place cX2_place 2 (some .int), Cond.fieldLink RX2 46 "CoatHooksModel" "ticket" "I", Cond.fieldLink RX2 43 "CoatHooksModel" "free" "I", Cond.methodLink RX2 56 yX2_hangs, Cond.instanceMethod yX2_hangs, Cond.selects RX2 yX2_hangs yX2_hangs, Cond.code yX2_hangs cX2_hangs 3 (some .boolean), Cond.fieldLink RX2 7 "CoatHooksModel" "hooks" "I", Cond.fieldLink RX2 13 "CoatHooksModel" "row" "[I"]
def wsX2_hang_r2 : List Cond := [Cond.methodLink RX2 60 yX2_lookNow, Cond.instanceMethod yX2_lookNow, Cond.selects RX2 yX2_lookNow yX2_lookNow, Cond.code yX2_lookNow cX2_lookNow 2 none, Cond.fieldLink RX2 49 "CoatHooksModel" "way" "I", Cond.methodLink RX2 52 yX2_look, Cond.instanceMethod yX2_look, Cond.selects RX2 yX2_look yX2_look, Cond.code yX2_look cX2_look 7 none, Cond.fieldLink RX2 37 "CoatHooksModel" "looks" "I", Cond.fieldLink RX2 40 "CoatHooksModel" "found" "I", Cond.methodLink RX2 74 yX2_hung, Cond.instanceMethod yX2_hung, Cond.selects RX2 yX2_hung yX2_hung, Cond.code yX2_hung cX2_hung 4 (some .int), Cond.fieldLink RX2 17 "CoatHooksModel" "heavy" "[I"]
def wsX2_hang : List Cond := .code yX2_hang cX2_hang 4 (some .int) :: ((wsX2_hang_r1 ++ wsX2_hang_r2) ++ wsX20)
def wsX2_take_r1 : List Cond := [Cond.fieldLink RX2 30 "CoatHooksModel" "thrown" "I", Cond.fieldLink RX2 40 "CoatHooksModel" "found" "I", Cond.fieldLink RX2 13 "CoatHooksModel" "row" "[I", Cond.fieldLink RX2 17 "CoatHooksModel" "heavy" "[I", Cond.methodLink RX2 64 yX2_isNumber, Cond.static yX2_isNumber, Cond.initialized RX2, Cond.code yX2_isNumber cX2_isNumber 1 (some .boolean), Cond.methodLink RX2 33 yX2_isIn, Cond.static yX2_isIn, Cond.code yX2_isIn cX2_isIn 3 (some .boolean), Cond.methodLink RX2 67 yX2_no, Cond.instanceMethod yX2_no, Cond.selects RX2 yX2_no yX2_no, Cond.code yX2_no cX2_no 2 (some .int), Cond.methodLink RX2 60 yX2_lookNow, Cond.instanceMethod yX2_lookNow, Cond.selects RX2 yX2_lookNow yX2_lookNow, Cond.code yX2_lookNow cX2_lookNow 2 none, Cond.fieldLink RX2 7 "CoatHooksModel" "hooks" "I", Cond.fieldLink RX2 49 "CoatHooksModel" "way" "I", Cond.methodLink RX2 52 yX2_look, Cond.instanceMethod yX2_look, Cond.selects RX2 yX2_look yX2_look]
def wsX2_take_r2 : List Cond := [Cond.code yX2_look cX2_look 7 none, Cond.fieldLink RX2 37 "CoatHooksModel" "looks" "I", Cond.fieldLink RX2 43 "CoatHooksModel" "free" "I", Cond.fieldLink RX2 46 "CoatHooksModel" "ticket" "I"]
def wsX2_take : List Cond := .code yX2_take cX2_take 2 (some .int) :: ((wsX2_take_r1 ++ wsX2_take_r2) ++ wsX20)
def wsX2_rehang_r1 : List Cond := [Cond.fieldLink RX2 30 "CoatHooksModel" "thrown" "I", Cond.fieldLink RX2 20 "CoatHooksModel" "other" "[I", Cond.fieldLink RX2 13 "CoatHooksModel" "row" "[I", Cond.fieldLink RX2 17 "CoatHooksModel" "heavy" "[I", Cond.fieldLink RX2 23 "CoatHooksModel" "otherHeavy" "[I", Cond.fieldLink RX2 7 "CoatHooksModel" "hooks" "I", Cond.fieldLink RX2 49 "CoatHooksModel" "way" "I", Cond.methodLink RX2 33 yX2_isIn, Cond.static yX2_isIn, Cond.initialized RX2, Cond.code yX2_isIn cX2_isIn 3 (some .boolean), Cond.methodLink RX2 67 yX2_no, Cond.instanceMethod yX2_no, Cond.selects RX2 yX2_no yX2_no, Cond.code yX2_no cX2_no 2 (some .int), Cond.methodLink RX2 78 yX2_anew, Cond.instanceMethod yX2_anew, Cond.selects RX2 yX2_anew yX2_anew, Cond.code yX2_anew cX2_anew 5 (some .int), Cond.fieldLink RX2 43 "CoatHooksModel" "free" "I", Cond.fieldLink RX2 37 "CoatHooksModel" "looks" "I", Cond.methodLink RX2 26 yX2_clear, Cond.static yX2_clear, Cond.code yX2_clear cX2_clear 3 none]
def wsX2_rehang_r2 : List Cond := [Cond.methodLink RX2 52 yX2_look, Cond.instanceMethod yX2_look, Cond.selects RX2 yX2_look yX2_look, Cond.code yX2_look cX2_look 7 none, Cond.fieldLink RX2 40 "CoatHooksModel" "found" "I", Cond.fieldLink RX2 46 "CoatHooksModel" "ticket" "I", Cond.methodLink RX2 82 yX2_moved, Cond.instanceMethod yX2_moved, Cond.selects RX2 yX2_moved yX2_moved, Cond.code yX2_moved cX2_moved 3 (some .int)]
def wsX2_rehang : List Cond := .code yX2_rehang cX2_rehang 5 (some .int) :: ((wsX2_rehang_r1 ++ wsX2_rehang_r2) ++ wsX20)
def wsX2_count : List Cond := .code yX2_count cX2_count 4 (some .int) :: ([.fieldLink RX2 7 "CoatHooksModel" "hooks" "I", .fieldLink RX2 13 "CoatHooksModel" "row" "[I"] ++ wsX20)
def wsX2_sweep : List Cond := .code yX2_sweep cX2_sweep 3 (some .int) :: ([.fieldLink RX2 30 "CoatHooksModel" "thrown" "I", .fieldLink RX2 7 "CoatHooksModel" "hooks" "I", .fieldLink RX2 13 "CoatHooksModel" "row" "[I", .methodLink RX2 86 yX2_count, .instanceMethod yX2_count, .selects RX2 yX2_count yX2_count, .initialized RX2, .code yX2_count cX2_count 4 (some .int), .methodLink RX2 26 yX2_clear, .static yX2_clear, .code yX2_clear cX2_clear 3 none] ++ wsX20)
def wsX2_hooks : List Cond := .code yX2_hooks cX2_hooks 1 (some .int) :: ([.fieldLink RX2 7 "CoatHooksModel" "hooks" "I", .methodLink RX2 89 yX2_ok, .instanceMethod yX2_ok, .selects RX2 yX2_ok yX2_ok, .initialized RX2, .code yX2_ok cX2_ok 2 (some .int), .fieldLink RX2 30 "CoatHooksModel" "thrown" "I"] ++ wsX20)
def wsX2_way : List Cond := .code yX2_way cX2_way 1 (some .int) :: ([.fieldLink RX2 49 "CoatHooksModel" "way" "I", .methodLink RX2 89 yX2_ok, .instanceMethod yX2_ok, .selects RX2 yX2_ok yX2_ok, .initialized RX2, .code yX2_ok cX2_ok 2 (some .int), .fieldLink RX2 30 "CoatHooksModel" "thrown" "I"] ++ wsX20)
def wsX2_many : List Cond := .code yX2_many cX2_many 3 (some .int) :: ([.fieldLink RX2 7 "CoatHooksModel" "hooks" "I", .fieldLink RX2 13 "CoatHooksModel" "row" "[I"] ++ wsX20)
def wsX2_coats : List Cond := .code yX2_coats cX2_coats 1 (some .int) :: ([.methodLink RX2 92 yX2_many, .instanceMethod yX2_many, .selects RX2 yX2_many yX2_many, .initialized RX2, .code yX2_many cX2_many 3 (some .int), .fieldLink RX2 7 "CoatHooksModel" "hooks" "I", .fieldLink RX2 13 "CoatHooksModel" "row" "[I", .methodLink RX2 89 yX2_ok, .instanceMethod yX2_ok, .selects RX2 yX2_ok yX2_ok, .code yX2_ok cX2_ok 2 (some .int), .fieldLink RX2 30 "CoatHooksModel" "thrown" "I"] ++ wsX20)
def wsX2_tickets : List Cond := .code yX2_tickets cX2_tickets 1 (some .int) :: ([.methodLink RX2 86 yX2_count, .instanceMethod yX2_count, .selects RX2 yX2_count yX2_count, .initialized RX2, .code yX2_count cX2_count 4 (some .int), .fieldLink RX2 7 "CoatHooksModel" "hooks" "I", .fieldLink RX2 13 "CoatHooksModel" "row" "[I", .methodLink RX2 89 yX2_ok, .instanceMethod yX2_ok, .selects RX2 yX2_ok yX2_ok, .code yX2_ok cX2_ok 2 (some .int), .fieldLink RX2 30 "CoatHooksModel" "thrown" "I"] ++ wsX20)
def wsX2_state : List Cond := .code yX2_state cX2_state 2 (some .int) :: ([.fieldLink RX2 13 "CoatHooksModel" "row" "[I"] ++ wsX20)
def wsX2_stateOf : List Cond := .code yX2_stateOf cX2_stateOf 2 (some .int) :: ([.fieldLink RX2 30 "CoatHooksModel" "thrown" "I", .methodLink RX2 95 yX2_isHook, .instanceMethod yX2_isHook, .selects RX2 yX2_isHook yX2_isHook, .initialized RX2, .code yX2_isHook cX2_isHook 2 (some .boolean), .fieldLink RX2 7 "CoatHooksModel" "hooks" "I", .methodLink RX2 33 yX2_isIn, .static yX2_isIn, .code yX2_isIn cX2_isIn 3 (some .boolean), .methodLink RX2 98 yX2_state, .instanceMethod yX2_state, .selects RX2 yX2_state yX2_state, .code yX2_state cX2_state 2 (some .int), .fieldLink RX2 13 "CoatHooksModel" "row" "[I", .methodLink RX2 67 yX2_no, .instanceMethod yX2_no, .selects RX2 yX2_no yX2_no, .code yX2_no cX2_no 2 (some .int)] ++ wsX20)
def wsX2_coat : List Cond := .code yX2_coat cX2_coat 2 (some .int) :: ([.fieldLink RX2 13 "CoatHooksModel" "row" "[I", .methodLink RX2 101 Lib.Math.max.name, .static Lib.Math.max.name, .initialized "java/lang/Math", .code Lib.Math.max.name Lib.Math.max.code 2 (some .int)] ++ wsX20)
def wsX2_coatAt : List Cond := .code yX2_coatAt cX2_coatAt 2 (some .int) :: ([.fieldLink RX2 30 "CoatHooksModel" "thrown" "I", .methodLink RX2 95 yX2_isHook, .instanceMethod yX2_isHook, .selects RX2 yX2_isHook yX2_isHook, .initialized RX2, .code yX2_isHook cX2_isHook 2 (some .boolean), .fieldLink RX2 7 "CoatHooksModel" "hooks" "I", .methodLink RX2 33 yX2_isIn, .static yX2_isIn, .code yX2_isIn cX2_isIn 3 (some .boolean), .methodLink RX2 106 yX2_coat, .instanceMethod yX2_coat, .selects RX2 yX2_coat yX2_coat, .code yX2_coat cX2_coat 2 (some .int), .fieldLink RX2 13 "CoatHooksModel" "row" "[I", .methodLink RX2 101 Lib.Math.max.name, .static Lib.Math.max.name, .initialized "java/lang/Math", .code Lib.Math.max.name Lib.Math.max.code 2 (some .int), .methodLink RX2 67 yX2_no, .instanceMethod yX2_no, .selects RX2 yX2_no yX2_no, .code yX2_no cX2_no 2 (some .int)] ++ wsX20)
def wsX2_weightOn : List Cond := .code yX2_weightOn cX2_weightOn 2 (some .int) :: ([.fieldLink RX2 13 "CoatHooksModel" "row" "[I", .fieldLink RX2 17 "CoatHooksModel" "heavy" "[I"] ++ wsX20)
def wsX2_weightAt : List Cond := .code yX2_weightAt cX2_weightAt 2 (some .int) :: ([.fieldLink RX2 30 "CoatHooksModel" "thrown" "I", .methodLink RX2 95 yX2_isHook, .instanceMethod yX2_isHook, .selects RX2 yX2_isHook yX2_isHook, .initialized RX2, .code yX2_isHook cX2_isHook 2 (some .boolean), .fieldLink RX2 7 "CoatHooksModel" "hooks" "I", .methodLink RX2 33 yX2_isIn, .static yX2_isIn, .code yX2_isIn cX2_isIn 3 (some .boolean), .methodLink RX2 109 yX2_weightOn, .instanceMethod yX2_weightOn, .selects RX2 yX2_weightOn yX2_weightOn, .code yX2_weightOn cX2_weightOn 2 (some .int), .fieldLink RX2 13 "CoatHooksModel" "row" "[I", .fieldLink RX2 17 "CoatHooksModel" "heavy" "[I", .methodLink RX2 67 yX2_no, .instanceMethod yX2_no, .selects RX2 yX2_no yX2_no, .code yX2_no cX2_no 2 (some .int)] ++ wsX20)
def wsX2_all : List Cond := .code yX2_all cX2_all 3 (some .int) :: ([.fieldLink RX2 7 "CoatHooksModel" "hooks" "I", .methodLink RX2 109 yX2_weightOn, .instanceMethod yX2_weightOn, .selects RX2 yX2_weightOn yX2_weightOn, .initialized RX2, .code yX2_weightOn cX2_weightOn 2 (some .int), .fieldLink RX2 13 "CoatHooksModel" "row" "[I", .fieldLink RX2 17 "CoatHooksModel" "heavy" "[I"] ++ wsX20)
def wsX2_weight : List Cond := .code yX2_weight cX2_weight 1 (some .int) :: ([.methodLink RX2 112 yX2_all, .instanceMethod yX2_all, .selects RX2 yX2_all yX2_all, .initialized RX2, .code yX2_all cX2_all 3 (some .int), .fieldLink RX2 7 "CoatHooksModel" "hooks" "I", .methodLink RX2 109 yX2_weightOn, .instanceMethod yX2_weightOn, .selects RX2 yX2_weightOn yX2_weightOn, .code yX2_weightOn cX2_weightOn 2 (some .int), .fieldLink RX2 13 "CoatHooksModel" "row" "[I", .fieldLink RX2 17 "CoatHooksModel" "heavy" "[I", .methodLink RX2 89 yX2_ok, .instanceMethod yX2_ok, .selects RX2 yX2_ok yX2_ok, .code yX2_ok cX2_ok 2 (some .int), .fieldLink RX2 30 "CoatHooksModel" "thrown" "I"] ++ wsX20)
def wsX2_heaviest : List Cond := .code yX2_heaviest cX2_heaviest 3 (some .int) :: ([.fieldLink RX2 7 "CoatHooksModel" "hooks" "I", .fieldLink RX2 13 "CoatHooksModel" "row" "[I", .fieldLink RX2 17 "CoatHooksModel" "heavy" "[I"] ++ wsX20)
def wsX2_heaviestAt : List Cond := .code yX2_heaviestAt cX2_heaviestAt 1 (some .int) :: ([.methodLink RX2 115 yX2_heaviest, .instanceMethod yX2_heaviest, .selects RX2 yX2_heaviest yX2_heaviest, .initialized RX2, .code yX2_heaviest cX2_heaviest 3 (some .int), .fieldLink RX2 7 "CoatHooksModel" "hooks" "I", .fieldLink RX2 13 "CoatHooksModel" "row" "[I", .fieldLink RX2 17 "CoatHooksModel" "heavy" "[I", .methodLink RX2 89 yX2_ok, .instanceMethod yX2_ok, .selects RX2 yX2_ok yX2_ok, .code yX2_ok cX2_ok 2 (some .int), .fieldLink RX2 30 "CoatHooksModel" "thrown" "I"] ++ wsX20)
def wsX2_find_r1 : List Cond := [Cond.fieldLink RX2 30 "CoatHooksModel" "thrown" "I", Cond.fieldLink RX2 40 "CoatHooksModel" "found" "I", Cond.methodLink RX2 64 yX2_isNumber, Cond.static yX2_isNumber, Cond.initialized RX2, Cond.code yX2_isNumber cX2_isNumber 1 (some .boolean), Cond.methodLink RX2 33 yX2_isIn, Cond.static yX2_isIn, Cond.code yX2_isIn cX2_isIn 3 (some .boolean), Cond.methodLink RX2 67 yX2_no, Cond.instanceMethod yX2_no, Cond.selects RX2 yX2_no yX2_no, Cond.code yX2_no cX2_no 2 (some .int), Cond.methodLink RX2 60 yX2_lookNow, Cond.instanceMethod yX2_lookNow, Cond.selects RX2 yX2_lookNow yX2_lookNow, Cond.code yX2_lookNow cX2_lookNow 2 none, Cond.fieldLink RX2 13 "CoatHooksModel" "row" "[I", Cond.fieldLink RX2 7 "CoatHooksModel" "hooks" "I", Cond.fieldLink RX2 49 "CoatHooksModel" "way" "I", Cond.methodLink RX2 52 yX2_look, Cond.instanceMethod yX2_look, Cond.selects RX2 yX2_look yX2_look, Cond.code yX2_look cX2_look 7 none]
def wsX2_find_r2 : List Cond := [Cond.fieldLink RX2 37 "CoatHooksModel" "looks" "I", Cond.fieldLink RX2 43 "CoatHooksModel" "free" "I", Cond.fieldLink RX2 46 "CoatHooksModel" "ticket" "I"]
def wsX2_find : List Cond := .code yX2_find cX2_find 2 (some .int) :: ((wsX2_find_r1 ++ wsX2_find_r2) ++ wsX20)
def wsX2_manyLooks : List Cond := .code yX2_manyLooks cX2_manyLooks 2 (some .int) :: ([.fieldLink RX2 37 "CoatHooksModel" "looks" "I", .methodLink RX2 60 yX2_lookNow, .instanceMethod yX2_lookNow, .selects RX2 yX2_lookNow yX2_lookNow, .initialized RX2, .code yX2_lookNow cX2_lookNow 2 none, .fieldLink RX2 13 "CoatHooksModel" "row" "[I", .fieldLink RX2 7 "CoatHooksModel" "hooks" "I", .fieldLink RX2 49 "CoatHooksModel" "way" "I", .methodLink RX2 52 yX2_look, .instanceMethod yX2_look, .selects RX2 yX2_look yX2_look, .code yX2_look cX2_look 7 none, .fieldLink RX2 40 "CoatHooksModel" "found" "I", .fieldLink RX2 43 "CoatHooksModel" "free" "I", .fieldLink RX2 46 "CoatHooksModel" "ticket" "I"] ++ wsX20)
def wsX2_looksFor_r1 : List Cond := [Cond.fieldLink RX2 30 "CoatHooksModel" "thrown" "I", Cond.methodLink RX2 64 yX2_isNumber, Cond.static yX2_isNumber, Cond.initialized RX2, Cond.code yX2_isNumber cX2_isNumber 1 (some .boolean), Cond.methodLink RX2 33 yX2_isIn, Cond.static yX2_isIn, Cond.code yX2_isIn cX2_isIn 3 (some .boolean), Cond.methodLink RX2 118 yX2_manyLooks, Cond.instanceMethod yX2_manyLooks, Cond.selects RX2 yX2_manyLooks yX2_manyLooks, Cond.code yX2_manyLooks cX2_manyLooks 2 (some .int), Cond.fieldLink RX2 37 "CoatHooksModel" "looks" "I", Cond.methodLink RX2 60 yX2_lookNow, Cond.instanceMethod yX2_lookNow, Cond.selects RX2 yX2_lookNow yX2_lookNow, Cond.code yX2_lookNow cX2_lookNow 2 none, Cond.fieldLink RX2 13 "CoatHooksModel" "row" "[I", Cond.fieldLink RX2 7 "CoatHooksModel" "hooks" "I", Cond.fieldLink RX2 49 "CoatHooksModel" "way" "I", Cond.methodLink RX2 52 yX2_look, Cond.instanceMethod yX2_look, Cond.selects RX2 yX2_look yX2_look, Cond.code yX2_look cX2_look 7 none]
def wsX2_looksFor_r2 : List Cond := [Cond.fieldLink RX2 40 "CoatHooksModel" "found" "I", Cond.fieldLink RX2 43 "CoatHooksModel" "free" "I", Cond.fieldLink RX2 46 "CoatHooksModel" "ticket" "I", Cond.methodLink RX2 67 yX2_no, Cond.instanceMethod yX2_no, Cond.selects RX2 yX2_no yX2_no, Cond.code yX2_no cX2_no 2 (some .int)]
def wsX2_looksFor : List Cond := .code yX2_looksFor cX2_looksFor 2 (some .int) :: ((wsX2_looksFor_r1 ++ wsX2_looksFor_r2) ++ wsX20)
def wsX2_placeFor_r1 : List Cond := [Cond.fieldLink RX2 30 "CoatHooksModel" "thrown" "I", Cond.methodLink RX2 64 yX2_isNumber, Cond.static yX2_isNumber, Cond.initialized RX2, Cond.code yX2_isNumber cX2_isNumber 1 (some .boolean), Cond.methodLink RX2 33 yX2_isIn, Cond.static yX2_isIn, Cond.code yX2_isIn cX2_isIn 3 (some .boolean), Cond.methodLink RX2 71 yX2_place, Cond.instanceMethod yX2_place, Cond.selects RX2 yX2_place yX2_place, Cond.code yX2_place cX2_place 2 (some .int), Cond.fieldLink RX2 46 "CoatHooksModel" "ticket" "I", Cond.fieldLink RX2 43 "CoatHooksModel" "free" "I", Cond.methodLink RX2 56 yX2_hangs, Cond.instanceMethod yX2_hangs, Cond.selects RX2 yX2_hangs yX2_hangs, Cond.code yX2_hangs cX2_hangs 3 (some .boolean), Cond.fieldLink RX2 7 "CoatHooksModel" "hooks" "I", Cond.fieldLink RX2 13 "CoatHooksModel" "row" "[I", Cond.methodLink RX2 60 yX2_lookNow, Cond.instanceMethod yX2_lookNow, Cond.selects RX2 yX2_lookNow yX2_lookNow, Cond.code yX2_lookNow cX2_lookNow 2 none]
def wsX2_placeFor_r2 : List Cond := [Cond.fieldLink RX2 49 "CoatHooksModel" "way" "I", Cond.methodLink RX2 52 yX2_look, Cond.instanceMethod yX2_look, Cond.selects RX2 yX2_look yX2_look, Cond.code yX2_look cX2_look 7 none, Cond.fieldLink RX2 37 "CoatHooksModel" "looks" "I", Cond.fieldLink RX2 40 "CoatHooksModel" "found" "I", Cond.methodLink RX2 67 yX2_no, Cond.instanceMethod yX2_no, Cond.selects RX2 yX2_no yX2_no, Cond.code yX2_no cX2_no 2 (some .int)]
def wsX2_placeFor : List Cond := .code yX2_placeFor cX2_placeFor 2 (some .int) :: ((wsX2_placeFor_r1 ++ wsX2_placeFor_r2) ++ wsX20)
def wsX2_lookedAt : List Cond := .code yX2_lookedAt cX2_lookedAt 4 (some .int) :: ([.fieldLink RX2 30 "CoatHooksModel" "thrown" "I", .fieldLink RX2 49 "CoatHooksModel" "way" "I", .fieldLink RX2 7 "CoatHooksModel" "hooks" "I", .methodLink RX2 64 yX2_isNumber, .static yX2_isNumber, .initialized RX2, .code yX2_isNumber cX2_isNumber 1 (some .boolean), .methodLink RX2 33 yX2_isIn, .static yX2_isIn, .code yX2_isIn cX2_isIn 3 (some .boolean), .methodLink RX2 67 yX2_no, .instanceMethod yX2_no, .selects RX2 yX2_no yX2_no, .code yX2_no cX2_no 2 (some .int)] ++ wsX20)
def wsX2_looksForAll : List Cond := .code yX2_looksForAll cX2_looksForAll 3 (some .int) :: ([.fieldLink RX2 7 "CoatHooksModel" "hooks" "I", .fieldLink RX2 13 "CoatHooksModel" "row" "[I", .methodLink RX2 118 yX2_manyLooks, .instanceMethod yX2_manyLooks, .selects RX2 yX2_manyLooks yX2_manyLooks, .initialized RX2, .code yX2_manyLooks cX2_manyLooks 2 (some .int), .fieldLink RX2 37 "CoatHooksModel" "looks" "I", .methodLink RX2 60 yX2_lookNow, .instanceMethod yX2_lookNow, .selects RX2 yX2_lookNow yX2_lookNow, .code yX2_lookNow cX2_lookNow 2 none, .fieldLink RX2 49 "CoatHooksModel" "way" "I", .methodLink RX2 52 yX2_look, .instanceMethod yX2_look, .selects RX2 yX2_look yX2_look, .code yX2_look cX2_look 7 none, .fieldLink RX2 40 "CoatHooksModel" "found" "I", .fieldLink RX2 43 "CoatHooksModel" "free" "I", .fieldLink RX2 46 "CoatHooksModel" "ticket" "I"] ++ wsX20)
def wsX2_allLooks_r1 : List Cond := [Cond.methodLink RX2 121 yX2_looksForAll, Cond.instanceMethod yX2_looksForAll, Cond.selects RX2 yX2_looksForAll yX2_looksForAll, Cond.initialized RX2, Cond.code yX2_looksForAll cX2_looksForAll 3 (some .int), Cond.fieldLink RX2 7 "CoatHooksModel" "hooks" "I", Cond.fieldLink RX2 13 "CoatHooksModel" "row" "[I", Cond.methodLink RX2 118 yX2_manyLooks, Cond.instanceMethod yX2_manyLooks, Cond.selects RX2 yX2_manyLooks yX2_manyLooks, Cond.code yX2_manyLooks cX2_manyLooks 2 (some .int), Cond.fieldLink RX2 37 "CoatHooksModel" "looks" "I", Cond.methodLink RX2 60 yX2_lookNow, Cond.instanceMethod yX2_lookNow, Cond.selects RX2 yX2_lookNow yX2_lookNow, Cond.code yX2_lookNow cX2_lookNow 2 none, Cond.fieldLink RX2 49 "CoatHooksModel" "way" "I", Cond.methodLink RX2 52 yX2_look, Cond.instanceMethod yX2_look, Cond.selects RX2 yX2_look yX2_look, Cond.code yX2_look cX2_look 7 none, Cond.fieldLink RX2 40 "CoatHooksModel" "found" "I", Cond.fieldLink RX2 43 "CoatHooksModel" "free" "I", Cond.fieldLink RX2 46 "CoatHooksModel" "ticket" "I"]
def wsX2_allLooks_r2 : List Cond := [Cond.methodLink RX2 89 yX2_ok, Cond.instanceMethod yX2_ok, Cond.selects RX2 yX2_ok yX2_ok, Cond.code yX2_ok cX2_ok 2 (some .int), Cond.fieldLink RX2 30 "CoatHooksModel" "thrown" "I"]
def wsX2_allLooks : List Cond := .code yX2_allLooks cX2_allLooks 1 (some .int) :: ((wsX2_allLooks_r1 ++ wsX2_allLooks_r2) ++ wsX20)
def wsX2_far : List Cond := .code yX2_far cX2_far 4 (some .int) :: ([.fieldLink RX2 7 "CoatHooksModel" "hooks" "I", .fieldLink RX2 13 "CoatHooksModel" "row" "[I", .fieldLink RX2 37 "CoatHooksModel" "looks" "I", .methodLink RX2 118 yX2_manyLooks, .instanceMethod yX2_manyLooks, .selects RX2 yX2_manyLooks yX2_manyLooks, .initialized RX2, .code yX2_manyLooks cX2_manyLooks 2 (some .int), .methodLink RX2 60 yX2_lookNow, .instanceMethod yX2_lookNow, .selects RX2 yX2_lookNow yX2_lookNow, .code yX2_lookNow cX2_lookNow 2 none, .fieldLink RX2 49 "CoatHooksModel" "way" "I", .methodLink RX2 52 yX2_look, .instanceMethod yX2_look, .selects RX2 yX2_look yX2_look, .code yX2_look cX2_look 7 none, .fieldLink RX2 40 "CoatHooksModel" "found" "I", .fieldLink RX2 43 "CoatHooksModel" "free" "I", .fieldLink RX2 46 "CoatHooksModel" "ticket" "I"] ++ wsX20)
def wsX2_farthest_r1 : List Cond := [Cond.methodLink RX2 124 yX2_far, Cond.instanceMethod yX2_far, Cond.selects RX2 yX2_far yX2_far, Cond.initialized RX2, Cond.code yX2_far cX2_far 4 (some .int), Cond.fieldLink RX2 7 "CoatHooksModel" "hooks" "I", Cond.fieldLink RX2 13 "CoatHooksModel" "row" "[I", Cond.fieldLink RX2 37 "CoatHooksModel" "looks" "I", Cond.methodLink RX2 118 yX2_manyLooks, Cond.instanceMethod yX2_manyLooks, Cond.selects RX2 yX2_manyLooks yX2_manyLooks, Cond.code yX2_manyLooks cX2_manyLooks 2 (some .int), Cond.methodLink RX2 60 yX2_lookNow, Cond.instanceMethod yX2_lookNow, Cond.selects RX2 yX2_lookNow yX2_lookNow, Cond.code yX2_lookNow cX2_lookNow 2 none, Cond.fieldLink RX2 49 "CoatHooksModel" "way" "I", Cond.methodLink RX2 52 yX2_look, Cond.instanceMethod yX2_look, Cond.selects RX2 yX2_look yX2_look, Cond.code yX2_look cX2_look 7 none, Cond.fieldLink RX2 40 "CoatHooksModel" "found" "I", Cond.fieldLink RX2 43 "CoatHooksModel" "free" "I", Cond.fieldLink RX2 46 "CoatHooksModel" "ticket" "I"]
def wsX2_farthest_r2 : List Cond := [Cond.methodLink RX2 89 yX2_ok, Cond.instanceMethod yX2_ok, Cond.selects RX2 yX2_ok yX2_ok, Cond.code yX2_ok cX2_ok 2 (some .int), Cond.fieldLink RX2 30 "CoatHooksModel" "thrown" "I"]
def wsX2_farthest : List Cond := .code yX2_farthest cX2_farthest 1 (some .int) :: ((wsX2_farthest_r1 ++ wsX2_farthest_r2) ++ wsX20)
def wsX2_rowsNow : List Cond := .code yX2_rowsNow cX2_rowsNow 3 (some .int) :: ([.fieldLink RX2 7 "CoatHooksModel" "hooks" "I", .fieldLink RX2 13 "CoatHooksModel" "row" "[I", .methodLink RX2 86 yX2_count, .instanceMethod yX2_count, .selects RX2 yX2_count yX2_count, .initialized RX2, .code yX2_count cX2_count 4 (some .int)] ++ wsX20)
def wsX2_rows : List Cond := .code yX2_rows cX2_rows 1 (some .int) :: ([.methodLink RX2 127 yX2_rowsNow, .instanceMethod yX2_rowsNow, .selects RX2 yX2_rowsNow yX2_rowsNow, .initialized RX2, .code yX2_rowsNow cX2_rowsNow 3 (some .int), .fieldLink RX2 7 "CoatHooksModel" "hooks" "I", .fieldLink RX2 13 "CoatHooksModel" "row" "[I", .methodLink RX2 86 yX2_count, .instanceMethod yX2_count, .selects RX2 yX2_count yX2_count, .code yX2_count cX2_count 4 (some .int), .methodLink RX2 89 yX2_ok, .instanceMethod yX2_ok, .selects RX2 yX2_ok yX2_ok, .code yX2_ok cX2_ok 2 (some .int), .fieldLink RX2 30 "CoatHooksModel" "thrown" "I"] ++ wsX20)
def wsX2_rowOf : List Cond := .code yX2_rowOf cX2_rowOf 4 (some .int) :: ([.fieldLink RX2 13 "CoatHooksModel" "row" "[I", .fieldLink RX2 7 "CoatHooksModel" "hooks" "I", .methodLink RX2 130 Lib.Math.min.name, .static Lib.Math.min.name, .initialized "java/lang/Math", .code Lib.Math.min.name Lib.Math.min.code 2 (some .int)] ++ wsX20)
def wsX2_longest : List Cond := .code yX2_longest cX2_longest 3 (some .int) :: ([.fieldLink RX2 7 "CoatHooksModel" "hooks" "I", .methodLink RX2 101 Lib.Math.max.name, .static Lib.Math.max.name, .initialized "java/lang/Math", .code Lib.Math.max.name Lib.Math.max.code 2 (some .int), .methodLink RX2 133 yX2_rowOf, .instanceMethod yX2_rowOf, .selects RX2 yX2_rowOf yX2_rowOf, .initialized RX2, .code yX2_rowOf cX2_rowOf 4 (some .int), .fieldLink RX2 13 "CoatHooksModel" "row" "[I", .methodLink RX2 130 Lib.Math.min.name, .static Lib.Math.min.name, .code Lib.Math.min.name Lib.Math.min.code 2 (some .int)] ++ wsX20)
def wsX2_longestRow : List Cond := .code yX2_longestRow cX2_longestRow 1 (some .int) :: ([.methodLink RX2 136 yX2_longest, .instanceMethod yX2_longest, .selects RX2 yX2_longest yX2_longest, .initialized RX2, .code yX2_longest cX2_longest 3 (some .int), .fieldLink RX2 7 "CoatHooksModel" "hooks" "I", .methodLink RX2 101 Lib.Math.max.name, .static Lib.Math.max.name, .initialized "java/lang/Math", .code Lib.Math.max.name Lib.Math.max.code 2 (some .int), .methodLink RX2 133 yX2_rowOf, .instanceMethod yX2_rowOf, .selects RX2 yX2_rowOf yX2_rowOf, .code yX2_rowOf cX2_rowOf 4 (some .int), .fieldLink RX2 13 "CoatHooksModel" "row" "[I", .methodLink RX2 130 Lib.Math.min.name, .static Lib.Math.min.name, .code Lib.Math.min.name Lib.Math.min.code 2 (some .int), .methodLink RX2 89 yX2_ok, .instanceMethod yX2_ok, .selects RX2 yX2_ok yX2_ok, .code yX2_ok cX2_ok 2 (some .int), .fieldLink RX2 30 "CoatHooksModel" "thrown" "I"] ++ wsX20)
def wsX2_rowAt : List Cond := .code yX2_rowAt cX2_rowAt 2 (some .int) :: ([.fieldLink RX2 30 "CoatHooksModel" "thrown" "I", .methodLink RX2 95 yX2_isHook, .instanceMethod yX2_isHook, .selects RX2 yX2_isHook yX2_isHook, .initialized RX2, .code yX2_isHook cX2_isHook 2 (some .boolean), .fieldLink RX2 7 "CoatHooksModel" "hooks" "I", .methodLink RX2 33 yX2_isIn, .static yX2_isIn, .code yX2_isIn cX2_isIn 3 (some .boolean), .methodLink RX2 133 yX2_rowOf, .instanceMethod yX2_rowOf, .selects RX2 yX2_rowOf yX2_rowOf, .code yX2_rowOf cX2_rowOf 4 (some .int), .fieldLink RX2 13 "CoatHooksModel" "row" "[I", .methodLink RX2 130 Lib.Math.min.name, .static Lib.Math.min.name, .initialized "java/lang/Math", .code Lib.Math.min.name Lib.Math.min.code 2 (some .int), .methodLink RX2 67 yX2_no, .instanceMethod yX2_no, .selects RX2 yX2_no yX2_no, .code yX2_no cX2_no 2 (some .int)] ++ wsX20)
def wsX2_looksWith_r1 : List Cond := [Cond.fieldLink RX2 30 "CoatHooksModel" "thrown" "I", Cond.methodLink RX2 33 yX2_isIn, Cond.static yX2_isIn, Cond.initialized RX2, Cond.code yX2_isIn cX2_isIn 3 (some .boolean), Cond.methodLink RX2 78 yX2_anew, Cond.instanceMethod yX2_anew, Cond.selects RX2 yX2_anew yX2_anew, Cond.code yX2_anew cX2_anew 5 (some .int), Cond.fieldLink RX2 20 "CoatHooksModel" "other" "[I", Cond.fieldLink RX2 7 "CoatHooksModel" "hooks" "I", Cond.fieldLink RX2 13 "CoatHooksModel" "row" "[I", Cond.fieldLink RX2 43 "CoatHooksModel" "free" "I", Cond.fieldLink RX2 23 "CoatHooksModel" "otherHeavy" "[I", Cond.fieldLink RX2 17 "CoatHooksModel" "heavy" "[I", Cond.fieldLink RX2 37 "CoatHooksModel" "looks" "I", Cond.methodLink RX2 26 yX2_clear, Cond.static yX2_clear, Cond.code yX2_clear cX2_clear 3 none, Cond.methodLink RX2 52 yX2_look, Cond.instanceMethod yX2_look, Cond.selects RX2 yX2_look yX2_look, Cond.code yX2_look cX2_look 7 none, Cond.fieldLink RX2 40 "CoatHooksModel" "found" "I"]
def wsX2_looksWith_r2 : List Cond := [Cond.fieldLink RX2 46 "CoatHooksModel" "ticket" "I", Cond.methodLink RX2 67 yX2_no, Cond.instanceMethod yX2_no, Cond.selects RX2 yX2_no yX2_no, Cond.code yX2_no cX2_no 2 (some .int)]
def wsX2_looksWith : List Cond := .code yX2_looksWith cX2_looksWith 3 (some .int) :: ((wsX2_looksWith_r1 ++ wsX2_looksWith_r2) ++ wsX20)
def wsX2_best : List Cond := .code yX2_best cX2_best 5 (some .int) :: ([.fieldLink RX2 7 "CoatHooksModel" "hooks" "I", .methodLink RX2 78 yX2_anew, .instanceMethod yX2_anew, .selects RX2 yX2_anew yX2_anew, .initialized RX2, .code yX2_anew cX2_anew 5 (some .int), .fieldLink RX2 20 "CoatHooksModel" "other" "[I", .fieldLink RX2 13 "CoatHooksModel" "row" "[I", .fieldLink RX2 43 "CoatHooksModel" "free" "I", .fieldLink RX2 23 "CoatHooksModel" "otherHeavy" "[I", .fieldLink RX2 17 "CoatHooksModel" "heavy" "[I", .fieldLink RX2 37 "CoatHooksModel" "looks" "I", .methodLink RX2 26 yX2_clear, .static yX2_clear, .code yX2_clear cX2_clear 3 none, .methodLink RX2 52 yX2_look, .instanceMethod yX2_look, .selects RX2 yX2_look yX2_look, .code yX2_look cX2_look 7 none, .fieldLink RX2 40 "CoatHooksModel" "found" "I", .fieldLink RX2 46 "CoatHooksModel" "ticket" "I"] ++ wsX20)
def wsX2_bestWay_r1 : List Cond := [Cond.methodLink RX2 139 yX2_best, Cond.instanceMethod yX2_best, Cond.selects RX2 yX2_best yX2_best, Cond.initialized RX2, Cond.code yX2_best cX2_best 5 (some .int), Cond.fieldLink RX2 7 "CoatHooksModel" "hooks" "I", Cond.methodLink RX2 78 yX2_anew, Cond.instanceMethod yX2_anew, Cond.selects RX2 yX2_anew yX2_anew, Cond.code yX2_anew cX2_anew 5 (some .int), Cond.fieldLink RX2 20 "CoatHooksModel" "other" "[I", Cond.fieldLink RX2 13 "CoatHooksModel" "row" "[I", Cond.fieldLink RX2 43 "CoatHooksModel" "free" "I", Cond.fieldLink RX2 23 "CoatHooksModel" "otherHeavy" "[I", Cond.fieldLink RX2 17 "CoatHooksModel" "heavy" "[I", Cond.fieldLink RX2 37 "CoatHooksModel" "looks" "I", Cond.methodLink RX2 26 yX2_clear, Cond.static yX2_clear, Cond.code yX2_clear cX2_clear 3 none, Cond.methodLink RX2 52 yX2_look, Cond.instanceMethod yX2_look, Cond.selects RX2 yX2_look yX2_look, Cond.code yX2_look cX2_look 7 none, Cond.fieldLink RX2 40 "CoatHooksModel" "found" "I"]
def wsX2_bestWay_r2 : List Cond := [Cond.fieldLink RX2 46 "CoatHooksModel" "ticket" "I", Cond.methodLink RX2 89 yX2_ok, Cond.instanceMethod yX2_ok, Cond.selects RX2 yX2_ok yX2_ok, Cond.code yX2_ok cX2_ok 2 (some .int), Cond.fieldLink RX2 30 "CoatHooksModel" "thrown" "I"]
def wsX2_bestWay : List Cond := .code yX2_bestWay cX2_bestWay 1 (some .int) :: ((wsX2_bestWay_r1 ++ wsX2_bestWay_r2) ++ wsX20)
def wsX2_wanted_r1 : List Cond := [Cond.fieldLink RX2 49 "CoatHooksModel" "way" "I", Cond.methodLink RX2 78 yX2_anew, Cond.instanceMethod yX2_anew, Cond.selects RX2 yX2_anew yX2_anew, Cond.initialized RX2, Cond.code yX2_anew cX2_anew 5 (some .int), Cond.fieldLink RX2 20 "CoatHooksModel" "other" "[I", Cond.fieldLink RX2 7 "CoatHooksModel" "hooks" "I", Cond.fieldLink RX2 13 "CoatHooksModel" "row" "[I", Cond.fieldLink RX2 43 "CoatHooksModel" "free" "I", Cond.fieldLink RX2 23 "CoatHooksModel" "otherHeavy" "[I", Cond.fieldLink RX2 17 "CoatHooksModel" "heavy" "[I", Cond.fieldLink RX2 37 "CoatHooksModel" "looks" "I", Cond.methodLink RX2 26 yX2_clear, Cond.static yX2_clear, Cond.code yX2_clear cX2_clear 3 none, Cond.methodLink RX2 52 yX2_look, Cond.instanceMethod yX2_look, Cond.selects RX2 yX2_look yX2_look, Cond.code yX2_look cX2_look 7 none, Cond.fieldLink RX2 40 "CoatHooksModel" "found" "I", Cond.fieldLink RX2 46 "CoatHooksModel" "ticket" "I", Cond.methodLink RX2 33 yX2_isIn, Cond.static yX2_isIn]
def wsX2_wanted_r2 : List Cond := [Cond.code yX2_isIn cX2_isIn 3 (some .boolean)]
def wsX2_wanted : List Cond := .code yX2_wanted cX2_wanted 3 (some .int) :: ((wsX2_wanted_r1 ++ wsX2_wanted_r2) ++ wsX20)
def wsX2_hooksWanted_r1 : List Cond := [Cond.fieldLink RX2 30 "CoatHooksModel" "thrown" "I", Cond.methodLink RX2 33 yX2_isIn, Cond.static yX2_isIn, Cond.initialized RX2, Cond.code yX2_isIn cX2_isIn 3 (some .boolean), Cond.methodLink RX2 142 yX2_wanted, Cond.instanceMethod yX2_wanted, Cond.selects RX2 yX2_wanted yX2_wanted, Cond.code yX2_wanted cX2_wanted 3 (some .int), Cond.fieldLink RX2 49 "CoatHooksModel" "way" "I", Cond.methodLink RX2 78 yX2_anew, Cond.instanceMethod yX2_anew, Cond.selects RX2 yX2_anew yX2_anew, Cond.code yX2_anew cX2_anew 5 (some .int), Cond.fieldLink RX2 20 "CoatHooksModel" "other" "[I", Cond.fieldLink RX2 7 "CoatHooksModel" "hooks" "I", Cond.fieldLink RX2 13 "CoatHooksModel" "row" "[I", Cond.fieldLink RX2 43 "CoatHooksModel" "free" "I", Cond.fieldLink RX2 23 "CoatHooksModel" "otherHeavy" "[I", Cond.fieldLink RX2 17 "CoatHooksModel" "heavy" "[I", Cond.fieldLink RX2 37 "CoatHooksModel" "looks" "I", Cond.methodLink RX2 26 yX2_clear, Cond.static yX2_clear, Cond.code yX2_clear cX2_clear 3 none]
def wsX2_hooksWanted_r2 : List Cond := [Cond.methodLink RX2 52 yX2_look, Cond.instanceMethod yX2_look, Cond.selects RX2 yX2_look yX2_look, Cond.code yX2_look cX2_look 7 none, Cond.fieldLink RX2 40 "CoatHooksModel" "found" "I", Cond.fieldLink RX2 46 "CoatHooksModel" "ticket" "I", Cond.methodLink RX2 67 yX2_no, Cond.instanceMethod yX2_no, Cond.selects RX2 yX2_no yX2_no, Cond.code yX2_no cX2_no 2 (some .int)]
def wsX2_hooksWanted : List Cond := .code yX2_hooksWanted cX2_hooksWanted 2 (some .int) :: ((wsX2_hooksWanted_r1 ++ wsX2_hooksWanted_r2) ++ wsX20)
def wsX2_meanLooks_r1 : List Cond := [Cond.fieldLink RX2 30 "CoatHooksModel" "thrown" "I", Cond.methodLink RX2 92 yX2_many, Cond.instanceMethod yX2_many, Cond.selects RX2 yX2_many yX2_many, Cond.initialized RX2, Cond.code yX2_many cX2_many 3 (some .int), Cond.fieldLink RX2 7 "CoatHooksModel" "hooks" "I", Cond.fieldLink RX2 13 "CoatHooksModel" "row" "[I", Cond.methodLink RX2 121 yX2_looksForAll, Cond.instanceMethod yX2_looksForAll, Cond.selects RX2 yX2_looksForAll yX2_looksForAll, Cond.code yX2_looksForAll cX2_looksForAll 3 (some .int), Cond.methodLink RX2 118 yX2_manyLooks, Cond.instanceMethod yX2_manyLooks, Cond.selects RX2 yX2_manyLooks yX2_manyLooks, Cond.code yX2_manyLooks cX2_manyLooks 2 (some .int), Cond.fieldLink RX2 37 "CoatHooksModel" "looks" "I", Cond.methodLink RX2 60 yX2_lookNow, Cond.instanceMethod yX2_lookNow, Cond.selects RX2 yX2_lookNow yX2_lookNow, Cond.code yX2_lookNow cX2_lookNow 2 none, Cond.fieldLink RX2 49 "CoatHooksModel" "way" "I", Cond.methodLink RX2 52 yX2_look, Cond.instanceMethod yX2_look]
def wsX2_meanLooks_r2 : List Cond := [Cond.selects RX2 yX2_look yX2_look, Cond.code yX2_look cX2_look 7 none, Cond.fieldLink RX2 40 "CoatHooksModel" "found" "I", Cond.fieldLink RX2 43 "CoatHooksModel" "free" "I", Cond.fieldLink RX2 46 "CoatHooksModel" "ticket" "I"]
def wsX2_meanLooks : List Cond := .code yX2_meanLooks cX2_meanLooks 2 (some .double) :: ((wsX2_meanLooks_r1 ++ wsX2_meanLooks_r2) ++ wsX20)
def wsX2_digest_r1 : List Cond := [Cond.fieldLink RX2 30 "CoatHooksModel" "thrown" "I", Cond.arrayClass .int, Cond.fieldLink RX2 7 "CoatHooksModel" "hooks" "I", Cond.fieldLink RX2 49 "CoatHooksModel" "way" "I", Cond.constantLong RX2 145 (2237), Cond.constantLong RX2 147 (31), Cond.methodLink RX2 92 yX2_many, Cond.instanceMethod yX2_many, Cond.selects RX2 yX2_many yX2_many, Cond.initialized RX2, Cond.code yX2_many cX2_many 3 (some .int), Cond.fieldLink RX2 13 "CoatHooksModel" "row" "[I", Cond.methodLink RX2 86 yX2_count, Cond.instanceMethod yX2_count, Cond.selects RX2 yX2_count yX2_count, Cond.code yX2_count cX2_count 4 (some .int), Cond.methodLink RX2 112 yX2_all, Cond.instanceMethod yX2_all, Cond.selects RX2 yX2_all yX2_all, Cond.code yX2_all cX2_all 3 (some .int), Cond.methodLink RX2 109 yX2_weightOn, Cond.instanceMethod yX2_weightOn, Cond.selects RX2 yX2_weightOn yX2_weightOn, Cond.code yX2_weightOn cX2_weightOn 2 (some .int)]
def wsX2_digest_r2 : List Cond := [Cond.fieldLink RX2 17 "CoatHooksModel" "heavy" "[I", Cond.methodLink RX2 115 yX2_heaviest, Cond.instanceMethod yX2_heaviest, Cond.selects RX2 yX2_heaviest yX2_heaviest, Cond.code yX2_heaviest cX2_heaviest 3 (some .int), Cond.methodLink RX2 121 yX2_looksForAll, Cond.instanceMethod yX2_looksForAll, Cond.selects RX2 yX2_looksForAll yX2_looksForAll, Cond.code yX2_looksForAll cX2_looksForAll 3 (some .int), Cond.methodLink RX2 118 yX2_manyLooks, Cond.instanceMethod yX2_manyLooks, Cond.selects RX2 yX2_manyLooks yX2_manyLooks, Cond.code yX2_manyLooks cX2_manyLooks 2 (some .int), Cond.fieldLink RX2 37 "CoatHooksModel" "looks" "I", Cond.methodLink RX2 60 yX2_lookNow, Cond.instanceMethod yX2_lookNow, Cond.selects RX2 yX2_lookNow yX2_lookNow, Cond.code yX2_lookNow cX2_lookNow 2 none, Cond.methodLink RX2 52 yX2_look, Cond.instanceMethod yX2_look, Cond.selects RX2 yX2_look yX2_look, Cond.code yX2_look cX2_look 7 none, Cond.fieldLink RX2 40 "CoatHooksModel" "found" "I", Cond.fieldLink RX2 43 "CoatHooksModel" "free" "I"]
def wsX2_digest_r3 : List Cond := [Cond.fieldLink RX2 46 "CoatHooksModel" "ticket" "I", Cond.methodLink RX2 124 yX2_far, Cond.instanceMethod yX2_far, Cond.selects RX2 yX2_far yX2_far, Cond.code yX2_far cX2_far 4 (some .int), Cond.methodLink RX2 127 yX2_rowsNow, Cond.instanceMethod yX2_rowsNow, Cond.selects RX2 yX2_rowsNow yX2_rowsNow, Cond.code yX2_rowsNow cX2_rowsNow 3 (some .int), Cond.methodLink RX2 136 yX2_longest, Cond.instanceMethod yX2_longest, Cond.selects RX2 yX2_longest yX2_longest, Cond.code yX2_longest cX2_longest 3 (some .int), Cond.methodLink RX2 101 Lib.Math.max.name, Cond.static Lib.Math.max.name, Cond.initialized "java/lang/Math", Cond.code Lib.Math.max.name Lib.Math.max.code 2 (some .int), Cond.methodLink RX2 133 yX2_rowOf, Cond.instanceMethod yX2_rowOf, Cond.selects RX2 yX2_rowOf yX2_rowOf, Cond.code yX2_rowOf cX2_rowOf 4 (some .int), Cond.methodLink RX2 130 Lib.Math.min.name, Cond.static Lib.Math.min.name, Cond.code Lib.Math.min.name Lib.Math.min.code 2 (some .int)]
def wsX2_digest_r4 : List Cond := [Cond.methodLink RX2 139 yX2_best, Cond.instanceMethod yX2_best, Cond.selects RX2 yX2_best yX2_best, Cond.code yX2_best cX2_best 5 (some .int), Cond.methodLink RX2 78 yX2_anew, Cond.instanceMethod yX2_anew, Cond.selects RX2 yX2_anew yX2_anew, Cond.code yX2_anew cX2_anew 5 (some .int), Cond.fieldLink RX2 20 "CoatHooksModel" "other" "[I", Cond.fieldLink RX2 23 "CoatHooksModel" "otherHeavy" "[I", Cond.methodLink RX2 26 yX2_clear, Cond.static yX2_clear, Cond.code yX2_clear cX2_clear 3 none, Cond.methodLink RX2 142 yX2_wanted, Cond.instanceMethod yX2_wanted, Cond.selects RX2 yX2_wanted yX2_wanted, Cond.code yX2_wanted cX2_wanted 3 (some .int), Cond.methodLink RX2 33 yX2_isIn, Cond.static yX2_isIn, Cond.code yX2_isIn cX2_isIn 3 (some .boolean), Cond.methodLink RX2 98 yX2_state, Cond.instanceMethod yX2_state, Cond.selects RX2 yX2_state yX2_state, Cond.code yX2_state cX2_state 2 (some .int)]
def wsX2_digest_r5 : List Cond := [Cond.methodLink RX2 106 yX2_coat, Cond.instanceMethod yX2_coat, Cond.selects RX2 yX2_coat yX2_coat, Cond.code yX2_coat cX2_coat 2 (some .int)]
def wsX2_digest : List Cond := .code yX2_digest cX2_digest 10 (some .long) :: ((wsX2_digest_r1 ++ (wsX2_digest_r2 ++ (wsX2_digest_r3 ++ (wsX2_digest_r4 ++ wsX2_digest_r5)))) ++ wsX20)
def wsJ9_max_7cf53 : List Cond := .code yJ9_max_7cf53 cJ9_max_7cf53 2 (some .int) :: ([])
def wsJ9_min_7cf53 : List Cond := .code yJ9_min_7cf53 cJ9_min_7cf53 2 (some .int) :: ([])
def wsL_hang_r1 : List Cond := [Cond.classLink RL 13 "java/lang/IllegalArgumentException", Cond.classLink RL 15 "java/lang/IllegalStateException", Cond.methodLink RL 7 yX1_hang, Cond.instanceMethod yX1_hang, Cond.selects RX1 yX1_hang yX1_hang, Cond.initialized RX1, Cond.code yX1_hang cX1_hang 4 (some .int), Cond.classLink RX1 23 "java/lang/IllegalArgumentException", Cond.initialized "java/lang/IllegalArgumentException", Cond.classLink RX1 34 "java/lang/IllegalStateException", Cond.initialized "java/lang/IllegalStateException", Cond.fieldLink RX1 10 "CoatHooks" "rack" "LCoatHooks$Rack;", Cond.methodLink RX1 19 yX1_demandNumber, Cond.static yX1_demandNumber, Cond.code yX1_demandNumber cX1_demandNumber 1 none, Cond.methodLink RX1 30 yX0_placeOf, Cond.instanceMethod yX0_placeOf, Cond.selects RX0 yX0_placeOf yX0_placeOf, Cond.initialized RX0, Cond.code yX0_placeOf cX0_placeOf 2 (some .int), Cond.methodLink RX0 50 yX0_hangs, Cond.instanceMethod yX0_hangs, Cond.selects RX0 yX0_hangs yX0_hangs, Cond.code yX0_hangs cX0_hangs 3 (some .boolean)]
def wsL_hang_r2 : List Cond := [Cond.fieldLink RX0 22 "CoatHooks$Rack" "size" "I", Cond.methodLink RX0 33 yX0_heldOn, Cond.instanceMethod yX0_heldOn, Cond.selects RX0 yX0_heldOn yX0_heldOn, Cond.code yX0_heldOn cX0_heldOn 2 (some .int), Cond.fieldLink RX0 9 "CoatHooks$Rack" "held" "[I", Cond.methodLink RX0 54 yX0_openHook, Cond.instanceMethod yX0_openHook, Cond.selects RX0 yX0_openHook yX0_openHook, Cond.code yX0_openHook cX0_openHook 5 (some .int), Cond.methodLink RX0 47 yX0_countLooks, Cond.instanceMethod yX0_countLooks, Cond.selects RX0 yX0_countLooks yX0_countLooks, Cond.code yX0_countLooks cX0_countLooks 4 (some .int), Cond.methodLink RX0 43 yX0_hookInStep, Cond.instanceMethod yX0_hookInStep, Cond.selects RX0 yX0_hookInStep yX0_hookInStep, Cond.code yX0_hookInStep cX0_hookInStep 4 (some .int), Cond.fieldLink RX0 26 "CoatHooks$Rack" "manner" "I", Cond.methodLink RX1 39 yX0_put, Cond.instanceMethod yX0_put, Cond.selects RX0 yX0_put yX0_put, Cond.code yX0_put cX0_put 4 none, Cond.fieldLink RX0 15 "CoatHooks$Rack" "weights" "[I"]
def wsL_hang : List Cond := .codeWith yL_hang cL_hang 5 (some .int) [(0, 10, 13, 13), (0, 10, 17, 15)] :: ((wsL_hang_r1 ++ wsL_hang_r2) ++ wsX10 ++ wsX00 ++ (vx_atS RX1 27 "java/lang/IllegalArgumentException" ["java/lang/RuntimeException", "java/lang/Exception"]).filter goodWord ++ (vx_atS RX1 38 "java/lang/IllegalStateException" ["java/lang/RuntimeException", "java/lang/Exception"]).filter goodWord)
def wsL_take_r1 : List Cond := [Cond.classLink RL 13 "java/lang/IllegalArgumentException", Cond.classLink RL 15 "java/lang/IllegalStateException", Cond.methodLink RL 17 yX1_take, Cond.instanceMethod yX1_take, Cond.selects RX1 yX1_take yX1_take, Cond.initialized RX1, Cond.code yX1_take cX1_take 4 (some .int), Cond.classLink RX1 34 "java/lang/IllegalStateException", Cond.initialized "java/lang/IllegalStateException", Cond.fieldLink RX1 10 "CoatHooks" "rack" "LCoatHooks$Rack;", Cond.methodLink RX1 19 yX1_demandNumber, Cond.static yX1_demandNumber, Cond.code yX1_demandNumber cX1_demandNumber 1 none, Cond.classLink RX1 23 "java/lang/IllegalArgumentException", Cond.initialized "java/lang/IllegalArgumentException", Cond.methodLink RX1 43 yX0_whereFound, Cond.instanceMethod yX0_whereFound, Cond.selects RX0 yX0_whereFound yX0_whereFound, Cond.initialized RX0, Cond.code yX0_whereFound cX0_whereFound 3 (some .int), Cond.methodLink RX0 47 yX0_countLooks, Cond.instanceMethod yX0_countLooks, Cond.selects RX0 yX0_countLooks yX0_countLooks, Cond.code yX0_countLooks cX0_countLooks 4 (some .int)]
def wsL_take_r2 : List Cond := [Cond.fieldLink RX0 22 "CoatHooks$Rack" "size" "I", Cond.methodLink RX0 43 yX0_hookInStep, Cond.instanceMethod yX0_hookInStep, Cond.selects RX0 yX0_hookInStep yX0_hookInStep, Cond.code yX0_hookInStep cX0_hookInStep 4 (some .int), Cond.fieldLink RX0 26 "CoatHooks$Rack" "manner" "I", Cond.methodLink RX0 33 yX0_heldOn, Cond.instanceMethod yX0_heldOn, Cond.selects RX0 yX0_heldOn yX0_heldOn, Cond.code yX0_heldOn cX0_heldOn 2 (some .int), Cond.fieldLink RX0 9 "CoatHooks$Rack" "held" "[I", Cond.methodLink RX1 48 yX0_weightOn, Cond.instanceMethod yX0_weightOn, Cond.selects RX0 yX0_weightOn yX0_weightOn, Cond.code yX0_weightOn cX0_weightOn 2 (some .int), Cond.fieldLink RX0 15 "CoatHooks$Rack" "weights" "[I", Cond.methodLink RX1 51 yX0_leaveTicket, Cond.instanceMethod yX0_leaveTicket, Cond.selects RX0 yX0_leaveTicket yX0_leaveTicket, Cond.code yX0_leaveTicket cX0_leaveTicket 2 none, Cond.methodLink RX0 29 yX0_put, Cond.instanceMethod yX0_put, Cond.selects RX0 yX0_put yX0_put, Cond.code yX0_put cX0_put 4 none]
def wsL_take : List Cond := .codeWith yL_take cL_take 4 (some .int) [(0, 9, 12, 13), (0, 9, 15, 15)] :: ((wsL_take_r1 ++ wsL_take_r2) ++ wsX10 ++ wsX00 ++ (vx_atS RX1 38 "java/lang/IllegalStateException" ["java/lang/RuntimeException", "java/lang/Exception"]).filter goodWord ++ (vx_atS RX1 27 "java/lang/IllegalArgumentException" ["java/lang/RuntimeException", "java/lang/Exception"]).filter goodWord)
def wsL_rehang_r1 : List Cond := [Cond.classLink RL 13 "java/lang/IllegalArgumentException", Cond.classLink RL 15 "java/lang/IllegalStateException", Cond.methodLink RL 21 yX1_rehang, Cond.instanceMethod yX1_rehang, Cond.selects RX1 yX1_rehang yX1_rehang, Cond.initialized RX1, Cond.code yX1_rehang cX1_rehang 4 (some .int), Cond.classLink RX1 34 "java/lang/IllegalStateException", Cond.initialized "java/lang/IllegalStateException", Cond.methodLink RX1 54 yX1_demandHooksAndWay, Cond.static yX1_demandHooksAndWay, Cond.code yX1_demandHooksAndWay cX1_demandHooksAndWay 2 none, Cond.classLink RX1 23 "java/lang/IllegalArgumentException", Cond.initialized "java/lang/IllegalArgumentException", Cond.methodLink RX1 58 yX1_hangAnewOnTrial, Cond.instanceMethod yX1_hangAnewOnTrial, Cond.selects RX1 yX1_hangAnewOnTrial yX1_hangAnewOnTrial, Cond.code yX1_hangAnewOnTrial cX1_hangAnewOnTrial 6 (some .boolean), Cond.fieldLink RX1 16 "CoatHooks" "trial" "LCoatHooks$Rack;", Cond.fieldLink RX1 10 "CoatHooks" "rack" "LCoatHooks$Rack;", Cond.methodLink RX1 151 yX0_clear, Cond.instanceMethod yX0_clear, Cond.selects RX0 yX0_clear yX0_clear, Cond.initialized RX0]
def wsL_rehang_r2 : List Cond := [Cond.code yX0_clear cX0_clear 4 none, Cond.fieldLink RX0 22 "CoatHooks$Rack" "size" "I", Cond.fieldLink RX0 26 "CoatHooks$Rack" "manner" "I", Cond.fieldLink RX0 9 "CoatHooks$Rack" "held" "[I", Cond.methodLink RX0 29 yX0_put, Cond.instanceMethod yX0_put, Cond.selects RX0 yX0_put yX0_put, Cond.code yX0_put cX0_put 4 none, Cond.fieldLink RX0 15 "CoatHooks$Rack" "weights" "[I", Cond.methodLink RX1 74 yX0_hookCount, Cond.instanceMethod yX0_hookCount, Cond.selects RX0 yX0_hookCount yX0_hookCount, Cond.code yX0_hookCount cX0_hookCount 1 (some .int), Cond.methodLink RX1 92 yX0_coatOn, Cond.instanceMethod yX0_coatOn, Cond.selects RX0 yX0_coatOn yX0_coatOn, Cond.code yX0_coatOn cX0_coatOn 3 (some .int), Cond.methodLink RX0 33 yX0_heldOn, Cond.instanceMethod yX0_heldOn, Cond.selects RX0 yX0_heldOn yX0_heldOn, Cond.code yX0_heldOn cX0_heldOn 2 (some .int), Cond.methodLink RX1 154 yX0_openHook, Cond.instanceMethod yX0_openHook, Cond.selects RX0 yX0_openHook yX0_openHook]
def wsL_rehang_r3 : List Cond := [Cond.code yX0_openHook cX0_openHook 5 (some .int), Cond.methodLink RX0 47 yX0_countLooks, Cond.instanceMethod yX0_countLooks, Cond.selects RX0 yX0_countLooks yX0_countLooks, Cond.code yX0_countLooks cX0_countLooks 4 (some .int), Cond.methodLink RX0 43 yX0_hookInStep, Cond.instanceMethod yX0_hookInStep, Cond.selects RX0 yX0_hookInStep yX0_hookInStep, Cond.code yX0_hookInStep cX0_hookInStep 4 (some .int), Cond.methodLink RX1 48 yX0_weightOn, Cond.instanceMethod yX0_weightOn, Cond.selects RX0 yX0_weightOn yX0_weightOn, Cond.code yX0_weightOn cX0_weightOn 2 (some .int), Cond.methodLink RX1 39 yX0_put, Cond.methodLink RX1 64 yX1_coatsMovedOnTrial, Cond.instanceMethod yX1_coatsMovedOnTrial, Cond.selects RX1 yX1_coatsMovedOnTrial yX1_coatsMovedOnTrial, Cond.code yX1_coatsMovedOnTrial cX1_coatsMovedOnTrial 4 (some .int), Cond.methodLink RX1 68 yX1_takeOverTrial, Cond.instanceMethod yX1_takeOverTrial, Cond.selects RX1 yX1_takeOverTrial yX1_takeOverTrial, Cond.code yX1_takeOverTrial cX1_takeOverTrial 3 none, Cond.methodLink RX1 83 yX0_usherWay, Cond.instanceMethod yX0_usherWay]
def wsL_rehang_r4 : List Cond := [Cond.selects RX0 yX0_usherWay yX0_usherWay, Cond.code yX0_usherWay cX0_usherWay 1 (some .int)]
def wsL_rehang : List Cond := .codeWith yL_rehang cL_rehang 5 (some .int) [(0, 10, 13, 13), (0, 10, 17, 15)] :: ((wsL_rehang_r1 ++ (wsL_rehang_r2 ++ (wsL_rehang_r3 ++ wsL_rehang_r4))) ++ wsX10 ++ wsX00 ++ (vx_atS RX1 38 "java/lang/IllegalStateException" ["java/lang/RuntimeException", "java/lang/Exception"]).filter goodWord ++ (vx_atS RX1 27 "java/lang/IllegalArgumentException" ["java/lang/RuntimeException", "java/lang/Exception"]).filter goodWord)
def wsL_stateOf_r1 : List Cond := [Cond.classLink RL 27 "java/lang/IndexOutOfBoundsException", Cond.methodLink RL 24 yX1_stateOf, Cond.instanceMethod yX1_stateOf, Cond.selects RX1 yX1_stateOf yX1_stateOf, Cond.initialized RX1, Cond.code yX1_stateOf cX1_stateOf 2 (some .int), Cond.fieldLink RX1 10 "CoatHooks" "rack" "LCoatHooks$Rack;", Cond.methodLink RX1 86 yX1_demandHook, Cond.instanceMethod yX1_demandHook, Cond.selects RX1 yX1_demandHook yX1_demandHook, Cond.code yX1_demandHook cX1_demandHook 2 none, Cond.classLink RX1 146 "java/lang/IndexOutOfBoundsException", Cond.initialized "java/lang/IndexOutOfBoundsException", Cond.methodLink RX1 74 yX0_hookCount, Cond.instanceMethod yX0_hookCount, Cond.selects RX0 yX0_hookCount yX0_hookCount, Cond.initialized RX0, Cond.code yX0_hookCount cX0_hookCount 1 (some .int), Cond.fieldLink RX0 22 "CoatHooks$Rack" "size" "I", Cond.methodLink RX1 89 yX0_stateOn, Cond.instanceMethod yX0_stateOn, Cond.selects RX0 yX0_stateOn yX0_stateOn, Cond.code yX0_stateOn cX0_stateOn 3 (some .int), Cond.methodLink RX0 33 yX0_heldOn]
def wsL_stateOf_r2 : List Cond := [Cond.instanceMethod yX0_heldOn, Cond.selects RX0 yX0_heldOn yX0_heldOn, Cond.code yX0_heldOn cX0_heldOn 2 (some .int), Cond.fieldLink RX0 9 "CoatHooks$Rack" "held" "[I"]
def wsL_stateOf : List Cond := .codeWith yL_stateOf cL_stateOf 4 (some .int) [(0, 9, 12, 27)] :: ((wsL_stateOf_r1 ++ wsL_stateOf_r2) ++ wsX10 ++ wsX00 ++ (vx_atS RX1 150 "java/lang/IndexOutOfBoundsException" ["java/lang/RuntimeException", "java/lang/Exception"]).filter goodWord)
def wsL_coatAt_r1 : List Cond := [Cond.classLink RL 27 "java/lang/IndexOutOfBoundsException", Cond.methodLink RL 29 yX1_coatAt, Cond.instanceMethod yX1_coatAt, Cond.selects RX1 yX1_coatAt yX1_coatAt, Cond.initialized RX1, Cond.code yX1_coatAt cX1_coatAt 2 (some .int), Cond.fieldLink RX1 10 "CoatHooks" "rack" "LCoatHooks$Rack;", Cond.methodLink RX1 86 yX1_demandHook, Cond.instanceMethod yX1_demandHook, Cond.selects RX1 yX1_demandHook yX1_demandHook, Cond.code yX1_demandHook cX1_demandHook 2 none, Cond.classLink RX1 146 "java/lang/IndexOutOfBoundsException", Cond.initialized "java/lang/IndexOutOfBoundsException", Cond.methodLink RX1 74 yX0_hookCount, Cond.instanceMethod yX0_hookCount, Cond.selects RX0 yX0_hookCount yX0_hookCount, Cond.initialized RX0, Cond.code yX0_hookCount cX0_hookCount 1 (some .int), Cond.fieldLink RX0 22 "CoatHooks$Rack" "size" "I", Cond.methodLink RX1 92 yX0_coatOn, Cond.instanceMethod yX0_coatOn, Cond.selects RX0 yX0_coatOn yX0_coatOn, Cond.code yX0_coatOn cX0_coatOn 3 (some .int), Cond.methodLink RX0 33 yX0_heldOn]
def wsL_coatAt_r2 : List Cond := [Cond.instanceMethod yX0_heldOn, Cond.selects RX0 yX0_heldOn yX0_heldOn, Cond.code yX0_heldOn cX0_heldOn 2 (some .int), Cond.fieldLink RX0 9 "CoatHooks$Rack" "held" "[I"]
def wsL_coatAt : List Cond := .codeWith yL_coatAt cL_coatAt 4 (some .int) [(0, 9, 12, 27)] :: ((wsL_coatAt_r1 ++ wsL_coatAt_r2) ++ wsX10 ++ wsX00 ++ (vx_atS RX1 150 "java/lang/IndexOutOfBoundsException" ["java/lang/RuntimeException", "java/lang/Exception"]).filter goodWord)
def wsL_weightAt : List Cond := .codeWith yL_weightAt cL_weightAt 4 (some .int) [(0, 9, 12, 27)] :: ([.classLink RL 27 "java/lang/IndexOutOfBoundsException", .methodLink RL 32 yX1_weightAt, .instanceMethod yX1_weightAt, .selects RX1 yX1_weightAt yX1_weightAt, .initialized RX1, .code yX1_weightAt cX1_weightAt 2 (some .int), .fieldLink RX1 10 "CoatHooks" "rack" "LCoatHooks$Rack;", .methodLink RX1 86 yX1_demandHook, .instanceMethod yX1_demandHook, .selects RX1 yX1_demandHook yX1_demandHook, .code yX1_demandHook cX1_demandHook 2 none, .classLink RX1 146 "java/lang/IndexOutOfBoundsException", .initialized "java/lang/IndexOutOfBoundsException", .methodLink RX1 74 yX0_hookCount, .instanceMethod yX0_hookCount, .selects RX0 yX0_hookCount yX0_hookCount, .initialized RX0, .code yX0_hookCount cX0_hookCount 1 (some .int), .fieldLink RX0 22 "CoatHooks$Rack" "size" "I", .methodLink RX1 48 yX0_weightOn, .instanceMethod yX0_weightOn, .selects RX0 yX0_weightOn yX0_weightOn, .code yX0_weightOn cX0_weightOn 2 (some .int), .fieldLink RX0 15 "CoatHooks$Rack" "weights" "[I"] ++ wsX10 ++ wsX00 ++ (vx_atS RX1 150 "java/lang/IndexOutOfBoundsException" ["java/lang/RuntimeException", "java/lang/Exception"]).filter goodWord)
def wsL_find_r1 : List Cond := [Cond.classLink RL 13 "java/lang/IllegalArgumentException", Cond.methodLink RL 35 yX1_find, Cond.instanceMethod yX1_find, Cond.selects RX1 yX1_find yX1_find, Cond.initialized RX1, Cond.code yX1_find cX1_find 2 (some .int), Cond.fieldLink RX1 10 "CoatHooks" "rack" "LCoatHooks$Rack;", Cond.methodLink RX1 19 yX1_demandNumber, Cond.static yX1_demandNumber, Cond.code yX1_demandNumber cX1_demandNumber 1 none, Cond.classLink RX1 23 "java/lang/IllegalArgumentException", Cond.initialized "java/lang/IllegalArgumentException", Cond.methodLink RX1 43 yX0_whereFound, Cond.instanceMethod yX0_whereFound, Cond.selects RX0 yX0_whereFound yX0_whereFound, Cond.initialized RX0, Cond.code yX0_whereFound cX0_whereFound 3 (some .int), Cond.methodLink RX0 47 yX0_countLooks, Cond.instanceMethod yX0_countLooks, Cond.selects RX0 yX0_countLooks yX0_countLooks, Cond.code yX0_countLooks cX0_countLooks 4 (some .int), Cond.fieldLink RX0 22 "CoatHooks$Rack" "size" "I", Cond.methodLink RX0 43 yX0_hookInStep, Cond.instanceMethod yX0_hookInStep]
def wsL_find_r2 : List Cond := [Cond.selects RX0 yX0_hookInStep yX0_hookInStep, Cond.code yX0_hookInStep cX0_hookInStep 4 (some .int), Cond.fieldLink RX0 26 "CoatHooks$Rack" "manner" "I", Cond.methodLink RX0 33 yX0_heldOn, Cond.instanceMethod yX0_heldOn, Cond.selects RX0 yX0_heldOn yX0_heldOn, Cond.code yX0_heldOn cX0_heldOn 2 (some .int), Cond.fieldLink RX0 9 "CoatHooks$Rack" "held" "[I"]
def wsL_find : List Cond := .codeWith yL_find cL_find 4 (some .int) [(0, 9, 12, 13)] :: ((wsL_find_r1 ++ wsL_find_r2) ++ wsX10 ++ wsX00 ++ (vx_atS RX1 27 "java/lang/IllegalArgumentException" ["java/lang/RuntimeException", "java/lang/Exception"]).filter goodWord)
def wsL_looksFor_r1 : List Cond := [Cond.classLink RL 13 "java/lang/IllegalArgumentException", Cond.methodLink RL 38 yX1_looksFor, Cond.instanceMethod yX1_looksFor, Cond.selects RX1 yX1_looksFor yX1_looksFor, Cond.initialized RX1, Cond.code yX1_looksFor cX1_looksFor 2 (some .int), Cond.fieldLink RX1 10 "CoatHooks" "rack" "LCoatHooks$Rack;", Cond.methodLink RX1 19 yX1_demandNumber, Cond.static yX1_demandNumber, Cond.code yX1_demandNumber cX1_demandNumber 1 none, Cond.classLink RX1 23 "java/lang/IllegalArgumentException", Cond.initialized "java/lang/IllegalArgumentException", Cond.methodLink RX1 101 yX0_countLooks, Cond.instanceMethod yX0_countLooks, Cond.selects RX0 yX0_countLooks yX0_countLooks, Cond.initialized RX0, Cond.code yX0_countLooks cX0_countLooks 4 (some .int), Cond.fieldLink RX0 22 "CoatHooks$Rack" "size" "I", Cond.methodLink RX0 43 yX0_hookInStep, Cond.instanceMethod yX0_hookInStep, Cond.selects RX0 yX0_hookInStep yX0_hookInStep, Cond.code yX0_hookInStep cX0_hookInStep 4 (some .int), Cond.fieldLink RX0 26 "CoatHooks$Rack" "manner" "I", Cond.methodLink RX0 33 yX0_heldOn]
def wsL_looksFor_r2 : List Cond := [Cond.instanceMethod yX0_heldOn, Cond.selects RX0 yX0_heldOn yX0_heldOn, Cond.code yX0_heldOn cX0_heldOn 2 (some .int), Cond.fieldLink RX0 9 "CoatHooks$Rack" "held" "[I"]
def wsL_looksFor : List Cond := .codeWith yL_looksFor cL_looksFor 4 (some .int) [(0, 9, 12, 13)] :: ((wsL_looksFor_r1 ++ wsL_looksFor_r2) ++ wsX10 ++ wsX00 ++ (vx_atS RX1 27 "java/lang/IllegalArgumentException" ["java/lang/RuntimeException", "java/lang/Exception"]).filter goodWord)
def wsL_placeFor_r1 : List Cond := [Cond.classLink RL 13 "java/lang/IllegalArgumentException", Cond.methodLink RL 41 yX1_placeFor, Cond.instanceMethod yX1_placeFor, Cond.selects RX1 yX1_placeFor yX1_placeFor, Cond.initialized RX1, Cond.code yX1_placeFor cX1_placeFor 2 (some .int), Cond.fieldLink RX1 10 "CoatHooks" "rack" "LCoatHooks$Rack;", Cond.methodLink RX1 19 yX1_demandNumber, Cond.static yX1_demandNumber, Cond.code yX1_demandNumber cX1_demandNumber 1 none, Cond.classLink RX1 23 "java/lang/IllegalArgumentException", Cond.initialized "java/lang/IllegalArgumentException", Cond.methodLink RX1 30 yX0_placeOf, Cond.instanceMethod yX0_placeOf, Cond.selects RX0 yX0_placeOf yX0_placeOf, Cond.initialized RX0, Cond.code yX0_placeOf cX0_placeOf 2 (some .int), Cond.methodLink RX0 50 yX0_hangs, Cond.instanceMethod yX0_hangs, Cond.selects RX0 yX0_hangs yX0_hangs, Cond.code yX0_hangs cX0_hangs 3 (some .boolean), Cond.fieldLink RX0 22 "CoatHooks$Rack" "size" "I", Cond.methodLink RX0 33 yX0_heldOn, Cond.instanceMethod yX0_heldOn]
def wsL_placeFor_r2 : List Cond := [Cond.selects RX0 yX0_heldOn yX0_heldOn, Cond.code yX0_heldOn cX0_heldOn 2 (some .int), Cond.fieldLink RX0 9 "CoatHooks$Rack" "held" "[I", Cond.methodLink RX0 54 yX0_openHook, Cond.instanceMethod yX0_openHook, Cond.selects RX0 yX0_openHook yX0_openHook, Cond.code yX0_openHook cX0_openHook 5 (some .int), Cond.methodLink RX0 47 yX0_countLooks, Cond.instanceMethod yX0_countLooks, Cond.selects RX0 yX0_countLooks yX0_countLooks, Cond.code yX0_countLooks cX0_countLooks 4 (some .int), Cond.methodLink RX0 43 yX0_hookInStep, Cond.instanceMethod yX0_hookInStep, Cond.selects RX0 yX0_hookInStep yX0_hookInStep, Cond.code yX0_hookInStep cX0_hookInStep 4 (some .int), Cond.fieldLink RX0 26 "CoatHooks$Rack" "manner" "I"]
def wsL_placeFor : List Cond := .codeWith yL_placeFor cL_placeFor 4 (some .int) [(0, 9, 12, 13)] :: ((wsL_placeFor_r1 ++ wsL_placeFor_r2) ++ wsX10 ++ wsX00 ++ (vx_atS RX1 27 "java/lang/IllegalArgumentException" ["java/lang/RuntimeException", "java/lang/Exception"]).filter goodWord)
def wsL_lookedAt : List Cond := .codeWith yL_lookedAt cL_lookedAt 5 (some .int) [(0, 10, 13, 13)] :: ([.classLink RL 13 "java/lang/IllegalArgumentException", .methodLink RL 44 yX1_lookedAt, .instanceMethod yX1_lookedAt, .selects RX1 yX1_lookedAt yX1_lookedAt, .initialized RX1, .code yX1_lookedAt cX1_lookedAt 3 (some .int), .classLink RX1 23 "java/lang/IllegalArgumentException", .initialized "java/lang/IllegalArgumentException", .fieldLink RX1 10 "CoatHooks" "rack" "LCoatHooks$Rack;", .methodLink RX1 19 yX1_demandNumber, .static yX1_demandNumber, .code yX1_demandNumber cX1_demandNumber 1 none, .methodLink RX1 106 yX0_hookInStep, .instanceMethod yX0_hookInStep, .selects RX0 yX0_hookInStep yX0_hookInStep, .initialized RX0, .code yX0_hookInStep cX0_hookInStep 4 (some .int), .fieldLink RX0 22 "CoatHooks$Rack" "size" "I", .fieldLink RX0 26 "CoatHooks$Rack" "manner" "I"] ++ wsX10 ++ wsX00 ++ (vx_atS RX1 27 "java/lang/IllegalArgumentException" ["java/lang/RuntimeException", "java/lang/Exception"]).filter goodWord)
def wsL_rowAt_r1 : List Cond := [Cond.classLink RL 27 "java/lang/IndexOutOfBoundsException", Cond.methodLink RL 47 yX1_rowAt, Cond.instanceMethod yX1_rowAt, Cond.selects RX1 yX1_rowAt yX1_rowAt, Cond.initialized RX1, Cond.code yX1_rowAt cX1_rowAt 2 (some .int), Cond.fieldLink RX1 10 "CoatHooks" "rack" "LCoatHooks$Rack;", Cond.methodLink RX1 86 yX1_demandHook, Cond.instanceMethod yX1_demandHook, Cond.selects RX1 yX1_demandHook yX1_demandHook, Cond.code yX1_demandHook cX1_demandHook 2 none, Cond.classLink RX1 146 "java/lang/IndexOutOfBoundsException", Cond.initialized "java/lang/IndexOutOfBoundsException", Cond.methodLink RX1 74 yX0_hookCount, Cond.instanceMethod yX0_hookCount, Cond.selects RX0 yX0_hookCount yX0_hookCount, Cond.initialized RX0, Cond.code yX0_hookCount cX0_hookCount 1 (some .int), Cond.fieldLink RX0 22 "CoatHooks$Rack" "size" "I", Cond.methodLink RX1 122 yX0_rowLength, Cond.instanceMethod yX0_rowLength, Cond.selects RX0 yX0_rowLength yX0_rowLength, Cond.code yX0_rowLength cX0_rowLength 5 (some .int), Cond.methodLink RX0 33 yX0_heldOn]
def wsL_rowAt_r2 : List Cond := [Cond.instanceMethod yX0_heldOn, Cond.selects RX0 yX0_heldOn yX0_heldOn, Cond.code yX0_heldOn cX0_heldOn 2 (some .int), Cond.fieldLink RX0 9 "CoatHooks$Rack" "held" "[I", Cond.methodLink RX0 57 yX0_behind, Cond.instanceMethod yX0_behind, Cond.selects RX0 yX0_behind yX0_behind, Cond.code yX0_behind cX0_behind 2 (some .int), Cond.methodLink RX0 60 yX0_before, Cond.instanceMethod yX0_before, Cond.selects RX0 yX0_before yX0_before, Cond.code yX0_before cX0_before 2 (some .int)]
def wsL_rowAt : List Cond := .codeWith yL_rowAt cL_rowAt 4 (some .int) [(0, 9, 12, 27)] :: ((wsL_rowAt_r1 ++ wsL_rowAt_r2) ++ wsX10 ++ wsX00 ++ (vx_atS RX1 150 "java/lang/IndexOutOfBoundsException" ["java/lang/RuntimeException", "java/lang/Exception"]).filter goodWord)
def wsL_looksWith_r1 : List Cond := [Cond.classLink RL 13 "java/lang/IllegalArgumentException", Cond.methodLink RL 50 yX1_looksWith, Cond.instanceMethod yX1_looksWith, Cond.selects RX1 yX1_looksWith yX1_looksWith, Cond.initialized RX1, Cond.code yX1_looksWith cX1_looksWith 3 (some .int), Cond.methodLink RX1 54 yX1_demandHooksAndWay, Cond.static yX1_demandHooksAndWay, Cond.code yX1_demandHooksAndWay cX1_demandHooksAndWay 2 none, Cond.classLink RX1 23 "java/lang/IllegalArgumentException", Cond.initialized "java/lang/IllegalArgumentException", Cond.methodLink RX1 125 yX1_looksOnTrial, Cond.instanceMethod yX1_looksOnTrial, Cond.selects RX1 yX1_looksOnTrial yX1_looksOnTrial, Cond.code yX1_looksOnTrial cX1_looksOnTrial 3 (some .int), Cond.fieldLink RX1 16 "CoatHooks" "trial" "LCoatHooks$Rack;", Cond.methodLink RX1 58 yX1_hangAnewOnTrial, Cond.instanceMethod yX1_hangAnewOnTrial, Cond.selects RX1 yX1_hangAnewOnTrial yX1_hangAnewOnTrial, Cond.code yX1_hangAnewOnTrial cX1_hangAnewOnTrial 6 (some .boolean), Cond.fieldLink RX1 10 "CoatHooks" "rack" "LCoatHooks$Rack;", Cond.methodLink RX1 151 yX0_clear, Cond.instanceMethod yX0_clear, Cond.selects RX0 yX0_clear yX0_clear]
def wsL_looksWith_r2 : List Cond := [Cond.initialized RX0, Cond.code yX0_clear cX0_clear 4 none, Cond.fieldLink RX0 22 "CoatHooks$Rack" "size" "I", Cond.fieldLink RX0 26 "CoatHooks$Rack" "manner" "I", Cond.fieldLink RX0 9 "CoatHooks$Rack" "held" "[I", Cond.methodLink RX0 29 yX0_put, Cond.instanceMethod yX0_put, Cond.selects RX0 yX0_put yX0_put, Cond.code yX0_put cX0_put 4 none, Cond.fieldLink RX0 15 "CoatHooks$Rack" "weights" "[I", Cond.methodLink RX1 74 yX0_hookCount, Cond.instanceMethod yX0_hookCount, Cond.selects RX0 yX0_hookCount yX0_hookCount, Cond.code yX0_hookCount cX0_hookCount 1 (some .int), Cond.methodLink RX1 92 yX0_coatOn, Cond.instanceMethod yX0_coatOn, Cond.selects RX0 yX0_coatOn yX0_coatOn, Cond.code yX0_coatOn cX0_coatOn 3 (some .int), Cond.methodLink RX0 33 yX0_heldOn, Cond.instanceMethod yX0_heldOn, Cond.selects RX0 yX0_heldOn yX0_heldOn, Cond.code yX0_heldOn cX0_heldOn 2 (some .int), Cond.methodLink RX1 154 yX0_openHook, Cond.instanceMethod yX0_openHook]
def wsL_looksWith_r3 : List Cond := [Cond.selects RX0 yX0_openHook yX0_openHook, Cond.code yX0_openHook cX0_openHook 5 (some .int), Cond.methodLink RX0 47 yX0_countLooks, Cond.instanceMethod yX0_countLooks, Cond.selects RX0 yX0_countLooks yX0_countLooks, Cond.code yX0_countLooks cX0_countLooks 4 (some .int), Cond.methodLink RX0 43 yX0_hookInStep, Cond.instanceMethod yX0_hookInStep, Cond.selects RX0 yX0_hookInStep yX0_hookInStep, Cond.code yX0_hookInStep cX0_hookInStep 4 (some .int), Cond.methodLink RX1 48 yX0_weightOn, Cond.instanceMethod yX0_weightOn, Cond.selects RX0 yX0_weightOn yX0_weightOn, Cond.code yX0_weightOn cX0_weightOn 2 (some .int), Cond.methodLink RX1 39 yX0_put, Cond.methodLink RX1 110 yX0_looksForAll, Cond.instanceMethod yX0_looksForAll, Cond.selects RX0 yX0_looksForAll yX0_looksForAll, Cond.code yX0_looksForAll cX0_looksForAll 4 (some .int)]
def wsL_looksWith : List Cond := .codeWith yL_looksWith cL_looksWith 5 (some .int) [(0, 10, 13, 13)] :: ((wsL_looksWith_r1 ++ (wsL_looksWith_r2 ++ wsL_looksWith_r3)) ++ wsX10 ++ wsX00 ++ (vx_atS RX1 27 "java/lang/IllegalArgumentException" ["java/lang/RuntimeException", "java/lang/Exception"]).filter goodWord)
def wsL_hooksWanted_r1 : List Cond := [Cond.classLink RL 13 "java/lang/IllegalArgumentException", Cond.methodLink RL 53 yX1_hooksWanted, Cond.instanceMethod yX1_hooksWanted, Cond.selects RX1 yX1_hooksWanted yX1_hooksWanted, Cond.initialized RX1, Cond.code yX1_hooksWanted cX1_hooksWanted 2 (some .int), Cond.classLink RX1 23 "java/lang/IllegalArgumentException", Cond.initialized "java/lang/IllegalArgumentException", Cond.methodLink RX1 130 yX1_fewestHooks, Cond.instanceMethod yX1_fewestHooks, Cond.selects RX1 yX1_fewestHooks yX1_fewestHooks, Cond.code yX1_fewestHooks cX1_fewestHooks 4 (some .int), Cond.fieldLink RX1 10 "CoatHooks" "rack" "LCoatHooks$Rack;", Cond.methodLink RX1 83 yX0_usherWay, Cond.instanceMethod yX0_usherWay, Cond.selects RX0 yX0_usherWay yX0_usherWay, Cond.initialized RX0, Cond.code yX0_usherWay cX0_usherWay 1 (some .int), Cond.fieldLink RX0 26 "CoatHooks$Rack" "manner" "I", Cond.methodLink RX1 125 yX1_looksOnTrial, Cond.instanceMethod yX1_looksOnTrial, Cond.selects RX1 yX1_looksOnTrial yX1_looksOnTrial, Cond.code yX1_looksOnTrial cX1_looksOnTrial 3 (some .int), Cond.fieldLink RX1 16 "CoatHooks" "trial" "LCoatHooks$Rack;"]
def wsL_hooksWanted_r2 : List Cond := [Cond.methodLink RX1 58 yX1_hangAnewOnTrial, Cond.instanceMethod yX1_hangAnewOnTrial, Cond.selects RX1 yX1_hangAnewOnTrial yX1_hangAnewOnTrial, Cond.code yX1_hangAnewOnTrial cX1_hangAnewOnTrial 6 (some .boolean), Cond.methodLink RX1 151 yX0_clear, Cond.instanceMethod yX0_clear, Cond.selects RX0 yX0_clear yX0_clear, Cond.code yX0_clear cX0_clear 4 none, Cond.fieldLink RX0 22 "CoatHooks$Rack" "size" "I", Cond.fieldLink RX0 9 "CoatHooks$Rack" "held" "[I", Cond.methodLink RX0 29 yX0_put, Cond.instanceMethod yX0_put, Cond.selects RX0 yX0_put yX0_put, Cond.code yX0_put cX0_put 4 none, Cond.fieldLink RX0 15 "CoatHooks$Rack" "weights" "[I", Cond.methodLink RX1 74 yX0_hookCount, Cond.instanceMethod yX0_hookCount, Cond.selects RX0 yX0_hookCount yX0_hookCount, Cond.code yX0_hookCount cX0_hookCount 1 (some .int), Cond.methodLink RX1 92 yX0_coatOn, Cond.instanceMethod yX0_coatOn, Cond.selects RX0 yX0_coatOn yX0_coatOn, Cond.code yX0_coatOn cX0_coatOn 3 (some .int), Cond.methodLink RX0 33 yX0_heldOn]
def wsL_hooksWanted_r3 : List Cond := [Cond.instanceMethod yX0_heldOn, Cond.selects RX0 yX0_heldOn yX0_heldOn, Cond.code yX0_heldOn cX0_heldOn 2 (some .int), Cond.methodLink RX1 154 yX0_openHook, Cond.instanceMethod yX0_openHook, Cond.selects RX0 yX0_openHook yX0_openHook, Cond.code yX0_openHook cX0_openHook 5 (some .int), Cond.methodLink RX0 47 yX0_countLooks, Cond.instanceMethod yX0_countLooks, Cond.selects RX0 yX0_countLooks yX0_countLooks, Cond.code yX0_countLooks cX0_countLooks 4 (some .int), Cond.methodLink RX0 43 yX0_hookInStep, Cond.instanceMethod yX0_hookInStep, Cond.selects RX0 yX0_hookInStep yX0_hookInStep, Cond.code yX0_hookInStep cX0_hookInStep 4 (some .int), Cond.methodLink RX1 48 yX0_weightOn, Cond.instanceMethod yX0_weightOn, Cond.selects RX0 yX0_weightOn yX0_weightOn, Cond.code yX0_weightOn cX0_weightOn 2 (some .int), Cond.methodLink RX1 39 yX0_put, Cond.methodLink RX1 110 yX0_looksForAll, Cond.instanceMethod yX0_looksForAll, Cond.selects RX0 yX0_looksForAll yX0_looksForAll, Cond.code yX0_looksForAll cX0_looksForAll 4 (some .int)]
def wsL_hooksWanted : List Cond := .codeWith yL_hooksWanted cL_hooksWanted 4 (some .int) [(0, 9, 12, 13)] :: ((wsL_hooksWanted_r1 ++ (wsL_hooksWanted_r2 ++ wsL_hooksWanted_r3)) ++ wsX10 ++ wsX00 ++ (vx_atS RX1 27 "java/lang/IllegalArgumentException" ["java/lang/RuntimeException", "java/lang/Exception"]).filter goodWord)
def wsL_law0_r1 : List Cond := [Cond.classLink RL 8 RX1, Cond.instantiable RX1 2, Cond.initialized RX1, Cond.classLink RL 57 RX2, Cond.instantiable RX2 11, Cond.initialized RX2, Cond.arrayClass .long, Cond.methodLink RL 56 yX1_init, Cond.instanceMethod yX1_init, Cond.code yX1_init cX1_init 1 none, Cond.methodLink RX1 1 objectInit, Cond.instanceMethod objectInit, Cond.code objectInit ⟨#[0xb1]⟩ 1 none, Cond.classLink RX1 7 RX0, Cond.instantiable RX0 4, Cond.initialized RX0, Cond.fieldLink RX1 10 "CoatHooks" "rack" "LCoatHooks$Rack;", Cond.fieldLink RX1 16 "CoatHooks" "trial" "LCoatHooks$Rack;", Cond.methodLink RX1 9 yX0_init, Cond.instanceMethod yX0_init, Cond.code yX0_init cX0_init 1 none, Cond.methodLink RX0 3 objectInit, Cond.arrayClass .int, Cond.fieldLink RX0 9 "CoatHooks$Rack" "held" "[I"]
def wsL_law0_r2 : List Cond := [Cond.fieldLink RX0 15 "CoatHooks$Rack" "weights" "[I", Cond.methodLink RX0 18 yX0_clear, Cond.instanceMethod yX0_clear, Cond.selects RX0 yX0_clear yX0_clear, Cond.code yX0_clear cX0_clear 4 none, Cond.fieldLink RX0 22 "CoatHooks$Rack" "size" "I", Cond.fieldLink RX0 26 "CoatHooks$Rack" "manner" "I", Cond.methodLink RX0 29 yX0_put, Cond.instanceMethod yX0_put, Cond.selects RX0 yX0_put yX0_put, Cond.code yX0_put cX0_put 4 none, Cond.methodLink RL 59 yX2_init, Cond.instanceMethod yX2_init, Cond.code yX2_init cX2_init 1 none, Cond.methodLink RX2 1 objectInit, Cond.fieldLink RX2 7 "CoatHooksModel" "hooks" "I", Cond.fieldLink RX2 13 "CoatHooksModel" "row" "[I", Cond.fieldLink RX2 17 "CoatHooksModel" "heavy" "[I", Cond.fieldLink RX2 20 "CoatHooksModel" "other" "[I", Cond.fieldLink RX2 23 "CoatHooksModel" "otherHeavy" "[I", Cond.methodLink RX2 26 yX2_clear, Cond.static yX2_clear, Cond.code yX2_clear cX2_clear 3 none, Cond.methodLink RL 60 yL_hang]
def wsL_law0_r3 : List Cond := [Cond.static yL_hang, Cond.initialized RL, Cond.codeWith yL_hang cL_hang 5 (some .int) [(0, 10, 13, 13), (0, 10, 17, 15)], Cond.classLink RL 13 "java/lang/IllegalArgumentException", Cond.classLink RL 15 "java/lang/IllegalStateException", Cond.methodLink RL 7 yX1_hang, Cond.instanceMethod yX1_hang, Cond.selects RX1 yX1_hang yX1_hang, Cond.code yX1_hang cX1_hang 4 (some .int), Cond.classLink RX1 23 "java/lang/IllegalArgumentException", Cond.initialized "java/lang/IllegalArgumentException", Cond.classLink RX1 34 "java/lang/IllegalStateException", Cond.initialized "java/lang/IllegalStateException", Cond.methodLink RX1 19 yX1_demandNumber, Cond.static yX1_demandNumber, Cond.code yX1_demandNumber cX1_demandNumber 1 none, Cond.methodLink RX1 30 yX0_placeOf, Cond.instanceMethod yX0_placeOf, Cond.selects RX0 yX0_placeOf yX0_placeOf, Cond.code yX0_placeOf cX0_placeOf 2 (some .int), Cond.methodLink RX0 50 yX0_hangs, Cond.instanceMethod yX0_hangs, Cond.selects RX0 yX0_hangs yX0_hangs, Cond.code yX0_hangs cX0_hangs 3 (some .boolean)]
def wsL_law0_r4 : List Cond := [Cond.methodLink RX0 33 yX0_heldOn, Cond.instanceMethod yX0_heldOn, Cond.selects RX0 yX0_heldOn yX0_heldOn, Cond.code yX0_heldOn cX0_heldOn 2 (some .int), Cond.methodLink RX0 54 yX0_openHook, Cond.instanceMethod yX0_openHook, Cond.selects RX0 yX0_openHook yX0_openHook, Cond.code yX0_openHook cX0_openHook 5 (some .int), Cond.methodLink RX0 47 yX0_countLooks, Cond.instanceMethod yX0_countLooks, Cond.selects RX0 yX0_countLooks yX0_countLooks, Cond.code yX0_countLooks cX0_countLooks 4 (some .int), Cond.methodLink RX0 43 yX0_hookInStep, Cond.instanceMethod yX0_hookInStep, Cond.selects RX0 yX0_hookInStep yX0_hookInStep, Cond.code yX0_hookInStep cX0_hookInStep 4 (some .int), Cond.methodLink RX1 39 yX0_put, Cond.methodLink RL 65 yX2_hang, Cond.instanceMethod yX2_hang, Cond.selects RX2 yX2_hang yX2_hang, Cond.code yX2_hang cX2_hang 4 (some .int), Cond.fieldLink RX2 30 "CoatHooksModel" "thrown" "I", Cond.methodLink RX2 64 yX2_isNumber, Cond.static yX2_isNumber]
def wsL_law0_r5 : List Cond := [Cond.code yX2_isNumber cX2_isNumber 1 (some .boolean), Cond.methodLink RX2 33 yX2_isIn, Cond.static yX2_isIn, Cond.code yX2_isIn cX2_isIn 3 (some .boolean), Cond.methodLink RX2 67 yX2_no, Cond.instanceMethod yX2_no, Cond.selects RX2 yX2_no yX2_no, Cond.code yX2_no cX2_no 2 (some .int), Cond.methodLink RX2 71 yX2_place, Cond.instanceMethod yX2_place, Cond.selects RX2 yX2_place yX2_place, Cond.code yX2_place cX2_place 2 (some .int), Cond.fieldLink RX2 46 "CoatHooksModel" "ticket" "I", Cond.fieldLink RX2 43 "CoatHooksModel" "free" "I", Cond.methodLink RX2 56 yX2_hangs, Cond.instanceMethod yX2_hangs, Cond.selects RX2 yX2_hangs yX2_hangs, Cond.code yX2_hangs cX2_hangs 3 (some .boolean), Cond.methodLink RX2 60 yX2_lookNow, Cond.instanceMethod yX2_lookNow, Cond.selects RX2 yX2_lookNow yX2_lookNow, Cond.code yX2_lookNow cX2_lookNow 2 none, Cond.fieldLink RX2 49 "CoatHooksModel" "way" "I", Cond.methodLink RX2 52 yX2_look]
def wsL_law0_r6 : List Cond := [Cond.instanceMethod yX2_look, Cond.selects RX2 yX2_look yX2_look, Cond.code yX2_look cX2_look 7 none, Cond.fieldLink RX2 37 "CoatHooksModel" "looks" "I", Cond.fieldLink RX2 40 "CoatHooksModel" "found" "I", Cond.methodLink RX2 74 yX2_hung, Cond.instanceMethod yX2_hung, Cond.selects RX2 yX2_hung yX2_hung, Cond.code yX2_hung cX2_hung 4 (some .int), Cond.methodLink RL 66 yX2_thrown, Cond.instanceMethod yX2_thrown, Cond.selects RX2 yX2_thrown yX2_thrown, Cond.code yX2_thrown cX2_thrown 1 (some .int), Cond.methodLink RL 70 yL_take, Cond.static yL_take, Cond.codeWith yL_take cL_take 4 (some .int) [(0, 9, 12, 13), (0, 9, 15, 15)], Cond.methodLink RL 17 yX1_take, Cond.instanceMethod yX1_take, Cond.selects RX1 yX1_take yX1_take, Cond.code yX1_take cX1_take 4 (some .int), Cond.methodLink RX1 43 yX0_whereFound, Cond.instanceMethod yX0_whereFound, Cond.selects RX0 yX0_whereFound yX0_whereFound, Cond.code yX0_whereFound cX0_whereFound 3 (some .int)]
def wsL_law0_r7 : List Cond := [Cond.methodLink RX1 48 yX0_weightOn, Cond.instanceMethod yX0_weightOn, Cond.selects RX0 yX0_weightOn yX0_weightOn, Cond.code yX0_weightOn cX0_weightOn 2 (some .int), Cond.methodLink RX1 51 yX0_leaveTicket, Cond.instanceMethod yX0_leaveTicket, Cond.selects RX0 yX0_leaveTicket yX0_leaveTicket, Cond.code yX0_leaveTicket cX0_leaveTicket 2 none, Cond.methodLink RL 73 yX2_take, Cond.instanceMethod yX2_take, Cond.selects RX2 yX2_take yX2_take, Cond.code yX2_take cX2_take 2 (some .int), Cond.methodLink RL 74 yL_rehang, Cond.static yL_rehang, Cond.codeWith yL_rehang cL_rehang 5 (some .int) [(0, 10, 13, 13), (0, 10, 17, 15)], Cond.methodLink RL 21 yX1_rehang, Cond.instanceMethod yX1_rehang, Cond.selects RX1 yX1_rehang yX1_rehang, Cond.code yX1_rehang cX1_rehang 4 (some .int), Cond.methodLink RX1 54 yX1_demandHooksAndWay, Cond.static yX1_demandHooksAndWay, Cond.code yX1_demandHooksAndWay cX1_demandHooksAndWay 2 none, Cond.methodLink RX1 58 yX1_hangAnewOnTrial, Cond.instanceMethod yX1_hangAnewOnTrial]
def wsL_law0_r8 : List Cond := [Cond.selects RX1 yX1_hangAnewOnTrial yX1_hangAnewOnTrial, Cond.code yX1_hangAnewOnTrial cX1_hangAnewOnTrial 6 (some .boolean), Cond.methodLink RX1 151 yX0_clear, Cond.methodLink RX1 74 yX0_hookCount, Cond.instanceMethod yX0_hookCount, Cond.selects RX0 yX0_hookCount yX0_hookCount, Cond.code yX0_hookCount cX0_hookCount 1 (some .int), Cond.methodLink RX1 92 yX0_coatOn, Cond.instanceMethod yX0_coatOn, Cond.selects RX0 yX0_coatOn yX0_coatOn, Cond.code yX0_coatOn cX0_coatOn 3 (some .int), Cond.methodLink RX1 154 yX0_openHook, Cond.methodLink RX1 64 yX1_coatsMovedOnTrial, Cond.instanceMethod yX1_coatsMovedOnTrial, Cond.selects RX1 yX1_coatsMovedOnTrial yX1_coatsMovedOnTrial, Cond.code yX1_coatsMovedOnTrial cX1_coatsMovedOnTrial 4 (some .int), Cond.methodLink RX1 68 yX1_takeOverTrial, Cond.instanceMethod yX1_takeOverTrial, Cond.selects RX1 yX1_takeOverTrial yX1_takeOverTrial, Cond.code yX1_takeOverTrial cX1_takeOverTrial 3 none, Cond.methodLink RX1 83 yX0_usherWay, Cond.instanceMethod yX0_usherWay, Cond.selects RX0 yX0_usherWay yX0_usherWay, Cond.code yX0_usherWay cX0_usherWay 1 (some .int)]
def wsL_law0_r9 : List Cond := [Cond.methodLink RL 76 yX2_rehang, Cond.instanceMethod yX2_rehang, Cond.selects RX2 yX2_rehang yX2_rehang, Cond.code yX2_rehang cX2_rehang 5 (some .int), Cond.methodLink RX2 78 yX2_anew, Cond.instanceMethod yX2_anew, Cond.selects RX2 yX2_anew yX2_anew, Cond.code yX2_anew cX2_anew 5 (some .int), Cond.methodLink RX2 82 yX2_moved, Cond.instanceMethod yX2_moved, Cond.selects RX2 yX2_moved yX2_moved, Cond.code yX2_moved cX2_moved 3 (some .int), Cond.methodLink RL 77 yX1_sweep, Cond.instanceMethod yX1_sweep, Cond.selects RX1 yX1_sweep yX1_sweep, Cond.code yX1_sweep cX1_sweep 2 (some .int), Cond.methodLink RX1 71 yX0_countInState, Cond.instanceMethod yX0_countInState, Cond.selects RX0 yX0_countInState yX0_countInState, Cond.code yX0_countInState cX0_countInState 4 (some .int), Cond.methodLink RX0 37 yX0_stateOn, Cond.instanceMethod yX0_stateOn, Cond.selects RX0 yX0_stateOn yX0_stateOn, Cond.code yX0_stateOn cX0_stateOn 3 (some .int)]
def wsL_law0_r10 : List Cond := [Cond.methodLink RX1 77 yX0_freeAll, Cond.instanceMethod yX0_freeAll, Cond.selects RX0 yX0_freeAll yX0_freeAll, Cond.code yX0_freeAll cX0_freeAll 2 (some .int), Cond.methodLink RX1 80 yX0_freeSweptTickets, Cond.instanceMethod yX0_freeSweptTickets, Cond.selects RX0 yX0_freeSweptTickets yX0_freeSweptTickets, Cond.code yX0_freeSweptTickets cX0_freeSweptTickets 4 (some .int), Cond.methodLink RX0 57 yX0_behind, Cond.instanceMethod yX0_behind, Cond.selects RX0 yX0_behind yX0_behind, Cond.code yX0_behind cX0_behind 2 (some .int), Cond.methodLink RX0 60 yX0_before, Cond.instanceMethod yX0_before, Cond.selects RX0 yX0_before yX0_before, Cond.code yX0_before cX0_before 2 (some .int), Cond.methodLink RL 80 yX2_sweep, Cond.instanceMethod yX2_sweep, Cond.selects RX2 yX2_sweep yX2_sweep, Cond.code yX2_sweep cX2_sweep 3 (some .int), Cond.methodLink RX2 86 yX2_count, Cond.instanceMethod yX2_count, Cond.selects RX2 yX2_count yX2_count, Cond.code yX2_count cX2_count 4 (some .int)]
def wsL_law0_r11 : List Cond := [Cond.methodLink RL 81 yX1_hooks, Cond.instanceMethod yX1_hooks, Cond.selects RX1 yX1_hooks yX1_hooks, Cond.code yX1_hooks cX1_hooks 1 (some .int), Cond.methodLink RL 84 yX2_hooks, Cond.instanceMethod yX2_hooks, Cond.selects RX2 yX2_hooks yX2_hooks, Cond.code yX2_hooks cX2_hooks 1 (some .int), Cond.methodLink RX2 89 yX2_ok, Cond.instanceMethod yX2_ok, Cond.selects RX2 yX2_ok yX2_ok, Cond.code yX2_ok cX2_ok 2 (some .int), Cond.methodLink RL 85 yX1_way, Cond.instanceMethod yX1_way, Cond.selects RX1 yX1_way yX1_way, Cond.code yX1_way cX1_way 1 (some .int), Cond.methodLink RL 88 yX2_way, Cond.instanceMethod yX2_way, Cond.selects RX2 yX2_way yX2_way, Cond.code yX2_way cX2_way 1 (some .int), Cond.methodLink RL 89 yX1_coats, Cond.instanceMethod yX1_coats, Cond.selects RX1 yX1_coats yX1_coats, Cond.code yX1_coats cX1_coats 1 (some .int)]
def wsL_law0_r12 : List Cond := [Cond.methodLink RL 92 yX2_coats, Cond.instanceMethod yX2_coats, Cond.selects RX2 yX2_coats yX2_coats, Cond.code yX2_coats cX2_coats 1 (some .int), Cond.methodLink RX2 92 yX2_many, Cond.instanceMethod yX2_many, Cond.selects RX2 yX2_many yX2_many, Cond.code yX2_many cX2_many 3 (some .int), Cond.methodLink RL 93 yX1_tickets, Cond.instanceMethod yX1_tickets, Cond.selects RX1 yX1_tickets yX1_tickets, Cond.code yX1_tickets cX1_tickets 1 (some .int), Cond.methodLink RL 96 yX2_tickets, Cond.instanceMethod yX2_tickets, Cond.selects RX2 yX2_tickets yX2_tickets, Cond.code yX2_tickets cX2_tickets 1 (some .int), Cond.methodLink RL 97 yL_stateOf, Cond.static yL_stateOf, Cond.codeWith yL_stateOf cL_stateOf 4 (some .int) [(0, 9, 12, 27)], Cond.classLink RL 27 "java/lang/IndexOutOfBoundsException", Cond.methodLink RL 24 yX1_stateOf, Cond.instanceMethod yX1_stateOf, Cond.selects RX1 yX1_stateOf yX1_stateOf, Cond.code yX1_stateOf cX1_stateOf 2 (some .int)]
def wsL_law0_r13 : List Cond := [Cond.methodLink RX1 86 yX1_demandHook, Cond.instanceMethod yX1_demandHook, Cond.selects RX1 yX1_demandHook yX1_demandHook, Cond.code yX1_demandHook cX1_demandHook 2 none, Cond.classLink RX1 146 "java/lang/IndexOutOfBoundsException", Cond.initialized "java/lang/IndexOutOfBoundsException", Cond.methodLink RX1 89 yX0_stateOn, Cond.methodLink RL 99 yX2_stateOf, Cond.instanceMethod yX2_stateOf, Cond.selects RX2 yX2_stateOf yX2_stateOf, Cond.code yX2_stateOf cX2_stateOf 2 (some .int), Cond.methodLink RX2 95 yX2_isHook, Cond.instanceMethod yX2_isHook, Cond.selects RX2 yX2_isHook yX2_isHook, Cond.code yX2_isHook cX2_isHook 2 (some .boolean), Cond.methodLink RX2 98 yX2_state, Cond.instanceMethod yX2_state, Cond.selects RX2 yX2_state yX2_state, Cond.code yX2_state cX2_state 2 (some .int), Cond.methodLink RL 100 yL_coatAt, Cond.static yL_coatAt, Cond.codeWith yL_coatAt cL_coatAt 4 (some .int) [(0, 9, 12, 27)], Cond.methodLink RL 29 yX1_coatAt, Cond.instanceMethod yX1_coatAt]
def wsL_law0_r14 : List Cond := [Cond.selects RX1 yX1_coatAt yX1_coatAt, Cond.code yX1_coatAt cX1_coatAt 2 (some .int), Cond.methodLink RL 102 yX2_coatAt, Cond.instanceMethod yX2_coatAt, Cond.selects RX2 yX2_coatAt yX2_coatAt, Cond.code yX2_coatAt cX2_coatAt 2 (some .int), Cond.methodLink RX2 106 yX2_coat, Cond.instanceMethod yX2_coat, Cond.selects RX2 yX2_coat yX2_coat, Cond.code yX2_coat cX2_coat 2 (some .int), Cond.methodLink RX2 101 Lib.Math.max.name, Cond.static Lib.Math.max.name, Cond.initialized "java/lang/Math", Cond.code Lib.Math.max.name Lib.Math.max.code 2 (some .int), Cond.methodLink RL 103 yL_weightAt, Cond.static yL_weightAt, Cond.codeWith yL_weightAt cL_weightAt 4 (some .int) [(0, 9, 12, 27)], Cond.methodLink RL 32 yX1_weightAt, Cond.instanceMethod yX1_weightAt, Cond.selects RX1 yX1_weightAt yX1_weightAt, Cond.code yX1_weightAt cX1_weightAt 2 (some .int), Cond.methodLink RL 105 yX2_weightAt, Cond.instanceMethod yX2_weightAt, Cond.selects RX2 yX2_weightAt yX2_weightAt]
def wsL_law0_r15 : List Cond := [Cond.code yX2_weightAt cX2_weightAt 2 (some .int), Cond.methodLink RX2 109 yX2_weightOn, Cond.instanceMethod yX2_weightOn, Cond.selects RX2 yX2_weightOn yX2_weightOn, Cond.code yX2_weightOn cX2_weightOn 2 (some .int), Cond.methodLink RL 106 yX1_weight, Cond.instanceMethod yX1_weight, Cond.selects RX1 yX1_weight yX1_weight, Cond.code yX1_weight cX1_weight 1 (some .int), Cond.methodLink RX1 95 yX0_weightOfAll, Cond.instanceMethod yX0_weightOfAll, Cond.selects RX0 yX0_weightOfAll yX0_weightOfAll, Cond.code yX0_weightOfAll cX0_weightOfAll 3 (some .int), Cond.methodLink RX0 40 yX0_weightOn, Cond.methodLink RL 109 yX2_weight, Cond.instanceMethod yX2_weight, Cond.selects RX2 yX2_weight yX2_weight, Cond.code yX2_weight cX2_weight 1 (some .int), Cond.methodLink RX2 112 yX2_all, Cond.instanceMethod yX2_all, Cond.selects RX2 yX2_all yX2_all, Cond.code yX2_all cX2_all 3 (some .int), Cond.methodLink RL 110 yX1_heaviestAt, Cond.instanceMethod yX1_heaviestAt]
def wsL_law0_r16 : List Cond := [Cond.selects RX1 yX1_heaviestAt yX1_heaviestAt, Cond.code yX1_heaviestAt cX1_heaviestAt 1 (some .int), Cond.methodLink RX1 98 yX0_hookOfHeaviest, Cond.instanceMethod yX0_hookOfHeaviest, Cond.selects RX0 yX0_hookOfHeaviest yX0_hookOfHeaviest, Cond.code yX0_hookOfHeaviest cX0_hookOfHeaviest 4 (some .int), Cond.methodLink RL 113 yX2_heaviestAt, Cond.instanceMethod yX2_heaviestAt, Cond.selects RX2 yX2_heaviestAt yX2_heaviestAt, Cond.code yX2_heaviestAt cX2_heaviestAt 1 (some .int), Cond.methodLink RX2 115 yX2_heaviest, Cond.instanceMethod yX2_heaviest, Cond.selects RX2 yX2_heaviest yX2_heaviest, Cond.code yX2_heaviest cX2_heaviest 3 (some .int), Cond.methodLink RL 114 yL_find, Cond.static yL_find, Cond.codeWith yL_find cL_find 4 (some .int) [(0, 9, 12, 13)], Cond.methodLink RL 35 yX1_find, Cond.instanceMethod yX1_find, Cond.selects RX1 yX1_find yX1_find, Cond.code yX1_find cX1_find 2 (some .int), Cond.methodLink RL 116 yX2_find, Cond.instanceMethod yX2_find, Cond.selects RX2 yX2_find yX2_find]
def wsL_law0_r17 : List Cond := [Cond.code yX2_find cX2_find 2 (some .int), Cond.methodLink RL 117 yL_looksFor, Cond.static yL_looksFor, Cond.codeWith yL_looksFor cL_looksFor 4 (some .int) [(0, 9, 12, 13)], Cond.methodLink RL 38 yX1_looksFor, Cond.instanceMethod yX1_looksFor, Cond.selects RX1 yX1_looksFor yX1_looksFor, Cond.code yX1_looksFor cX1_looksFor 2 (some .int), Cond.methodLink RX1 101 yX0_countLooks, Cond.methodLink RL 119 yX2_looksFor, Cond.instanceMethod yX2_looksFor, Cond.selects RX2 yX2_looksFor yX2_looksFor, Cond.code yX2_looksFor cX2_looksFor 2 (some .int), Cond.methodLink RX2 118 yX2_manyLooks, Cond.instanceMethod yX2_manyLooks, Cond.selects RX2 yX2_manyLooks yX2_manyLooks, Cond.code yX2_manyLooks cX2_manyLooks 2 (some .int), Cond.methodLink RL 120 yL_placeFor, Cond.static yL_placeFor, Cond.codeWith yL_placeFor cL_placeFor 4 (some .int) [(0, 9, 12, 13)], Cond.methodLink RL 41 yX1_placeFor, Cond.instanceMethod yX1_placeFor, Cond.selects RX1 yX1_placeFor yX1_placeFor, Cond.code yX1_placeFor cX1_placeFor 2 (some .int)]
def wsL_law0_r18 : List Cond := [Cond.methodLink RL 122 yX2_placeFor, Cond.instanceMethod yX2_placeFor, Cond.selects RX2 yX2_placeFor yX2_placeFor, Cond.code yX2_placeFor cX2_placeFor 2 (some .int), Cond.methodLink RL 123 yL_lookedAt, Cond.static yL_lookedAt, Cond.codeWith yL_lookedAt cL_lookedAt 5 (some .int) [(0, 10, 13, 13)], Cond.methodLink RL 44 yX1_lookedAt, Cond.instanceMethod yX1_lookedAt, Cond.selects RX1 yX1_lookedAt yX1_lookedAt, Cond.code yX1_lookedAt cX1_lookedAt 3 (some .int), Cond.methodLink RX1 106 yX0_hookInStep, Cond.methodLink RL 125 yX2_lookedAt, Cond.instanceMethod yX2_lookedAt, Cond.selects RX2 yX2_lookedAt yX2_lookedAt, Cond.code yX2_lookedAt cX2_lookedAt 4 (some .int), Cond.methodLink RL 126 yX1_allLooks, Cond.instanceMethod yX1_allLooks, Cond.selects RX1 yX1_allLooks yX1_allLooks, Cond.code yX1_allLooks cX1_allLooks 1 (some .int), Cond.methodLink RX1 110 yX0_looksForAll, Cond.instanceMethod yX0_looksForAll, Cond.selects RX0 yX0_looksForAll yX0_looksForAll, Cond.code yX0_looksForAll cX0_looksForAll 4 (some .int)]
def wsL_law0_r19 : List Cond := [Cond.methodLink RL 129 yX2_allLooks, Cond.instanceMethod yX2_allLooks, Cond.selects RX2 yX2_allLooks yX2_allLooks, Cond.code yX2_allLooks cX2_allLooks 1 (some .int), Cond.methodLink RX2 121 yX2_looksForAll, Cond.instanceMethod yX2_looksForAll, Cond.selects RX2 yX2_looksForAll yX2_looksForAll, Cond.code yX2_looksForAll cX2_looksForAll 3 (some .int), Cond.methodLink RL 130 yX1_farthest, Cond.instanceMethod yX1_farthest, Cond.selects RX1 yX1_farthest yX1_farthest, Cond.code yX1_farthest cX1_farthest 1 (some .int), Cond.methodLink RX1 113 yX0_coatWithMostLooks, Cond.instanceMethod yX0_coatWithMostLooks, Cond.selects RX0 yX0_coatWithMostLooks yX0_coatWithMostLooks, Cond.code yX0_coatWithMostLooks cX0_coatWithMostLooks 6 (some .int), Cond.methodLink RL 133 yX2_farthest, Cond.instanceMethod yX2_farthest, Cond.selects RX2 yX2_farthest yX2_farthest, Cond.code yX2_farthest cX2_farthest 1 (some .int), Cond.methodLink RX2 124 yX2_far, Cond.instanceMethod yX2_far, Cond.selects RX2 yX2_far yX2_far, Cond.code yX2_far cX2_far 4 (some .int)]
def wsL_law0_r20 : List Cond := [Cond.methodLink RL 134 yX1_rows, Cond.instanceMethod yX1_rows, Cond.selects RX1 yX1_rows yX1_rows, Cond.code yX1_rows cX1_rows 1 (some .int), Cond.methodLink RX1 116 yX0_rowCount, Cond.instanceMethod yX0_rowCount, Cond.selects RX0 yX0_rowCount yX0_rowCount, Cond.code yX0_rowCount cX0_rowCount 4 (some .int), Cond.methodLink RL 137 yX2_rows, Cond.instanceMethod yX2_rows, Cond.selects RX2 yX2_rows yX2_rows, Cond.code yX2_rows cX2_rows 1 (some .int), Cond.methodLink RX2 127 yX2_rowsNow, Cond.instanceMethod yX2_rowsNow, Cond.selects RX2 yX2_rowsNow yX2_rowsNow, Cond.code yX2_rowsNow cX2_rowsNow 3 (some .int), Cond.methodLink RL 138 yX1_longestRow, Cond.instanceMethod yX1_longestRow, Cond.selects RX1 yX1_longestRow yX1_longestRow, Cond.code yX1_longestRow cX1_longestRow 1 (some .int), Cond.methodLink RX1 119 yX0_longestRowLength, Cond.instanceMethod yX0_longestRowLength, Cond.selects RX0 yX0_longestRowLength yX0_longestRowLength, Cond.code yX0_longestRowLength cX0_longestRowLength 4 (some .int)]
def wsL_law0_r21 : List Cond := [Cond.methodLink RX0 63 yX0_rowLength, Cond.instanceMethod yX0_rowLength, Cond.selects RX0 yX0_rowLength yX0_rowLength, Cond.code yX0_rowLength cX0_rowLength 5 (some .int), Cond.methodLink RL 141 yX2_longestRow, Cond.instanceMethod yX2_longestRow, Cond.selects RX2 yX2_longestRow yX2_longestRow, Cond.code yX2_longestRow cX2_longestRow 1 (some .int), Cond.methodLink RX2 136 yX2_longest, Cond.instanceMethod yX2_longest, Cond.selects RX2 yX2_longest yX2_longest, Cond.code yX2_longest cX2_longest 3 (some .int), Cond.methodLink RX2 133 yX2_rowOf, Cond.instanceMethod yX2_rowOf, Cond.selects RX2 yX2_rowOf yX2_rowOf, Cond.code yX2_rowOf cX2_rowOf 4 (some .int), Cond.methodLink RX2 130 Lib.Math.min.name, Cond.static Lib.Math.min.name, Cond.code Lib.Math.min.name Lib.Math.min.code 2 (some .int), Cond.methodLink RL 142 yL_rowAt, Cond.static yL_rowAt, Cond.codeWith yL_rowAt cL_rowAt 4 (some .int) [(0, 9, 12, 27)], Cond.methodLink RL 47 yX1_rowAt, Cond.instanceMethod yX1_rowAt]
def wsL_law0_r22 : List Cond := [Cond.selects RX1 yX1_rowAt yX1_rowAt, Cond.code yX1_rowAt cX1_rowAt 2 (some .int), Cond.methodLink RX1 122 yX0_rowLength, Cond.methodLink RL 144 yX2_rowAt, Cond.instanceMethod yX2_rowAt, Cond.selects RX2 yX2_rowAt yX2_rowAt, Cond.code yX2_rowAt cX2_rowAt 2 (some .int), Cond.methodLink RL 145 yL_looksWith, Cond.static yL_looksWith, Cond.codeWith yL_looksWith cL_looksWith 5 (some .int) [(0, 10, 13, 13)], Cond.methodLink RL 50 yX1_looksWith, Cond.instanceMethod yX1_looksWith, Cond.selects RX1 yX1_looksWith yX1_looksWith, Cond.code yX1_looksWith cX1_looksWith 3 (some .int), Cond.methodLink RX1 125 yX1_looksOnTrial, Cond.instanceMethod yX1_looksOnTrial, Cond.selects RX1 yX1_looksOnTrial yX1_looksOnTrial, Cond.code yX1_looksOnTrial cX1_looksOnTrial 3 (some .int), Cond.methodLink RL 147 yX2_looksWith, Cond.instanceMethod yX2_looksWith, Cond.selects RX2 yX2_looksWith yX2_looksWith, Cond.code yX2_looksWith cX2_looksWith 3 (some .int), Cond.methodLink RL 148 yX1_bestWay, Cond.instanceMethod yX1_bestWay]
def wsL_law0_r23 : List Cond := [Cond.selects RX1 yX1_bestWay yX1_bestWay, Cond.code yX1_bestWay cX1_bestWay 5 (some .int), Cond.methodLink RL 151 yX2_bestWay, Cond.instanceMethod yX2_bestWay, Cond.selects RX2 yX2_bestWay yX2_bestWay, Cond.code yX2_bestWay cX2_bestWay 1 (some .int), Cond.methodLink RX2 139 yX2_best, Cond.instanceMethod yX2_best, Cond.selects RX2 yX2_best yX2_best, Cond.code yX2_best cX2_best 5 (some .int), Cond.methodLink RL 152 yL_hooksWanted, Cond.static yL_hooksWanted, Cond.codeWith yL_hooksWanted cL_hooksWanted 4 (some .int) [(0, 9, 12, 13)], Cond.methodLink RL 53 yX1_hooksWanted, Cond.instanceMethod yX1_hooksWanted, Cond.selects RX1 yX1_hooksWanted yX1_hooksWanted, Cond.code yX1_hooksWanted cX1_hooksWanted 2 (some .int), Cond.methodLink RX1 130 yX1_fewestHooks, Cond.instanceMethod yX1_fewestHooks, Cond.selects RX1 yX1_fewestHooks yX1_fewestHooks, Cond.code yX1_fewestHooks cX1_fewestHooks 4 (some .int), Cond.methodLink RL 154 yX2_hooksWanted, Cond.instanceMethod yX2_hooksWanted, Cond.selects RX2 yX2_hooksWanted yX2_hooksWanted]
def wsL_law0_r24 : List Cond := [Cond.code yX2_hooksWanted cX2_hooksWanted 2 (some .int), Cond.methodLink RX2 142 yX2_wanted, Cond.instanceMethod yX2_wanted, Cond.selects RX2 yX2_wanted yX2_wanted, Cond.code yX2_wanted cX2_wanted 3 (some .int), Cond.methodLink RL 155 yX1_meanLooks, Cond.instanceMethod yX1_meanLooks, Cond.selects RX1 yX1_meanLooks yX1_meanLooks, Cond.code yX1_meanLooks cX1_meanLooks 2 (some .double), Cond.methodLink RL 159 yX2_meanLooks, Cond.instanceMethod yX2_meanLooks, Cond.selects RX2 yX2_meanLooks yX2_meanLooks, Cond.code yX2_meanLooks cX2_meanLooks 2 (some .double), Cond.methodLink RL 160 yX1_digest, Cond.instanceMethod yX1_digest, Cond.selects RX1 yX1_digest yX1_digest, Cond.code yX1_digest cX1_digest 4 (some .long), Cond.constantLong RX1 133 (2237), Cond.constantLong RX1 135 (31), Cond.methodLink RX1 137 yX1_bestWay, Cond.methodLink RL 164 yX2_digest, Cond.instanceMethod yX2_digest, Cond.selects RX2 yX2_digest yX2_digest, Cond.code yX2_digest cX2_digest 10 (some .long)]
def wsL_law0_r25 : List Cond := [Cond.constantLong RX2 145 (2237), Cond.constantLong RX2 147 (31)]
def wsL_law0 : List Cond := (wsL_law0_r1 ++ (wsL_law0_r2 ++ (wsL_law0_r3 ++ (wsL_law0_r4 ++ (wsL_law0_r5 ++ (wsL_law0_r6 ++ (wsL_law0_r7 ++ (wsL_law0_r8 ++ (wsL_law0_r9 ++ (wsL_law0_r10 ++ (wsL_law0_r11 ++ (wsL_law0_r12 ++ (wsL_law0_r13 ++ (wsL_law0_r14 ++ (wsL_law0_r15 ++ (wsL_law0_r16 ++ (wsL_law0_r17 ++ (wsL_law0_r18 ++ (wsL_law0_r19 ++ (wsL_law0_r20 ++ (wsL_law0_r21 ++ (wsL_law0_r22 ++ (wsL_law0_r23 ++ (wsL_law0_r24 ++ wsL_law0_r25)))))))))))))))))))))))) ++ wsX10 ++ wsX20 ++ wsX00 ++ ([] : List Cond)
def wsL_law : List Cond := wsL_law0 ++ (vx_atS RX1 27 "java/lang/IllegalArgumentException" ["java/lang/RuntimeException", "java/lang/Exception"]).filter goodWord ++ (vx_atS RX1 38 "java/lang/IllegalStateException" ["java/lang/RuntimeException", "java/lang/Exception"]).filter goodWord ++ (vx_atS RX1 150 "java/lang/IndexOutOfBoundsException" ["java/lang/RuntimeException", "java/lang/Exception"]).filter goodWord
set_option maxRecDepth 20000 in
theorem ggX0_init_X0_clear : GoodIn wsX0_init wsX0_clear := goodIn_r _ [11, 12, 13, 5, 14, 15, 16, 10, 17, 6, 18, 19, 20, 21] (by decide +kernel) (by decide +kernel)
set_option maxRecDepth 20000 in
theorem gX0_init_X0_clear : GoodIn wsX0_init (wsV RX0 18 RX0 yX0_clear wsX0_clear) := goodIn_app (goodIn_of _ (by decide +kernel)) ggX0_init_X0_clear
abbrev vwCl : List vw_C := [(RX0, TX0, 4), (RX1, TX1, 2), (RX2, TX2, 11)]
end
section
/-! the thin layer: rows for methods that leave the heap as it was, and for methods that change the cells of one world -/
section TH
variable {p : Program} {l : Launch} {e : Env} {R : Room} {s : State} {m : MethodId} {args : Array Value} {below : List Frame} {meth : Method} {c : Code} {H : Heap} {locs : List Loc} {cells slots : Nat} {Q : State → Prop}
variable {cc : ByteArray} {pc : Nat} {ls : Array Slot} {rest st0 : List Value} {D : va_G} {tys : List (ClassId × FieldType)}
variable {y : MethodName} {bytes : ByteArray} {maxL nL mc ms n index : Nat} {ret : Option FieldType} {ws ws' Ts : List Cond} {rm : Room} {own C : String} {b : Addr} {As : List Value}
theorem tp_i {x y : Int32} (h : x = y) (k : W p l e R s m args below meth c H locs cells slots Q (F0 m pc ls (.int y :: rest))) : W p l e R s m args below meth c H locs cells slots Q (F0 m pc ls (.int x :: rest)) := by rw [h]; exact k
theorem tp_l {x y : Int64} (h : x = y) (k : W p l e R s m args below meth c H locs cells slots Q (F0 m pc ls (.long y :: rest))) : W p l e R s m args below meth c H locs cells slots Q (F0 m pc ls (.long x :: rest)) := by rw [h]; exact k
/-- an array's place, the index a natural number -/
theorem al_i (hexec : p.tables.exec = Jvm.exec) (hb : c.code = cc) (hK : va_K D vwCl tys s) {w : va_W} (hP : va_P D vwCl w H) (q0 t0 : Nat) {a : Nat} {cA : ClassId} {n : Nat} {f : Nat → Int32} (ha : w[q0]? = some (a, .inl (cA, n, .inl f))) (ht : tys[t0]? = some (cA, .int)) {k : Nat} (hk : k < n) (hn : n < 2 ^ 31) (hdg : decode cc pc = .ok (.iaload, 1))
    (kk : W p l e R s m args below meth c H locs cells slots Q (F0 m (pc + 1) ls (.int (f k) :: rest))) : W p l e R s m args below meth c H locs cells slots Q (F0 m pc ls (.int (nI k) :: .ref a :: rest)) := by
  refine va_iald hexec hb hK hP q0 t0 ha ht (vp_in_nI hk hn) hdg ?_
  rw [nI_clamp (by omega)]
  exact kk
theorem as_i (hexec : p.tables.exec = Jvm.exec) (hb : c.code = cc) (hK : va_K D vwCl tys s) {w : va_W} (hP : va_P D vwCl w H) {A : Nat → Prop} {H0 : Heap} (hD : va_D A w) (hS : va_S A H0 H locs) (q0 t0 : Nat) {a : Nat} {cA : ClassId} {n : Nat} {f : Nat → Int32} (ha : w[q0]? = some (a, .inl (cA, n, .inl f))) (ht : tys[t0]? = some (cA, .int)) {k : Nat} {x : Int32} (hk : k < n) (hn : n < 2 ^ 31) (hdg : decode cc pc = .ok (.iastore, 1))
    (kk : ∀ (H1 : Heap) (locs1 : List Loc), va_P D vwCl (w.set q0 (a, .inl (cA, n, .inl (upd f k x)))) H1 → va_D A (w.set q0 (a, .inl (cA, n, .inl (upd f k x)))) → va_S A H0 H1 locs1 → W p l e R s m args below meth c H1 locs1 cells slots Q (F0 m (pc + 1) ls rest)) : W p l e R s m args below meth c H locs cells slots Q (F0 m pc ls (.int x :: .int (nI k) :: .ref a :: rest)) := by
  refine va_iast hexec hb hK hP hD hS q0 t0 ha ht (vp_in_nI hk hn) hdg ?_
  rw [nI_clamp (by omega)]
  exact kk
/-- a contract's start: the world's cells hold, the tables are known -/
abbrev PR (D : va_G) (tys : List (ClassId × FieldType)) (As : List Value) (wc : va_W) : Array Value → State → Prop := va_Pc As (fun U => va_P D vwCl wc U.heap ∧ va_K D vwCl tys U)
abbrev PM (D : va_G) (tys : List (ClassId × FieldType)) (As : List Value) (sz : Nat) (wc : va_W) : Array Value → State → Prop := va_Pc As (fun U => U.heap.size = sz ∧ va_P D vwCl wc U.heap ∧ va_K D vwCl tys U ∧ va_D (fun _ => True) wc)
theorem pr_blind {wc : va_W} : FrameBlind (PR D tys As wc) := fun _ U _ _ q => ⟨q.1, q.2.1, va_K.moved (u := U) (Vm.Alike.refl U.vm) q.2.2⟩
theorem pm_blind {wc : va_W} {sz : Nat} : FrameBlind (PM D tys As sz wc) := fun _ U _ _ q => ⟨q.1, q.2.1, q.2.2.1, va_K.moved (u := U) (Vm.Alike.refl U.vm) q.2.2.2.1, q.2.2.2.2⟩
/-- a body that leaves the heap as it was -/
theorem bd_p {Qc : Array Value → State → Outcome → State → Prop} {wc : va_W} (hy : plainName y.cls = true) (hw : ws = Cond.code y cc maxL ret :: ws') (hlen : (lg_sl As).length ≤ maxL)
    (body : ∀ (p : Program) (e : Env) (s : State) (m : MethodId) (args : Array Value) (below : List Frame) (meth : Method) (c : Code) (ls : Array Slot), CallFix p m c cc maxL s args ws y.cls → meth.sig.returnType = ret → meth.locks = false → va_K D vwCl tys s → va_P D vwCl wc s.heap → lv_has ls maxL (lv_args 0 As) →
      W p l e rm s m args below meth c s.heap [] 0 0 (MQ below Qc args s 0 0 (fun _ => False)) (F0 m 0 ls [])) : Met l y ws rm (PR D tys As wc) Qc 0 0 (fun _ => False) := by
  refine Met.ofW (cc := cc) (maxL := maxL) (ret := ret) hy hw ?_
  intro p e s m args below meth c s₁ B hml hv
  obtain ⟨rfl, hP, hK⟩ := hv
  rw [lg_entry_eq]
  exact body p e s m _ below meth c _ ⟨B.exec, B.bytes, hml, findClass_of_methodNamed B.named, atoms_spec (ws := ws) B.pre⟩ B.returns B.notSynchronized hK hP (lv_entry As hlen)
theorem en_i {v V : Int32} (hexec : p.tables.exec = Jvm.exec) (hb : c.code = cc) (hr : meth.sig.returnType = some .int) (hlocks : meth.locks = false) (h : v = V) (hdg : decode cc pc = .ok (.ireturn, 1)) :
    W p l e R s m args below meth c s.heap [] 0 0 (MQ below (vp_Si (fun r => r = V)) args s 0 0 (fun _ => False)) (F0 m pc ls [.int v]) :=
  W.iret hexec hb hr (fun t ht _ => ⟨v, rfl, h, ht⟩) (fun q hq => nomatch hq) hdg hlocks
theorem en_z {v V : Int32} (hexec : p.tables.exec = Jvm.exec) (hb : c.code = cc) (hr : meth.sig.returnType = some .boolean) (hlocks : meth.locks = false) (h01 : v = 0 ∨ v = 1) (h : v = V) (hdg : decode cc pc = .ok (.ireturn, 1)) :
    W p l e R s m args below meth c s.heap [] 0 0 (MQ below (vp_Si (fun r => r = V)) args s 0 0 (fun _ => False)) (F0 m pc ls [.int v]) :=
  W.zret hexec hb hr (by rcases h01 with rfl | rfl <;> rfl) (fun t ht _ => ⟨v, rfl, h, ht⟩) (fun q hq => nomatch hq) hdg hlocks
theorem en_d {v V : UInt64} (hexec : p.tables.exec = Jvm.exec) (hb : c.code = cc) (hr : meth.sig.returnType = some .double) (hlocks : meth.locks = false) (h : v = V) (hdg : decode cc pc = .ok (.dreturn, 1)) :
    W p l e R s m args below meth c s.heap [] 0 0 (MQ below (vp_Sd (fun r => r = V)) args s 0 0 (fun _ => False)) (F0 m pc ls [.double v]) :=
  W.dret hexec hb hr (fun t ht _ => ⟨v, rfl, h, ht⟩) (fun q hq => nomatch hq) hdg hlocks
/-- behind a call that left the heap as it was -/
theorem ps_i {post : Int32 → Prop} {a : Array Value} (hr : va_Run p l e R s m args below meth c H locs cells slots mc ms (F0 m pc ls st0) rest (vp_Si post a) (fun _ => False))
    (kk : ∀ r : Int32, post r → W p l e R s m args below meth c H locs (cells + mc) (slots + ms) Q (F0 m (pc + 3) ls (.int r :: rest))) : W p l e R s m args below meth c H locs cells slots Q (F0 m pc ls st0) := by
  intro T hT X
  obtain ⟨v, st₀, t, T', L, h0, X', hL, e1, e2, ⟨r, hv, hp, hh⟩, st⟩ := hr T hT X
  cases hv
  obtain ⟨t2, a1, b1⟩ := kk r hp T' (by rw [e1, hh, h0]) (Stand.forget X' (fun q h => (hL q h).elim))
  exact ⟨t2, st t2 a1, b1⟩
/-- a call of a method of an object, that leaves the heap as it was and answers v -/
theorem pv_i {v : Int32} {wc : va_W} (F : CallFix p m c cc nL s args Ts own) (hM : Met l y ws rm (PR D tys (.ref b :: As) wc) (vp_Si (fun r => r = v)) 0 0 (fun _ => False)) (cw : CallW R s args own C index y bytes maxL ret ws rm 0 0 n)
    (hK : va_K D vwCl tys s) (hP : va_P D vwCl wc H) {ci : Nat} {fs : List Value} {q : vw_C} (hc : vwCl[ci]? = some q) (hq : q.1 = C) (he : wc[0]? = some (b, .inr (ci, fs)))
    (hn : As.length = n) (hl : ls.size = nL) (hst : st0 = As.reverse ++ .ref b :: rest) (hW : (rest.map fun v => v.category).sum ≤ 8) (hdg : decode cc pc = .ok (.invokevirtual index, 3)) (hf : cells ≤ R.cells ∧ slots ≤ R.slots)
    (kk : W p l e R s m args below meth c H locs cells slots Q (F0 m (pc + 3) ls (.int v :: rest))) : W p l e R s m args below meth c H locs cells slots Q (F0 m pc ls st0) := by
  refine ps_i (va_runV F hM cw ⟨pr_blind, by rw [← hq]; exact va_recv hK hP hc he, fun U hU hW => ⟨rfl, by rw [hU]; exact hP, va_K.moved hW.alike hK⟩⟩ rfl hn hl hst (lv_room hW) hdg hf) (fun r hr => ?_)
  rw [hr]
  exact kk
theorem ps_d {post : UInt64 → Prop} {a : Array Value} (hr : va_Run p l e R s m args below meth c H locs cells slots mc ms (F0 m pc ls st0) rest (vp_Sd post a) (fun _ => False))
    (kk : ∀ r : UInt64, post r → W p l e R s m args below meth c H locs (cells + mc) (slots + ms) Q (F0 m (pc + 3) ls (.double r :: rest))) : W p l e R s m args below meth c H locs cells slots Q (F0 m pc ls st0) := by
  intro T hT X
  obtain ⟨v, st₀, t, T', L, h0, X', hL, e1, e2, ⟨r, hv, hp, hh⟩, st⟩ := hr T hT X
  cases hv
  obtain ⟨t2, a1, b1⟩ := kk r hp T' (by rw [e1, hh, h0]) (Stand.forget X' (fun q h => (hL q h).elim))
  exact ⟨t2, st t2 a1, b1⟩
theorem pv_d {v : UInt64} {wc : va_W} (F : CallFix p m c cc nL s args Ts own) (hM : Met l y ws rm (PR D tys (.ref b :: As) wc) (vp_Sd (fun r => r = v)) 0 0 (fun _ => False)) (cw : CallW R s args own C index y bytes maxL ret ws rm 0 0 n)
    (hK : va_K D vwCl tys s) (hP : va_P D vwCl wc H) {ci : Nat} {fs : List Value} {q : vw_C} (hc : vwCl[ci]? = some q) (hq : q.1 = C) (he : wc[0]? = some (b, .inr (ci, fs)))
    (hn : As.length = n) (hl : ls.size = nL) (hst : st0 = As.reverse ++ .ref b :: rest) (hW : (rest.map fun v => v.category).sum ≤ 8) (hdg : decode cc pc = .ok (.invokevirtual index, 3)) (hf : cells ≤ R.cells ∧ slots ≤ R.slots)
    (kk : W p l e R s m args below meth c H locs cells slots Q (F0 m (pc + 3) ls (.double v :: rest))) : W p l e R s m args below meth c H locs cells slots Q (F0 m pc ls st0) := by
  refine ps_d (va_runV F hM cw ⟨pr_blind, by rw [← hq]; exact va_recv hK hP hc he, fun U hU hW => ⟨rfl, by rw [hU]; exact hP, va_K.moved hW.alike hK⟩⟩ rfl hn hl hst (lv_room hW) hdg hf) (fun r hr => ?_)
  rw [hr]
  exact kk
/-- a static call that leaves the heap as it was and answers v -/
theorem pz_i {v : Int32} {wc : va_W} (F : CallFix p m c cc nL s args Ts own) (hM : Met l y ws rm (PR D tys As wc) (vp_Si (fun r => r = v)) 0 0 (fun _ => False)) (cw : CallB R s args own index y bytes maxL ret ws rm 0 0 n ∧ (Cond.static y).before args s = true)
    (hK : va_K D vwCl tys s) (hP : va_P D vwCl wc H)
    (hn : As.length = n) (hl : ls.size = nL) (hst : st0 = As.reverse ++ rest) (hW : (rest.map fun v => v.category).sum ≤ 8) (hdg : decode cc pc = .ok (.invokestatic index, 3)) (hf : cells ≤ R.cells ∧ slots ≤ R.slots)
    (kk : W p l e R s m args below meth c H locs cells slots Q (F0 m (pc + 3) ls (.int v :: rest))) : W p l e R s m args below meth c H locs cells slots Q (F0 m pc ls st0) := by
  refine ps_i (va_runS F hM cw ⟨pr_blind, fun U hU hW => ⟨rfl, by rw [hU]; exact hP, va_K.moved hW.alike hK⟩⟩ rfl hn hl hst (lv_room hW) hdg hf) (fun r hr => ?_)
  rw [hr]
  exact kk
/-- a body that changes its world's cells -/
theorem bd_m {Qc : (Nat → Prop) → Array Value → State → Outcome → State → Prop} {wc : va_W} {sz : Nat} (hy : plainName y.cls = true) (hw : ws = Cond.code y cc maxL ret :: ws') (hlen : (lg_sl As).length ≤ maxL)
    (body : ∀ (p : Program) (e : Env) (s : State) (m : MethodId) (args : Array Value) (below : List Frame) (meth : Method) (c : Code) (ls : Array Slot) (A : Nat → Prop), CallFix p m c cc maxL s args ws y.cls → meth.sig.returnType = ret → meth.locks = false → va_K D vwCl tys s → va_P D vwCl wc s.heap → va_D A wc → (∀ q : Nat, s.heap.size ≤ q → A q) → va_S A s.heap s.heap [] → lv_has ls maxL (lv_args 0 As) → (y.name = "<init>" → meth.name = "<init>") →
      W p l e rm s m args below meth c s.heap [] 0 0 (MQ below (Qc A) args s mc ms A) (F0 m 0 ls [])) : Met l y ws rm (PM D tys As sz wc) (Qc (va_A wc sz)) mc ms (va_A wc sz) := by
  refine Met.ofW (cc := cc) (maxL := maxL) (ret := ret) hy hw ?_
  intro p e s m args below meth c s₁ B hml hv
  obtain ⟨rfl, hsz, hP, hK, hD0⟩ := hv
  subst hsz
  rw [lg_entry_eq]
  exact body p e s m _ below meth c _ _ ⟨B.exec, B.bytes, hml, findClass_of_methodNamed B.named, atoms_spec (ws := ws) B.pre⟩ B.returns B.notSynchronized hK hP hD0.self (fun q h => Or.inr h) va_S.rf (lv_entry As hlen) (fun hi => by rw [(name_of_methodNamed B.named B.method).1]; exact hi)
/-- what a changing method answers and leaves: the answer and the heap behind it -/
def qm_i (BB : Int32 → Heap → Prop) (A : Nat → Prop) : Array Value → State → Outcome → State → Prop := fun _ st oc t => (∃ r : Int32, oc = .returned (some (.int r)) ∧ BB r t.heap) ∧ va_F A st t
def qm_l (BB : Int64 → Heap → Prop) (A : Nat → Prop) : Array Value → State → Outcome → State → Prop := fun _ st oc t => (∃ r : Int64, oc = .returned (some (.long r)) ∧ BB r t.heap) ∧ va_F A st t
def qm_v (BB : Heap → Prop) (A : Nat → Prop) : Array Value → State → Outcome → State → Prop := fun _ st oc t => (oc = .returned none ∧ BB t.heap) ∧ va_F A st t
theorem em_i {v : Int32} {A : Nat → Prop} {BB : Int32 → Heap → Prop} (hexec : p.tables.exec = Jvm.exec) (hb : c.code = cc) (hr : meth.sig.returnType = some .int) (hlocks : meth.locks = false) (hS : va_S A s.heap H locs) (h : BB v H) (hdg : decode cc pc = .ok (.ireturn, 1)) :
    W p l e R s m args below meth c H locs cells slots (MQ below (qm_i BB A) args s cells slots A) (F0 m pc ls [.int v]) :=
  W.iret hexec hb hr (fun t ht _ => ⟨⟨v, rfl, by rw [ht]; exact h⟩, hS.F ht⟩) hS.2.2 hdg hlocks
theorem em_z {v : Int32} {A : Nat → Prop} {BB : Int32 → Heap → Prop} (hexec : p.tables.exec = Jvm.exec) (hb : c.code = cc) (hr : meth.sig.returnType = some .boolean) (hlocks : meth.locks = false) (hS : va_S A s.heap H locs) (h01 : v = 0 ∨ v = 1) (h : BB v H) (hdg : decode cc pc = .ok (.ireturn, 1)) :
    W p l e R s m args below meth c H locs cells slots (MQ below (qm_i BB A) args s cells slots A) (F0 m pc ls [.int v]) :=
  W.zret hexec hb hr (by rcases h01 with rfl | rfl <;> rfl) (fun t ht _ => ⟨⟨v, rfl, by rw [ht]; exact h⟩, hS.F ht⟩) hS.2.2 hdg hlocks
theorem em_l {v : Int64} {A : Nat → Prop} {BB : Int64 → Heap → Prop} (hexec : p.tables.exec = Jvm.exec) (hb : c.code = cc) (hr : meth.sig.returnType = some .long) (hlocks : meth.locks = false) (hS : va_S A s.heap H locs) (h : BB v H) (hdg : decode cc pc = .ok (.lreturn, 1)) :
    W p l e R s m args below meth c H locs cells slots (MQ below (qm_l BB A) args s cells slots A) (F0 m pc ls [.long v]) :=
  W.lret hexec hb hr (fun t ht _ => ⟨⟨v, rfl, by rw [ht]; exact h⟩, hS.F ht⟩) hS.2.2 hdg hlocks
theorem em_v {A : Nat → Prop} {BB : Heap → Prop} (hexec : p.tables.exec = Jvm.exec) (hb : c.code = cc) (hr : meth.sig.returnType = none) (hlocks : meth.locks = false) (hS : va_S A s.heap H locs) (h : BB H) (hdg : decode cc pc = .ok (.return_, 1)) :
    W p l e R s m args below meth c H locs cells slots (MQ below (qm_v BB A) args s cells slots A) (F0 m pc ls []) :=
  W.vret hexec hb hr (fun t ht _ => ⟨⟨rfl, by rw [ht]; exact h⟩, hS.F ht⟩) hS.2.2 hdg hlocks
/-- the frame behind a call -/
theorem fr_of {st₀ t T' : State} {L : List Loc} {A0 A1 : Nat → Prop} {H0 : Heap} {free : Addr → Prop} (h0 : st₀.heap = H) (e1 : T'.heap = t.heap) (hS : va_S A0 H0 H locs) (hA : ∀ q, A1 q → A0 q) (hf : ∀ q, free q → A0 q) (hL : ∀ q ∈ L, free q.base) (hF : va_F A1 st₀ t) :
    H.size ≤ T'.heap.size ∧ (∀ q : Nat, q < H.size → ¬ A1 q → T'.heap[q]? = H[q]?) ∧ va_S A0 H0 T'.heap (locs ++ L) := by
  obtain ⟨hz, hk⟩ := hF
  rw [h0] at hz hk
  exact ⟨by rw [e1]; exact hz, fun q h1 h2 => by rw [e1]; exact hk q h1 h2,
    ⟨Nat.le_trans hS.1 (by rw [e1]; exact hz), fun q h1 h2 => by rw [e1, hk q (Nat.lt_of_lt_of_le h1 hS.1) (fun z => h2 (hA q z))]; exact hS.2.1 q h1 h2, fun q hq => by
      rcases List.mem_append.mp hq with h | h
      · exact hS.2.2 q h
      · exact hf _ (hL q h)⟩⟩
theorem pq_i {BB : Int32 → Heap → Prop} {a : Array Value} {A0 A1 : Nat → Prop} {H0 : Heap} (hr : va_Run p l e R s m args below meth c H locs cells slots mc ms (F0 m pc ls st0) rest (qm_i BB A1 a) A1) (hS : va_S A0 H0 H locs) (hA : ∀ q, A1 q → A0 q)
    (kk : ∀ (r : Int32) (H1 : Heap) (locs1 : List Loc), BB r H1 → (∀ q : Nat, q < H.size → ¬ A1 q → H1[q]? = H[q]?) → va_S A0 H0 H1 locs1 → W p l e R s m args below meth c H1 locs1 (cells + mc) (slots + ms) Q (F0 m (pc + 3) ls (.int r :: rest))) : W p l e R s m args below meth c H locs cells slots Q (F0 m pc ls st0) := by
  intro T hT X
  obtain ⟨v, st₀, t, T', L, h0, X', hL, e1, e2, ⟨⟨r, hv, hp⟩, hF⟩, st⟩ := hr T hT X
  cases hv
  obtain ⟨-, k2, k3⟩ := fr_of h0 e1 hS hA hA hL hF
  obtain ⟨t2, a1, b1⟩ := kk r T'.heap (locs ++ L) (by rw [e1]; exact hp) k2 k3 T' rfl X'
  exact ⟨t2, st t2 a1, b1⟩
theorem pq_l {BB : Int64 → Heap → Prop} {a : Array Value} {A0 A1 : Nat → Prop} {H0 : Heap} (hr : va_Run p l e R s m args below meth c H locs cells slots mc ms (F0 m pc ls st0) rest (qm_l BB A1 a) A1) (hS : va_S A0 H0 H locs) (hA : ∀ q, A1 q → A0 q)
    (kk : ∀ (r : Int64) (H1 : Heap) (locs1 : List Loc), BB r H1 → (∀ q : Nat, q < H.size → ¬ A1 q → H1[q]? = H[q]?) → va_S A0 H0 H1 locs1 → W p l e R s m args below meth c H1 locs1 (cells + mc) (slots + ms) Q (F0 m (pc + 3) ls (.long r :: rest))) : W p l e R s m args below meth c H locs cells slots Q (F0 m pc ls st0) := by
  intro T hT X
  obtain ⟨v, st₀, t, T', L, h0, X', hL, e1, e2, ⟨⟨r, hv, hp⟩, hF⟩, st⟩ := hr T hT X
  cases hv
  obtain ⟨-, k2, k3⟩ := fr_of h0 e1 hS hA hA hL hF
  obtain ⟨t2, a1, b1⟩ := kk r T'.heap (locs ++ L) (by rw [e1]; exact hp) k2 k3 T' rfl X'
  exact ⟨t2, st t2 a1, b1⟩
theorem pq_v {BB : Heap → Prop} {a : Array Value} {A0 A1 : Nat → Prop} {H0 : Heap} (hr : va_Run p l e R s m args below meth c H locs cells slots mc ms (F0 m pc ls st0) rest (qm_v BB A1 a) A1) (hS : va_S A0 H0 H locs) (hA : ∀ q, A1 q → A0 q)
    (kk : ∀ (H1 : Heap) (locs1 : List Loc), BB H1 → (∀ q : Nat, q < H.size → ¬ A1 q → H1[q]? = H[q]?) → va_S A0 H0 H1 locs1 → W p l e R s m args below meth c H1 locs1 (cells + mc) (slots + ms) Q (F0 m (pc + 3) ls rest)) : W p l e R s m args below meth c H locs cells slots Q (F0 m pc ls st0) := by
  intro T hT X
  obtain ⟨v, st₀, t, T', L, h0, X', hL, e1, e2, ⟨⟨hv, hp⟩, hF⟩, st⟩ := hr T hT X
  cases hv
  obtain ⟨-, k2, k3⟩ := fr_of h0 e1 hS hA hA hL hF
  obtain ⟨t2, a1, b1⟩ := kk T'.heap (locs ++ L) (by rw [e1]; exact hp) k2 k3 T' rfl X'
  exact ⟨t2, st t2 a1, b1⟩
/-- what a changing call needs of the caller's world -/
theorem mv_pre {wc : va_W} {A0 : Nat → Prop} {ci : Nat} {fs : List Value} {q : vw_C} (hK : va_K D vwCl tys s) (hP : va_P D vwCl wc H) (hD : va_D A0 wc) (hc : vwCl[ci]? = some q) (hq : q.1 = C) (he : wc[0]? = some (b, .inr (ci, fs))) : PreV s H C b (PM D tys (.ref b :: As) H.size wc) As :=
  ⟨pm_blind, by rw [← hq]; exact va_recv hK hP hc he, fun U hU hW => ⟨rfl, by rw [hU], by rw [hU]; exact hP, va_K.moved hW.alike hK, hD.weaken (fun _ _ _ _ => trivial)⟩⟩
theorem ms_pre {wc : va_W} {A0 : Nat → Prop} (hK : va_K D vwCl tys s) (hP : va_P D vwCl wc H) (hD : va_D A0 wc) : PreS s H (PM D tys As H.size wc) As :=
  ⟨pm_blind, fun U hU hW => ⟨rfl, by rw [hU], by rw [hU]; exact hP, va_K.moved hW.alike hK, hD.weaken (fun _ _ _ _ => trivial)⟩⟩
/-- the world behind a call that changed the part wc of ws into w1: each cell in its old place -/
theorem jn {A0 : Nat → Prop} {wa wb wc w1 : va_W} {H1 : Heap} (hP : va_P D vwCl wa H) (hD : va_D A0 wa) (isC isR : List Nat) (hC : isC.map (fun i => wa[i]?) = wc.map some) (hC1 : isC.map (fun i => wb[i]?) = w1.map some) (hR : isR.map (fun i => wb[i]?) = isR.map (fun i => wa[i]?)) (hfst : wb.map (·.1) = wa.map (·.1))
    (N : Nat) (hN : wa.length = N) (hcov : ∀ i, i < N → i ∈ isC ∨ i ∈ isR) (hdis : ∀ i ∈ isR, i ∉ isC) (hk : ∀ q : Nat, q < H.size → ¬ va_A wc H.size q → H1[q]? = H[q]?) (hP1 : va_P D vwCl w1 H1) : va_P D vwCl wb H1 ∧ va_D A0 wb := by
  have hlen : wb.length = wa.length := by
    have := congrArg List.length hfst
    simpa using this
  have hf : ∀ (i : Nat) (q : Nat × va_E), wb[i]? = some q → ∃ q', wa[i]? = some q' ∧ q'.1 = q.1 := by
    intro i q hq
    have h1 : (wb.map (·.1))[i]? = some q.1 := by rw [List.getElem?_map, hq]; rfl
    rw [hfst, List.getElem?_map] at h1
    cases hw : wa[i]? with
    | none => rw [hw] at h1; cases h1
    | some q' => rw [hw] at h1; exact ⟨q', rfl, Option.some.inj h1⟩
  have mp : ∀ {β : Type} {is : List Nat} {f g : Nat → Option β}, is.map f = is.map g → ∀ i ∈ is, f i = g i := by
    intro β is f g h
    exact List.map_inj_left.mp h
  refine ⟨fun i q hq => ?_, ⟨fun i j a b ha hb hab => ?_, fun i q hq => ?_⟩⟩
  · have hi : i < N := by rw [← hN, ← hlen]; exact (List.getElem?_eq_some_iff.mp hq).1
    rcases hcov i hi with h | h
    · obtain ⟨k, hk1⟩ := List.getElem?_of_mem h
      have h1 : (isC.map (fun i => wb[i]?))[k]? = some (some q) := by rw [List.getElem?_map, hk1]; simp [hq]
      rw [hC1, List.getElem?_map] at h1
      cases hw : w1[k]? with
      | none => rw [hw] at h1; cases h1
      | some q' =>
        rw [hw] at h1
        have : q' = q := by simpa using h1
        rw [← this]
        exact hP1 k q' hw
    · have h1 : wa[i]? = some q := by rw [← hq]; exact (mp hR i h).symm
      have h2 := hP i q h1
      refine h2.kept (hk q.1 h2.lt (fun z => ?_))
      rcases z with ⟨k, e', z⟩ | z
      · have h3 : (isC.map (fun i => wa[i]?))[k]? = some (some (q.1, e')) := by rw [hC, List.getElem?_map, z]; rfl
        rw [List.getElem?_map] at h3
        cases hj : isC[k]? with
        | none => rw [hj] at h3; cases h3
        | some j =>
          rw [hj] at h3
          have h4 : wa[j]? = some (q.1, e') := by simpa using h3
          have hij := hD.1 i j q (q.1, e') h1 h4 rfl
          subst hij
          exact hdis i h (List.mem_of_getElem? hj)
      · have := h2.lt
        omega
  · obtain ⟨a', ha', e1⟩ := hf i a ha
    obtain ⟨b', hb', e2⟩ := hf j b hb
    exact hD.1 i j a' b' ha' hb' (by rw [e1, e2, hab])
  · obtain ⟨q', hq', e1⟩ := hf i q hq
    rw [← e1]
    exact hD.2 i q' hq'
end TH
/-! rows over natural numbers -/
section TN
variable {p : Program} {l : Launch} {e : Env} {R : Room} {s : State} {m : MethodId} {args : Array Value} {below : List Frame} {meth : Method} {c : Code} {H : Heap} {locs : List Loc} {cells slots : Nat} {Q : State → Prop}
variable {cc : ByteArray} {pc : Nat} {ls : Array Slot} {rest : List Value}
theorem bn_ge (hexec : p.tables.exec = Jvm.exec) (hb : c.code = cc) {x y : Nat} {off : Int} {tgt : Nat} (hdg : decode cc pc = .ok (.if_icmp .ge off, 3)) (ht : (pc : Int) + off = (tgt : Int)) (h1 : x < 2 ^ 31) (h2 : y < 2 ^ 31)
    (kt : y ≤ x → W p l e R s m args below meth c H locs cells slots Q (F0 m tgt ls rest)) (kf : x < y → W p l e R s m args below meth c H locs cells slots Q (F0 m (pc + 3) ls rest)) : W p l e R s m args below meth c H locs cells slots Q (F0 m pc ls (.int (nI y) :: .int (nI x) :: rest)) :=
  lv_icmp_ge hexec hb hdg ht (fun h => kt ((nI_leI h2 h1).mp h)) (fun h => kf (Nat.lt_of_not_le (fun q => h ((nI_leI h2 h1).mpr q))))
theorem bn_lt (hexec : p.tables.exec = Jvm.exec) (hb : c.code = cc) {x y : Nat} {off : Int} {tgt : Nat} (hdg : decode cc pc = .ok (.if_icmp .lt off, 3)) (ht : (pc : Int) + off = (tgt : Int)) (h1 : x < 2 ^ 31) (h2 : y < 2 ^ 31)
    (kt : x < y → W p l e R s m args below meth c H locs cells slots Q (F0 m tgt ls rest)) (kf : y ≤ x → W p l e R s m args below meth c H locs cells slots Q (F0 m (pc + 3) ls rest)) : W p l e R s m args below meth c H locs cells slots Q (F0 m pc ls (.int (nI y) :: .int (nI x) :: rest)) :=
  lv_icmp_lt hexec hb hdg ht (fun h => kt ((nI_ltI h1 h2).mp h)) (fun h => kf (Nat.le_of_not_lt (fun q => h ((nI_ltI h1 h2).mpr q))))
theorem bn_gt (hexec : p.tables.exec = Jvm.exec) (hb : c.code = cc) {x y : Nat} {off : Int} {tgt : Nat} (hdg : decode cc pc = .ok (.if_icmp .gt off, 3)) (ht : (pc : Int) + off = (tgt : Int)) (h1 : x < 2 ^ 31) (h2 : y < 2 ^ 31)
    (kt : y < x → W p l e R s m args below meth c H locs cells slots Q (F0 m tgt ls rest)) (kf : x ≤ y → W p l e R s m args below meth c H locs cells slots Q (F0 m (pc + 3) ls rest)) : W p l e R s m args below meth c H locs cells slots Q (F0 m pc ls (.int (nI y) :: .int (nI x) :: rest)) :=
  lv_icmp_gt hexec hb hdg ht (fun h => kt ((nI_ltI h2 h1).mp h)) (fun h => kf (Nat.le_of_not_lt (fun q => h ((nI_ltI h2 h1).mpr q))))
theorem bn_le (hexec : p.tables.exec = Jvm.exec) (hb : c.code = cc) {x y : Nat} {off : Int} {tgt : Nat} (hdg : decode cc pc = .ok (.if_icmp .le off, 3)) (ht : (pc : Int) + off = (tgt : Int)) (h1 : x < 2 ^ 31) (h2 : y < 2 ^ 31)
    (kt : x ≤ y → W p l e R s m args below meth c H locs cells slots Q (F0 m tgt ls rest)) (kf : y < x → W p l e R s m args below meth c H locs cells slots Q (F0 m (pc + 3) ls rest)) : W p l e R s m args below meth c H locs cells slots Q (F0 m pc ls (.int (nI y) :: .int (nI x) :: rest)) :=
  lv_icmp_le hexec hb hdg ht (fun h => kt ((nI_leI h1 h2).mp h)) (fun h => kf (Nat.lt_of_not_le (fun q => h ((nI_leI h1 h2).mpr q))))
theorem bn_eq (hexec : p.tables.exec = Jvm.exec) (hb : c.code = cc) {x y : Nat} {off : Int} {tgt : Nat} (hdg : decode cc pc = .ok (.if_icmp .eq off, 3)) (ht : (pc : Int) + off = (tgt : Int)) (h1 : x < 2 ^ 31) (h2 : y < 2 ^ 31)
    (kt : x = y → W p l e R s m args below meth c H locs cells slots Q (F0 m tgt ls rest)) (kf : ¬ x = y → W p l e R s m args below meth c H locs cells slots Q (F0 m (pc + 3) ls rest)) : W p l e R s m args below meth c H locs cells slots Q (F0 m pc ls (.int (nI y) :: .int (nI x) :: rest)) :=
  lv_icmp_eq hexec hb hdg ht (fun h => kt ((nI_eq h1 h2).mp h)) (fun h => kf (fun q => h ((nI_eq h1 h2).mpr q)))
theorem bn_ne (hexec : p.tables.exec = Jvm.exec) (hb : c.code = cc) {x y : Nat} {off : Int} {tgt : Nat} (hdg : decode cc pc = .ok (.if_icmp .ne off, 3)) (ht : (pc : Int) + off = (tgt : Int)) (h1 : x < 2 ^ 31) (h2 : y < 2 ^ 31)
    (kt : ¬ x = y → W p l e R s m args below meth c H locs cells slots Q (F0 m tgt ls rest)) (kf : x = y → W p l e R s m args below meth c H locs cells slots Q (F0 m (pc + 3) ls rest)) : W p l e R s m args below meth c H locs cells slots Q (F0 m pc ls (.int (nI y) :: .int (nI x) :: rest)) :=
  lv_icmp_ne hexec hb hdg ht (fun h => kt (fun q => h ((nI_eq h1 h2).mpr q))) (fun h => kf ((nI_eq h1 h2).mp h))
/-- a natural number is never below 0 -/
theorem bz_lt (hexec : p.tables.exec = Jvm.exec) (hb : c.code = cc) {x : Nat} {off : Int} {tgt : Nat} (hdg : decode cc pc = .ok (.ifCond .lt off, 3)) (ht : (pc : Int) + off = (tgt : Int)) (h1 : x < 2 ^ 31)
    (kf : W p l e R s m args below meth c H locs cells slots Q (F0 m (pc + 3) ls rest)) : W p l e R s m args below meth c H locs cells slots Q (F0 m pc ls (.int (nI x) :: rest)) :=
  lv_if_lt hexec hb hdg ht (fun h => absurd h (nI_pos h1)) (fun _ => kf)
theorem bz_ge (hexec : p.tables.exec = Jvm.exec) (hb : c.code = cc) {x : Nat} {off : Int} {tgt : Nat} (hdg : decode cc pc = .ok (.ifCond .ge off, 3)) (ht : (pc : Int) + off = (tgt : Int)) (h1 : x < 2 ^ 31)
    (kt : W p l e R s m args below meth c H locs cells slots Q (F0 m tgt ls rest)) : W p l e R s m args below meth c H locs cells slots Q (F0 m pc ls (.int (nI x) :: rest)) :=
  lv_if_ge hexec hb hdg ht (fun _ => kt) (fun h => absurd (nI_pos' h1) h)
theorem nI_z {x : Nat} (h : x < 2 ^ 31) : nI x = 0 ↔ x = 0 := nI_eq (b := 0) h (by decide)
theorem bz_eq (hexec : p.tables.exec = Jvm.exec) (hb : c.code = cc) {x : Nat} {off : Int} {tgt : Nat} (hdg : decode cc pc = .ok (.ifCond .eq off, 3)) (ht : (pc : Int) + off = (tgt : Int)) (h1 : x < 2 ^ 31)
    (kt : x = 0 → W p l e R s m args below meth c H locs cells slots Q (F0 m tgt ls rest)) (kf : ¬ x = 0 → W p l e R s m args below meth c H locs cells slots Q (F0 m (pc + 3) ls rest)) : W p l e R s m args below meth c H locs cells slots Q (F0 m pc ls (.int (nI x) :: rest)) :=
  lv_if_eq hexec hb hdg ht (fun h => kt ((nI_z h1).mp h)) (fun h => kf (fun q => h ((nI_z h1).mpr q)))
theorem bz_ne (hexec : p.tables.exec = Jvm.exec) (hb : c.code = cc) {x : Nat} {off : Int} {tgt : Nat} (hdg : decode cc pc = .ok (.ifCond .ne off, 3)) (ht : (pc : Int) + off = (tgt : Int)) (h1 : x < 2 ^ 31)
    (kt : ¬ x = 0 → W p l e R s m args below meth c H locs cells slots Q (F0 m tgt ls rest)) (kf : x = 0 → W p l e R s m args below meth c H locs cells slots Q (F0 m (pc + 3) ls rest)) : W p l e R s m args below meth c H locs cells slots Q (F0 m pc ls (.int (nI x) :: rest)) :=
  lv_if_ne hexec hb hdg ht (fun h => kt (fun q => h ((nI_z h1).mpr q))) (fun h => kf ((nI_z h1).mp h))
theorem bz_gt (hexec : p.tables.exec = Jvm.exec) (hb : c.code = cc) {x : Nat} {off : Int} {tgt : Nat} (hdg : decode cc pc = .ok (.ifCond .gt off, 3)) (ht : (pc : Int) + off = (tgt : Int)) (h1 : x < 2 ^ 31)
    (kt : 0 < x → W p l e R s m args below meth c H locs cells slots Q (F0 m tgt ls rest)) (kf : x = 0 → W p l e R s m args below meth c H locs cells slots Q (F0 m (pc + 3) ls rest)) : W p l e R s m args below meth c H locs cells slots Q (F0 m pc ls (.int (nI x) :: rest)) :=
  lv_if_gt hexec hb hdg ht (fun h => kt ((nI_ltI (a := 0) (by omega) h1).mp h)) (fun h => kf (Nat.eq_zero_of_not_pos (fun q => h ((nI_ltI (a := 0) (by omega) h1).mpr q))))
theorem bz_le (hexec : p.tables.exec = Jvm.exec) (hb : c.code = cc) {x : Nat} {off : Int} {tgt : Nat} (hdg : decode cc pc = .ok (.ifCond .le off, 3)) (ht : (pc : Int) + off = (tgt : Int)) (h1 : x < 2 ^ 31)
    (kt : x = 0 → W p l e R s m args below meth c H locs cells slots Q (F0 m tgt ls rest)) (kf : 0 < x → W p l e R s m args below meth c H locs cells slots Q (F0 m (pc + 3) ls rest)) : W p l e R s m args below meth c H locs cells slots Q (F0 m pc ls (.int (nI x) :: rest)) :=
  lv_if_le hexec hb hdg ht (fun h => kt (Nat.le_zero.mp ((nI_leI (b := 0) h1 (by omega)).mp h))) (fun h => kf (Nat.pos_of_ne_zero (fun q => h (by rw [q]; exact (nI_leI (b := 0) (by omega) (by omega)).mpr (Nat.le_refl 0)))))
theorem an_add (hexec : p.tables.exec = Jvm.exec) (hb : c.code = cc) {x y : Nat} (hdg : decode cc pc = .ok (.iadd, 1)) (k : W p l e R s m args below meth c H locs cells slots Q (F0 m (pc + 1) ls (.int (nI (x + y)) :: rest))) : W p l e R s m args below meth c H locs cells slots Q (F0 m pc ls (.int (nI y) :: .int (nI x) :: rest)) := by
  refine lv_iadd hexec hb hdg ?_
  rw [nI_add]; exact k
theorem an_sub (hexec : p.tables.exec = Jvm.exec) (hb : c.code = cc) {x y : Nat} (h : y ≤ x) (hdg : decode cc pc = .ok (.isub, 1)) (k : W p l e R s m args below meth c H locs cells slots Q (F0 m (pc + 1) ls (.int (nI (x - y)) :: rest))) : W p l e R s m args below meth c H locs cells slots Q (F0 m pc ls (.int (nI y) :: .int (nI x) :: rest)) := by
  refine lv_isub hexec hb hdg ?_
  rw [pk_sub h]; exact k
theorem an_mul (hexec : p.tables.exec = Jvm.exec) (hb : c.code = cc) {x y : Nat} (hdg : decode cc pc = .ok (.imul, 1)) (k : W p l e R s m args below meth c H locs cells slots Q (F0 m (pc + 1) ls (.int (nI (x * y)) :: rest))) : W p l e R s m args below meth c H locs cells slots Q (F0 m pc ls (.int (nI y) :: .int (nI x) :: rest)) := by
  refine lv_imul hexec hb hdg ?_
  rw [pk_mul]; exact k
theorem an_div (hexec : p.tables.exec = Jvm.exec) (hb : c.code = cc) {x y : Nat} (h1 : x < 2 ^ 31) (h0 : 0 < y) (h2 : y < 2 ^ 31) (hdg : decode cc pc = .ok (.idiv, 1)) (k : W p l e R s m args below meth c H locs cells slots Q (F0 m (pc + 1) ls (.int (nI (x / y)) :: rest))) : W p l e R s m args below meth c H locs cells slots Q (F0 m pc ls (.int (nI y) :: .int (nI x) :: rest)) := by
  refine lv_idiv hexec hb hdg (nI_ne0 h0 h2) ?_
  rw [pk_div h1 h0 h2]; exact k
theorem an_rem (hexec : p.tables.exec = Jvm.exec) (hb : c.code = cc) {x y : Nat} (h1 : x < 2 ^ 31) (h0 : 0 < y) (h2 : y < 2 ^ 31) (hdg : decode cc pc = .ok (.irem, 1)) (k : W p l e R s m args below meth c H locs cells slots Q (F0 m (pc + 1) ls (.int (nI (x % y)) :: rest))) : W p l e R s m args below meth c H locs cells slots Q (F0 m pc ls (.int (nI y) :: .int (nI x) :: rest)) := by
  refine lv_irem hexec hb hdg (nI_ne0 h0 h2) ?_
  rw [pk_rem h1 h0 h2]; exact k
theorem inc1 (x : Nat) : nI x + Int32.ofInt 1 = nI (x + 1) := nI_1 x
theorem inc3 (x : Nat) : nI x + Int32.ofInt 3 = nI (x + 3) := nI_add x 3
end TN
/-! rows of array classes, and of worlds -/
section TA
theorem ar_K {args : Array Value} {s : State} (h : (Cond.arrayClass .int).before args s = true) : ∃ cA : ClassId, ArrOfT s cA .int ∧ va_RA s cA .int := by
  obtain ⟨cA, kA, comp, h1, h2, h3⟩ := Cond.arrayClass_spec h
  exact ⟨cA, fun n z => ⟨fun k h => (by cases h), kA, h2, comp, h3⟩, h1⟩
theorem ar_KL {args : Array Value} {s : State} (h : (Cond.arrayClass .long).before args s = true) : ∃ cA : ClassId, ArrOfT s cA .long ∧ va_RA s cA .long := by
  obtain ⟨cA, kA, comp, h1, h2, h3⟩ := Cond.arrayClass_spec h
  exact ⟨cA, fun n z => ⟨fun k h => (by cases h), kA, h2, comp, h3⟩, h1⟩
theorem ar_one {D : va_G} {cl : List vw_C} {tys : List (ClassId × FieldType)} {s : State} (hK : va_K D cl tys s) (i j : Nat) {c1 c2 : ClassId} (h1 : tys[i]? = some (c1, .int)) (h2 : tys[j]? = some (c2, .int)) : c1 = c2 := by
  have e1 : s.vm.findClass ("[" ++ FieldType.int.toString) = some c1 := (hK.2 i _ h1).2
  have e2 : s.vm.findClass ("[" ++ FieldType.int.toString) = some c2 := (hK.2 j _ h2).2
  exact Option.some.inj (e1.symm.trans e2)
theorem up_all {F : Nat → Int32} {i : Nat} {v : Int32} (h : ∀ k, k < i → F k = v) : ∀ k, k < i + 1 → upd F i v k = v := by
  intro k hk
  unfold upd
  split
  · rfl
  · exact h k (by omega)
theorem va_Dfst {A : Nat → Prop} {wa wb : va_W} (h : va_D A wa) (hfst : wb.map (·.1) = wa.map (·.1)) : va_D A wb := by
  have hf : ∀ (i : Nat) (q : Nat × va_E), wb[i]? = some q → ∃ q', wa[i]? = some q' ∧ q'.1 = q.1 := by
    intro i q hq
    have h1 : (wb.map (·.1))[i]? = some q.1 := by rw [List.getElem?_map, hq]; rfl
    rw [hfst, List.getElem?_map] at h1
    cases hw : wa[i]? with
    | none => rw [hw] at h1; cases h1
    | some q' => rw [hw] at h1; exact ⟨q', rfl, Option.some.inj h1⟩
  refine ⟨fun i j a b ha hb hab => ?_, fun i q hq => ?_⟩
  · obtain ⟨a', ha', e1⟩ := hf i a ha
    obtain ⟨b', hb', e2⟩ := hf j b hb
    exact h.1 i j a' b' ha' hb' (by rw [e1, e2, hab])
  · obtain ⟨q', hq', e1⟩ := hf i q hq
    rw [← e1]
    exact h.2 i q' hq'
end TA
end
section
/-! pure words: what both sides compute -/
def fo {α : Type} (f : α → Nat → α) : Nat → Nat → α → α
  | 0, _, a => a
  | c + 1, i, a => fo f c (i + 1) (f a i)
theorem fo_s {α : Type} (f : α → Nat → α) (c i : Nat) (a : α) : fo f (c + 1) i a = fo f c (i + 1) (f a i) := rfl
theorem fo_z {α : Type} (f : α → Nat → α) (i : Nat) (a : α) : fo f 0 i a = a := rfl
theorem fo_cong {α : Type} {f f' : α → Nat → α} : ∀ (c i : Nat) (a : α), (∀ a j, i ≤ j → j < i + c → f a j = f' a j) → fo f c i a = fo f' c i a
  | 0, _, _, _ => rfl
  | c + 1, i, a, h => by
    rw [fo_s, fo_s, h a i (Nat.le_refl i) (by omega)]
    exact fo_cong c (i + 1) _ (fun a j h1 h2 => h a j (by omega) (by omega))
theorem fo_app {α : Type} (f : α → Nat → α) : ∀ (c d i : Nat) (a : α), fo f (c + d) i a = fo f d (i + c) (fo f c i a)
  | 0, d, i, a => by rw [Nat.zero_add]; rfl
  | c + 1, d, i, a => by
    rw [show c + 1 + d = (c + d) + 1 by omega, fo_s, fo_app f c d (i + 1), fo_s, show i + 1 + c = i + (c + 1) by omega]
/-- what lies on a hook that may not be there -/
def hd (n : Nat) (f : Nat → Int32) (k : Nat) : Int32 := if k < n then f k else -1
def hw (n : Nat) (g : Nat → Int32) (k : Nat) : Int32 := if k < n then g k else 0
def st (x : Int32) : Int32 := if x = -1 then nI 0 else if x = -2 then nI 2 else nI 1
def cn (x : Int32) : Int32 := if 0 ≤ x then x else -1
def ct (n : Nat) (f : Nat → Int32) (v : Int32) : Nat := fo (fun a i => if st (f i) = v then a + 1 else a) n 0 0
def wa (n : Nat) (g : Nat → Int32) : Int32 := fo (fun a i => a + g i) n 0 (nI 0)
def hv (n : Nat) (g : Nat → Int32) : Int32 × Int32 := fo (fun (a : Int32 × Int32) i => if a.2 < g i then (nI i, g i) else a) n 0 (-1, nI 0)
/-- how far the usher goes from the first hook, and at which hook the usher looks -/
def of_ (n w x k : Nat) : Nat := if w = 1 then k * (k + 1) / 2 else if w = 2 then k * (1 + x / n % (n - 1)) else k
def at_ (n w x k : Nat) : Nat := (x + of_ n w x k) % n
theorem at_lt {n : Nat} (h : 0 < n) (w x k : Nat) : at_ n w x k < n := Nat.mod_lt _ h
def sp (n w : Nat) (f : Nat → Int32) (x k : Nat) : Bool := decide (f (at_ n w x k) = nI x ∨ f (at_ n w x k) = -1)
/-- the first of c places from i on at which p holds, else the one behind them -/
def fs (p : Nat → Bool) : Nat → Nat → Nat
  | 0, i => i
  | c + 1, i => if p i then i else fs p c (i + 1)
theorem fs_z (p : Nat → Bool) (i : Nat) : fs p 0 i = i := rfl
theorem fs_y {p : Nat → Bool} {c i : Nat} (h : p i = true) : fs p (c + 1) i = i := if_pos h
theorem fs_n {p : Nat → Bool} {c i : Nat} (h : p i = false) : fs p (c + 1) i = fs p c (i + 1) := if_neg (by rw [h]; decide)
theorem fs_ge (p : Nat → Bool) : ∀ (c i : Nat), i ≤ fs p c i
  | 0, i => Nat.le_refl i
  | c + 1, i => by
    unfold fs
    split
    · exact Nat.le_refl i
    · exact Nat.le_trans (Nat.le_succ i) (fs_ge p c (i + 1))
theorem fs_le (p : Nat → Bool) : ∀ (c i : Nat), fs p c i ≤ i + c
  | 0, i => Nat.le_refl i
  | c + 1, i => by
    unfold fs
    split
    · omega
    · exact Nat.le_trans (fs_le p c (i + 1)) (by omega)
theorem fs_no (p : Nat → Bool) : ∀ (c i j : Nat), i ≤ j → j < fs p c i → p j = false
  | 0, i, j, h1, h2 => absurd h2 (by unfold fs; omega)
  | c + 1, i, j, h1, h2 => by
    unfold fs at h2
    split at h2
    · omega
    · rename_i h
      by_cases e : j = i
      · subst e
        cases hp : p j
        · rfl
        · exact absurd hp h
      · exact fs_no p c (i + 1) j (by omega) h2
theorem fs_yes (p : Nat → Bool) : ∀ (c i : Nat), fs p c i < i + c → p (fs p c i) = true
  | 0, i, h => absurd h (by unfold fs; omega)
  | c + 1, i, h => by
    unfold fs at h ⊢
    split
    · rename_i hp; exact hp
    · rename_i hp
      rw [if_neg hp] at h
      exact fs_yes p c (i + 1) (by omega)
/-- at how many hooks the usher looks -/
def lk (n w : Nat) (f : Nat → Int32) (x : Nat) : Nat := if fs (sp n w f x) n 0 < n then fs (sp n w f x) n 0 + 1 else n
theorem lk_le (n w : Nat) (f : Nat → Int32) (x : Nat) : lk n w f x ≤ n := by unfold lk; split <;> omega
theorem lk_pos {n : Nat} (h : 0 < n) (w : Nat) (f : Nat → Int32) (x : Nat) : 0 < lk n w f x := by unfold lk; split <;> omega
/-- the last hook looked at -/
def la (n w : Nat) (f : Nat → Int32) (x : Nat) : Nat := at_ n w x (lk n w f x - 1)
def fd (n w : Nat) (f : Nat → Int32) (x : Nat) : Int32 := if f (la n w f x) = nI x then nI (la n w f x) else -1
def fr (n w : Nat) (f : Nat → Int32) (x : Nat) : Int32 := if f (la n w f x) = -1 then nI (la n w f x) else -1
/-- the first hook with a ticket among the first k looked at -/
def tk (n w : Nat) (f : Nat → Int32) (x : Nat) : Nat → Int32
  | 0 => -1
  | k + 1 => if tk n w f x k = -1 ∧ f (at_ n w x k) = -2 then nI (at_ n w x k) else tk n w f x k
def op (n w : Nat) (f : Nat → Int32) (x : Nat) : Int32 := if tk n w f x (lk n w f x) = -1 then fr n w f x else tk n w f x (lk n w f x)
def hs (n : Nat) (f : Nat → Int32) (x : Nat) : Nat := if fs (fun i => decide (f i = nI x)) n 0 < n then 1 else 0
def pl (n w : Nat) (f : Nat → Int32) (x : Nat) : Int32 := if hs n f x = 0 then op n w f x else -1
/-- the looks for what hangs on a hook -/
def lx (n w : Nat) (f : Nat → Int32) (i : Nat) : Nat := if 0 ≤ f i then lk n w f (f i).toNatClampNeg else 0
theorem lx_le (n w : Nat) (f : Nat → Int32) (i : Nat) : lx n w f i ≤ n := by unfold lx; split; exact lk_le _ _ _ _; omega
def sm (n w : Nat) (f : Nat → Int32) : Nat := fo (fun a i => a + lx n w f i) n 0 0
def fa (n w : Nat) (f : Nat → Int32) : Int32 × Nat := fo (fun (a : Int32 × Nat) i => if a.2 < lx n w f i then (f i, lx n w f i) else a) n 0 (-1, 0)
/-- what is on the hooks of a theatre -/
def Ok (n : Nat) (f g : Nat → Int32) : Prop := ∀ k, k < n → (f k = -1 ∧ g k = nI 0) ∨ (f k = -2 ∧ g k = nI 0) ∨ ∃ x y : Nat, x ≤ 9999 ∧ f k = nI x ∧ 1 ≤ y ∧ y ≤ 99 ∧ g k = nI y
def RS (n w : Nat) (F G f g : Nat → Int32) : Prop := 3 ≤ n ∧ n ≤ 40 ∧ w ≤ 2 ∧ (∀ k, k < n → F k = f k) ∧ (∀ k, k < n → G k = g k) ∧ Ok n f g
theorem ne_m1 {x : Nat} (h : x < 2 ^ 31) : nI x ≠ -1 := by
  intro h1
  have h2 := nI_pos' h
  rw [h1] at h2
  exact absurd h2 (by decide)
theorem ne_m2 {x : Nat} (h : x < 2 ^ 31) : nI x ≠ -2 := by
  intro h1
  have h2 := nI_pos' h
  rw [h1] at h2
  exact absurd h2 (by decide)
theorem Ok.num {n : Nat} {f g : Nat → Int32} (h : Ok n f g) {k : Nat} (hk : k < n) (h0 : 0 ≤ f k) : ∃ x : Nat, x ≤ 9999 ∧ f k = nI x ∧ (f k).toNatClampNeg = x := by
  rcases h k hk with ⟨h1, -⟩ | ⟨h1, -⟩ | ⟨x, y, hx, h1, -⟩
  · rw [h1] at h0; exact absurd h0 (by decide)
  · rw [h1] at h0; exact absurd h0 (by decide)
  · exact ⟨x, hx, h1, by rw [h1]; exact nI_clamp (by omega)⟩
theorem Ok.neg {n : Nat} {f g : Nat → Int32} (h : Ok n f g) {k : Nat} (hk : k < n) (h0 : ¬ 0 ≤ f k) : (f k = -1 ∨ f k = -2) ∧ g k = nI 0 := by
  rcases h k hk with ⟨h1, h2⟩ | ⟨h1, h2⟩ | ⟨x, y, hx, h1, -⟩
  · exact ⟨Or.inl h1, h2⟩
  · exact ⟨Or.inr h1, h2⟩
  · exact absurd (by rw [h1]; exact nI_pos' (by omega)) h0
/-- a rack's cells -/
abbrev rkw (cI : ClassId) (h a1 a2 n w : Nat) (F G : Nat → Int32) : va_W := [(h, .inr (0, [.ref a1, .ref a2, .int (nI n), .int (nI w)])), (a1, .inl (cI, 40, .inl F)), (a2, .inl (cI, 40, .inl G))]
end
section
theorem dX0_init_0 : decode cX0_init 0 = .ok (.aload_n 0, 1) := by decide +kernel
theorem dX0_init_1 : decode cX0_init 1 = .ok (.invokespecial 3, 3) := by decide +kernel
theorem dX0_init_4 : decode cX0_init 4 = .ok (.aload_n 0, 1) := by decide +kernel
theorem dX0_init_5 : decode cX0_init 5 = .ok (.bipush 40, 2) := by decide +kernel
theorem dX0_init_7 : decode cX0_init 7 = .ok (.newarray .int, 2) := by decide +kernel
theorem dX0_init_9 : decode cX0_init 9 = .ok (.putfield 9, 3) := by decide +kernel
theorem dX0_init_12 : decode cX0_init 12 = .ok (.aload_n 0, 1) := by decide +kernel
theorem dX0_init_13 : decode cX0_init 13 = .ok (.bipush 40, 2) := by decide +kernel
theorem dX0_init_15 : decode cX0_init 15 = .ok (.newarray .int, 2) := by decide +kernel
theorem dX0_init_17 : decode cX0_init 17 = .ok (.putfield 15, 3) := by decide +kernel
theorem dX0_init_20 : decode cX0_init 20 = .ok (.aload_n 0, 1) := by decide +kernel
theorem dX0_init_21 : decode cX0_init 21 = .ok (.bipush 8, 2) := by decide +kernel
theorem dX0_init_23 : decode cX0_init 23 = .ok (.iconst 0, 1) := by decide +kernel
theorem dX0_init_24 : decode cX0_init 24 = .ok (.invokevirtual 18, 3) := by decide +kernel
theorem dX0_init_27 : decode cX0_init 27 = .ok (.return_, 1) := by decide +kernel
set_option maxRecDepth 20000 in
theorem ggX0_clear_X0_put : GoodIn wsX0_clear wsX0_put := goodIn_r _ [8, 3, 9, 10, 11, 12, 13] (by decide +kernel) (by decide +kernel)
set_option maxRecDepth 20000 in
theorem gX0_clear_X0_put : GoodIn wsX0_clear (wsV RX0 29 RX0 yX0_put wsX0_put) := goodIn_app (goodIn_of _ (by decide +kernel)) ggX0_clear_X0_put
theorem dX0_clear_0 : decode cX0_clear 0 = .ok (.aload_n 0, 1) := by decide +kernel
theorem dX0_clear_1 : decode cX0_clear 1 = .ok (.iload_n 1, 1) := by decide +kernel
theorem dX0_clear_2 : decode cX0_clear 2 = .ok (.putfield 22, 3) := by decide +kernel
theorem dX0_clear_5 : decode cX0_clear 5 = .ok (.aload_n 0, 1) := by decide +kernel
theorem dX0_clear_6 : decode cX0_clear 6 = .ok (.iload_n 2, 1) := by decide +kernel
theorem dX0_clear_7 : decode cX0_clear 7 = .ok (.putfield 26, 3) := by decide +kernel
theorem dX0_clear_10 : decode cX0_clear 10 = .ok (.iconst 0, 1) := by decide +kernel
theorem dX0_clear_11 : decode cX0_clear 11 = .ok (.istore_n 3, 1) := by decide +kernel
theorem dX0_clear_12 : decode cX0_clear 12 = .ok (.iload_n 3, 1) := by decide +kernel
theorem dX0_clear_13 : decode cX0_clear 13 = .ok (.aload_n 0, 1) := by decide +kernel
theorem dX0_clear_14 : decode cX0_clear 14 = .ok (.getfield 9, 3) := by decide +kernel
theorem dX0_clear_17 : decode cX0_clear 17 = .ok (.arraylength, 1) := by decide +kernel
theorem dX0_clear_18 : decode cX0_clear 18 = .ok (.if_icmp .ge 16, 3) := by decide +kernel
theorem dX0_clear_21 : decode cX0_clear 21 = .ok (.aload_n 0, 1) := by decide +kernel
theorem dX0_clear_22 : decode cX0_clear 22 = .ok (.iload_n 3, 1) := by decide +kernel
theorem dX0_clear_23 : decode cX0_clear 23 = .ok (.iconst (-1), 1) := by decide +kernel
theorem dX0_clear_24 : decode cX0_clear 24 = .ok (.iconst 0, 1) := by decide +kernel
theorem dX0_clear_25 : decode cX0_clear 25 = .ok (.invokevirtual 29, 3) := by decide +kernel
theorem dX0_clear_28 : decode cX0_clear 28 = .ok (.iinc 3 1, 3) := by decide +kernel
theorem dX0_clear_31 : decode cX0_clear 31 = .ok (.goto (-19), 3) := by decide +kernel
theorem dX0_clear_34 : decode cX0_clear 34 = .ok (.return_, 1) := by decide +kernel
set_option maxRecDepth 20000 in
theorem ggX0_leaveTicket_X0_put : GoodIn wsX0_leaveTicket wsX0_put := goodIn_r _ [5, 6, 7, 8, 9, 10, 11] (by decide +kernel) (by decide +kernel)
set_option maxRecDepth 20000 in
theorem gX0_leaveTicket_X0_put : GoodIn wsX0_leaveTicket (wsV RX0 29 RX0 yX0_put wsX0_put) := goodIn_app (goodIn_of _ (by decide +kernel)) ggX0_leaveTicket_X0_put
theorem dX0_leaveTicket_0 : decode cX0_leaveTicket 0 = .ok (.aload_n 0, 1) := by decide +kernel
theorem dX0_leaveTicket_1 : decode cX0_leaveTicket 1 = .ok (.iload_n 1, 1) := by decide +kernel
theorem dX0_leaveTicket_2 : decode cX0_leaveTicket 2 = .ok (.bipush (-2), 2) := by decide +kernel
theorem dX0_leaveTicket_4 : decode cX0_leaveTicket 4 = .ok (.iconst 0, 1) := by decide +kernel
theorem dX0_leaveTicket_5 : decode cX0_leaveTicket 5 = .ok (.invokevirtual 29, 3) := by decide +kernel
theorem dX0_leaveTicket_8 : decode cX0_leaveTicket 8 = .ok (.return_, 1) := by decide +kernel
theorem dX0_put_0 : decode cX0_put 0 = .ok (.iload_n 1, 1) := by decide +kernel
theorem dX0_put_1 : decode cX0_put 1 = .ok (.ifCond .lt 35, 3) := by decide +kernel
theorem dX0_put_4 : decode cX0_put 4 = .ok (.iload_n 1, 1) := by decide +kernel
theorem dX0_put_5 : decode cX0_put 5 = .ok (.aload_n 0, 1) := by decide +kernel
theorem dX0_put_6 : decode cX0_put 6 = .ok (.getfield 9, 3) := by decide +kernel
theorem dX0_put_9 : decode cX0_put 9 = .ok (.arraylength, 1) := by decide +kernel
theorem dX0_put_10 : decode cX0_put 10 = .ok (.if_icmp .ge 26, 3) := by decide +kernel
theorem dX0_put_13 : decode cX0_put 13 = .ok (.iload_n 1, 1) := by decide +kernel
theorem dX0_put_14 : decode cX0_put 14 = .ok (.aload_n 0, 1) := by decide +kernel
theorem dX0_put_15 : decode cX0_put 15 = .ok (.getfield 15, 3) := by decide +kernel
theorem dX0_put_18 : decode cX0_put 18 = .ok (.arraylength, 1) := by decide +kernel
theorem dX0_put_19 : decode cX0_put 19 = .ok (.if_icmp .ge 17, 3) := by decide +kernel
theorem dX0_put_22 : decode cX0_put 22 = .ok (.aload_n 0, 1) := by decide +kernel
theorem dX0_put_23 : decode cX0_put 23 = .ok (.getfield 9, 3) := by decide +kernel
theorem dX0_put_26 : decode cX0_put 26 = .ok (.iload_n 1, 1) := by decide +kernel
theorem dX0_put_27 : decode cX0_put 27 = .ok (.iload_n 2, 1) := by decide +kernel
theorem dX0_put_28 : decode cX0_put 28 = .ok (.iastore, 1) := by decide +kernel
theorem dX0_put_29 : decode cX0_put 29 = .ok (.aload_n 0, 1) := by decide +kernel
theorem dX0_put_30 : decode cX0_put 30 = .ok (.getfield 15, 3) := by decide +kernel
theorem dX0_put_33 : decode cX0_put 33 = .ok (.iload_n 1, 1) := by decide +kernel
theorem dX0_put_34 : decode cX0_put 34 = .ok (.iload_n 3, 1) := by decide +kernel
theorem dX0_put_35 : decode cX0_put 35 = .ok (.iastore, 1) := by decide +kernel
theorem dX0_put_36 : decode cX0_put 36 = .ok (.return_, 1) := by decide +kernel
theorem dX0_heldOn_0 : decode cX0_heldOn 0 = .ok (.iload_n 1, 1) := by decide +kernel
theorem dX0_heldOn_1 : decode cX0_heldOn 1 = .ok (.ifCond .lt 29, 3) := by decide +kernel
theorem dX0_heldOn_4 : decode cX0_heldOn 4 = .ok (.iload_n 1, 1) := by decide +kernel
theorem dX0_heldOn_5 : decode cX0_heldOn 5 = .ok (.aload_n 0, 1) := by decide +kernel
theorem dX0_heldOn_6 : decode cX0_heldOn 6 = .ok (.getfield 22, 3) := by decide +kernel
theorem dX0_heldOn_9 : decode cX0_heldOn 9 = .ok (.if_icmp .ge 21, 3) := by decide +kernel
theorem dX0_heldOn_12 : decode cX0_heldOn 12 = .ok (.iload_n 1, 1) := by decide +kernel
theorem dX0_heldOn_13 : decode cX0_heldOn 13 = .ok (.aload_n 0, 1) := by decide +kernel
theorem dX0_heldOn_14 : decode cX0_heldOn 14 = .ok (.getfield 9, 3) := by decide +kernel
theorem dX0_heldOn_17 : decode cX0_heldOn 17 = .ok (.arraylength, 1) := by decide +kernel
theorem dX0_heldOn_18 : decode cX0_heldOn 18 = .ok (.if_icmp .ge 12, 3) := by decide +kernel
theorem dX0_heldOn_21 : decode cX0_heldOn 21 = .ok (.aload_n 0, 1) := by decide +kernel
theorem dX0_heldOn_22 : decode cX0_heldOn 22 = .ok (.getfield 9, 3) := by decide +kernel
theorem dX0_heldOn_25 : decode cX0_heldOn 25 = .ok (.iload_n 1, 1) := by decide +kernel
theorem dX0_heldOn_26 : decode cX0_heldOn 26 = .ok (.iaload, 1) := by decide +kernel
theorem dX0_heldOn_27 : decode cX0_heldOn 27 = .ok (.goto 4, 3) := by decide +kernel
theorem dX0_heldOn_30 : decode cX0_heldOn 30 = .ok (.iconst (-1), 1) := by decide +kernel
theorem dX0_heldOn_31 : decode cX0_heldOn 31 = .ok (.ireturn, 1) := by decide +kernel
theorem dX0_hookCount_0 : decode cX0_hookCount 0 = .ok (.aload_n 0, 1) := by decide +kernel
theorem dX0_hookCount_1 : decode cX0_hookCount 1 = .ok (.getfield 22, 3) := by decide +kernel
theorem dX0_hookCount_4 : decode cX0_hookCount 4 = .ok (.ireturn, 1) := by decide +kernel
theorem dX0_usherWay_0 : decode cX0_usherWay 0 = .ok (.aload_n 0, 1) := by decide +kernel
theorem dX0_usherWay_1 : decode cX0_usherWay 1 = .ok (.getfield 26, 3) := by decide +kernel
theorem dX0_usherWay_4 : decode cX0_usherWay 4 = .ok (.ireturn, 1) := by decide +kernel
set_option maxRecDepth 20000 in
theorem ggX0_stateOn_X0_heldOn : GoodIn wsX0_stateOn wsX0_heldOn := goodIn_r _ [5, 6, 7, 8, 9, 10, 11] (by decide +kernel) (by decide +kernel)
set_option maxRecDepth 20000 in
theorem gX0_stateOn_X0_heldOn : GoodIn wsX0_stateOn (wsV RX0 33 RX0 yX0_heldOn wsX0_heldOn) := goodIn_app (goodIn_of _ (by decide +kernel)) ggX0_stateOn_X0_heldOn
theorem dX0_stateOn_0 : decode cX0_stateOn 0 = .ok (.aload_n 0, 1) := by decide +kernel
theorem dX0_stateOn_1 : decode cX0_stateOn 1 = .ok (.iload_n 1, 1) := by decide +kernel
theorem dX0_stateOn_2 : decode cX0_stateOn 2 = .ok (.invokevirtual 33, 3) := by decide +kernel
theorem dX0_stateOn_5 : decode cX0_stateOn 5 = .ok (.istore_n 2, 1) := by decide +kernel
theorem dX0_stateOn_6 : decode cX0_stateOn 6 = .ok (.iload_n 2, 1) := by decide +kernel
theorem dX0_stateOn_7 : decode cX0_stateOn 7 = .ok (.iconst (-1), 1) := by decide +kernel
theorem dX0_stateOn_8 : decode cX0_stateOn 8 = .ok (.if_icmp .ne 5, 3) := by decide +kernel
theorem dX0_stateOn_11 : decode cX0_stateOn 11 = .ok (.iconst 0, 1) := by decide +kernel
theorem dX0_stateOn_12 : decode cX0_stateOn 12 = .ok (.ireturn, 1) := by decide +kernel
theorem dX0_stateOn_13 : decode cX0_stateOn 13 = .ok (.iload_n 2, 1) := by decide +kernel
theorem dX0_stateOn_14 : decode cX0_stateOn 14 = .ok (.bipush (-2), 2) := by decide +kernel
theorem dX0_stateOn_16 : decode cX0_stateOn 16 = .ok (.if_icmp .ne 7, 3) := by decide +kernel
theorem dX0_stateOn_19 : decode cX0_stateOn 19 = .ok (.iconst 2, 1) := by decide +kernel
theorem dX0_stateOn_20 : decode cX0_stateOn 20 = .ok (.goto 4, 3) := by decide +kernel
theorem dX0_stateOn_23 : decode cX0_stateOn 23 = .ok (.iconst 1, 1) := by decide +kernel
theorem dX0_stateOn_24 : decode cX0_stateOn 24 = .ok (.ireturn, 1) := by decide +kernel
set_option maxRecDepth 20000 in
theorem ggX0_coatOn_X0_heldOn : GoodIn wsX0_coatOn wsX0_heldOn := goodIn_r _ [5, 6, 7, 8, 9, 10, 11] (by decide +kernel) (by decide +kernel)
set_option maxRecDepth 20000 in
theorem gX0_coatOn_X0_heldOn : GoodIn wsX0_coatOn (wsV RX0 33 RX0 yX0_heldOn wsX0_heldOn) := goodIn_app (goodIn_of _ (by decide +kernel)) ggX0_coatOn_X0_heldOn
theorem dX0_coatOn_0 : decode cX0_coatOn 0 = .ok (.aload_n 0, 1) := by decide +kernel
theorem dX0_coatOn_1 : decode cX0_coatOn 1 = .ok (.iload_n 1, 1) := by decide +kernel
theorem dX0_coatOn_2 : decode cX0_coatOn 2 = .ok (.invokevirtual 33, 3) := by decide +kernel
theorem dX0_coatOn_5 : decode cX0_coatOn 5 = .ok (.istore_n 2, 1) := by decide +kernel
theorem dX0_coatOn_6 : decode cX0_coatOn 6 = .ok (.iload_n 2, 1) := by decide +kernel
theorem dX0_coatOn_7 : decode cX0_coatOn 7 = .ok (.ifCond .lt 7, 3) := by decide +kernel
theorem dX0_coatOn_10 : decode cX0_coatOn 10 = .ok (.iload_n 2, 1) := by decide +kernel
theorem dX0_coatOn_11 : decode cX0_coatOn 11 = .ok (.goto 4, 3) := by decide +kernel
theorem dX0_coatOn_14 : decode cX0_coatOn 14 = .ok (.iconst (-1), 1) := by decide +kernel
theorem dX0_coatOn_15 : decode cX0_coatOn 15 = .ok (.ireturn, 1) := by decide +kernel
theorem dX0_weightOn_0 : decode cX0_weightOn 0 = .ok (.iload_n 1, 1) := by decide +kernel
theorem dX0_weightOn_1 : decode cX0_weightOn 1 = .ok (.ifCond .lt 29, 3) := by decide +kernel
theorem dX0_weightOn_4 : decode cX0_weightOn 4 = .ok (.iload_n 1, 1) := by decide +kernel
theorem dX0_weightOn_5 : decode cX0_weightOn 5 = .ok (.aload_n 0, 1) := by decide +kernel
theorem dX0_weightOn_6 : decode cX0_weightOn 6 = .ok (.getfield 22, 3) := by decide +kernel
theorem dX0_weightOn_9 : decode cX0_weightOn 9 = .ok (.if_icmp .ge 21, 3) := by decide +kernel
theorem dX0_weightOn_12 : decode cX0_weightOn 12 = .ok (.iload_n 1, 1) := by decide +kernel
theorem dX0_weightOn_13 : decode cX0_weightOn 13 = .ok (.aload_n 0, 1) := by decide +kernel
theorem dX0_weightOn_14 : decode cX0_weightOn 14 = .ok (.getfield 15, 3) := by decide +kernel
theorem dX0_weightOn_17 : decode cX0_weightOn 17 = .ok (.arraylength, 1) := by decide +kernel
theorem dX0_weightOn_18 : decode cX0_weightOn 18 = .ok (.if_icmp .ge 12, 3) := by decide +kernel
theorem dX0_weightOn_21 : decode cX0_weightOn 21 = .ok (.aload_n 0, 1) := by decide +kernel
theorem dX0_weightOn_22 : decode cX0_weightOn 22 = .ok (.getfield 15, 3) := by decide +kernel
theorem dX0_weightOn_25 : decode cX0_weightOn 25 = .ok (.iload_n 1, 1) := by decide +kernel
theorem dX0_weightOn_26 : decode cX0_weightOn 26 = .ok (.iaload, 1) := by decide +kernel
theorem dX0_weightOn_27 : decode cX0_weightOn 27 = .ok (.goto 4, 3) := by decide +kernel
theorem dX0_weightOn_30 : decode cX0_weightOn 30 = .ok (.iconst 0, 1) := by decide +kernel
theorem dX0_weightOn_31 : decode cX0_weightOn 31 = .ok (.ireturn, 1) := by decide +kernel
set_option maxRecDepth 20000 in
theorem ggX0_countInState_X0_stateOn : GoodIn wsX0_countInState wsX0_stateOn := goodIn_r _ [6, 7, 8, 9, 5, 10, 1, 11, 12, 13, 14, 15] (by decide +kernel) (by decide +kernel)
set_option maxRecDepth 20000 in
theorem gX0_countInState_X0_stateOn : GoodIn wsX0_countInState (wsV RX0 37 RX0 yX0_stateOn wsX0_stateOn) := goodIn_app (goodIn_of _ (by decide +kernel)) ggX0_countInState_X0_stateOn
theorem dX0_countInState_0 : decode cX0_countInState 0 = .ok (.iconst 0, 1) := by decide +kernel
theorem dX0_countInState_1 : decode cX0_countInState 1 = .ok (.istore_n 2, 1) := by decide +kernel
theorem dX0_countInState_2 : decode cX0_countInState 2 = .ok (.iconst 0, 1) := by decide +kernel
theorem dX0_countInState_3 : decode cX0_countInState 3 = .ok (.istore_n 3, 1) := by decide +kernel
theorem dX0_countInState_4 : decode cX0_countInState 4 = .ok (.iload_n 3, 1) := by decide +kernel
theorem dX0_countInState_5 : decode cX0_countInState 5 = .ok (.aload_n 0, 1) := by decide +kernel
theorem dX0_countInState_6 : decode cX0_countInState 6 = .ok (.getfield 22, 3) := by decide +kernel
theorem dX0_countInState_9 : decode cX0_countInState 9 = .ok (.if_icmp .ge 21, 3) := by decide +kernel
theorem dX0_countInState_12 : decode cX0_countInState 12 = .ok (.aload_n 0, 1) := by decide +kernel
theorem dX0_countInState_13 : decode cX0_countInState 13 = .ok (.iload_n 3, 1) := by decide +kernel
theorem dX0_countInState_14 : decode cX0_countInState 14 = .ok (.invokevirtual 37, 3) := by decide +kernel
theorem dX0_countInState_17 : decode cX0_countInState 17 = .ok (.iload_n 1, 1) := by decide +kernel
theorem dX0_countInState_18 : decode cX0_countInState 18 = .ok (.if_icmp .ne 6, 3) := by decide +kernel
theorem dX0_countInState_21 : decode cX0_countInState 21 = .ok (.iinc 2 1, 3) := by decide +kernel
theorem dX0_countInState_24 : decode cX0_countInState 24 = .ok (.iinc 3 1, 3) := by decide +kernel
theorem dX0_countInState_27 : decode cX0_countInState 27 = .ok (.goto (-23), 3) := by decide +kernel
theorem dX0_countInState_30 : decode cX0_countInState 30 = .ok (.iload_n 2, 1) := by decide +kernel
theorem dX0_countInState_31 : decode cX0_countInState 31 = .ok (.ireturn, 1) := by decide +kernel
set_option maxRecDepth 20000 in
theorem ggX0_weightOfAll_X0_weightOn : GoodIn wsX0_weightOfAll wsX0_weightOn := goodIn_r _ [6, 1, 7, 8, 9, 10, 11] (by decide +kernel) (by decide +kernel)
set_option maxRecDepth 20000 in
theorem gX0_weightOfAll_X0_weightOn : GoodIn wsX0_weightOfAll (wsV RX0 40 RX0 yX0_weightOn wsX0_weightOn) := goodIn_app (goodIn_of _ (by decide +kernel)) ggX0_weightOfAll_X0_weightOn
theorem dX0_weightOfAll_0 : decode cX0_weightOfAll 0 = .ok (.iconst 0, 1) := by decide +kernel
theorem dX0_weightOfAll_1 : decode cX0_weightOfAll 1 = .ok (.istore_n 1, 1) := by decide +kernel
theorem dX0_weightOfAll_2 : decode cX0_weightOfAll 2 = .ok (.iconst 0, 1) := by decide +kernel
theorem dX0_weightOfAll_3 : decode cX0_weightOfAll 3 = .ok (.istore_n 2, 1) := by decide +kernel
theorem dX0_weightOfAll_4 : decode cX0_weightOfAll 4 = .ok (.iload_n 2, 1) := by decide +kernel
theorem dX0_weightOfAll_5 : decode cX0_weightOfAll 5 = .ok (.aload_n 0, 1) := by decide +kernel
theorem dX0_weightOfAll_6 : decode cX0_weightOfAll 6 = .ok (.getfield 22, 3) := by decide +kernel
theorem dX0_weightOfAll_9 : decode cX0_weightOfAll 9 = .ok (.if_icmp .ge 17, 3) := by decide +kernel
theorem dX0_weightOfAll_12 : decode cX0_weightOfAll 12 = .ok (.iload_n 1, 1) := by decide +kernel
theorem dX0_weightOfAll_13 : decode cX0_weightOfAll 13 = .ok (.aload_n 0, 1) := by decide +kernel
theorem dX0_weightOfAll_14 : decode cX0_weightOfAll 14 = .ok (.iload_n 2, 1) := by decide +kernel
theorem dX0_weightOfAll_15 : decode cX0_weightOfAll 15 = .ok (.invokevirtual 40, 3) := by decide +kernel
theorem dX0_weightOfAll_18 : decode cX0_weightOfAll 18 = .ok (.iadd, 1) := by decide +kernel
theorem dX0_weightOfAll_19 : decode cX0_weightOfAll 19 = .ok (.istore_n 1, 1) := by decide +kernel
theorem dX0_weightOfAll_20 : decode cX0_weightOfAll 20 = .ok (.iinc 2 1, 3) := by decide +kernel
theorem dX0_weightOfAll_23 : decode cX0_weightOfAll 23 = .ok (.goto (-19), 3) := by decide +kernel
theorem dX0_weightOfAll_26 : decode cX0_weightOfAll 26 = .ok (.iload_n 1, 1) := by decide +kernel
theorem dX0_weightOfAll_27 : decode cX0_weightOfAll 27 = .ok (.ireturn, 1) := by decide +kernel
set_option maxRecDepth 20000 in
theorem ggX0_hookOfHeaviest_X0_weightOn : GoodIn wsX0_hookOfHeaviest wsX0_weightOn := goodIn_r _ [6, 1, 7, 8, 9, 10, 11] (by decide +kernel) (by decide +kernel)
set_option maxRecDepth 20000 in
theorem gX0_hookOfHeaviest_X0_weightOn : GoodIn wsX0_hookOfHeaviest (wsV RX0 40 RX0 yX0_weightOn wsX0_weightOn) := goodIn_app (goodIn_of _ (by decide +kernel)) ggX0_hookOfHeaviest_X0_weightOn
theorem dX0_hookOfHeaviest_0 : decode cX0_hookOfHeaviest 0 = .ok (.iconst (-1), 1) := by decide +kernel
theorem dX0_hookOfHeaviest_1 : decode cX0_hookOfHeaviest 1 = .ok (.istore_n 1, 1) := by decide +kernel
theorem dX0_hookOfHeaviest_2 : decode cX0_hookOfHeaviest 2 = .ok (.iconst 0, 1) := by decide +kernel
theorem dX0_hookOfHeaviest_3 : decode cX0_hookOfHeaviest 3 = .ok (.istore_n 2, 1) := by decide +kernel
theorem dX0_hookOfHeaviest_4 : decode cX0_hookOfHeaviest 4 = .ok (.iconst 0, 1) := by decide +kernel
theorem dX0_hookOfHeaviest_5 : decode cX0_hookOfHeaviest 5 = .ok (.istore_n 3, 1) := by decide +kernel
theorem dX0_hookOfHeaviest_6 : decode cX0_hookOfHeaviest 6 = .ok (.iload_n 3, 1) := by decide +kernel
theorem dX0_hookOfHeaviest_7 : decode cX0_hookOfHeaviest 7 = .ok (.aload_n 0, 1) := by decide +kernel
theorem dX0_hookOfHeaviest_8 : decode cX0_hookOfHeaviest 8 = .ok (.getfield 22, 3) := by decide +kernel
theorem dX0_hookOfHeaviest_11 : decode cX0_hookOfHeaviest 11 = .ok (.if_icmp .ge 26, 3) := by decide +kernel
theorem dX0_hookOfHeaviest_14 : decode cX0_hookOfHeaviest 14 = .ok (.aload_n 0, 1) := by decide +kernel
theorem dX0_hookOfHeaviest_15 : decode cX0_hookOfHeaviest 15 = .ok (.iload_n 3, 1) := by decide +kernel
theorem dX0_hookOfHeaviest_16 : decode cX0_hookOfHeaviest 16 = .ok (.invokevirtual 40, 3) := by decide +kernel
theorem dX0_hookOfHeaviest_19 : decode cX0_hookOfHeaviest 19 = .ok (.iload_n 2, 1) := by decide +kernel
theorem dX0_hookOfHeaviest_20 : decode cX0_hookOfHeaviest 20 = .ok (.if_icmp .le 11, 3) := by decide +kernel
theorem dX0_hookOfHeaviest_23 : decode cX0_hookOfHeaviest 23 = .ok (.iload_n 3, 1) := by decide +kernel
theorem dX0_hookOfHeaviest_24 : decode cX0_hookOfHeaviest 24 = .ok (.istore_n 1, 1) := by decide +kernel
theorem dX0_hookOfHeaviest_25 : decode cX0_hookOfHeaviest 25 = .ok (.aload_n 0, 1) := by decide +kernel
theorem dX0_hookOfHeaviest_26 : decode cX0_hookOfHeaviest 26 = .ok (.iload_n 3, 1) := by decide +kernel
theorem dX0_hookOfHeaviest_27 : decode cX0_hookOfHeaviest 27 = .ok (.invokevirtual 40, 3) := by decide +kernel
theorem dX0_hookOfHeaviest_30 : decode cX0_hookOfHeaviest 30 = .ok (.istore_n 2, 1) := by decide +kernel
theorem dX0_hookOfHeaviest_31 : decode cX0_hookOfHeaviest 31 = .ok (.iinc 3 1, 3) := by decide +kernel
theorem dX0_hookOfHeaviest_34 : decode cX0_hookOfHeaviest 34 = .ok (.goto (-28), 3) := by decide +kernel
theorem dX0_hookOfHeaviest_37 : decode cX0_hookOfHeaviest 37 = .ok (.iload_n 1, 1) := by decide +kernel
theorem dX0_hookOfHeaviest_38 : decode cX0_hookOfHeaviest 38 = .ok (.ireturn, 1) := by decide +kernel
theorem dX0_hookInStep_0 : decode cX0_hookInStep 0 = .ok (.aload_n 0, 1) := by decide +kernel
theorem dX0_hookInStep_1 : decode cX0_hookInStep 1 = .ok (.getfield 22, 3) := by decide +kernel
theorem dX0_hookInStep_4 : decode cX0_hookInStep 4 = .ok (.iconst 3, 1) := by decide +kernel
theorem dX0_hookInStep_5 : decode cX0_hookInStep 5 = .ok (.if_icmp .ge 5, 3) := by decide +kernel
theorem dX0_hookInStep_8 : decode cX0_hookInStep 8 = .ok (.iconst 0, 1) := by decide +kernel
theorem dX0_hookInStep_9 : decode cX0_hookInStep 9 = .ok (.ireturn, 1) := by decide +kernel
theorem dX0_hookInStep_10 : decode cX0_hookInStep 10 = .ok (.iload_n 2, 1) := by decide +kernel
theorem dX0_hookInStep_11 : decode cX0_hookInStep 11 = .ok (.istore_n 3, 1) := by decide +kernel
theorem dX0_hookInStep_12 : decode cX0_hookInStep 12 = .ok (.aload_n 0, 1) := by decide +kernel
theorem dX0_hookInStep_13 : decode cX0_hookInStep 13 = .ok (.getfield 26, 3) := by decide +kernel
theorem dX0_hookInStep_16 : decode cX0_hookInStep 16 = .ok (.iconst 1, 1) := by decide +kernel
theorem dX0_hookInStep_17 : decode cX0_hookInStep 17 = .ok (.if_icmp .ne 14, 3) := by decide +kernel
theorem dX0_hookInStep_20 : decode cX0_hookInStep 20 = .ok (.iload_n 2, 1) := by decide +kernel
theorem dX0_hookInStep_21 : decode cX0_hookInStep 21 = .ok (.iload_n 2, 1) := by decide +kernel
theorem dX0_hookInStep_22 : decode cX0_hookInStep 22 = .ok (.iconst 1, 1) := by decide +kernel
theorem dX0_hookInStep_23 : decode cX0_hookInStep 23 = .ok (.iadd, 1) := by decide +kernel
theorem dX0_hookInStep_24 : decode cX0_hookInStep 24 = .ok (.imul, 1) := by decide +kernel
theorem dX0_hookInStep_25 : decode cX0_hookInStep 25 = .ok (.iconst 2, 1) := by decide +kernel
theorem dX0_hookInStep_26 : decode cX0_hookInStep 26 = .ok (.idiv, 1) := by decide +kernel
theorem dX0_hookInStep_27 : decode cX0_hookInStep 27 = .ok (.istore_n 3, 1) := by decide +kernel
theorem dX0_hookInStep_28 : decode cX0_hookInStep 28 = .ok (.goto 29, 3) := by decide +kernel
theorem dX0_hookInStep_31 : decode cX0_hookInStep 31 = .ok (.aload_n 0, 1) := by decide +kernel
theorem dX0_hookInStep_32 : decode cX0_hookInStep 32 = .ok (.getfield 26, 3) := by decide +kernel
theorem dX0_hookInStep_35 : decode cX0_hookInStep 35 = .ok (.iconst 2, 1) := by decide +kernel
theorem dX0_hookInStep_36 : decode cX0_hookInStep 36 = .ok (.if_icmp .ne 21, 3) := by decide +kernel
theorem dX0_hookInStep_39 : decode cX0_hookInStep 39 = .ok (.iload_n 2, 1) := by decide +kernel
theorem dX0_hookInStep_40 : decode cX0_hookInStep 40 = .ok (.iconst 1, 1) := by decide +kernel
theorem dX0_hookInStep_41 : decode cX0_hookInStep 41 = .ok (.iload_n 1, 1) := by decide +kernel
theorem dX0_hookInStep_42 : decode cX0_hookInStep 42 = .ok (.aload_n 0, 1) := by decide +kernel
theorem dX0_hookInStep_43 : decode cX0_hookInStep 43 = .ok (.getfield 22, 3) := by decide +kernel
theorem dX0_hookInStep_46 : decode cX0_hookInStep 46 = .ok (.idiv, 1) := by decide +kernel
theorem dX0_hookInStep_47 : decode cX0_hookInStep 47 = .ok (.aload_n 0, 1) := by decide +kernel
theorem dX0_hookInStep_48 : decode cX0_hookInStep 48 = .ok (.getfield 22, 3) := by decide +kernel
theorem dX0_hookInStep_51 : decode cX0_hookInStep 51 = .ok (.iconst 1, 1) := by decide +kernel
theorem dX0_hookInStep_52 : decode cX0_hookInStep 52 = .ok (.isub, 1) := by decide +kernel
theorem dX0_hookInStep_53 : decode cX0_hookInStep 53 = .ok (.irem, 1) := by decide +kernel
theorem dX0_hookInStep_54 : decode cX0_hookInStep 54 = .ok (.iadd, 1) := by decide +kernel
theorem dX0_hookInStep_55 : decode cX0_hookInStep 55 = .ok (.imul, 1) := by decide +kernel
theorem dX0_hookInStep_56 : decode cX0_hookInStep 56 = .ok (.istore_n 3, 1) := by decide +kernel
theorem dX0_hookInStep_57 : decode cX0_hookInStep 57 = .ok (.iload_n 1, 1) := by decide +kernel
theorem dX0_hookInStep_58 : decode cX0_hookInStep 58 = .ok (.iload_n 3, 1) := by decide +kernel
theorem dX0_hookInStep_59 : decode cX0_hookInStep 59 = .ok (.iadd, 1) := by decide +kernel
theorem dX0_hookInStep_60 : decode cX0_hookInStep 60 = .ok (.aload_n 0, 1) := by decide +kernel
theorem dX0_hookInStep_61 : decode cX0_hookInStep 61 = .ok (.getfield 22, 3) := by decide +kernel
theorem dX0_hookInStep_64 : decode cX0_hookInStep 64 = .ok (.irem, 1) := by decide +kernel
theorem dX0_hookInStep_65 : decode cX0_hookInStep 65 = .ok (.ireturn, 1) := by decide +kernel
set_option maxRecDepth 20000 in
theorem ggX0_countLooks_X0_hookInStep : GoodIn wsX0_countLooks wsX0_hookInStep := goodIn_r _ [6, 1, 7, 13, 14, 15, 16] (by decide +kernel) (by decide +kernel)
set_option maxRecDepth 20000 in
theorem gX0_countLooks_X0_hookInStep : GoodIn wsX0_countLooks (wsV RX0 43 RX0 yX0_hookInStep wsX0_hookInStep) := goodIn_app (goodIn_of _ (by decide +kernel)) ggX0_countLooks_X0_hookInStep
set_option maxRecDepth 20000 in
theorem ggX0_countLooks_X0_heldOn : GoodIn wsX0_countLooks wsX0_heldOn := goodIn_r _ [11, 1, 12, 13, 14, 15, 16] (by decide +kernel) (by decide +kernel)
set_option maxRecDepth 20000 in
theorem gX0_countLooks_X0_heldOn : GoodIn wsX0_countLooks (wsV RX0 33 RX0 yX0_heldOn wsX0_heldOn) := goodIn_app (goodIn_of _ (by decide +kernel)) ggX0_countLooks_X0_heldOn
theorem dX0_countLooks_0 : decode cX0_countLooks 0 = .ok (.iconst 0, 1) := by decide +kernel
theorem dX0_countLooks_1 : decode cX0_countLooks 1 = .ok (.istore_n 2, 1) := by decide +kernel
theorem dX0_countLooks_2 : decode cX0_countLooks 2 = .ok (.iload_n 2, 1) := by decide +kernel
theorem dX0_countLooks_3 : decode cX0_countLooks 3 = .ok (.aload_n 0, 1) := by decide +kernel
theorem dX0_countLooks_4 : decode cX0_countLooks 4 = .ok (.getfield 22, 3) := by decide +kernel
theorem dX0_countLooks_7 : decode cX0_countLooks 7 = .ok (.if_icmp .ge 34, 3) := by decide +kernel
theorem dX0_countLooks_10 : decode cX0_countLooks 10 = .ok (.aload_n 0, 1) := by decide +kernel
theorem dX0_countLooks_11 : decode cX0_countLooks 11 = .ok (.aload_n 0, 1) := by decide +kernel
theorem dX0_countLooks_12 : decode cX0_countLooks 12 = .ok (.iload_n 1, 1) := by decide +kernel
theorem dX0_countLooks_13 : decode cX0_countLooks 13 = .ok (.iload_n 2, 1) := by decide +kernel
theorem dX0_countLooks_14 : decode cX0_countLooks 14 = .ok (.invokevirtual 43, 3) := by decide +kernel
theorem dX0_countLooks_17 : decode cX0_countLooks 17 = .ok (.invokevirtual 33, 3) := by decide +kernel
theorem dX0_countLooks_20 : decode cX0_countLooks 20 = .ok (.istore_n 3, 1) := by decide +kernel
theorem dX0_countLooks_21 : decode cX0_countLooks 21 = .ok (.iload_n 3, 1) := by decide +kernel
theorem dX0_countLooks_22 : decode cX0_countLooks 22 = .ok (.iload_n 1, 1) := by decide +kernel
theorem dX0_countLooks_23 : decode cX0_countLooks 23 = .ok (.if_icmp .eq 8, 3) := by decide +kernel
theorem dX0_countLooks_26 : decode cX0_countLooks 26 = .ok (.iload_n 3, 1) := by decide +kernel
theorem dX0_countLooks_27 : decode cX0_countLooks 27 = .ok (.iconst (-1), 1) := by decide +kernel
theorem dX0_countLooks_28 : decode cX0_countLooks 28 = .ok (.if_icmp .ne 7, 3) := by decide +kernel
theorem dX0_countLooks_31 : decode cX0_countLooks 31 = .ok (.iload_n 2, 1) := by decide +kernel
theorem dX0_countLooks_32 : decode cX0_countLooks 32 = .ok (.iconst 1, 1) := by decide +kernel
theorem dX0_countLooks_33 : decode cX0_countLooks 33 = .ok (.iadd, 1) := by decide +kernel
theorem dX0_countLooks_34 : decode cX0_countLooks 34 = .ok (.ireturn, 1) := by decide +kernel
theorem dX0_countLooks_35 : decode cX0_countLooks 35 = .ok (.iinc 2 1, 3) := by decide +kernel
theorem dX0_countLooks_38 : decode cX0_countLooks 38 = .ok (.goto (-36), 3) := by decide +kernel
theorem dX0_countLooks_41 : decode cX0_countLooks 41 = .ok (.aload_n 0, 1) := by decide +kernel
theorem dX0_countLooks_42 : decode cX0_countLooks 42 = .ok (.getfield 22, 3) := by decide +kernel
theorem dX0_countLooks_45 : decode cX0_countLooks 45 = .ok (.ireturn, 1) := by decide +kernel
set_option maxRecDepth 20000 in
theorem ggX0_whereFound_X0_countLooks : GoodIn wsX0_whereFound wsX0_countLooks := goodIn_r _ [5, 6, 7, 8, 9, 4, 10, 11, 12, 13, 14, 15, 16, 17, 18, 19, 20] (by decide +kernel) (by decide +kernel)
set_option maxRecDepth 20000 in
theorem gX0_whereFound_X0_countLooks : GoodIn wsX0_whereFound (wsV RX0 47 RX0 yX0_countLooks wsX0_countLooks) := goodIn_app (goodIn_of _ (by decide +kernel)) ggX0_whereFound_X0_countLooks
set_option maxRecDepth 20000 in
theorem ggX0_whereFound_X0_hookInStep : GoodIn wsX0_whereFound wsX0_hookInStep := goodIn_r _ [10, 6, 11, 17, 18, 19, 20] (by decide +kernel) (by decide +kernel)
set_option maxRecDepth 20000 in
theorem gX0_whereFound_X0_hookInStep : GoodIn wsX0_whereFound (wsV RX0 43 RX0 yX0_hookInStep wsX0_hookInStep) := goodIn_app (goodIn_of _ (by decide +kernel)) ggX0_whereFound_X0_hookInStep
set_option maxRecDepth 20000 in
theorem ggX0_whereFound_X0_heldOn : GoodIn wsX0_whereFound wsX0_heldOn := goodIn_r _ [15, 6, 16, 17, 18, 19, 20] (by decide +kernel) (by decide +kernel)
set_option maxRecDepth 20000 in
theorem gX0_whereFound_X0_heldOn : GoodIn wsX0_whereFound (wsV RX0 33 RX0 yX0_heldOn wsX0_heldOn) := goodIn_app (goodIn_of _ (by decide +kernel)) ggX0_whereFound_X0_heldOn
theorem dX0_whereFound_0 : decode cX0_whereFound 0 = .ok (.aload_n 0, 1) := by decide +kernel
theorem dX0_whereFound_1 : decode cX0_whereFound 1 = .ok (.iload_n 1, 1) := by decide +kernel
theorem dX0_whereFound_2 : decode cX0_whereFound 2 = .ok (.aload_n 0, 1) := by decide +kernel
theorem dX0_whereFound_3 : decode cX0_whereFound 3 = .ok (.iload_n 1, 1) := by decide +kernel
theorem dX0_whereFound_4 : decode cX0_whereFound 4 = .ok (.invokevirtual 47, 3) := by decide +kernel
theorem dX0_whereFound_7 : decode cX0_whereFound 7 = .ok (.iconst 1, 1) := by decide +kernel
theorem dX0_whereFound_8 : decode cX0_whereFound 8 = .ok (.isub, 1) := by decide +kernel
theorem dX0_whereFound_9 : decode cX0_whereFound 9 = .ok (.invokevirtual 43, 3) := by decide +kernel
theorem dX0_whereFound_12 : decode cX0_whereFound 12 = .ok (.istore_n 2, 1) := by decide +kernel
theorem dX0_whereFound_13 : decode cX0_whereFound 13 = .ok (.aload_n 0, 1) := by decide +kernel
theorem dX0_whereFound_14 : decode cX0_whereFound 14 = .ok (.iload_n 2, 1) := by decide +kernel
theorem dX0_whereFound_15 : decode cX0_whereFound 15 = .ok (.invokevirtual 33, 3) := by decide +kernel
theorem dX0_whereFound_18 : decode cX0_whereFound 18 = .ok (.iload_n 1, 1) := by decide +kernel
theorem dX0_whereFound_19 : decode cX0_whereFound 19 = .ok (.if_icmp .ne 7, 3) := by decide +kernel
theorem dX0_whereFound_22 : decode cX0_whereFound 22 = .ok (.iload_n 2, 1) := by decide +kernel
theorem dX0_whereFound_23 : decode cX0_whereFound 23 = .ok (.goto 4, 3) := by decide +kernel
theorem dX0_whereFound_26 : decode cX0_whereFound 26 = .ok (.iconst (-1), 1) := by decide +kernel
theorem dX0_whereFound_27 : decode cX0_whereFound 27 = .ok (.ireturn, 1) := by decide +kernel
set_option maxRecDepth 20000 in
theorem ggX0_hangs_X0_heldOn : GoodIn wsX0_hangs wsX0_heldOn := goodIn_r _ [6, 1, 7, 8, 9, 10, 11] (by decide +kernel) (by decide +kernel)
set_option maxRecDepth 20000 in
theorem gX0_hangs_X0_heldOn : GoodIn wsX0_hangs (wsV RX0 33 RX0 yX0_heldOn wsX0_heldOn) := goodIn_app (goodIn_of _ (by decide +kernel)) ggX0_hangs_X0_heldOn
theorem dX0_hangs_0 : decode cX0_hangs 0 = .ok (.iconst 0, 1) := by decide +kernel
theorem dX0_hangs_1 : decode cX0_hangs 1 = .ok (.istore_n 2, 1) := by decide +kernel
theorem dX0_hangs_2 : decode cX0_hangs 2 = .ok (.iload_n 2, 1) := by decide +kernel
theorem dX0_hangs_3 : decode cX0_hangs 3 = .ok (.aload_n 0, 1) := by decide +kernel
theorem dX0_hangs_4 : decode cX0_hangs 4 = .ok (.getfield 22, 3) := by decide +kernel
theorem dX0_hangs_7 : decode cX0_hangs 7 = .ok (.if_icmp .ge 20, 3) := by decide +kernel
theorem dX0_hangs_10 : decode cX0_hangs 10 = .ok (.aload_n 0, 1) := by decide +kernel
theorem dX0_hangs_11 : decode cX0_hangs 11 = .ok (.iload_n 2, 1) := by decide +kernel
theorem dX0_hangs_12 : decode cX0_hangs 12 = .ok (.invokevirtual 33, 3) := by decide +kernel
theorem dX0_hangs_15 : decode cX0_hangs 15 = .ok (.iload_n 1, 1) := by decide +kernel
theorem dX0_hangs_16 : decode cX0_hangs 16 = .ok (.if_icmp .ne 5, 3) := by decide +kernel
theorem dX0_hangs_19 : decode cX0_hangs 19 = .ok (.iconst 1, 1) := by decide +kernel
theorem dX0_hangs_20 : decode cX0_hangs 20 = .ok (.ireturn, 1) := by decide +kernel
theorem dX0_hangs_21 : decode cX0_hangs 21 = .ok (.iinc 2 1, 3) := by decide +kernel
theorem dX0_hangs_24 : decode cX0_hangs 24 = .ok (.goto (-22), 3) := by decide +kernel
theorem dX0_hangs_27 : decode cX0_hangs 27 = .ok (.iconst 0, 1) := by decide +kernel
theorem dX0_hangs_28 : decode cX0_hangs 28 = .ok (.ireturn, 1) := by decide +kernel
set_option maxRecDepth 20000 in
theorem ggX0_placeOf_X0_hangs : GoodIn wsX0_placeOf wsX0_hangs := goodIn_r _ [5, 6, 7, 8, 9, 4, 10, 11, 25, 26, 27, 28] (by decide +kernel) (by decide +kernel)
set_option maxRecDepth 20000 in
theorem gX0_placeOf_X0_hangs : GoodIn wsX0_placeOf (wsV RX0 50 RX0 yX0_hangs wsX0_hangs) := goodIn_app (goodIn_of _ (by decide +kernel)) ggX0_placeOf_X0_hangs
set_option maxRecDepth 20000 in
theorem ggX0_placeOf_X0_openHook : GoodIn wsX0_placeOf wsX0_openHook := goodIn_r _ [15, 16, 17, 18, 4, 19, 6, 20, 21, 22, 23, 24, 7, 8, 9, 10, 11, 25, 26, 27, 28] (by decide +kernel) (by decide +kernel)
set_option maxRecDepth 20000 in
theorem gX0_placeOf_X0_openHook : GoodIn wsX0_placeOf (wsV RX0 54 RX0 yX0_openHook wsX0_openHook) := goodIn_app (goodIn_of _ (by decide +kernel)) ggX0_placeOf_X0_openHook
theorem dX0_placeOf_0 : decode cX0_placeOf 0 = .ok (.aload_n 0, 1) := by decide +kernel
theorem dX0_placeOf_1 : decode cX0_placeOf 1 = .ok (.iload_n 1, 1) := by decide +kernel
theorem dX0_placeOf_2 : decode cX0_placeOf 2 = .ok (.invokevirtual 50, 3) := by decide +kernel
theorem dX0_placeOf_5 : decode cX0_placeOf 5 = .ok (.ifCond .eq 7, 3) := by decide +kernel
theorem dX0_placeOf_8 : decode cX0_placeOf 8 = .ok (.iconst (-1), 1) := by decide +kernel
theorem dX0_placeOf_9 : decode cX0_placeOf 9 = .ok (.goto 8, 3) := by decide +kernel
theorem dX0_placeOf_12 : decode cX0_placeOf 12 = .ok (.aload_n 0, 1) := by decide +kernel
theorem dX0_placeOf_13 : decode cX0_placeOf 13 = .ok (.iload_n 1, 1) := by decide +kernel
theorem dX0_placeOf_14 : decode cX0_placeOf 14 = .ok (.invokevirtual 54, 3) := by decide +kernel
theorem dX0_placeOf_17 : decode cX0_placeOf 17 = .ok (.ireturn, 1) := by decide +kernel
set_option maxRecDepth 20000 in
theorem ggX0_openHook_X0_countLooks : GoodIn wsX0_openHook wsX0_countLooks := goodIn_r _ [5, 6, 7, 8, 9, 4, 10, 11, 12, 13, 14, 15, 16, 17, 18, 19, 20] (by decide +kernel) (by decide +kernel)
set_option maxRecDepth 20000 in
theorem gX0_openHook_X0_countLooks : GoodIn wsX0_openHook (wsV RX0 47 RX0 yX0_countLooks wsX0_countLooks) := goodIn_app (goodIn_of _ (by decide +kernel)) ggX0_openHook_X0_countLooks
set_option maxRecDepth 20000 in
theorem ggX0_openHook_X0_hookInStep : GoodIn wsX0_openHook wsX0_hookInStep := goodIn_r _ [10, 6, 11, 17, 18, 19, 20] (by decide +kernel) (by decide +kernel)
set_option maxRecDepth 20000 in
theorem gX0_openHook_X0_hookInStep : GoodIn wsX0_openHook (wsV RX0 43 RX0 yX0_hookInStep wsX0_hookInStep) := goodIn_app (goodIn_of _ (by decide +kernel)) ggX0_openHook_X0_hookInStep
set_option maxRecDepth 20000 in
theorem ggX0_openHook_X0_heldOn : GoodIn wsX0_openHook wsX0_heldOn := goodIn_r _ [15, 6, 16, 17, 18, 19, 20] (by decide +kernel) (by decide +kernel)
set_option maxRecDepth 20000 in
theorem gX0_openHook_X0_heldOn : GoodIn wsX0_openHook (wsV RX0 33 RX0 yX0_heldOn wsX0_heldOn) := goodIn_app (goodIn_of _ (by decide +kernel)) ggX0_openHook_X0_heldOn
theorem dX0_openHook_0 : decode cX0_openHook 0 = .ok (.aload_n 0, 1) := by decide +kernel
theorem dX0_openHook_1 : decode cX0_openHook 1 = .ok (.iload_n 1, 1) := by decide +kernel
theorem dX0_openHook_2 : decode cX0_openHook 2 = .ok (.invokevirtual 47, 3) := by decide +kernel
theorem dX0_openHook_5 : decode cX0_openHook 5 = .ok (.istore_n 2, 1) := by decide +kernel
theorem dX0_openHook_6 : decode cX0_openHook 6 = .ok (.iconst 0, 1) := by decide +kernel
theorem dX0_openHook_7 : decode cX0_openHook 7 = .ok (.istore_n 3, 1) := by decide +kernel
theorem dX0_openHook_8 : decode cX0_openHook 8 = .ok (.iload_n 3, 1) := by decide +kernel
theorem dX0_openHook_9 : decode cX0_openHook 9 = .ok (.iload_n 2, 1) := by decide +kernel
theorem dX0_openHook_10 : decode cX0_openHook 10 = .ok (.if_icmp .ge 31, 3) := by decide +kernel
theorem dX0_openHook_13 : decode cX0_openHook 13 = .ok (.aload_n 0, 1) := by decide +kernel
theorem dX0_openHook_14 : decode cX0_openHook 14 = .ok (.iload_n 1, 1) := by decide +kernel
theorem dX0_openHook_15 : decode cX0_openHook 15 = .ok (.iload_n 3, 1) := by decide +kernel
theorem dX0_openHook_16 : decode cX0_openHook 16 = .ok (.invokevirtual 43, 3) := by decide +kernel
theorem dX0_openHook_19 : decode cX0_openHook 19 = .ok (.istore 4, 2) := by decide +kernel
theorem dX0_openHook_21 : decode cX0_openHook 21 = .ok (.aload_n 0, 1) := by decide +kernel
theorem dX0_openHook_22 : decode cX0_openHook 22 = .ok (.iload 4, 2) := by decide +kernel
theorem dX0_openHook_24 : decode cX0_openHook 24 = .ok (.invokevirtual 33, 3) := by decide +kernel
theorem dX0_openHook_27 : decode cX0_openHook 27 = .ok (.bipush (-2), 2) := by decide +kernel
theorem dX0_openHook_29 : decode cX0_openHook 29 = .ok (.if_icmp .ne 6, 3) := by decide +kernel
theorem dX0_openHook_32 : decode cX0_openHook 32 = .ok (.iload 4, 2) := by decide +kernel
theorem dX0_openHook_34 : decode cX0_openHook 34 = .ok (.ireturn, 1) := by decide +kernel
theorem dX0_openHook_35 : decode cX0_openHook 35 = .ok (.iinc 3 1, 3) := by decide +kernel
theorem dX0_openHook_38 : decode cX0_openHook 38 = .ok (.goto (-30), 3) := by decide +kernel
theorem dX0_openHook_41 : decode cX0_openHook 41 = .ok (.aload_n 0, 1) := by decide +kernel
theorem dX0_openHook_42 : decode cX0_openHook 42 = .ok (.iload_n 1, 1) := by decide +kernel
theorem dX0_openHook_43 : decode cX0_openHook 43 = .ok (.iload_n 2, 1) := by decide +kernel
theorem dX0_openHook_44 : decode cX0_openHook 44 = .ok (.iconst 1, 1) := by decide +kernel
theorem dX0_openHook_45 : decode cX0_openHook 45 = .ok (.isub, 1) := by decide +kernel
theorem dX0_openHook_46 : decode cX0_openHook 46 = .ok (.invokevirtual 43, 3) := by decide +kernel
theorem dX0_openHook_49 : decode cX0_openHook 49 = .ok (.istore_n 3, 1) := by decide +kernel
theorem dX0_openHook_50 : decode cX0_openHook 50 = .ok (.aload_n 0, 1) := by decide +kernel
theorem dX0_openHook_51 : decode cX0_openHook 51 = .ok (.iload_n 3, 1) := by decide +kernel
theorem dX0_openHook_52 : decode cX0_openHook 52 = .ok (.invokevirtual 33, 3) := by decide +kernel
theorem dX0_openHook_55 : decode cX0_openHook 55 = .ok (.iconst (-1), 1) := by decide +kernel
theorem dX0_openHook_56 : decode cX0_openHook 56 = .ok (.if_icmp .ne 7, 3) := by decide +kernel
theorem dX0_openHook_59 : decode cX0_openHook 59 = .ok (.iload_n 3, 1) := by decide +kernel
theorem dX0_openHook_60 : decode cX0_openHook 60 = .ok (.goto 4, 3) := by decide +kernel
theorem dX0_openHook_63 : decode cX0_openHook 63 = .ok (.iconst (-1), 1) := by decide +kernel
theorem dX0_openHook_64 : decode cX0_openHook 64 = .ok (.ireturn, 1) := by decide +kernel
set_option maxRecDepth 20000 in
theorem ggX0_looksForAll_X0_heldOn : GoodIn wsX0_looksForAll wsX0_heldOn := goodIn_r _ [6, 1, 7, 17, 18, 19, 20] (by decide +kernel) (by decide +kernel)
set_option maxRecDepth 20000 in
theorem gX0_looksForAll_X0_heldOn : GoodIn wsX0_looksForAll (wsV RX0 33 RX0 yX0_heldOn wsX0_heldOn) := goodIn_app (goodIn_of _ (by decide +kernel)) ggX0_looksForAll_X0_heldOn
set_option maxRecDepth 20000 in
theorem ggX0_looksForAll_X0_countLooks : GoodIn wsX0_looksForAll wsX0_countLooks := goodIn_r _ [11, 1, 12, 13, 14, 5, 15, 16, 2, 3, 4, 6, 7, 17, 18, 19, 20] (by decide +kernel) (by decide +kernel)
set_option maxRecDepth 20000 in
theorem gX0_looksForAll_X0_countLooks : GoodIn wsX0_looksForAll (wsV RX0 47 RX0 yX0_countLooks wsX0_countLooks) := goodIn_app (goodIn_of _ (by decide +kernel)) ggX0_looksForAll_X0_countLooks
theorem dX0_looksForAll_0 : decode cX0_looksForAll 0 = .ok (.iconst 0, 1) := by decide +kernel
theorem dX0_looksForAll_1 : decode cX0_looksForAll 1 = .ok (.istore_n 1, 1) := by decide +kernel
theorem dX0_looksForAll_2 : decode cX0_looksForAll 2 = .ok (.iconst 0, 1) := by decide +kernel
theorem dX0_looksForAll_3 : decode cX0_looksForAll 3 = .ok (.istore_n 2, 1) := by decide +kernel
theorem dX0_looksForAll_4 : decode cX0_looksForAll 4 = .ok (.iload_n 2, 1) := by decide +kernel
theorem dX0_looksForAll_5 : decode cX0_looksForAll 5 = .ok (.aload_n 0, 1) := by decide +kernel
theorem dX0_looksForAll_6 : decode cX0_looksForAll 6 = .ok (.getfield 22, 3) := by decide +kernel
theorem dX0_looksForAll_9 : decode cX0_looksForAll 9 = .ok (.if_icmp .ge 27, 3) := by decide +kernel
theorem dX0_looksForAll_12 : decode cX0_looksForAll 12 = .ok (.aload_n 0, 1) := by decide +kernel
theorem dX0_looksForAll_13 : decode cX0_looksForAll 13 = .ok (.iload_n 2, 1) := by decide +kernel
theorem dX0_looksForAll_14 : decode cX0_looksForAll 14 = .ok (.invokevirtual 33, 3) := by decide +kernel
theorem dX0_looksForAll_17 : decode cX0_looksForAll 17 = .ok (.istore_n 3, 1) := by decide +kernel
theorem dX0_looksForAll_18 : decode cX0_looksForAll 18 = .ok (.iload_n 3, 1) := by decide +kernel
theorem dX0_looksForAll_19 : decode cX0_looksForAll 19 = .ok (.ifCond .lt 11, 3) := by decide +kernel
theorem dX0_looksForAll_22 : decode cX0_looksForAll 22 = .ok (.iload_n 1, 1) := by decide +kernel
theorem dX0_looksForAll_23 : decode cX0_looksForAll 23 = .ok (.aload_n 0, 1) := by decide +kernel
theorem dX0_looksForAll_24 : decode cX0_looksForAll 24 = .ok (.iload_n 3, 1) := by decide +kernel
theorem dX0_looksForAll_25 : decode cX0_looksForAll 25 = .ok (.invokevirtual 47, 3) := by decide +kernel
theorem dX0_looksForAll_28 : decode cX0_looksForAll 28 = .ok (.iadd, 1) := by decide +kernel
theorem dX0_looksForAll_29 : decode cX0_looksForAll 29 = .ok (.istore_n 1, 1) := by decide +kernel
theorem dX0_looksForAll_30 : decode cX0_looksForAll 30 = .ok (.iinc 2 1, 3) := by decide +kernel
theorem dX0_looksForAll_33 : decode cX0_looksForAll 33 = .ok (.goto (-29), 3) := by decide +kernel
theorem dX0_looksForAll_36 : decode cX0_looksForAll 36 = .ok (.iload_n 1, 1) := by decide +kernel
theorem dX0_looksForAll_37 : decode cX0_looksForAll 37 = .ok (.ireturn, 1) := by decide +kernel
set_option maxRecDepth 20000 in
theorem ggX0_coatWithMostLooks_X0_heldOn : GoodIn wsX0_coatWithMostLooks wsX0_heldOn := goodIn_r _ [6, 1, 7, 17, 18, 19, 20] (by decide +kernel) (by decide +kernel)
set_option maxRecDepth 20000 in
theorem gX0_coatWithMostLooks_X0_heldOn : GoodIn wsX0_coatWithMostLooks (wsV RX0 33 RX0 yX0_heldOn wsX0_heldOn) := goodIn_app (goodIn_of _ (by decide +kernel)) ggX0_coatWithMostLooks_X0_heldOn
set_option maxRecDepth 20000 in
theorem ggX0_coatWithMostLooks_X0_countLooks : GoodIn wsX0_coatWithMostLooks wsX0_countLooks := goodIn_r _ [11, 1, 12, 13, 14, 5, 15, 16, 2, 3, 4, 6, 7, 17, 18, 19, 20] (by decide +kernel) (by decide +kernel)
set_option maxRecDepth 20000 in
theorem gX0_coatWithMostLooks_X0_countLooks : GoodIn wsX0_coatWithMostLooks (wsV RX0 47 RX0 yX0_countLooks wsX0_countLooks) := goodIn_app (goodIn_of _ (by decide +kernel)) ggX0_coatWithMostLooks_X0_countLooks
theorem dX0_coatWithMostLooks_0 : decode cX0_coatWithMostLooks 0 = .ok (.iconst (-1), 1) := by decide +kernel
theorem dX0_coatWithMostLooks_1 : decode cX0_coatWithMostLooks 1 = .ok (.istore_n 1, 1) := by decide +kernel
theorem dX0_coatWithMostLooks_2 : decode cX0_coatWithMostLooks 2 = .ok (.iconst 0, 1) := by decide +kernel
theorem dX0_coatWithMostLooks_3 : decode cX0_coatWithMostLooks 3 = .ok (.istore_n 2, 1) := by decide +kernel
theorem dX0_coatWithMostLooks_4 : decode cX0_coatWithMostLooks 4 = .ok (.iconst 0, 1) := by decide +kernel
theorem dX0_coatWithMostLooks_5 : decode cX0_coatWithMostLooks 5 = .ok (.istore_n 3, 1) := by decide +kernel
theorem dX0_coatWithMostLooks_6 : decode cX0_coatWithMostLooks 6 = .ok (.iload_n 3, 1) := by decide +kernel
theorem dX0_coatWithMostLooks_7 : decode cX0_coatWithMostLooks 7 = .ok (.aload_n 0, 1) := by decide +kernel
theorem dX0_coatWithMostLooks_8 : decode cX0_coatWithMostLooks 8 = .ok (.getfield 22, 3) := by decide +kernel
theorem dX0_coatWithMostLooks_11 : decode cX0_coatWithMostLooks 11 = .ok (.if_icmp .ge 45, 3) := by decide +kernel
theorem dX0_coatWithMostLooks_14 : decode cX0_coatWithMostLooks 14 = .ok (.aload_n 0, 1) := by decide +kernel
theorem dX0_coatWithMostLooks_15 : decode cX0_coatWithMostLooks 15 = .ok (.iload_n 3, 1) := by decide +kernel
theorem dX0_coatWithMostLooks_16 : decode cX0_coatWithMostLooks 16 = .ok (.invokevirtual 33, 3) := by decide +kernel
theorem dX0_coatWithMostLooks_19 : decode cX0_coatWithMostLooks 19 = .ok (.istore 4, 2) := by decide +kernel
theorem dX0_coatWithMostLooks_21 : decode cX0_coatWithMostLooks 21 = .ok (.iload 4, 2) := by decide +kernel
theorem dX0_coatWithMostLooks_23 : decode cX0_coatWithMostLooks 23 = .ok (.ifCond .lt 12, 3) := by decide +kernel
theorem dX0_coatWithMostLooks_26 : decode cX0_coatWithMostLooks 26 = .ok (.aload_n 0, 1) := by decide +kernel
theorem dX0_coatWithMostLooks_27 : decode cX0_coatWithMostLooks 27 = .ok (.iload 4, 2) := by decide +kernel
theorem dX0_coatWithMostLooks_29 : decode cX0_coatWithMostLooks 29 = .ok (.invokevirtual 47, 3) := by decide +kernel
theorem dX0_coatWithMostLooks_32 : decode cX0_coatWithMostLooks 32 = .ok (.goto 4, 3) := by decide +kernel
theorem dX0_coatWithMostLooks_35 : decode cX0_coatWithMostLooks 35 = .ok (.iconst 0, 1) := by decide +kernel
theorem dX0_coatWithMostLooks_36 : decode cX0_coatWithMostLooks 36 = .ok (.istore 5, 2) := by decide +kernel
theorem dX0_coatWithMostLooks_38 : decode cX0_coatWithMostLooks 38 = .ok (.iload 5, 2) := by decide +kernel
theorem dX0_coatWithMostLooks_40 : decode cX0_coatWithMostLooks 40 = .ok (.iload_n 2, 1) := by decide +kernel
theorem dX0_coatWithMostLooks_41 : decode cX0_coatWithMostLooks 41 = .ok (.if_icmp .le 9, 3) := by decide +kernel
theorem dX0_coatWithMostLooks_44 : decode cX0_coatWithMostLooks 44 = .ok (.iload 4, 2) := by decide +kernel
theorem dX0_coatWithMostLooks_46 : decode cX0_coatWithMostLooks 46 = .ok (.istore_n 1, 1) := by decide +kernel
theorem dX0_coatWithMostLooks_47 : decode cX0_coatWithMostLooks 47 = .ok (.iload 5, 2) := by decide +kernel
theorem dX0_coatWithMostLooks_49 : decode cX0_coatWithMostLooks 49 = .ok (.istore_n 2, 1) := by decide +kernel
theorem dX0_coatWithMostLooks_50 : decode cX0_coatWithMostLooks 50 = .ok (.iinc 3 1, 3) := by decide +kernel
theorem dX0_coatWithMostLooks_53 : decode cX0_coatWithMostLooks 53 = .ok (.goto (-47), 3) := by decide +kernel
theorem dX0_coatWithMostLooks_56 : decode cX0_coatWithMostLooks 56 = .ok (.iload_n 1, 1) := by decide +kernel
theorem dX0_coatWithMostLooks_57 : decode cX0_coatWithMostLooks 57 = .ok (.ireturn, 1) := by decide +kernel
theorem dX0_behind_0 : decode cX0_behind 0 = .ok (.iload_n 1, 1) := by decide +kernel
theorem dX0_behind_1 : decode cX0_behind 1 = .ok (.iconst 1, 1) := by decide +kernel
theorem dX0_behind_2 : decode cX0_behind 2 = .ok (.iadd, 1) := by decide +kernel
theorem dX0_behind_3 : decode cX0_behind 3 = .ok (.aload_n 0, 1) := by decide +kernel
theorem dX0_behind_4 : decode cX0_behind 4 = .ok (.getfield 22, 3) := by decide +kernel
theorem dX0_behind_7 : decode cX0_behind 7 = .ok (.if_icmp .ge 9, 3) := by decide +kernel
theorem dX0_behind_10 : decode cX0_behind 10 = .ok (.iload_n 1, 1) := by decide +kernel
theorem dX0_behind_11 : decode cX0_behind 11 = .ok (.iconst 1, 1) := by decide +kernel
theorem dX0_behind_12 : decode cX0_behind 12 = .ok (.iadd, 1) := by decide +kernel
theorem dX0_behind_13 : decode cX0_behind 13 = .ok (.goto 4, 3) := by decide +kernel
theorem dX0_behind_16 : decode cX0_behind 16 = .ok (.iconst 0, 1) := by decide +kernel
theorem dX0_behind_17 : decode cX0_behind 17 = .ok (.ireturn, 1) := by decide +kernel
theorem dX0_before_0 : decode cX0_before 0 = .ok (.iload_n 1, 1) := by decide +kernel
theorem dX0_before_1 : decode cX0_before 1 = .ok (.ifCond .le 9, 3) := by decide +kernel
theorem dX0_before_4 : decode cX0_before 4 = .ok (.iload_n 1, 1) := by decide +kernel
theorem dX0_before_5 : decode cX0_before 5 = .ok (.iconst 1, 1) := by decide +kernel
theorem dX0_before_6 : decode cX0_before 6 = .ok (.isub, 1) := by decide +kernel
theorem dX0_before_7 : decode cX0_before 7 = .ok (.goto 9, 3) := by decide +kernel
theorem dX0_before_10 : decode cX0_before 10 = .ok (.aload_n 0, 1) := by decide +kernel
theorem dX0_before_11 : decode cX0_before 11 = .ok (.getfield 22, 3) := by decide +kernel
theorem dX0_before_14 : decode cX0_before 14 = .ok (.iconst 1, 1) := by decide +kernel
theorem dX0_before_15 : decode cX0_before 15 = .ok (.isub, 1) := by decide +kernel
theorem dX0_before_16 : decode cX0_before 16 = .ok (.ireturn, 1) := by decide +kernel
set_option maxRecDepth 20000 in
theorem ggX0_freeAll_X0_clear : GoodIn wsX0_freeAll wsX0_clear := goodIn_r _ [7, 1, 2, 8, 9, 10, 11, 6, 12, 13, 14, 15, 16, 17] (by decide +kernel) (by decide +kernel)
set_option maxRecDepth 20000 in
theorem gX0_freeAll_X0_clear : GoodIn wsX0_freeAll (wsV RX0 18 RX0 yX0_clear wsX0_clear) := goodIn_app (goodIn_of _ (by decide +kernel)) ggX0_freeAll_X0_clear
theorem dX0_freeAll_0 : decode cX0_freeAll 0 = .ok (.aload_n 0, 1) := by decide +kernel
theorem dX0_freeAll_1 : decode cX0_freeAll 1 = .ok (.getfield 22, 3) := by decide +kernel
theorem dX0_freeAll_4 : decode cX0_freeAll 4 = .ok (.istore_n 1, 1) := by decide +kernel
theorem dX0_freeAll_5 : decode cX0_freeAll 5 = .ok (.aload_n 0, 1) := by decide +kernel
theorem dX0_freeAll_6 : decode cX0_freeAll 6 = .ok (.aload_n 0, 1) := by decide +kernel
theorem dX0_freeAll_7 : decode cX0_freeAll 7 = .ok (.getfield 22, 3) := by decide +kernel
theorem dX0_freeAll_10 : decode cX0_freeAll 10 = .ok (.aload_n 0, 1) := by decide +kernel
theorem dX0_freeAll_11 : decode cX0_freeAll 11 = .ok (.getfield 26, 3) := by decide +kernel
theorem dX0_freeAll_14 : decode cX0_freeAll 14 = .ok (.invokevirtual 18, 3) := by decide +kernel
theorem dX0_freeAll_17 : decode cX0_freeAll 17 = .ok (.iload_n 1, 1) := by decide +kernel
theorem dX0_freeAll_18 : decode cX0_freeAll 18 = .ok (.ireturn, 1) := by decide +kernel
set_option maxRecDepth 20000 in
theorem ggX0_freeSweptTickets_X0_heldOn : GoodIn wsX0_freeSweptTickets wsX0_heldOn := goodIn_r _ [6, 1, 7, 21, 22, 23, 24] (by decide +kernel) (by decide +kernel)
set_option maxRecDepth 20000 in
theorem gX0_freeSweptTickets_X0_heldOn : GoodIn wsX0_freeSweptTickets (wsV RX0 33 RX0 yX0_heldOn wsX0_heldOn) := goodIn_app (goodIn_of _ (by decide +kernel)) ggX0_freeSweptTickets_X0_heldOn
set_option maxRecDepth 20000 in
theorem ggX0_freeSweptTickets_X0_behind : GoodIn wsX0_freeSweptTickets wsX0_behind := goodIn_r _ [11, 1, 21, 22, 23, 24] (by decide +kernel) (by decide +kernel)
set_option maxRecDepth 20000 in
theorem gX0_freeSweptTickets_X0_behind : GoodIn wsX0_freeSweptTickets (wsV RX0 57 RX0 yX0_behind wsX0_behind) := goodIn_app (goodIn_of _ (by decide +kernel)) ggX0_freeSweptTickets_X0_behind
set_option maxRecDepth 20000 in
theorem ggX0_freeSweptTickets_X0_put : GoodIn wsX0_freeSweptTickets wsX0_put := goodIn_r _ [15, 7, 16, 21, 22, 23, 24] (by decide +kernel) (by decide +kernel)
set_option maxRecDepth 20000 in
theorem gX0_freeSweptTickets_X0_put : GoodIn wsX0_freeSweptTickets (wsV RX0 29 RX0 yX0_put wsX0_put) := goodIn_app (goodIn_of _ (by decide +kernel)) ggX0_freeSweptTickets_X0_put
set_option maxRecDepth 20000 in
theorem ggX0_freeSweptTickets_X0_before : GoodIn wsX0_freeSweptTickets wsX0_before := goodIn_r _ [20, 1, 21, 22, 23, 24] (by decide +kernel) (by decide +kernel)
set_option maxRecDepth 20000 in
theorem gX0_freeSweptTickets_X0_before : GoodIn wsX0_freeSweptTickets (wsV RX0 60 RX0 yX0_before wsX0_before) := goodIn_app (goodIn_of _ (by decide +kernel)) ggX0_freeSweptTickets_X0_before
theorem dX0_freeSweptTickets_0 : decode cX0_freeSweptTickets 0 = .ok (.iconst 0, 1) := by decide +kernel
theorem dX0_freeSweptTickets_1 : decode cX0_freeSweptTickets 1 = .ok (.istore_n 1, 1) := by decide +kernel
theorem dX0_freeSweptTickets_2 : decode cX0_freeSweptTickets 2 = .ok (.aload_n 0, 1) := by decide +kernel
theorem dX0_freeSweptTickets_3 : decode cX0_freeSweptTickets 3 = .ok (.getfield 22, 3) := by decide +kernel
theorem dX0_freeSweptTickets_6 : decode cX0_freeSweptTickets 6 = .ok (.iconst 1, 1) := by decide +kernel
theorem dX0_freeSweptTickets_7 : decode cX0_freeSweptTickets 7 = .ok (.isub, 1) := by decide +kernel
theorem dX0_freeSweptTickets_8 : decode cX0_freeSweptTickets 8 = .ok (.istore_n 2, 1) := by decide +kernel
theorem dX0_freeSweptTickets_9 : decode cX0_freeSweptTickets 9 = .ok (.iconst 0, 1) := by decide +kernel
theorem dX0_freeSweptTickets_10 : decode cX0_freeSweptTickets 10 = .ok (.istore_n 3, 1) := by decide +kernel
theorem dX0_freeSweptTickets_11 : decode cX0_freeSweptTickets 11 = .ok (.iload_n 3, 1) := by decide +kernel
theorem dX0_freeSweptTickets_12 : decode cX0_freeSweptTickets 12 = .ok (.iconst 2, 1) := by decide +kernel
theorem dX0_freeSweptTickets_13 : decode cX0_freeSweptTickets 13 = .ok (.aload_n 0, 1) := by decide +kernel
theorem dX0_freeSweptTickets_14 : decode cX0_freeSweptTickets 14 = .ok (.getfield 22, 3) := by decide +kernel
theorem dX0_freeSweptTickets_17 : decode cX0_freeSweptTickets 17 = .ok (.imul, 1) := by decide +kernel
theorem dX0_freeSweptTickets_18 : decode cX0_freeSweptTickets 18 = .ok (.if_icmp .ge 48, 3) := by decide +kernel
theorem dX0_freeSweptTickets_21 : decode cX0_freeSweptTickets 21 = .ok (.aload_n 0, 1) := by decide +kernel
theorem dX0_freeSweptTickets_22 : decode cX0_freeSweptTickets 22 = .ok (.iload_n 2, 1) := by decide +kernel
theorem dX0_freeSweptTickets_23 : decode cX0_freeSweptTickets 23 = .ok (.invokevirtual 33, 3) := by decide +kernel
theorem dX0_freeSweptTickets_26 : decode cX0_freeSweptTickets 26 = .ok (.bipush (-2), 2) := by decide +kernel
theorem dX0_freeSweptTickets_28 : decode cX0_freeSweptTickets 28 = .ok (.if_icmp .ne 26, 3) := by decide +kernel
theorem dX0_freeSweptTickets_31 : decode cX0_freeSweptTickets 31 = .ok (.aload_n 0, 1) := by decide +kernel
theorem dX0_freeSweptTickets_32 : decode cX0_freeSweptTickets 32 = .ok (.aload_n 0, 1) := by decide +kernel
theorem dX0_freeSweptTickets_33 : decode cX0_freeSweptTickets 33 = .ok (.iload_n 2, 1) := by decide +kernel
theorem dX0_freeSweptTickets_34 : decode cX0_freeSweptTickets 34 = .ok (.invokevirtual 57, 3) := by decide +kernel
theorem dX0_freeSweptTickets_37 : decode cX0_freeSweptTickets 37 = .ok (.invokevirtual 33, 3) := by decide +kernel
theorem dX0_freeSweptTickets_40 : decode cX0_freeSweptTickets 40 = .ok (.iconst (-1), 1) := by decide +kernel
theorem dX0_freeSweptTickets_41 : decode cX0_freeSweptTickets 41 = .ok (.if_icmp .ne 13, 3) := by decide +kernel
theorem dX0_freeSweptTickets_44 : decode cX0_freeSweptTickets 44 = .ok (.aload_n 0, 1) := by decide +kernel
theorem dX0_freeSweptTickets_45 : decode cX0_freeSweptTickets 45 = .ok (.iload_n 2, 1) := by decide +kernel
theorem dX0_freeSweptTickets_46 : decode cX0_freeSweptTickets 46 = .ok (.iconst (-1), 1) := by decide +kernel
theorem dX0_freeSweptTickets_47 : decode cX0_freeSweptTickets 47 = .ok (.iconst 0, 1) := by decide +kernel
theorem dX0_freeSweptTickets_48 : decode cX0_freeSweptTickets 48 = .ok (.invokevirtual 29, 3) := by decide +kernel
theorem dX0_freeSweptTickets_51 : decode cX0_freeSweptTickets 51 = .ok (.iinc 1 1, 3) := by decide +kernel
theorem dX0_freeSweptTickets_54 : decode cX0_freeSweptTickets 54 = .ok (.aload_n 0, 1) := by decide +kernel
theorem dX0_freeSweptTickets_55 : decode cX0_freeSweptTickets 55 = .ok (.iload_n 2, 1) := by decide +kernel
theorem dX0_freeSweptTickets_56 : decode cX0_freeSweptTickets 56 = .ok (.invokevirtual 60, 3) := by decide +kernel
theorem dX0_freeSweptTickets_59 : decode cX0_freeSweptTickets 59 = .ok (.istore_n 2, 1) := by decide +kernel
theorem dX0_freeSweptTickets_60 : decode cX0_freeSweptTickets 60 = .ok (.iinc 3 1, 3) := by decide +kernel
theorem dX0_freeSweptTickets_63 : decode cX0_freeSweptTickets 63 = .ok (.goto (-52), 3) := by decide +kernel
theorem dX0_freeSweptTickets_66 : decode cX0_freeSweptTickets 66 = .ok (.iload_n 1, 1) := by decide +kernel
theorem dX0_freeSweptTickets_67 : decode cX0_freeSweptTickets 67 = .ok (.ireturn, 1) := by decide +kernel
set_option maxRecDepth 20000 in
theorem ggX0_rowLength_X0_heldOn : GoodIn wsX0_rowLength wsX0_heldOn := goodIn_r _ [6, 1, 7, 16, 17, 18, 19] (by decide +kernel) (by decide +kernel)
set_option maxRecDepth 20000 in
theorem gX0_rowLength_X0_heldOn : GoodIn wsX0_rowLength (wsV RX0 33 RX0 yX0_heldOn wsX0_heldOn) := goodIn_app (goodIn_of _ (by decide +kernel)) ggX0_rowLength_X0_heldOn
set_option maxRecDepth 20000 in
theorem ggX0_rowLength_X0_behind : GoodIn wsX0_rowLength wsX0_behind := goodIn_r _ [11, 1, 16, 17, 18, 19] (by decide +kernel) (by decide +kernel)
set_option maxRecDepth 20000 in
theorem gX0_rowLength_X0_behind : GoodIn wsX0_rowLength (wsV RX0 57 RX0 yX0_behind wsX0_behind) := goodIn_app (goodIn_of _ (by decide +kernel)) ggX0_rowLength_X0_behind
set_option maxRecDepth 20000 in
theorem ggX0_rowLength_X0_before : GoodIn wsX0_rowLength wsX0_before := goodIn_r _ [15, 1, 16, 17, 18, 19] (by decide +kernel) (by decide +kernel)
set_option maxRecDepth 20000 in
theorem gX0_rowLength_X0_before : GoodIn wsX0_rowLength (wsV RX0 60 RX0 yX0_before wsX0_before) := goodIn_app (goodIn_of _ (by decide +kernel)) ggX0_rowLength_X0_before
theorem dX0_rowLength_0 : decode cX0_rowLength 0 = .ok (.aload_n 0, 1) := by decide +kernel
theorem dX0_rowLength_1 : decode cX0_rowLength 1 = .ok (.iload_n 1, 1) := by decide +kernel
theorem dX0_rowLength_2 : decode cX0_rowLength 2 = .ok (.invokevirtual 33, 3) := by decide +kernel
theorem dX0_rowLength_5 : decode cX0_rowLength 5 = .ok (.iconst (-1), 1) := by decide +kernel
theorem dX0_rowLength_6 : decode cX0_rowLength 6 = .ok (.if_icmp .ne 5, 3) := by decide +kernel
theorem dX0_rowLength_9 : decode cX0_rowLength 9 = .ok (.iconst 0, 1) := by decide +kernel
theorem dX0_rowLength_10 : decode cX0_rowLength 10 = .ok (.ireturn, 1) := by decide +kernel
theorem dX0_rowLength_11 : decode cX0_rowLength 11 = .ok (.iconst 1, 1) := by decide +kernel
theorem dX0_rowLength_12 : decode cX0_rowLength 12 = .ok (.istore_n 2, 1) := by decide +kernel
theorem dX0_rowLength_13 : decode cX0_rowLength 13 = .ok (.aload_n 0, 1) := by decide +kernel
theorem dX0_rowLength_14 : decode cX0_rowLength 14 = .ok (.iload_n 1, 1) := by decide +kernel
theorem dX0_rowLength_15 : decode cX0_rowLength 15 = .ok (.invokevirtual 57, 3) := by decide +kernel
theorem dX0_rowLength_18 : decode cX0_rowLength 18 = .ok (.istore_n 3, 1) := by decide +kernel
theorem dX0_rowLength_19 : decode cX0_rowLength 19 = .ok (.iload_n 2, 1) := by decide +kernel
theorem dX0_rowLength_20 : decode cX0_rowLength 20 = .ok (.aload_n 0, 1) := by decide +kernel
theorem dX0_rowLength_21 : decode cX0_rowLength 21 = .ok (.getfield 22, 3) := by decide +kernel
theorem dX0_rowLength_24 : decode cX0_rowLength 24 = .ok (.if_icmp .ge 24, 3) := by decide +kernel
theorem dX0_rowLength_27 : decode cX0_rowLength 27 = .ok (.aload_n 0, 1) := by decide +kernel
theorem dX0_rowLength_28 : decode cX0_rowLength 28 = .ok (.iload_n 3, 1) := by decide +kernel
theorem dX0_rowLength_29 : decode cX0_rowLength 29 = .ok (.invokevirtual 33, 3) := by decide +kernel
theorem dX0_rowLength_32 : decode cX0_rowLength 32 = .ok (.iconst (-1), 1) := by decide +kernel
theorem dX0_rowLength_33 : decode cX0_rowLength 33 = .ok (.if_icmp .eq 15, 3) := by decide +kernel
theorem dX0_rowLength_36 : decode cX0_rowLength 36 = .ok (.iinc 2 1, 3) := by decide +kernel
theorem dX0_rowLength_39 : decode cX0_rowLength 39 = .ok (.aload_n 0, 1) := by decide +kernel
theorem dX0_rowLength_40 : decode cX0_rowLength 40 = .ok (.iload_n 3, 1) := by decide +kernel
theorem dX0_rowLength_41 : decode cX0_rowLength 41 = .ok (.invokevirtual 57, 3) := by decide +kernel
theorem dX0_rowLength_44 : decode cX0_rowLength 44 = .ok (.istore_n 3, 1) := by decide +kernel
theorem dX0_rowLength_45 : decode cX0_rowLength 45 = .ok (.goto (-26), 3) := by decide +kernel
theorem dX0_rowLength_48 : decode cX0_rowLength 48 = .ok (.aload_n 0, 1) := by decide +kernel
theorem dX0_rowLength_49 : decode cX0_rowLength 49 = .ok (.iload_n 1, 1) := by decide +kernel
theorem dX0_rowLength_50 : decode cX0_rowLength 50 = .ok (.invokevirtual 60, 3) := by decide +kernel
theorem dX0_rowLength_53 : decode cX0_rowLength 53 = .ok (.istore 4, 2) := by decide +kernel
theorem dX0_rowLength_55 : decode cX0_rowLength 55 = .ok (.iload_n 2, 1) := by decide +kernel
theorem dX0_rowLength_56 : decode cX0_rowLength 56 = .ok (.aload_n 0, 1) := by decide +kernel
theorem dX0_rowLength_57 : decode cX0_rowLength 57 = .ok (.getfield 22, 3) := by decide +kernel
theorem dX0_rowLength_60 : decode cX0_rowLength 60 = .ok (.if_icmp .ge 27, 3) := by decide +kernel
theorem dX0_rowLength_63 : decode cX0_rowLength 63 = .ok (.aload_n 0, 1) := by decide +kernel
theorem dX0_rowLength_64 : decode cX0_rowLength 64 = .ok (.iload 4, 2) := by decide +kernel
theorem dX0_rowLength_66 : decode cX0_rowLength 66 = .ok (.invokevirtual 33, 3) := by decide +kernel
theorem dX0_rowLength_69 : decode cX0_rowLength 69 = .ok (.iconst (-1), 1) := by decide +kernel
theorem dX0_rowLength_70 : decode cX0_rowLength 70 = .ok (.if_icmp .eq 17, 3) := by decide +kernel
theorem dX0_rowLength_73 : decode cX0_rowLength 73 = .ok (.iinc 2 1, 3) := by decide +kernel
theorem dX0_rowLength_76 : decode cX0_rowLength 76 = .ok (.aload_n 0, 1) := by decide +kernel
theorem dX0_rowLength_77 : decode cX0_rowLength 77 = .ok (.iload 4, 2) := by decide +kernel
theorem dX0_rowLength_79 : decode cX0_rowLength 79 = .ok (.invokevirtual 60, 3) := by decide +kernel
theorem dX0_rowLength_82 : decode cX0_rowLength 82 = .ok (.istore 4, 2) := by decide +kernel
theorem dX0_rowLength_84 : decode cX0_rowLength 84 = .ok (.goto (-29), 3) := by decide +kernel
theorem dX0_rowLength_87 : decode cX0_rowLength 87 = .ok (.iload_n 2, 1) := by decide +kernel
theorem dX0_rowLength_88 : decode cX0_rowLength 88 = .ok (.ireturn, 1) := by decide +kernel
set_option maxRecDepth 20000 in
theorem ggX0_rowCount_X0_heldOn : GoodIn wsX0_rowCount wsX0_heldOn := goodIn_r _ [6, 1, 7, 12, 13, 14, 15] (by decide +kernel) (by decide +kernel)
set_option maxRecDepth 20000 in
theorem gX0_rowCount_X0_heldOn : GoodIn wsX0_rowCount (wsV RX0 33 RX0 yX0_heldOn wsX0_heldOn) := goodIn_app (goodIn_of _ (by decide +kernel)) ggX0_rowCount_X0_heldOn
set_option maxRecDepth 20000 in
theorem ggX0_rowCount_X0_behind : GoodIn wsX0_rowCount wsX0_behind := goodIn_r _ [11, 1, 12, 13, 14, 15] (by decide +kernel) (by decide +kernel)
set_option maxRecDepth 20000 in
theorem gX0_rowCount_X0_behind : GoodIn wsX0_rowCount (wsV RX0 57 RX0 yX0_behind wsX0_behind) := goodIn_app (goodIn_of _ (by decide +kernel)) ggX0_rowCount_X0_behind
theorem dX0_rowCount_0 : decode cX0_rowCount 0 = .ok (.iconst 0, 1) := by decide +kernel
theorem dX0_rowCount_1 : decode cX0_rowCount 1 = .ok (.istore_n 1, 1) := by decide +kernel
theorem dX0_rowCount_2 : decode cX0_rowCount 2 = .ok (.iconst 0, 1) := by decide +kernel
theorem dX0_rowCount_3 : decode cX0_rowCount 3 = .ok (.istore_n 2, 1) := by decide +kernel
theorem dX0_rowCount_4 : decode cX0_rowCount 4 = .ok (.iconst 0, 1) := by decide +kernel
theorem dX0_rowCount_5 : decode cX0_rowCount 5 = .ok (.istore_n 3, 1) := by decide +kernel
theorem dX0_rowCount_6 : decode cX0_rowCount 6 = .ok (.iload_n 3, 1) := by decide +kernel
theorem dX0_rowCount_7 : decode cX0_rowCount 7 = .ok (.aload_n 0, 1) := by decide +kernel
theorem dX0_rowCount_8 : decode cX0_rowCount 8 = .ok (.getfield 22, 3) := by decide +kernel
theorem dX0_rowCount_11 : decode cX0_rowCount 11 = .ok (.if_icmp .ge 42, 3) := by decide +kernel
theorem dX0_rowCount_14 : decode cX0_rowCount 14 = .ok (.aload_n 0, 1) := by decide +kernel
theorem dX0_rowCount_15 : decode cX0_rowCount 15 = .ok (.iload_n 3, 1) := by decide +kernel
theorem dX0_rowCount_16 : decode cX0_rowCount 16 = .ok (.invokevirtual 33, 3) := by decide +kernel
theorem dX0_rowCount_19 : decode cX0_rowCount 19 = .ok (.iconst (-1), 1) := by decide +kernel
theorem dX0_rowCount_20 : decode cX0_rowCount 20 = .ok (.if_icmp .eq 27, 3) := by decide +kernel
theorem dX0_rowCount_23 : decode cX0_rowCount 23 = .ok (.iinc 2 1, 3) := by decide +kernel
theorem dX0_rowCount_26 : decode cX0_rowCount 26 = .ok (.iload_n 1, 1) := by decide +kernel
theorem dX0_rowCount_27 : decode cX0_rowCount 27 = .ok (.aload_n 0, 1) := by decide +kernel
theorem dX0_rowCount_28 : decode cX0_rowCount 28 = .ok (.aload_n 0, 1) := by decide +kernel
theorem dX0_rowCount_29 : decode cX0_rowCount 29 = .ok (.iload_n 3, 1) := by decide +kernel
theorem dX0_rowCount_30 : decode cX0_rowCount 30 = .ok (.invokevirtual 57, 3) := by decide +kernel
theorem dX0_rowCount_33 : decode cX0_rowCount 33 = .ok (.invokevirtual 33, 3) := by decide +kernel
theorem dX0_rowCount_36 : decode cX0_rowCount 36 = .ok (.iconst (-1), 1) := by decide +kernel
theorem dX0_rowCount_37 : decode cX0_rowCount 37 = .ok (.if_icmp .ne 7, 3) := by decide +kernel
theorem dX0_rowCount_40 : decode cX0_rowCount 40 = .ok (.iconst 1, 1) := by decide +kernel
theorem dX0_rowCount_41 : decode cX0_rowCount 41 = .ok (.goto 4, 3) := by decide +kernel
theorem dX0_rowCount_44 : decode cX0_rowCount 44 = .ok (.iconst 0, 1) := by decide +kernel
theorem dX0_rowCount_45 : decode cX0_rowCount 45 = .ok (.iadd, 1) := by decide +kernel
theorem dX0_rowCount_46 : decode cX0_rowCount 46 = .ok (.istore_n 1, 1) := by decide +kernel
theorem dX0_rowCount_47 : decode cX0_rowCount 47 = .ok (.iinc 3 1, 3) := by decide +kernel
theorem dX0_rowCount_50 : decode cX0_rowCount 50 = .ok (.goto (-44), 3) := by decide +kernel
theorem dX0_rowCount_53 : decode cX0_rowCount 53 = .ok (.iload_n 2, 1) := by decide +kernel
theorem dX0_rowCount_54 : decode cX0_rowCount 54 = .ok (.aload_n 0, 1) := by decide +kernel
theorem dX0_rowCount_55 : decode cX0_rowCount 55 = .ok (.getfield 22, 3) := by decide +kernel
theorem dX0_rowCount_58 : decode cX0_rowCount 58 = .ok (.if_icmp .ne 7, 3) := by decide +kernel
theorem dX0_rowCount_61 : decode cX0_rowCount 61 = .ok (.iconst 1, 1) := by decide +kernel
theorem dX0_rowCount_62 : decode cX0_rowCount 62 = .ok (.goto 4, 3) := by decide +kernel
theorem dX0_rowCount_65 : decode cX0_rowCount 65 = .ok (.iload_n 1, 1) := by decide +kernel
theorem dX0_rowCount_66 : decode cX0_rowCount 66 = .ok (.ireturn, 1) := by decide +kernel
set_option maxRecDepth 20000 in
theorem ggX0_longestRowLength_X0_rowLength : GoodIn wsX0_longestRowLength wsX0_rowLength := goodIn_r _ [6, 1, 7, 8, 9, 5, 10, 11, 12, 13, 14, 15, 16, 17, 18, 19, 20, 21, 22, 23] (by decide +kernel) (by decide +kernel)
set_option maxRecDepth 20000 in
theorem gX0_longestRowLength_X0_rowLength : GoodIn wsX0_longestRowLength (wsV RX0 63 RX0 yX0_rowLength wsX0_rowLength) := goodIn_app (goodIn_of _ (by decide +kernel)) ggX0_longestRowLength_X0_rowLength
theorem dX0_longestRowLength_0 : decode cX0_longestRowLength 0 = .ok (.iconst 0, 1) := by decide +kernel
theorem dX0_longestRowLength_1 : decode cX0_longestRowLength 1 = .ok (.istore_n 1, 1) := by decide +kernel
theorem dX0_longestRowLength_2 : decode cX0_longestRowLength 2 = .ok (.iconst 0, 1) := by decide +kernel
theorem dX0_longestRowLength_3 : decode cX0_longestRowLength 3 = .ok (.istore_n 2, 1) := by decide +kernel
theorem dX0_longestRowLength_4 : decode cX0_longestRowLength 4 = .ok (.iload_n 2, 1) := by decide +kernel
theorem dX0_longestRowLength_5 : decode cX0_longestRowLength 5 = .ok (.aload_n 0, 1) := by decide +kernel
theorem dX0_longestRowLength_6 : decode cX0_longestRowLength 6 = .ok (.getfield 22, 3) := by decide +kernel
theorem dX0_longestRowLength_9 : decode cX0_longestRowLength 9 = .ok (.if_icmp .ge 26, 3) := by decide +kernel
theorem dX0_longestRowLength_12 : decode cX0_longestRowLength 12 = .ok (.aload_n 0, 1) := by decide +kernel
theorem dX0_longestRowLength_13 : decode cX0_longestRowLength 13 = .ok (.iload_n 2, 1) := by decide +kernel
theorem dX0_longestRowLength_14 : decode cX0_longestRowLength 14 = .ok (.invokevirtual 63, 3) := by decide +kernel
theorem dX0_longestRowLength_17 : decode cX0_longestRowLength 17 = .ok (.istore_n 3, 1) := by decide +kernel
theorem dX0_longestRowLength_18 : decode cX0_longestRowLength 18 = .ok (.iload_n 3, 1) := by decide +kernel
theorem dX0_longestRowLength_19 : decode cX0_longestRowLength 19 = .ok (.iload_n 1, 1) := by decide +kernel
theorem dX0_longestRowLength_20 : decode cX0_longestRowLength 20 = .ok (.if_icmp .le 7, 3) := by decide +kernel
theorem dX0_longestRowLength_23 : decode cX0_longestRowLength 23 = .ok (.iload_n 3, 1) := by decide +kernel
theorem dX0_longestRowLength_24 : decode cX0_longestRowLength 24 = .ok (.goto 4, 3) := by decide +kernel
theorem dX0_longestRowLength_27 : decode cX0_longestRowLength 27 = .ok (.iload_n 1, 1) := by decide +kernel
theorem dX0_longestRowLength_28 : decode cX0_longestRowLength 28 = .ok (.istore_n 1, 1) := by decide +kernel
theorem dX0_longestRowLength_29 : decode cX0_longestRowLength 29 = .ok (.iinc 2 1, 3) := by decide +kernel
theorem dX0_longestRowLength_32 : decode cX0_longestRowLength 32 = .ok (.goto (-28), 3) := by decide +kernel
theorem dX0_longestRowLength_35 : decode cX0_longestRowLength 35 = .ok (.iload_n 1, 1) := by decide +kernel
theorem dX0_longestRowLength_36 : decode cX0_longestRowLength 36 = .ok (.ireturn, 1) := by decide +kernel
set_option maxRecDepth 20000 in
theorem ggX1_init_X0_init : GoodIn wsX1_init wsX0_init := goodIn_r _ [11, 12, 2, 3, 13, 14, 15, 16, 17, 18, 6, 19, 20, 21, 22, 23, 24, 25, 26, 27, 28, 29] (by decide +kernel) (by decide +kernel)
set_option maxRecDepth 20000 in
theorem gX1_init_X0_init : GoodIn wsX1_init (wsX0_init) := ggX1_init_X0_init
end
section
/-! Rack: methods that read -/
theorem not_lt0 {x : Int32} (h : 0 ≤ x) : ¬ x < 0 := fun q => absurd h (fun h => by rw [Int32.le_iff_toInt_le] at h; rw [Int32.lt_iff_toInt_lt] at q; omega)
theorem ge0 {x : Int32} (h : ¬ x < 0) : 0 ≤ x := by rw [Int32.lt_iff_toInt_lt] at h; rw [Int32.le_iff_toInt_le]; omega
theorem lt_of_nle {x y : Int32} (h : ¬ x ≤ y) : y < x := by rw [Int32.le_iff_toInt_le] at h; rw [Int32.lt_iff_toInt_lt]; omega
theorem nlt_of_le {x y : Int32} (h : x ≤ y) : ¬ y < x := by rw [Int32.le_iff_toInt_le] at h; rw [Int32.lt_iff_toInt_lt]; omega
theorem sq_small {k : Nat} (h : k ≤ 40) : k * (k + 1) < 2 ^ 31 := Nat.lt_of_le_of_lt (Nat.mul_le_mul h (Nat.succ_le_succ h)) (by decide)
theorem st_small2 {x k n : Nat} (hx : x ≤ 9999) (hk : k ≤ 40) (h3 : 3 ≤ n) (hn : n ≤ 40) : x + k * (1 + ((x / n) % (n - 1))) < 2 ^ 31 := by
  have h1 : (x / n) % (n - 1) < n - 1 := Nat.mod_lt _ (by omega)
  have h2 : k * (1 + ((x / n) % (n - 1))) ≤ 40 * 40 := Nat.mul_le_mul hk (by omega)
  omega
theorem st_small3 {x k : Nat} (hx : x ≤ 9999) (hk : k ≤ 40) : x + (k * (k + 1)) / 2 < 2 ^ 31 := by
  have h2 : k * (k + 1) ≤ 40 * 41 := Nat.mul_le_mul hk (by omega)
  omega
theorem div_small {x n : Nat} (h : x ≤ 9999) : x / n < 2 ^ 31 := Nat.lt_of_le_of_lt (Nat.div_le_self x n) (by omega)
theorem k_X0_heldOn : yX0_heldOn.cls = RX0 ∧ yX0_heldOn.cls ≠ "java/lang/invoke/MethodHandle" ∧ yX0_heldOn.cls ≠ "java/lang/invoke/VarHandle" ∧ (parseMethodDescriptor yX0_heldOn.desc).map (fun d => d.parameters.length) = some 1 := by decide +kernel
set_option maxHeartbeats 4000000 in
set_option maxRecDepth 100000 in
theorem m_X0_heldOn (l : Launch) (D : va_G) (cI : ClassId) (h a1 a2 : Nat) {n w : Nat} {F G f g : Nat → Int32} (S : RS n w F G f g) (k : Nat) (hk : k < 2 ^ 31) : Met l yX0_heldOn wsX0_heldOn ({ frames := 0, cells := 0, slots := 0, locals := 0 } : Room) (PR D [(cI, .int)] [.ref h, .int (nI k)] (rkw cI h a1 a2 n w F G)) (vp_Si (fun r => r = hd n f k)) 0 0 (fun _ => False) := by
  obtain ⟨hn3, hn, hw2, hF, hG, hO⟩ := id S
  refine bd_p (cc := cX0_heldOn) (maxL := 2) (ret := (some .int)) (by decide) rfl (Nat.le_of_ble_eq_true rfl) ?_
  intro p e s m args below meth c ls CF hr hlocks hK hP hl
  obtain ⟨hx, hb, hml, hown, hts⟩ := id CF
  have hl : lv_has ls 2 [(0, .ref h), (1, .int (nI k))] := hl
  have hP : va_P D vwCl [(h, .inr (0, [.ref a1, .ref a2, .int (nI n), .int (nI w)])), (a1, .inl (cI, 40, .inl F)), (a2, .inl (cI, 40, .inl G))] s.heap := hP
  refine lv_iload_n hx hb dX0_heldOn_0 rfl (lv_at hl 1 rfl) ?_
  refine bz_lt (tgt := 30) hx hb dX0_heldOn_1 (by decide) (by omega) ?_
  refine lv_iload_n hx hb dX0_heldOn_4 rfl (lv_at hl 1 rfl) ?_
  refine lv_aload_n hx hb dX0_heldOn_5 rfl (lv_at hl 0 rfl) ?_
  refine va_get (D := D) (ci := 0) (v := .int (nI n)) (C := RX0) (T := TX0) (N := 4) hx hb hts (fun _ h => (List.mem_cons_of_mem _ (List.mem_append_right _ h))) hown hK hP 0 rfl rfl 2 (by decide) (hts _ (List.mem_of_getElem? (i := 1) rfl)) (fun _ h9 => h9) rfl dX0_heldOn_6 ?_
  refine bn_ge (tgt := 30) hx hb dX0_heldOn_9 (by decide) (by omega) (by omega) (fun c9 => ?_) (fun c9 => ?_)
  · skip
    refine lv_iconst (v := (-1)) hx hb dX0_heldOn_30 (by decide) ?_
    exact en_i hx hb hr hlocks ((if_neg (by omega)).symm) dX0_heldOn_31
  · skip
    refine lv_iload_n hx hb dX0_heldOn_12 rfl (lv_at hl 1 rfl) ?_
    refine lv_aload_n hx hb dX0_heldOn_13 rfl (lv_at hl 0 rfl) ?_
    refine va_get (D := D) (ci := 0) (v := .ref a1) (C := RX0) (T := TX0) (N := 4) hx hb hts (fun _ h => (List.mem_cons_of_mem _ (List.mem_append_right _ h))) hown hK hP 0 rfl rfl 0 (by decide) (hts _ (List.mem_of_getElem? (i := 2) rfl)) (fun _ h9 => h9) rfl dX0_heldOn_14 ?_
    refine va_alen (v := nI 40) hx hb hK hP 1 0 rfl rfl rfl dX0_heldOn_17 ?_
    refine bn_ge (tgt := 30) hx hb dX0_heldOn_18 (by decide) (by omega) (by omega) (fun c18 => ?_) (fun c18 => ?_)
    · skip
      omega
    · skip
      refine lv_aload_n hx hb dX0_heldOn_21 rfl (lv_at hl 0 rfl) ?_
      refine va_get (D := D) (ci := 0) (v := .ref a1) (C := RX0) (T := TX0) (N := 4) hx hb hts (fun _ h => (List.mem_cons_of_mem _ (List.mem_append_right _ h))) hown hK hP 0 rfl rfl 0 (by decide) (hts _ (List.mem_of_getElem? (i := 2) rfl)) (fun _ h9 => h9) rfl dX0_heldOn_22 ?_
      refine lv_iload_n hx hb dX0_heldOn_25 rfl (lv_at hl 1 rfl) ?_
      refine al_i hx hb hK hP 1 0 rfl rfl (by omega) (by omega) dX0_heldOn_26 ?_
      refine lv_goto (tgt := 31) hx hb dX0_heldOn_27 (by decide) ?_
      exact en_i hx hb hr hlocks ((hF k c9).trans (if_pos c9).symm) dX0_heldOn_31
theorem k_X0_hookCount : yX0_hookCount.cls = RX0 ∧ yX0_hookCount.cls ≠ "java/lang/invoke/MethodHandle" ∧ yX0_hookCount.cls ≠ "java/lang/invoke/VarHandle" ∧ (parseMethodDescriptor yX0_hookCount.desc).map (fun d => d.parameters.length) = some 0 := by decide +kernel
set_option maxHeartbeats 4000000 in
set_option maxRecDepth 100000 in
theorem m_X0_hookCount (l : Launch) (D : va_G) (cI : ClassId) (h a1 a2 : Nat) {n w : Nat} {F G f g : Nat → Int32} (S : RS n w F G f g) : Met l yX0_hookCount wsX0_hookCount ({ frames := 0, cells := 0, slots := 0, locals := 0 } : Room) (PR D [(cI, .int)] [.ref h] (rkw cI h a1 a2 n w F G)) (vp_Si (fun r => r = nI n)) 0 0 (fun _ => False) := by
  obtain ⟨hn3, hn, hw2, hF, hG, hO⟩ := id S
  refine bd_p (cc := cX0_hookCount) (maxL := 1) (ret := (some .int)) (by decide) rfl (Nat.le_of_ble_eq_true rfl) ?_
  intro p e s m args below meth c ls CF hr hlocks hK hP hl
  obtain ⟨hx, hb, hml, hown, hts⟩ := id CF
  have hl : lv_has ls 1 [(0, .ref h)] := hl
  have hP : va_P D vwCl [(h, .inr (0, [.ref a1, .ref a2, .int (nI n), .int (nI w)])), (a1, .inl (cI, 40, .inl F)), (a2, .inl (cI, 40, .inl G))] s.heap := hP
  refine lv_aload_n hx hb dX0_hookCount_0 rfl (lv_at hl 0 rfl) ?_
  refine va_get (D := D) (ci := 0) (v := .int (nI n)) (C := RX0) (T := TX0) (N := 4) hx hb hts (fun _ h => (List.mem_cons_of_mem _ (List.mem_append_right _ h))) hown hK hP 0 rfl rfl 2 (by decide) (hts _ (List.mem_of_getElem? (i := 1) rfl)) (fun _ h9 => h9) rfl dX0_hookCount_1 ?_
  exact en_i hx hb hr hlocks rfl dX0_hookCount_4
theorem k_X0_usherWay : yX0_usherWay.cls = RX0 ∧ yX0_usherWay.cls ≠ "java/lang/invoke/MethodHandle" ∧ yX0_usherWay.cls ≠ "java/lang/invoke/VarHandle" ∧ (parseMethodDescriptor yX0_usherWay.desc).map (fun d => d.parameters.length) = some 0 := by decide +kernel
set_option maxHeartbeats 4000000 in
set_option maxRecDepth 100000 in
theorem m_X0_usherWay (l : Launch) (D : va_G) (cI : ClassId) (h a1 a2 : Nat) {n w : Nat} {F G f g : Nat → Int32} (S : RS n w F G f g) : Met l yX0_usherWay wsX0_usherWay ({ frames := 0, cells := 0, slots := 0, locals := 0 } : Room) (PR D [(cI, .int)] [.ref h] (rkw cI h a1 a2 n w F G)) (vp_Si (fun r => r = nI w)) 0 0 (fun _ => False) := by
  obtain ⟨hn3, hn, hw2, hF, hG, hO⟩ := id S
  refine bd_p (cc := cX0_usherWay) (maxL := 1) (ret := (some .int)) (by decide) rfl (Nat.le_of_ble_eq_true rfl) ?_
  intro p e s m args below meth c ls CF hr hlocks hK hP hl
  obtain ⟨hx, hb, hml, hown, hts⟩ := id CF
  have hl : lv_has ls 1 [(0, .ref h)] := hl
  have hP : va_P D vwCl [(h, .inr (0, [.ref a1, .ref a2, .int (nI n), .int (nI w)])), (a1, .inl (cI, 40, .inl F)), (a2, .inl (cI, 40, .inl G))] s.heap := hP
  refine lv_aload_n hx hb dX0_usherWay_0 rfl (lv_at hl 0 rfl) ?_
  refine va_get (D := D) (ci := 0) (v := .int (nI w)) (C := RX0) (T := TX0) (N := 4) hx hb hts (fun _ h => (List.mem_cons_of_mem _ (List.mem_append_right _ h))) hown hK hP 0 rfl rfl 3 (by decide) (hts _ (List.mem_of_getElem? (i := 1) rfl)) (fun _ h9 => h9) rfl dX0_usherWay_1 ?_
  exact en_i hx hb hr hlocks rfl dX0_usherWay_4
theorem k_X0_weightOn : yX0_weightOn.cls = RX0 ∧ yX0_weightOn.cls ≠ "java/lang/invoke/MethodHandle" ∧ yX0_weightOn.cls ≠ "java/lang/invoke/VarHandle" ∧ (parseMethodDescriptor yX0_weightOn.desc).map (fun d => d.parameters.length) = some 1 := by decide +kernel
set_option maxHeartbeats 4000000 in
set_option maxRecDepth 100000 in
theorem m_X0_weightOn (l : Launch) (D : va_G) (cI : ClassId) (h a1 a2 : Nat) {n w : Nat} {F G f g : Nat → Int32} (S : RS n w F G f g) (k : Nat) (hk : k < 2 ^ 31) : Met l yX0_weightOn wsX0_weightOn ({ frames := 0, cells := 0, slots := 0, locals := 0 } : Room) (PR D [(cI, .int)] [.ref h, .int (nI k)] (rkw cI h a1 a2 n w F G)) (vp_Si (fun r => r = hw n g k)) 0 0 (fun _ => False) := by
  obtain ⟨hn3, hn, hw2, hF, hG, hO⟩ := id S
  refine bd_p (cc := cX0_weightOn) (maxL := 2) (ret := (some .int)) (by decide) rfl (Nat.le_of_ble_eq_true rfl) ?_
  intro p e s m args below meth c ls CF hr hlocks hK hP hl
  obtain ⟨hx, hb, hml, hown, hts⟩ := id CF
  have hl : lv_has ls 2 [(0, .ref h), (1, .int (nI k))] := hl
  have hP : va_P D vwCl [(h, .inr (0, [.ref a1, .ref a2, .int (nI n), .int (nI w)])), (a1, .inl (cI, 40, .inl F)), (a2, .inl (cI, 40, .inl G))] s.heap := hP
  refine lv_iload_n hx hb dX0_weightOn_0 rfl (lv_at hl 1 rfl) ?_
  refine bz_lt (tgt := 30) hx hb dX0_weightOn_1 (by decide) (by omega) ?_
  refine lv_iload_n hx hb dX0_weightOn_4 rfl (lv_at hl 1 rfl) ?_
  refine lv_aload_n hx hb dX0_weightOn_5 rfl (lv_at hl 0 rfl) ?_
  refine va_get (D := D) (ci := 0) (v := .int (nI n)) (C := RX0) (T := TX0) (N := 4) hx hb hts (fun _ h => (List.mem_cons_of_mem _ (List.mem_append_right _ h))) hown hK hP 0 rfl rfl 2 (by decide) (hts _ (List.mem_of_getElem? (i := 1) rfl)) (fun _ h9 => h9) rfl dX0_weightOn_6 ?_
  refine bn_ge (tgt := 30) hx hb dX0_weightOn_9 (by decide) (by omega) (by omega) (fun c9 => ?_) (fun c9 => ?_)
  · skip
    refine lv_iconst (v := nI 0) hx hb dX0_weightOn_30 (by decide) ?_
    exact en_i hx hb hr hlocks ((if_neg (by omega)).symm) dX0_weightOn_31
  · skip
    refine lv_iload_n hx hb dX0_weightOn_12 rfl (lv_at hl 1 rfl) ?_
    refine lv_aload_n hx hb dX0_weightOn_13 rfl (lv_at hl 0 rfl) ?_
    refine va_get (D := D) (ci := 0) (v := .ref a2) (C := RX0) (T := TX0) (N := 4) hx hb hts (fun _ h => (List.mem_cons_of_mem _ (List.mem_append_right _ h))) hown hK hP 0 rfl rfl 1 (by decide) (hts _ (List.mem_of_getElem? (i := 2) rfl)) (fun _ h9 => h9) rfl dX0_weightOn_14 ?_
    refine va_alen (v := nI 40) hx hb hK hP 2 0 rfl rfl rfl dX0_weightOn_17 ?_
    refine bn_ge (tgt := 30) hx hb dX0_weightOn_18 (by decide) (by omega) (by omega) (fun c18 => ?_) (fun c18 => ?_)
    · skip
      omega
    · skip
      refine lv_aload_n hx hb dX0_weightOn_21 rfl (lv_at hl 0 rfl) ?_
      refine va_get (D := D) (ci := 0) (v := .ref a2) (C := RX0) (T := TX0) (N := 4) hx hb hts (fun _ h => (List.mem_cons_of_mem _ (List.mem_append_right _ h))) hown hK hP 0 rfl rfl 1 (by decide) (hts _ (List.mem_of_getElem? (i := 2) rfl)) (fun _ h9 => h9) rfl dX0_weightOn_22 ?_
      refine lv_iload_n hx hb dX0_weightOn_25 rfl (lv_at hl 1 rfl) ?_
      refine al_i hx hb hK hP 2 0 rfl rfl (by omega) (by omega) dX0_weightOn_26 ?_
      refine lv_goto (tgt := 31) hx hb dX0_weightOn_27 (by decide) ?_
      exact en_i hx hb hr hlocks ((hG k c9).trans (if_pos c9).symm) dX0_weightOn_31
theorem k_X0_stateOn : yX0_stateOn.cls = RX0 ∧ yX0_stateOn.cls ≠ "java/lang/invoke/MethodHandle" ∧ yX0_stateOn.cls ≠ "java/lang/invoke/VarHandle" ∧ (parseMethodDescriptor yX0_stateOn.desc).map (fun d => d.parameters.length) = some 1 := by decide +kernel
set_option maxHeartbeats 4000000 in
set_option maxRecDepth 100000 in
theorem m_X0_stateOn (l : Launch) (D : va_G) (cI : ClassId) (h a1 a2 : Nat) {n w : Nat} {F G f g : Nat → Int32} (S : RS n w F G f g) (k : Nat) (hk : k < 2 ^ 31) : Met l yX0_stateOn wsX0_stateOn ({ frames := 1, cells := 0, slots := 0, locals := 21 } : Room) (PR D [(cI, .int)] [.ref h, .int (nI k)] (rkw cI h a1 a2 n w F G)) (vp_Si (fun r => r = st (hd n f k))) 0 0 (fun _ => False) := by
  obtain ⟨hn3, hn, hw2, hF, hG, hO⟩ := id S
  refine bd_p (cc := cX0_stateOn) (maxL := 3) (ret := (some .int)) (by decide) rfl (Nat.le_of_ble_eq_true rfl) ?_
  intro p e s m args below meth c ls CF hr hlocks hK hP hl
  obtain ⟨hx, hb, hml, hown, hts⟩ := id CF
  have hl : lv_has ls 3 [(0, .ref h), (1, .int (nI k))] := hl
  have hP : va_P D vwCl [(h, .inr (0, [.ref a1, .ref a2, .int (nI n), .int (nI w)])), (a1, .inl (cI, 40, .inl F)), (a2, .inl (cI, 40, .inl G))] s.heap := hP
  refine lv_aload_n hx hb dX0_stateOn_0 rfl (lv_at hl 0 rfl) ?_
  refine lv_iload_n hx hb dX0_stateOn_1 rfl (lv_at hl 1 rfl) ?_
  refine pv_i CF (m_X0_heldOn l D cI h a1 a2 S k hk) (cwV 1 hts gX0_stateOn_X0_heldOn rfl rfl rfl k_X0_heldOn ⟨Nat.le_of_ble_eq_true rfl, Nat.le_of_ble_eq_true rfl⟩) hK hP rfl rfl rfl rfl hl.1 rfl (Nat.le_of_ble_eq_true rfl) dX0_stateOn_2 ⟨Nat.zero_le _, Nat.zero_le _⟩ ?_
  refine lv_istore_n (lv' := [(2, .int (hd n f k)), (0, .ref h), (1, .int (nI k))]) hx hb dX0_stateOn_5 rfl hl (by decide) rfl (fun ls hl => ?_)
  refine lv_iload_n hx hb dX0_stateOn_6 rfl (lv_at hl 0 rfl) ?_
  refine lv_iconst (v := (-1)) hx hb dX0_stateOn_7 (by decide) ?_
  refine lv_icmp_ne (tgt := 13) hx hb dX0_stateOn_8 (by decide) (fun c8 => ?_) (fun c8 => ?_)
  · skip
    refine lv_iload_n hx hb dX0_stateOn_13 rfl (lv_at hl 0 rfl) ?_
    refine lv_bipush (v := (-2)) hx hb dX0_stateOn_14 (by decide) ?_
    refine lv_icmp_ne (tgt := 23) hx hb dX0_stateOn_16 (by decide) (fun c16 => ?_) (fun c16 => ?_)
    · skip
      refine lv_iconst (v := nI 1) hx hb dX0_stateOn_23 (by decide) ?_
      exact en_i hx hb hr hlocks (((if_neg c8).trans (if_neg c16)).symm) dX0_stateOn_24
    · skip
      refine lv_iconst (v := nI 2) hx hb dX0_stateOn_19 (by decide) ?_
      refine lv_goto (tgt := 24) hx hb dX0_stateOn_20 (by decide) ?_
      exact en_i hx hb hr hlocks (((if_neg c8).trans (if_pos c16)).symm) dX0_stateOn_24
  · skip
    refine lv_iconst (v := nI 0) hx hb dX0_stateOn_11 (by decide) ?_
    exact en_i hx hb hr hlocks ((if_pos c8).symm) dX0_stateOn_12
theorem k_X0_coatOn : yX0_coatOn.cls = RX0 ∧ yX0_coatOn.cls ≠ "java/lang/invoke/MethodHandle" ∧ yX0_coatOn.cls ≠ "java/lang/invoke/VarHandle" ∧ (parseMethodDescriptor yX0_coatOn.desc).map (fun d => d.parameters.length) = some 1 := by decide +kernel
set_option maxHeartbeats 4000000 in
set_option maxRecDepth 100000 in
theorem m_X0_coatOn (l : Launch) (D : va_G) (cI : ClassId) (h a1 a2 : Nat) {n w : Nat} {F G f g : Nat → Int32} (S : RS n w F G f g) (k : Nat) (hk : k < 2 ^ 31) : Met l yX0_coatOn wsX0_coatOn ({ frames := 1, cells := 0, slots := 0, locals := 21 } : Room) (PR D [(cI, .int)] [.ref h, .int (nI k)] (rkw cI h a1 a2 n w F G)) (vp_Si (fun r => r = cn (hd n f k))) 0 0 (fun _ => False) := by
  obtain ⟨hn3, hn, hw2, hF, hG, hO⟩ := id S
  refine bd_p (cc := cX0_coatOn) (maxL := 3) (ret := (some .int)) (by decide) rfl (Nat.le_of_ble_eq_true rfl) ?_
  intro p e s m args below meth c ls CF hr hlocks hK hP hl
  obtain ⟨hx, hb, hml, hown, hts⟩ := id CF
  have hl : lv_has ls 3 [(0, .ref h), (1, .int (nI k))] := hl
  have hP : va_P D vwCl [(h, .inr (0, [.ref a1, .ref a2, .int (nI n), .int (nI w)])), (a1, .inl (cI, 40, .inl F)), (a2, .inl (cI, 40, .inl G))] s.heap := hP
  refine lv_aload_n hx hb dX0_coatOn_0 rfl (lv_at hl 0 rfl) ?_
  refine lv_iload_n hx hb dX0_coatOn_1 rfl (lv_at hl 1 rfl) ?_
  refine pv_i CF (m_X0_heldOn l D cI h a1 a2 S k hk) (cwV 1 hts gX0_coatOn_X0_heldOn rfl rfl rfl k_X0_heldOn ⟨Nat.le_of_ble_eq_true rfl, Nat.le_of_ble_eq_true rfl⟩) hK hP rfl rfl rfl rfl hl.1 rfl (Nat.le_of_ble_eq_true rfl) dX0_coatOn_2 ⟨Nat.zero_le _, Nat.zero_le _⟩ ?_
  refine lv_istore_n (lv' := [(2, .int (hd n f k)), (0, .ref h), (1, .int (nI k))]) hx hb dX0_coatOn_5 rfl hl (by decide) rfl (fun ls hl => ?_)
  refine lv_iload_n hx hb dX0_coatOn_6 rfl (lv_at hl 0 rfl) ?_
  refine lv_if_lt (tgt := 14) hx hb dX0_coatOn_7 (by decide) (fun c7 => ?_) (fun c7 => ?_)
  · skip
    refine lv_iconst (v := (-1)) hx hb dX0_coatOn_14 (by decide) ?_
    exact en_i hx hb hr hlocks ((if_neg (fun z => absurd c7 (not_lt0 z))).symm) dX0_coatOn_15
  · skip
    refine lv_iload_n hx hb dX0_coatOn_10 rfl (lv_at hl 0 rfl) ?_
    refine lv_goto (tgt := 15) hx hb dX0_coatOn_11 (by decide) ?_
    exact en_i hx hb hr hlocks ((if_pos (ge0 c7)).symm) dX0_coatOn_15
theorem k_X0_countInState : yX0_countInState.cls = RX0 ∧ yX0_countInState.cls ≠ "java/lang/invoke/MethodHandle" ∧ yX0_countInState.cls ≠ "java/lang/invoke/VarHandle" ∧ (parseMethodDescriptor yX0_countInState.desc).map (fun d => d.parameters.length) = some 1 := by decide +kernel
set_option maxHeartbeats 4000000 in
set_option maxRecDepth 100000 in
theorem m_X0_countInState (l : Launch) (D : va_G) (cI : ClassId) (h a1 a2 : Nat) {n w : Nat} {F G f g : Nat → Int32} (S : RS n w F G f g) (v : Int32) : Met l yX0_countInState wsX0_countInState ({ frames := 2, cells := 0, slots := 0, locals := 43 } : Room) (PR D [(cI, .int)] [.ref h, .int v] (rkw cI h a1 a2 n w F G)) (vp_Si (fun r => r = nI (ct n f v))) 0 0 (fun _ => False) := by
  obtain ⟨hn3, hn, hw2, hF, hG, hO⟩ := id S
  refine bd_p (cc := cX0_countInState) (maxL := 4) (ret := (some .int)) (by decide) rfl (Nat.le_of_ble_eq_true rfl) ?_
  intro p e s m args below meth c ls CF hr hlocks hK hP hl
  obtain ⟨hx, hb, hml, hown, hts⟩ := id CF
  have hl : lv_has ls 4 [(0, .ref h), (1, .int v)] := hl
  have hP : va_P D vwCl [(h, .inr (0, [.ref a1, .ref a2, .int (nI n), .int (nI w)])), (a1, .inl (cI, 40, .inl F)), (a2, .inl (cI, 40, .inl G))] s.heap := hP
  refine lv_iconst (v := nI 0) hx hb dX0_countInState_0 (by decide) ?_
  refine lv_istore_n (lv' := [(2, .int (nI 0)), (0, .ref h), (1, .int v)]) hx hb dX0_countInState_1 rfl hl (by decide) rfl (fun ls hl => ?_)
  refine lv_iconst (v := nI 0) hx hb dX0_countInState_2 (by decide) ?_
  refine lv_istore_n (lv' := [(3, .int (nI 0)), (2, .int (nI 0)), (0, .ref h), (1, .int v)]) hx hb dX0_countInState_3 rfl hl (by decide) rfl (fun ls hl => ?_)
  have LP4 : ∀ (q i a : Nat), i + q = n → fo (fun a i => if st (f i) = v then a + 1 else a) q i a = ct n f v → ∀ (ls : Array Slot), lv_has ls 4 [(3, .int (nI i)), (2, .int (nI a)), (0, .ref h), (1, .int v)] → W p l e ({ frames := 2, cells := 0, slots := 0, locals := 43 } : Room) s m args below meth c s.heap [] 0 0 (MQ below (vp_Si (fun r => r = nI (ct n f v))) args s 0 0 (fun _ => False)) (F0 m 4 ls []) := by
    intro q
    induction q with
    | zero =>
      intro i a h1 h2 ls hl
      refine lv_iload_n hx hb dX0_countInState_4 rfl (lv_at hl 0 rfl) ?_
      refine lv_aload_n hx hb dX0_countInState_5 rfl (lv_at hl 2 rfl) ?_
      refine va_get (D := D) (ci := 0) (v := .int (nI n)) (C := RX0) (T := TX0) (N := 4) hx hb hts (fun _ h => (List.mem_cons_of_mem _ (List.mem_append_right _ h))) hown hK hP 0 rfl rfl 2 (by decide) (hts _ (List.mem_of_getElem? (i := 1) rfl)) (fun _ h9 => h9) rfl dX0_countInState_6 ?_
      refine bn_ge (tgt := 30) hx hb dX0_countInState_9 (by decide) (by omega) (by omega) (fun c9 => ?_) (fun c9 => ?_)
      · skip
        refine lv_iload_n hx hb dX0_countInState_30 rfl (lv_at hl 1 rfl) ?_
        exact en_i hx hb hr hlocks (congrArg nI h2) dX0_countInState_31
      · skip
        omega
    | succ q ih =>
      intro i a h1 h2 ls hl
      refine lv_iload_n hx hb dX0_countInState_4 rfl (lv_at hl 0 rfl) ?_
      refine lv_aload_n hx hb dX0_countInState_5 rfl (lv_at hl 2 rfl) ?_
      refine va_get (D := D) (ci := 0) (v := .int (nI n)) (C := RX0) (T := TX0) (N := 4) hx hb hts (fun _ h => (List.mem_cons_of_mem _ (List.mem_append_right _ h))) hown hK hP 0 rfl rfl 2 (by decide) (hts _ (List.mem_of_getElem? (i := 1) rfl)) (fun _ h9 => h9) rfl dX0_countInState_6 ?_
      refine bn_ge (tgt := 30) hx hb dX0_countInState_9 (by decide) (by omega) (by omega) (fun c9 => ?_) (fun c9 => ?_)
      · skip
        omega
      · skip
        refine lv_aload_n hx hb dX0_countInState_12 rfl (lv_at hl 2 rfl) ?_
        refine lv_iload_n hx hb dX0_countInState_13 rfl (lv_at hl 0 rfl) ?_
        refine pv_i CF (m_X0_stateOn l D cI h a1 a2 S i (by omega)) (cwV 1 hts gX0_countInState_X0_stateOn rfl rfl rfl k_X0_stateOn ⟨Nat.le_of_ble_eq_true rfl, Nat.le_of_ble_eq_true rfl⟩) hK hP rfl rfl rfl rfl hl.1 rfl (Nat.le_of_ble_eq_true rfl) dX0_countInState_14 ⟨Nat.zero_le _, Nat.zero_le _⟩ ?_
        refine lv_iload_n hx hb dX0_countInState_17 rfl (lv_at hl 3 rfl) ?_
        refine lv_icmp_ne (tgt := 24) hx hb dX0_countInState_18 (by decide) (fun c18 => ?_) (fun c18 => ?_)
        · skip
          rw [show hd n f i = f i from if_pos (by omega)] at c18
          refine lv_iinc (v := (nI (i + 1))) (lv' := [(3, .int (nI (i + 1))), (2, .int (nI a)), (0, .ref h), (1, .int v)]) hx hb dX0_countInState_24 hl (k := 0) rfl (inc1 _) (by decide) rfl (fun ls hl => ?_)
          refine lv_goto (tgt := 4) hx hb dX0_countInState_27 (by decide) ?_
          exact ih (i + 1) a (by omega) (by rw [fo_s, if_neg c18] at h2; exact h2) _ (lv_sub hl [0, 1, 2, 3] rfl)
        · skip
          rw [show hd n f i = f i from if_pos (by omega)] at c18
          refine lv_iinc (v := (nI (a + 1))) (lv' := [(2, .int (nI (a + 1))), (3, .int (nI i)), (0, .ref h), (1, .int v)]) hx hb dX0_countInState_21 hl (k := 1) rfl (inc1 _) (by decide) rfl (fun ls hl => ?_)
          refine lv_iinc (v := (nI (i + 1))) (lv' := [(3, .int (nI (i + 1))), (2, .int (nI (a + 1))), (0, .ref h), (1, .int v)]) hx hb dX0_countInState_24 hl (k := 1) rfl (inc1 _) (by decide) rfl (fun ls hl => ?_)
          refine lv_goto (tgt := 4) hx hb dX0_countInState_27 (by decide) ?_
          exact ih (i + 1) (a + 1) (by omega) (by rw [fo_s, if_pos c18] at h2; exact h2) _ (lv_sub hl [0, 1, 2, 3] rfl)
  exact LP4 n 0 0 (Nat.zero_add n) rfl _ (lv_sub hl [0, 1, 2, 3] rfl)
theorem k_X0_weightOfAll : yX0_weightOfAll.cls = RX0 ∧ yX0_weightOfAll.cls ≠ "java/lang/invoke/MethodHandle" ∧ yX0_weightOfAll.cls ≠ "java/lang/invoke/VarHandle" ∧ (parseMethodDescriptor yX0_weightOfAll.desc).map (fun d => d.parameters.length) = some 0 := by decide +kernel
set_option maxHeartbeats 4000000 in
set_option maxRecDepth 100000 in
theorem m_X0_weightOfAll (l : Launch) (D : va_G) (cI : ClassId) (h a1 a2 : Nat) {n w : Nat} {F G f g : Nat → Int32} (S : RS n w F G f g) : Met l yX0_weightOfAll wsX0_weightOfAll ({ frames := 1, cells := 0, slots := 0, locals := 21 } : Room) (PR D [(cI, .int)] [.ref h] (rkw cI h a1 a2 n w F G)) (vp_Si (fun r => r = wa n g)) 0 0 (fun _ => False) := by
  obtain ⟨hn3, hn, hw2, hF, hG, hO⟩ := id S
  refine bd_p (cc := cX0_weightOfAll) (maxL := 3) (ret := (some .int)) (by decide) rfl (Nat.le_of_ble_eq_true rfl) ?_
  intro p e s m args below meth c ls CF hr hlocks hK hP hl
  obtain ⟨hx, hb, hml, hown, hts⟩ := id CF
  have hl : lv_has ls 3 [(0, .ref h)] := hl
  have hP : va_P D vwCl [(h, .inr (0, [.ref a1, .ref a2, .int (nI n), .int (nI w)])), (a1, .inl (cI, 40, .inl F)), (a2, .inl (cI, 40, .inl G))] s.heap := hP
  refine lv_iconst (v := nI 0) hx hb dX0_weightOfAll_0 (by decide) ?_
  refine lv_istore_n (lv' := [(1, .int (nI 0)), (0, .ref h)]) hx hb dX0_weightOfAll_1 rfl hl (by decide) rfl (fun ls hl => ?_)
  refine lv_iconst (v := nI 0) hx hb dX0_weightOfAll_2 (by decide) ?_
  refine lv_istore_n (lv' := [(2, .int (nI 0)), (1, .int (nI 0)), (0, .ref h)]) hx hb dX0_weightOfAll_3 rfl hl (by decide) rfl (fun ls hl => ?_)
  have LP4 : ∀ (q i : Nat) (a : Int32), i + q = n → fo (fun a i => a + g i) q i a = wa n g → ∀ (ls : Array Slot), lv_has ls 3 [(2, .int (nI i)), (1, .int a), (0, .ref h)] → W p l e ({ frames := 1, cells := 0, slots := 0, locals := 21 } : Room) s m args below meth c s.heap [] 0 0 (MQ below (vp_Si (fun r => r = wa n g)) args s 0 0 (fun _ => False)) (F0 m 4 ls []) := by
    intro q
    induction q with
    | zero =>
      intro i a h1 h2 ls hl
      refine lv_iload_n hx hb dX0_weightOfAll_4 rfl (lv_at hl 0 rfl) ?_
      refine lv_aload_n hx hb dX0_weightOfAll_5 rfl (lv_at hl 2 rfl) ?_
      refine va_get (D := D) (ci := 0) (v := .int (nI n)) (C := RX0) (T := TX0) (N := 4) hx hb hts (fun _ h => (List.mem_cons_of_mem _ (List.mem_append_right _ h))) hown hK hP 0 rfl rfl 2 (by decide) (hts _ (List.mem_of_getElem? (i := 1) rfl)) (fun _ h9 => h9) rfl dX0_weightOfAll_6 ?_
      refine bn_ge (tgt := 26) hx hb dX0_weightOfAll_9 (by decide) (by omega) (by omega) (fun c9 => ?_) (fun c9 => ?_)
      · skip
        refine lv_iload_n hx hb dX0_weightOfAll_26 rfl (lv_at hl 1 rfl) ?_
        exact en_i hx hb hr hlocks h2 dX0_weightOfAll_27
      · skip
        omega
    | succ q ih =>
      intro i a h1 h2 ls hl
      refine lv_iload_n hx hb dX0_weightOfAll_4 rfl (lv_at hl 0 rfl) ?_
      refine lv_aload_n hx hb dX0_weightOfAll_5 rfl (lv_at hl 2 rfl) ?_
      refine va_get (D := D) (ci := 0) (v := .int (nI n)) (C := RX0) (T := TX0) (N := 4) hx hb hts (fun _ h => (List.mem_cons_of_mem _ (List.mem_append_right _ h))) hown hK hP 0 rfl rfl 2 (by decide) (hts _ (List.mem_of_getElem? (i := 1) rfl)) (fun _ h9 => h9) rfl dX0_weightOfAll_6 ?_
      refine bn_ge (tgt := 26) hx hb dX0_weightOfAll_9 (by decide) (by omega) (by omega) (fun c9 => ?_) (fun c9 => ?_)
      · skip
        omega
      · skip
        refine lv_iload_n hx hb dX0_weightOfAll_12 rfl (lv_at hl 1 rfl) ?_
        refine lv_aload_n hx hb dX0_weightOfAll_13 rfl (lv_at hl 2 rfl) ?_
        refine lv_iload_n hx hb dX0_weightOfAll_14 rfl (lv_at hl 0 rfl) ?_
        refine pv_i CF (m_X0_weightOn l D cI h a1 a2 S i (by omega)) (cwV 1 hts gX0_weightOfAll_X0_weightOn rfl rfl rfl k_X0_weightOn ⟨Nat.le_of_ble_eq_true rfl, Nat.le_of_ble_eq_true rfl⟩) hK hP rfl rfl rfl rfl hl.1 rfl (Nat.le_of_ble_eq_true rfl) dX0_weightOfAll_15 ⟨Nat.zero_le _, Nat.zero_le _⟩ ?_
        refine tp_i (y := (g i)) (if_pos (by omega)) ?_
        refine lv_iadd hx hb dX0_weightOfAll_18 ?_
        refine lv_istore_n (lv' := [(1, .int (a + (g i))), (2, .int (nI i)), (0, .ref h)]) hx hb dX0_weightOfAll_19 rfl hl (by decide) rfl (fun ls hl => ?_)
        refine lv_iinc (v := (nI (i + 1))) (lv' := [(2, .int (nI (i + 1))), (1, .int (a + (g i))), (0, .ref h)]) hx hb dX0_weightOfAll_20 hl (k := 1) rfl (inc1 _) (by decide) rfl (fun ls hl => ?_)
        refine lv_goto (tgt := 4) hx hb dX0_weightOfAll_23 (by decide) ?_
        exact ih (i + 1) (a + g i) (by omega) h2 _ (lv_sub hl [0, 1, 2] rfl)
  exact LP4 n 0 (nI 0) (Nat.zero_add n) rfl _ (lv_sub hl [0, 1, 2] rfl)
theorem k_X0_hookOfHeaviest : yX0_hookOfHeaviest.cls = RX0 ∧ yX0_hookOfHeaviest.cls ≠ "java/lang/invoke/MethodHandle" ∧ yX0_hookOfHeaviest.cls ≠ "java/lang/invoke/VarHandle" ∧ (parseMethodDescriptor yX0_hookOfHeaviest.desc).map (fun d => d.parameters.length) = some 0 := by decide +kernel
set_option maxHeartbeats 4000000 in
set_option maxRecDepth 100000 in
theorem m_X0_hookOfHeaviest (l : Launch) (D : va_G) (cI : ClassId) (h a1 a2 : Nat) {n w : Nat} {F G f g : Nat → Int32} (S : RS n w F G f g) : Met l yX0_hookOfHeaviest wsX0_hookOfHeaviest ({ frames := 1, cells := 0, slots := 0, locals := 21 } : Room) (PR D [(cI, .int)] [.ref h] (rkw cI h a1 a2 n w F G)) (vp_Si (fun r => r = (hv n g).1)) 0 0 (fun _ => False) := by
  obtain ⟨hn3, hn, hw2, hF, hG, hO⟩ := id S
  refine bd_p (cc := cX0_hookOfHeaviest) (maxL := 4) (ret := (some .int)) (by decide) rfl (Nat.le_of_ble_eq_true rfl) ?_
  intro p e s m args below meth c ls CF hr hlocks hK hP hl
  obtain ⟨hx, hb, hml, hown, hts⟩ := id CF
  have hl : lv_has ls 4 [(0, .ref h)] := hl
  have hP : va_P D vwCl [(h, .inr (0, [.ref a1, .ref a2, .int (nI n), .int (nI w)])), (a1, .inl (cI, 40, .inl F)), (a2, .inl (cI, 40, .inl G))] s.heap := hP
  refine lv_iconst (v := (-1)) hx hb dX0_hookOfHeaviest_0 (by decide) ?_
  refine lv_istore_n (lv' := [(1, .int (-1)), (0, .ref h)]) hx hb dX0_hookOfHeaviest_1 rfl hl (by decide) rfl (fun ls hl => ?_)
  refine lv_iconst (v := nI 0) hx hb dX0_hookOfHeaviest_2 (by decide) ?_
  refine lv_istore_n (lv' := [(2, .int (nI 0)), (1, .int (-1)), (0, .ref h)]) hx hb dX0_hookOfHeaviest_3 rfl hl (by decide) rfl (fun ls hl => ?_)
  refine lv_iconst (v := nI 0) hx hb dX0_hookOfHeaviest_4 (by decide) ?_
  refine lv_istore_n (lv' := [(3, .int (nI 0)), (2, .int (nI 0)), (1, .int (-1)), (0, .ref h)]) hx hb dX0_hookOfHeaviest_5 rfl hl (by decide) rfl (fun ls hl => ?_)
  have LP6 : ∀ (q i : Nat) (a b : Int32), i + q = n → fo (fun (a : Int32 × Int32) i => if a.2 < g i then (nI i, g i) else a) q i (a, b) = hv n g → ∀ (ls : Array Slot), lv_has ls 4 [(3, .int (nI i)), (2, .int b), (1, .int a), (0, .ref h)] → W p l e ({ frames := 1, cells := 0, slots := 0, locals := 21 } : Room) s m args below meth c s.heap [] 0 0 (MQ below (vp_Si (fun r => r = (hv n g).1)) args s 0 0 (fun _ => False)) (F0 m 6 ls []) := by
    intro q
    induction q with
    | zero =>
      intro i a b h1 h2 ls hl
      refine lv_iload_n hx hb dX0_hookOfHeaviest_6 rfl (lv_at hl 0 rfl) ?_
      refine lv_aload_n hx hb dX0_hookOfHeaviest_7 rfl (lv_at hl 3 rfl) ?_
      refine va_get (D := D) (ci := 0) (v := .int (nI n)) (C := RX0) (T := TX0) (N := 4) hx hb hts (fun _ h => (List.mem_cons_of_mem _ (List.mem_append_right _ h))) hown hK hP 0 rfl rfl 2 (by decide) (hts _ (List.mem_of_getElem? (i := 1) rfl)) (fun _ h9 => h9) rfl dX0_hookOfHeaviest_8 ?_
      refine bn_ge (tgt := 37) hx hb dX0_hookOfHeaviest_11 (by decide) (by omega) (by omega) (fun c11 => ?_) (fun c11 => ?_)
      · skip
        refine lv_iload_n hx hb dX0_hookOfHeaviest_37 rfl (lv_at hl 2 rfl) ?_
        exact en_i hx hb hr hlocks (congrArg Prod.fst h2 : _) dX0_hookOfHeaviest_38
      · skip
        omega
    | succ q ih =>
      intro i a b h1 h2 ls hl
      refine lv_iload_n hx hb dX0_hookOfHeaviest_6 rfl (lv_at hl 0 rfl) ?_
      refine lv_aload_n hx hb dX0_hookOfHeaviest_7 rfl (lv_at hl 3 rfl) ?_
      refine va_get (D := D) (ci := 0) (v := .int (nI n)) (C := RX0) (T := TX0) (N := 4) hx hb hts (fun _ h => (List.mem_cons_of_mem _ (List.mem_append_right _ h))) hown hK hP 0 rfl rfl 2 (by decide) (hts _ (List.mem_of_getElem? (i := 1) rfl)) (fun _ h9 => h9) rfl dX0_hookOfHeaviest_8 ?_
      refine bn_ge (tgt := 37) hx hb dX0_hookOfHeaviest_11 (by decide) (by omega) (by omega) (fun c11 => ?_) (fun c11 => ?_)
      · skip
        omega
      · skip
        refine lv_aload_n hx hb dX0_hookOfHeaviest_14 rfl (lv_at hl 3 rfl) ?_
        refine lv_iload_n hx hb dX0_hookOfHeaviest_15 rfl (lv_at hl 0 rfl) ?_
        refine pv_i CF (m_X0_weightOn l D cI h a1 a2 S i (by omega)) (cwV 1 hts gX0_hookOfHeaviest_X0_weightOn rfl rfl rfl k_X0_weightOn ⟨Nat.le_of_ble_eq_true rfl, Nat.le_of_ble_eq_true rfl⟩) hK hP rfl rfl rfl rfl hl.1 rfl (Nat.le_of_ble_eq_true rfl) dX0_hookOfHeaviest_16 ⟨Nat.zero_le _, Nat.zero_le _⟩ ?_
        refine tp_i (y := (g i)) (if_pos (by omega)) ?_
        refine lv_iload_n hx hb dX0_hookOfHeaviest_19 rfl (lv_at hl 1 rfl) ?_
        refine lv_icmp_le (tgt := 31) hx hb dX0_hookOfHeaviest_20 (by decide) (fun c20 => ?_) (fun c20 => ?_)
        · skip
          refine lv_iinc (v := (nI (i + 1))) (lv' := [(3, .int (nI (i + 1))), (2, .int b), (1, .int a), (0, .ref h)]) hx hb dX0_hookOfHeaviest_31 hl (k := 0) rfl (inc1 _) (by decide) rfl (fun ls hl => ?_)
          refine lv_goto (tgt := 6) hx hb dX0_hookOfHeaviest_34 (by decide) ?_
          exact ih (i + 1) a b (by omega) (by rw [fo_s, if_neg (nlt_of_le c20)] at h2; exact h2) _ (lv_sub hl [0, 1, 2, 3] rfl)
        · skip
          refine lv_iload_n hx hb dX0_hookOfHeaviest_23 rfl (lv_at hl 0 rfl) ?_
          refine lv_istore_n (lv' := [(1, .int (nI i)), (3, .int (nI i)), (2, .int b), (0, .ref h)]) hx hb dX0_hookOfHeaviest_24 rfl hl (by decide) rfl (fun ls hl => ?_)
          refine lv_aload_n hx hb dX0_hookOfHeaviest_25 rfl (lv_at hl 3 rfl) ?_
          refine lv_iload_n hx hb dX0_hookOfHeaviest_26 rfl (lv_at hl 1 rfl) ?_
          refine pv_i CF (m_X0_weightOn l D cI h a1 a2 S i (by omega)) (cwV 1 hts gX0_hookOfHeaviest_X0_weightOn rfl rfl rfl k_X0_weightOn ⟨Nat.le_of_ble_eq_true rfl, Nat.le_of_ble_eq_true rfl⟩) hK hP rfl rfl rfl rfl hl.1 rfl (Nat.le_of_ble_eq_true rfl) dX0_hookOfHeaviest_27 ⟨Nat.zero_le _, Nat.zero_le _⟩ ?_
          refine tp_i (y := (g i)) (if_pos (by omega)) ?_
          refine lv_istore_n (lv' := [(2, .int (g i)), (1, .int (nI i)), (3, .int (nI i)), (0, .ref h)]) hx hb dX0_hookOfHeaviest_30 rfl hl (by decide) rfl (fun ls hl => ?_)
          refine lv_iinc (v := (nI (i + 1))) (lv' := [(3, .int (nI (i + 1))), (2, .int (g i)), (1, .int (nI i)), (0, .ref h)]) hx hb dX0_hookOfHeaviest_31 hl (k := 2) rfl (inc1 _) (by decide) rfl (fun ls hl => ?_)
          refine lv_goto (tgt := 6) hx hb dX0_hookOfHeaviest_34 (by decide) ?_
          exact ih (i + 1) (nI i) (g i) (by omega) (by rw [fo_s, if_pos (lt_of_nle c20)] at h2; exact h2) _ (lv_sub hl [0, 1, 2, 3] rfl)
  exact LP6 n 0 (-1) (nI 0) (Nat.zero_add n) rfl _ (lv_sub hl [0, 1, 2, 3] rfl)
theorem k_X0_hookInStep : yX0_hookInStep.cls = RX0 ∧ yX0_hookInStep.cls ≠ "java/lang/invoke/MethodHandle" ∧ yX0_hookInStep.cls ≠ "java/lang/invoke/VarHandle" ∧ (parseMethodDescriptor yX0_hookInStep.desc).map (fun d => d.parameters.length) = some 2 := by decide +kernel
set_option maxHeartbeats 4000000 in
set_option maxRecDepth 100000 in
theorem m_X0_hookInStep (l : Launch) (D : va_G) (cI : ClassId) (h a1 a2 : Nat) {n w : Nat} {F G f g : Nat → Int32} (S : RS n w F G f g) (x k : Nat) (hx9 : x ≤ 9999) (hk : k ≤ 40) : Met l yX0_hookInStep wsX0_hookInStep ({ frames := 0, cells := 0, slots := 0, locals := 0 } : Room) (PR D [(cI, .int)] [.ref h, .int (nI x), .int (nI k)] (rkw cI h a1 a2 n w F G)) (vp_Si (fun r => r = nI (at_ n w x k))) 0 0 (fun _ => False) := by
  obtain ⟨hn3, hn, hw2, hF, hG, hO⟩ := id S
  refine bd_p (cc := cX0_hookInStep) (maxL := 4) (ret := (some .int)) (by decide) rfl (Nat.le_of_ble_eq_true rfl) ?_
  intro p e s m args below meth c ls CF hr hlocks hK hP hl
  obtain ⟨hx, hb, hml, hown, hts⟩ := id CF
  have hl : lv_has ls 4 [(0, .ref h), (1, .int (nI x)), (2, .int (nI k))] := hl
  have hP : va_P D vwCl [(h, .inr (0, [.ref a1, .ref a2, .int (nI n), .int (nI w)])), (a1, .inl (cI, 40, .inl F)), (a2, .inl (cI, 40, .inl G))] s.heap := hP
  refine lv_aload_n hx hb dX0_hookInStep_0 rfl (lv_at hl 0 rfl) ?_
  refine va_get (D := D) (ci := 0) (v := .int (nI n)) (C := RX0) (T := TX0) (N := 4) hx hb hts (fun _ h => (List.mem_cons_of_mem _ (List.mem_append_right _ h))) hown hK hP 0 rfl rfl 2 (by decide) (hts _ (List.mem_of_getElem? (i := 1) rfl)) (fun _ h9 => h9) rfl dX0_hookInStep_1 ?_
  refine lv_iconst (v := nI 3) hx hb dX0_hookInStep_4 (by decide) ?_
  refine bn_ge (tgt := 10) hx hb dX0_hookInStep_5 (by decide) (by omega) (by omega) (fun c5 => ?_) (fun c5 => ?_)
  · skip
    refine lv_iload_n hx hb dX0_hookInStep_10 rfl (lv_at hl 2 rfl) ?_
    refine lv_istore_n (lv' := [(3, .int (nI k)), (0, .ref h), (1, .int (nI x)), (2, .int (nI k))]) hx hb dX0_hookInStep_11 rfl hl (by decide) rfl (fun ls hl => ?_)
    refine lv_aload_n hx hb dX0_hookInStep_12 rfl (lv_at hl 1 rfl) ?_
    refine va_get (D := D) (ci := 0) (v := .int (nI w)) (C := RX0) (T := TX0) (N := 4) hx hb hts (fun _ h => (List.mem_cons_of_mem _ (List.mem_append_right _ h))) hown hK hP 0 rfl rfl 3 (by decide) (hts _ (List.mem_of_getElem? (i := 2) rfl)) (fun _ h9 => h9) rfl dX0_hookInStep_13 ?_
    refine lv_iconst (v := nI 1) hx hb dX0_hookInStep_16 (by decide) ?_
    refine bn_ne (tgt := 31) hx hb dX0_hookInStep_17 (by decide) (by omega) (by omega) (fun c17 => ?_) (fun c17 => ?_)
    · skip
      refine lv_aload_n hx hb dX0_hookInStep_31 rfl (lv_at hl 1 rfl) ?_
      refine va_get (D := D) (ci := 0) (v := .int (nI w)) (C := RX0) (T := TX0) (N := 4) hx hb hts (fun _ h => (List.mem_cons_of_mem _ (List.mem_append_right _ h))) hown hK hP 0 rfl rfl 3 (by decide) (hts _ (List.mem_of_getElem? (i := 2) rfl)) (fun _ h9 => h9) rfl dX0_hookInStep_32 ?_
      refine lv_iconst (v := nI 2) hx hb dX0_hookInStep_35 (by decide) ?_
      refine bn_ne (tgt := 57) hx hb dX0_hookInStep_36 (by decide) (by omega) (by omega) (fun c36 => ?_) (fun c36 => ?_)
      · skip
        have ho : of_ n w x k = k := by rw [of_, if_neg c17, if_neg c36]
        refine lv_iload_n hx hb dX0_hookInStep_57 rfl (lv_at hl 2 rfl) ?_
        refine lv_iload_n hx hb dX0_hookInStep_58 rfl (lv_at hl 0 rfl) ?_
        refine an_add hx hb dX0_hookInStep_59 ?_
        refine lv_aload_n hx hb dX0_hookInStep_60 rfl (lv_at hl 1 rfl) ?_
        refine va_get (D := D) (ci := 0) (v := .int (nI n)) (C := RX0) (T := TX0) (N := 4) hx hb hts (fun _ h => (List.mem_cons_of_mem _ (List.mem_append_right _ h))) hown hK hP 0 rfl rfl 2 (by decide) (hts _ (List.mem_of_getElem? (i := 1) rfl)) (fun _ h9 => h9) rfl dX0_hookInStep_61 ?_
        refine an_rem hx hb (by omega) (by omega) (by omega) dX0_hookInStep_64 ?_
        exact en_i hx hb hr hlocks (by rw [at_, ho]) dX0_hookInStep_65
      · skip
        refine lv_iload_n hx hb dX0_hookInStep_39 rfl (lv_at hl 3 rfl) ?_
        refine lv_iconst (v := nI 1) hx hb dX0_hookInStep_40 (by decide) ?_
        refine lv_iload_n hx hb dX0_hookInStep_41 rfl (lv_at hl 2 rfl) ?_
        refine lv_aload_n hx hb dX0_hookInStep_42 rfl (lv_at hl 1 rfl) ?_
        refine va_get (D := D) (ci := 0) (v := .int (nI n)) (C := RX0) (T := TX0) (N := 4) hx hb hts (fun _ h => (List.mem_cons_of_mem _ (List.mem_append_right _ h))) hown hK hP 0 rfl rfl 2 (by decide) (hts _ (List.mem_of_getElem? (i := 1) rfl)) (fun _ h9 => h9) rfl dX0_hookInStep_43 ?_
        refine an_div hx hb (by omega) (by omega) (by omega) dX0_hookInStep_46 ?_
        refine lv_aload_n hx hb dX0_hookInStep_47 rfl (lv_at hl 1 rfl) ?_
        refine va_get (D := D) (ci := 0) (v := .int (nI n)) (C := RX0) (T := TX0) (N := 4) hx hb hts (fun _ h => (List.mem_cons_of_mem _ (List.mem_append_right _ h))) hown hK hP 0 rfl rfl 2 (by decide) (hts _ (List.mem_of_getElem? (i := 1) rfl)) (fun _ h9 => h9) rfl dX0_hookInStep_48 ?_
        refine lv_iconst (v := nI 1) hx hb dX0_hookInStep_51 (by decide) ?_
        refine an_sub hx hb (by omega) dX0_hookInStep_52 ?_
        refine an_rem hx hb (div_small hx9) (by omega) (by omega) dX0_hookInStep_53 ?_
        refine an_add hx hb dX0_hookInStep_54 ?_
        refine an_mul hx hb dX0_hookInStep_55 ?_
        refine lv_istore_n (lv' := [(3, .int (nI (k * (1 + ((x / n) % (n - 1)))))), (0, .ref h), (1, .int (nI x)), (2, .int (nI k))]) hx hb dX0_hookInStep_56 rfl hl (by decide) rfl (fun ls hl => ?_)
        have ho : of_ n w x k = (k * (1 + ((x / n) % (n - 1)))) := by rw [of_, if_neg c17, if_pos c36]
        refine lv_iload_n hx hb dX0_hookInStep_57 rfl (lv_at hl 2 rfl) ?_
        refine lv_iload_n hx hb dX0_hookInStep_58 rfl (lv_at hl 0 rfl) ?_
        refine an_add hx hb dX0_hookInStep_59 ?_
        refine lv_aload_n hx hb dX0_hookInStep_60 rfl (lv_at hl 1 rfl) ?_
        refine va_get (D := D) (ci := 0) (v := .int (nI n)) (C := RX0) (T := TX0) (N := 4) hx hb hts (fun _ h => (List.mem_cons_of_mem _ (List.mem_append_right _ h))) hown hK hP 0 rfl rfl 2 (by decide) (hts _ (List.mem_of_getElem? (i := 1) rfl)) (fun _ h9 => h9) rfl dX0_hookInStep_61 ?_
        refine an_rem hx hb (st_small2 hx9 hk hn3 hn) (by omega) (by omega) dX0_hookInStep_64 ?_
        exact en_i hx hb hr hlocks (by rw [at_, ho]) dX0_hookInStep_65
    · skip
      refine lv_iload_n hx hb dX0_hookInStep_20 rfl (lv_at hl 3 rfl) ?_
      refine lv_iload_n hx hb dX0_hookInStep_21 rfl (lv_at hl 3 rfl) ?_
      refine lv_iconst (v := nI 1) hx hb dX0_hookInStep_22 (by decide) ?_
      refine an_add hx hb dX0_hookInStep_23 ?_
      refine an_mul hx hb dX0_hookInStep_24 ?_
      refine lv_iconst (v := nI 2) hx hb dX0_hookInStep_25 (by decide) ?_
      refine an_div hx hb (sq_small hk) (by decide) (by decide) dX0_hookInStep_26 ?_
      refine lv_istore_n (lv' := [(3, .int (nI ((k * (k + 1)) / 2))), (0, .ref h), (1, .int (nI x)), (2, .int (nI k))]) hx hb dX0_hookInStep_27 rfl hl (by decide) rfl (fun ls hl => ?_)
      refine lv_goto (tgt := 57) hx hb dX0_hookInStep_28 (by decide) ?_
      have ho : of_ n w x k = ((k * (k + 1)) / 2) := by rw [of_, if_pos c17]
      refine lv_iload_n hx hb dX0_hookInStep_57 rfl (lv_at hl 2 rfl) ?_
      refine lv_iload_n hx hb dX0_hookInStep_58 rfl (lv_at hl 0 rfl) ?_
      refine an_add hx hb dX0_hookInStep_59 ?_
      refine lv_aload_n hx hb dX0_hookInStep_60 rfl (lv_at hl 1 rfl) ?_
      refine va_get (D := D) (ci := 0) (v := .int (nI n)) (C := RX0) (T := TX0) (N := 4) hx hb hts (fun _ h => (List.mem_cons_of_mem _ (List.mem_append_right _ h))) hown hK hP 0 rfl rfl 2 (by decide) (hts _ (List.mem_of_getElem? (i := 1) rfl)) (fun _ h9 => h9) rfl dX0_hookInStep_61 ?_
      refine an_rem hx hb (st_small3 hx9 hk) (by omega) (by omega) dX0_hookInStep_64 ?_
      exact en_i hx hb hr hlocks (by rw [at_, ho]) dX0_hookInStep_65
  · skip
    omega
end
section
/-! pure words, on: rows, and small facts of the words -/
def bh (n k : Nat) : Nat := if k + 1 < n then k + 1 else 0
def bf (n k : Nat) : Nat := if 0 < k then k - 1 else n - 1
theorem bh_lt {n k : Nat} (h : 0 < n) : bh n k < n := by unfold bh; split <;> omega
theorem bf_lt {n k : Nat} (h : k < n) : bf n k < n := by unfold bf; split <;> omega
def fw (n : Nat) (f : Nat → Int32) : Nat → Nat → Nat → Nat
  | 0, L, _ => L
  | q + 1, L, j => if f j = -1 then L else fw n f q (L + 1) (bh n j)
def bw (n : Nat) (f : Nat → Int32) : Nat → Nat → Nat → Nat
  | 0, L, _ => L
  | q + 1, L, j => if f j = -1 then L else bw n f q (L + 1) (bf n j)
theorem fw_y {n : Nat} {f : Nat → Int32} {q L j : Nat} (h : f j = -1) : fw n f (q + 1) L j = L := if_pos h
theorem fw_n {n : Nat} {f : Nat → Int32} {q L j : Nat} (h : ¬ f j = -1) : fw n f (q + 1) L j = fw n f q (L + 1) (bh n j) := if_neg h
theorem bw_y {n : Nat} {f : Nat → Int32} {q L j : Nat} (h : f j = -1) : bw n f (q + 1) L j = L := if_pos h
theorem bw_n {n : Nat} {f : Nat → Int32} {q L j : Nat} (h : ¬ f j = -1) : bw n f (q + 1) L j = bw n f q (L + 1) (bf n j) := if_neg h
theorem fw_le (n : Nat) (f : Nat → Int32) : ∀ (q L j : Nat), L ≤ fw n f q L j ∧ fw n f q L j ≤ L + q
  | 0, L, _ => ⟨Nat.le_refl _, Nat.le_refl _⟩
  | q + 1, L, j => by
    unfold fw
    split
    · omega
    · have := fw_le n f q (L + 1) (bh n j)
      omega
theorem bw_le (n : Nat) (f : Nat → Int32) : ∀ (q L j : Nat), L ≤ bw n f q L j ∧ bw n f q L j ≤ L + q
  | 0, L, _ => ⟨Nat.le_refl _, Nat.le_refl _⟩
  | q + 1, L, j => by
    unfold bw
    split
    · omega
    · have := bw_le n f q (L + 1) (bf n j)
      omega
def rl (n : Nat) (f : Nat → Int32) (k : Nat) : Nat := if f k = -1 then 0 else bw n f (n - fw n f (n - 1) 1 (bh n k)) (fw n f (n - 1) 1 (bh n k)) (bf n k)
theorem rl_le {n : Nat} (hn : 0 < n) (f : Nat → Int32) (k : Nat) : rl n f k ≤ n := by
  unfold rl
  split
  · omega
  · have h1 := fw_le n f (n - 1) 1 (bh n k)
    have h2 := bw_le n f (n - fw n f (n - 1) 1 (bh n k)) (fw n f (n - 1) 1 (bh n k)) (bf n k)
    omega
def rcs (n : Nat) (f : Nat → Int32) : Nat × Nat := fo (fun (a : Nat × Nat) i => if f i = -1 then a else (a.1 + (if f (bh n i) = -1 then 1 else 0), a.2 + 1)) n 0 (0, 0)
def rc (n : Nat) (f : Nat → Int32) : Nat := if (rcs n f).2 = n then 1 else (rcs n f).1
def lr (n : Nat) (f : Nat → Int32) : Nat := fo (fun a i => if a < rl n f i then rl n f i else a) n 0 0
theorem hd_in {n : Nat} {f : Nat → Int32} {k : Nat} (h : k < n) : hd n f k = f k := if_pos h
theorem sp_t {n w : Nat} {f : Nat → Int32} {x k : Nat} (h : f (at_ n w x k) = nI x ∨ f (at_ n w x k) = -1) : sp n w f x k = true := decide_eq_true h
theorem sp_f {n w : Nat} {f : Nat → Int32} {x k : Nat} (h1 : ¬ f (at_ n w x k) = nI x) (h2 : ¬ f (at_ n w x k) = -1) : sp n w f x k = false := decide_eq_false (fun z => z.elim h1 h2)
theorem lk_y {n w : Nat} {f : Nat → Int32} {x q i : Nat} (h2 : fs (sp n w f x) (q + 1) i = fs (sp n w f x) n 0) (hp : f (at_ n w x i) = nI x ∨ f (at_ n w x i) = -1) (hi : i < n) : i + 1 = lk n w f x := by
  rw [fs_y (sp_t hp)] at h2
  unfold lk
  rw [← h2, if_pos hi]
theorem lk_n {n w : Nat} {f : Nat → Int32} {x q i K : Nat} (h2 : fs (sp n w f x) (q + 1) i = K) (h3 : ¬ f (at_ n w x i) = nI x) (h4 : ¬ f (at_ n w x i) = -1) : fs (sp n w f x) q (i + 1) = K := by
  rw [fs_n (sp_f h3 h4)] at h2
  exact h2
theorem lk_z {n w : Nat} {f : Nat → Int32} {x i : Nat} (h2 : fs (sp n w f x) 0 i = fs (sp n w f x) n 0) (hi : i + 0 = n) : n = lk n w f x := by
  rw [fs_z] at h2
  unfold lk
  rw [← h2, if_neg (by omega)]
theorem hs_y {n : Nat} {f : Nat → Int32} {x q i : Nat} (h2 : fs (fun i => decide (f i = nI x)) (q + 1) i = fs (fun i => decide (f i = nI x)) n 0) (hp : f i = nI x) (hi : i < n) : 1 = hs n f x := by
  rw [fs_y (decide_eq_true hp)] at h2
  unfold hs
  rw [← h2, if_pos hi]
theorem hs_n {f : Nat → Int32} {x q i K : Nat} (h2 : fs (fun i => decide (f i = nI x)) (q + 1) i = K) (hp : ¬ f i = nI x) : fs (fun i => decide (f i = nI x)) q (i + 1) = K := by
  rw [fs_n (decide_eq_false hp)] at h2
  exact h2
theorem hs_z {n : Nat} {f : Nat → Int32} {x i : Nat} (h2 : fs (fun i => decide (f i = nI x)) 0 i = fs (fun i => decide (f i = nI x)) n 0) (hi : i + 0 = n) : 0 = hs n f x := by
  rw [fs_z] at h2
  unfold hs
  rw [← h2, if_neg (by omega)]
theorem hs_lt (n : Nat) (f : Nat → Int32) (x : Nat) : hs n f x < 2 ^ 31 := by unfold hs; split <;> omega
theorem tk_keep {n w : Nat} {f : Nat → Int32} {x i : Nat} {v : Int32} (h : tk n w f x i = v) (hv : v ≠ -1) : ∀ d, tk n w f x (i + d) = v
  | 0 => h
  | d + 1 => by
    have ih := tk_keep h hv d
    rw [← Nat.add_assoc, tk, if_neg (fun z => hv (by rw [← ih]; exact z.1))]
    exact ih
theorem tk_no {n w : Nat} {f : Nat → Int32} {x i : Nat} (h : tk n w f x i = -1) (h2 : ¬ f (at_ n w x i) = -2) : tk n w f x (i + 1) = -1 := by rw [tk, if_neg (fun z => h2 z.2)]; exact h
theorem tk_hit {n w : Nat} {f : Nat → Int32} {x i : Nat} (h : tk n w f x i = -1) (h2 : f (at_ n w x i) = -2) : tk n w f x (i + 1) = nI (at_ n w x i) := by rw [tk, if_pos ⟨h, h2⟩]
theorem op_t {n w : Nat} {f : Nat → Int32} {x i : Nat} (hn : 0 < n) (hn40 : n ≤ 40) (h : tk n w f x i = -1) (h2 : f (at_ n w x i) = -2) (hi : i < lk n w f x) : nI (at_ n w x i) = op n w f x := by
  have hne : nI (at_ n w x i) ≠ -1 := ne_m1 (by have := at_lt hn w x i; omega)
  have h3 := tk_keep (tk_hit h h2) hne (lk n w f x - (i + 1))
  rw [show i + 1 + (lk n w f x - (i + 1)) = lk n w f x by omega] at h3
  unfold op
  rw [h3, if_neg hne]
theorem op_f {n w : Nat} {f : Nat → Int32} {x i : Nat} (h : tk n w f x i = -1) (hi : i + 0 = lk n w f x) : op n w f x = fr n w f x := by
  have hi : i = lk n w f x := by omega
  unfold op
  rw [← hi, if_pos h]
theorem lx_p {n w : Nat} {f : Nat → Int32} {i x : Nat} (h0 : 0 ≤ f i) (h : (f i).toNatClampNeg = x) : lx n w f i = lk n w f x := by unfold lx; rw [if_pos h0, h]
theorem lx_0 {n w : Nat} {f : Nat → Int32} {i : Nat} (h0 : ¬ 0 ≤ f i) : lx n w f i = 0 := if_neg h0
/-! pure words, on: sweeping -/
def sw (n : Nat) : Nat → (Nat → Int32) → Nat → (Nat → Int32) × Nat
  | 0, f, a => (f, a)
  | q + 1, f, a => if f (q % n) = -2 ∧ f ((q + 1) % n) = -1 then sw n q (upd f (q % n) (-1)) (a + 1) else sw n q f a
theorem sw_0 {n : Nat} (h : 3 ≤ n) : n - 1 = (2 * n + n - 1) % n := by
  rw [show 2 * n + n - 1 = (n - 1) + n * 2 by omega, Nat.add_mul_mod_self_left]
  exact (Nat.mod_eq_of_lt (by omega)).symm
theorem sw_i {n q : Nat} (h : 0 < n) {t : Nat} (et : t = (q + 1 + n - 1) % n) : t = q % n := by
  rw [et, show q + 1 + n - 1 = q + n by omega, Nat.add_mod_right]
theorem bh_mod {n q : Nat} (h : 0 < n) : bh n (q % n) = (q + 1) % n := by
  have h1 := Nat.mod_lt q h
  unfold bh
  by_cases h2 : q % n + 1 < n
  · rw [if_pos h2, Nat.add_mod, Nat.mod_eq_of_lt (show 1 < n by omega), Nat.mod_eq_of_lt h2]
  · rw [if_neg h2]
    have h3 : q % n + 1 = n := by omega
    have h4 := Nat.div_add_mod q n
    rw [show q + 1 = n * (q / n + 1) by rw [Nat.mul_add, Nat.mul_one]; omega]
    exact (Nat.mul_mod_right n _).symm
theorem bf_mod {n q : Nat} (h : 0 < n) : bf n (q % n) = (q + n - 1) % n := by
  have h1 := Nat.mod_lt q h
  have h4 := Nat.div_add_mod q n
  unfold bf
  by_cases h2 : 0 < q % n
  · rw [if_pos h2, show q + n - 1 = (q % n - 1) + n * (q / n + 1) by rw [Nat.mul_add, Nat.mul_one]; omega, Nat.add_mul_mod_self_left]
    exact (Nat.mod_eq_of_lt (by omega)).symm
  · rw [if_neg h2, show q + n - 1 = (n - 1) + n * (q / n) by omega, Nat.add_mul_mod_self_left]
    exact (Nat.mod_eq_of_lt (by omega)).symm
theorem sw_t {n q t : Nat} (h : 0 < n) (et : t = (q + 1 + n - 1) % n) : bf n t = (q + n - 1) % n := by rw [sw_i h et]; exact bf_mod h
theorem sw_y {n q t a : Nat} {f : Nat → Int32} {V : (Nat → Int32) × Nat} (h : 0 < n) (et : t = (q + 1 + n - 1) % n) (h1 : f t = -2) (h2 : f (bh n t) = -1) (h3 : sw n (q + 1) f a = V) : sw n q (upd f t (-1)) (a + 1) = V := by
  have e := sw_i h et
  rw [e, bh_mod h] at h2
  rw [e] at h1 ⊢
  rw [← h3, sw, if_pos ⟨h1, h2⟩]
theorem sw_n1 {n q t a : Nat} {f : Nat → Int32} {V : (Nat → Int32) × Nat} (h : 0 < n) (et : t = (q + 1 + n - 1) % n) (h1 : ¬ f t = -2) (h3 : sw n (q + 1) f a = V) : sw n q f a = V := by
  have e := sw_i h et
  rw [e] at h1
  rw [← h3, sw, if_neg (fun z => h1 z.1)]
theorem sw_n2 {n q t a : Nat} {f : Nat → Int32} {V : (Nat → Int32) × Nat} (h : 0 < n) (et : t = (q + 1 + n - 1) % n) (h2 : ¬ f (bh n t) = -1) (h3 : sw n (q + 1) f a = V) : sw n q f a = V := by
  have e := sw_i h et
  rw [e, bh_mod h] at h2
  rw [← h3, sw, if_neg (fun z => h2 z.2)]
theorem ag_up {n t : Nat} {F f : Nat → Int32} {v : Int32} (h : ∀ k, k < n → F k = f k) : ∀ k, k < n → upd F t v k = upd f t v k := by
  intro k hk
  unfold upd
  split
  · rfl
  · exact h k hk
theorem RS.free {n w t : Nat} {F G f g : Nat → Int32} (S : RS n w F G f g) (ht : t < n) (h : f t = -2) : RS n w (upd F t (-1)) (upd G t (nI 0)) (upd f t (-1)) g := by
  obtain ⟨h1, h2, h3, hF, hG, hO⟩ := S
  have hg : g t = nI 0 := (hO.neg ht (by rw [h]; decide)).2
  refine ⟨h1, h2, h3, ag_up hF, fun k hk => ?_, fun k hk => ?_⟩
  · unfold upd
    split
    · rename_i e; rw [e]; exact hg.symm
    · exact hG k hk
  · unfold upd
    split
    · rename_i e; exact Or.inl ⟨rfl, by rw [e]; exact hg⟩
    · exact hO k hk
end
section
/-! Rack: methods that read, on -/
theorem k_X0_countLooks : yX0_countLooks.cls = RX0 ∧ yX0_countLooks.cls ≠ "java/lang/invoke/MethodHandle" ∧ yX0_countLooks.cls ≠ "java/lang/invoke/VarHandle" ∧ (parseMethodDescriptor yX0_countLooks.desc).map (fun d => d.parameters.length) = some 1 := by decide +kernel
set_option maxHeartbeats 4000000 in
set_option maxRecDepth 100000 in
theorem m_X0_countLooks (l : Launch) (D : va_G) (cI : ClassId) (h a1 a2 : Nat) {n w : Nat} {F G f g : Nat → Int32} (S : RS n w F G f g) (x : Nat) (hx9 : x ≤ 9999) : Met l yX0_countLooks wsX0_countLooks ({ frames := 1, cells := 0, slots := 0, locals := 23 } : Room) (PR D [(cI, .int)] [.ref h, .int (nI x)] (rkw cI h a1 a2 n w F G)) (vp_Si (fun r => r = nI (lk n w f x))) 0 0 (fun _ => False) := by
  obtain ⟨hn3, hn, hw2, hF, hG, hO⟩ := id S
  refine bd_p (cc := cX0_countLooks) (maxL := 4) (ret := (some .int)) (by decide) rfl (Nat.le_of_ble_eq_true rfl) ?_
  intro p e s m args below meth c ls CF hr hlocks hK hP hl
  obtain ⟨hx, hb, hml, hown, hts⟩ := id CF
  have hl : lv_has ls 4 [(0, .ref h), (1, .int (nI x))] := hl
  have hP : va_P D vwCl [(h, .inr (0, [.ref a1, .ref a2, .int (nI n), .int (nI w)])), (a1, .inl (cI, 40, .inl F)), (a2, .inl (cI, 40, .inl G))] s.heap := hP
  refine lv_iconst (v := nI 0) hx hb dX0_countLooks_0 (by decide) ?_
  refine lv_istore_n (lv' := [(2, .int (nI 0)), (0, .ref h), (1, .int (nI x))]) hx hb dX0_countLooks_1 rfl hl (by decide) rfl (fun ls hl => ?_)
  have LP2 : ∀ (q i : Nat), i + q = n → fs (sp n w f x) q i = fs (sp n w f x) n 0 → ∀ (ls : Array Slot), lv_has ls 4 [(2, .int (nI i)), (0, .ref h), (1, .int (nI x))] → W p l e ({ frames := 1, cells := 0, slots := 0, locals := 23 } : Room) s m args below meth c s.heap [] 0 0 (MQ below (vp_Si (fun r => r = nI (lk n w f x))) args s 0 0 (fun _ => False)) (F0 m 2 ls []) := by
    intro q
    induction q with
    | zero =>
      intro i h1 h2 ls hl
      refine lv_iload_n hx hb dX0_countLooks_2 rfl (lv_at hl 0 rfl) ?_
      refine lv_aload_n hx hb dX0_countLooks_3 rfl (lv_at hl 1 rfl) ?_
      refine va_get (D := D) (ci := 0) (v := .int (nI n)) (C := RX0) (T := TX0) (N := 4) hx hb hts (fun _ h => (List.mem_cons_of_mem _ (List.mem_append_right _ h))) hown hK hP 0 rfl rfl 2 (by decide) (hts _ (List.mem_of_getElem? (i := 1) rfl)) (fun _ h9 => h9) rfl dX0_countLooks_4 ?_
      refine bn_ge (tgt := 41) hx hb dX0_countLooks_7 (by decide) (by omega) (by omega) (fun c7 => ?_) (fun c7 => ?_)
      · skip
        refine lv_aload_n hx hb dX0_countLooks_41 rfl (lv_at hl 1 rfl) ?_
        refine va_get (D := D) (ci := 0) (v := .int (nI n)) (C := RX0) (T := TX0) (N := 4) hx hb hts (fun _ h => (List.mem_cons_of_mem _ (List.mem_append_right _ h))) hown hK hP 0 rfl rfl 2 (by decide) (hts _ (List.mem_of_getElem? (i := 1) rfl)) (fun _ h9 => h9) rfl dX0_countLooks_42 ?_
        exact en_i hx hb hr hlocks (congrArg nI (lk_z h2 h1)) dX0_countLooks_45
      · skip
        omega
    | succ q ih =>
      intro i h1 h2 ls hl
      refine lv_iload_n hx hb dX0_countLooks_2 rfl (lv_at hl 0 rfl) ?_
      refine lv_aload_n hx hb dX0_countLooks_3 rfl (lv_at hl 1 rfl) ?_
      refine va_get (D := D) (ci := 0) (v := .int (nI n)) (C := RX0) (T := TX0) (N := 4) hx hb hts (fun _ h => (List.mem_cons_of_mem _ (List.mem_append_right _ h))) hown hK hP 0 rfl rfl 2 (by decide) (hts _ (List.mem_of_getElem? (i := 1) rfl)) (fun _ h9 => h9) rfl dX0_countLooks_4 ?_
      refine bn_ge (tgt := 41) hx hb dX0_countLooks_7 (by decide) (by omega) (by omega) (fun c7 => ?_) (fun c7 => ?_)
      · skip
        omega
      · skip
        refine lv_aload_n hx hb dX0_countLooks_10 rfl (lv_at hl 1 rfl) ?_
        refine lv_aload_n hx hb dX0_countLooks_11 rfl (lv_at hl 1 rfl) ?_
        refine lv_iload_n hx hb dX0_countLooks_12 rfl (lv_at hl 2 rfl) ?_
        refine lv_iload_n hx hb dX0_countLooks_13 rfl (lv_at hl 0 rfl) ?_
        refine pv_i CF (m_X0_hookInStep l D cI h a1 a2 S x i hx9 (by omega)) (cwV 2 hts gX0_countLooks_X0_hookInStep rfl rfl rfl k_X0_hookInStep ⟨Nat.le_of_ble_eq_true rfl, Nat.le_of_ble_eq_true rfl⟩) hK hP rfl rfl rfl rfl hl.1 rfl (Nat.le_of_ble_eq_true rfl) dX0_countLooks_14 ⟨Nat.zero_le _, Nat.zero_le _⟩ ?_
        refine pv_i CF (m_X0_heldOn l D cI h a1 a2 S (at_ n w x i) (Nat.lt_trans (at_lt (by omega) w x i) (by omega))) (cwV 1 hts gX0_countLooks_X0_heldOn rfl rfl rfl k_X0_heldOn ⟨Nat.le_of_ble_eq_true rfl, Nat.le_of_ble_eq_true rfl⟩) hK hP rfl rfl rfl rfl hl.1 rfl (Nat.le_of_ble_eq_true rfl) dX0_countLooks_17 ⟨Nat.zero_le _, Nat.zero_le _⟩ ?_
        refine tp_i (y := (f (at_ n w x i))) (hd_in (at_lt (by omega) w x i)) ?_
        refine lv_istore_n (lv' := [(3, .int (f (at_ n w x i))), (2, .int (nI i)), (0, .ref h), (1, .int (nI x))]) hx hb dX0_countLooks_20 rfl hl (by decide) rfl (fun ls hl => ?_)
        refine lv_iload_n hx hb dX0_countLooks_21 rfl (lv_at hl 0 rfl) ?_
        refine lv_iload_n hx hb dX0_countLooks_22 rfl (lv_at hl 3 rfl) ?_
        refine lv_icmp_eq (tgt := 31) hx hb dX0_countLooks_23 (by decide) (fun c23 => ?_) (fun c23 => ?_)
        · skip
          refine lv_iload_n hx hb dX0_countLooks_31 rfl (lv_at hl 1 rfl) ?_
          refine lv_iconst (v := nI 1) hx hb dX0_countLooks_32 (by decide) ?_
          refine an_add hx hb dX0_countLooks_33 ?_
          exact en_i hx hb hr hlocks (congrArg nI (lk_y h2 (Or.inl c23) (by omega))) dX0_countLooks_34
        · skip
          refine lv_iload_n hx hb dX0_countLooks_26 rfl (lv_at hl 0 rfl) ?_
          refine lv_iconst (v := (-1)) hx hb dX0_countLooks_27 (by decide) ?_
          refine lv_icmp_ne (tgt := 35) hx hb dX0_countLooks_28 (by decide) (fun c28 => ?_) (fun c28 => ?_)
          · skip
            refine lv_iinc (v := (nI (i + 1))) (lv' := [(2, .int (nI (i + 1))), (3, .int (f (at_ n w x i))), (0, .ref h), (1, .int (nI x))]) hx hb dX0_countLooks_35 hl (k := 1) rfl (inc1 _) (by decide) rfl (fun ls hl => ?_)
            refine lv_goto (tgt := 2) hx hb dX0_countLooks_38 (by decide) ?_
            exact ih (i + 1) (by omega) (lk_n h2 c23 c28) _ (lv_sub hl [0, 2, 3] rfl)
          · skip
            refine lv_iload_n hx hb dX0_countLooks_31 rfl (lv_at hl 1 rfl) ?_
            refine lv_iconst (v := nI 1) hx hb dX0_countLooks_32 (by decide) ?_
            refine an_add hx hb dX0_countLooks_33 ?_
            exact en_i hx hb hr hlocks (congrArg nI (lk_y h2 (Or.inr c28) (by omega))) dX0_countLooks_34
  exact LP2 n 0 (Nat.zero_add n) rfl _ (lv_sub hl [0, 1, 2] rfl)
theorem k_X0_whereFound : yX0_whereFound.cls = RX0 ∧ yX0_whereFound.cls ≠ "java/lang/invoke/MethodHandle" ∧ yX0_whereFound.cls ≠ "java/lang/invoke/VarHandle" ∧ (parseMethodDescriptor yX0_whereFound.desc).map (fun d => d.parameters.length) = some 1 := by decide +kernel
set_option maxHeartbeats 4000000 in
set_option maxRecDepth 100000 in
theorem m_X0_whereFound (l : Launch) (D : va_G) (cI : ClassId) (h a1 a2 : Nat) {n w : Nat} {F G f g : Nat → Int32} (S : RS n w F G f g) (x : Nat) (hx9 : x ≤ 9999) : Met l yX0_whereFound wsX0_whereFound ({ frames := 2, cells := 0, slots := 0, locals := 46 } : Room) (PR D [(cI, .int)] [.ref h, .int (nI x)] (rkw cI h a1 a2 n w F G)) (vp_Si (fun r => r = fd n w f x)) 0 0 (fun _ => False) := by
  obtain ⟨hn3, hn, hw2, hF, hG, hO⟩ := id S
  refine bd_p (cc := cX0_whereFound) (maxL := 3) (ret := (some .int)) (by decide) rfl (Nat.le_of_ble_eq_true rfl) ?_
  intro p e s m args below meth c ls CF hr hlocks hK hP hl
  obtain ⟨hx, hb, hml, hown, hts⟩ := id CF
  have hl : lv_has ls 3 [(0, .ref h), (1, .int (nI x))] := hl
  have hP : va_P D vwCl [(h, .inr (0, [.ref a1, .ref a2, .int (nI n), .int (nI w)])), (a1, .inl (cI, 40, .inl F)), (a2, .inl (cI, 40, .inl G))] s.heap := hP
  refine lv_aload_n hx hb dX0_whereFound_0 rfl (lv_at hl 0 rfl) ?_
  refine lv_iload_n hx hb dX0_whereFound_1 rfl (lv_at hl 1 rfl) ?_
  refine lv_aload_n hx hb dX0_whereFound_2 rfl (lv_at hl 0 rfl) ?_
  refine lv_iload_n hx hb dX0_whereFound_3 rfl (lv_at hl 1 rfl) ?_
  refine pv_i CF (m_X0_countLooks l D cI h a1 a2 S x hx9) (cwV 1 hts gX0_whereFound_X0_countLooks rfl rfl rfl k_X0_countLooks ⟨Nat.le_of_ble_eq_true rfl, Nat.le_of_ble_eq_true rfl⟩) hK hP rfl rfl rfl rfl hl.1 rfl (Nat.le_of_ble_eq_true rfl) dX0_whereFound_4 ⟨Nat.zero_le _, Nat.zero_le _⟩ ?_
  refine lv_iconst (v := nI 1) hx hb dX0_whereFound_7 (by decide) ?_
  refine an_sub hx hb (lk_pos (by omega) w f x) dX0_whereFound_8 ?_
  refine pv_i CF (m_X0_hookInStep l D cI h a1 a2 S x (lk n w f x - 1) hx9 (by have := lk_le n w f x; omega)) (cwV 2 hts gX0_whereFound_X0_hookInStep rfl rfl rfl k_X0_hookInStep ⟨Nat.le_of_ble_eq_true rfl, Nat.le_of_ble_eq_true rfl⟩) hK hP rfl rfl rfl rfl hl.1 rfl (Nat.le_of_ble_eq_true rfl) dX0_whereFound_9 ⟨Nat.zero_le _, Nat.zero_le _⟩ ?_
  refine lv_istore_n (lv' := [(2, .int (nI (la n w f x))), (0, .ref h), (1, .int (nI x))]) hx hb dX0_whereFound_12 rfl hl (by decide) rfl (fun ls hl => ?_)
  refine lv_aload_n hx hb dX0_whereFound_13 rfl (lv_at hl 1 rfl) ?_
  refine lv_iload_n hx hb dX0_whereFound_14 rfl (lv_at hl 0 rfl) ?_
  refine pv_i CF (m_X0_heldOn l D cI h a1 a2 S (la n w f x) (Nat.lt_trans (at_lt (by omega) w x _) (by omega))) (cwV 1 hts gX0_whereFound_X0_heldOn rfl rfl rfl k_X0_heldOn ⟨Nat.le_of_ble_eq_true rfl, Nat.le_of_ble_eq_true rfl⟩) hK hP rfl rfl rfl rfl hl.1 rfl (Nat.le_of_ble_eq_true rfl) dX0_whereFound_15 ⟨Nat.zero_le _, Nat.zero_le _⟩ ?_
  refine tp_i (y := (f (la n w f x))) (hd_in (at_lt (by omega) w x _)) ?_
  refine lv_iload_n hx hb dX0_whereFound_18 rfl (lv_at hl 2 rfl) ?_
  refine lv_icmp_ne (tgt := 26) hx hb dX0_whereFound_19 (by decide) (fun c19 => ?_) (fun c19 => ?_)
  · skip
    refine lv_iconst (v := (-1)) hx hb dX0_whereFound_26 (by decide) ?_
    exact en_i hx hb hr hlocks ((if_neg c19).symm) dX0_whereFound_27
  · skip
    refine lv_iload_n hx hb dX0_whereFound_22 rfl (lv_at hl 0 rfl) ?_
    refine lv_goto (tgt := 27) hx hb dX0_whereFound_23 (by decide) ?_
    exact en_i hx hb hr hlocks ((if_pos c19).symm) dX0_whereFound_27
theorem k_X0_hangs : yX0_hangs.cls = RX0 ∧ yX0_hangs.cls ≠ "java/lang/invoke/MethodHandle" ∧ yX0_hangs.cls ≠ "java/lang/invoke/VarHandle" ∧ (parseMethodDescriptor yX0_hangs.desc).map (fun d => d.parameters.length) = some 1 := by decide +kernel
set_option maxHeartbeats 4000000 in
set_option maxRecDepth 100000 in
theorem m_X0_hangs (l : Launch) (D : va_G) (cI : ClassId) (h a1 a2 : Nat) {n w : Nat} {F G f g : Nat → Int32} (S : RS n w F G f g) (x : Nat) (hx9 : x ≤ 9999) : Met l yX0_hangs wsX0_hangs ({ frames := 1, cells := 0, slots := 0, locals := 21 } : Room) (PR D [(cI, .int)] [.ref h, .int (nI x)] (rkw cI h a1 a2 n w F G)) (vp_Si (fun r => r = nI (hs n f x))) 0 0 (fun _ => False) := by
  obtain ⟨hn3, hn, hw2, hF, hG, hO⟩ := id S
  refine bd_p (cc := cX0_hangs) (maxL := 3) (ret := (some .boolean)) (by decide) rfl (Nat.le_of_ble_eq_true rfl) ?_
  intro p e s m args below meth c ls CF hr hlocks hK hP hl
  obtain ⟨hx, hb, hml, hown, hts⟩ := id CF
  have hl : lv_has ls 3 [(0, .ref h), (1, .int (nI x))] := hl
  have hP : va_P D vwCl [(h, .inr (0, [.ref a1, .ref a2, .int (nI n), .int (nI w)])), (a1, .inl (cI, 40, .inl F)), (a2, .inl (cI, 40, .inl G))] s.heap := hP
  refine lv_iconst (v := nI 0) hx hb dX0_hangs_0 (by decide) ?_
  refine lv_istore_n (lv' := [(2, .int (nI 0)), (0, .ref h), (1, .int (nI x))]) hx hb dX0_hangs_1 rfl hl (by decide) rfl (fun ls hl => ?_)
  have LP2 : ∀ (q i : Nat), i + q = n → fs (fun i => decide (f i = nI x)) q i = fs (fun i => decide (f i = nI x)) n 0 → ∀ (ls : Array Slot), lv_has ls 3 [(2, .int (nI i)), (0, .ref h), (1, .int (nI x))] → W p l e ({ frames := 1, cells := 0, slots := 0, locals := 21 } : Room) s m args below meth c s.heap [] 0 0 (MQ below (vp_Si (fun r => r = nI (hs n f x))) args s 0 0 (fun _ => False)) (F0 m 2 ls []) := by
    intro q
    induction q with
    | zero =>
      intro i h1 h2 ls hl
      refine lv_iload_n hx hb dX0_hangs_2 rfl (lv_at hl 0 rfl) ?_
      refine lv_aload_n hx hb dX0_hangs_3 rfl (lv_at hl 1 rfl) ?_
      refine va_get (D := D) (ci := 0) (v := .int (nI n)) (C := RX0) (T := TX0) (N := 4) hx hb hts (fun _ h => (List.mem_cons_of_mem _ (List.mem_append_right _ h))) hown hK hP 0 rfl rfl 2 (by decide) (hts _ (List.mem_of_getElem? (i := 1) rfl)) (fun _ h9 => h9) rfl dX0_hangs_4 ?_
      refine bn_ge (tgt := 27) hx hb dX0_hangs_7 (by decide) (by omega) (by omega) (fun c7 => ?_) (fun c7 => ?_)
      · skip
        refine lv_iconst (v := nI 0) hx hb dX0_hangs_27 (by decide) ?_
        exact en_z hx hb hr hlocks (Or.inl rfl) (congrArg nI (hs_z h2 h1)) dX0_hangs_28
      · skip
        omega
    | succ q ih =>
      intro i h1 h2 ls hl
      refine lv_iload_n hx hb dX0_hangs_2 rfl (lv_at hl 0 rfl) ?_
      refine lv_aload_n hx hb dX0_hangs_3 rfl (lv_at hl 1 rfl) ?_
      refine va_get (D := D) (ci := 0) (v := .int (nI n)) (C := RX0) (T := TX0) (N := 4) hx hb hts (fun _ h => (List.mem_cons_of_mem _ (List.mem_append_right _ h))) hown hK hP 0 rfl rfl 2 (by decide) (hts _ (List.mem_of_getElem? (i := 1) rfl)) (fun _ h9 => h9) rfl dX0_hangs_4 ?_
      refine bn_ge (tgt := 27) hx hb dX0_hangs_7 (by decide) (by omega) (by omega) (fun c7 => ?_) (fun c7 => ?_)
      · skip
        omega
      · skip
        refine lv_aload_n hx hb dX0_hangs_10 rfl (lv_at hl 1 rfl) ?_
        refine lv_iload_n hx hb dX0_hangs_11 rfl (lv_at hl 0 rfl) ?_
        refine pv_i CF (m_X0_heldOn l D cI h a1 a2 S i (by omega)) (cwV 1 hts gX0_hangs_X0_heldOn rfl rfl rfl k_X0_heldOn ⟨Nat.le_of_ble_eq_true rfl, Nat.le_of_ble_eq_true rfl⟩) hK hP rfl rfl rfl rfl hl.1 rfl (Nat.le_of_ble_eq_true rfl) dX0_hangs_12 ⟨Nat.zero_le _, Nat.zero_le _⟩ ?_
        refine tp_i (y := (f i)) (hd_in (by omega)) ?_
        refine lv_iload_n hx hb dX0_hangs_15 rfl (lv_at hl 2 rfl) ?_
        refine lv_icmp_ne (tgt := 21) hx hb dX0_hangs_16 (by decide) (fun c16 => ?_) (fun c16 => ?_)
        · skip
          refine lv_iinc (v := (nI (i + 1))) (lv' := [(2, .int (nI (i + 1))), (0, .ref h), (1, .int (nI x))]) hx hb dX0_hangs_21 hl (k := 0) rfl (inc1 _) (by decide) rfl (fun ls hl => ?_)
          refine lv_goto (tgt := 2) hx hb dX0_hangs_24 (by decide) ?_
          exact ih (i + 1) (by omega) (hs_n h2 c16) _ (lv_sub hl [0, 1, 2] rfl)
        · skip
          refine lv_iconst (v := nI 1) hx hb dX0_hangs_19 (by decide) ?_
          exact en_z hx hb hr hlocks (Or.inr rfl) (congrArg nI (hs_y h2 c16 (by omega))) dX0_hangs_20
  exact LP2 n 0 (Nat.zero_add n) rfl _ (lv_sub hl [0, 1, 2] rfl)
theorem k_X0_openHook : yX0_openHook.cls = RX0 ∧ yX0_openHook.cls ≠ "java/lang/invoke/MethodHandle" ∧ yX0_openHook.cls ≠ "java/lang/invoke/VarHandle" ∧ (parseMethodDescriptor yX0_openHook.desc).map (fun d => d.parameters.length) = some 1 := by decide +kernel
set_option maxHeartbeats 4000000 in
set_option maxRecDepth 100000 in
theorem m_X0_openHook (l : Launch) (D : va_G) (cI : ClassId) (h a1 a2 : Nat) {n w : Nat} {F G f g : Nat → Int32} (S : RS n w F G f g) (x : Nat) (hx9 : x ≤ 9999) : Met l yX0_openHook wsX0_openHook ({ frames := 2, cells := 0, slots := 0, locals := 46 } : Room) (PR D [(cI, .int)] [.ref h, .int (nI x)] (rkw cI h a1 a2 n w F G)) (vp_Si (fun r => r = op n w f x)) 0 0 (fun _ => False) := by
  obtain ⟨hn3, hn, hw2, hF, hG, hO⟩ := id S
  refine bd_p (cc := cX0_openHook) (maxL := 5) (ret := (some .int)) (by decide) rfl (Nat.le_of_ble_eq_true rfl) ?_
  intro p e s m args below meth c ls CF hr hlocks hK hP hl
  obtain ⟨hx, hb, hml, hown, hts⟩ := id CF
  have hl : lv_has ls 5 [(0, .ref h), (1, .int (nI x))] := hl
  have hP : va_P D vwCl [(h, .inr (0, [.ref a1, .ref a2, .int (nI n), .int (nI w)])), (a1, .inl (cI, 40, .inl F)), (a2, .inl (cI, 40, .inl G))] s.heap := hP
  have hlk := lk_le n w f x
  refine lv_aload_n hx hb dX0_openHook_0 rfl (lv_at hl 0 rfl) ?_
  refine lv_iload_n hx hb dX0_openHook_1 rfl (lv_at hl 1 rfl) ?_
  refine pv_i CF (m_X0_countLooks l D cI h a1 a2 S x hx9) (cwV 1 hts gX0_openHook_X0_countLooks rfl rfl rfl k_X0_countLooks ⟨Nat.le_of_ble_eq_true rfl, Nat.le_of_ble_eq_true rfl⟩) hK hP rfl rfl rfl rfl hl.1 rfl (Nat.le_of_ble_eq_true rfl) dX0_openHook_2 ⟨Nat.zero_le _, Nat.zero_le _⟩ ?_
  refine lv_istore_n (lv' := [(2, .int (nI (lk n w f x))), (0, .ref h), (1, .int (nI x))]) hx hb dX0_openHook_5 rfl hl (by decide) rfl (fun ls hl => ?_)
  refine lv_iconst (v := nI 0) hx hb dX0_openHook_6 (by decide) ?_
  refine lv_istore_n (lv' := [(3, .int (nI 0)), (2, .int (nI (lk n w f x))), (0, .ref h), (1, .int (nI x))]) hx hb dX0_openHook_7 rfl hl (by decide) rfl (fun ls hl => ?_)
  have LP8 : ∀ (q i : Nat), i + q = lk n w f x → tk n w f x i = -1 → ∀ (ls : Array Slot), lv_has ls 5 [(3, .int (nI i)), (2, .int (nI (lk n w f x))), (0, .ref h), (1, .int (nI x))] → W p l e ({ frames := 2, cells := 0, slots := 0, locals := 46 } : Room) s m args below meth c s.heap [] 0 0 (MQ below (vp_Si (fun r => r = op n w f x)) args s 0 0 (fun _ => False)) (F0 m 8 ls []) := by
    intro q
    induction q with
    | zero =>
      intro i h1 h2 ls hl
      refine lv_iload_n hx hb dX0_openHook_8 rfl (lv_at hl 0 rfl) ?_
      refine lv_iload_n hx hb dX0_openHook_9 rfl (lv_at hl 1 rfl) ?_
      refine bn_ge (tgt := 41) hx hb dX0_openHook_10 (by decide) (by omega) (by omega) (fun c10 => ?_) (fun c10 => ?_)
      · skip
        refine lv_aload_n hx hb dX0_openHook_41 rfl (lv_at hl 2 rfl) ?_
        refine lv_iload_n hx hb dX0_openHook_42 rfl (lv_at hl 3 rfl) ?_
        refine lv_iload_n hx hb dX0_openHook_43 rfl (lv_at hl 1 rfl) ?_
        refine lv_iconst (v := nI 1) hx hb dX0_openHook_44 (by decide) ?_
        refine an_sub hx hb (lk_pos (by omega) w f x) dX0_openHook_45 ?_
        refine pv_i CF (m_X0_hookInStep l D cI h a1 a2 S x (lk n w f x - 1) hx9 (by omega)) (cwV 2 hts gX0_openHook_X0_hookInStep rfl rfl rfl k_X0_hookInStep ⟨Nat.le_of_ble_eq_true rfl, Nat.le_of_ble_eq_true rfl⟩) hK hP rfl rfl rfl rfl hl.1 rfl (Nat.le_of_ble_eq_true rfl) dX0_openHook_46 ⟨Nat.zero_le _, Nat.zero_le _⟩ ?_
        refine lv_istore_n (lv' := [(3, .int (nI (la n w f x))), (2, .int (nI (lk n w f x))), (0, .ref h), (1, .int (nI x))]) hx hb dX0_openHook_49 rfl hl (by decide) rfl (fun ls hl => ?_)
        refine lv_aload_n hx hb dX0_openHook_50 rfl (lv_at hl 2 rfl) ?_
        refine lv_iload_n hx hb dX0_openHook_51 rfl (lv_at hl 0 rfl) ?_
        refine pv_i CF (m_X0_heldOn l D cI h a1 a2 S (la n w f x) (Nat.lt_trans (at_lt (by omega) w x _) (by omega))) (cwV 1 hts gX0_openHook_X0_heldOn rfl rfl rfl k_X0_heldOn ⟨Nat.le_of_ble_eq_true rfl, Nat.le_of_ble_eq_true rfl⟩) hK hP rfl rfl rfl rfl hl.1 rfl (Nat.le_of_ble_eq_true rfl) dX0_openHook_52 ⟨Nat.zero_le _, Nat.zero_le _⟩ ?_
        refine tp_i (y := (f (la n w f x))) (hd_in (at_lt (by omega) w x _)) ?_
        refine lv_iconst (v := (-1)) hx hb dX0_openHook_55 (by decide) ?_
        refine lv_icmp_ne (tgt := 63) hx hb dX0_openHook_56 (by decide) (fun c56 => ?_) (fun c56 => ?_)
        · skip
          refine lv_iconst (v := (-1)) hx hb dX0_openHook_63 (by decide) ?_
          exact en_i hx hb hr hlocks (((op_f h2 h1).trans (if_neg c56)).symm) dX0_openHook_64
        · skip
          refine lv_iload_n hx hb dX0_openHook_59 rfl (lv_at hl 0 rfl) ?_
          refine lv_goto (tgt := 64) hx hb dX0_openHook_60 (by decide) ?_
          exact en_i hx hb hr hlocks (((op_f h2 h1).trans (if_pos c56)).symm) dX0_openHook_64
      · skip
        omega
    | succ q ih =>
      intro i h1 h2 ls hl
      refine lv_iload_n hx hb dX0_openHook_8 rfl (lv_at hl 0 rfl) ?_
      refine lv_iload_n hx hb dX0_openHook_9 rfl (lv_at hl 1 rfl) ?_
      refine bn_ge (tgt := 41) hx hb dX0_openHook_10 (by decide) (by omega) (by omega) (fun c10 => ?_) (fun c10 => ?_)
      · skip
        omega
      · skip
        refine lv_aload_n hx hb dX0_openHook_13 rfl (lv_at hl 2 rfl) ?_
        refine lv_iload_n hx hb dX0_openHook_14 rfl (lv_at hl 3 rfl) ?_
        refine lv_iload_n hx hb dX0_openHook_15 rfl (lv_at hl 0 rfl) ?_
        refine pv_i CF (m_X0_hookInStep l D cI h a1 a2 S x i hx9 (by omega)) (cwV 2 hts gX0_openHook_X0_hookInStep rfl rfl rfl k_X0_hookInStep ⟨Nat.le_of_ble_eq_true rfl, Nat.le_of_ble_eq_true rfl⟩) hK hP rfl rfl rfl rfl hl.1 rfl (Nat.le_of_ble_eq_true rfl) dX0_openHook_16 ⟨Nat.zero_le _, Nat.zero_le _⟩ ?_
        refine lv_istore (lv' := [(4, .int (nI (at_ n w x i))), (3, .int (nI i)), (2, .int (nI (lk n w f x))), (0, .ref h), (1, .int (nI x))]) hx hb dX0_openHook_19 hl (by decide) rfl (fun ls hl => ?_)
        refine lv_aload_n hx hb dX0_openHook_21 rfl (lv_at hl 3 rfl) ?_
        refine lv_iload hx hb dX0_openHook_22 (lv_at hl 0 rfl) ?_
        refine pv_i CF (m_X0_heldOn l D cI h a1 a2 S (at_ n w x i) (Nat.lt_trans (at_lt (by omega) w x i) (by omega))) (cwV 1 hts gX0_openHook_X0_heldOn rfl rfl rfl k_X0_heldOn ⟨Nat.le_of_ble_eq_true rfl, Nat.le_of_ble_eq_true rfl⟩) hK hP rfl rfl rfl rfl hl.1 rfl (Nat.le_of_ble_eq_true rfl) dX0_openHook_24 ⟨Nat.zero_le _, Nat.zero_le _⟩ ?_
        refine tp_i (y := (f (at_ n w x i))) (hd_in (at_lt (by omega) w x i)) ?_
        refine lv_bipush (v := (-2)) hx hb dX0_openHook_27 (by decide) ?_
        refine lv_icmp_ne (tgt := 35) hx hb dX0_openHook_29 (by decide) (fun c29 => ?_) (fun c29 => ?_)
        · skip
          refine lv_iinc (v := (nI (i + 1))) (lv' := [(3, .int (nI (i + 1))), (4, .int (nI (at_ n w x i))), (2, .int (nI (lk n w f x))), (0, .ref h), (1, .int (nI x))]) hx hb dX0_openHook_35 hl (k := 1) rfl (inc1 _) (by decide) rfl (fun ls hl => ?_)
          refine lv_goto (tgt := 8) hx hb dX0_openHook_38 (by decide) ?_
          exact ih (i + 1) (by omega) (tk_no h2 c29) _ (lv_sub hl [0, 2, 3, 4] rfl)
        · skip
          refine lv_iload hx hb dX0_openHook_32 (lv_at hl 0 rfl) ?_
          exact en_i hx hb hr hlocks (op_t (by omega) hn h2 c29 (by omega)) dX0_openHook_34
  exact LP8 (lk n w f x) 0 (Nat.zero_add _) rfl _ (lv_sub hl [0, 1, 2, 3] rfl)
theorem k_X0_placeOf : yX0_placeOf.cls = RX0 ∧ yX0_placeOf.cls ≠ "java/lang/invoke/MethodHandle" ∧ yX0_placeOf.cls ≠ "java/lang/invoke/VarHandle" ∧ (parseMethodDescriptor yX0_placeOf.desc).map (fun d => d.parameters.length) = some 1 := by decide +kernel
set_option maxHeartbeats 4000000 in
set_option maxRecDepth 100000 in
theorem m_X0_placeOf (l : Launch) (D : va_G) (cI : ClassId) (h a1 a2 : Nat) {n w : Nat} {F G f g : Nat → Int32} (S : RS n w F G f g) (x : Nat) (hx9 : x ≤ 9999) : Met l yX0_placeOf wsX0_placeOf ({ frames := 3, cells := 0, slots := 0, locals := 70 } : Room) (PR D [(cI, .int)] [.ref h, .int (nI x)] (rkw cI h a1 a2 n w F G)) (vp_Si (fun r => r = pl n w f x)) 0 0 (fun _ => False) := by
  obtain ⟨hn3, hn, hw2, hF, hG, hO⟩ := id S
  refine bd_p (cc := cX0_placeOf) (maxL := 2) (ret := (some .int)) (by decide) rfl (Nat.le_of_ble_eq_true rfl) ?_
  intro p e s m args below meth c ls CF hr hlocks hK hP hl
  obtain ⟨hx, hb, hml, hown, hts⟩ := id CF
  have hl : lv_has ls 2 [(0, .ref h), (1, .int (nI x))] := hl
  have hP : va_P D vwCl [(h, .inr (0, [.ref a1, .ref a2, .int (nI n), .int (nI w)])), (a1, .inl (cI, 40, .inl F)), (a2, .inl (cI, 40, .inl G))] s.heap := hP
  refine lv_aload_n hx hb dX0_placeOf_0 rfl (lv_at hl 0 rfl) ?_
  refine lv_iload_n hx hb dX0_placeOf_1 rfl (lv_at hl 1 rfl) ?_
  refine pv_i CF (m_X0_hangs l D cI h a1 a2 S x hx9) (cwV 1 hts gX0_placeOf_X0_hangs rfl rfl rfl k_X0_hangs ⟨Nat.le_of_ble_eq_true rfl, Nat.le_of_ble_eq_true rfl⟩) hK hP rfl rfl rfl rfl hl.1 rfl (Nat.le_of_ble_eq_true rfl) dX0_placeOf_2 ⟨Nat.zero_le _, Nat.zero_le _⟩ ?_
  refine bz_eq (tgt := 12) hx hb dX0_placeOf_5 (by decide) (hs_lt n f x) (fun c5 => ?_) (fun c5 => ?_)
  · skip
    refine lv_aload_n hx hb dX0_placeOf_12 rfl (lv_at hl 0 rfl) ?_
    refine lv_iload_n hx hb dX0_placeOf_13 rfl (lv_at hl 1 rfl) ?_
    refine pv_i CF (m_X0_openHook l D cI h a1 a2 S x hx9) (cwV 1 hts gX0_placeOf_X0_openHook rfl rfl rfl k_X0_openHook ⟨Nat.le_of_ble_eq_true rfl, Nat.le_of_ble_eq_true rfl⟩) hK hP rfl rfl rfl rfl hl.1 rfl (Nat.le_of_ble_eq_true rfl) dX0_placeOf_14 ⟨Nat.zero_le _, Nat.zero_le _⟩ ?_
    exact en_i hx hb hr hlocks ((if_pos c5).symm) dX0_placeOf_17
  · skip
    refine lv_iconst (v := (-1)) hx hb dX0_placeOf_8 (by decide) ?_
    refine lv_goto (tgt := 17) hx hb dX0_placeOf_9 (by decide) ?_
    exact en_i hx hb hr hlocks ((if_neg c5).symm) dX0_placeOf_17
theorem k_X0_looksForAll : yX0_looksForAll.cls = RX0 ∧ yX0_looksForAll.cls ≠ "java/lang/invoke/MethodHandle" ∧ yX0_looksForAll.cls ≠ "java/lang/invoke/VarHandle" ∧ (parseMethodDescriptor yX0_looksForAll.desc).map (fun d => d.parameters.length) = some 0 := by decide +kernel
set_option maxHeartbeats 4000000 in
set_option maxRecDepth 100000 in
theorem m_X0_looksForAll (l : Launch) (D : va_G) (cI : ClassId) (h a1 a2 : Nat) {n w : Nat} {F G f g : Nat → Int32} (S : RS n w F G f g) : Met l yX0_looksForAll wsX0_looksForAll ({ frames := 2, cells := 0, slots := 0, locals := 46 } : Room) (PR D [(cI, .int)] [.ref h] (rkw cI h a1 a2 n w F G)) (vp_Si (fun r => r = nI (sm n w f))) 0 0 (fun _ => False) := by
  obtain ⟨hn3, hn, hw2, hF, hG, hO⟩ := id S
  refine bd_p (cc := cX0_looksForAll) (maxL := 4) (ret := (some .int)) (by decide) rfl (Nat.le_of_ble_eq_true rfl) ?_
  intro p e s m args below meth c ls CF hr hlocks hK hP hl
  obtain ⟨hx, hb, hml, hown, hts⟩ := id CF
  have hl : lv_has ls 4 [(0, .ref h)] := hl
  have hP : va_P D vwCl [(h, .inr (0, [.ref a1, .ref a2, .int (nI n), .int (nI w)])), (a1, .inl (cI, 40, .inl F)), (a2, .inl (cI, 40, .inl G))] s.heap := hP
  refine lv_iconst (v := nI 0) hx hb dX0_looksForAll_0 (by decide) ?_
  refine lv_istore_n (lv' := [(1, .int (nI 0)), (0, .ref h)]) hx hb dX0_looksForAll_1 rfl hl (by decide) rfl (fun ls hl => ?_)
  refine lv_iconst (v := nI 0) hx hb dX0_looksForAll_2 (by decide) ?_
  refine lv_istore_n (lv' := [(2, .int (nI 0)), (1, .int (nI 0)), (0, .ref h)]) hx hb dX0_looksForAll_3 rfl hl (by decide) rfl (fun ls hl => ?_)
  have LP4 : ∀ (q i a : Nat), i + q = n → fo (fun a i => a + lx n w f i) q i a = sm n w f → ∀ (ls : Array Slot), lv_has ls 4 [(2, .int (nI i)), (1, .int (nI a)), (0, .ref h)] → W p l e ({ frames := 2, cells := 0, slots := 0, locals := 46 } : Room) s m args below meth c s.heap [] 0 0 (MQ below (vp_Si (fun r => r = nI (sm n w f))) args s 0 0 (fun _ => False)) (F0 m 4 ls []) := by
    intro q
    induction q with
    | zero =>
      intro i a h1 h2 ls hl
      refine lv_iload_n hx hb dX0_looksForAll_4 rfl (lv_at hl 0 rfl) ?_
      refine lv_aload_n hx hb dX0_looksForAll_5 rfl (lv_at hl 2 rfl) ?_
      refine va_get (D := D) (ci := 0) (v := .int (nI n)) (C := RX0) (T := TX0) (N := 4) hx hb hts (fun _ h => (List.mem_cons_of_mem _ (List.mem_append_right _ h))) hown hK hP 0 rfl rfl 2 (by decide) (hts _ (List.mem_of_getElem? (i := 1) rfl)) (fun _ h9 => h9) rfl dX0_looksForAll_6 ?_
      refine bn_ge (tgt := 36) hx hb dX0_looksForAll_9 (by decide) (by omega) (by omega) (fun c9 => ?_) (fun c9 => ?_)
      · skip
        refine lv_iload_n hx hb dX0_looksForAll_36 rfl (lv_at hl 1 rfl) ?_
        exact en_i hx hb hr hlocks (congrArg nI h2) dX0_looksForAll_37
      · skip
        omega
    | succ q ih =>
      intro i a h1 h2 ls hl
      refine lv_iload_n hx hb dX0_looksForAll_4 rfl (lv_at hl 0 rfl) ?_
      refine lv_aload_n hx hb dX0_looksForAll_5 rfl (lv_at hl 2 rfl) ?_
      refine va_get (D := D) (ci := 0) (v := .int (nI n)) (C := RX0) (T := TX0) (N := 4) hx hb hts (fun _ h => (List.mem_cons_of_mem _ (List.mem_append_right _ h))) hown hK hP 0 rfl rfl 2 (by decide) (hts _ (List.mem_of_getElem? (i := 1) rfl)) (fun _ h9 => h9) rfl dX0_looksForAll_6 ?_
      refine bn_ge (tgt := 36) hx hb dX0_looksForAll_9 (by decide) (by omega) (by omega) (fun c9 => ?_) (fun c9 => ?_)
      · skip
        omega
      · skip
        refine lv_aload_n hx hb dX0_looksForAll_12 rfl (lv_at hl 2 rfl) ?_
        refine lv_iload_n hx hb dX0_looksForAll_13 rfl (lv_at hl 0 rfl) ?_
        refine pv_i CF (m_X0_heldOn l D cI h a1 a2 S i (by omega)) (cwV 1 hts gX0_looksForAll_X0_heldOn rfl rfl rfl k_X0_heldOn ⟨Nat.le_of_ble_eq_true rfl, Nat.le_of_ble_eq_true rfl⟩) hK hP rfl rfl rfl rfl hl.1 rfl (Nat.le_of_ble_eq_true rfl) dX0_looksForAll_14 ⟨Nat.zero_le _, Nat.zero_le _⟩ ?_
        refine tp_i (y := (f i)) (hd_in (by omega)) ?_
        refine lv_istore_n (lv' := [(3, .int (f i)), (2, .int (nI i)), (1, .int (nI a)), (0, .ref h)]) hx hb dX0_looksForAll_17 rfl hl (by decide) rfl (fun ls hl => ?_)
        refine lv_iload_n hx hb dX0_looksForAll_18 rfl (lv_at hl 0 rfl) ?_
        refine lv_if_lt (tgt := 30) hx hb dX0_looksForAll_19 (by decide) (fun c19 => ?_) (fun c19 => ?_)
        · skip
          refine lv_iinc (v := (nI (i + 1))) (lv' := [(2, .int (nI (i + 1))), (3, .int (f i)), (1, .int (nI a)), (0, .ref h)]) hx hb dX0_looksForAll_30 hl (k := 1) rfl (inc1 _) (by decide) rfl (fun ls hl => ?_)
          refine lv_goto (tgt := 4) hx hb dX0_looksForAll_33 (by decide) ?_
          exact ih (i + 1) a (by omega) (by rw [fo_s, lx_0 (fun z => not_lt0 z c19)] at h2; exact h2) _ (lv_sub hl [0, 2, 3] rfl)
        · skip
          refine lv_iload_n hx hb dX0_looksForAll_22 rfl (lv_at hl 2 rfl) ?_
          refine lv_aload_n hx hb dX0_looksForAll_23 rfl (lv_at hl 3 rfl) ?_
          refine lv_iload_n hx hb dX0_looksForAll_24 rfl (lv_at hl 0 rfl) ?_
          obtain ⟨x, hx9, ex, ez⟩ := hO.num (k := i) (by omega) (ge0 c19)
          refine tp_i (y := nI x) ex ?_
          refine pv_i CF (m_X0_countLooks l D cI h a1 a2 S x hx9) (cwV 1 hts gX0_looksForAll_X0_countLooks rfl rfl rfl k_X0_countLooks ⟨Nat.le_of_ble_eq_true rfl, Nat.le_of_ble_eq_true rfl⟩) hK hP rfl rfl rfl rfl hl.1 rfl (Nat.le_of_ble_eq_true rfl) dX0_looksForAll_25 ⟨Nat.zero_le _, Nat.zero_le _⟩ ?_
          refine an_add hx hb dX0_looksForAll_28 ?_
          refine lv_istore_n (lv' := [(1, .int (nI (a + (lk n w f x)))), (3, .int (f i)), (2, .int (nI i)), (0, .ref h)]) hx hb dX0_looksForAll_29 rfl hl (by decide) rfl (fun ls hl => ?_)
          refine lv_iinc (v := (nI (i + 1))) (lv' := [(2, .int (nI (i + 1))), (1, .int (nI (a + (lk n w f x)))), (3, .int (f i)), (0, .ref h)]) hx hb dX0_looksForAll_30 hl (k := 2) rfl (inc1 _) (by decide) rfl (fun ls hl => ?_)
          refine lv_goto (tgt := 4) hx hb dX0_looksForAll_33 (by decide) ?_
          exact ih (i + 1) (a + lk n w f x) (by omega) (by rw [fo_s, lx_p (ge0 c19) ez] at h2; exact h2) _ (lv_sub hl [0, 1, 3] rfl)
  exact LP4 n 0 0 (Nat.zero_add n) rfl _ (lv_sub hl [0, 1, 2] rfl)
theorem k_X0_coatWithMostLooks : yX0_coatWithMostLooks.cls = RX0 ∧ yX0_coatWithMostLooks.cls ≠ "java/lang/invoke/MethodHandle" ∧ yX0_coatWithMostLooks.cls ≠ "java/lang/invoke/VarHandle" ∧ (parseMethodDescriptor yX0_coatWithMostLooks.desc).map (fun d => d.parameters.length) = some 0 := by decide +kernel
set_option maxHeartbeats 4000000 in
set_option maxRecDepth 100000 in
theorem m_X0_coatWithMostLooks (l : Launch) (D : va_G) (cI : ClassId) (h a1 a2 : Nat) {n w : Nat} {F G f g : Nat → Int32} (S : RS n w F G f g) : Met l yX0_coatWithMostLooks wsX0_coatWithMostLooks ({ frames := 2, cells := 0, slots := 0, locals := 46 } : Room) (PR D [(cI, .int)] [.ref h] (rkw cI h a1 a2 n w F G)) (vp_Si (fun r => r = (fa n w f).1)) 0 0 (fun _ => False) := by
  obtain ⟨hn3, hn, hw2, hF, hG, hO⟩ := id S
  refine bd_p (cc := cX0_coatWithMostLooks) (maxL := 6) (ret := (some .int)) (by decide) rfl (Nat.le_of_ble_eq_true rfl) ?_
  intro p e s m args below meth c ls CF hr hlocks hK hP hl
  obtain ⟨hx, hb, hml, hown, hts⟩ := id CF
  have hl : lv_has ls 6 [(0, .ref h)] := hl
  have hP : va_P D vwCl [(h, .inr (0, [.ref a1, .ref a2, .int (nI n), .int (nI w)])), (a1, .inl (cI, 40, .inl F)), (a2, .inl (cI, 40, .inl G))] s.heap := hP
  refine lv_iconst (v := (-1)) hx hb dX0_coatWithMostLooks_0 (by decide) ?_
  refine lv_istore_n (lv' := [(1, .int (-1)), (0, .ref h)]) hx hb dX0_coatWithMostLooks_1 rfl hl (by decide) rfl (fun ls hl => ?_)
  refine lv_iconst (v := nI 0) hx hb dX0_coatWithMostLooks_2 (by decide) ?_
  refine lv_istore_n (lv' := [(2, .int (nI 0)), (1, .int (-1)), (0, .ref h)]) hx hb dX0_coatWithMostLooks_3 rfl hl (by decide) rfl (fun ls hl => ?_)
  refine lv_iconst (v := nI 0) hx hb dX0_coatWithMostLooks_4 (by decide) ?_
  refine lv_istore_n (lv' := [(3, .int (nI 0)), (2, .int (nI 0)), (1, .int (-1)), (0, .ref h)]) hx hb dX0_coatWithMostLooks_5 rfl hl (by decide) rfl (fun ls hl => ?_)
  have LP6 : ∀ (q i : Nat) (a : Int32) (b : Nat), i + q = n → b ≤ 40 → fo (fun (a : Int32 × Nat) i => if a.2 < lx n w f i then (f i, lx n w f i) else a) q i (a, b) = fa n w f → ∀ (ls : Array Slot), lv_has ls 6 [(3, .int (nI i)), (2, .int (nI b)), (1, .int a), (0, .ref h)] → W p l e ({ frames := 2, cells := 0, slots := 0, locals := 46 } : Room) s m args below meth c s.heap [] 0 0 (MQ below (vp_Si (fun r => r = (fa n w f).1)) args s 0 0 (fun _ => False)) (F0 m 6 ls []) := by
    intro q
    induction q with
    | zero =>
      intro i a b h1 hb9 h2 ls hl
      refine lv_iload_n hx hb dX0_coatWithMostLooks_6 rfl (lv_at hl 0 rfl) ?_
      refine lv_aload_n hx hb dX0_coatWithMostLooks_7 rfl (lv_at hl 3 rfl) ?_
      refine va_get (D := D) (ci := 0) (v := .int (nI n)) (C := RX0) (T := TX0) (N := 4) hx hb hts (fun _ h => (List.mem_cons_of_mem _ (List.mem_append_right _ h))) hown hK hP 0 rfl rfl 2 (by decide) (hts _ (List.mem_of_getElem? (i := 1) rfl)) (fun _ h9 => h9) rfl dX0_coatWithMostLooks_8 ?_
      refine bn_ge (tgt := 56) hx hb dX0_coatWithMostLooks_11 (by decide) (by omega) (by omega) (fun c11 => ?_) (fun c11 => ?_)
      · skip
        refine lv_iload_n hx hb dX0_coatWithMostLooks_56 rfl (lv_at hl 2 rfl) ?_
        exact en_i hx hb hr hlocks (congrArg Prod.fst h2 : _) dX0_coatWithMostLooks_57
      · skip
        omega
    | succ q ih =>
      intro i a b h1 hb9 h2 ls hl
      refine lv_iload_n hx hb dX0_coatWithMostLooks_6 rfl (lv_at hl 0 rfl) ?_
      refine lv_aload_n hx hb dX0_coatWithMostLooks_7 rfl (lv_at hl 3 rfl) ?_
      refine va_get (D := D) (ci := 0) (v := .int (nI n)) (C := RX0) (T := TX0) (N := 4) hx hb hts (fun _ h => (List.mem_cons_of_mem _ (List.mem_append_right _ h))) hown hK hP 0 rfl rfl 2 (by decide) (hts _ (List.mem_of_getElem? (i := 1) rfl)) (fun _ h9 => h9) rfl dX0_coatWithMostLooks_8 ?_
      refine bn_ge (tgt := 56) hx hb dX0_coatWithMostLooks_11 (by decide) (by omega) (by omega) (fun c11 => ?_) (fun c11 => ?_)
      · skip
        omega
      · skip
        refine lv_aload_n hx hb dX0_coatWithMostLooks_14 rfl (lv_at hl 3 rfl) ?_
        refine lv_iload_n hx hb dX0_coatWithMostLooks_15 rfl (lv_at hl 0 rfl) ?_
        refine pv_i CF (m_X0_heldOn l D cI h a1 a2 S i (by omega)) (cwV 1 hts gX0_coatWithMostLooks_X0_heldOn rfl rfl rfl k_X0_heldOn ⟨Nat.le_of_ble_eq_true rfl, Nat.le_of_ble_eq_true rfl⟩) hK hP rfl rfl rfl rfl hl.1 rfl (Nat.le_of_ble_eq_true rfl) dX0_coatWithMostLooks_16 ⟨Nat.zero_le _, Nat.zero_le _⟩ ?_
        refine tp_i (y := (f i)) (hd_in (by omega)) ?_
        refine lv_istore (lv' := [(4, .int (f i)), (3, .int (nI i)), (2, .int (nI b)), (1, .int a), (0, .ref h)]) hx hb dX0_coatWithMostLooks_19 hl (by decide) rfl (fun ls hl => ?_)
        refine lv_iload hx hb dX0_coatWithMostLooks_21 (lv_at hl 0 rfl) ?_
        refine lv_if_lt (tgt := 35) hx hb dX0_coatWithMostLooks_23 (by decide) (fun c23 => ?_) (fun c23 => ?_)
        · skip
          refine lv_iconst (v := nI 0) hx hb dX0_coatWithMostLooks_35 (by decide) ?_
          have HL : lx n w f i = 0 := lx_0 (fun z => not_lt0 z c23)
          have HLb : 0 ≤ 40 := by rw [← HL]; exact Nat.le_trans (lx_le n w f i) hn
          refine lv_istore (lv' := [(5, .int (nI 0)), (4, .int (f i)), (3, .int (nI i)), (2, .int (nI b)), (1, .int a), (0, .ref h)]) hx hb dX0_coatWithMostLooks_36 hl (by decide) rfl (fun ls hl => ?_)
          refine lv_iload hx hb dX0_coatWithMostLooks_38 (lv_at hl 0 rfl) ?_
          refine lv_iload_n hx hb dX0_coatWithMostLooks_40 rfl (lv_at hl 3 rfl) ?_
          refine bn_le (tgt := 50) hx hb dX0_coatWithMostLooks_41 (by decide) (by omega) (by omega) (fun c41 => ?_) (fun c41 => ?_)
          · skip
            refine lv_iinc (v := (nI (i + 1))) (lv' := [(3, .int (nI (i + 1))), (5, .int (nI 0)), (4, .int (f i)), (2, .int (nI b)), (1, .int a), (0, .ref h)]) hx hb dX0_coatWithMostLooks_50 hl (k := 2) rfl (inc1 _) (by decide) rfl (fun ls hl => ?_)
            refine lv_goto (tgt := 6) hx hb dX0_coatWithMostLooks_53 (by decide) ?_
            exact ih (i + 1) a b (by omega) hb9 (by rw [fo_s, if_neg (by rw [HL]; omega)] at h2; exact h2) _ (lv_sub hl [0, 3, 4, 5] rfl)
          · skip
            refine lv_iload hx hb dX0_coatWithMostLooks_44 (lv_at hl 1 rfl) ?_
            refine lv_istore_n (lv' := [(1, .int (f i)), (5, .int (nI 0)), (4, .int (f i)), (3, .int (nI i)), (2, .int (nI b)), (0, .ref h)]) hx hb dX0_coatWithMostLooks_46 rfl hl (by decide) rfl (fun ls hl => ?_)
            refine lv_iload hx hb dX0_coatWithMostLooks_47 (lv_at hl 1 rfl) ?_
            refine lv_istore_n (lv' := [(2, .int (nI 0)), (1, .int (f i)), (5, .int (nI 0)), (4, .int (f i)), (3, .int (nI i)), (0, .ref h)]) hx hb dX0_coatWithMostLooks_49 rfl hl (by decide) rfl (fun ls hl => ?_)
            refine lv_iinc (v := (nI (i + 1))) (lv' := [(3, .int (nI (i + 1))), (2, .int (nI 0)), (1, .int (f i)), (5, .int (nI 0)), (4, .int (f i)), (0, .ref h)]) hx hb dX0_coatWithMostLooks_50 hl (k := 4) rfl (inc1 _) (by decide) rfl (fun ls hl => ?_)
            refine lv_goto (tgt := 6) hx hb dX0_coatWithMostLooks_53 (by decide) ?_
            exact ih (i + 1) (f i) 0 (by omega) (HLb) (by rw [fo_s, if_pos (by rw [HL]; omega), HL] at h2; exact h2) _ (lv_sub hl [0, 1, 2, 5] rfl)
        · skip
          refine lv_aload_n hx hb dX0_coatWithMostLooks_26 rfl (lv_at hl 4 rfl) ?_
          refine lv_iload hx hb dX0_coatWithMostLooks_27 (lv_at hl 0 rfl) ?_
          obtain ⟨x, hx9, ex, ez⟩ := hO.num (k := i) (by omega) (ge0 c23)
          refine tp_i (y := nI x) ex ?_
          refine pv_i CF (m_X0_countLooks l D cI h a1 a2 S x hx9) (cwV 1 hts gX0_coatWithMostLooks_X0_countLooks rfl rfl rfl k_X0_countLooks ⟨Nat.le_of_ble_eq_true rfl, Nat.le_of_ble_eq_true rfl⟩) hK hP rfl rfl rfl rfl hl.1 rfl (Nat.le_of_ble_eq_true rfl) dX0_coatWithMostLooks_29 ⟨Nat.zero_le _, Nat.zero_le _⟩ ?_
          refine lv_goto (tgt := 36) hx hb dX0_coatWithMostLooks_32 (by decide) ?_
          have HL : lx n w f i = (lk n w f x) := lx_p (ge0 c23) ez
          have HLb : (lk n w f x) ≤ 40 := by rw [← HL]; exact Nat.le_trans (lx_le n w f i) hn
          refine lv_istore (lv' := [(5, .int (nI (lk n w f x))), (4, .int (f i)), (3, .int (nI i)), (2, .int (nI b)), (1, .int a), (0, .ref h)]) hx hb dX0_coatWithMostLooks_36 hl (by decide) rfl (fun ls hl => ?_)
          refine lv_iload hx hb dX0_coatWithMostLooks_38 (lv_at hl 0 rfl) ?_
          refine lv_iload_n hx hb dX0_coatWithMostLooks_40 rfl (lv_at hl 3 rfl) ?_
          refine bn_le (tgt := 50) hx hb dX0_coatWithMostLooks_41 (by decide) (by omega) (by omega) (fun c41 => ?_) (fun c41 => ?_)
          · skip
            refine lv_iinc (v := (nI (i + 1))) (lv' := [(3, .int (nI (i + 1))), (5, .int (nI (lk n w f x))), (4, .int (f i)), (2, .int (nI b)), (1, .int a), (0, .ref h)]) hx hb dX0_coatWithMostLooks_50 hl (k := 2) rfl (inc1 _) (by decide) rfl (fun ls hl => ?_)
            refine lv_goto (tgt := 6) hx hb dX0_coatWithMostLooks_53 (by decide) ?_
            exact ih (i + 1) a b (by omega) hb9 (by rw [fo_s, if_neg (by rw [HL]; omega)] at h2; exact h2) _ (lv_sub hl [0, 3, 4, 5] rfl)
          · skip
            refine lv_iload hx hb dX0_coatWithMostLooks_44 (lv_at hl 1 rfl) ?_
            refine lv_istore_n (lv' := [(1, .int (f i)), (5, .int (nI (lk n w f x))), (4, .int (f i)), (3, .int (nI i)), (2, .int (nI b)), (0, .ref h)]) hx hb dX0_coatWithMostLooks_46 rfl hl (by decide) rfl (fun ls hl => ?_)
            refine lv_iload hx hb dX0_coatWithMostLooks_47 (lv_at hl 1 rfl) ?_
            refine lv_istore_n (lv' := [(2, .int (nI (lk n w f x))), (1, .int (f i)), (5, .int (nI (lk n w f x))), (4, .int (f i)), (3, .int (nI i)), (0, .ref h)]) hx hb dX0_coatWithMostLooks_49 rfl hl (by decide) rfl (fun ls hl => ?_)
            refine lv_iinc (v := (nI (i + 1))) (lv' := [(3, .int (nI (i + 1))), (2, .int (nI (lk n w f x))), (1, .int (f i)), (5, .int (nI (lk n w f x))), (4, .int (f i)), (0, .ref h)]) hx hb dX0_coatWithMostLooks_50 hl (k := 4) rfl (inc1 _) (by decide) rfl (fun ls hl => ?_)
            refine lv_goto (tgt := 6) hx hb dX0_coatWithMostLooks_53 (by decide) ?_
            exact ih (i + 1) (f i) (lk n w f x) (by omega) (HLb) (by rw [fo_s, if_pos (by rw [HL]; omega), HL] at h2; exact h2) _ (lv_sub hl [0, 1, 2, 5] rfl)
  exact LP6 n 0 (-1) 0 (Nat.zero_add n) (by omega) rfl _ (lv_sub hl [0, 1, 2, 3] rfl)
theorem k_X0_behind : yX0_behind.cls = RX0 ∧ yX0_behind.cls ≠ "java/lang/invoke/MethodHandle" ∧ yX0_behind.cls ≠ "java/lang/invoke/VarHandle" ∧ (parseMethodDescriptor yX0_behind.desc).map (fun d => d.parameters.length) = some 1 := by decide +kernel
set_option maxHeartbeats 4000000 in
set_option maxRecDepth 100000 in
theorem m_X0_behind (l : Launch) (D : va_G) (cI : ClassId) (h a1 a2 : Nat) {n w : Nat} {F G f g : Nat → Int32} (S : RS n w F G f g) (k : Nat) (hk : k < n) : Met l yX0_behind wsX0_behind ({ frames := 0, cells := 0, slots := 0, locals := 0 } : Room) (PR D [(cI, .int)] [.ref h, .int (nI k)] (rkw cI h a1 a2 n w F G)) (vp_Si (fun r => r = nI (bh n k))) 0 0 (fun _ => False) := by
  obtain ⟨hn3, hn, hw2, hF, hG, hO⟩ := id S
  refine bd_p (cc := cX0_behind) (maxL := 2) (ret := (some .int)) (by decide) rfl (Nat.le_of_ble_eq_true rfl) ?_
  intro p e s m args below meth c ls CF hr hlocks hK hP hl
  obtain ⟨hx, hb, hml, hown, hts⟩ := id CF
  have hl : lv_has ls 2 [(0, .ref h), (1, .int (nI k))] := hl
  have hP : va_P D vwCl [(h, .inr (0, [.ref a1, .ref a2, .int (nI n), .int (nI w)])), (a1, .inl (cI, 40, .inl F)), (a2, .inl (cI, 40, .inl G))] s.heap := hP
  refine lv_iload_n hx hb dX0_behind_0 rfl (lv_at hl 1 rfl) ?_
  refine lv_iconst (v := nI 1) hx hb dX0_behind_1 (by decide) ?_
  refine an_add hx hb dX0_behind_2 ?_
  refine lv_aload_n hx hb dX0_behind_3 rfl (lv_at hl 0 rfl) ?_
  refine va_get (D := D) (ci := 0) (v := .int (nI n)) (C := RX0) (T := TX0) (N := 4) hx hb hts (fun _ h => (List.mem_cons_of_mem _ (List.mem_append_right _ h))) hown hK hP 0 rfl rfl 2 (by decide) (hts _ (List.mem_of_getElem? (i := 1) rfl)) (fun _ h9 => h9) rfl dX0_behind_4 ?_
  refine bn_ge (tgt := 16) hx hb dX0_behind_7 (by decide) (by omega) (by omega) (fun c7 => ?_) (fun c7 => ?_)
  · skip
    refine lv_iconst (v := nI 0) hx hb dX0_behind_16 (by decide) ?_
    exact en_i hx hb hr hlocks (congrArg nI (if_neg (by omega)).symm) dX0_behind_17
  · skip
    refine lv_iload_n hx hb dX0_behind_10 rfl (lv_at hl 1 rfl) ?_
    refine lv_iconst (v := nI 1) hx hb dX0_behind_11 (by decide) ?_
    refine an_add hx hb dX0_behind_12 ?_
    refine lv_goto (tgt := 17) hx hb dX0_behind_13 (by decide) ?_
    exact en_i hx hb hr hlocks (congrArg nI (if_pos c7).symm) dX0_behind_17
theorem k_X0_before : yX0_before.cls = RX0 ∧ yX0_before.cls ≠ "java/lang/invoke/MethodHandle" ∧ yX0_before.cls ≠ "java/lang/invoke/VarHandle" ∧ (parseMethodDescriptor yX0_before.desc).map (fun d => d.parameters.length) = some 1 := by decide +kernel
set_option maxHeartbeats 4000000 in
set_option maxRecDepth 100000 in
theorem m_X0_before (l : Launch) (D : va_G) (cI : ClassId) (h a1 a2 : Nat) {n w : Nat} {F G f g : Nat → Int32} (S : RS n w F G f g) (k : Nat) (hk : k < n) : Met l yX0_before wsX0_before ({ frames := 0, cells := 0, slots := 0, locals := 0 } : Room) (PR D [(cI, .int)] [.ref h, .int (nI k)] (rkw cI h a1 a2 n w F G)) (vp_Si (fun r => r = nI (bf n k))) 0 0 (fun _ => False) := by
  obtain ⟨hn3, hn, hw2, hF, hG, hO⟩ := id S
  refine bd_p (cc := cX0_before) (maxL := 2) (ret := (some .int)) (by decide) rfl (Nat.le_of_ble_eq_true rfl) ?_
  intro p e s m args below meth c ls CF hr hlocks hK hP hl
  obtain ⟨hx, hb, hml, hown, hts⟩ := id CF
  have hl : lv_has ls 2 [(0, .ref h), (1, .int (nI k))] := hl
  have hP : va_P D vwCl [(h, .inr (0, [.ref a1, .ref a2, .int (nI n), .int (nI w)])), (a1, .inl (cI, 40, .inl F)), (a2, .inl (cI, 40, .inl G))] s.heap := hP
  refine lv_iload_n hx hb dX0_before_0 rfl (lv_at hl 1 rfl) ?_
  refine bz_le (tgt := 10) hx hb dX0_before_1 (by decide) (by omega) (fun c1 => ?_) (fun c1 => ?_)
  · skip
    refine lv_aload_n hx hb dX0_before_10 rfl (lv_at hl 0 rfl) ?_
    refine va_get (D := D) (ci := 0) (v := .int (nI n)) (C := RX0) (T := TX0) (N := 4) hx hb hts (fun _ h => (List.mem_cons_of_mem _ (List.mem_append_right _ h))) hown hK hP 0 rfl rfl 2 (by decide) (hts _ (List.mem_of_getElem? (i := 1) rfl)) (fun _ h9 => h9) rfl dX0_before_11 ?_
    refine lv_iconst (v := nI 1) hx hb dX0_before_14 (by decide) ?_
    refine an_sub hx hb (by omega) dX0_before_15 ?_
    exact en_i hx hb hr hlocks (congrArg nI (if_neg (by omega)).symm) dX0_before_16
  · skip
    refine lv_iload_n hx hb dX0_before_4 rfl (lv_at hl 1 rfl) ?_
    refine lv_iconst (v := nI 1) hx hb dX0_before_5 (by decide) ?_
    refine an_sub hx hb (by omega) dX0_before_6 ?_
    refine lv_goto (tgt := 16) hx hb dX0_before_7 (by decide) ?_
    exact en_i hx hb hr hlocks (congrArg nI (if_pos c1).symm) dX0_before_16
theorem k_X0_rowLength : yX0_rowLength.cls = RX0 ∧ yX0_rowLength.cls ≠ "java/lang/invoke/MethodHandle" ∧ yX0_rowLength.cls ≠ "java/lang/invoke/VarHandle" ∧ (parseMethodDescriptor yX0_rowLength.desc).map (fun d => d.parameters.length) = some 1 := by decide +kernel
set_option maxHeartbeats 4000000 in
set_option maxRecDepth 100000 in
theorem m_X0_rowLength (l : Launch) (D : va_G) (cI : ClassId) (h a1 a2 : Nat) {n w : Nat} {F G f g : Nat → Int32} (S : RS n w F G f g) (k : Nat) (hk : k < n) : Met l yX0_rowLength wsX0_rowLength ({ frames := 1, cells := 0, slots := 0, locals := 21 } : Room) (PR D [(cI, .int)] [.ref h, .int (nI k)] (rkw cI h a1 a2 n w F G)) (vp_Si (fun r => r = nI (rl n f k))) 0 0 (fun _ => False) := by
  obtain ⟨hn3, hn, hw2, hF, hG, hO⟩ := id S
  refine bd_p (cc := cX0_rowLength) (maxL := 5) (ret := (some .int)) (by decide) rfl (Nat.le_of_ble_eq_true rfl) ?_
  intro p e s m args below meth c ls CF hr hlocks hK hP hl
  obtain ⟨hx, hb, hml, hown, hts⟩ := id CF
  have hl : lv_has ls 5 [(0, .ref h), (1, .int (nI k))] := hl
  have hP : va_P D vwCl [(h, .inr (0, [.ref a1, .ref a2, .int (nI n), .int (nI w)])), (a1, .inl (cI, 40, .inl F)), (a2, .inl (cI, 40, .inl G))] s.heap := hP
  refine lv_aload_n hx hb dX0_rowLength_0 rfl (lv_at hl 0 rfl) ?_
  refine lv_iload_n hx hb dX0_rowLength_1 rfl (lv_at hl 1 rfl) ?_
  refine pv_i CF (m_X0_heldOn l D cI h a1 a2 S k (by omega)) (cwV 1 hts gX0_rowLength_X0_heldOn rfl rfl rfl k_X0_heldOn ⟨Nat.le_of_ble_eq_true rfl, Nat.le_of_ble_eq_true rfl⟩) hK hP rfl rfl rfl rfl hl.1 rfl (Nat.le_of_ble_eq_true rfl) dX0_rowLength_2 ⟨Nat.zero_le _, Nat.zero_le _⟩ ?_
  refine tp_i (y := (f k)) (hd_in hk) ?_
  refine lv_iconst (v := (-1)) hx hb dX0_rowLength_5 (by decide) ?_
  refine lv_icmp_ne (tgt := 11) hx hb dX0_rowLength_6 (by decide) (fun c6 => ?_) (fun c6 => ?_)
  · skip
    refine lv_iconst (v := nI 1) hx hb dX0_rowLength_11 (by decide) ?_
    refine lv_istore_n (lv' := [(2, .int (nI 1)), (0, .ref h), (1, .int (nI k))]) hx hb dX0_rowLength_12 rfl hl (by decide) rfl (fun ls hl => ?_)
    refine lv_aload_n hx hb dX0_rowLength_13 rfl (lv_at hl 1 rfl) ?_
    refine lv_iload_n hx hb dX0_rowLength_14 rfl (lv_at hl 2 rfl) ?_
    refine pv_i CF (m_X0_behind l D cI h a1 a2 S k hk) (cwV 1 hts gX0_rowLength_X0_behind rfl rfl rfl k_X0_behind ⟨Nat.le_of_ble_eq_true rfl, Nat.le_of_ble_eq_true rfl⟩) hK hP rfl rfl rfl rfl hl.1 rfl (Nat.le_of_ble_eq_true rfl) dX0_rowLength_15 ⟨Nat.zero_le _, Nat.zero_le _⟩ ?_
    refine lv_istore_n (lv' := [(3, .int (nI (bh n k))), (2, .int (nI 1)), (0, .ref h), (1, .int (nI k))]) hx hb dX0_rowLength_18 rfl hl (by decide) rfl (fun ls hl => ?_)
    have LP19 : ∀ (q L j : Nat), L + q = n → j < n → fw n f q L j = fw n f (n - 1) 1 (bh n k) → ∀ (ls : Array Slot), lv_has ls 5 [(3, .int (nI j)), (2, .int (nI L)), (0, .ref h), (1, .int (nI k))] → W p l e ({ frames := 1, cells := 0, slots := 0, locals := 21 } : Room) s m args below meth c s.heap [] 0 0 (MQ below (vp_Si (fun r => r = nI (rl n f k))) args s 0 0 (fun _ => False)) (F0 m 19 ls []) := by
      intro q
      induction q with
      | zero =>
        intro L j h1 hj h2 ls hl
        refine lv_iload_n hx hb dX0_rowLength_19 rfl (lv_at hl 1 rfl) ?_
        refine lv_aload_n hx hb dX0_rowLength_20 rfl (lv_at hl 2 rfl) ?_
        refine va_get (D := D) (ci := 0) (v := .int (nI n)) (C := RX0) (T := TX0) (N := 4) hx hb hts (fun _ h => (List.mem_cons_of_mem _ (List.mem_append_right _ h))) hown hK hP 0 rfl rfl 2 (by decide) (hts _ (List.mem_of_getElem? (i := 1) rfl)) (fun _ h9 => h9) rfl dX0_rowLength_21 ?_
        refine bn_ge (tgt := 48) hx hb dX0_rowLength_24 (by decide) (by omega) (by omega) (fun c24 => ?_) (fun c24 => ?_)
        · skip
          have HR : bw n f (n - L) L (bf n k) = rl n f k := by
            have h3 : L = fw n f (n - 1) 1 (bh n k) := h2
            rw [rl, if_neg c6, ← h3]
          refine lv_aload_n hx hb dX0_rowLength_48 rfl (lv_at hl 2 rfl) ?_
          refine lv_iload_n hx hb dX0_rowLength_49 rfl (lv_at hl 3 rfl) ?_
          refine pv_i CF (m_X0_before l D cI h a1 a2 S k hk) (cwV 1 hts gX0_rowLength_X0_before rfl rfl rfl k_X0_before ⟨Nat.le_of_ble_eq_true rfl, Nat.le_of_ble_eq_true rfl⟩) hK hP rfl rfl rfl rfl hl.1 rfl (Nat.le_of_ble_eq_true rfl) dX0_rowLength_50 ⟨Nat.zero_le _, Nat.zero_le _⟩ ?_
          refine lv_istore (lv' := [(4, .int (nI (bf n k))), (3, .int (nI j)), (2, .int (nI L)), (0, .ref h), (1, .int (nI k))]) hx hb dX0_rowLength_53 hl (by decide) rfl (fun ls hl => ?_)
          have LPb : ∀ (q M j : Nat), M + q = n → j < n → bw n f q M j = rl n f k → ∀ (ls : Array Slot), lv_has ls 5 [(4, .int (nI j)), (2, .int (nI M)), (0, .ref h), (1, .int (nI k))] → W p l e ({ frames := 1, cells := 0, slots := 0, locals := 21 } : Room) s m args below meth c s.heap [] 0 0 (MQ below (vp_Si (fun r => r = nI (rl n f k))) args s 0 0 (fun _ => False)) (F0 m 55 ls []) := by
            intro q
            induction q with
            | zero =>
              intro M j g1 hj g2 ls hl
              refine lv_iload_n hx hb dX0_rowLength_55 rfl (lv_at hl 1 rfl) ?_
              refine lv_aload_n hx hb dX0_rowLength_56 rfl (lv_at hl 2 rfl) ?_
              refine va_get (D := D) (ci := 0) (v := .int (nI n)) (C := RX0) (T := TX0) (N := 4) hx hb hts (fun _ h => (List.mem_cons_of_mem _ (List.mem_append_right _ h))) hown hK hP 0 rfl rfl 2 (by decide) (hts _ (List.mem_of_getElem? (i := 1) rfl)) (fun _ h9 => h9) rfl dX0_rowLength_57 ?_
              refine bn_ge (tgt := 87) hx hb dX0_rowLength_60 (by decide) (by omega) (by omega) (fun c60 => ?_) (fun c60 => ?_)
              · skip
                refine lv_iload_n hx hb dX0_rowLength_87 rfl (lv_at hl 1 rfl) ?_
                exact en_i hx hb hr hlocks (congrArg nI g2) dX0_rowLength_88
              · skip
                omega
            | succ q ih =>
              intro M j g1 hj g2 ls hl
              refine lv_iload_n hx hb dX0_rowLength_55 rfl (lv_at hl 1 rfl) ?_
              refine lv_aload_n hx hb dX0_rowLength_56 rfl (lv_at hl 2 rfl) ?_
              refine va_get (D := D) (ci := 0) (v := .int (nI n)) (C := RX0) (T := TX0) (N := 4) hx hb hts (fun _ h => (List.mem_cons_of_mem _ (List.mem_append_right _ h))) hown hK hP 0 rfl rfl 2 (by decide) (hts _ (List.mem_of_getElem? (i := 1) rfl)) (fun _ h9 => h9) rfl dX0_rowLength_57 ?_
              refine bn_ge (tgt := 87) hx hb dX0_rowLength_60 (by decide) (by omega) (by omega) (fun c60 => ?_) (fun c60 => ?_)
              · skip
                omega
              · skip
                refine lv_aload_n hx hb dX0_rowLength_63 rfl (lv_at hl 2 rfl) ?_
                refine lv_iload hx hb dX0_rowLength_64 (lv_at hl 0 rfl) ?_
                refine pv_i CF (m_X0_heldOn l D cI h a1 a2 S j (by omega)) (cwV 1 hts gX0_rowLength_X0_heldOn rfl rfl rfl k_X0_heldOn ⟨Nat.le_of_ble_eq_true rfl, Nat.le_of_ble_eq_true rfl⟩) hK hP rfl rfl rfl rfl hl.1 rfl (Nat.le_of_ble_eq_true rfl) dX0_rowLength_66 ⟨Nat.zero_le _, Nat.zero_le _⟩ ?_
                refine tp_i (y := (f j)) (hd_in hj) ?_
                refine lv_iconst (v := (-1)) hx hb dX0_rowLength_69 (by decide) ?_
                refine lv_icmp_eq (tgt := 87) hx hb dX0_rowLength_70 (by decide) (fun c70 => ?_) (fun c70 => ?_)
                · skip
                  refine lv_iload_n hx hb dX0_rowLength_87 rfl (lv_at hl 1 rfl) ?_
                  exact en_i hx hb hr hlocks (congrArg nI ((bw_y c70).symm.trans g2)) dX0_rowLength_88
                · skip
                  refine lv_iinc (v := (nI (M + 1))) (lv' := [(2, .int (nI (M + 1))), (4, .int (nI j)), (0, .ref h), (1, .int (nI k))]) hx hb dX0_rowLength_73 hl (k := 1) rfl (inc1 _) (by decide) rfl (fun ls hl => ?_)
                  refine lv_aload_n hx hb dX0_rowLength_76 rfl (lv_at hl 2 rfl) ?_
                  refine lv_iload hx hb dX0_rowLength_77 (lv_at hl 1 rfl) ?_
                  refine pv_i CF (m_X0_before l D cI h a1 a2 S j hj) (cwV 1 hts gX0_rowLength_X0_before rfl rfl rfl k_X0_before ⟨Nat.le_of_ble_eq_true rfl, Nat.le_of_ble_eq_true rfl⟩) hK hP rfl rfl rfl rfl hl.1 rfl (Nat.le_of_ble_eq_true rfl) dX0_rowLength_79 ⟨Nat.zero_le _, Nat.zero_le _⟩ ?_
                  refine lv_istore (lv' := [(4, .int (nI (bf n j))), (2, .int (nI (M + 1))), (0, .ref h), (1, .int (nI k))]) hx hb dX0_rowLength_82 hl (by decide) rfl (fun ls hl => ?_)
                  refine lv_goto (tgt := 55) hx hb dX0_rowLength_84 (by decide) ?_
                  exact ih (M + 1) (bf n j) (by omega) (bf_lt hj) ((bw_n c70).symm.trans g2) _ (lv_sub hl [0, 1, 2, 3] rfl)
          exact LPb (n - L) L (bf n k) (by omega) (bf_lt hk) HR _ (lv_sub hl [0, 2, 3, 4] rfl)
        · skip
          omega
      | succ q ih =>
        intro L j h1 hj h2 ls hl
        refine lv_iload_n hx hb dX0_rowLength_19 rfl (lv_at hl 1 rfl) ?_
        refine lv_aload_n hx hb dX0_rowLength_20 rfl (lv_at hl 2 rfl) ?_
        refine va_get (D := D) (ci := 0) (v := .int (nI n)) (C := RX0) (T := TX0) (N := 4) hx hb hts (fun _ h => (List.mem_cons_of_mem _ (List.mem_append_right _ h))) hown hK hP 0 rfl rfl 2 (by decide) (hts _ (List.mem_of_getElem? (i := 1) rfl)) (fun _ h9 => h9) rfl dX0_rowLength_21 ?_
        refine bn_ge (tgt := 48) hx hb dX0_rowLength_24 (by decide) (by omega) (by omega) (fun c24 => ?_) (fun c24 => ?_)
        · skip
          omega
        · skip
          refine lv_aload_n hx hb dX0_rowLength_27 rfl (lv_at hl 2 rfl) ?_
          refine lv_iload_n hx hb dX0_rowLength_28 rfl (lv_at hl 0 rfl) ?_
          refine pv_i CF (m_X0_heldOn l D cI h a1 a2 S j (by omega)) (cwV 1 hts gX0_rowLength_X0_heldOn rfl rfl rfl k_X0_heldOn ⟨Nat.le_of_ble_eq_true rfl, Nat.le_of_ble_eq_true rfl⟩) hK hP rfl rfl rfl rfl hl.1 rfl (Nat.le_of_ble_eq_true rfl) dX0_rowLength_29 ⟨Nat.zero_le _, Nat.zero_le _⟩ ?_
          refine tp_i (y := (f j)) (hd_in hj) ?_
          refine lv_iconst (v := (-1)) hx hb dX0_rowLength_32 (by decide) ?_
          refine lv_icmp_eq (tgt := 48) hx hb dX0_rowLength_33 (by decide) (fun c33 => ?_) (fun c33 => ?_)
          · skip
            have HR : bw n f (n - L) L (bf n k) = rl n f k := by
              have h3 : L = fw n f (n - 1) 1 (bh n k) := (fw_y c33).symm.trans h2
              rw [rl, if_neg c6, ← h3]
            refine lv_aload_n hx hb dX0_rowLength_48 rfl (lv_at hl 2 rfl) ?_
            refine lv_iload_n hx hb dX0_rowLength_49 rfl (lv_at hl 3 rfl) ?_
            refine pv_i CF (m_X0_before l D cI h a1 a2 S k hk) (cwV 1 hts gX0_rowLength_X0_before rfl rfl rfl k_X0_before ⟨Nat.le_of_ble_eq_true rfl, Nat.le_of_ble_eq_true rfl⟩) hK hP rfl rfl rfl rfl hl.1 rfl (Nat.le_of_ble_eq_true rfl) dX0_rowLength_50 ⟨Nat.zero_le _, Nat.zero_le _⟩ ?_
            refine lv_istore (lv' := [(4, .int (nI (bf n k))), (3, .int (nI j)), (2, .int (nI L)), (0, .ref h), (1, .int (nI k))]) hx hb dX0_rowLength_53 hl (by decide) rfl (fun ls hl => ?_)
            have LPb : ∀ (q M j : Nat), M + q = n → j < n → bw n f q M j = rl n f k → ∀ (ls : Array Slot), lv_has ls 5 [(4, .int (nI j)), (2, .int (nI M)), (0, .ref h), (1, .int (nI k))] → W p l e ({ frames := 1, cells := 0, slots := 0, locals := 21 } : Room) s m args below meth c s.heap [] 0 0 (MQ below (vp_Si (fun r => r = nI (rl n f k))) args s 0 0 (fun _ => False)) (F0 m 55 ls []) := by
              intro q
              induction q with
              | zero =>
                intro M j g1 hj g2 ls hl
                refine lv_iload_n hx hb dX0_rowLength_55 rfl (lv_at hl 1 rfl) ?_
                refine lv_aload_n hx hb dX0_rowLength_56 rfl (lv_at hl 2 rfl) ?_
                refine va_get (D := D) (ci := 0) (v := .int (nI n)) (C := RX0) (T := TX0) (N := 4) hx hb hts (fun _ h => (List.mem_cons_of_mem _ (List.mem_append_right _ h))) hown hK hP 0 rfl rfl 2 (by decide) (hts _ (List.mem_of_getElem? (i := 1) rfl)) (fun _ h9 => h9) rfl dX0_rowLength_57 ?_
                refine bn_ge (tgt := 87) hx hb dX0_rowLength_60 (by decide) (by omega) (by omega) (fun c60 => ?_) (fun c60 => ?_)
                · skip
                  refine lv_iload_n hx hb dX0_rowLength_87 rfl (lv_at hl 1 rfl) ?_
                  exact en_i hx hb hr hlocks (congrArg nI g2) dX0_rowLength_88
                · skip
                  omega
              | succ q ih =>
                intro M j g1 hj g2 ls hl
                refine lv_iload_n hx hb dX0_rowLength_55 rfl (lv_at hl 1 rfl) ?_
                refine lv_aload_n hx hb dX0_rowLength_56 rfl (lv_at hl 2 rfl) ?_
                refine va_get (D := D) (ci := 0) (v := .int (nI n)) (C := RX0) (T := TX0) (N := 4) hx hb hts (fun _ h => (List.mem_cons_of_mem _ (List.mem_append_right _ h))) hown hK hP 0 rfl rfl 2 (by decide) (hts _ (List.mem_of_getElem? (i := 1) rfl)) (fun _ h9 => h9) rfl dX0_rowLength_57 ?_
                refine bn_ge (tgt := 87) hx hb dX0_rowLength_60 (by decide) (by omega) (by omega) (fun c60 => ?_) (fun c60 => ?_)
                · skip
                  omega
                · skip
                  refine lv_aload_n hx hb dX0_rowLength_63 rfl (lv_at hl 2 rfl) ?_
                  refine lv_iload hx hb dX0_rowLength_64 (lv_at hl 0 rfl) ?_
                  refine pv_i CF (m_X0_heldOn l D cI h a1 a2 S j (by omega)) (cwV 1 hts gX0_rowLength_X0_heldOn rfl rfl rfl k_X0_heldOn ⟨Nat.le_of_ble_eq_true rfl, Nat.le_of_ble_eq_true rfl⟩) hK hP rfl rfl rfl rfl hl.1 rfl (Nat.le_of_ble_eq_true rfl) dX0_rowLength_66 ⟨Nat.zero_le _, Nat.zero_le _⟩ ?_
                  refine tp_i (y := (f j)) (hd_in hj) ?_
                  refine lv_iconst (v := (-1)) hx hb dX0_rowLength_69 (by decide) ?_
                  refine lv_icmp_eq (tgt := 87) hx hb dX0_rowLength_70 (by decide) (fun c70 => ?_) (fun c70 => ?_)
                  · skip
                    refine lv_iload_n hx hb dX0_rowLength_87 rfl (lv_at hl 1 rfl) ?_
                    exact en_i hx hb hr hlocks (congrArg nI ((bw_y c70).symm.trans g2)) dX0_rowLength_88
                  · skip
                    refine lv_iinc (v := (nI (M + 1))) (lv' := [(2, .int (nI (M + 1))), (4, .int (nI j)), (0, .ref h), (1, .int (nI k))]) hx hb dX0_rowLength_73 hl (k := 1) rfl (inc1 _) (by decide) rfl (fun ls hl => ?_)
                    refine lv_aload_n hx hb dX0_rowLength_76 rfl (lv_at hl 2 rfl) ?_
                    refine lv_iload hx hb dX0_rowLength_77 (lv_at hl 1 rfl) ?_
                    refine pv_i CF (m_X0_before l D cI h a1 a2 S j hj) (cwV 1 hts gX0_rowLength_X0_before rfl rfl rfl k_X0_before ⟨Nat.le_of_ble_eq_true rfl, Nat.le_of_ble_eq_true rfl⟩) hK hP rfl rfl rfl rfl hl.1 rfl (Nat.le_of_ble_eq_true rfl) dX0_rowLength_79 ⟨Nat.zero_le _, Nat.zero_le _⟩ ?_
                    refine lv_istore (lv' := [(4, .int (nI (bf n j))), (2, .int (nI (M + 1))), (0, .ref h), (1, .int (nI k))]) hx hb dX0_rowLength_82 hl (by decide) rfl (fun ls hl => ?_)
                    refine lv_goto (tgt := 55) hx hb dX0_rowLength_84 (by decide) ?_
                    exact ih (M + 1) (bf n j) (by omega) (bf_lt hj) ((bw_n c70).symm.trans g2) _ (lv_sub hl [0, 1, 2, 3] rfl)
            exact LPb (n - L) L (bf n k) (by omega) (bf_lt hk) HR _ (lv_sub hl [0, 2, 3, 4] rfl)
          · skip
            refine lv_iinc (v := (nI (L + 1))) (lv' := [(2, .int (nI (L + 1))), (3, .int (nI j)), (0, .ref h), (1, .int (nI k))]) hx hb dX0_rowLength_36 hl (k := 1) rfl (inc1 _) (by decide) rfl (fun ls hl => ?_)
            refine lv_aload_n hx hb dX0_rowLength_39 rfl (lv_at hl 2 rfl) ?_
            refine lv_iload_n hx hb dX0_rowLength_40 rfl (lv_at hl 1 rfl) ?_
            refine pv_i CF (m_X0_behind l D cI h a1 a2 S j hj) (cwV 1 hts gX0_rowLength_X0_behind rfl rfl rfl k_X0_behind ⟨Nat.le_of_ble_eq_true rfl, Nat.le_of_ble_eq_true rfl⟩) hK hP rfl rfl rfl rfl hl.1 rfl (Nat.le_of_ble_eq_true rfl) dX0_rowLength_41 ⟨Nat.zero_le _, Nat.zero_le _⟩ ?_
            refine lv_istore_n (lv' := [(3, .int (nI (bh n j))), (2, .int (nI (L + 1))), (0, .ref h), (1, .int (nI k))]) hx hb dX0_rowLength_44 rfl hl (by decide) rfl (fun ls hl => ?_)
            refine lv_goto (tgt := 19) hx hb dX0_rowLength_45 (by decide) ?_
            exact ih (L + 1) (bh n j) (by omega) (bh_lt (by omega)) ((fw_n c33).symm.trans h2) _ (lv_sub hl [0, 1, 2, 3] rfl)
    exact LP19 (n - 1) 1 (bh n k) (by omega) (bh_lt (by omega)) rfl _ (lv_sub hl [0, 1, 2, 3] rfl)
  · skip
    refine lv_iconst (v := nI 0) hx hb dX0_rowLength_9 (by decide) ?_
    exact en_i hx hb hr hlocks (congrArg nI (if_pos c6).symm) dX0_rowLength_10
theorem k_X0_rowCount : yX0_rowCount.cls = RX0 ∧ yX0_rowCount.cls ≠ "java/lang/invoke/MethodHandle" ∧ yX0_rowCount.cls ≠ "java/lang/invoke/VarHandle" ∧ (parseMethodDescriptor yX0_rowCount.desc).map (fun d => d.parameters.length) = some 0 := by decide +kernel
set_option maxHeartbeats 4000000 in
set_option maxRecDepth 100000 in
theorem m_X0_rowCount (l : Launch) (D : va_G) (cI : ClassId) (h a1 a2 : Nat) {n w : Nat} {F G f g : Nat → Int32} (S : RS n w F G f g) : Met l yX0_rowCount wsX0_rowCount ({ frames := 1, cells := 0, slots := 0, locals := 21 } : Room) (PR D [(cI, .int)] [.ref h] (rkw cI h a1 a2 n w F G)) (vp_Si (fun r => r = nI (rc n f))) 0 0 (fun _ => False) := by
  obtain ⟨hn3, hn, hw2, hF, hG, hO⟩ := id S
  refine bd_p (cc := cX0_rowCount) (maxL := 4) (ret := (some .int)) (by decide) rfl (Nat.le_of_ble_eq_true rfl) ?_
  intro p e s m args below meth c ls CF hr hlocks hK hP hl
  obtain ⟨hx, hb, hml, hown, hts⟩ := id CF
  have hl : lv_has ls 4 [(0, .ref h)] := hl
  have hP : va_P D vwCl [(h, .inr (0, [.ref a1, .ref a2, .int (nI n), .int (nI w)])), (a1, .inl (cI, 40, .inl F)), (a2, .inl (cI, 40, .inl G))] s.heap := hP
  refine lv_iconst (v := nI 0) hx hb dX0_rowCount_0 (by decide) ?_
  refine lv_istore_n (lv' := [(1, .int (nI 0)), (0, .ref h)]) hx hb dX0_rowCount_1 rfl hl (by decide) rfl (fun ls hl => ?_)
  refine lv_iconst (v := nI 0) hx hb dX0_rowCount_2 (by decide) ?_
  refine lv_istore_n (lv' := [(2, .int (nI 0)), (1, .int (nI 0)), (0, .ref h)]) hx hb dX0_rowCount_3 rfl hl (by decide) rfl (fun ls hl => ?_)
  refine lv_iconst (v := nI 0) hx hb dX0_rowCount_4 (by decide) ?_
  refine lv_istore_n (lv' := [(3, .int (nI 0)), (2, .int (nI 0)), (1, .int (nI 0)), (0, .ref h)]) hx hb dX0_rowCount_5 rfl hl (by decide) rfl (fun ls hl => ?_)
  have LP6 : ∀ (q i a b : Nat), i + q = n → b ≤ i → fo (fun (a : Nat × Nat) i => if f i = -1 then a else (a.1 + (if f (bh n i) = -1 then 1 else 0), a.2 + 1)) q i (a, b) = rcs n f → ∀ (ls : Array Slot), lv_has ls 4 [(3, .int (nI i)), (2, .int (nI b)), (1, .int (nI a)), (0, .ref h)] → W p l e ({ frames := 1, cells := 0, slots := 0, locals := 21 } : Room) s m args below meth c s.heap [] 0 0 (MQ below (vp_Si (fun r => r = nI (rc n f))) args s 0 0 (fun _ => False)) (F0 m 6 ls []) := by
    intro q
    induction q with
    | zero =>
      intro i a b h1 hb9 h2 ls hl
      refine lv_iload_n hx hb dX0_rowCount_6 rfl (lv_at hl 0 rfl) ?_
      refine lv_aload_n hx hb dX0_rowCount_7 rfl (lv_at hl 3 rfl) ?_
      refine va_get (D := D) (ci := 0) (v := .int (nI n)) (C := RX0) (T := TX0) (N := 4) hx hb hts (fun _ h => (List.mem_cons_of_mem _ (List.mem_append_right _ h))) hown hK hP 0 rfl rfl 2 (by decide) (hts _ (List.mem_of_getElem? (i := 1) rfl)) (fun _ h9 => h9) rfl dX0_rowCount_8 ?_
      refine bn_ge (tgt := 53) hx hb dX0_rowCount_11 (by decide) (by omega) (by omega) (fun c11 => ?_) (fun c11 => ?_)
      · skip
        have h3 : rcs n f = (a, b) := h2.symm
        refine lv_iload_n hx hb dX0_rowCount_53 rfl (lv_at hl 1 rfl) ?_
        refine lv_aload_n hx hb dX0_rowCount_54 rfl (lv_at hl 3 rfl) ?_
        refine va_get (D := D) (ci := 0) (v := .int (nI n)) (C := RX0) (T := TX0) (N := 4) hx hb hts (fun _ h => (List.mem_cons_of_mem _ (List.mem_append_right _ h))) hown hK hP 0 rfl rfl 2 (by decide) (hts _ (List.mem_of_getElem? (i := 1) rfl)) (fun _ h9 => h9) rfl dX0_rowCount_55 ?_
        refine bn_ne (tgt := 65) hx hb dX0_rowCount_58 (by decide) (by omega) (by omega) (fun c58 => ?_) (fun c58 => ?_)
        · skip
          refine lv_iload_n hx hb dX0_rowCount_65 rfl (lv_at hl 2 rfl) ?_
          exact en_i hx hb hr hlocks (by rw [rc, h3, if_neg c58]) dX0_rowCount_66
        · skip
          refine lv_iconst (v := nI 1) hx hb dX0_rowCount_61 (by decide) ?_
          refine lv_goto (tgt := 66) hx hb dX0_rowCount_62 (by decide) ?_
          exact en_i hx hb hr hlocks (by rw [rc, h3, if_pos c58]) dX0_rowCount_66
      · skip
        omega
    | succ q ih =>
      intro i a b h1 hb9 h2 ls hl
      refine lv_iload_n hx hb dX0_rowCount_6 rfl (lv_at hl 0 rfl) ?_
      refine lv_aload_n hx hb dX0_rowCount_7 rfl (lv_at hl 3 rfl) ?_
      refine va_get (D := D) (ci := 0) (v := .int (nI n)) (C := RX0) (T := TX0) (N := 4) hx hb hts (fun _ h => (List.mem_cons_of_mem _ (List.mem_append_right _ h))) hown hK hP 0 rfl rfl 2 (by decide) (hts _ (List.mem_of_getElem? (i := 1) rfl)) (fun _ h9 => h9) rfl dX0_rowCount_8 ?_
      refine bn_ge (tgt := 53) hx hb dX0_rowCount_11 (by decide) (by omega) (by omega) (fun c11 => ?_) (fun c11 => ?_)
      · skip
        omega
      · skip
        refine lv_aload_n hx hb dX0_rowCount_14 rfl (lv_at hl 3 rfl) ?_
        refine lv_iload_n hx hb dX0_rowCount_15 rfl (lv_at hl 0 rfl) ?_
        refine pv_i CF (m_X0_heldOn l D cI h a1 a2 S i (by omega)) (cwV 1 hts gX0_rowCount_X0_heldOn rfl rfl rfl k_X0_heldOn ⟨Nat.le_of_ble_eq_true rfl, Nat.le_of_ble_eq_true rfl⟩) hK hP rfl rfl rfl rfl hl.1 rfl (Nat.le_of_ble_eq_true rfl) dX0_rowCount_16 ⟨Nat.zero_le _, Nat.zero_le _⟩ ?_
        refine tp_i (y := (f i)) (hd_in (by omega)) ?_
        refine lv_iconst (v := (-1)) hx hb dX0_rowCount_19 (by decide) ?_
        refine lv_icmp_eq (tgt := 47) hx hb dX0_rowCount_20 (by decide) (fun c20 => ?_) (fun c20 => ?_)
        · skip
          refine lv_iinc (v := (nI (i + 1))) (lv' := [(3, .int (nI (i + 1))), (2, .int (nI b)), (1, .int (nI a)), (0, .ref h)]) hx hb dX0_rowCount_47 hl (k := 0) rfl (inc1 _) (by decide) rfl (fun ls hl => ?_)
          refine lv_goto (tgt := 6) hx hb dX0_rowCount_50 (by decide) ?_
          exact ih (i + 1) a b (by omega) (by omega) (by rw [fo_s, if_pos c20] at h2; exact h2) _ (lv_sub hl [0, 1, 2, 3] rfl)
        · skip
          refine lv_iinc (v := (nI (b + 1))) (lv' := [(2, .int (nI (b + 1))), (3, .int (nI i)), (1, .int (nI a)), (0, .ref h)]) hx hb dX0_rowCount_23 hl (k := 1) rfl (inc1 _) (by decide) rfl (fun ls hl => ?_)
          refine lv_iload_n hx hb dX0_rowCount_26 rfl (lv_at hl 2 rfl) ?_
          refine lv_aload_n hx hb dX0_rowCount_27 rfl (lv_at hl 3 rfl) ?_
          refine lv_aload_n hx hb dX0_rowCount_28 rfl (lv_at hl 3 rfl) ?_
          refine lv_iload_n hx hb dX0_rowCount_29 rfl (lv_at hl 1 rfl) ?_
          refine pv_i CF (m_X0_behind l D cI h a1 a2 S i (by omega)) (cwV 1 hts gX0_rowCount_X0_behind rfl rfl rfl k_X0_behind ⟨Nat.le_of_ble_eq_true rfl, Nat.le_of_ble_eq_true rfl⟩) hK hP rfl rfl rfl rfl hl.1 rfl (Nat.le_of_ble_eq_true rfl) dX0_rowCount_30 ⟨Nat.zero_le _, Nat.zero_le _⟩ ?_
          refine pv_i CF (m_X0_heldOn l D cI h a1 a2 S (bh n i) (Nat.lt_trans (bh_lt (by omega)) (by omega))) (cwV 1 hts gX0_rowCount_X0_heldOn rfl rfl rfl k_X0_heldOn ⟨Nat.le_of_ble_eq_true rfl, Nat.le_of_ble_eq_true rfl⟩) hK hP rfl rfl rfl rfl hl.1 rfl (Nat.le_of_ble_eq_true rfl) dX0_rowCount_33 ⟨Nat.zero_le _, Nat.zero_le _⟩ ?_
          refine tp_i (y := (f (bh n i))) (hd_in (bh_lt (by omega))) ?_
          refine lv_iconst (v := (-1)) hx hb dX0_rowCount_36 (by decide) ?_
          refine lv_icmp_ne (tgt := 44) hx hb dX0_rowCount_37 (by decide) (fun c37 => ?_) (fun c37 => ?_)
          · skip
            refine lv_iconst (v := nI 0) hx hb dX0_rowCount_44 (by decide) ?_
            refine an_add hx hb dX0_rowCount_45 ?_
            refine lv_istore_n (lv' := [(1, .int (nI (a + 0))), (2, .int (nI (b + 1))), (3, .int (nI i)), (0, .ref h)]) hx hb dX0_rowCount_46 rfl hl (by decide) rfl (fun ls hl => ?_)
            refine lv_iinc (v := (nI (i + 1))) (lv' := [(3, .int (nI (i + 1))), (1, .int (nI (a + 0))), (2, .int (nI (b + 1))), (0, .ref h)]) hx hb dX0_rowCount_47 hl (k := 2) rfl (inc1 _) (by decide) rfl (fun ls hl => ?_)
            refine lv_goto (tgt := 6) hx hb dX0_rowCount_50 (by decide) ?_
            exact ih (i + 1) (a + 0) (b + 1) (by omega) (by omega) (by rw [fo_s, if_neg c20, if_neg c37] at h2; exact h2) _ (lv_sub hl [0, 2, 1, 3] rfl)
          · skip
            refine lv_iconst (v := nI 1) hx hb dX0_rowCount_40 (by decide) ?_
            refine lv_goto (tgt := 45) hx hb dX0_rowCount_41 (by decide) ?_
            refine an_add hx hb dX0_rowCount_45 ?_
            refine lv_istore_n (lv' := [(1, .int (nI (a + 1))), (2, .int (nI (b + 1))), (3, .int (nI i)), (0, .ref h)]) hx hb dX0_rowCount_46 rfl hl (by decide) rfl (fun ls hl => ?_)
            refine lv_iinc (v := (nI (i + 1))) (lv' := [(3, .int (nI (i + 1))), (1, .int (nI (a + 1))), (2, .int (nI (b + 1))), (0, .ref h)]) hx hb dX0_rowCount_47 hl (k := 2) rfl (inc1 _) (by decide) rfl (fun ls hl => ?_)
            refine lv_goto (tgt := 6) hx hb dX0_rowCount_50 (by decide) ?_
            exact ih (i + 1) (a + 1) (b + 1) (by omega) (by omega) (by rw [fo_s, if_neg c20, if_pos c37] at h2; exact h2) _ (lv_sub hl [0, 2, 1, 3] rfl)
  exact LP6 n 0 0 0 (Nat.zero_add n) (Nat.le_refl 0) rfl _ (lv_sub hl [0, 1, 2, 3] rfl)
theorem k_X0_longestRowLength : yX0_longestRowLength.cls = RX0 ∧ yX0_longestRowLength.cls ≠ "java/lang/invoke/MethodHandle" ∧ yX0_longestRowLength.cls ≠ "java/lang/invoke/VarHandle" ∧ (parseMethodDescriptor yX0_longestRowLength.desc).map (fun d => d.parameters.length) = some 0 := by decide +kernel
set_option maxHeartbeats 4000000 in
set_option maxRecDepth 100000 in
theorem m_X0_longestRowLength (l : Launch) (D : va_G) (cI : ClassId) (h a1 a2 : Nat) {n w : Nat} {F G f g : Nat → Int32} (S : RS n w F G f g) : Met l yX0_longestRowLength wsX0_longestRowLength ({ frames := 2, cells := 0, slots := 0, locals := 45 } : Room) (PR D [(cI, .int)] [.ref h] (rkw cI h a1 a2 n w F G)) (vp_Si (fun r => r = nI (lr n f))) 0 0 (fun _ => False) := by
  obtain ⟨hn3, hn, hw2, hF, hG, hO⟩ := id S
  refine bd_p (cc := cX0_longestRowLength) (maxL := 4) (ret := (some .int)) (by decide) rfl (Nat.le_of_ble_eq_true rfl) ?_
  intro p e s m args below meth c ls CF hr hlocks hK hP hl
  obtain ⟨hx, hb, hml, hown, hts⟩ := id CF
  have hl : lv_has ls 4 [(0, .ref h)] := hl
  have hP : va_P D vwCl [(h, .inr (0, [.ref a1, .ref a2, .int (nI n), .int (nI w)])), (a1, .inl (cI, 40, .inl F)), (a2, .inl (cI, 40, .inl G))] s.heap := hP
  refine lv_iconst (v := nI 0) hx hb dX0_longestRowLength_0 (by decide) ?_
  refine lv_istore_n (lv' := [(1, .int (nI 0)), (0, .ref h)]) hx hb dX0_longestRowLength_1 rfl hl (by decide) rfl (fun ls hl => ?_)
  refine lv_iconst (v := nI 0) hx hb dX0_longestRowLength_2 (by decide) ?_
  refine lv_istore_n (lv' := [(2, .int (nI 0)), (1, .int (nI 0)), (0, .ref h)]) hx hb dX0_longestRowLength_3 rfl hl (by decide) rfl (fun ls hl => ?_)
  have LP4 : ∀ (q i a : Nat), i + q = n → a ≤ n → fo (fun a i => if a < rl n f i then rl n f i else a) q i a = lr n f → ∀ (ls : Array Slot), lv_has ls 4 [(2, .int (nI i)), (1, .int (nI a)), (0, .ref h)] → W p l e ({ frames := 2, cells := 0, slots := 0, locals := 45 } : Room) s m args below meth c s.heap [] 0 0 (MQ below (vp_Si (fun r => r = nI (lr n f))) args s 0 0 (fun _ => False)) (F0 m 4 ls []) := by
    intro q
    induction q with
    | zero =>
      intro i a h1 hb9 h2 ls hl
      refine lv_iload_n hx hb dX0_longestRowLength_4 rfl (lv_at hl 0 rfl) ?_
      refine lv_aload_n hx hb dX0_longestRowLength_5 rfl (lv_at hl 2 rfl) ?_
      refine va_get (D := D) (ci := 0) (v := .int (nI n)) (C := RX0) (T := TX0) (N := 4) hx hb hts (fun _ h => (List.mem_cons_of_mem _ (List.mem_append_right _ h))) hown hK hP 0 rfl rfl 2 (by decide) (hts _ (List.mem_of_getElem? (i := 1) rfl)) (fun _ h9 => h9) rfl dX0_longestRowLength_6 ?_
      refine bn_ge (tgt := 35) hx hb dX0_longestRowLength_9 (by decide) (by omega) (by omega) (fun c9 => ?_) (fun c9 => ?_)
      · skip
        refine lv_iload_n hx hb dX0_longestRowLength_35 rfl (lv_at hl 1 rfl) ?_
        exact en_i hx hb hr hlocks (congrArg nI h2) dX0_longestRowLength_36
      · skip
        omega
    | succ q ih =>
      intro i a h1 hb9 h2 ls hl
      refine lv_iload_n hx hb dX0_longestRowLength_4 rfl (lv_at hl 0 rfl) ?_
      refine lv_aload_n hx hb dX0_longestRowLength_5 rfl (lv_at hl 2 rfl) ?_
      refine va_get (D := D) (ci := 0) (v := .int (nI n)) (C := RX0) (T := TX0) (N := 4) hx hb hts (fun _ h => (List.mem_cons_of_mem _ (List.mem_append_right _ h))) hown hK hP 0 rfl rfl 2 (by decide) (hts _ (List.mem_of_getElem? (i := 1) rfl)) (fun _ h9 => h9) rfl dX0_longestRowLength_6 ?_
      refine bn_ge (tgt := 35) hx hb dX0_longestRowLength_9 (by decide) (by omega) (by omega) (fun c9 => ?_) (fun c9 => ?_)
      · skip
        omega
      · skip
        refine lv_aload_n hx hb dX0_longestRowLength_12 rfl (lv_at hl 2 rfl) ?_
        refine lv_iload_n hx hb dX0_longestRowLength_13 rfl (lv_at hl 0 rfl) ?_
        have hrl := rl_le (show 0 < n by omega) f i
        refine pv_i CF (m_X0_rowLength l D cI h a1 a2 S i (by omega)) (cwV 1 hts gX0_longestRowLength_X0_rowLength rfl rfl rfl k_X0_rowLength ⟨Nat.le_of_ble_eq_true rfl, Nat.le_of_ble_eq_true rfl⟩) hK hP rfl rfl rfl rfl hl.1 rfl (Nat.le_of_ble_eq_true rfl) dX0_longestRowLength_14 ⟨Nat.zero_le _, Nat.zero_le _⟩ ?_
        refine lv_istore_n (lv' := [(3, .int (nI (rl n f i))), (2, .int (nI i)), (1, .int (nI a)), (0, .ref h)]) hx hb dX0_longestRowLength_17 rfl hl (by decide) rfl (fun ls hl => ?_)
        refine lv_iload_n hx hb dX0_longestRowLength_18 rfl (lv_at hl 0 rfl) ?_
        refine lv_iload_n hx hb dX0_longestRowLength_19 rfl (lv_at hl 2 rfl) ?_
        refine bn_le (tgt := 27) hx hb dX0_longestRowLength_20 (by decide) (by omega) (by omega) (fun c20 => ?_) (fun c20 => ?_)
        · skip
          refine lv_iload_n hx hb dX0_longestRowLength_27 rfl (lv_at hl 2 rfl) ?_
          refine lv_istore_n (lv' := [(1, .int (nI a)), (3, .int (nI (rl n f i))), (2, .int (nI i)), (0, .ref h)]) hx hb dX0_longestRowLength_28 rfl hl (by decide) rfl (fun ls hl => ?_)
          refine lv_iinc (v := (nI (i + 1))) (lv' := [(2, .int (nI (i + 1))), (1, .int (nI a)), (3, .int (nI (rl n f i))), (0, .ref h)]) hx hb dX0_longestRowLength_29 hl (k := 2) rfl (inc1 _) (by decide) rfl (fun ls hl => ?_)
          refine lv_goto (tgt := 4) hx hb dX0_longestRowLength_32 (by decide) ?_
          exact ih (i + 1) a (by omega) (by omega) (by rw [fo_s, if_neg (by omega)] at h2; exact h2) _ (lv_sub hl [0, 1, 3] rfl)
        · skip
          refine lv_iload_n hx hb dX0_longestRowLength_23 rfl (lv_at hl 0 rfl) ?_
          refine lv_goto (tgt := 28) hx hb dX0_longestRowLength_24 (by decide) ?_
          refine lv_istore_n (lv' := [(1, .int (nI (rl n f i))), (3, .int (nI (rl n f i))), (2, .int (nI i)), (0, .ref h)]) hx hb dX0_longestRowLength_28 rfl hl (by decide) rfl (fun ls hl => ?_)
          refine lv_iinc (v := (nI (i + 1))) (lv' := [(2, .int (nI (i + 1))), (1, .int (nI (rl n f i))), (3, .int (nI (rl n f i))), (0, .ref h)]) hx hb dX0_longestRowLength_29 hl (k := 2) rfl (inc1 _) (by decide) rfl (fun ls hl => ?_)
          refine lv_goto (tgt := 4) hx hb dX0_longestRowLength_32 (by decide) ?_
          exact ih (i + 1) (rl n f i) (by omega) (by omega) (by rw [fo_s, if_pos (by omega)] at h2; exact h2) _ (lv_sub hl [0, 1, 3] rfl)
  exact LP4 n 0 0 (Nat.zero_add n) (Nat.zero_le n) rfl _ (lv_sub hl [0, 1, 2] rfl)
end
section
/-! Rack: methods that write -/
theorem k_X0_put : yX0_put.cls = RX0 ∧ yX0_put.cls ≠ "java/lang/invoke/MethodHandle" ∧ yX0_put.cls ≠ "java/lang/invoke/VarHandle" ∧ (parseMethodDescriptor yX0_put.desc).map (fun d => d.parameters.length) = some 3 := by decide +kernel
set_option maxHeartbeats 4000000 in
set_option maxRecDepth 100000 in
theorem m_X0_put (l : Launch) (D : va_G) (cI : ClassId) (h a1 a2 n w : Nat) (F G : Nat → Int32) (k : Nat) (x y : Int32) (hk : k < 40) (sz : Nat) : Met l yX0_put wsX0_put ({ frames := 0, cells := 0, slots := 0, locals := 0 } : Room) (PM D [(cI, .int)] [.ref h, .int (nI k), .int x, .int y] sz (rkw cI h a1 a2 n w F G)) (qm_v (fun H1 => va_P D vwCl (rkw cI h a1 a2 n w (upd F k x) (upd G k y)) H1) (va_A (rkw cI h a1 a2 n w F G) sz)) 0 0 (va_A (rkw cI h a1 a2 n w F G) sz) := by
  refine bd_m (Qc := (fun A => qm_v (fun H1 => va_P D vwCl (rkw cI h a1 a2 n w (upd F k x) (upd G k y)) H1) A)) (cc := cX0_put) (maxL := 4) (ret := none) (by decide) rfl (Nat.le_of_ble_eq_true rfl) ?_
  intro p e s m args below meth c ls A CF hr hlocks hK hP hD hA hS hl hin
  obtain ⟨hx, hb, hml, hown, hts⟩ := id CF
  have hl : lv_has ls 4 [(0, .ref h), (1, .int (nI k)), (2, .int x), (3, .int y)] := hl
  have hP : va_P D vwCl [(h, .inr (0, [.ref a1, .ref a2, .int (nI n), .int (nI w)])), (a1, .inl (cI, 40, .inl F)), (a2, .inl (cI, 40, .inl G))] s.heap := hP
  have hD : va_D A [(h, .inr (0, [.ref a1, .ref a2, .int (nI n), .int (nI w)])), (a1, .inl (cI, 40, .inl F)), (a2, .inl (cI, 40, .inl G))] := hD
  generalize hH0 : s.heap = H at hP
  have hS : va_S A s.heap H [] := by rw [← hH0]; exact va_S.rf
  generalize hlc0 : ([] : List Loc) = locs at hS ⊢
  refine lv_iload_n hx hb dX0_put_0 rfl (lv_at hl 1 rfl) ?_
  refine bz_lt (tgt := 36) hx hb dX0_put_1 (by decide) (by omega) ?_
  refine lv_iload_n hx hb dX0_put_4 rfl (lv_at hl 1 rfl) ?_
  refine lv_aload_n hx hb dX0_put_5 rfl (lv_at hl 0 rfl) ?_
  refine va_get (D := D) (ci := 0) (v := .ref a1) (C := RX0) (T := TX0) (N := 4) hx hb hts (fun _ h => (List.mem_cons_of_mem _ (List.mem_append_right _ h))) hown hK hP 0 rfl rfl 0 (by decide) (hts _ (List.mem_of_getElem? (i := 1) rfl)) (fun _ h9 => h9) rfl dX0_put_6 ?_
  refine va_alen (v := nI 40) hx hb hK hP 1 0 rfl rfl rfl dX0_put_9 ?_
  refine bn_ge (tgt := 36) hx hb dX0_put_10 (by decide) (by omega) (by omega) (fun c10 => ?_) (fun c10 => ?_)
  · skip
    omega
  · skip
    refine lv_iload_n hx hb dX0_put_13 rfl (lv_at hl 1 rfl) ?_
    refine lv_aload_n hx hb dX0_put_14 rfl (lv_at hl 0 rfl) ?_
    refine va_get (D := D) (ci := 0) (v := .ref a2) (C := RX0) (T := TX0) (N := 4) hx hb hts (fun _ h => (List.mem_cons_of_mem _ (List.mem_append_right _ h))) hown hK hP 0 rfl rfl 1 (by decide) (hts _ (List.mem_of_getElem? (i := 2) rfl)) (fun _ h9 => h9) rfl dX0_put_15 ?_
    refine va_alen (v := nI 40) hx hb hK hP 2 0 rfl rfl rfl dX0_put_18 ?_
    refine bn_ge (tgt := 36) hx hb dX0_put_19 (by decide) (by omega) (by omega) (fun c19 => ?_) (fun c19 => ?_)
    · skip
      omega
    · skip
      refine lv_aload_n hx hb dX0_put_22 rfl (lv_at hl 0 rfl) ?_
      refine va_get (D := D) (ci := 0) (v := .ref a1) (C := RX0) (T := TX0) (N := 4) hx hb hts (fun _ h => (List.mem_cons_of_mem _ (List.mem_append_right _ h))) hown hK hP 0 rfl rfl 0 (by decide) (hts _ (List.mem_of_getElem? (i := 1) rfl)) (fun _ h9 => h9) rfl dX0_put_23 ?_
      refine lv_iload_n hx hb dX0_put_26 rfl (lv_at hl 1 rfl) ?_
      refine lv_iload_n hx hb dX0_put_27 rfl (lv_at hl 2 rfl) ?_
      refine as_i hx hb hK hP hD hS 1 0 rfl rfl (k := k) (by omega) (by omega) dX0_put_28 (fun H locs hP hD hS => ?_)
      have hP : va_P D vwCl [(h, .inr (0, [.ref a1, .ref a2, .int (nI n), .int (nI w)])), (a1, .inl (cI, 40, .inl (upd F k x))), (a2, .inl (cI, 40, .inl G))] H := hP
      have hD : va_D A [(h, .inr (0, [.ref a1, .ref a2, .int (nI n), .int (nI w)])), (a1, .inl (cI, 40, .inl (upd F k x))), (a2, .inl (cI, 40, .inl G))] := hD
      refine lv_aload_n hx hb dX0_put_29 rfl (lv_at hl 0 rfl) ?_
      refine va_get (D := D) (ci := 0) (v := .ref a2) (C := RX0) (T := TX0) (N := 4) hx hb hts (fun _ h => (List.mem_cons_of_mem _ (List.mem_append_right _ h))) hown hK hP 0 rfl rfl 1 (by decide) (hts _ (List.mem_of_getElem? (i := 2) rfl)) (fun _ h9 => h9) rfl dX0_put_30 ?_
      refine lv_iload_n hx hb dX0_put_33 rfl (lv_at hl 1 rfl) ?_
      refine lv_iload_n hx hb dX0_put_34 rfl (lv_at hl 3 rfl) ?_
      refine as_i hx hb hK hP hD hS 2 0 rfl rfl (k := k) (by omega) (by omega) dX0_put_35 (fun H locs hP hD hS => ?_)
      have hP : va_P D vwCl [(h, .inr (0, [.ref a1, .ref a2, .int (nI n), .int (nI w)])), (a1, .inl (cI, 40, .inl (upd F k x))), (a2, .inl (cI, 40, .inl (upd G k y)))] H := hP
      have hD : va_D A [(h, .inr (0, [.ref a1, .ref a2, .int (nI n), .int (nI w)])), (a1, .inl (cI, 40, .inl (upd F k x))), (a2, .inl (cI, 40, .inl (upd G k y)))] := hD
      exact em_v hx hb hr hlocks hS hP dX0_put_36
theorem k_X0_leaveTicket : yX0_leaveTicket.cls = RX0 ∧ yX0_leaveTicket.cls ≠ "java/lang/invoke/MethodHandle" ∧ yX0_leaveTicket.cls ≠ "java/lang/invoke/VarHandle" ∧ (parseMethodDescriptor yX0_leaveTicket.desc).map (fun d => d.parameters.length) = some 1 := by decide +kernel
set_option maxHeartbeats 4000000 in
set_option maxRecDepth 100000 in
theorem m_X0_leaveTicket (l : Launch) (D : va_G) (cI : ClassId) (h a1 a2 n w : Nat) (F G : Nat → Int32) (k : Nat) (hk : k < 40) (sz : Nat) : Met l yX0_leaveTicket wsX0_leaveTicket ({ frames := 1, cells := 0, slots := 0, locals := 23 } : Room) (PM D [(cI, .int)] [.ref h, .int (nI k)] sz (rkw cI h a1 a2 n w F G)) (qm_v (fun H1 => va_P D vwCl (rkw cI h a1 a2 n w (upd F k (-2)) (upd G k (nI 0))) H1) (va_A (rkw cI h a1 a2 n w F G) sz)) 0 0 (va_A (rkw cI h a1 a2 n w F G) sz) := by
  refine bd_m (Qc := (fun A => qm_v (fun H1 => va_P D vwCl (rkw cI h a1 a2 n w (upd F k (-2)) (upd G k (nI 0))) H1) A)) (cc := cX0_leaveTicket) (maxL := 2) (ret := none) (by decide) rfl (Nat.le_of_ble_eq_true rfl) ?_
  intro p e s m args below meth c ls A CF hr hlocks hK hP hD hA hS hl hin
  obtain ⟨hx, hb, hml, hown, hts⟩ := id CF
  have hl : lv_has ls 2 [(0, .ref h), (1, .int (nI k))] := hl
  have hP : va_P D vwCl [(h, .inr (0, [.ref a1, .ref a2, .int (nI n), .int (nI w)])), (a1, .inl (cI, 40, .inl F)), (a2, .inl (cI, 40, .inl G))] s.heap := hP
  have hD : va_D A [(h, .inr (0, [.ref a1, .ref a2, .int (nI n), .int (nI w)])), (a1, .inl (cI, 40, .inl F)), (a2, .inl (cI, 40, .inl G))] := hD
  generalize hH0 : s.heap = H at hP
  have hS : va_S A s.heap H [] := by rw [← hH0]; exact va_S.rf
  generalize hlc0 : ([] : List Loc) = locs at hS ⊢
  refine lv_aload_n hx hb dX0_leaveTicket_0 rfl (lv_at hl 0 rfl) ?_
  refine lv_iload_n hx hb dX0_leaveTicket_1 rfl (lv_at hl 1 rfl) ?_
  refine lv_bipush (v := (-2)) hx hb dX0_leaveTicket_2 (by decide) ?_
  refine lv_iconst (v := nI 0) hx hb dX0_leaveTicket_4 (by decide) ?_
  have hPc : va_P D vwCl [(h, .inr (0, [.ref a1, .ref a2, .int (nI n), .int (nI w)])), (a1, .inl (cI, 40, .inl F)), (a2, .inl (cI, 40, .inl G))] H := hP.sub [0, 1, 2] rfl
  have hDc : va_D A [(h, .inr (0, [.ref a1, .ref a2, .int (nI n), .int (nI w)])), (a1, .inl (cI, 40, .inl F)), (a2, .inl (cI, 40, .inl G))] := hD.sub [0, 1, 2] (by decide) rfl
  have hFc := va_free (wc := [(h, .inr (0, [.ref a1, .ref a2, .int (nI n), .int (nI w)])), (a1, .inl (cI, 40, .inl F)), (a2, .inl (cI, 40, .inl G))]) hD hS hA [0, 1, 2] rfl
  refine pq_v (va_runV (rest := []) CF (m_X0_put l D cI h a1 a2 n w F G k (-2) (nI 0) hk H.size) (cwV 3 hts gX0_leaveTicket_X0_put rfl rfl rfl k_X0_put ⟨Nat.le_of_ble_eq_true rfl, Nat.le_of_ble_eq_true rfl⟩) (mv_pre hK hPc hDc rfl rfl rfl) rfl rfl hl.1 rfl (lv_room (Nat.le_of_ble_eq_true rfl)) dX0_leaveTicket_5 ⟨Nat.le_of_ble_eq_true rfl, Nat.le_of_ble_eq_true rfl⟩) hS hFc (fun H locs hB hk1 hS => ?_)
  have hP1 := hB
  obtain ⟨hP, hD⟩ := jn (wb := [(h, .inr (0, [.ref a1, .ref a2, .int (nI n), .int (nI w)])), (a1, .inl (cI, 40, .inl (upd F k (-2)))), (a2, .inl (cI, 40, .inl (upd G k (nI 0))))]) (w1 := [(h, .inr (0, [.ref a1, .ref a2, .int (nI n), .int (nI w)])), (a1, .inl (cI, 40, .inl (upd F k (-2)))), (a2, .inl (cI, 40, .inl (upd G k (nI 0))))]) hP hD [0, 1, 2] [] rfl rfl rfl rfl 3 rfl (by decide) (by decide) hk1 hP1
  exact em_v hx hb hr hlocks hS hP dX0_leaveTicket_8
theorem k_X0_clear : yX0_clear.cls = RX0 ∧ yX0_clear.cls ≠ "java/lang/invoke/MethodHandle" ∧ yX0_clear.cls ≠ "java/lang/invoke/VarHandle" ∧ (parseMethodDescriptor yX0_clear.desc).map (fun d => d.parameters.length) = some 2 := by decide +kernel
set_option maxHeartbeats 4000000 in
set_option maxRecDepth 100000 in
theorem m_X0_clear (l : Launch) (D : va_G) (cI : ClassId) (h a1 a2 n w : Nat) (F G : Nat → Int32) (n2 w2 : Nat) (sz : Nat) : Met l yX0_clear wsX0_clear ({ frames := 1, cells := 0, slots := 0, locals := 23 } : Room) (PM D [(cI, .int)] [.ref h, .int (nI n2), .int (nI w2)] sz (rkw cI h a1 a2 n w F G)) (qm_v (fun H1 => ∃ F2 G2 : Nat → Int32, (∀ k, k < 40 → F2 k = -1) ∧ (∀ k, k < 40 → G2 k = nI 0) ∧ va_P D vwCl (rkw cI h a1 a2 n2 w2 F2 G2) H1) (va_A (rkw cI h a1 a2 n w F G) sz)) 0 0 (va_A (rkw cI h a1 a2 n w F G) sz) := by
  refine bd_m (Qc := (fun A => qm_v (fun H1 => ∃ F2 G2 : Nat → Int32, (∀ k, k < 40 → F2 k = -1) ∧ (∀ k, k < 40 → G2 k = nI 0) ∧ va_P D vwCl (rkw cI h a1 a2 n2 w2 F2 G2) H1) A)) (cc := cX0_clear) (maxL := 4) (ret := none) (by decide) rfl (Nat.le_of_ble_eq_true rfl) ?_
  intro p e s m args below meth c ls A CF hr hlocks hK hP hD hA hS hl hin
  obtain ⟨hx, hb, hml, hown, hts⟩ := id CF
  have hl : lv_has ls 4 [(0, .ref h), (1, .int (nI n2)), (2, .int (nI w2))] := hl
  have hP : va_P D vwCl [(h, .inr (0, [.ref a1, .ref a2, .int (nI n), .int (nI w)])), (a1, .inl (cI, 40, .inl F)), (a2, .inl (cI, 40, .inl G))] s.heap := hP
  have hD : va_D A [(h, .inr (0, [.ref a1, .ref a2, .int (nI n), .int (nI w)])), (a1, .inl (cI, 40, .inl F)), (a2, .inl (cI, 40, .inl G))] := hD
  generalize hH0 : s.heap = H at hP
  have hS : va_S A s.heap H [] := by rw [← hH0]; exact va_S.rf
  generalize hlc0 : ([] : List Loc) = locs at hS ⊢
  refine lv_aload_n hx hb dX0_clear_0 rfl (lv_at hl 0 rfl) ?_
  refine lv_iload_n hx hb dX0_clear_1 rfl (lv_at hl 1 rfl) ?_
  refine va_put (D := D) (ci := 0) (v := .int (nI n2)) (ty := .int) (C := RX0) (T := TX0) (N := 4) hx hb hts (fun _ h => (List.mem_cons_of_mem _ (List.mem_append_right _ h))) tyX0 tyX0_ok nmX0 hown hK hP hD hS 0 rfl rfl 2 (by decide) (hts _ (List.mem_of_getElem? (i := 1) rfl)) (fun _ h9 => h9) rfl (by decide +kernel) rfl rfl (Nat.le_of_ble_eq_true rfl) dX0_clear_2 (fun H locs hP hD hS => ?_)
  have hP : va_P D vwCl [(h, .inr (0, [.ref a1, .ref a2, .int (nI n2), .int (nI w)])), (a1, .inl (cI, 40, .inl F)), (a2, .inl (cI, 40, .inl G))] H := hP
  have hD : va_D A [(h, .inr (0, [.ref a1, .ref a2, .int (nI n2), .int (nI w)])), (a1, .inl (cI, 40, .inl F)), (a2, .inl (cI, 40, .inl G))] := hD
  refine lv_aload_n hx hb dX0_clear_5 rfl (lv_at hl 0 rfl) ?_
  refine lv_iload_n hx hb dX0_clear_6 rfl (lv_at hl 2 rfl) ?_
  refine va_put (D := D) (ci := 0) (v := .int (nI w2)) (ty := .int) (C := RX0) (T := TX0) (N := 4) hx hb hts (fun _ h => (List.mem_cons_of_mem _ (List.mem_append_right _ h))) tyX0 tyX0_ok nmX0 hown hK hP hD hS 0 rfl rfl 3 (by decide) (hts _ (List.mem_of_getElem? (i := 2) rfl)) (fun _ h9 => h9) rfl (by decide +kernel) rfl rfl (Nat.le_of_ble_eq_true rfl) dX0_clear_7 (fun H locs hP hD hS => ?_)
  have hP : va_P D vwCl [(h, .inr (0, [.ref a1, .ref a2, .int (nI n2), .int (nI w2)])), (a1, .inl (cI, 40, .inl F)), (a2, .inl (cI, 40, .inl G))] H := hP
  have hD : va_D A [(h, .inr (0, [.ref a1, .ref a2, .int (nI n2), .int (nI w2)])), (a1, .inl (cI, 40, .inl F)), (a2, .inl (cI, 40, .inl G))] := hD
  refine lv_iconst (v := nI 0) hx hb dX0_clear_10 (by decide) ?_
  refine lv_istore_n (lv' := [(3, .int (nI 0)), (0, .ref h), (1, .int (nI n2)), (2, .int (nI w2))]) hx hb dX0_clear_11 rfl hl (by decide) rfl (fun ls hl => ?_)
  have LP12 : ∀ (q i : Nat) (F1 G1 : Nat → Int32), i + q = 40 → (∀ k, k < i → F1 k = -1) → (∀ k, k < i → G1 k = nI 0) → ∀ (H : Heap) (locs : List Loc), va_P D vwCl [(h, .inr (0, [.ref a1, .ref a2, .int (nI n2), .int (nI w2)])), (a1, .inl (cI, 40, .inl F1)), (a2, .inl (cI, 40, .inl G1))] H → va_D A [(h, .inr (0, [.ref a1, .ref a2, .int (nI n2), .int (nI w2)])), (a1, .inl (cI, 40, .inl F1)), (a2, .inl (cI, 40, .inl G1))] → va_S A s.heap H locs → ∀ (ls : Array Slot), lv_has ls 4 [(3, .int (nI i)), (0, .ref h), (1, .int (nI n2)), (2, .int (nI w2))] → W p l e ({ frames := 1, cells := 0, slots := 0, locals := 23 } : Room) s m args below meth c H locs 0 0 (MQ below (qm_v (fun H1 => ∃ F2 G2 : Nat → Int32, (∀ k, k < 40 → F2 k = -1) ∧ (∀ k, k < 40 → G2 k = nI 0) ∧ va_P D vwCl (rkw cI h a1 a2 n2 w2 F2 G2) H1) A) args s 0 0 A) (F0 m 12 ls []) := by
    intro q
    induction q with
    | zero =>
      intro i F1 G1 h1 h2 h3 H locs hP hD hS ls hl
      refine lv_iload_n hx hb dX0_clear_12 rfl (lv_at hl 0 rfl) ?_
      refine lv_aload_n hx hb dX0_clear_13 rfl (lv_at hl 1 rfl) ?_
      refine va_get (D := D) (ci := 0) (v := .ref a1) (C := RX0) (T := TX0) (N := 4) hx hb hts (fun _ h => (List.mem_cons_of_mem _ (List.mem_append_right _ h))) hown hK hP 0 rfl rfl 0 (by decide) (hts _ (List.mem_of_getElem? (i := 3) rfl)) (fun _ h9 => h9) rfl dX0_clear_14 ?_
      refine va_alen (v := nI 40) hx hb hK hP 1 0 rfl rfl rfl dX0_clear_17 ?_
      refine bn_ge (tgt := 34) hx hb dX0_clear_18 (by decide) (by omega) (by omega) (fun c18 => ?_) (fun c18 => ?_)
      · skip
        exact em_v hx hb hr hlocks hS (⟨F1, G1, fun k hk => h2 k (by omega), fun k hk => h3 k (by omega), hP⟩) dX0_clear_34
      · skip
        omega
    | succ q ih =>
      intro i F1 G1 h1 h2 h3 H locs hP hD hS ls hl
      refine lv_iload_n hx hb dX0_clear_12 rfl (lv_at hl 0 rfl) ?_
      refine lv_aload_n hx hb dX0_clear_13 rfl (lv_at hl 1 rfl) ?_
      refine va_get (D := D) (ci := 0) (v := .ref a1) (C := RX0) (T := TX0) (N := 4) hx hb hts (fun _ h => (List.mem_cons_of_mem _ (List.mem_append_right _ h))) hown hK hP 0 rfl rfl 0 (by decide) (hts _ (List.mem_of_getElem? (i := 3) rfl)) (fun _ h9 => h9) rfl dX0_clear_14 ?_
      refine va_alen (v := nI 40) hx hb hK hP 1 0 rfl rfl rfl dX0_clear_17 ?_
      refine bn_ge (tgt := 34) hx hb dX0_clear_18 (by decide) (by omega) (by omega) (fun c18 => ?_) (fun c18 => ?_)
      · skip
        omega
      · skip
        refine lv_aload_n hx hb dX0_clear_21 rfl (lv_at hl 1 rfl) ?_
        refine lv_iload_n hx hb dX0_clear_22 rfl (lv_at hl 0 rfl) ?_
        refine lv_iconst (v := (-1)) hx hb dX0_clear_23 (by decide) ?_
        refine lv_iconst (v := nI 0) hx hb dX0_clear_24 (by decide) ?_
        have hPc : va_P D vwCl [(h, .inr (0, [.ref a1, .ref a2, .int (nI n2), .int (nI w2)])), (a1, .inl (cI, 40, .inl F1)), (a2, .inl (cI, 40, .inl G1))] H := hP.sub [0, 1, 2] rfl
        have hDc : va_D A [(h, .inr (0, [.ref a1, .ref a2, .int (nI n2), .int (nI w2)])), (a1, .inl (cI, 40, .inl F1)), (a2, .inl (cI, 40, .inl G1))] := hD.sub [0, 1, 2] (by decide) rfl
        have hFc := va_free (wc := [(h, .inr (0, [.ref a1, .ref a2, .int (nI n2), .int (nI w2)])), (a1, .inl (cI, 40, .inl F1)), (a2, .inl (cI, 40, .inl G1))]) hD hS hA [0, 1, 2] rfl
        refine pq_v (va_runV (rest := []) CF (m_X0_put l D cI h a1 a2 n2 w2 F1 G1 i (-1) (nI 0) (by omega) H.size) (cwV 3 hts gX0_clear_X0_put rfl rfl rfl k_X0_put ⟨Nat.le_of_ble_eq_true rfl, Nat.le_of_ble_eq_true rfl⟩) (mv_pre hK hPc hDc rfl rfl rfl) rfl rfl hl.1 rfl (lv_room (Nat.le_of_ble_eq_true rfl)) dX0_clear_25 ⟨Nat.le_of_ble_eq_true rfl, Nat.le_of_ble_eq_true rfl⟩) hS hFc (fun H locs hB hk1 hS => ?_)
        have hP1 := hB
        obtain ⟨hP, hD⟩ := jn (wb := [(h, .inr (0, [.ref a1, .ref a2, .int (nI n2), .int (nI w2)])), (a1, .inl (cI, 40, .inl (upd F1 i (-1)))), (a2, .inl (cI, 40, .inl (upd G1 i (nI 0))))]) (w1 := [(h, .inr (0, [.ref a1, .ref a2, .int (nI n2), .int (nI w2)])), (a1, .inl (cI, 40, .inl (upd F1 i (-1)))), (a2, .inl (cI, 40, .inl (upd G1 i (nI 0))))]) hP hD [0, 1, 2] [] rfl rfl rfl rfl 3 rfl (by decide) (by decide) hk1 hP1
        refine lv_iinc (v := (nI (i + 1))) (lv' := [(3, .int (nI (i + 1))), (0, .ref h), (1, .int (nI n2)), (2, .int (nI w2))]) hx hb dX0_clear_28 hl (k := 0) rfl (inc1 _) (by decide) rfl (fun ls hl => ?_)
        refine lv_goto (tgt := 12) hx hb dX0_clear_31 (by decide) ?_
        exact ih (i + 1) (upd F1 i (-1)) (upd G1 i (nI 0)) (by omega) (up_all h2) (up_all h3) _ _ hP hD hS _ (lv_sub hl [0, 1, 2, 3] rfl)
  exact LP12 40 0 F G (by omega) (fun k hk => absurd hk (Nat.not_lt_zero k)) (fun k hk => absurd hk (Nat.not_lt_zero k)) _ _ hP hD hS _ (lv_sub hl [0, 1, 2, 3] rfl)
theorem k_X0_freeAll : yX0_freeAll.cls = RX0 ∧ yX0_freeAll.cls ≠ "java/lang/invoke/MethodHandle" ∧ yX0_freeAll.cls ≠ "java/lang/invoke/VarHandle" ∧ (parseMethodDescriptor yX0_freeAll.desc).map (fun d => d.parameters.length) = some 0 := by decide +kernel
set_option maxHeartbeats 4000000 in
set_option maxRecDepth 100000 in
theorem m_X0_freeAll (l : Launch) (D : va_G) (cI : ClassId) (h a1 a2 n w : Nat) (F G : Nat → Int32) (sz : Nat) : Met l yX0_freeAll wsX0_freeAll ({ frames := 2, cells := 0, slots := 0, locals := 46 } : Room) (PM D [(cI, .int)] [.ref h] sz (rkw cI h a1 a2 n w F G)) (qm_i (fun r H1 => r = nI n ∧ ∃ F2 G2 : Nat → Int32, (∀ k, k < 40 → F2 k = -1) ∧ (∀ k, k < 40 → G2 k = nI 0) ∧ va_P D vwCl (rkw cI h a1 a2 n w F2 G2) H1) (va_A (rkw cI h a1 a2 n w F G) sz)) 0 0 (va_A (rkw cI h a1 a2 n w F G) sz) := by
  refine bd_m (Qc := (fun A => qm_i (fun r H1 => r = nI n ∧ ∃ F2 G2 : Nat → Int32, (∀ k, k < 40 → F2 k = -1) ∧ (∀ k, k < 40 → G2 k = nI 0) ∧ va_P D vwCl (rkw cI h a1 a2 n w F2 G2) H1) A)) (cc := cX0_freeAll) (maxL := 2) (ret := (some .int)) (by decide) rfl (Nat.le_of_ble_eq_true rfl) ?_
  intro p e s m args below meth c ls A CF hr hlocks hK hP hD hA hS hl hin
  obtain ⟨hx, hb, hml, hown, hts⟩ := id CF
  have hl : lv_has ls 2 [(0, .ref h)] := hl
  have hP : va_P D vwCl [(h, .inr (0, [.ref a1, .ref a2, .int (nI n), .int (nI w)])), (a1, .inl (cI, 40, .inl F)), (a2, .inl (cI, 40, .inl G))] s.heap := hP
  have hD : va_D A [(h, .inr (0, [.ref a1, .ref a2, .int (nI n), .int (nI w)])), (a1, .inl (cI, 40, .inl F)), (a2, .inl (cI, 40, .inl G))] := hD
  generalize hH0 : s.heap = H at hP
  have hS : va_S A s.heap H [] := by rw [← hH0]; exact va_S.rf
  generalize hlc0 : ([] : List Loc) = locs at hS ⊢
  refine lv_aload_n hx hb dX0_freeAll_0 rfl (lv_at hl 0 rfl) ?_
  refine va_get (D := D) (ci := 0) (v := .int (nI n)) (C := RX0) (T := TX0) (N := 4) hx hb hts (fun _ h => (List.mem_cons_of_mem _ (List.mem_append_right _ h))) hown hK hP 0 rfl rfl 2 (by decide) (hts _ (List.mem_of_getElem? (i := 1) rfl)) (fun _ h9 => h9) rfl dX0_freeAll_1 ?_
  refine lv_istore_n (lv' := [(1, .int (nI n)), (0, .ref h)]) hx hb dX0_freeAll_4 rfl hl (by decide) rfl (fun ls hl => ?_)
  refine lv_aload_n hx hb dX0_freeAll_5 rfl (lv_at hl 1 rfl) ?_
  refine lv_aload_n hx hb dX0_freeAll_6 rfl (lv_at hl 1 rfl) ?_
  refine va_get (D := D) (ci := 0) (v := .int (nI n)) (C := RX0) (T := TX0) (N := 4) hx hb hts (fun _ h => (List.mem_cons_of_mem _ (List.mem_append_right _ h))) hown hK hP 0 rfl rfl 2 (by decide) (hts _ (List.mem_of_getElem? (i := 1) rfl)) (fun _ h9 => h9) rfl dX0_freeAll_7 ?_
  refine lv_aload_n hx hb dX0_freeAll_10 rfl (lv_at hl 1 rfl) ?_
  refine va_get (D := D) (ci := 0) (v := .int (nI w)) (C := RX0) (T := TX0) (N := 4) hx hb hts (fun _ h => (List.mem_cons_of_mem _ (List.mem_append_right _ h))) hown hK hP 0 rfl rfl 3 (by decide) (hts _ (List.mem_of_getElem? (i := 2) rfl)) (fun _ h9 => h9) rfl dX0_freeAll_11 ?_
  have hPc : va_P D vwCl [(h, .inr (0, [.ref a1, .ref a2, .int (nI n), .int (nI w)])), (a1, .inl (cI, 40, .inl F)), (a2, .inl (cI, 40, .inl G))] H := hP.sub [0, 1, 2] rfl
  have hDc : va_D A [(h, .inr (0, [.ref a1, .ref a2, .int (nI n), .int (nI w)])), (a1, .inl (cI, 40, .inl F)), (a2, .inl (cI, 40, .inl G))] := hD.sub [0, 1, 2] (by decide) rfl
  have hFc := va_free (wc := [(h, .inr (0, [.ref a1, .ref a2, .int (nI n), .int (nI w)])), (a1, .inl (cI, 40, .inl F)), (a2, .inl (cI, 40, .inl G))]) hD hS hA [0, 1, 2] rfl
  refine pq_v (va_runV (rest := []) CF (m_X0_clear l D cI h a1 a2 n w F G n w H.size) (cwV 2 hts gX0_freeAll_X0_clear rfl rfl rfl k_X0_clear ⟨Nat.le_of_ble_eq_true rfl, Nat.le_of_ble_eq_true rfl⟩) (mv_pre hK hPc hDc rfl rfl rfl) rfl rfl hl.1 rfl (lv_room (Nat.le_of_ble_eq_true rfl)) dX0_freeAll_14 ⟨Nat.le_of_ble_eq_true rfl, Nat.le_of_ble_eq_true rfl⟩) hS hFc (fun H locs hB hk1 hS => ?_)
  obtain ⟨F2, G2, hF2, hG2, hP1⟩ := hB
  obtain ⟨hP, hD⟩ := jn (wb := [(h, .inr (0, [.ref a1, .ref a2, .int (nI n), .int (nI w)])), (a1, .inl (cI, 40, .inl F2)), (a2, .inl (cI, 40, .inl G2))]) (w1 := [(h, .inr (0, [.ref a1, .ref a2, .int (nI n), .int (nI w)])), (a1, .inl (cI, 40, .inl F2)), (a2, .inl (cI, 40, .inl G2))]) hP hD [0, 1, 2] [] rfl rfl rfl rfl 3 rfl (by decide) (by decide) hk1 hP1
  refine lv_iload_n hx hb dX0_freeAll_17 rfl (lv_at hl 0 rfl) ?_
  exact em_i hx hb hr hlocks hS (⟨rfl, F2, G2, hF2, hG2, hP⟩) dX0_freeAll_18
theorem k_X0_freeSweptTickets : yX0_freeSweptTickets.cls = RX0 ∧ yX0_freeSweptTickets.cls ≠ "java/lang/invoke/MethodHandle" ∧ yX0_freeSweptTickets.cls ≠ "java/lang/invoke/VarHandle" ∧ (parseMethodDescriptor yX0_freeSweptTickets.desc).map (fun d => d.parameters.length) = some 0 := by decide +kernel
set_option maxHeartbeats 4000000 in
set_option maxRecDepth 100000 in
theorem m_X0_freeSweptTickets (l : Launch) (D : va_G) (cI : ClassId) (h a1 a2 : Nat) {n w : Nat} {F G f g : Nat → Int32} (S : RS n w F G f g) (sz : Nat) : Met l yX0_freeSweptTickets wsX0_freeSweptTickets ({ frames := 1, cells := 0, slots := 0, locals := 23 } : Room) (PM D [(cI, .int)] [.ref h] sz (rkw cI h a1 a2 n w F G)) (qm_i (fun r H1 => r = nI (sw n (2 * n) f 0).2 ∧ ∃ F2 G2 : Nat → Int32, RS n w F2 G2 (sw n (2 * n) f 0).1 g ∧ va_P D vwCl (rkw cI h a1 a2 n w F2 G2) H1) (va_A (rkw cI h a1 a2 n w F G) sz)) 0 0 (va_A (rkw cI h a1 a2 n w F G) sz) := by
  obtain ⟨hn3, hn, hw2, hF, hG, hO⟩ := id S
  refine bd_m (Qc := (fun A => qm_i (fun r H1 => r = nI (sw n (2 * n) f 0).2 ∧ ∃ F2 G2 : Nat → Int32, RS n w F2 G2 (sw n (2 * n) f 0).1 g ∧ va_P D vwCl (rkw cI h a1 a2 n w F2 G2) H1) A)) (cc := cX0_freeSweptTickets) (maxL := 4) (ret := (some .int)) (by decide) rfl (Nat.le_of_ble_eq_true rfl) ?_
  intro p e s m args below meth c ls A CF hr hlocks hK hP hD hA hS hl hin
  obtain ⟨hx, hb, hml, hown, hts⟩ := id CF
  have hl : lv_has ls 4 [(0, .ref h)] := hl
  have hP : va_P D vwCl [(h, .inr (0, [.ref a1, .ref a2, .int (nI n), .int (nI w)])), (a1, .inl (cI, 40, .inl F)), (a2, .inl (cI, 40, .inl G))] s.heap := hP
  have hD : va_D A [(h, .inr (0, [.ref a1, .ref a2, .int (nI n), .int (nI w)])), (a1, .inl (cI, 40, .inl F)), (a2, .inl (cI, 40, .inl G))] := hD
  generalize hH0 : s.heap = H at hP
  have hS : va_S A s.heap H [] := by rw [← hH0]; exact va_S.rf
  generalize hlc0 : ([] : List Loc) = locs at hS ⊢
  refine lv_iconst (v := nI 0) hx hb dX0_freeSweptTickets_0 (by decide) ?_
  refine lv_istore_n (lv' := [(1, .int (nI 0)), (0, .ref h)]) hx hb dX0_freeSweptTickets_1 rfl hl (by decide) rfl (fun ls hl => ?_)
  refine lv_aload_n hx hb dX0_freeSweptTickets_2 rfl (lv_at hl 1 rfl) ?_
  refine va_get (D := D) (ci := 0) (v := .int (nI n)) (C := RX0) (T := TX0) (N := 4) hx hb hts (fun _ h => (List.mem_cons_of_mem _ (List.mem_append_right _ h))) hown hK hP 0 rfl rfl 2 (by decide) (hts _ (List.mem_of_getElem? (i := 1) rfl)) (fun _ h9 => h9) rfl dX0_freeSweptTickets_3 ?_
  refine lv_iconst (v := nI 1) hx hb dX0_freeSweptTickets_6 (by decide) ?_
  refine an_sub hx hb (by omega) dX0_freeSweptTickets_7 ?_
  refine lv_istore_n (lv' := [(2, .int (nI (n - 1))), (1, .int (nI 0)), (0, .ref h)]) hx hb dX0_freeSweptTickets_8 rfl hl (by decide) rfl (fun ls hl => ?_)
  refine lv_iconst (v := nI 0) hx hb dX0_freeSweptTickets_9 (by decide) ?_
  refine lv_istore_n (lv' := [(3, .int (nI 0)), (2, .int (nI (n - 1))), (1, .int (nI 0)), (0, .ref h)]) hx hb dX0_freeSweptTickets_10 rfl hl (by decide) rfl (fun ls hl => ?_)
  have LP11 : ∀ (q j a t : Nat) (F1 G1 f1 : Nat → Int32), j + q = 2 * n → t < n → t = (q + n - 1) % n → RS n w F1 G1 f1 g → sw n q f1 a = sw n (2 * n) f 0 → ∀ (H : Heap) (locs : List Loc), va_P D vwCl [(h, .inr (0, [.ref a1, .ref a2, .int (nI n), .int (nI w)])), (a1, .inl (cI, 40, .inl F1)), (a2, .inl (cI, 40, .inl G1))] H → va_D A [(h, .inr (0, [.ref a1, .ref a2, .int (nI n), .int (nI w)])), (a1, .inl (cI, 40, .inl F1)), (a2, .inl (cI, 40, .inl G1))] → va_S A s.heap H locs → ∀ (ls : Array Slot), lv_has ls 4 [(3, .int (nI j)), (2, .int (nI t)), (1, .int (nI a)), (0, .ref h)] → W p l e ({ frames := 1, cells := 0, slots := 0, locals := 23 } : Room) s m args below meth c H locs 0 0 (MQ below (qm_i (fun r H1 => r = nI (sw n (2 * n) f 0).2 ∧ ∃ F2 G2 : Nat → Int32, RS n w F2 G2 (sw n (2 * n) f 0).1 g ∧ va_P D vwCl (rkw cI h a1 a2 n w F2 G2) H1) A) args s 0 0 A) (F0 m 11 ls []) := by
    intro q
    induction q with
    | zero =>
      intro j a t F1 G1 f1 h1 ht et S1 h2 H locs hP hD hS ls hl
      refine lv_iload_n hx hb dX0_freeSweptTickets_11 rfl (lv_at hl 0 rfl) ?_
      refine lv_iconst (v := nI 2) hx hb dX0_freeSweptTickets_12 (by decide) ?_
      refine lv_aload_n hx hb dX0_freeSweptTickets_13 rfl (lv_at hl 3 rfl) ?_
      refine va_get (D := D) (ci := 0) (v := .int (nI n)) (C := RX0) (T := TX0) (N := 4) hx hb hts (fun _ h => (List.mem_cons_of_mem _ (List.mem_append_right _ h))) hown hK hP 0 rfl rfl 2 (by decide) (hts _ (List.mem_of_getElem? (i := 1) rfl)) (fun _ h9 => h9) rfl dX0_freeSweptTickets_14 ?_
      refine an_mul hx hb dX0_freeSweptTickets_17 ?_
      refine bn_ge (tgt := 66) hx hb dX0_freeSweptTickets_18 (by decide) (by omega) (by omega) (fun c18 => ?_) (fun c18 => ?_)
      · skip
        refine lv_iload_n hx hb dX0_freeSweptTickets_66 rfl (lv_at hl 2 rfl) ?_
        exact em_i hx hb hr hlocks hS (⟨congrArg (fun z => nI z.2) h2, F1, G1, by rw [← h2]; exact S1, hP⟩) dX0_freeSweptTickets_67
      · skip
        omega
    | succ q ih =>
      intro j a t F1 G1 f1 h1 ht et S1 h2 H locs hP hD hS ls hl
      refine lv_iload_n hx hb dX0_freeSweptTickets_11 rfl (lv_at hl 0 rfl) ?_
      refine lv_iconst (v := nI 2) hx hb dX0_freeSweptTickets_12 (by decide) ?_
      refine lv_aload_n hx hb dX0_freeSweptTickets_13 rfl (lv_at hl 3 rfl) ?_
      refine va_get (D := D) (ci := 0) (v := .int (nI n)) (C := RX0) (T := TX0) (N := 4) hx hb hts (fun _ h => (List.mem_cons_of_mem _ (List.mem_append_right _ h))) hown hK hP 0 rfl rfl 2 (by decide) (hts _ (List.mem_of_getElem? (i := 1) rfl)) (fun _ h9 => h9) rfl dX0_freeSweptTickets_14 ?_
      refine an_mul hx hb dX0_freeSweptTickets_17 ?_
      refine bn_ge (tgt := 66) hx hb dX0_freeSweptTickets_18 (by decide) (by omega) (by omega) (fun c18 => ?_) (fun c18 => ?_)
      · skip
        omega
      · skip
        refine lv_aload_n hx hb dX0_freeSweptTickets_21 rfl (lv_at hl 3 rfl) ?_
        refine lv_iload_n hx hb dX0_freeSweptTickets_22 rfl (lv_at hl 1 rfl) ?_
        refine pv_i CF (m_X0_heldOn l D cI h a1 a2 S1 t (by omega)) (cwV 1 hts gX0_freeSweptTickets_X0_heldOn rfl rfl rfl k_X0_heldOn ⟨Nat.le_of_ble_eq_true rfl, Nat.le_of_ble_eq_true rfl⟩) hK hP rfl rfl rfl rfl hl.1 rfl (Nat.le_of_ble_eq_true rfl) dX0_freeSweptTickets_23 ⟨Nat.le_of_ble_eq_true rfl, Nat.le_of_ble_eq_true rfl⟩ ?_
        refine tp_i (y := (f1 t)) (hd_in ht) ?_
        refine lv_bipush (v := (-2)) hx hb dX0_freeSweptTickets_26 (by decide) ?_
        refine lv_icmp_ne (tgt := 54) hx hb dX0_freeSweptTickets_28 (by decide) (fun c28 => ?_) (fun c28 => ?_)
        · skip
          refine lv_aload_n hx hb dX0_freeSweptTickets_54 rfl (lv_at hl 3 rfl) ?_
          refine lv_iload_n hx hb dX0_freeSweptTickets_55 rfl (lv_at hl 1 rfl) ?_
          refine pv_i CF (m_X0_before l D cI h a1 a2 S1 t ht) (cwV 1 hts gX0_freeSweptTickets_X0_before rfl rfl rfl k_X0_before ⟨Nat.le_of_ble_eq_true rfl, Nat.le_of_ble_eq_true rfl⟩) hK hP rfl rfl rfl rfl hl.1 rfl (Nat.le_of_ble_eq_true rfl) dX0_freeSweptTickets_56 ⟨Nat.le_of_ble_eq_true rfl, Nat.le_of_ble_eq_true rfl⟩ ?_
          refine lv_istore_n (lv' := [(2, .int (nI (bf n t))), (3, .int (nI j)), (1, .int (nI a)), (0, .ref h)]) hx hb dX0_freeSweptTickets_59 rfl hl (by decide) rfl (fun ls hl => ?_)
          refine lv_iinc (v := (nI (j + 1))) (lv' := [(3, .int (nI (j + 1))), (2, .int (nI (bf n t))), (1, .int (nI a)), (0, .ref h)]) hx hb dX0_freeSweptTickets_60 hl (k := 1) rfl (inc1 _) (by decide) rfl (fun ls hl => ?_)
          refine lv_goto (tgt := 11) hx hb dX0_freeSweptTickets_63 (by decide) ?_
          exact ih (j + 1) a (bf n t) F1 G1 f1 (by omega) (bf_lt ht) (sw_t (show 0 < n by omega) et) S1 (sw_n1 (show 0 < n by omega) et c28 h2) _ _ hP hD hS _ (lv_sub hl [0, 1, 2, 3] rfl)
        · skip
          refine lv_aload_n hx hb dX0_freeSweptTickets_31 rfl (lv_at hl 3 rfl) ?_
          refine lv_aload_n hx hb dX0_freeSweptTickets_32 rfl (lv_at hl 3 rfl) ?_
          refine lv_iload_n hx hb dX0_freeSweptTickets_33 rfl (lv_at hl 1 rfl) ?_
          refine pv_i CF (m_X0_behind l D cI h a1 a2 S1 t ht) (cwV 1 hts gX0_freeSweptTickets_X0_behind rfl rfl rfl k_X0_behind ⟨Nat.le_of_ble_eq_true rfl, Nat.le_of_ble_eq_true rfl⟩) hK hP rfl rfl rfl rfl hl.1 rfl (Nat.le_of_ble_eq_true rfl) dX0_freeSweptTickets_34 ⟨Nat.le_of_ble_eq_true rfl, Nat.le_of_ble_eq_true rfl⟩ ?_
          refine pv_i CF (m_X0_heldOn l D cI h a1 a2 S1 (bh n t) (Nat.lt_trans (bh_lt (by omega)) (by omega))) (cwV 1 hts gX0_freeSweptTickets_X0_heldOn rfl rfl rfl k_X0_heldOn ⟨Nat.le_of_ble_eq_true rfl, Nat.le_of_ble_eq_true rfl⟩) hK hP rfl rfl rfl rfl hl.1 rfl (Nat.le_of_ble_eq_true rfl) dX0_freeSweptTickets_37 ⟨Nat.le_of_ble_eq_true rfl, Nat.le_of_ble_eq_true rfl⟩ ?_
          refine tp_i (y := (f1 (bh n t))) (hd_in (bh_lt (by omega))) ?_
          refine lv_iconst (v := (-1)) hx hb dX0_freeSweptTickets_40 (by decide) ?_
          refine lv_icmp_ne (tgt := 54) hx hb dX0_freeSweptTickets_41 (by decide) (fun c41 => ?_) (fun c41 => ?_)
          · skip
            refine lv_aload_n hx hb dX0_freeSweptTickets_54 rfl (lv_at hl 3 rfl) ?_
            refine lv_iload_n hx hb dX0_freeSweptTickets_55 rfl (lv_at hl 1 rfl) ?_
            refine pv_i CF (m_X0_before l D cI h a1 a2 S1 t ht) (cwV 1 hts gX0_freeSweptTickets_X0_before rfl rfl rfl k_X0_before ⟨Nat.le_of_ble_eq_true rfl, Nat.le_of_ble_eq_true rfl⟩) hK hP rfl rfl rfl rfl hl.1 rfl (Nat.le_of_ble_eq_true rfl) dX0_freeSweptTickets_56 ⟨Nat.le_of_ble_eq_true rfl, Nat.le_of_ble_eq_true rfl⟩ ?_
            refine lv_istore_n (lv' := [(2, .int (nI (bf n t))), (3, .int (nI j)), (1, .int (nI a)), (0, .ref h)]) hx hb dX0_freeSweptTickets_59 rfl hl (by decide) rfl (fun ls hl => ?_)
            refine lv_iinc (v := (nI (j + 1))) (lv' := [(3, .int (nI (j + 1))), (2, .int (nI (bf n t))), (1, .int (nI a)), (0, .ref h)]) hx hb dX0_freeSweptTickets_60 hl (k := 1) rfl (inc1 _) (by decide) rfl (fun ls hl => ?_)
            refine lv_goto (tgt := 11) hx hb dX0_freeSweptTickets_63 (by decide) ?_
            exact ih (j + 1) a (bf n t) F1 G1 f1 (by omega) (bf_lt ht) (sw_t (show 0 < n by omega) et) S1 (sw_n2 (show 0 < n by omega) et c41 h2) _ _ hP hD hS _ (lv_sub hl [0, 1, 2, 3] rfl)
          · skip
            refine lv_aload_n hx hb dX0_freeSweptTickets_44 rfl (lv_at hl 3 rfl) ?_
            refine lv_iload_n hx hb dX0_freeSweptTickets_45 rfl (lv_at hl 1 rfl) ?_
            refine lv_iconst (v := (-1)) hx hb dX0_freeSweptTickets_46 (by decide) ?_
            refine lv_iconst (v := nI 0) hx hb dX0_freeSweptTickets_47 (by decide) ?_
            have hPc : va_P D vwCl [(h, .inr (0, [.ref a1, .ref a2, .int (nI n), .int (nI w)])), (a1, .inl (cI, 40, .inl F1)), (a2, .inl (cI, 40, .inl G1))] H := hP.sub [0, 1, 2] rfl
            have hDc : va_D A [(h, .inr (0, [.ref a1, .ref a2, .int (nI n), .int (nI w)])), (a1, .inl (cI, 40, .inl F1)), (a2, .inl (cI, 40, .inl G1))] := hD.sub [0, 1, 2] (by decide) rfl
            have hFc := va_free (wc := [(h, .inr (0, [.ref a1, .ref a2, .int (nI n), .int (nI w)])), (a1, .inl (cI, 40, .inl F1)), (a2, .inl (cI, 40, .inl G1))]) hD hS hA [0, 1, 2] rfl
            refine pq_v (va_runV (rest := []) CF (m_X0_put l D cI h a1 a2 n w F1 G1 t (-1) (nI 0) (by omega) H.size) (cwV 3 hts gX0_freeSweptTickets_X0_put rfl rfl rfl k_X0_put ⟨Nat.le_of_ble_eq_true rfl, Nat.le_of_ble_eq_true rfl⟩) (mv_pre hK hPc hDc rfl rfl rfl) rfl rfl hl.1 rfl (lv_room (Nat.le_of_ble_eq_true rfl)) dX0_freeSweptTickets_48 ⟨Nat.le_of_ble_eq_true rfl, Nat.le_of_ble_eq_true rfl⟩) hS hFc (fun H locs hB hk1 hS => ?_)
            have hP1 := hB
            obtain ⟨hP, hD⟩ := jn (wb := [(h, .inr (0, [.ref a1, .ref a2, .int (nI n), .int (nI w)])), (a1, .inl (cI, 40, .inl (upd F1 t (-1)))), (a2, .inl (cI, 40, .inl (upd G1 t (nI 0))))]) (w1 := [(h, .inr (0, [.ref a1, .ref a2, .int (nI n), .int (nI w)])), (a1, .inl (cI, 40, .inl (upd F1 t (-1)))), (a2, .inl (cI, 40, .inl (upd G1 t (nI 0))))]) hP hD [0, 1, 2] [] rfl rfl rfl rfl 3 rfl (by decide) (by decide) hk1 hP1
            have S2 := S1.free ht c28
            refine lv_iinc (v := (nI (a + 1))) (lv' := [(1, .int (nI (a + 1))), (3, .int (nI j)), (2, .int (nI t)), (0, .ref h)]) hx hb dX0_freeSweptTickets_51 hl (k := 2) rfl (inc1 _) (by decide) rfl (fun ls hl => ?_)
            refine lv_aload_n hx hb dX0_freeSweptTickets_54 rfl (lv_at hl 3 rfl) ?_
            refine lv_iload_n hx hb dX0_freeSweptTickets_55 rfl (lv_at hl 2 rfl) ?_
            refine pv_i CF (m_X0_before l D cI h a1 a2 S2 t ht) (cwV 1 hts gX0_freeSweptTickets_X0_before rfl rfl rfl k_X0_before ⟨Nat.le_of_ble_eq_true rfl, Nat.le_of_ble_eq_true rfl⟩) hK hP rfl rfl rfl rfl hl.1 rfl (Nat.le_of_ble_eq_true rfl) dX0_freeSweptTickets_56 ⟨Nat.le_of_ble_eq_true rfl, Nat.le_of_ble_eq_true rfl⟩ ?_
            refine lv_istore_n (lv' := [(2, .int (nI (bf n t))), (1, .int (nI (a + 1))), (3, .int (nI j)), (0, .ref h)]) hx hb dX0_freeSweptTickets_59 rfl hl (by decide) rfl (fun ls hl => ?_)
            refine lv_iinc (v := (nI (j + 1))) (lv' := [(3, .int (nI (j + 1))), (2, .int (nI (bf n t))), (1, .int (nI (a + 1))), (0, .ref h)]) hx hb dX0_freeSweptTickets_60 hl (k := 2) rfl (inc1 _) (by decide) rfl (fun ls hl => ?_)
            refine lv_goto (tgt := 11) hx hb dX0_freeSweptTickets_63 (by decide) ?_
            exact ih (j + 1) (a + 1) (bf n t) (upd F1 t (-1)) (upd G1 t (nI 0)) (upd f1 t (-1)) (by omega) (bf_lt ht) (sw_t (show 0 < n by omega) et) S2 (sw_y (show 0 < n by omega) et c28 c41 h2) _ _ hP hD hS _ (lv_sub hl [0, 1, 2, 3] rfl)
  exact LP11 (2 * n) 0 0 (n - 1) F G f (by omega) (by omega) (sw_0 hn3) S rfl _ _ hP hD hS _ (lv_sub hl [0, 1, 2, 3] rfl)
theorem k_X0_init : yX0_init.cls ≠ "java/lang/invoke/MethodHandle" ∧ yX0_init.cls ≠ "java/lang/invoke/VarHandle" ∧ (parseMethodDescriptor yX0_init.desc).map (fun d => d.parameters.length) = some 0 := by decide +kernel
set_option maxHeartbeats 4000000 in
set_option maxRecDepth 100000 in
theorem m_X0_init (l : Launch) (D : va_G) (cI : ClassId) (h : Nat) (sz : Nat) : Met l yX0_init wsX0_init ({ frames := 2, cells := 2, slots := 80, locals := 46 } : Room) (PM D [(cI, .int)] [.ref h] sz [(h, .inr (0, [.null, .null, .int (nI 0), .int (nI 0)]))]) (qm_v ((fun (A : Nat → Prop) H1 => ∃ (a1 a2 : Nat) (F2 G2 : Nat → Int32), (∀ k, k < 40 → F2 k = -1) ∧ (∀ k, k < 40 → G2 k = nI 0) ∧ va_P D vwCl (rkw cI h a1 a2 8 0 F2 G2) H1 ∧ va_D A (rkw cI h a1 a2 8 0 F2 G2)) (va_A [(h, .inr (0, [.null, .null, .int (nI 0), .int (nI 0)]))] sz)) (va_A [(h, .inr (0, [.null, .null, .int (nI 0), .int (nI 0)]))] sz)) 2 80 (va_A [(h, .inr (0, [.null, .null, .int (nI 0), .int (nI 0)]))] sz) := by
  refine bd_m (Qc := (fun A => qm_v ((fun (A : Nat → Prop) H1 => ∃ (a1 a2 : Nat) (F2 G2 : Nat → Int32), (∀ k, k < 40 → F2 k = -1) ∧ (∀ k, k < 40 → G2 k = nI 0) ∧ va_P D vwCl (rkw cI h a1 a2 8 0 F2 G2) H1 ∧ va_D A (rkw cI h a1 a2 8 0 F2 G2)) A) A)) (cc := cX0_init) (maxL := 1) (ret := none) (by decide) rfl (Nat.le_of_ble_eq_true rfl) ?_
  intro p e s m args below meth c ls A CF hr hlocks hK hP hD hA hS hl hin
  obtain ⟨hx, hb, hml, hown, hts⟩ := id CF
  have hl : lv_has ls 1 [(0, .ref h)] := hl
  have hP : va_P D vwCl [(h, .inr (0, [.null, .null, .int (nI 0), .int (nI 0)]))] s.heap := hP
  have hD : va_D A [(h, .inr (0, [.null, .null, .int (nI 0), .int (nI 0)]))] := hD
  generalize hH0 : s.heap = H at hP
  have hS : va_S A s.heap H [] := by rw [← hH0]; exact va_S.rf
  generalize hlc0 : ([] : List Loc) = locs at hS ⊢
  refine lv_aload_n hx hb dX0_init_0 rfl (lv_at hl 0 rfl) ?_
  refine W.objInit hx hb hown (hts _ (List.mem_of_getElem? (i := 1) rfl)) (hts _ (List.mem_of_getElem? (i := 2) rfl)) (hts _ (List.mem_of_getElem? (i := 3) rfl)) rfl (by rw [hml]; exact hl.1) rfl dX0_init_1 (Nat.le_of_ble_eq_true rfl) (Nat.le_of_ble_eq_true rfl) ?_
  refine W.eq (g2 := F0 m 4 ls []) rfl ?_
  refine lv_aload_n hx hb dX0_init_4 rfl (lv_at hl 0 rfl) ?_
  refine lv_bipush (v := nI 40) hx hb dX0_init_5 (by decide) ?_
  refine va_newa (ty := .int) (a0 := (40, .inl (fun _ => 0))) hx hb (hts _ (List.mem_of_getElem? (i := 4) rfl)) rfl hK hP hD hS hA (fun _ => rfl) (nI_pos (by decide)) (nI_clamp (by decide)) (Nat.le_of_ble_eq_true rfl) (Nat.le_of_ble_eq_true rfl) (Nat.le_of_ble_eq_true rfl) dX0_init_7 (fun q7 cA H hK1 hP hD hS => ?_)
  obtain rfl : cI = cA := ar_one hK1 0 1 rfl rfl
  have hP : va_P D vwCl [(h, .inr (0, [.null, .null, .int (nI 0), .int (nI 0)])), (q7, .inl (cI, 40, .inl (fun _ => 0)))] H := hP
  have hD : va_D A [(h, .inr (0, [.null, .null, .int (nI 0), .int (nI 0)])), (q7, .inl (cI, 40, .inl (fun _ => 0)))] := hD
  refine va_putF (D := D) (ci := 0) (v := .ref q7) (ty := .array .int) (C := RX0) (T := TX0) (N := 4) hx hb hts (fun _ h => (List.mem_cons_of_mem _ (List.mem_append_right _ h))) tyX0 tyX0_ok nmX0 hown hK hP hD hS 0 rfl rfl 0 (by decide) (hts _ (List.mem_of_getElem? (i := 5) rfl)) (fun _ h9 => h9) rfl (hin rfl) rfl (by decide +kernel) rfl rfl (Nat.le_of_ble_eq_true rfl) dX0_init_9 (fun H locs hP hD hS => ?_)
  have hP : va_P D vwCl [(h, .inr (0, [.ref q7, .null, .int (nI 0), .int (nI 0)])), (q7, .inl (cI, 40, .inl (fun _ => 0)))] H := hP
  have hD : va_D A [(h, .inr (0, [.ref q7, .null, .int (nI 0), .int (nI 0)])), (q7, .inl (cI, 40, .inl (fun _ => 0)))] := hD
  refine lv_aload_n hx hb dX0_init_12 rfl (lv_at hl 0 rfl) ?_
  refine lv_bipush (v := nI 40) hx hb dX0_init_13 (by decide) ?_
  refine va_newa (ty := .int) (a0 := (40, .inl (fun _ => 0))) hx hb (hts _ (List.mem_of_getElem? (i := 4) rfl)) rfl hK hP hD hS hA (fun _ => rfl) (nI_pos (by decide)) (nI_clamp (by decide)) (Nat.le_of_ble_eq_true rfl) (Nat.le_of_ble_eq_true rfl) (Nat.le_of_ble_eq_true rfl) dX0_init_15 (fun q15 cA H hK1 hP hD hS => ?_)
  obtain rfl : cI = cA := ar_one hK1 0 1 rfl rfl
  have hP : va_P D vwCl [(h, .inr (0, [.ref q7, .null, .int (nI 0), .int (nI 0)])), (q7, .inl (cI, 40, .inl (fun _ => 0))), (q15, .inl (cI, 40, .inl (fun _ => 0)))] H := hP
  have hD : va_D A [(h, .inr (0, [.ref q7, .null, .int (nI 0), .int (nI 0)])), (q7, .inl (cI, 40, .inl (fun _ => 0))), (q15, .inl (cI, 40, .inl (fun _ => 0)))] := hD
  refine va_putF (D := D) (ci := 0) (v := .ref q15) (ty := .array .int) (C := RX0) (T := TX0) (N := 4) hx hb hts (fun _ h => (List.mem_cons_of_mem _ (List.mem_append_right _ h))) tyX0 tyX0_ok nmX0 hown hK hP hD hS 0 rfl rfl 1 (by decide) (hts _ (List.mem_of_getElem? (i := 6) rfl)) (fun _ h9 => h9) rfl (hin rfl) rfl (by decide +kernel) rfl rfl (Nat.le_of_ble_eq_true rfl) dX0_init_17 (fun H locs hP hD hS => ?_)
  have hP : va_P D vwCl [(h, .inr (0, [.ref q7, .ref q15, .int (nI 0), .int (nI 0)])), (q7, .inl (cI, 40, .inl (fun _ => 0))), (q15, .inl (cI, 40, .inl (fun _ => 0)))] H := hP
  have hD : va_D A [(h, .inr (0, [.ref q7, .ref q15, .int (nI 0), .int (nI 0)])), (q7, .inl (cI, 40, .inl (fun _ => 0))), (q15, .inl (cI, 40, .inl (fun _ => 0)))] := hD
  refine lv_aload_n hx hb dX0_init_20 rfl (lv_at hl 0 rfl) ?_
  refine lv_bipush (v := nI 8) hx hb dX0_init_21 (by decide) ?_
  refine lv_iconst (v := nI 0) hx hb dX0_init_23 (by decide) ?_
  have hPc : va_P D vwCl [(h, .inr (0, [.ref q7, .ref q15, .int (nI 0), .int (nI 0)])), (q7, .inl (cI, 40, .inl (fun _ => 0))), (q15, .inl (cI, 40, .inl (fun _ => 0)))] H := hP.sub [0, 1, 2] rfl
  have hDc : va_D A [(h, .inr (0, [.ref q7, .ref q15, .int (nI 0), .int (nI 0)])), (q7, .inl (cI, 40, .inl (fun _ => 0))), (q15, .inl (cI, 40, .inl (fun _ => 0)))] := hD.sub [0, 1, 2] (by decide) rfl
  have hFc := va_free (wc := [(h, .inr (0, [.ref q7, .ref q15, .int (nI 0), .int (nI 0)])), (q7, .inl (cI, 40, .inl (fun _ => 0))), (q15, .inl (cI, 40, .inl (fun _ => 0)))]) hD hS hA [0, 1, 2] rfl
  refine pq_v (va_runV (rest := []) CF (m_X0_clear l D cI h q7 q15 0 0 (fun _ => 0) (fun _ => 0) 8 0 H.size) (cwV 2 hts gX0_init_X0_clear rfl rfl rfl k_X0_clear ⟨Nat.le_of_ble_eq_true rfl, Nat.le_of_ble_eq_true rfl⟩) (mv_pre hK hPc hDc rfl rfl rfl) rfl rfl hl.1 rfl (lv_room (Nat.le_of_ble_eq_true rfl)) dX0_init_24 ⟨Nat.le_of_ble_eq_true rfl, Nat.le_of_ble_eq_true rfl⟩) hS hFc (fun H locs hB hk1 hS => ?_)
  obtain ⟨F2, G2, hF2, hG2, hP1⟩ := hB
  obtain ⟨hP, hD⟩ := jn (wb := [(h, .inr (0, [.ref q7, .ref q15, .int (nI 8), .int (nI 0)])), (q7, .inl (cI, 40, .inl F2)), (q15, .inl (cI, 40, .inl G2))]) (w1 := [(h, .inr (0, [.ref q7, .ref q15, .int (nI 8), .int (nI 0)])), (q7, .inl (cI, 40, .inl F2)), (q15, .inl (cI, 40, .inl G2))]) hP hD [0, 1, 2] [] rfl rfl rfl rfl 3 rfl (by decide) (by decide) hk1 hP1
  exact em_v hx hb hr hlocks hS (⟨q7, q15, F2, G2, hF2, hG2, hP, hD⟩) dX0_init_27
end
section
theorem dX1_init_0 : decode cX1_init 0 = .ok (.aload_n 0, 1) := by decide +kernel
theorem dX1_init_1 : decode cX1_init 1 = .ok (.invokespecial 1, 3) := by decide +kernel
theorem dX1_init_4 : decode cX1_init 4 = .ok (.aload_n 0, 1) := by decide +kernel
theorem dX1_init_5 : decode cX1_init 5 = .ok (.new 7, 3) := by decide +kernel
theorem dX1_init_8 : decode cX1_init 8 = .ok (.dup, 1) := by decide +kernel
theorem dX1_init_9 : decode cX1_init 9 = .ok (.invokespecial 9, 3) := by decide +kernel
theorem dX1_init_12 : decode cX1_init 12 = .ok (.putfield 10, 3) := by decide +kernel
theorem dX1_init_15 : decode cX1_init 15 = .ok (.aload_n 0, 1) := by decide +kernel
theorem dX1_init_16 : decode cX1_init 16 = .ok (.new 7, 3) := by decide +kernel
theorem dX1_init_19 : decode cX1_init 19 = .ok (.dup, 1) := by decide +kernel
theorem dX1_init_20 : decode cX1_init 20 = .ok (.invokespecial 9, 3) := by decide +kernel
theorem dX1_init_23 : decode cX1_init 23 = .ok (.putfield 16, 3) := by decide +kernel
theorem dX1_init_26 : decode cX1_init 26 = .ok (.return_, 1) := by decide +kernel
set_option maxRecDepth 20000 in
theorem ggX1_hang_X1_demandNumber : GoodIn wsX1_hang wsX1_demandNumber := goodIn_ca (goodIn_r _ [9, 1, 2] (by decide +kernel) (by decide +kernel)) (goodIn_sub (fun _ h => List.mem_cons_of_mem _ (List.mem_append_left _ (List.mem_append_right _ h))) (by decide +kernel))
set_option maxRecDepth 20000 in
theorem gX1_hang_X1_demandNumber : GoodIn wsX1_hang (va_wsS RX1 19 yX1_demandNumber wsX1_demandNumber) := goodIn_app (goodIn_of _ (by decide +kernel)) ggX1_hang_X1_demandNumber
set_option maxRecDepth 20000 in
theorem ggX1_hang_X0_placeOf : GoodIn wsX1_hang wsX0_placeOf := goodIn_r _ [14, 15, 16, 17, 13, 18, 19, 20, 21, 22, 23, 24, 25, 26, 27, 28, 29, 30, 31, 32, 33, 34, 35, 36, 37, 45, 46, 47, 48] (by decide +kernel) (by decide +kernel)
set_option maxRecDepth 20000 in
theorem gX1_hang_X0_placeOf : GoodIn wsX1_hang (wsV RX1 30 RX0 yX0_placeOf wsX0_placeOf) := goodIn_app (goodIn_of _ (by decide +kernel)) ggX1_hang_X0_placeOf
set_option maxRecDepth 20000 in
theorem ggX1_hang_X0_put : GoodIn wsX1_hang wsX0_put := goodIn_r _ [41, 24, 42, 45, 46, 47, 48] (by decide +kernel) (by decide +kernel)
set_option maxRecDepth 20000 in
theorem gX1_hang_X0_put : GoodIn wsX1_hang (wsV RX1 39 RX0 yX0_put wsX0_put) := goodIn_app (goodIn_of _ (by decide +kernel)) ggX1_hang_X0_put
theorem dX1_hang_0 : decode cX1_hang 0 = .ok (.iload_n 1, 1) := by decide +kernel
theorem dX1_hang_1 : decode cX1_hang 1 = .ok (.invokestatic 19, 3) := by decide +kernel
theorem dX1_hang_4 : decode cX1_hang 4 = .ok (.iload_n 2, 1) := by decide +kernel
theorem dX1_hang_5 : decode cX1_hang 5 = .ok (.iconst 1, 1) := by decide +kernel
theorem dX1_hang_6 : decode cX1_hang 6 = .ok (.if_icmp .lt 9, 3) := by decide +kernel
theorem dX1_hang_9 : decode cX1_hang 9 = .ok (.iload_n 2, 1) := by decide +kernel
theorem dX1_hang_10 : decode cX1_hang 10 = .ok (.bipush 99, 2) := by decide +kernel
theorem dX1_hang_12 : decode cX1_hang 12 = .ok (.if_icmp .le 13, 3) := by decide +kernel
theorem dX1_hang_15 : decode cX1_hang 15 = .ok (.new 23, 3) := by decide +kernel
theorem dX1_hang_18 : decode cX1_hang 18 = .ok (.dup, 1) := by decide +kernel
theorem dX1_hang_19 : decode cX1_hang 19 = .ok (.ldc 25, 2) := by decide +kernel
theorem dX1_hang_21 : decode cX1_hang 21 = .ok (.invokespecial 27, 3) := by decide +kernel
theorem dX1_hang_24 : decode cX1_hang 24 = .ok (.athrow, 1) := by decide +kernel
theorem dX1_hang_25 : decode cX1_hang 25 = .ok (.aload_n 0, 1) := by decide +kernel
theorem dX1_hang_26 : decode cX1_hang 26 = .ok (.getfield 10, 3) := by decide +kernel
theorem dX1_hang_29 : decode cX1_hang 29 = .ok (.iload_n 1, 1) := by decide +kernel
theorem dX1_hang_30 : decode cX1_hang 30 = .ok (.invokevirtual 30, 3) := by decide +kernel
theorem dX1_hang_33 : decode cX1_hang 33 = .ok (.istore_n 3, 1) := by decide +kernel
theorem dX1_hang_34 : decode cX1_hang 34 = .ok (.iload_n 3, 1) := by decide +kernel
theorem dX1_hang_35 : decode cX1_hang 35 = .ok (.iconst (-1), 1) := by decide +kernel
theorem dX1_hang_36 : decode cX1_hang 36 = .ok (.if_icmp .ne 13, 3) := by decide +kernel
theorem dX1_hang_39 : decode cX1_hang 39 = .ok (.new 34, 3) := by decide +kernel
theorem dX1_hang_42 : decode cX1_hang 42 = .ok (.dup, 1) := by decide +kernel
theorem dX1_hang_43 : decode cX1_hang 43 = .ok (.ldc 36, 2) := by decide +kernel
theorem dX1_hang_45 : decode cX1_hang 45 = .ok (.invokespecial 38, 3) := by decide +kernel
theorem dX1_hang_48 : decode cX1_hang 48 = .ok (.athrow, 1) := by decide +kernel
theorem dX1_hang_49 : decode cX1_hang 49 = .ok (.aload_n 0, 1) := by decide +kernel
theorem dX1_hang_50 : decode cX1_hang 50 = .ok (.getfield 10, 3) := by decide +kernel
theorem dX1_hang_53 : decode cX1_hang 53 = .ok (.iload_n 3, 1) := by decide +kernel
theorem dX1_hang_54 : decode cX1_hang 54 = .ok (.iload_n 1, 1) := by decide +kernel
theorem dX1_hang_55 : decode cX1_hang 55 = .ok (.iload_n 2, 1) := by decide +kernel
theorem dX1_hang_56 : decode cX1_hang 56 = .ok (.invokevirtual 39, 3) := by decide +kernel
theorem dX1_hang_59 : decode cX1_hang 59 = .ok (.iload_n 3, 1) := by decide +kernel
theorem dX1_hang_60 : decode cX1_hang 60 = .ok (.ireturn, 1) := by decide +kernel
set_option maxRecDepth 20000 in
theorem ggX1_take_X1_demandNumber : GoodIn wsX1_take wsX1_demandNumber := goodIn_ca (goodIn_r _ [7, 8, 9] (by decide +kernel) (by decide +kernel)) (goodIn_sub (fun _ h => List.mem_cons_of_mem _ (List.mem_append_right _ h)) (by decide +kernel))
set_option maxRecDepth 20000 in
theorem gX1_take_X1_demandNumber : GoodIn wsX1_take (va_wsS RX1 19 yX1_demandNumber wsX1_demandNumber) := goodIn_app (goodIn_of _ (by decide +kernel)) ggX1_take_X1_demandNumber
set_option maxRecDepth 20000 in
theorem ggX1_take_X0_whereFound : GoodIn wsX1_take wsX0_whereFound := goodIn_r _ [14, 15, 16, 17, 13, 18, 19, 20, 21, 22, 23, 24, 25, 26, 27, 28, 29, 45, 46, 47, 48] (by decide +kernel) (by decide +kernel)
set_option maxRecDepth 20000 in
theorem gX1_take_X0_whereFound : GoodIn wsX1_take (wsV RX1 43 RX0 yX0_whereFound wsX0_whereFound) := goodIn_app (goodIn_of _ (by decide +kernel)) ggX1_take_X0_whereFound
set_option maxRecDepth 20000 in
theorem ggX1_take_X0_weightOn : GoodIn wsX1_take wsX0_weightOn := goodIn_r _ [33, 19, 34, 45, 46, 47, 48] (by decide +kernel) (by decide +kernel)
set_option maxRecDepth 20000 in
theorem gX1_take_X0_weightOn : GoodIn wsX1_take (wsV RX1 48 RX0 yX0_weightOn wsX0_weightOn) := goodIn_app (goodIn_of _ (by decide +kernel)) ggX1_take_X0_weightOn
set_option maxRecDepth 20000 in
theorem ggX1_take_X0_leaveTicket : GoodIn wsX1_take wsX0_leaveTicket := goodIn_r _ [38, 39, 40, 41, 13, 42, 29, 34, 45, 46, 47, 48] (by decide +kernel) (by decide +kernel)
set_option maxRecDepth 20000 in
theorem gX1_take_X0_leaveTicket : GoodIn wsX1_take (wsV RX1 51 RX0 yX0_leaveTicket wsX0_leaveTicket) := goodIn_app (goodIn_of _ (by decide +kernel)) ggX1_take_X0_leaveTicket
theorem dX1_take_0 : decode cX1_take 0 = .ok (.iload_n 1, 1) := by decide +kernel
theorem dX1_take_1 : decode cX1_take 1 = .ok (.invokestatic 19, 3) := by decide +kernel
theorem dX1_take_4 : decode cX1_take 4 = .ok (.aload_n 0, 1) := by decide +kernel
theorem dX1_take_5 : decode cX1_take 5 = .ok (.getfield 10, 3) := by decide +kernel
theorem dX1_take_8 : decode cX1_take 8 = .ok (.iload_n 1, 1) := by decide +kernel
theorem dX1_take_9 : decode cX1_take 9 = .ok (.invokevirtual 43, 3) := by decide +kernel
theorem dX1_take_12 : decode cX1_take 12 = .ok (.istore_n 2, 1) := by decide +kernel
theorem dX1_take_13 : decode cX1_take 13 = .ok (.iload_n 2, 1) := by decide +kernel
theorem dX1_take_14 : decode cX1_take 14 = .ok (.iconst (-1), 1) := by decide +kernel
theorem dX1_take_15 : decode cX1_take 15 = .ok (.if_icmp .ne 13, 3) := by decide +kernel
theorem dX1_take_18 : decode cX1_take 18 = .ok (.new 34, 3) := by decide +kernel
theorem dX1_take_21 : decode cX1_take 21 = .ok (.dup, 1) := by decide +kernel
theorem dX1_take_22 : decode cX1_take 22 = .ok (.ldc 46, 2) := by decide +kernel
theorem dX1_take_24 : decode cX1_take 24 = .ok (.invokespecial 38, 3) := by decide +kernel
theorem dX1_take_27 : decode cX1_take 27 = .ok (.athrow, 1) := by decide +kernel
theorem dX1_take_28 : decode cX1_take 28 = .ok (.aload_n 0, 1) := by decide +kernel
theorem dX1_take_29 : decode cX1_take 29 = .ok (.getfield 10, 3) := by decide +kernel
theorem dX1_take_32 : decode cX1_take 32 = .ok (.iload_n 2, 1) := by decide +kernel
theorem dX1_take_33 : decode cX1_take 33 = .ok (.invokevirtual 48, 3) := by decide +kernel
theorem dX1_take_36 : decode cX1_take 36 = .ok (.istore_n 3, 1) := by decide +kernel
theorem dX1_take_37 : decode cX1_take 37 = .ok (.aload_n 0, 1) := by decide +kernel
theorem dX1_take_38 : decode cX1_take 38 = .ok (.getfield 10, 3) := by decide +kernel
theorem dX1_take_41 : decode cX1_take 41 = .ok (.iload_n 2, 1) := by decide +kernel
theorem dX1_take_42 : decode cX1_take 42 = .ok (.invokevirtual 51, 3) := by decide +kernel
theorem dX1_take_45 : decode cX1_take 45 = .ok (.iload_n 3, 1) := by decide +kernel
theorem dX1_take_46 : decode cX1_take 46 = .ok (.ireturn, 1) := by decide +kernel
set_option maxRecDepth 20000 in
theorem ggX1_rehang_X1_demandHooksAndWay : GoodIn wsX1_rehang wsX1_demandHooksAndWay := goodIn_ca (goodIn_r _ [6, 7, 8] (by decide +kernel) (by decide +kernel)) (goodIn_sub (fun _ h => List.mem_cons_of_mem _ (List.mem_append_right _ h)) (by decide +kernel))
set_option maxRecDepth 20000 in
theorem gX1_rehang_X1_demandHooksAndWay : GoodIn wsX1_rehang (va_wsS RX1 54 yX1_demandHooksAndWay wsX1_demandHooksAndWay) := goodIn_app (goodIn_of _ (by decide +kernel)) ggX1_rehang_X1_demandHooksAndWay
set_option maxRecDepth 20000 in
theorem ggX1_rehang_X1_hangAnewOnTrial : GoodIn wsX1_rehang wsX1_hangAnewOnTrial := goodIn_r _ [12, 13, 14, 15, 16, 17, 18, 19, 20, 21, 22, 23, 24, 25, 26, 27, 28, 29, 30, 31, 32, 33, 34, 35, 36, 37, 38, 39, 40, 41, 42, 43, 44, 45, 46, 47, 48, 49, 50, 51, 52, 53, 54, 55, 56, 69, 70, 71, 72, 73, 74] (by decide +kernel) (by decide +kernel)
set_option maxRecDepth 20000 in
theorem gX1_rehang_X1_hangAnewOnTrial : GoodIn wsX1_rehang (wsV RX1 58 RX1 yX1_hangAnewOnTrial wsX1_hangAnewOnTrial) := goodIn_app (goodIn_of _ (by decide +kernel)) ggX1_rehang_X1_hangAnewOnTrial
set_option maxRecDepth 20000 in
theorem ggX1_rehang_X1_coatsMovedOnTrial : GoodIn wsX1_rehang wsX1_coatsMovedOnTrial := goodIn_r _ [60, 13, 14, 28, 29, 30, 18, 31, 20, 32, 33, 34, 35, 36, 37, 38, 39, 22, 69, 70, 71, 72, 73, 74] (by decide +kernel) (by decide +kernel)
set_option maxRecDepth 20000 in
theorem gX1_rehang_X1_coatsMovedOnTrial : GoodIn wsX1_rehang (wsV RX1 64 RX1 yX1_coatsMovedOnTrial wsX1_coatsMovedOnTrial) := goodIn_app (goodIn_of _ (by decide +kernel)) ggX1_rehang_X1_coatsMovedOnTrial
set_option maxRecDepth 20000 in
theorem ggX1_rehang_X1_takeOverTrial : GoodIn wsX1_rehang wsX1_takeOverTrial := goodIn_r _ [64, 14, 13, 28, 29, 30, 18, 31, 20, 65, 66, 67, 68, 21, 15, 16, 17, 19, 22, 23, 24, 25, 26, 27, 32, 33, 34, 35, 36, 37, 38, 39, 52, 53, 54, 55, 56, 69, 70, 71, 72, 73, 74] (by decide +kernel) (by decide +kernel)
set_option maxRecDepth 20000 in
theorem gX1_rehang_X1_takeOverTrial : GoodIn wsX1_rehang (wsV RX1 68 RX1 yX1_takeOverTrial wsX1_takeOverTrial) := goodIn_app (goodIn_of _ (by decide +kernel)) ggX1_rehang_X1_takeOverTrial
theorem dX1_rehang_0 : decode cX1_rehang 0 = .ok (.iload_n 1, 1) := by decide +kernel
theorem dX1_rehang_1 : decode cX1_rehang 1 = .ok (.iload_n 2, 1) := by decide +kernel
theorem dX1_rehang_2 : decode cX1_rehang 2 = .ok (.invokestatic 54, 3) := by decide +kernel
theorem dX1_rehang_5 : decode cX1_rehang 5 = .ok (.aload_n 0, 1) := by decide +kernel
theorem dX1_rehang_6 : decode cX1_rehang 6 = .ok (.iload_n 1, 1) := by decide +kernel
theorem dX1_rehang_7 : decode cX1_rehang 7 = .ok (.iload_n 2, 1) := by decide +kernel
theorem dX1_rehang_8 : decode cX1_rehang 8 = .ok (.invokevirtual 58, 3) := by decide +kernel
theorem dX1_rehang_11 : decode cX1_rehang 11 = .ok (.ifCond .ne 13, 3) := by decide +kernel
theorem dX1_rehang_14 : decode cX1_rehang 14 = .ok (.new 34, 3) := by decide +kernel
theorem dX1_rehang_17 : decode cX1_rehang 17 = .ok (.dup, 1) := by decide +kernel
theorem dX1_rehang_18 : decode cX1_rehang 18 = .ok (.ldc 62, 2) := by decide +kernel
theorem dX1_rehang_20 : decode cX1_rehang 20 = .ok (.invokespecial 38, 3) := by decide +kernel
theorem dX1_rehang_23 : decode cX1_rehang 23 = .ok (.athrow, 1) := by decide +kernel
theorem dX1_rehang_24 : decode cX1_rehang 24 = .ok (.aload_n 0, 1) := by decide +kernel
theorem dX1_rehang_25 : decode cX1_rehang 25 = .ok (.invokevirtual 64, 3) := by decide +kernel
theorem dX1_rehang_28 : decode cX1_rehang 28 = .ok (.istore_n 3, 1) := by decide +kernel
theorem dX1_rehang_29 : decode cX1_rehang 29 = .ok (.aload_n 0, 1) := by decide +kernel
theorem dX1_rehang_30 : decode cX1_rehang 30 = .ok (.invokevirtual 68, 3) := by decide +kernel
theorem dX1_rehang_33 : decode cX1_rehang 33 = .ok (.iload_n 3, 1) := by decide +kernel
theorem dX1_rehang_34 : decode cX1_rehang 34 = .ok (.ireturn, 1) := by decide +kernel
set_option maxRecDepth 20000 in
theorem ggX1_sweep_X0_countInState : GoodIn wsX1_sweep wsX0_countInState := goodIn_r _ [6, 7, 8, 9, 10, 5, 11, 12, 13, 14, 15, 16, 49, 50, 51, 52] (by decide +kernel) (by decide +kernel)
set_option maxRecDepth 20000 in
theorem gX1_sweep_X0_countInState : GoodIn wsX1_sweep (wsV RX1 71 RX0 yX0_countInState wsX0_countInState) := goodIn_app (goodIn_of _ (by decide +kernel)) ggX1_sweep_X0_countInState
set_option maxRecDepth 20000 in
theorem ggX1_sweep_X0_hookCount : GoodIn wsX1_sweep wsX0_hookCount := goodIn_r _ [20, 7, 49, 50, 51, 52] (by decide +kernel) (by decide +kernel)
set_option maxRecDepth 20000 in
theorem gX1_sweep_X0_hookCount : GoodIn wsX1_sweep (wsV RX1 74 RX0 yX0_hookCount wsX0_hookCount) := goodIn_app (goodIn_of _ (by decide +kernel)) ggX1_sweep_X0_hookCount
set_option maxRecDepth 20000 in
theorem ggX1_sweep_X0_freeAll : GoodIn wsX1_sweep wsX0_freeAll := goodIn_r _ [24, 7, 25, 26, 27, 28, 5, 29, 16, 30, 31, 32, 33, 34, 49, 50, 51, 52] (by decide +kernel) (by decide +kernel)
set_option maxRecDepth 20000 in
theorem gX1_sweep_X0_freeAll : GoodIn wsX1_sweep (wsV RX1 77 RX0 yX0_freeAll wsX0_freeAll) := goodIn_app (goodIn_of _ (by decide +kernel)) ggX1_sweep_X0_freeAll
set_option maxRecDepth 20000 in
theorem ggX1_sweep_X0_freeSweptTickets : GoodIn wsX1_sweep wsX0_freeSweptTickets := goodIn_r _ [38, 7, 12, 13, 14, 5, 15, 16, 39, 40, 41, 42, 30, 31, 32, 33, 34, 43, 44, 45, 46, 49, 50, 51, 52] (by decide +kernel) (by decide +kernel)
set_option maxRecDepth 20000 in
theorem gX1_sweep_X0_freeSweptTickets : GoodIn wsX1_sweep (wsV RX1 80 RX0 yX0_freeSweptTickets wsX0_freeSweptTickets) := goodIn_app (goodIn_of _ (by decide +kernel)) ggX1_sweep_X0_freeSweptTickets
theorem dX1_sweep_0 : decode cX1_sweep 0 = .ok (.aload_n 0, 1) := by decide +kernel
theorem dX1_sweep_1 : decode cX1_sweep 1 = .ok (.getfield 10, 3) := by decide +kernel
theorem dX1_sweep_4 : decode cX1_sweep 4 = .ok (.iconst 2, 1) := by decide +kernel
theorem dX1_sweep_5 : decode cX1_sweep 5 = .ok (.invokevirtual 71, 3) := by decide +kernel
theorem dX1_sweep_8 : decode cX1_sweep 8 = .ok (.aload_n 0, 1) := by decide +kernel
theorem dX1_sweep_9 : decode cX1_sweep 9 = .ok (.getfield 10, 3) := by decide +kernel
theorem dX1_sweep_12 : decode cX1_sweep 12 = .ok (.invokevirtual 74, 3) := by decide +kernel
theorem dX1_sweep_15 : decode cX1_sweep 15 = .ok (.if_icmp .ne 7, 3) := by decide +kernel
theorem dX1_sweep_18 : decode cX1_sweep 18 = .ok (.iconst 1, 1) := by decide +kernel
theorem dX1_sweep_19 : decode cX1_sweep 19 = .ok (.goto 4, 3) := by decide +kernel
theorem dX1_sweep_22 : decode cX1_sweep 22 = .ok (.iconst 0, 1) := by decide +kernel
theorem dX1_sweep_23 : decode cX1_sweep 23 = .ok (.istore_n 1, 1) := by decide +kernel
theorem dX1_sweep_24 : decode cX1_sweep 24 = .ok (.iload_n 1, 1) := by decide +kernel
theorem dX1_sweep_25 : decode cX1_sweep 25 = .ok (.ifCond .eq 13, 3) := by decide +kernel
theorem dX1_sweep_28 : decode cX1_sweep 28 = .ok (.aload_n 0, 1) := by decide +kernel
theorem dX1_sweep_29 : decode cX1_sweep 29 = .ok (.getfield 10, 3) := by decide +kernel
theorem dX1_sweep_32 : decode cX1_sweep 32 = .ok (.invokevirtual 77, 3) := by decide +kernel
theorem dX1_sweep_35 : decode cX1_sweep 35 = .ok (.goto 10, 3) := by decide +kernel
theorem dX1_sweep_38 : decode cX1_sweep 38 = .ok (.aload_n 0, 1) := by decide +kernel
theorem dX1_sweep_39 : decode cX1_sweep 39 = .ok (.getfield 10, 3) := by decide +kernel
theorem dX1_sweep_42 : decode cX1_sweep 42 = .ok (.invokevirtual 80, 3) := by decide +kernel
theorem dX1_sweep_45 : decode cX1_sweep 45 = .ok (.ireturn, 1) := by decide +kernel
set_option maxRecDepth 20000 in
theorem ggX1_hooks_X0_hookCount : GoodIn wsX1_hooks wsX0_hookCount := goodIn_r _ [6, 7, 10, 11, 12, 13] (by decide +kernel) (by decide +kernel)
set_option maxRecDepth 20000 in
theorem gX1_hooks_X0_hookCount : GoodIn wsX1_hooks (wsV RX1 74 RX0 yX0_hookCount wsX0_hookCount) := goodIn_app (goodIn_of _ (by decide +kernel)) ggX1_hooks_X0_hookCount
theorem dX1_hooks_0 : decode cX1_hooks 0 = .ok (.aload_n 0, 1) := by decide +kernel
theorem dX1_hooks_1 : decode cX1_hooks 1 = .ok (.getfield 10, 3) := by decide +kernel
theorem dX1_hooks_4 : decode cX1_hooks 4 = .ok (.invokevirtual 74, 3) := by decide +kernel
theorem dX1_hooks_7 : decode cX1_hooks 7 = .ok (.ireturn, 1) := by decide +kernel
set_option maxRecDepth 20000 in
theorem ggX1_way_X0_usherWay : GoodIn wsX1_way wsX0_usherWay := goodIn_r _ [6, 7, 10, 11, 12, 13] (by decide +kernel) (by decide +kernel)
set_option maxRecDepth 20000 in
theorem gX1_way_X0_usherWay : GoodIn wsX1_way (wsV RX1 83 RX0 yX0_usherWay wsX0_usherWay) := goodIn_app (goodIn_of _ (by decide +kernel)) ggX1_way_X0_usherWay
theorem dX1_way_0 : decode cX1_way 0 = .ok (.aload_n 0, 1) := by decide +kernel
theorem dX1_way_1 : decode cX1_way 1 = .ok (.getfield 10, 3) := by decide +kernel
theorem dX1_way_4 : decode cX1_way 4 = .ok (.invokevirtual 83, 3) := by decide +kernel
theorem dX1_way_7 : decode cX1_way 7 = .ok (.ireturn, 1) := by decide +kernel
set_option maxRecDepth 20000 in
theorem ggX1_coats_X0_countInState : GoodIn wsX1_coats wsX0_countInState := goodIn_r _ [6, 7, 8, 9, 10, 5, 11, 12, 13, 14, 15, 16, 19, 20, 21, 22] (by decide +kernel) (by decide +kernel)
set_option maxRecDepth 20000 in
theorem gX1_coats_X0_countInState : GoodIn wsX1_coats (wsV RX1 71 RX0 yX0_countInState wsX0_countInState) := goodIn_app (goodIn_of _ (by decide +kernel)) ggX1_coats_X0_countInState
theorem dX1_coats_0 : decode cX1_coats 0 = .ok (.aload_n 0, 1) := by decide +kernel
theorem dX1_coats_1 : decode cX1_coats 1 = .ok (.getfield 10, 3) := by decide +kernel
theorem dX1_coats_4 : decode cX1_coats 4 = .ok (.iconst 1, 1) := by decide +kernel
theorem dX1_coats_5 : decode cX1_coats 5 = .ok (.invokevirtual 71, 3) := by decide +kernel
theorem dX1_coats_8 : decode cX1_coats 8 = .ok (.ireturn, 1) := by decide +kernel
set_option maxRecDepth 20000 in
theorem ggX1_tickets_X0_countInState : GoodIn wsX1_tickets wsX0_countInState := goodIn_r _ [6, 7, 8, 9, 10, 5, 11, 12, 13, 14, 15, 16, 19, 20, 21, 22] (by decide +kernel) (by decide +kernel)
set_option maxRecDepth 20000 in
theorem gX1_tickets_X0_countInState : GoodIn wsX1_tickets (wsV RX1 71 RX0 yX0_countInState wsX0_countInState) := goodIn_app (goodIn_of _ (by decide +kernel)) ggX1_tickets_X0_countInState
theorem dX1_tickets_0 : decode cX1_tickets 0 = .ok (.aload_n 0, 1) := by decide +kernel
theorem dX1_tickets_1 : decode cX1_tickets 1 = .ok (.getfield 10, 3) := by decide +kernel
theorem dX1_tickets_4 : decode cX1_tickets 4 = .ok (.iconst 2, 1) := by decide +kernel
theorem dX1_tickets_5 : decode cX1_tickets 5 = .ok (.invokevirtual 71, 3) := by decide +kernel
theorem dX1_tickets_8 : decode cX1_tickets 8 = .ok (.ireturn, 1) := by decide +kernel
set_option maxRecDepth 20000 in
theorem ggX1_stateOf_X1_demandHook : GoodIn wsX1_stateOf wsX1_demandHook := goodIn_ca (goodIn_r _ [6, 7, 8, 1, 9, 10, 11, 12, 13, 14, 24, 25, 26, 27, 28, 29] (by decide +kernel) (by decide +kernel)) (goodIn_sub (fun _ h => List.mem_cons_of_mem _ (List.mem_append_right _ h)) (by decide +kernel))
set_option maxRecDepth 20000 in
theorem gX1_stateOf_X1_demandHook : GoodIn wsX1_stateOf (wsV RX1 86 RX1 yX1_demandHook wsX1_demandHook) := goodIn_app (goodIn_of _ (by decide +kernel)) ggX1_stateOf_X1_demandHook
set_option maxRecDepth 20000 in
theorem ggX1_stateOf_X0_stateOn : GoodIn wsX1_stateOf wsX0_stateOn := goodIn_r _ [18, 19, 20, 21, 12, 22, 14, 23, 26, 27, 28, 29] (by decide +kernel) (by decide +kernel)
set_option maxRecDepth 20000 in
theorem gX1_stateOf_X0_stateOn : GoodIn wsX1_stateOf (wsV RX1 89 RX0 yX0_stateOn wsX0_stateOn) := goodIn_app (goodIn_of _ (by decide +kernel)) ggX1_stateOf_X0_stateOn
theorem dX1_stateOf_0 : decode cX1_stateOf 0 = .ok (.aload_n 0, 1) := by decide +kernel
theorem dX1_stateOf_1 : decode cX1_stateOf 1 = .ok (.iload_n 1, 1) := by decide +kernel
theorem dX1_stateOf_2 : decode cX1_stateOf 2 = .ok (.invokevirtual 86, 3) := by decide +kernel
theorem dX1_stateOf_5 : decode cX1_stateOf 5 = .ok (.aload_n 0, 1) := by decide +kernel
theorem dX1_stateOf_6 : decode cX1_stateOf 6 = .ok (.getfield 10, 3) := by decide +kernel
theorem dX1_stateOf_9 : decode cX1_stateOf 9 = .ok (.iload_n 1, 1) := by decide +kernel
theorem dX1_stateOf_10 : decode cX1_stateOf 10 = .ok (.invokevirtual 89, 3) := by decide +kernel
theorem dX1_stateOf_13 : decode cX1_stateOf 13 = .ok (.ireturn, 1) := by decide +kernel
set_option maxRecDepth 20000 in
theorem ggX1_coatAt_X1_demandHook : GoodIn wsX1_coatAt wsX1_demandHook := goodIn_ca (goodIn_r _ [6, 7, 8, 1, 9, 10, 11, 12, 13, 14, 24, 25, 26, 27, 28, 29] (by decide +kernel) (by decide +kernel)) (goodIn_sub (fun _ h => List.mem_cons_of_mem _ (List.mem_append_right _ h)) (by decide +kernel))
set_option maxRecDepth 20000 in
theorem gX1_coatAt_X1_demandHook : GoodIn wsX1_coatAt (wsV RX1 86 RX1 yX1_demandHook wsX1_demandHook) := goodIn_app (goodIn_of _ (by decide +kernel)) ggX1_coatAt_X1_demandHook
set_option maxRecDepth 20000 in
theorem ggX1_coatAt_X0_coatOn : GoodIn wsX1_coatAt wsX0_coatOn := goodIn_r _ [18, 19, 20, 21, 12, 22, 14, 23, 26, 27, 28, 29] (by decide +kernel) (by decide +kernel)
set_option maxRecDepth 20000 in
theorem gX1_coatAt_X0_coatOn : GoodIn wsX1_coatAt (wsV RX1 92 RX0 yX0_coatOn wsX0_coatOn) := goodIn_app (goodIn_of _ (by decide +kernel)) ggX1_coatAt_X0_coatOn
theorem dX1_coatAt_0 : decode cX1_coatAt 0 = .ok (.aload_n 0, 1) := by decide +kernel
theorem dX1_coatAt_1 : decode cX1_coatAt 1 = .ok (.iload_n 1, 1) := by decide +kernel
theorem dX1_coatAt_2 : decode cX1_coatAt 2 = .ok (.invokevirtual 86, 3) := by decide +kernel
theorem dX1_coatAt_5 : decode cX1_coatAt 5 = .ok (.aload_n 0, 1) := by decide +kernel
theorem dX1_coatAt_6 : decode cX1_coatAt 6 = .ok (.getfield 10, 3) := by decide +kernel
theorem dX1_coatAt_9 : decode cX1_coatAt 9 = .ok (.iload_n 1, 1) := by decide +kernel
theorem dX1_coatAt_10 : decode cX1_coatAt 10 = .ok (.invokevirtual 92, 3) := by decide +kernel
theorem dX1_coatAt_13 : decode cX1_coatAt 13 = .ok (.ireturn, 1) := by decide +kernel
set_option maxRecDepth 20000 in
theorem ggX1_weightAt_X1_demandHook : GoodIn wsX1_weightAt wsX1_demandHook := goodIn_ca (goodIn_r _ [6, 7, 8, 1, 9, 10, 11, 12, 13, 14, 20, 21, 22, 23, 24, 25] (by decide +kernel) (by decide +kernel)) (goodIn_sub (fun _ h => List.mem_cons_of_mem _ (List.mem_append_right _ h)) (by decide +kernel))
set_option maxRecDepth 20000 in
theorem gX1_weightAt_X1_demandHook : GoodIn wsX1_weightAt (wsV RX1 86 RX1 yX1_demandHook wsX1_demandHook) := goodIn_app (goodIn_of _ (by decide +kernel)) ggX1_weightAt_X1_demandHook
set_option maxRecDepth 20000 in
theorem ggX1_weightAt_X0_weightOn : GoodIn wsX1_weightAt wsX0_weightOn := goodIn_r _ [18, 14, 19, 22, 23, 24, 25] (by decide +kernel) (by decide +kernel)
set_option maxRecDepth 20000 in
theorem gX1_weightAt_X0_weightOn : GoodIn wsX1_weightAt (wsV RX1 48 RX0 yX0_weightOn wsX0_weightOn) := goodIn_app (goodIn_of _ (by decide +kernel)) ggX1_weightAt_X0_weightOn
theorem dX1_weightAt_0 : decode cX1_weightAt 0 = .ok (.aload_n 0, 1) := by decide +kernel
theorem dX1_weightAt_1 : decode cX1_weightAt 1 = .ok (.iload_n 1, 1) := by decide +kernel
theorem dX1_weightAt_2 : decode cX1_weightAt 2 = .ok (.invokevirtual 86, 3) := by decide +kernel
theorem dX1_weightAt_5 : decode cX1_weightAt 5 = .ok (.aload_n 0, 1) := by decide +kernel
theorem dX1_weightAt_6 : decode cX1_weightAt 6 = .ok (.getfield 10, 3) := by decide +kernel
theorem dX1_weightAt_9 : decode cX1_weightAt 9 = .ok (.iload_n 1, 1) := by decide +kernel
theorem dX1_weightAt_10 : decode cX1_weightAt 10 = .ok (.invokevirtual 48, 3) := by decide +kernel
theorem dX1_weightAt_13 : decode cX1_weightAt 13 = .ok (.ireturn, 1) := by decide +kernel
set_option maxRecDepth 20000 in
theorem ggX1_weight_X0_weightOfAll : GoodIn wsX1_weight wsX0_weightOfAll := goodIn_r _ [6, 7, 8, 9, 10, 5, 11, 12, 15, 16, 17, 18] (by decide +kernel) (by decide +kernel)
set_option maxRecDepth 20000 in
theorem gX1_weight_X0_weightOfAll : GoodIn wsX1_weight (wsV RX1 95 RX0 yX0_weightOfAll wsX0_weightOfAll) := goodIn_app (goodIn_of _ (by decide +kernel)) ggX1_weight_X0_weightOfAll
theorem dX1_weight_0 : decode cX1_weight 0 = .ok (.aload_n 0, 1) := by decide +kernel
theorem dX1_weight_1 : decode cX1_weight 1 = .ok (.getfield 10, 3) := by decide +kernel
theorem dX1_weight_4 : decode cX1_weight 4 = .ok (.invokevirtual 95, 3) := by decide +kernel
theorem dX1_weight_7 : decode cX1_weight 7 = .ok (.ireturn, 1) := by decide +kernel
set_option maxRecDepth 20000 in
theorem ggX1_heaviestAt_X0_hookOfHeaviest : GoodIn wsX1_heaviestAt wsX0_hookOfHeaviest := goodIn_r _ [6, 7, 8, 9, 10, 5, 11, 12, 15, 16, 17, 18] (by decide +kernel) (by decide +kernel)
set_option maxRecDepth 20000 in
theorem gX1_heaviestAt_X0_hookOfHeaviest : GoodIn wsX1_heaviestAt (wsV RX1 98 RX0 yX0_hookOfHeaviest wsX0_hookOfHeaviest) := goodIn_app (goodIn_of _ (by decide +kernel)) ggX1_heaviestAt_X0_hookOfHeaviest
theorem dX1_heaviestAt_0 : decode cX1_heaviestAt 0 = .ok (.aload_n 0, 1) := by decide +kernel
theorem dX1_heaviestAt_1 : decode cX1_heaviestAt 1 = .ok (.getfield 10, 3) := by decide +kernel
theorem dX1_heaviestAt_4 : decode cX1_heaviestAt 4 = .ok (.invokevirtual 98, 3) := by decide +kernel
theorem dX1_heaviestAt_7 : decode cX1_heaviestAt 7 = .ok (.ireturn, 1) := by decide +kernel
set_option maxRecDepth 20000 in
theorem ggX1_find_X1_demandNumber : GoodIn wsX1_find wsX1_demandNumber := goodIn_ca (goodIn_r _ [5, 6, 7] (by decide +kernel) (by decide +kernel)) (goodIn_sub (fun _ h => List.mem_cons_of_mem _ (List.mem_append_right _ h)) (by decide +kernel))
set_option maxRecDepth 20000 in
theorem gX1_find_X1_demandNumber : GoodIn wsX1_find (va_wsS RX1 19 yX1_demandNumber wsX1_demandNumber) := goodIn_app (goodIn_of _ (by decide +kernel)) ggX1_find_X1_demandNumber
set_option maxRecDepth 20000 in
theorem ggX1_find_X0_whereFound : GoodIn wsX1_find wsX0_whereFound := goodIn_r _ [12, 13, 14, 15, 11, 16, 17, 18, 19, 20, 21, 22, 23, 24, 25, 26, 27, 30, 31, 32, 33] (by decide +kernel) (by decide +kernel)
set_option maxRecDepth 20000 in
theorem gX1_find_X0_whereFound : GoodIn wsX1_find (wsV RX1 43 RX0 yX0_whereFound wsX0_whereFound) := goodIn_app (goodIn_of _ (by decide +kernel)) ggX1_find_X0_whereFound
theorem dX1_find_0 : decode cX1_find 0 = .ok (.iload_n 1, 1) := by decide +kernel
theorem dX1_find_1 : decode cX1_find 1 = .ok (.invokestatic 19, 3) := by decide +kernel
theorem dX1_find_4 : decode cX1_find 4 = .ok (.aload_n 0, 1) := by decide +kernel
theorem dX1_find_5 : decode cX1_find 5 = .ok (.getfield 10, 3) := by decide +kernel
theorem dX1_find_8 : decode cX1_find 8 = .ok (.iload_n 1, 1) := by decide +kernel
theorem dX1_find_9 : decode cX1_find 9 = .ok (.invokevirtual 43, 3) := by decide +kernel
theorem dX1_find_12 : decode cX1_find 12 = .ok (.ireturn, 1) := by decide +kernel
set_option maxRecDepth 20000 in
theorem ggX1_looksFor_X1_demandNumber : GoodIn wsX1_looksFor wsX1_demandNumber := goodIn_ca (goodIn_r _ [5, 6, 7] (by decide +kernel) (by decide +kernel)) (goodIn_sub (fun _ h => List.mem_cons_of_mem _ (List.mem_append_right _ h)) (by decide +kernel))
set_option maxRecDepth 20000 in
theorem gX1_looksFor_X1_demandNumber : GoodIn wsX1_looksFor (va_wsS RX1 19 yX1_demandNumber wsX1_demandNumber) := goodIn_app (goodIn_of _ (by decide +kernel)) ggX1_looksFor_X1_demandNumber
set_option maxRecDepth 20000 in
theorem ggX1_looksFor_X0_countLooks : GoodIn wsX1_looksFor wsX0_countLooks := goodIn_r _ [12, 13, 14, 15, 16, 11, 17, 18, 19, 20, 21, 22, 23, 26, 27, 28, 29] (by decide +kernel) (by decide +kernel)
set_option maxRecDepth 20000 in
theorem gX1_looksFor_X0_countLooks : GoodIn wsX1_looksFor (wsV RX1 101 RX0 yX0_countLooks wsX0_countLooks) := goodIn_app (goodIn_of _ (by decide +kernel)) ggX1_looksFor_X0_countLooks
theorem dX1_looksFor_0 : decode cX1_looksFor 0 = .ok (.iload_n 1, 1) := by decide +kernel
theorem dX1_looksFor_1 : decode cX1_looksFor 1 = .ok (.invokestatic 19, 3) := by decide +kernel
theorem dX1_looksFor_4 : decode cX1_looksFor 4 = .ok (.aload_n 0, 1) := by decide +kernel
theorem dX1_looksFor_5 : decode cX1_looksFor 5 = .ok (.getfield 10, 3) := by decide +kernel
theorem dX1_looksFor_8 : decode cX1_looksFor 8 = .ok (.iload_n 1, 1) := by decide +kernel
theorem dX1_looksFor_9 : decode cX1_looksFor 9 = .ok (.invokevirtual 101, 3) := by decide +kernel
theorem dX1_looksFor_12 : decode cX1_looksFor 12 = .ok (.ireturn, 1) := by decide +kernel
set_option maxRecDepth 20000 in
theorem ggX1_placeFor_X1_demandNumber : GoodIn wsX1_placeFor wsX1_demandNumber := goodIn_ca (goodIn_r _ [5, 6, 7] (by decide +kernel) (by decide +kernel)) (goodIn_sub (fun _ h => List.mem_cons_of_mem _ (List.mem_append_right _ h)) (by decide +kernel))
set_option maxRecDepth 20000 in
theorem gX1_placeFor_X1_demandNumber : GoodIn wsX1_placeFor (va_wsS RX1 19 yX1_demandNumber wsX1_demandNumber) := goodIn_app (goodIn_of _ (by decide +kernel)) ggX1_placeFor_X1_demandNumber
set_option maxRecDepth 20000 in
theorem ggX1_placeFor_X0_placeOf : GoodIn wsX1_placeFor wsX0_placeOf := goodIn_r _ [12, 13, 14, 15, 11, 16, 17, 18, 19, 20, 21, 22, 23, 24, 25, 26, 27, 28, 29, 30, 31, 32, 33, 34, 35, 38, 39, 40, 41] (by decide +kernel) (by decide +kernel)
set_option maxRecDepth 20000 in
theorem gX1_placeFor_X0_placeOf : GoodIn wsX1_placeFor (wsV RX1 30 RX0 yX0_placeOf wsX0_placeOf) := goodIn_app (goodIn_of _ (by decide +kernel)) ggX1_placeFor_X0_placeOf
theorem dX1_placeFor_0 : decode cX1_placeFor 0 = .ok (.iload_n 1, 1) := by decide +kernel
theorem dX1_placeFor_1 : decode cX1_placeFor 1 = .ok (.invokestatic 19, 3) := by decide +kernel
theorem dX1_placeFor_4 : decode cX1_placeFor 4 = .ok (.aload_n 0, 1) := by decide +kernel
theorem dX1_placeFor_5 : decode cX1_placeFor 5 = .ok (.getfield 10, 3) := by decide +kernel
theorem dX1_placeFor_8 : decode cX1_placeFor 8 = .ok (.iload_n 1, 1) := by decide +kernel
theorem dX1_placeFor_9 : decode cX1_placeFor 9 = .ok (.invokevirtual 30, 3) := by decide +kernel
theorem dX1_placeFor_12 : decode cX1_placeFor 12 = .ok (.ireturn, 1) := by decide +kernel
set_option maxRecDepth 20000 in
theorem ggX1_lookedAt_X1_demandNumber : GoodIn wsX1_lookedAt wsX1_demandNumber := goodIn_ca (goodIn_r _ [7, 1, 2] (by decide +kernel) (by decide +kernel)) (goodIn_sub (fun _ h => List.mem_cons_of_mem _ (List.mem_append_right _ h)) (by decide +kernel))
set_option maxRecDepth 20000 in
theorem gX1_lookedAt_X1_demandNumber : GoodIn wsX1_lookedAt (va_wsS RX1 19 yX1_demandNumber wsX1_demandNumber) := goodIn_app (goodIn_of _ (by decide +kernel)) ggX1_lookedAt_X1_demandNumber
set_option maxRecDepth 20000 in
theorem ggX1_lookedAt_X0_hookInStep : GoodIn wsX1_lookedAt wsX0_hookInStep := goodIn_r _ [12, 13, 14, 17, 18, 19, 20] (by decide +kernel) (by decide +kernel)
set_option maxRecDepth 20000 in
theorem gX1_lookedAt_X0_hookInStep : GoodIn wsX1_lookedAt (wsV RX1 106 RX0 yX0_hookInStep wsX0_hookInStep) := goodIn_app (goodIn_of _ (by decide +kernel)) ggX1_lookedAt_X0_hookInStep
theorem dX1_lookedAt_0 : decode cX1_lookedAt 0 = .ok (.iload_n 1, 1) := by decide +kernel
theorem dX1_lookedAt_1 : decode cX1_lookedAt 1 = .ok (.invokestatic 19, 3) := by decide +kernel
theorem dX1_lookedAt_4 : decode cX1_lookedAt 4 = .ok (.iload_n 2, 1) := by decide +kernel
theorem dX1_lookedAt_5 : decode cX1_lookedAt 5 = .ok (.ifCond .lt 9, 3) := by decide +kernel
theorem dX1_lookedAt_8 : decode cX1_lookedAt 8 = .ok (.iload_n 2, 1) := by decide +kernel
theorem dX1_lookedAt_9 : decode cX1_lookedAt 9 = .ok (.bipush 40, 2) := by decide +kernel
theorem dX1_lookedAt_11 : decode cX1_lookedAt 11 = .ok (.if_icmp .lt 13, 3) := by decide +kernel
theorem dX1_lookedAt_14 : decode cX1_lookedAt 14 = .ok (.new 23, 3) := by decide +kernel
theorem dX1_lookedAt_17 : decode cX1_lookedAt 17 = .ok (.dup, 1) := by decide +kernel
theorem dX1_lookedAt_18 : decode cX1_lookedAt 18 = .ok (.ldc 104, 2) := by decide +kernel
theorem dX1_lookedAt_20 : decode cX1_lookedAt 20 = .ok (.invokespecial 27, 3) := by decide +kernel
theorem dX1_lookedAt_23 : decode cX1_lookedAt 23 = .ok (.athrow, 1) := by decide +kernel
theorem dX1_lookedAt_24 : decode cX1_lookedAt 24 = .ok (.aload_n 0, 1) := by decide +kernel
theorem dX1_lookedAt_25 : decode cX1_lookedAt 25 = .ok (.getfield 10, 3) := by decide +kernel
theorem dX1_lookedAt_28 : decode cX1_lookedAt 28 = .ok (.iload_n 1, 1) := by decide +kernel
theorem dX1_lookedAt_29 : decode cX1_lookedAt 29 = .ok (.iload_n 2, 1) := by decide +kernel
theorem dX1_lookedAt_30 : decode cX1_lookedAt 30 = .ok (.invokevirtual 106, 3) := by decide +kernel
theorem dX1_lookedAt_33 : decode cX1_lookedAt 33 = .ok (.ireturn, 1) := by decide +kernel
set_option maxRecDepth 20000 in
theorem ggX1_allLooks_X0_looksForAll : GoodIn wsX1_allLooks wsX0_looksForAll := goodIn_r _ [6, 7, 8, 9, 10, 5, 11, 12, 13, 14, 15, 16, 17, 18, 19, 20, 21, 24, 25, 26, 27] (by decide +kernel) (by decide +kernel)
set_option maxRecDepth 20000 in
theorem gX1_allLooks_X0_looksForAll : GoodIn wsX1_allLooks (wsV RX1 110 RX0 yX0_looksForAll wsX0_looksForAll) := goodIn_app (goodIn_of _ (by decide +kernel)) ggX1_allLooks_X0_looksForAll
theorem dX1_allLooks_0 : decode cX1_allLooks 0 = .ok (.aload_n 0, 1) := by decide +kernel
theorem dX1_allLooks_1 : decode cX1_allLooks 1 = .ok (.getfield 10, 3) := by decide +kernel
theorem dX1_allLooks_4 : decode cX1_allLooks 4 = .ok (.invokevirtual 110, 3) := by decide +kernel
theorem dX1_allLooks_7 : decode cX1_allLooks 7 = .ok (.ireturn, 1) := by decide +kernel
set_option maxRecDepth 20000 in
theorem ggX1_farthest_X0_coatWithMostLooks : GoodIn wsX1_farthest wsX0_coatWithMostLooks := goodIn_r _ [6, 7, 8, 9, 10, 5, 11, 12, 13, 14, 15, 16, 17, 18, 19, 20, 21, 24, 25, 26, 27] (by decide +kernel) (by decide +kernel)
set_option maxRecDepth 20000 in
theorem gX1_farthest_X0_coatWithMostLooks : GoodIn wsX1_farthest (wsV RX1 113 RX0 yX0_coatWithMostLooks wsX0_coatWithMostLooks) := goodIn_app (goodIn_of _ (by decide +kernel)) ggX1_farthest_X0_coatWithMostLooks
theorem dX1_farthest_0 : decode cX1_farthest 0 = .ok (.aload_n 0, 1) := by decide +kernel
theorem dX1_farthest_1 : decode cX1_farthest 1 = .ok (.getfield 10, 3) := by decide +kernel
theorem dX1_farthest_4 : decode cX1_farthest 4 = .ok (.invokevirtual 113, 3) := by decide +kernel
theorem dX1_farthest_7 : decode cX1_farthest 7 = .ok (.ireturn, 1) := by decide +kernel
set_option maxRecDepth 20000 in
theorem ggX1_rows_X0_rowCount : GoodIn wsX1_rows wsX0_rowCount := goodIn_r _ [6, 7, 8, 9, 10, 5, 11, 12, 13, 14, 15, 16, 19, 20, 21, 22] (by decide +kernel) (by decide +kernel)
set_option maxRecDepth 20000 in
theorem gX1_rows_X0_rowCount : GoodIn wsX1_rows (wsV RX1 116 RX0 yX0_rowCount wsX0_rowCount) := goodIn_app (goodIn_of _ (by decide +kernel)) ggX1_rows_X0_rowCount
theorem dX1_rows_0 : decode cX1_rows 0 = .ok (.aload_n 0, 1) := by decide +kernel
theorem dX1_rows_1 : decode cX1_rows 1 = .ok (.getfield 10, 3) := by decide +kernel
theorem dX1_rows_4 : decode cX1_rows 4 = .ok (.invokevirtual 116, 3) := by decide +kernel
theorem dX1_rows_7 : decode cX1_rows 7 = .ok (.ireturn, 1) := by decide +kernel
set_option maxRecDepth 20000 in
theorem ggX1_longestRow_X0_longestRowLength : GoodIn wsX1_longestRow wsX0_longestRowLength := goodIn_r _ [6, 7, 8, 9, 10, 5, 11, 12, 13, 14, 15, 16, 17, 18, 19, 20, 21, 22, 23, 24, 27, 28, 29, 30] (by decide +kernel) (by decide +kernel)
set_option maxRecDepth 20000 in
theorem gX1_longestRow_X0_longestRowLength : GoodIn wsX1_longestRow (wsV RX1 119 RX0 yX0_longestRowLength wsX0_longestRowLength) := goodIn_app (goodIn_of _ (by decide +kernel)) ggX1_longestRow_X0_longestRowLength
theorem dX1_longestRow_0 : decode cX1_longestRow 0 = .ok (.aload_n 0, 1) := by decide +kernel
theorem dX1_longestRow_1 : decode cX1_longestRow 1 = .ok (.getfield 10, 3) := by decide +kernel
theorem dX1_longestRow_4 : decode cX1_longestRow 4 = .ok (.invokevirtual 119, 3) := by decide +kernel
theorem dX1_longestRow_7 : decode cX1_longestRow 7 = .ok (.ireturn, 1) := by decide +kernel
set_option maxRecDepth 20000 in
theorem ggX1_rowAt_X1_demandHook : GoodIn wsX1_rowAt wsX1_demandHook := goodIn_ca (goodIn_r _ [6, 7, 8, 1, 9, 10, 11, 12, 13, 14, 32, 33, 34, 35, 36, 37] (by decide +kernel) (by decide +kernel)) (goodIn_sub (fun _ h => List.mem_cons_of_mem _ (List.mem_append_right _ h)) (by decide +kernel))
set_option maxRecDepth 20000 in
theorem gX1_rowAt_X1_demandHook : GoodIn wsX1_rowAt (wsV RX1 86 RX1 yX1_demandHook wsX1_demandHook) := goodIn_app (goodIn_of _ (by decide +kernel)) ggX1_rowAt_X1_demandHook
set_option maxRecDepth 20000 in
theorem ggX1_rowAt_X0_rowLength : GoodIn wsX1_rowAt wsX0_rowLength := goodIn_r _ [18, 14, 19, 20, 21, 12, 22, 23, 24, 25, 26, 27, 28, 29, 30, 31, 34, 35, 36, 37] (by decide +kernel) (by decide +kernel)
set_option maxRecDepth 20000 in
theorem gX1_rowAt_X0_rowLength : GoodIn wsX1_rowAt (wsV RX1 122 RX0 yX0_rowLength wsX0_rowLength) := goodIn_app (goodIn_of _ (by decide +kernel)) ggX1_rowAt_X0_rowLength
theorem dX1_rowAt_0 : decode cX1_rowAt 0 = .ok (.aload_n 0, 1) := by decide +kernel
theorem dX1_rowAt_1 : decode cX1_rowAt 1 = .ok (.iload_n 1, 1) := by decide +kernel
theorem dX1_rowAt_2 : decode cX1_rowAt 2 = .ok (.invokevirtual 86, 3) := by decide +kernel
theorem dX1_rowAt_5 : decode cX1_rowAt 5 = .ok (.aload_n 0, 1) := by decide +kernel
theorem dX1_rowAt_6 : decode cX1_rowAt 6 = .ok (.getfield 10, 3) := by decide +kernel
theorem dX1_rowAt_9 : decode cX1_rowAt 9 = .ok (.iload_n 1, 1) := by decide +kernel
theorem dX1_rowAt_10 : decode cX1_rowAt 10 = .ok (.invokevirtual 122, 3) := by decide +kernel
theorem dX1_rowAt_13 : decode cX1_rowAt 13 = .ok (.ireturn, 1) := by decide +kernel
set_option maxRecDepth 20000 in
theorem ggX1_looksWith_X1_demandHooksAndWay : GoodIn wsX1_looksWith wsX1_demandHooksAndWay := goodIn_ca (goodIn_r _ [4, 5, 6] (by decide +kernel) (by decide +kernel)) (goodIn_sub (fun _ h => List.mem_cons_of_mem _ (List.mem_append_right _ h)) (by decide +kernel))
set_option maxRecDepth 20000 in
theorem gX1_looksWith_X1_demandHooksAndWay : GoodIn wsX1_looksWith (va_wsS RX1 54 yX1_demandHooksAndWay wsX1_demandHooksAndWay) := goodIn_app (goodIn_of _ (by decide +kernel)) ggX1_looksWith_X1_demandHooksAndWay
set_option maxRecDepth 20000 in
theorem ggX1_looksWith_X1_looksOnTrial : GoodIn wsX1_looksWith wsX1_looksOnTrial := goodIn_r _ [10, 11, 12, 13, 14, 3, 15, 16, 17, 18, 19, 20, 21, 22, 23, 24, 25, 26, 27, 28, 29, 30, 31, 32, 33, 34, 35, 36, 37, 38, 39, 40, 41, 42, 43, 44, 45, 46, 47, 48, 49, 50, 51, 52, 53, 54, 55, 56, 57, 58, 59, 60, 61, 62, 63, 64, 65, 66, 67, 68] (by decide +kernel) (by decide +kernel)
set_option maxRecDepth 20000 in
theorem gX1_looksWith_X1_looksOnTrial : GoodIn wsX1_looksWith (wsV RX1 125 RX1 yX1_looksOnTrial wsX1_looksOnTrial) := goodIn_app (goodIn_of _ (by decide +kernel)) ggX1_looksWith_X1_looksOnTrial
theorem dX1_looksWith_0 : decode cX1_looksWith 0 = .ok (.iload_n 1, 1) := by decide +kernel
theorem dX1_looksWith_1 : decode cX1_looksWith 1 = .ok (.iload_n 2, 1) := by decide +kernel
theorem dX1_looksWith_2 : decode cX1_looksWith 2 = .ok (.invokestatic 54, 3) := by decide +kernel
theorem dX1_looksWith_5 : decode cX1_looksWith 5 = .ok (.aload_n 0, 1) := by decide +kernel
theorem dX1_looksWith_6 : decode cX1_looksWith 6 = .ok (.iload_n 1, 1) := by decide +kernel
theorem dX1_looksWith_7 : decode cX1_looksWith 7 = .ok (.iload_n 2, 1) := by decide +kernel
theorem dX1_looksWith_8 : decode cX1_looksWith 8 = .ok (.invokevirtual 125, 3) := by decide +kernel
theorem dX1_looksWith_11 : decode cX1_looksWith 11 = .ok (.ireturn, 1) := by decide +kernel
set_option maxRecDepth 20000 in
theorem ggX1_bestWay_X0_hookCount : GoodIn wsX1_bestWay wsX0_hookCount := goodIn_r _ [6, 7, 60, 61, 62, 63] (by decide +kernel) (by decide +kernel)
set_option maxRecDepth 20000 in
theorem gX1_bestWay_X0_hookCount : GoodIn wsX1_bestWay (wsV RX1 74 RX0 yX0_hookCount wsX0_hookCount) := goodIn_app (goodIn_of _ (by decide +kernel)) ggX1_bestWay_X0_hookCount
set_option maxRecDepth 20000 in
theorem ggX1_bestWay_X1_looksOnTrial : GoodIn wsX1_bestWay wsX1_looksOnTrial := goodIn_r _ [12, 13, 14, 15, 16, 11, 17, 1, 18, 19, 20, 5, 21, 7, 22, 23, 24, 25, 26, 27, 28, 2, 3, 4, 6, 29, 30, 31, 32, 33, 34, 35, 36, 37, 38, 39, 40, 41, 42, 43, 44, 45, 46, 47, 48, 49, 50, 51, 52, 53, 54, 55, 56, 57, 58, 59, 60, 61, 62, 63] (by decide +kernel) (by decide +kernel)
set_option maxRecDepth 20000 in
theorem gX1_bestWay_X1_looksOnTrial : GoodIn wsX1_bestWay (wsV RX1 125 RX1 yX1_looksOnTrial wsX1_looksOnTrial) := goodIn_app (goodIn_of _ (by decide +kernel)) ggX1_bestWay_X1_looksOnTrial
theorem dX1_bestWay_0 : decode cX1_bestWay 0 = .ok (.iconst (-1), 1) := by decide +kernel
theorem dX1_bestWay_1 : decode cX1_bestWay 1 = .ok (.istore_n 1, 1) := by decide +kernel
theorem dX1_bestWay_2 : decode cX1_bestWay 2 = .ok (.iconst 0, 1) := by decide +kernel
theorem dX1_bestWay_3 : decode cX1_bestWay 3 = .ok (.istore_n 2, 1) := by decide +kernel
theorem dX1_bestWay_4 : decode cX1_bestWay 4 = .ok (.iconst 0, 1) := by decide +kernel
theorem dX1_bestWay_5 : decode cX1_bestWay 5 = .ok (.istore_n 3, 1) := by decide +kernel
theorem dX1_bestWay_6 : decode cX1_bestWay 6 = .ok (.iload_n 3, 1) := by decide +kernel
theorem dX1_bestWay_7 : decode cX1_bestWay 7 = .ok (.iconst 2, 1) := by decide +kernel
theorem dX1_bestWay_8 : decode cX1_bestWay 8 = .ok (.if_icmp .gt 44, 3) := by decide +kernel
theorem dX1_bestWay_11 : decode cX1_bestWay 11 = .ok (.aload_n 0, 1) := by decide +kernel
theorem dX1_bestWay_12 : decode cX1_bestWay 12 = .ok (.aload_n 0, 1) := by decide +kernel
theorem dX1_bestWay_13 : decode cX1_bestWay 13 = .ok (.getfield 10, 3) := by decide +kernel
theorem dX1_bestWay_16 : decode cX1_bestWay 16 = .ok (.invokevirtual 74, 3) := by decide +kernel
theorem dX1_bestWay_19 : decode cX1_bestWay 19 = .ok (.iload_n 3, 1) := by decide +kernel
theorem dX1_bestWay_20 : decode cX1_bestWay 20 = .ok (.invokevirtual 125, 3) := by decide +kernel
theorem dX1_bestWay_23 : decode cX1_bestWay 23 = .ok (.istore 4, 2) := by decide +kernel
theorem dX1_bestWay_25 : decode cX1_bestWay 25 = .ok (.iload 4, 2) := by decide +kernel
theorem dX1_bestWay_27 : decode cX1_bestWay 27 = .ok (.ifCond .lt 19, 3) := by decide +kernel
theorem dX1_bestWay_30 : decode cX1_bestWay 30 = .ok (.iload_n 1, 1) := by decide +kernel
theorem dX1_bestWay_31 : decode cX1_bestWay 31 = .ok (.iconst (-1), 1) := by decide +kernel
theorem dX1_bestWay_32 : decode cX1_bestWay 32 = .ok (.if_icmp .eq 9, 3) := by decide +kernel
theorem dX1_bestWay_35 : decode cX1_bestWay 35 = .ok (.iload 4, 2) := by decide +kernel
theorem dX1_bestWay_37 : decode cX1_bestWay 37 = .ok (.iload_n 2, 1) := by decide +kernel
theorem dX1_bestWay_38 : decode cX1_bestWay 38 = .ok (.if_icmp .ge 8, 3) := by decide +kernel
theorem dX1_bestWay_41 : decode cX1_bestWay 41 = .ok (.iload_n 3, 1) := by decide +kernel
theorem dX1_bestWay_42 : decode cX1_bestWay 42 = .ok (.istore_n 1, 1) := by decide +kernel
theorem dX1_bestWay_43 : decode cX1_bestWay 43 = .ok (.iload 4, 2) := by decide +kernel
theorem dX1_bestWay_45 : decode cX1_bestWay 45 = .ok (.istore_n 2, 1) := by decide +kernel
theorem dX1_bestWay_46 : decode cX1_bestWay 46 = .ok (.iinc 3 1, 3) := by decide +kernel
theorem dX1_bestWay_49 : decode cX1_bestWay 49 = .ok (.goto (-43), 3) := by decide +kernel
theorem dX1_bestWay_52 : decode cX1_bestWay 52 = .ok (.iload_n 1, 1) := by decide +kernel
theorem dX1_bestWay_53 : decode cX1_bestWay 53 = .ok (.ireturn, 1) := by decide +kernel
set_option maxRecDepth 20000 in
theorem ggX1_hooksWanted_X1_fewestHooks : GoodIn wsX1_hooksWanted wsX1_fewestHooks := goodIn_r _ [7, 8, 9, 10, 11, 12, 13, 14, 15, 16, 17, 6, 18, 19, 20, 21, 22, 23, 24, 25, 26, 27, 28, 29, 30, 31, 32, 33, 34, 35, 36, 37, 38, 39, 40, 41, 42, 43, 44, 45, 46, 47, 48, 49, 50, 51, 52, 53, 54, 55, 56, 57, 58, 59, 60, 61, 62, 63, 64, 65, 66, 67, 68, 69, 70, 71, 72, 73] (by decide +kernel) (by decide +kernel)
set_option maxRecDepth 20000 in
theorem gX1_hooksWanted_X1_fewestHooks : GoodIn wsX1_hooksWanted (wsV RX1 130 RX1 yX1_fewestHooks wsX1_fewestHooks) := goodIn_app (goodIn_of _ (by decide +kernel)) ggX1_hooksWanted_X1_fewestHooks
theorem dX1_hooksWanted_0 : decode cX1_hooksWanted 0 = .ok (.iload_n 1, 1) := by decide +kernel
theorem dX1_hooksWanted_1 : decode cX1_hooksWanted 1 = .ok (.ifCond .lt 10, 3) := by decide +kernel
theorem dX1_hooksWanted_4 : decode cX1_hooksWanted 4 = .ok (.iload_n 1, 1) := by decide +kernel
theorem dX1_hooksWanted_5 : decode cX1_hooksWanted 5 = .ok (.sipush 400, 3) := by decide +kernel
theorem dX1_hooksWanted_8 : decode cX1_hooksWanted 8 = .ok (.if_icmp .le 13, 3) := by decide +kernel
theorem dX1_hooksWanted_11 : decode cX1_hooksWanted 11 = .ok (.new 23, 3) := by decide +kernel
theorem dX1_hooksWanted_14 : decode cX1_hooksWanted 14 = .ok (.dup, 1) := by decide +kernel
theorem dX1_hooksWanted_15 : decode cX1_hooksWanted 15 = .ok (.ldc 128, 2) := by decide +kernel
theorem dX1_hooksWanted_17 : decode cX1_hooksWanted 17 = .ok (.invokespecial 27, 3) := by decide +kernel
theorem dX1_hooksWanted_20 : decode cX1_hooksWanted 20 = .ok (.athrow, 1) := by decide +kernel
theorem dX1_hooksWanted_21 : decode cX1_hooksWanted 21 = .ok (.aload_n 0, 1) := by decide +kernel
theorem dX1_hooksWanted_22 : decode cX1_hooksWanted 22 = .ok (.iload_n 1, 1) := by decide +kernel
theorem dX1_hooksWanted_23 : decode cX1_hooksWanted 23 = .ok (.invokevirtual 130, 3) := by decide +kernel
theorem dX1_hooksWanted_26 : decode cX1_hooksWanted 26 = .ok (.ireturn, 1) := by decide +kernel
set_option maxRecDepth 20000 in
theorem ggX1_meanLooks_X0_countInState : GoodIn wsX1_meanLooks wsX0_countInState := goodIn_r _ [6, 7, 8, 9, 10, 5, 11, 12, 13, 14, 15, 16, 32, 33, 34, 35] (by decide +kernel) (by decide +kernel)
set_option maxRecDepth 20000 in
theorem gX1_meanLooks_X0_countInState : GoodIn wsX1_meanLooks (wsV RX1 71 RX0 yX0_countInState wsX0_countInState) := goodIn_app (goodIn_of _ (by decide +kernel)) ggX1_meanLooks_X0_countInState
set_option maxRecDepth 20000 in
theorem ggX1_meanLooks_X0_looksForAll : GoodIn wsX1_meanLooks wsX0_looksForAll := goodIn_r _ [20, 7, 12, 13, 14, 5, 15, 16, 21, 22, 23, 24, 25, 26, 27, 28, 29, 32, 33, 34, 35] (by decide +kernel) (by decide +kernel)
set_option maxRecDepth 20000 in
theorem gX1_meanLooks_X0_looksForAll : GoodIn wsX1_meanLooks (wsV RX1 110 RX0 yX0_looksForAll wsX0_looksForAll) := goodIn_app (goodIn_of _ (by decide +kernel)) ggX1_meanLooks_X0_looksForAll
theorem dX1_meanLooks_0 : decode cX1_meanLooks 0 = .ok (.aload_n 0, 1) := by decide +kernel
theorem dX1_meanLooks_1 : decode cX1_meanLooks 1 = .ok (.getfield 10, 3) := by decide +kernel
theorem dX1_meanLooks_4 : decode cX1_meanLooks 4 = .ok (.iconst 1, 1) := by decide +kernel
theorem dX1_meanLooks_5 : decode cX1_meanLooks 5 = .ok (.invokevirtual 71, 3) := by decide +kernel
theorem dX1_meanLooks_8 : decode cX1_meanLooks 8 = .ok (.istore_n 1, 1) := by decide +kernel
theorem dX1_meanLooks_9 : decode cX1_meanLooks 9 = .ok (.iload_n 1, 1) := by decide +kernel
theorem dX1_meanLooks_10 : decode cX1_meanLooks 10 = .ok (.ifCond .ne 5, 3) := by decide +kernel
theorem dX1_meanLooks_13 : decode cX1_meanLooks 13 = .ok (.dconst 0, 1) := by decide +kernel
theorem dX1_meanLooks_14 : decode cX1_meanLooks 14 = .ok (.dreturn, 1) := by decide +kernel
theorem dX1_meanLooks_15 : decode cX1_meanLooks 15 = .ok (.aload_n 0, 1) := by decide +kernel
theorem dX1_meanLooks_16 : decode cX1_meanLooks 16 = .ok (.getfield 10, 3) := by decide +kernel
theorem dX1_meanLooks_19 : decode cX1_meanLooks 19 = .ok (.invokevirtual 110, 3) := by decide +kernel
theorem dX1_meanLooks_22 : decode cX1_meanLooks 22 = .ok (.i2d, 1) := by decide +kernel
theorem dX1_meanLooks_23 : decode cX1_meanLooks 23 = .ok (.iload_n 1, 1) := by decide +kernel
theorem dX1_meanLooks_24 : decode cX1_meanLooks 24 = .ok (.i2d, 1) := by decide +kernel
theorem dX1_meanLooks_25 : decode cX1_meanLooks 25 = .ok (.ddiv, 1) := by decide +kernel
theorem dX1_meanLooks_26 : decode cX1_meanLooks 26 = .ok (.dreturn, 1) := by decide +kernel
set_option maxRecDepth 20000 in
theorem ggX1_digest_X0_hookCount : GoodIn wsX1_digest wsX0_hookCount := goodIn_r _ [8, 9, 118, 119, 120, 121] (by decide +kernel) (by decide +kernel)
set_option maxRecDepth 20000 in
theorem gX1_digest_X0_hookCount : GoodIn wsX1_digest (wsV RX1 74 RX0 yX0_hookCount wsX0_hookCount) := goodIn_app (goodIn_of _ (by decide +kernel)) ggX1_digest_X0_hookCount
set_option maxRecDepth 20000 in
theorem ggX1_digest_X0_usherWay : GoodIn wsX1_digest wsX0_usherWay := goodIn_r _ [13, 14, 118, 119, 120, 121] (by decide +kernel) (by decide +kernel)
set_option maxRecDepth 20000 in
theorem gX1_digest_X0_usherWay : GoodIn wsX1_digest (wsV RX1 83 RX0 yX0_usherWay wsX0_usherWay) := goodIn_app (goodIn_of _ (by decide +kernel)) ggX1_digest_X0_usherWay
set_option maxRecDepth 20000 in
theorem ggX1_digest_X0_countInState : GoodIn wsX1_digest wsX0_countInState := goodIn_r _ [18, 9, 19, 20, 21, 7, 22, 23, 24, 25, 26, 27, 118, 119, 120, 121] (by decide +kernel) (by decide +kernel)
set_option maxRecDepth 20000 in
theorem gX1_digest_X0_countInState : GoodIn wsX1_digest (wsV RX1 71 RX0 yX0_countInState wsX0_countInState) := goodIn_app (goodIn_of _ (by decide +kernel)) ggX1_digest_X0_countInState
set_option maxRecDepth 20000 in
theorem ggX1_digest_X0_weightOfAll : GoodIn wsX1_digest wsX0_weightOfAll := goodIn_r _ [31, 9, 32, 33, 34, 7, 35, 36, 118, 119, 120, 121] (by decide +kernel) (by decide +kernel)
set_option maxRecDepth 20000 in
theorem gX1_digest_X0_weightOfAll : GoodIn wsX1_digest (wsV RX1 95 RX0 yX0_weightOfAll wsX0_weightOfAll) := goodIn_app (goodIn_of _ (by decide +kernel)) ggX1_digest_X0_weightOfAll
set_option maxRecDepth 20000 in
theorem ggX1_digest_X0_hookOfHeaviest : GoodIn wsX1_digest wsX0_hookOfHeaviest := goodIn_r _ [40, 9, 32, 33, 34, 7, 35, 36, 118, 119, 120, 121] (by decide +kernel) (by decide +kernel)
set_option maxRecDepth 20000 in
theorem gX1_digest_X0_hookOfHeaviest : GoodIn wsX1_digest (wsV RX1 98 RX0 yX0_hookOfHeaviest wsX0_hookOfHeaviest) := goodIn_app (goodIn_of _ (by decide +kernel)) ggX1_digest_X0_hookOfHeaviest
set_option maxRecDepth 20000 in
theorem ggX1_digest_X0_looksForAll : GoodIn wsX1_digest wsX0_looksForAll := goodIn_r _ [44, 9, 23, 24, 25, 7, 26, 27, 45, 46, 47, 48, 49, 50, 51, 52, 14, 118, 119, 120, 121] (by decide +kernel) (by decide +kernel)
set_option maxRecDepth 20000 in
theorem gX1_digest_X0_looksForAll : GoodIn wsX1_digest (wsV RX1 110 RX0 yX0_looksForAll wsX0_looksForAll) := goodIn_app (goodIn_of _ (by decide +kernel)) ggX1_digest_X0_looksForAll
set_option maxRecDepth 20000 in
theorem ggX1_digest_X0_coatWithMostLooks : GoodIn wsX1_digest wsX0_coatWithMostLooks := goodIn_r _ [56, 9, 23, 24, 25, 7, 26, 27, 45, 46, 47, 48, 49, 50, 51, 52, 14, 118, 119, 120, 121] (by decide +kernel) (by decide +kernel)
set_option maxRecDepth 20000 in
theorem gX1_digest_X0_coatWithMostLooks : GoodIn wsX1_digest (wsV RX1 113 RX0 yX0_coatWithMostLooks wsX0_coatWithMostLooks) := goodIn_app (goodIn_of _ (by decide +kernel)) ggX1_digest_X0_coatWithMostLooks
set_option maxRecDepth 20000 in
theorem ggX1_digest_X0_rowCount : GoodIn wsX1_digest wsX0_rowCount := goodIn_r _ [60, 9, 23, 24, 25, 7, 26, 27, 61, 62, 63, 64, 118, 119, 120, 121] (by decide +kernel) (by decide +kernel)
set_option maxRecDepth 20000 in
theorem gX1_digest_X0_rowCount : GoodIn wsX1_digest (wsV RX1 116 RX0 yX0_rowCount wsX0_rowCount) := goodIn_app (goodIn_of _ (by decide +kernel)) ggX1_digest_X0_rowCount
set_option maxRecDepth 20000 in
theorem ggX1_digest_X0_longestRowLength : GoodIn wsX1_digest wsX0_longestRowLength := goodIn_r _ [68, 9, 69, 70, 71, 7, 72, 23, 24, 25, 26, 27, 61, 62, 63, 64, 73, 74, 75, 76, 118, 119, 120, 121] (by decide +kernel) (by decide +kernel)
set_option maxRecDepth 20000 in
theorem gX1_digest_X0_longestRowLength : GoodIn wsX1_digest (wsV RX1 119 RX0 yX0_longestRowLength wsX0_longestRowLength) := goodIn_app (goodIn_of _ (by decide +kernel)) ggX1_digest_X0_longestRowLength
set_option maxRecDepth 20000 in
theorem ggX1_digest_X1_bestWay : GoodIn wsX1_digest wsX1_bestWay := goodIn_r _ [81, 3, 4, 5, 6, 7, 8, 9, 82, 83, 84, 80, 85, 86, 87, 88, 89, 90, 91, 92, 93, 94, 14, 27, 95, 96, 97, 98, 36, 99, 100, 101, 102, 23, 24, 25, 26, 103, 104, 105, 106, 45, 46, 47, 48, 49, 50, 51, 52, 107, 33, 34, 35, 108, 41, 42, 43, 44, 116, 117, 118, 119, 120, 121] (by decide +kernel) (by decide +kernel)
set_option maxRecDepth 20000 in
theorem gX1_digest_X1_bestWay : GoodIn wsX1_digest (wsV RX1 137 RX1 yX1_bestWay wsX1_bestWay) := goodIn_app (goodIn_of _ (by decide +kernel)) ggX1_digest_X1_bestWay
set_option maxRecDepth 20000 in
theorem ggX1_digest_X1_fewestHooks : GoodIn wsX1_digest wsX1_fewestHooks := goodIn_r _ [112, 3, 10, 11, 12, 7, 13, 14, 82, 83, 84, 80, 85, 86, 87, 88, 89, 90, 91, 92, 93, 94, 9, 27, 95, 96, 97, 98, 36, 4, 5, 6, 8, 99, 100, 101, 102, 23, 24, 25, 26, 103, 104, 105, 106, 45, 46, 47, 48, 49, 50, 51, 52, 107, 33, 34, 35, 108, 41, 42, 43, 44, 116, 117, 118, 119, 120, 121] (by decide +kernel) (by decide +kernel)
set_option maxRecDepth 20000 in
theorem gX1_digest_X1_fewestHooks : GoodIn wsX1_digest (wsV RX1 130 RX1 yX1_fewestHooks wsX1_fewestHooks) := goodIn_app (goodIn_of _ (by decide +kernel)) ggX1_digest_X1_fewestHooks
set_option maxRecDepth 20000 in
theorem ggX1_digest_X0_stateOn : GoodIn wsX1_digest wsX0_stateOn := goodIn_r _ [22, 23, 24, 25, 7, 26, 9, 27, 118, 119, 120, 121] (by decide +kernel) (by decide +kernel)
set_option maxRecDepth 20000 in
theorem gX1_digest_X0_stateOn : GoodIn wsX1_digest (wsV RX1 89 RX0 yX0_stateOn wsX0_stateOn) := goodIn_app (goodIn_of _ (by decide +kernel)) ggX1_digest_X0_stateOn
set_option maxRecDepth 20000 in
theorem ggX1_digest_X0_coatOn : GoodIn wsX1_digest wsX0_coatOn := goodIn_r _ [102, 23, 24, 25, 7, 26, 9, 27, 118, 119, 120, 121] (by decide +kernel) (by decide +kernel)
set_option maxRecDepth 20000 in
theorem gX1_digest_X0_coatOn : GoodIn wsX1_digest (wsV RX1 92 RX0 yX0_coatOn wsX0_coatOn) := goodIn_app (goodIn_of _ (by decide +kernel)) ggX1_digest_X0_coatOn
set_option maxRecDepth 20000 in
theorem ggX1_digest_X0_weightOn : GoodIn wsX1_digest wsX0_weightOn := goodIn_r _ [35, 9, 36, 118, 119, 120, 121] (by decide +kernel) (by decide +kernel)
set_option maxRecDepth 20000 in
theorem gX1_digest_X0_weightOn : GoodIn wsX1_digest (wsV RX1 48 RX0 yX0_weightOn wsX0_weightOn) := goodIn_app (goodIn_of _ (by decide +kernel)) ggX1_digest_X0_weightOn
set_option maxRecDepth 20000 in
theorem ggX1_digest_X0_rowLength : GoodIn wsX1_digest wsX0_rowLength := goodIn_r _ [72, 9, 23, 24, 25, 7, 26, 27, 61, 62, 63, 64, 73, 74, 75, 76, 118, 119, 120, 121] (by decide +kernel) (by decide +kernel)
set_option maxRecDepth 20000 in
theorem gX1_digest_X0_rowLength : GoodIn wsX1_digest (wsV RX1 122 RX0 yX0_rowLength wsX0_rowLength) := goodIn_app (goodIn_of _ (by decide +kernel)) ggX1_digest_X0_rowLength
set_option maxRecDepth 20000 in
theorem ggX1_digest_X0_countLooks : GoodIn wsX1_digest wsX0_countLooks := goodIn_r _ [48, 9, 49, 50, 51, 7, 52, 14, 23, 24, 25, 26, 27, 118, 119, 120, 121] (by decide +kernel) (by decide +kernel)
set_option maxRecDepth 20000 in
theorem gX1_digest_X0_countLooks : GoodIn wsX1_digest (wsV RX1 101 RX0 yX0_countLooks wsX0_countLooks) := goodIn_app (goodIn_of _ (by decide +kernel)) ggX1_digest_X0_countLooks
theorem dX1_digest_0 : decode cX1_digest 0 = .ok (.ldc2_w 133, 3) := by decide +kernel
theorem dX1_digest_3 : decode cX1_digest 3 = .ok (.lstore_n 1, 1) := by decide +kernel
theorem dX1_digest_4 : decode cX1_digest 4 = .ok (.lload_n 1, 1) := by decide +kernel
theorem dX1_digest_5 : decode cX1_digest 5 = .ok (.ldc2_w 135, 3) := by decide +kernel
theorem dX1_digest_8 : decode cX1_digest 8 = .ok (.lmul, 1) := by decide +kernel
theorem dX1_digest_9 : decode cX1_digest 9 = .ok (.aload_n 0, 1) := by decide +kernel
theorem dX1_digest_10 : decode cX1_digest 10 = .ok (.getfield 10, 3) := by decide +kernel
theorem dX1_digest_13 : decode cX1_digest 13 = .ok (.invokevirtual 74, 3) := by decide +kernel
theorem dX1_digest_16 : decode cX1_digest 16 = .ok (.i2l, 1) := by decide +kernel
theorem dX1_digest_17 : decode cX1_digest 17 = .ok (.ladd, 1) := by decide +kernel
theorem dX1_digest_18 : decode cX1_digest 18 = .ok (.lstore_n 1, 1) := by decide +kernel
theorem dX1_digest_19 : decode cX1_digest 19 = .ok (.lload_n 1, 1) := by decide +kernel
theorem dX1_digest_20 : decode cX1_digest 20 = .ok (.ldc2_w 135, 3) := by decide +kernel
theorem dX1_digest_23 : decode cX1_digest 23 = .ok (.lmul, 1) := by decide +kernel
theorem dX1_digest_24 : decode cX1_digest 24 = .ok (.aload_n 0, 1) := by decide +kernel
theorem dX1_digest_25 : decode cX1_digest 25 = .ok (.getfield 10, 3) := by decide +kernel
theorem dX1_digest_28 : decode cX1_digest 28 = .ok (.invokevirtual 83, 3) := by decide +kernel
theorem dX1_digest_31 : decode cX1_digest 31 = .ok (.i2l, 1) := by decide +kernel
theorem dX1_digest_32 : decode cX1_digest 32 = .ok (.ladd, 1) := by decide +kernel
theorem dX1_digest_33 : decode cX1_digest 33 = .ok (.lstore_n 1, 1) := by decide +kernel
theorem dX1_digest_34 : decode cX1_digest 34 = .ok (.lload_n 1, 1) := by decide +kernel
theorem dX1_digest_35 : decode cX1_digest 35 = .ok (.ldc2_w 135, 3) := by decide +kernel
theorem dX1_digest_38 : decode cX1_digest 38 = .ok (.lmul, 1) := by decide +kernel
theorem dX1_digest_39 : decode cX1_digest 39 = .ok (.aload_n 0, 1) := by decide +kernel
theorem dX1_digest_40 : decode cX1_digest 40 = .ok (.getfield 10, 3) := by decide +kernel
theorem dX1_digest_43 : decode cX1_digest 43 = .ok (.iconst 1, 1) := by decide +kernel
theorem dX1_digest_44 : decode cX1_digest 44 = .ok (.invokevirtual 71, 3) := by decide +kernel
theorem dX1_digest_47 : decode cX1_digest 47 = .ok (.i2l, 1) := by decide +kernel
theorem dX1_digest_48 : decode cX1_digest 48 = .ok (.ladd, 1) := by decide +kernel
theorem dX1_digest_49 : decode cX1_digest 49 = .ok (.lstore_n 1, 1) := by decide +kernel
theorem dX1_digest_50 : decode cX1_digest 50 = .ok (.lload_n 1, 1) := by decide +kernel
theorem dX1_digest_51 : decode cX1_digest 51 = .ok (.ldc2_w 135, 3) := by decide +kernel
theorem dX1_digest_54 : decode cX1_digest 54 = .ok (.lmul, 1) := by decide +kernel
theorem dX1_digest_55 : decode cX1_digest 55 = .ok (.aload_n 0, 1) := by decide +kernel
theorem dX1_digest_56 : decode cX1_digest 56 = .ok (.getfield 10, 3) := by decide +kernel
theorem dX1_digest_59 : decode cX1_digest 59 = .ok (.iconst 2, 1) := by decide +kernel
theorem dX1_digest_60 : decode cX1_digest 60 = .ok (.invokevirtual 71, 3) := by decide +kernel
theorem dX1_digest_63 : decode cX1_digest 63 = .ok (.i2l, 1) := by decide +kernel
theorem dX1_digest_64 : decode cX1_digest 64 = .ok (.ladd, 1) := by decide +kernel
theorem dX1_digest_65 : decode cX1_digest 65 = .ok (.lstore_n 1, 1) := by decide +kernel
theorem dX1_digest_66 : decode cX1_digest 66 = .ok (.lload_n 1, 1) := by decide +kernel
theorem dX1_digest_67 : decode cX1_digest 67 = .ok (.ldc2_w 135, 3) := by decide +kernel
theorem dX1_digest_70 : decode cX1_digest 70 = .ok (.lmul, 1) := by decide +kernel
theorem dX1_digest_71 : decode cX1_digest 71 = .ok (.aload_n 0, 1) := by decide +kernel
theorem dX1_digest_72 : decode cX1_digest 72 = .ok (.getfield 10, 3) := by decide +kernel
theorem dX1_digest_75 : decode cX1_digest 75 = .ok (.invokevirtual 95, 3) := by decide +kernel
theorem dX1_digest_78 : decode cX1_digest 78 = .ok (.i2l, 1) := by decide +kernel
theorem dX1_digest_79 : decode cX1_digest 79 = .ok (.ladd, 1) := by decide +kernel
theorem dX1_digest_80 : decode cX1_digest 80 = .ok (.lstore_n 1, 1) := by decide +kernel
theorem dX1_digest_81 : decode cX1_digest 81 = .ok (.lload_n 1, 1) := by decide +kernel
theorem dX1_digest_82 : decode cX1_digest 82 = .ok (.ldc2_w 135, 3) := by decide +kernel
theorem dX1_digest_85 : decode cX1_digest 85 = .ok (.lmul, 1) := by decide +kernel
theorem dX1_digest_86 : decode cX1_digest 86 = .ok (.aload_n 0, 1) := by decide +kernel
theorem dX1_digest_87 : decode cX1_digest 87 = .ok (.getfield 10, 3) := by decide +kernel
theorem dX1_digest_90 : decode cX1_digest 90 = .ok (.invokevirtual 98, 3) := by decide +kernel
theorem dX1_digest_93 : decode cX1_digest 93 = .ok (.i2l, 1) := by decide +kernel
theorem dX1_digest_94 : decode cX1_digest 94 = .ok (.ladd, 1) := by decide +kernel
theorem dX1_digest_95 : decode cX1_digest 95 = .ok (.lstore_n 1, 1) := by decide +kernel
theorem dX1_digest_96 : decode cX1_digest 96 = .ok (.lload_n 1, 1) := by decide +kernel
theorem dX1_digest_97 : decode cX1_digest 97 = .ok (.ldc2_w 135, 3) := by decide +kernel
theorem dX1_digest_100 : decode cX1_digest 100 = .ok (.lmul, 1) := by decide +kernel
theorem dX1_digest_101 : decode cX1_digest 101 = .ok (.aload_n 0, 1) := by decide +kernel
theorem dX1_digest_102 : decode cX1_digest 102 = .ok (.getfield 10, 3) := by decide +kernel
theorem dX1_digest_105 : decode cX1_digest 105 = .ok (.invokevirtual 110, 3) := by decide +kernel
theorem dX1_digest_108 : decode cX1_digest 108 = .ok (.i2l, 1) := by decide +kernel
theorem dX1_digest_109 : decode cX1_digest 109 = .ok (.ladd, 1) := by decide +kernel
theorem dX1_digest_110 : decode cX1_digest 110 = .ok (.lstore_n 1, 1) := by decide +kernel
theorem dX1_digest_111 : decode cX1_digest 111 = .ok (.lload_n 1, 1) := by decide +kernel
theorem dX1_digest_112 : decode cX1_digest 112 = .ok (.ldc2_w 135, 3) := by decide +kernel
theorem dX1_digest_115 : decode cX1_digest 115 = .ok (.lmul, 1) := by decide +kernel
theorem dX1_digest_116 : decode cX1_digest 116 = .ok (.aload_n 0, 1) := by decide +kernel
theorem dX1_digest_117 : decode cX1_digest 117 = .ok (.getfield 10, 3) := by decide +kernel
theorem dX1_digest_120 : decode cX1_digest 120 = .ok (.invokevirtual 113, 3) := by decide +kernel
theorem dX1_digest_123 : decode cX1_digest 123 = .ok (.i2l, 1) := by decide +kernel
theorem dX1_digest_124 : decode cX1_digest 124 = .ok (.ladd, 1) := by decide +kernel
theorem dX1_digest_125 : decode cX1_digest 125 = .ok (.lstore_n 1, 1) := by decide +kernel
theorem dX1_digest_126 : decode cX1_digest 126 = .ok (.lload_n 1, 1) := by decide +kernel
theorem dX1_digest_127 : decode cX1_digest 127 = .ok (.ldc2_w 135, 3) := by decide +kernel
theorem dX1_digest_130 : decode cX1_digest 130 = .ok (.lmul, 1) := by decide +kernel
theorem dX1_digest_131 : decode cX1_digest 131 = .ok (.aload_n 0, 1) := by decide +kernel
theorem dX1_digest_132 : decode cX1_digest 132 = .ok (.getfield 10, 3) := by decide +kernel
theorem dX1_digest_135 : decode cX1_digest 135 = .ok (.invokevirtual 116, 3) := by decide +kernel
theorem dX1_digest_138 : decode cX1_digest 138 = .ok (.i2l, 1) := by decide +kernel
theorem dX1_digest_139 : decode cX1_digest 139 = .ok (.ladd, 1) := by decide +kernel
theorem dX1_digest_140 : decode cX1_digest 140 = .ok (.lstore_n 1, 1) := by decide +kernel
theorem dX1_digest_141 : decode cX1_digest 141 = .ok (.lload_n 1, 1) := by decide +kernel
theorem dX1_digest_142 : decode cX1_digest 142 = .ok (.ldc2_w 135, 3) := by decide +kernel
theorem dX1_digest_145 : decode cX1_digest 145 = .ok (.lmul, 1) := by decide +kernel
theorem dX1_digest_146 : decode cX1_digest 146 = .ok (.aload_n 0, 1) := by decide +kernel
theorem dX1_digest_147 : decode cX1_digest 147 = .ok (.getfield 10, 3) := by decide +kernel
theorem dX1_digest_150 : decode cX1_digest 150 = .ok (.invokevirtual 119, 3) := by decide +kernel
theorem dX1_digest_153 : decode cX1_digest 153 = .ok (.i2l, 1) := by decide +kernel
theorem dX1_digest_154 : decode cX1_digest 154 = .ok (.ladd, 1) := by decide +kernel
theorem dX1_digest_155 : decode cX1_digest 155 = .ok (.lstore_n 1, 1) := by decide +kernel
theorem dX1_digest_156 : decode cX1_digest 156 = .ok (.lload_n 1, 1) := by decide +kernel
theorem dX1_digest_157 : decode cX1_digest 157 = .ok (.ldc2_w 135, 3) := by decide +kernel
theorem dX1_digest_160 : decode cX1_digest 160 = .ok (.lmul, 1) := by decide +kernel
theorem dX1_digest_161 : decode cX1_digest 161 = .ok (.aload_n 0, 1) := by decide +kernel
theorem dX1_digest_162 : decode cX1_digest 162 = .ok (.invokevirtual 137, 3) := by decide +kernel
theorem dX1_digest_165 : decode cX1_digest 165 = .ok (.i2l, 1) := by decide +kernel
theorem dX1_digest_166 : decode cX1_digest 166 = .ok (.ladd, 1) := by decide +kernel
theorem dX1_digest_167 : decode cX1_digest 167 = .ok (.lstore_n 1, 1) := by decide +kernel
theorem dX1_digest_168 : decode cX1_digest 168 = .ok (.lload_n 1, 1) := by decide +kernel
theorem dX1_digest_169 : decode cX1_digest 169 = .ok (.ldc2_w 135, 3) := by decide +kernel
theorem dX1_digest_172 : decode cX1_digest 172 = .ok (.lmul, 1) := by decide +kernel
theorem dX1_digest_173 : decode cX1_digest 173 = .ok (.aload_n 0, 1) := by decide +kernel
theorem dX1_digest_174 : decode cX1_digest 174 = .ok (.bipush 20, 2) := by decide +kernel
theorem dX1_digest_176 : decode cX1_digest 176 = .ok (.invokevirtual 130, 3) := by decide +kernel
theorem dX1_digest_179 : decode cX1_digest 179 = .ok (.i2l, 1) := by decide +kernel
theorem dX1_digest_180 : decode cX1_digest 180 = .ok (.ladd, 1) := by decide +kernel
theorem dX1_digest_181 : decode cX1_digest 181 = .ok (.lstore_n 1, 1) := by decide +kernel
theorem dX1_digest_182 : decode cX1_digest 182 = .ok (.iconst 0, 1) := by decide +kernel
theorem dX1_digest_183 : decode cX1_digest 183 = .ok (.istore_n 3, 1) := by decide +kernel
theorem dX1_digest_184 : decode cX1_digest 184 = .ok (.iload_n 3, 1) := by decide +kernel
theorem dX1_digest_185 : decode cX1_digest 185 = .ok (.aload_n 0, 1) := by decide +kernel
theorem dX1_digest_186 : decode cX1_digest 186 = .ok (.getfield 10, 3) := by decide +kernel
theorem dX1_digest_189 : decode cX1_digest 189 = .ok (.invokevirtual 74, 3) := by decide +kernel
theorem dX1_digest_192 : decode cX1_digest 192 = .ok (.if_icmp .ge 92, 3) := by decide +kernel
theorem dX1_digest_195 : decode cX1_digest 195 = .ok (.lload_n 1, 1) := by decide +kernel
theorem dX1_digest_196 : decode cX1_digest 196 = .ok (.ldc2_w 135, 3) := by decide +kernel
theorem dX1_digest_199 : decode cX1_digest 199 = .ok (.lmul, 1) := by decide +kernel
theorem dX1_digest_200 : decode cX1_digest 200 = .ok (.aload_n 0, 1) := by decide +kernel
theorem dX1_digest_201 : decode cX1_digest 201 = .ok (.getfield 10, 3) := by decide +kernel
theorem dX1_digest_204 : decode cX1_digest 204 = .ok (.iload_n 3, 1) := by decide +kernel
theorem dX1_digest_205 : decode cX1_digest 205 = .ok (.invokevirtual 89, 3) := by decide +kernel
theorem dX1_digest_208 : decode cX1_digest 208 = .ok (.i2l, 1) := by decide +kernel
theorem dX1_digest_209 : decode cX1_digest 209 = .ok (.ladd, 1) := by decide +kernel
theorem dX1_digest_210 : decode cX1_digest 210 = .ok (.lstore_n 1, 1) := by decide +kernel
theorem dX1_digest_211 : decode cX1_digest 211 = .ok (.lload_n 1, 1) := by decide +kernel
theorem dX1_digest_212 : decode cX1_digest 212 = .ok (.ldc2_w 135, 3) := by decide +kernel
theorem dX1_digest_215 : decode cX1_digest 215 = .ok (.lmul, 1) := by decide +kernel
theorem dX1_digest_216 : decode cX1_digest 216 = .ok (.aload_n 0, 1) := by decide +kernel
theorem dX1_digest_217 : decode cX1_digest 217 = .ok (.getfield 10, 3) := by decide +kernel
theorem dX1_digest_220 : decode cX1_digest 220 = .ok (.iload_n 3, 1) := by decide +kernel
theorem dX1_digest_221 : decode cX1_digest 221 = .ok (.invokevirtual 92, 3) := by decide +kernel
theorem dX1_digest_224 : decode cX1_digest 224 = .ok (.i2l, 1) := by decide +kernel
theorem dX1_digest_225 : decode cX1_digest 225 = .ok (.ladd, 1) := by decide +kernel
theorem dX1_digest_226 : decode cX1_digest 226 = .ok (.lstore_n 1, 1) := by decide +kernel
theorem dX1_digest_227 : decode cX1_digest 227 = .ok (.lload_n 1, 1) := by decide +kernel
theorem dX1_digest_228 : decode cX1_digest 228 = .ok (.ldc2_w 135, 3) := by decide +kernel
theorem dX1_digest_231 : decode cX1_digest 231 = .ok (.lmul, 1) := by decide +kernel
theorem dX1_digest_232 : decode cX1_digest 232 = .ok (.aload_n 0, 1) := by decide +kernel
theorem dX1_digest_233 : decode cX1_digest 233 = .ok (.getfield 10, 3) := by decide +kernel
theorem dX1_digest_236 : decode cX1_digest 236 = .ok (.iload_n 3, 1) := by decide +kernel
theorem dX1_digest_237 : decode cX1_digest 237 = .ok (.invokevirtual 48, 3) := by decide +kernel
theorem dX1_digest_240 : decode cX1_digest 240 = .ok (.i2l, 1) := by decide +kernel
theorem dX1_digest_241 : decode cX1_digest 241 = .ok (.ladd, 1) := by decide +kernel
theorem dX1_digest_242 : decode cX1_digest 242 = .ok (.lstore_n 1, 1) := by decide +kernel
theorem dX1_digest_243 : decode cX1_digest 243 = .ok (.lload_n 1, 1) := by decide +kernel
theorem dX1_digest_244 : decode cX1_digest 244 = .ok (.ldc2_w 135, 3) := by decide +kernel
theorem dX1_digest_247 : decode cX1_digest 247 = .ok (.lmul, 1) := by decide +kernel
theorem dX1_digest_248 : decode cX1_digest 248 = .ok (.aload_n 0, 1) := by decide +kernel
theorem dX1_digest_249 : decode cX1_digest 249 = .ok (.getfield 10, 3) := by decide +kernel
theorem dX1_digest_252 : decode cX1_digest 252 = .ok (.iload_n 3, 1) := by decide +kernel
theorem dX1_digest_253 : decode cX1_digest 253 = .ok (.invokevirtual 122, 3) := by decide +kernel
theorem dX1_digest_256 : decode cX1_digest 256 = .ok (.i2l, 1) := by decide +kernel
theorem dX1_digest_257 : decode cX1_digest 257 = .ok (.ladd, 1) := by decide +kernel
theorem dX1_digest_258 : decode cX1_digest 258 = .ok (.lstore_n 1, 1) := by decide +kernel
theorem dX1_digest_259 : decode cX1_digest 259 = .ok (.lload_n 1, 1) := by decide +kernel
theorem dX1_digest_260 : decode cX1_digest 260 = .ok (.ldc2_w 135, 3) := by decide +kernel
theorem dX1_digest_263 : decode cX1_digest 263 = .ok (.lmul, 1) := by decide +kernel
theorem dX1_digest_264 : decode cX1_digest 264 = .ok (.aload_n 0, 1) := by decide +kernel
theorem dX1_digest_265 : decode cX1_digest 265 = .ok (.getfield 10, 3) := by decide +kernel
theorem dX1_digest_268 : decode cX1_digest 268 = .ok (.iload_n 3, 1) := by decide +kernel
theorem dX1_digest_269 : decode cX1_digest 269 = .ok (.bipush 7, 2) := by decide +kernel
theorem dX1_digest_271 : decode cX1_digest 271 = .ok (.imul, 1) := by decide +kernel
theorem dX1_digest_272 : decode cX1_digest 272 = .ok (.invokevirtual 101, 3) := by decide +kernel
theorem dX1_digest_275 : decode cX1_digest 275 = .ok (.i2l, 1) := by decide +kernel
theorem dX1_digest_276 : decode cX1_digest 276 = .ok (.ladd, 1) := by decide +kernel
theorem dX1_digest_277 : decode cX1_digest 277 = .ok (.lstore_n 1, 1) := by decide +kernel
theorem dX1_digest_278 : decode cX1_digest 278 = .ok (.iinc 3 1, 3) := by decide +kernel
theorem dX1_digest_281 : decode cX1_digest 281 = .ok (.goto (-97), 3) := by decide +kernel
theorem dX1_digest_284 : decode cX1_digest 284 = .ok (.lload_n 1, 1) := by decide +kernel
theorem dX1_digest_285 : decode cX1_digest 285 = .ok (.lreturn, 1) := by decide +kernel
theorem dX1_demandNumber_0 : decode cX1_demandNumber 0 = .ok (.iload_n 0, 1) := by decide +kernel
theorem dX1_demandNumber_1 : decode cX1_demandNumber 1 = .ok (.ifCond .lt 10, 3) := by decide +kernel
theorem dX1_demandNumber_4 : decode cX1_demandNumber 4 = .ok (.iload_n 0, 1) := by decide +kernel
theorem dX1_demandNumber_5 : decode cX1_demandNumber 5 = .ok (.sipush 9999, 3) := by decide +kernel
theorem dX1_demandNumber_8 : decode cX1_demandNumber 8 = .ok (.if_icmp .le 13, 3) := by decide +kernel
theorem dX1_demandNumber_11 : decode cX1_demandNumber 11 = .ok (.new 23, 3) := by decide +kernel
theorem dX1_demandNumber_14 : decode cX1_demandNumber 14 = .ok (.dup, 1) := by decide +kernel
theorem dX1_demandNumber_15 : decode cX1_demandNumber 15 = .ok (.ldc 140, 2) := by decide +kernel
theorem dX1_demandNumber_17 : decode cX1_demandNumber 17 = .ok (.invokespecial 27, 3) := by decide +kernel
theorem dX1_demandNumber_20 : decode cX1_demandNumber 20 = .ok (.athrow, 1) := by decide +kernel
theorem dX1_demandNumber_21 : decode cX1_demandNumber 21 = .ok (.return_, 1) := by decide +kernel
theorem dX1_demandHooksAndWay_0 : decode cX1_demandHooksAndWay 0 = .ok (.iload_n 0, 1) := by decide +kernel
theorem dX1_demandHooksAndWay_1 : decode cX1_demandHooksAndWay 1 = .ok (.iconst 3, 1) := by decide +kernel
theorem dX1_demandHooksAndWay_2 : decode cX1_demandHooksAndWay 2 = .ok (.if_icmp .lt 9, 3) := by decide +kernel
theorem dX1_demandHooksAndWay_5 : decode cX1_demandHooksAndWay 5 = .ok (.iload_n 0, 1) := by decide +kernel
theorem dX1_demandHooksAndWay_6 : decode cX1_demandHooksAndWay 6 = .ok (.bipush 40, 2) := by decide +kernel
theorem dX1_demandHooksAndWay_8 : decode cX1_demandHooksAndWay 8 = .ok (.if_icmp .le 13, 3) := by decide +kernel
theorem dX1_demandHooksAndWay_11 : decode cX1_demandHooksAndWay 11 = .ok (.new 23, 3) := by decide +kernel
theorem dX1_demandHooksAndWay_14 : decode cX1_demandHooksAndWay 14 = .ok (.dup, 1) := by decide +kernel
theorem dX1_demandHooksAndWay_15 : decode cX1_demandHooksAndWay 15 = .ok (.ldc 142, 2) := by decide +kernel
theorem dX1_demandHooksAndWay_17 : decode cX1_demandHooksAndWay 17 = .ok (.invokespecial 27, 3) := by decide +kernel
theorem dX1_demandHooksAndWay_20 : decode cX1_demandHooksAndWay 20 = .ok (.athrow, 1) := by decide +kernel
theorem dX1_demandHooksAndWay_21 : decode cX1_demandHooksAndWay 21 = .ok (.iload_n 1, 1) := by decide +kernel
theorem dX1_demandHooksAndWay_22 : decode cX1_demandHooksAndWay 22 = .ok (.ifCond .lt 8, 3) := by decide +kernel
theorem dX1_demandHooksAndWay_25 : decode cX1_demandHooksAndWay 25 = .ok (.iload_n 1, 1) := by decide +kernel
theorem dX1_demandHooksAndWay_26 : decode cX1_demandHooksAndWay 26 = .ok (.iconst 2, 1) := by decide +kernel
theorem dX1_demandHooksAndWay_27 : decode cX1_demandHooksAndWay 27 = .ok (.if_icmp .le 13, 3) := by decide +kernel
theorem dX1_demandHooksAndWay_30 : decode cX1_demandHooksAndWay 30 = .ok (.new 23, 3) := by decide +kernel
theorem dX1_demandHooksAndWay_33 : decode cX1_demandHooksAndWay 33 = .ok (.dup, 1) := by decide +kernel
theorem dX1_demandHooksAndWay_34 : decode cX1_demandHooksAndWay 34 = .ok (.ldc 144, 2) := by decide +kernel
theorem dX1_demandHooksAndWay_36 : decode cX1_demandHooksAndWay 36 = .ok (.invokespecial 27, 3) := by decide +kernel
theorem dX1_demandHooksAndWay_39 : decode cX1_demandHooksAndWay 39 = .ok (.athrow, 1) := by decide +kernel
theorem dX1_demandHooksAndWay_40 : decode cX1_demandHooksAndWay 40 = .ok (.return_, 1) := by decide +kernel
set_option maxRecDepth 20000 in
theorem ggX1_demandHook_X0_hookCount : GoodIn wsX1_demandHook wsX0_hookCount := goodIn_r _ [8, 9, 12, 13, 14, 15] (by decide +kernel) (by decide +kernel)
set_option maxRecDepth 20000 in
theorem gX1_demandHook_X0_hookCount : GoodIn wsX1_demandHook (wsV RX1 74 RX0 yX0_hookCount wsX0_hookCount) := goodIn_app (goodIn_of _ (by decide +kernel)) ggX1_demandHook_X0_hookCount
theorem dX1_demandHook_0 : decode cX1_demandHook 0 = .ok (.iload_n 1, 1) := by decide +kernel
theorem dX1_demandHook_1 : decode cX1_demandHook 1 = .ok (.ifCond .lt 14, 3) := by decide +kernel
theorem dX1_demandHook_4 : decode cX1_demandHook 4 = .ok (.iload_n 1, 1) := by decide +kernel
theorem dX1_demandHook_5 : decode cX1_demandHook 5 = .ok (.aload_n 0, 1) := by decide +kernel
theorem dX1_demandHook_6 : decode cX1_demandHook 6 = .ok (.getfield 10, 3) := by decide +kernel
theorem dX1_demandHook_9 : decode cX1_demandHook 9 = .ok (.invokevirtual 74, 3) := by decide +kernel
theorem dX1_demandHook_12 : decode cX1_demandHook 12 = .ok (.if_icmp .lt 13, 3) := by decide +kernel
theorem dX1_demandHook_15 : decode cX1_demandHook 15 = .ok (.new 146, 3) := by decide +kernel
theorem dX1_demandHook_18 : decode cX1_demandHook 18 = .ok (.dup, 1) := by decide +kernel
theorem dX1_demandHook_19 : decode cX1_demandHook 19 = .ok (.ldc 148, 2) := by decide +kernel
theorem dX1_demandHook_21 : decode cX1_demandHook 21 = .ok (.invokespecial 150, 3) := by decide +kernel
theorem dX1_demandHook_24 : decode cX1_demandHook 24 = .ok (.athrow, 1) := by decide +kernel
theorem dX1_demandHook_25 : decode cX1_demandHook 25 = .ok (.return_, 1) := by decide +kernel
set_option maxRecDepth 20000 in
theorem ggX1_fewestHooks_X0_usherWay : GoodIn wsX1_fewestHooks wsX0_usherWay := goodIn_r _ [6, 7, 64, 65, 66, 67] (by decide +kernel) (by decide +kernel)
set_option maxRecDepth 20000 in
theorem gX1_fewestHooks_X0_usherWay : GoodIn wsX1_fewestHooks (wsV RX1 83 RX0 yX0_usherWay wsX0_usherWay) := goodIn_app (goodIn_of _ (by decide +kernel)) ggX1_fewestHooks_X0_usherWay
set_option maxRecDepth 20000 in
theorem ggX1_fewestHooks_X1_looksOnTrial : GoodIn wsX1_fewestHooks wsX1_looksOnTrial := goodIn_r _ [12, 13, 14, 15, 16, 11, 17, 1, 18, 19, 20, 5, 21, 22, 7, 23, 24, 25, 26, 27, 28, 29, 30, 31, 32, 33, 34, 35, 36, 37, 38, 39, 40, 41, 42, 43, 44, 45, 46, 47, 48, 49, 50, 51, 52, 53, 54, 55, 56, 57, 58, 59, 60, 61, 62, 63, 64, 65, 66, 67] (by decide +kernel) (by decide +kernel)
set_option maxRecDepth 20000 in
theorem gX1_fewestHooks_X1_looksOnTrial : GoodIn wsX1_fewestHooks (wsV RX1 125 RX1 yX1_looksOnTrial wsX1_looksOnTrial) := goodIn_app (goodIn_of _ (by decide +kernel)) ggX1_fewestHooks_X1_looksOnTrial
theorem dX1_fewestHooks_0 : decode cX1_fewestHooks 0 = .ok (.iconst 3, 1) := by decide +kernel
theorem dX1_fewestHooks_1 : decode cX1_fewestHooks 1 = .ok (.istore_n 2, 1) := by decide +kernel
theorem dX1_fewestHooks_2 : decode cX1_fewestHooks 2 = .ok (.iload_n 2, 1) := by decide +kernel
theorem dX1_fewestHooks_3 : decode cX1_fewestHooks 3 = .ok (.bipush 40, 2) := by decide +kernel
theorem dX1_fewestHooks_5 : decode cX1_fewestHooks 5 = .ok (.if_icmp .gt 33, 3) := by decide +kernel
theorem dX1_fewestHooks_8 : decode cX1_fewestHooks 8 = .ok (.aload_n 0, 1) := by decide +kernel
theorem dX1_fewestHooks_9 : decode cX1_fewestHooks 9 = .ok (.iload_n 2, 1) := by decide +kernel
theorem dX1_fewestHooks_10 : decode cX1_fewestHooks 10 = .ok (.aload_n 0, 1) := by decide +kernel
theorem dX1_fewestHooks_11 : decode cX1_fewestHooks 11 = .ok (.getfield 10, 3) := by decide +kernel
theorem dX1_fewestHooks_14 : decode cX1_fewestHooks 14 = .ok (.invokevirtual 83, 3) := by decide +kernel
theorem dX1_fewestHooks_17 : decode cX1_fewestHooks 17 = .ok (.invokevirtual 125, 3) := by decide +kernel
theorem dX1_fewestHooks_20 : decode cX1_fewestHooks 20 = .ok (.istore_n 3, 1) := by decide +kernel
theorem dX1_fewestHooks_21 : decode cX1_fewestHooks 21 = .ok (.iload_n 3, 1) := by decide +kernel
theorem dX1_fewestHooks_22 : decode cX1_fewestHooks 22 = .ok (.ifCond .lt 10, 3) := by decide +kernel
theorem dX1_fewestHooks_25 : decode cX1_fewestHooks 25 = .ok (.iload_n 3, 1) := by decide +kernel
theorem dX1_fewestHooks_26 : decode cX1_fewestHooks 26 = .ok (.iload_n 1, 1) := by decide +kernel
theorem dX1_fewestHooks_27 : decode cX1_fewestHooks 27 = .ok (.if_icmp .gt 5, 3) := by decide +kernel
theorem dX1_fewestHooks_30 : decode cX1_fewestHooks 30 = .ok (.iload_n 2, 1) := by decide +kernel
theorem dX1_fewestHooks_31 : decode cX1_fewestHooks 31 = .ok (.ireturn, 1) := by decide +kernel
theorem dX1_fewestHooks_32 : decode cX1_fewestHooks 32 = .ok (.iinc 2 1, 3) := by decide +kernel
theorem dX1_fewestHooks_35 : decode cX1_fewestHooks 35 = .ok (.goto (-33), 3) := by decide +kernel
theorem dX1_fewestHooks_38 : decode cX1_fewestHooks 38 = .ok (.iconst (-1), 1) := by decide +kernel
theorem dX1_fewestHooks_39 : decode cX1_fewestHooks 39 = .ok (.ireturn, 1) := by decide +kernel
set_option maxRecDepth 20000 in
theorem ggX1_looksOnTrial_X1_hangAnewOnTrial : GoodIn wsX1_looksOnTrial wsX1_hangAnewOnTrial := goodIn_r _ [6, 1, 7, 8, 9, 10, 11, 12, 13, 14, 15, 16, 17, 18, 19, 20, 21, 22, 23, 24, 25, 26, 27, 28, 29, 30, 31, 32, 33, 34, 35, 36, 37, 38, 39, 40, 41, 42, 43, 44, 45, 46, 47, 48, 49, 54, 55, 56, 57, 58, 59] (by decide +kernel) (by decide +kernel)
set_option maxRecDepth 20000 in
theorem gX1_looksOnTrial_X1_hangAnewOnTrial : GoodIn wsX1_looksOnTrial (wsV RX1 58 RX1 yX1_hangAnewOnTrial wsX1_hangAnewOnTrial) := goodIn_app (goodIn_of _ (by decide +kernel)) ggX1_looksOnTrial_X1_hangAnewOnTrial
set_option maxRecDepth 20000 in
theorem ggX1_looksOnTrial_X0_looksForAll : GoodIn wsX1_looksOnTrial wsX0_looksForAll := goodIn_r _ [53, 13, 29, 30, 31, 11, 32, 15, 37, 38, 39, 40, 41, 42, 43, 44, 14, 56, 57, 58, 59] (by decide +kernel) (by decide +kernel)
set_option maxRecDepth 20000 in
theorem gX1_looksOnTrial_X0_looksForAll : GoodIn wsX1_looksOnTrial (wsV RX1 110 RX0 yX0_looksForAll wsX0_looksForAll) := goodIn_app (goodIn_of _ (by decide +kernel)) ggX1_looksOnTrial_X0_looksForAll
theorem dX1_looksOnTrial_0 : decode cX1_looksOnTrial 0 = .ok (.aload_n 0, 1) := by decide +kernel
theorem dX1_looksOnTrial_1 : decode cX1_looksOnTrial 1 = .ok (.iload_n 1, 1) := by decide +kernel
theorem dX1_looksOnTrial_2 : decode cX1_looksOnTrial 2 = .ok (.iload_n 2, 1) := by decide +kernel
theorem dX1_looksOnTrial_3 : decode cX1_looksOnTrial 3 = .ok (.invokevirtual 58, 3) := by decide +kernel
theorem dX1_looksOnTrial_6 : decode cX1_looksOnTrial 6 = .ok (.ifCond .eq 13, 3) := by decide +kernel
theorem dX1_looksOnTrial_9 : decode cX1_looksOnTrial 9 = .ok (.aload_n 0, 1) := by decide +kernel
theorem dX1_looksOnTrial_10 : decode cX1_looksOnTrial 10 = .ok (.getfield 16, 3) := by decide +kernel
theorem dX1_looksOnTrial_13 : decode cX1_looksOnTrial 13 = .ok (.invokevirtual 110, 3) := by decide +kernel
theorem dX1_looksOnTrial_16 : decode cX1_looksOnTrial 16 = .ok (.goto 4, 3) := by decide +kernel
theorem dX1_looksOnTrial_19 : decode cX1_looksOnTrial 19 = .ok (.iconst (-1), 1) := by decide +kernel
theorem dX1_looksOnTrial_20 : decode cX1_looksOnTrial 20 = .ok (.ireturn, 1) := by decide +kernel
set_option maxRecDepth 20000 in
theorem ggX1_hangAnewOnTrial_X0_clear : GoodIn wsX1_hangAnewOnTrial wsX0_clear := goodIn_r _ [7, 8, 9, 10, 11, 12, 13, 6, 14, 15, 47, 48, 49, 50] (by decide +kernel) (by decide +kernel)
set_option maxRecDepth 20000 in
theorem gX1_hangAnewOnTrial_X0_clear : GoodIn wsX1_hangAnewOnTrial (wsV RX1 151 RX0 yX0_clear wsX0_clear) := goodIn_app (goodIn_of _ (by decide +kernel)) ggX1_hangAnewOnTrial_X0_clear
set_option maxRecDepth 20000 in
theorem ggX1_hangAnewOnTrial_X0_hookCount : GoodIn wsX1_hangAnewOnTrial wsX0_hookCount := goodIn_r _ [19, 8, 47, 48, 49, 50] (by decide +kernel) (by decide +kernel)
set_option maxRecDepth 20000 in
theorem gX1_hangAnewOnTrial_X0_hookCount : GoodIn wsX1_hangAnewOnTrial (wsV RX1 74 RX0 yX0_hookCount wsX0_hookCount) := goodIn_app (goodIn_of _ (by decide +kernel)) ggX1_hangAnewOnTrial_X0_hookCount
set_option maxRecDepth 20000 in
theorem ggX1_hangAnewOnTrial_X0_coatOn : GoodIn wsX1_hangAnewOnTrial wsX0_coatOn := goodIn_r _ [23, 24, 25, 26, 6, 27, 8, 10, 47, 48, 49, 50] (by decide +kernel) (by decide +kernel)
set_option maxRecDepth 20000 in
theorem gX1_hangAnewOnTrial_X0_coatOn : GoodIn wsX1_hangAnewOnTrial (wsV RX1 92 RX0 yX0_coatOn wsX0_coatOn) := goodIn_app (goodIn_of _ (by decide +kernel)) ggX1_hangAnewOnTrial_X0_coatOn
set_option maxRecDepth 20000 in
theorem ggX1_hangAnewOnTrial_X0_openHook : GoodIn wsX1_hangAnewOnTrial wsX0_openHook := goodIn_r _ [31, 32, 33, 34, 6, 35, 8, 36, 37, 38, 39, 9, 24, 25, 26, 27, 10, 47, 48, 49, 50] (by decide +kernel) (by decide +kernel)
set_option maxRecDepth 20000 in
theorem gX1_hangAnewOnTrial_X0_openHook : GoodIn wsX1_hangAnewOnTrial (wsV RX1 154 RX0 yX0_openHook wsX0_openHook) := goodIn_app (goodIn_of _ (by decide +kernel)) ggX1_hangAnewOnTrial_X0_openHook
set_option maxRecDepth 20000 in
theorem ggX1_hangAnewOnTrial_X0_weightOn : GoodIn wsX1_hangAnewOnTrial wsX0_weightOn := goodIn_r _ [43, 8, 15, 47, 48, 49, 50] (by decide +kernel) (by decide +kernel)
set_option maxRecDepth 20000 in
theorem gX1_hangAnewOnTrial_X0_weightOn : GoodIn wsX1_hangAnewOnTrial (wsV RX1 48 RX0 yX0_weightOn wsX0_weightOn) := goodIn_app (goodIn_of _ (by decide +kernel)) ggX1_hangAnewOnTrial_X0_weightOn
set_option maxRecDepth 20000 in
theorem ggX1_hangAnewOnTrial_X0_put : GoodIn wsX1_hangAnewOnTrial wsX0_put := goodIn_r _ [14, 10, 15, 47, 48, 49, 50] (by decide +kernel) (by decide +kernel)
set_option maxRecDepth 20000 in
theorem gX1_hangAnewOnTrial_X0_put : GoodIn wsX1_hangAnewOnTrial (wsV RX1 39 RX0 yX0_put wsX0_put) := goodIn_app (goodIn_of _ (by decide +kernel)) ggX1_hangAnewOnTrial_X0_put
theorem dX1_hangAnewOnTrial_0 : decode cX1_hangAnewOnTrial 0 = .ok (.aload_n 0, 1) := by decide +kernel
theorem dX1_hangAnewOnTrial_1 : decode cX1_hangAnewOnTrial 1 = .ok (.getfield 16, 3) := by decide +kernel
theorem dX1_hangAnewOnTrial_4 : decode cX1_hangAnewOnTrial 4 = .ok (.iload_n 1, 1) := by decide +kernel
theorem dX1_hangAnewOnTrial_5 : decode cX1_hangAnewOnTrial 5 = .ok (.iload_n 2, 1) := by decide +kernel
theorem dX1_hangAnewOnTrial_6 : decode cX1_hangAnewOnTrial 6 = .ok (.invokevirtual 151, 3) := by decide +kernel
theorem dX1_hangAnewOnTrial_9 : decode cX1_hangAnewOnTrial 9 = .ok (.iconst 0, 1) := by decide +kernel
theorem dX1_hangAnewOnTrial_10 : decode cX1_hangAnewOnTrial 10 = .ok (.istore_n 3, 1) := by decide +kernel
theorem dX1_hangAnewOnTrial_11 : decode cX1_hangAnewOnTrial 11 = .ok (.iload_n 3, 1) := by decide +kernel
theorem dX1_hangAnewOnTrial_12 : decode cX1_hangAnewOnTrial 12 = .ok (.aload_n 0, 1) := by decide +kernel
theorem dX1_hangAnewOnTrial_13 : decode cX1_hangAnewOnTrial 13 = .ok (.getfield 10, 3) := by decide +kernel
theorem dX1_hangAnewOnTrial_16 : decode cX1_hangAnewOnTrial 16 = .ok (.invokevirtual 74, 3) := by decide +kernel
theorem dX1_hangAnewOnTrial_19 : decode cX1_hangAnewOnTrial 19 = .ok (.if_icmp .ge 63, 3) := by decide +kernel
theorem dX1_hangAnewOnTrial_22 : decode cX1_hangAnewOnTrial 22 = .ok (.aload_n 0, 1) := by decide +kernel
theorem dX1_hangAnewOnTrial_23 : decode cX1_hangAnewOnTrial 23 = .ok (.getfield 10, 3) := by decide +kernel
theorem dX1_hangAnewOnTrial_26 : decode cX1_hangAnewOnTrial 26 = .ok (.iload_n 3, 1) := by decide +kernel
theorem dX1_hangAnewOnTrial_27 : decode cX1_hangAnewOnTrial 27 = .ok (.invokevirtual 92, 3) := by decide +kernel
theorem dX1_hangAnewOnTrial_30 : decode cX1_hangAnewOnTrial 30 = .ok (.istore 4, 2) := by decide +kernel
theorem dX1_hangAnewOnTrial_32 : decode cX1_hangAnewOnTrial 32 = .ok (.iload 4, 2) := by decide +kernel
theorem dX1_hangAnewOnTrial_34 : decode cX1_hangAnewOnTrial 34 = .ok (.iconst (-1), 1) := by decide +kernel
theorem dX1_hangAnewOnTrial_35 : decode cX1_hangAnewOnTrial 35 = .ok (.if_icmp .eq 41, 3) := by decide +kernel
theorem dX1_hangAnewOnTrial_38 : decode cX1_hangAnewOnTrial 38 = .ok (.aload_n 0, 1) := by decide +kernel
theorem dX1_hangAnewOnTrial_39 : decode cX1_hangAnewOnTrial 39 = .ok (.getfield 16, 3) := by decide +kernel
theorem dX1_hangAnewOnTrial_42 : decode cX1_hangAnewOnTrial 42 = .ok (.iload 4, 2) := by decide +kernel
theorem dX1_hangAnewOnTrial_44 : decode cX1_hangAnewOnTrial 44 = .ok (.invokevirtual 154, 3) := by decide +kernel
theorem dX1_hangAnewOnTrial_47 : decode cX1_hangAnewOnTrial 47 = .ok (.istore 5, 2) := by decide +kernel
theorem dX1_hangAnewOnTrial_49 : decode cX1_hangAnewOnTrial 49 = .ok (.iload 5, 2) := by decide +kernel
theorem dX1_hangAnewOnTrial_51 : decode cX1_hangAnewOnTrial 51 = .ok (.iconst (-1), 1) := by decide +kernel
theorem dX1_hangAnewOnTrial_52 : decode cX1_hangAnewOnTrial 52 = .ok (.if_icmp .ne 5, 3) := by decide +kernel
theorem dX1_hangAnewOnTrial_55 : decode cX1_hangAnewOnTrial 55 = .ok (.iconst 0, 1) := by decide +kernel
theorem dX1_hangAnewOnTrial_56 : decode cX1_hangAnewOnTrial 56 = .ok (.ireturn, 1) := by decide +kernel
theorem dX1_hangAnewOnTrial_57 : decode cX1_hangAnewOnTrial 57 = .ok (.aload_n 0, 1) := by decide +kernel
theorem dX1_hangAnewOnTrial_58 : decode cX1_hangAnewOnTrial 58 = .ok (.getfield 16, 3) := by decide +kernel
theorem dX1_hangAnewOnTrial_61 : decode cX1_hangAnewOnTrial 61 = .ok (.iload 5, 2) := by decide +kernel
theorem dX1_hangAnewOnTrial_63 : decode cX1_hangAnewOnTrial 63 = .ok (.iload 4, 2) := by decide +kernel
theorem dX1_hangAnewOnTrial_65 : decode cX1_hangAnewOnTrial 65 = .ok (.aload_n 0, 1) := by decide +kernel
theorem dX1_hangAnewOnTrial_66 : decode cX1_hangAnewOnTrial 66 = .ok (.getfield 10, 3) := by decide +kernel
theorem dX1_hangAnewOnTrial_69 : decode cX1_hangAnewOnTrial 69 = .ok (.iload_n 3, 1) := by decide +kernel
theorem dX1_hangAnewOnTrial_70 : decode cX1_hangAnewOnTrial 70 = .ok (.invokevirtual 48, 3) := by decide +kernel
theorem dX1_hangAnewOnTrial_73 : decode cX1_hangAnewOnTrial 73 = .ok (.invokevirtual 39, 3) := by decide +kernel
theorem dX1_hangAnewOnTrial_76 : decode cX1_hangAnewOnTrial 76 = .ok (.iinc 3 1, 3) := by decide +kernel
theorem dX1_hangAnewOnTrial_79 : decode cX1_hangAnewOnTrial 79 = .ok (.goto (-68), 3) := by decide +kernel
theorem dX1_hangAnewOnTrial_82 : decode cX1_hangAnewOnTrial 82 = .ok (.iconst 1, 1) := by decide +kernel
theorem dX1_hangAnewOnTrial_83 : decode cX1_hangAnewOnTrial 83 = .ok (.ireturn, 1) := by decide +kernel
set_option maxRecDepth 20000 in
theorem ggX1_coatsMovedOnTrial_X0_hookCount : GoodIn wsX1_coatsMovedOnTrial wsX0_hookCount := goodIn_r _ [7, 8, 20, 21, 22, 23] (by decide +kernel) (by decide +kernel)
set_option maxRecDepth 20000 in
theorem gX1_coatsMovedOnTrial_X0_hookCount : GoodIn wsX1_coatsMovedOnTrial (wsV RX1 74 RX0 yX0_hookCount wsX0_hookCount) := goodIn_app (goodIn_of _ (by decide +kernel)) ggX1_coatsMovedOnTrial_X0_hookCount
set_option maxRecDepth 20000 in
theorem ggX1_coatsMovedOnTrial_X0_coatOn : GoodIn wsX1_coatsMovedOnTrial wsX0_coatOn := goodIn_r _ [12, 13, 14, 15, 6, 16, 8, 17, 20, 21, 22, 23] (by decide +kernel) (by decide +kernel)
set_option maxRecDepth 20000 in
theorem gX1_coatsMovedOnTrial_X0_coatOn : GoodIn wsX1_coatsMovedOnTrial (wsV RX1 92 RX0 yX0_coatOn wsX0_coatOn) := goodIn_app (goodIn_of _ (by decide +kernel)) ggX1_coatsMovedOnTrial_X0_coatOn
theorem dX1_coatsMovedOnTrial_0 : decode cX1_coatsMovedOnTrial 0 = .ok (.iconst 0, 1) := by decide +kernel
theorem dX1_coatsMovedOnTrial_1 : decode cX1_coatsMovedOnTrial 1 = .ok (.istore_n 1, 1) := by decide +kernel
theorem dX1_coatsMovedOnTrial_2 : decode cX1_coatsMovedOnTrial 2 = .ok (.iconst 0, 1) := by decide +kernel
theorem dX1_coatsMovedOnTrial_3 : decode cX1_coatsMovedOnTrial 3 = .ok (.istore_n 2, 1) := by decide +kernel
theorem dX1_coatsMovedOnTrial_4 : decode cX1_coatsMovedOnTrial 4 = .ok (.iload_n 2, 1) := by decide +kernel
theorem dX1_coatsMovedOnTrial_5 : decode cX1_coatsMovedOnTrial 5 = .ok (.aload_n 0, 1) := by decide +kernel
theorem dX1_coatsMovedOnTrial_6 : decode cX1_coatsMovedOnTrial 6 = .ok (.getfield 16, 3) := by decide +kernel
theorem dX1_coatsMovedOnTrial_9 : decode cX1_coatsMovedOnTrial 9 = .ok (.invokevirtual 74, 3) := by decide +kernel
theorem dX1_coatsMovedOnTrial_12 : decode cX1_coatsMovedOnTrial 12 = .ok (.if_icmp .ge 38, 3) := by decide +kernel
theorem dX1_coatsMovedOnTrial_15 : decode cX1_coatsMovedOnTrial 15 = .ok (.aload_n 0, 1) := by decide +kernel
theorem dX1_coatsMovedOnTrial_16 : decode cX1_coatsMovedOnTrial 16 = .ok (.getfield 16, 3) := by decide +kernel
theorem dX1_coatsMovedOnTrial_19 : decode cX1_coatsMovedOnTrial 19 = .ok (.iload_n 2, 1) := by decide +kernel
theorem dX1_coatsMovedOnTrial_20 : decode cX1_coatsMovedOnTrial 20 = .ok (.invokevirtual 92, 3) := by decide +kernel
theorem dX1_coatsMovedOnTrial_23 : decode cX1_coatsMovedOnTrial 23 = .ok (.istore_n 3, 1) := by decide +kernel
theorem dX1_coatsMovedOnTrial_24 : decode cX1_coatsMovedOnTrial 24 = .ok (.iload_n 3, 1) := by decide +kernel
theorem dX1_coatsMovedOnTrial_25 : decode cX1_coatsMovedOnTrial 25 = .ok (.iconst (-1), 1) := by decide +kernel
theorem dX1_coatsMovedOnTrial_26 : decode cX1_coatsMovedOnTrial 26 = .ok (.if_icmp .eq 18, 3) := by decide +kernel
theorem dX1_coatsMovedOnTrial_29 : decode cX1_coatsMovedOnTrial 29 = .ok (.aload_n 0, 1) := by decide +kernel
theorem dX1_coatsMovedOnTrial_30 : decode cX1_coatsMovedOnTrial 30 = .ok (.getfield 10, 3) := by decide +kernel
theorem dX1_coatsMovedOnTrial_33 : decode cX1_coatsMovedOnTrial 33 = .ok (.iload_n 2, 1) := by decide +kernel
theorem dX1_coatsMovedOnTrial_34 : decode cX1_coatsMovedOnTrial 34 = .ok (.invokevirtual 92, 3) := by decide +kernel
theorem dX1_coatsMovedOnTrial_37 : decode cX1_coatsMovedOnTrial 37 = .ok (.iload_n 3, 1) := by decide +kernel
theorem dX1_coatsMovedOnTrial_38 : decode cX1_coatsMovedOnTrial 38 = .ok (.if_icmp .eq 6, 3) := by decide +kernel
theorem dX1_coatsMovedOnTrial_41 : decode cX1_coatsMovedOnTrial 41 = .ok (.iinc 1 1, 3) := by decide +kernel
theorem dX1_coatsMovedOnTrial_44 : decode cX1_coatsMovedOnTrial 44 = .ok (.iinc 2 1, 3) := by decide +kernel
theorem dX1_coatsMovedOnTrial_47 : decode cX1_coatsMovedOnTrial 47 = .ok (.goto (-43), 3) := by decide +kernel
theorem dX1_coatsMovedOnTrial_50 : decode cX1_coatsMovedOnTrial 50 = .ok (.iload_n 1, 1) := by decide +kernel
theorem dX1_coatsMovedOnTrial_51 : decode cX1_coatsMovedOnTrial 51 = .ok (.ireturn, 1) := by decide +kernel
set_option maxRecDepth 20000 in
theorem ggX1_takeOverTrial_X0_hookCount : GoodIn wsX1_takeOverTrial wsX0_hookCount := goodIn_r _ [7, 8, 39, 40, 41, 42] (by decide +kernel) (by decide +kernel)
set_option maxRecDepth 20000 in
theorem gX1_takeOverTrial_X0_hookCount : GoodIn wsX1_takeOverTrial (wsV RX1 74 RX0 yX0_hookCount wsX0_hookCount) := goodIn_app (goodIn_of _ (by decide +kernel)) ggX1_takeOverTrial_X0_hookCount
set_option maxRecDepth 20000 in
theorem ggX1_takeOverTrial_X0_usherWay : GoodIn wsX1_takeOverTrial wsX0_usherWay := goodIn_r _ [12, 13, 39, 40, 41, 42] (by decide +kernel) (by decide +kernel)
set_option maxRecDepth 20000 in
theorem gX1_takeOverTrial_X0_usherWay : GoodIn wsX1_takeOverTrial (wsV RX1 83 RX0 yX0_usherWay wsX0_usherWay) := goodIn_app (goodIn_of _ (by decide +kernel)) ggX1_takeOverTrial_X0_usherWay
set_option maxRecDepth 20000 in
theorem ggX1_takeOverTrial_X0_clear : GoodIn wsX1_takeOverTrial wsX0_clear := goodIn_r _ [17, 8, 13, 18, 19, 20, 21, 6, 22, 23, 39, 40, 41, 42] (by decide +kernel) (by decide +kernel)
set_option maxRecDepth 20000 in
theorem gX1_takeOverTrial_X0_clear : GoodIn wsX1_takeOverTrial (wsV RX1 151 RX0 yX0_clear wsX0_clear) := goodIn_app (goodIn_of _ (by decide +kernel)) ggX1_takeOverTrial_X0_clear
set_option maxRecDepth 20000 in
theorem ggX1_takeOverTrial_X0_coatOn : GoodIn wsX1_takeOverTrial wsX0_coatOn := goodIn_r _ [27, 28, 29, 30, 6, 31, 8, 18, 39, 40, 41, 42] (by decide +kernel) (by decide +kernel)
set_option maxRecDepth 20000 in
theorem gX1_takeOverTrial_X0_coatOn : GoodIn wsX1_takeOverTrial (wsV RX1 92 RX0 yX0_coatOn wsX0_coatOn) := goodIn_app (goodIn_of _ (by decide +kernel)) ggX1_takeOverTrial_X0_coatOn
set_option maxRecDepth 20000 in
theorem ggX1_takeOverTrial_X0_weightOn : GoodIn wsX1_takeOverTrial wsX0_weightOn := goodIn_r _ [35, 8, 23, 39, 40, 41, 42] (by decide +kernel) (by decide +kernel)
set_option maxRecDepth 20000 in
theorem gX1_takeOverTrial_X0_weightOn : GoodIn wsX1_takeOverTrial (wsV RX1 48 RX0 yX0_weightOn wsX0_weightOn) := goodIn_app (goodIn_of _ (by decide +kernel)) ggX1_takeOverTrial_X0_weightOn
set_option maxRecDepth 20000 in
theorem ggX1_takeOverTrial_X0_put : GoodIn wsX1_takeOverTrial wsX0_put := goodIn_r _ [22, 18, 23, 39, 40, 41, 42] (by decide +kernel) (by decide +kernel)
set_option maxRecDepth 20000 in
theorem gX1_takeOverTrial_X0_put : GoodIn wsX1_takeOverTrial (wsV RX1 39 RX0 yX0_put wsX0_put) := goodIn_app (goodIn_of _ (by decide +kernel)) ggX1_takeOverTrial_X0_put
theorem dX1_takeOverTrial_0 : decode cX1_takeOverTrial 0 = .ok (.aload_n 0, 1) := by decide +kernel
theorem dX1_takeOverTrial_1 : decode cX1_takeOverTrial 1 = .ok (.getfield 10, 3) := by decide +kernel
theorem dX1_takeOverTrial_4 : decode cX1_takeOverTrial 4 = .ok (.aload_n 0, 1) := by decide +kernel
theorem dX1_takeOverTrial_5 : decode cX1_takeOverTrial 5 = .ok (.getfield 16, 3) := by decide +kernel
theorem dX1_takeOverTrial_8 : decode cX1_takeOverTrial 8 = .ok (.invokevirtual 74, 3) := by decide +kernel
theorem dX1_takeOverTrial_11 : decode cX1_takeOverTrial 11 = .ok (.aload_n 0, 1) := by decide +kernel
theorem dX1_takeOverTrial_12 : decode cX1_takeOverTrial 12 = .ok (.getfield 16, 3) := by decide +kernel
theorem dX1_takeOverTrial_15 : decode cX1_takeOverTrial 15 = .ok (.invokevirtual 83, 3) := by decide +kernel
theorem dX1_takeOverTrial_18 : decode cX1_takeOverTrial 18 = .ok (.invokevirtual 151, 3) := by decide +kernel
theorem dX1_takeOverTrial_21 : decode cX1_takeOverTrial 21 = .ok (.iconst 0, 1) := by decide +kernel
theorem dX1_takeOverTrial_22 : decode cX1_takeOverTrial 22 = .ok (.istore_n 1, 1) := by decide +kernel
theorem dX1_takeOverTrial_23 : decode cX1_takeOverTrial 23 = .ok (.iload_n 1, 1) := by decide +kernel
theorem dX1_takeOverTrial_24 : decode cX1_takeOverTrial 24 = .ok (.aload_n 0, 1) := by decide +kernel
theorem dX1_takeOverTrial_25 : decode cX1_takeOverTrial 25 = .ok (.getfield 16, 3) := by decide +kernel
theorem dX1_takeOverTrial_28 : decode cX1_takeOverTrial 28 = .ok (.invokevirtual 74, 3) := by decide +kernel
theorem dX1_takeOverTrial_31 : decode cX1_takeOverTrial 31 = .ok (.if_icmp .ge 40, 3) := by decide +kernel
theorem dX1_takeOverTrial_34 : decode cX1_takeOverTrial 34 = .ok (.aload_n 0, 1) := by decide +kernel
theorem dX1_takeOverTrial_35 : decode cX1_takeOverTrial 35 = .ok (.getfield 16, 3) := by decide +kernel
theorem dX1_takeOverTrial_38 : decode cX1_takeOverTrial 38 = .ok (.iload_n 1, 1) := by decide +kernel
theorem dX1_takeOverTrial_39 : decode cX1_takeOverTrial 39 = .ok (.invokevirtual 92, 3) := by decide +kernel
theorem dX1_takeOverTrial_42 : decode cX1_takeOverTrial 42 = .ok (.istore_n 2, 1) := by decide +kernel
theorem dX1_takeOverTrial_43 : decode cX1_takeOverTrial 43 = .ok (.iload_n 2, 1) := by decide +kernel
theorem dX1_takeOverTrial_44 : decode cX1_takeOverTrial 44 = .ok (.iconst (-1), 1) := by decide +kernel
theorem dX1_takeOverTrial_45 : decode cX1_takeOverTrial 45 = .ok (.if_icmp .eq 20, 3) := by decide +kernel
theorem dX1_takeOverTrial_48 : decode cX1_takeOverTrial 48 = .ok (.aload_n 0, 1) := by decide +kernel
theorem dX1_takeOverTrial_49 : decode cX1_takeOverTrial 49 = .ok (.getfield 10, 3) := by decide +kernel
theorem dX1_takeOverTrial_52 : decode cX1_takeOverTrial 52 = .ok (.iload_n 1, 1) := by decide +kernel
theorem dX1_takeOverTrial_53 : decode cX1_takeOverTrial 53 = .ok (.iload_n 2, 1) := by decide +kernel
theorem dX1_takeOverTrial_54 : decode cX1_takeOverTrial 54 = .ok (.aload_n 0, 1) := by decide +kernel
theorem dX1_takeOverTrial_55 : decode cX1_takeOverTrial 55 = .ok (.getfield 16, 3) := by decide +kernel
theorem dX1_takeOverTrial_58 : decode cX1_takeOverTrial 58 = .ok (.iload_n 1, 1) := by decide +kernel
theorem dX1_takeOverTrial_59 : decode cX1_takeOverTrial 59 = .ok (.invokevirtual 48, 3) := by decide +kernel
theorem dX1_takeOverTrial_62 : decode cX1_takeOverTrial 62 = .ok (.invokevirtual 39, 3) := by decide +kernel
theorem dX1_takeOverTrial_65 : decode cX1_takeOverTrial 65 = .ok (.iinc 1 1, 3) := by decide +kernel
theorem dX1_takeOverTrial_68 : decode cX1_takeOverTrial 68 = .ok (.goto (-45), 3) := by decide +kernel
theorem dX1_takeOverTrial_71 : decode cX1_takeOverTrial 71 = .ok (.return_, 1) := by decide +kernel
set_option maxRecDepth 20000 in
theorem ggX2_init_X2_clear : GoodIn wsX2_init wsX2_clear := goodIn_r _ [13] (by decide +kernel) (by decide +kernel)
set_option maxRecDepth 20000 in
theorem gX2_init_X2_clear : GoodIn wsX2_init (va_wsS RX2 26 yX2_clear wsX2_clear) := goodIn_app (goodIn_of _ (by decide +kernel)) ggX2_init_X2_clear
end
section
/-! the thin layer of methods that may throw -/
def IAE : String := "java/lang/IllegalArgumentException"
def ISE : String := "java/lang/IllegalStateException"
def IOB : String := "java/lang/IndexOutOfBoundsException"
def xs_nm : List String := ["java/lang/RuntimeException", "java/lang/Exception"]
def xs_tx : List (Nat × String) := [(140, "the number is not 0 to 9999"), (25, "the weight is not 1 to 99"), (36, "the coat hangs, or has no place"), (46, "the coat does not hang, or is not found"), (142, "the hooks are not 3 to 40"), (144, "the way is not 0 to 2"), (62, "a coat has no place"), (148, "there is no such hook"), (104, "the step is not 0 to 39"), (128, "the looks are not 0 to 400")]
def xs_w : List Cond := [.declares (Bundle.initS "java/lang/RuntimeException"), .declares (Bundle.initS "java/lang/Exception"), .declares (Bundle.initS Bundle.tN), .castable IAE IAE, .castable ISE ISE, .castable IOB IOB]
/-- what a throw needs of the tables -/
def XS (U : State) : Prop := (∀ w ∈ xs_w, va_Nw w U) ∧ ∀ q ∈ xs_tx, ∃ a : Nat, vk_R RX1 q.1 q.2 a U
/-- what it needs of the heap -/
def XZ (A : Nat → Prop) (U : State) (H : Heap) : Prop := vx_Zq Bundle.tN "UNASSIGNED_STACK" Bundle.steD A U H ∧ vx_Zq Bundle.tN "SUPPRESSED_SENTINEL" Bundle.listD A U H
theorem XS.warm {s U : State} (hW : s.WarmedH U.vm) (h : XS s) : XS U := by
  refine ⟨fun w hw => ?_, fun q hq => ?_⟩
  · have h1 := h.1 w hw
    simp only [xs_w, List.mem_cons, List.mem_nil_iff, or_false] at hw
    rcases hw with rfl | rfl | rfl | rfl | rfl | rfl
    · exact va_tabs rfl (rfl : (s.setVm U.vm).vm = U.vm) (by rw [Cond.declares_setVm hW.alike]; exact h1)
    · exact va_tabs rfl (rfl : (s.setVm U.vm).vm = U.vm) (by rw [Cond.declares_setVm hW.alike]; exact h1)
    · exact va_tabs rfl (rfl : (s.setVm U.vm).vm = U.vm) (by rw [Cond.declares_setVm hW.alike]; exact h1)
    · exact va_Nw.warmC hW h1
    · exact va_Nw.warmC hW h1
    · exact va_Nw.warmC hW h1
  · obtain ⟨a, ha⟩ := h.2 q hq
    exact ⟨a, vk_R.warm hW ha⟩
theorem XS.same {s U : State} (hv : U.vm = s.vm) (h : XS s) : XS U := by
  refine ⟨fun w hw => ?_, fun q hq => ?_⟩
  · have h1 := h.1 w hw
    refine va_Nw.same ?_ hv.symm h1
    simp only [xs_w, List.mem_cons, List.mem_nil_iff, or_false] at hw
    rcases hw with rfl | rfl | rfl | rfl | rfl | rfl <;> rfl
  · obtain ⟨a, ha⟩ := h.2 q hq
    exact ⟨a, vk_R.same hv ha⟩
theorem XZ.moved {A : Nat → Prop} {u U : State} {H : Heap} (hvm : u.vm.Alike U.vm) (h : XZ A u H) : XZ A U H := ⟨vx_Zq.moved hvm h.1, vx_Zq.moved hvm h.2⟩
theorem XZ.kept {A : Nat → Prop} {U : State} {H H1 : Heap} (h : XZ A U H) (hq : ∀ a : Nat, a < H.size → ¬ A a → H1[a]? = H[a]?) : XZ A U H1 := ⟨vx_Zq.kept h.1 hq, vx_Zq.kept h.2 hq⟩
theorem XZ.narrow {A B : Nat → Prop} {U : State} {H : Heap} (h : XZ A U H) (hAB : ∀ q, B q → A q) : XZ B U H := ⟨vx_Zq.narrow h.1 hAB, vx_Zq.narrow h.2 hAB⟩
/-- a throw that leaves the heap as it was, but for what is new -/
def xk (C : String → Prop) : String → State → State → Prop := fun E st t => C E ∧ st.heap.size ≤ t.heap.size ∧ ∀ q : Nat, q < st.heap.size → t.heap[q]? = st.heap[q]?
abbrev PX (D : va_G) (tys : List (ClassId × FieldType)) (As : List Value) (wc : va_W) : Array Value → State → Prop := va_Pc As (fun U => va_P D vwCl wc U.heap ∧ va_K D vwCl tys U ∧ XS U ∧ XZ (fun _ => False) U U.heap)
abbrev PXM (D : va_G) (tys : List (ClassId × FieldType)) (As : List Value) (sz : Nat) (wc : va_W) : Array Value → State → Prop := va_Pc As (fun U => U.heap.size = sz ∧ va_P D vwCl wc U.heap ∧ va_K D vwCl tys U ∧ va_D (fun _ => True) wc ∧ XS U ∧ XZ (va_A wc sz) U U.heap)
theorem px_blind {D : va_G} {tys : List (ClassId × FieldType)} {As : List Value} {wc : va_W} : FrameBlind (PX D tys As wc) := fun _ U g mk q => ⟨q.1, q.2.1, va_K.moved (u := U) (Vm.Alike.refl U.vm) q.2.2.1, XS.same (s := U) rfl q.2.2.2.1, XZ.moved (u := U) (Vm.Alike.refl U.vm) q.2.2.2.2⟩
theorem pxm_blind {D : va_G} {tys : List (ClassId × FieldType)} {As : List Value} {wc : va_W} {sz : Nat} : FrameBlind (PXM D tys As sz wc) := fun _ U g mk q => ⟨q.1, q.2.1, q.2.2.1, va_K.moved (u := U) (Vm.Alike.refl U.vm) q.2.2.2.1, q.2.2.2.2.1, XS.same (s := U) rfl q.2.2.2.2.2.1, XZ.moved (u := U) (Vm.Alike.refl U.vm) q.2.2.2.2.2.2⟩
section XT
variable {p : Program} {l : Launch} {e : Env} {R : Room} {s : State} {m : MethodId} {args : Array Value} {below : List Frame} {meth : Method} {c : Code} {H : Heap} {locs : List Loc} {cells slots : Nat} {Q : State → Prop}
variable {cc : ByteArray} {pc : Nat} {ls : Array Slot} {rest st0 : List Value} {D : va_G} {tys : List (ClassId × FieldType)}
variable {y : MethodName} {bytes : ByteArray} {maxL nL mc ms mc1 ms1 n index : Nat} {ret : Option FieldType} {ws ws' Ts : List Cond} {rm : Room} {own C0 : String} {b : Addr} {As : List Value}
variable {Qc : Array Value → State → Outcome → State → Prop} {XC : String → State → State → Prop} {C C2 : String → Prop} {free : Addr → Prop}
theorem bd_x {wc : va_W} (hy : plainName y.cls = true) (hw : ws = Cond.code y cc maxL ret :: ws') (hlen : (lg_sl As).length ≤ maxL)
    (body : ∀ (p : Program) (e : Env) (s : State) (m : MethodId) (args : Array Value) (below : List Frame) (meth : Method) (c : Code) (ls : Array Slot), CallFix p m c cc maxL s args ws y.cls → meth.sig.returnType = ret → meth.locks = false → (∀ x ∈ c.exceptionTable.toList, False) → va_K D vwCl tys s → va_P D vwCl wc s.heap → XS s → XZ (fun _ => False) s s.heap → lv_has ls maxL (lv_args 0 As) →
      W p l e rm s m args below meth c s.heap [] 0 0 (vx_MQ below Qc (xk C) args s mc ms (fun _ => False)) (F0 m 0 ls [])) : vx_Met l y ws rm (PX D tys As wc) Qc (xk C) mc ms (fun _ => False) := by
  refine vx_ofW (cc := cc) (maxL := maxL) (ret := ret) hy hw ?_
  intro p e s m args below meth c s₁ B hml hT hv
  obtain ⟨rfl, hP, hK, hX, hZ⟩ := hv
  rw [lg_entry_eq]
  exact body p e s m _ below meth c _ ⟨B.exec, B.bytes, hml, findClass_of_methodNamed B.named, atoms_spec (ws := ws) B.pre⟩ B.returns B.notSynchronized hT hK hP hX hZ (lv_entry As hlen)
theorem bd_xm {Qf : (Nat → Prop) → Array Value → State → Outcome → State → Prop} {XCf : (Nat → Prop) → String → State → State → Prop} {wc : va_W} {sz : Nat} (hy : plainName y.cls = true) (hw : ws = Cond.code y cc maxL ret :: ws') (hlen : (lg_sl As).length ≤ maxL)
    (body : ∀ (p : Program) (e : Env) (s : State) (m : MethodId) (args : Array Value) (below : List Frame) (meth : Method) (c : Code) (ls : Array Slot) (A : Nat → Prop), CallFix p m c cc maxL s args ws y.cls → meth.sig.returnType = ret → meth.locks = false → (∀ x ∈ c.exceptionTable.toList, False) → va_K D vwCl tys s → va_P D vwCl wc s.heap → va_D A wc → (∀ q : Nat, s.heap.size ≤ q → A q) → va_S A s.heap s.heap [] → XS s → XZ A s s.heap → lv_has ls maxL (lv_args 0 As) →
      W p l e rm s m args below meth c s.heap [] 0 0 (vx_MQ below (Qf A) (XCf A) args s mc ms A) (F0 m 0 ls [])) : vx_Met l y ws rm (PXM D tys As sz wc) (Qf (va_A wc sz)) (XCf (va_A wc sz)) mc ms (va_A wc sz) := by
  refine vx_ofW (cc := cc) (maxL := maxL) (ret := ret) hy hw ?_
  intro p e s m args below meth c s₁ B hml hT hv
  obtain ⟨rfl, hsz, hP, hK, hD0, hX, hZ⟩ := hv
  subst hsz
  rw [lg_entry_eq]
  exact body p e s m _ below meth c _ _ ⟨B.exec, B.bytes, hml, findClass_of_methodNamed B.named, atoms_spec (ws := ws) B.pre⟩ B.returns B.notSynchronized hT hK hP hD0.self (fun q h => Or.inr h) va_S.rf hX hZ (lv_entry As hlen)
/-- the end of a method that may throw: it returns -/
theorem ex_i {post : Int32 → Prop} {v : Int32} (hexec : p.tables.exec = Jvm.exec) (hb : c.code = cc) (hr : meth.sig.returnType = some .int) (hlocks : meth.locks = false) (hc : cells ≤ mc) (hs : slots ≤ ms) (h : post v) (hdg : decode cc pc = .ok (.ireturn, 1)) :
    W p l e R s m args below meth c s.heap [] cells slots (vx_MQ below (vp_Si post) XC args s mc ms free) (F0 m pc ls [.int v]) :=
  W.widen hc hs (vx_ret (W.iret hexec hb hr (fun t ht _ => ⟨v, rfl, h, ht⟩) (fun q hq => nomatch hq) hdg hlocks))
def vq_v (post : Prop) : Array Value → State → Outcome → State → Prop := fun _ st o t => o = .returned none ∧ post ∧ t.heap = st.heap
theorem ex_v {post : Prop} (hexec : p.tables.exec = Jvm.exec) (hb : c.code = cc) (hr : meth.sig.returnType = none) (hlocks : meth.locks = false) (hc : cells ≤ mc) (hs : slots ≤ ms) (h : post) (hdg : decode cc pc = .ok (.return_, 1)) :
    W p l e R s m args below meth c s.heap [] cells slots (vx_MQ below (vq_v post) XC args s mc ms free) (F0 m pc ls []) :=
  W.widen hc hs (vx_ret (W.vret hexec hb hr (fun t ht _ => ⟨rfl, h, ht⟩) (fun q hq => nomatch hq) hdg hlocks))
theorem ex_mi {BB : Int32 → Heap → Prop} {v : Int32} {A : Nat → Prop} (hexec : p.tables.exec = Jvm.exec) (hb : c.code = cc) (hr : meth.sig.returnType = some .int) (hlocks : meth.locks = false) (hc : cells ≤ mc) (hs : slots ≤ ms) (hS : va_S A s.heap H locs) (h : BB v H) (hdg : decode cc pc = .ok (.ireturn, 1)) :
    W p l e R s m args below meth c H locs cells slots (vx_MQ below (qm_i BB A) XC args s mc ms A) (F0 m pc ls [.int v]) :=
  W.widen hc hs (vx_ret (W.iret hexec hb hr (fun t ht _ => ⟨⟨v, rfl, by rw [ht]; exact h⟩, hS.F ht⟩) hS.2.2 hdg hlocks))
/-- 'throw new E("text")' over the heap of the start -/
theorem th_x {A : Nat → Prop} {cls text : String} {ik is ic : Nat} (hlt : l.stackTraces = false) (CF : CallFix p m c cc nL s args Ts RX1) (hX : XS s) (hZ : XZ A s s.heap) (hS : va_S A s.heap H locs)
    (hcls : Bundle.fit cls = true) (hk : Cond.classLink RX1 ik cls ∈ Ts) (hini : Cond.initialized cls ∈ Ts) (htx : (is, text) ∈ xs_tx) (hat : ∀ w ∈ (vx_atS RX1 ic cls xs_nm).filter goodWord, w ∈ Ts) (hbad : ∀ w ∈ (vx_atS RX1 ic cls xs_nm).filter (fun w => !goodWord w), w ∈ xs_w)
    (hgood : ∀ w ∈ Cond.classLink RX1 ik cls :: Cond.initialized cls :: vx_atS RX1 ic cls xs_nm, vx_ot w = true) (hsize : ls.size = nL)
    (d0 : decode cc pc = .ok (.new ik, 3)) (d3 : decode cc (pc + 3) = .ok (.dup, 1)) (d4 : decode cc (pc + 4) = .ok (.ldc is, 2)) (d6 : decode cc (pc + 6) = .ok (.invokespecial ic, 3)) (d9 : decode cc (pc + 9) = .ok (.athrow, 1))
    (hT : ∀ x ∈ c.exceptionTable.toList, False) (hR : 5 < R.frames ∧ (rest.map fun v => v.category).sum + 82 ≤ R.locals ∧ cells + 1 ≤ R.cells ∧ slots + 6 ≤ R.slots) (hlocks : meth.locks = false)
    (hx : ∀ t : State, H.size ≤ t.heap.size → (∀ q : Nat, q < H.size → t.heap[q]? = H[q]?) → XC cls s t) (hf : ∀ z ∈ locs, free z.base) (hc : cells + 1 ≤ mc) (hs : slots + 6 ≤ ms) :
    W p l e R s m args below meth c H locs cells slots (vx_MQ below Qc XC args s mc ms free) (F0 m pc ls rest) := by
  obtain ⟨hx0, hb, hml, hown, hts⟩ := CF
  obtain ⟨a, ha⟩ := hX.2 _ htx
  refine vx_throwS hx0 hb hlt hown hcls (by decide +kernel) (hts _ hk) (hts _ hini) ha (fun w hw => ?_) hgood hZ.1 hZ.2 hS (hsize.trans hml.symm) d0 d3 d4 d6 d9 (fun x h => (hT x h).elim) hR.1 hR.2.1 hR.2.2.1 hR.2.2.2 hlocks (fun t _ h1 h2 => hx t h1 h2) hf hc hs
  by_cases g : goodWord w = true
  · exact hts _ (hat w (List.mem_filter.mpr ⟨hw, g⟩))
  · have g2 : w ∈ xs_w := hbad w (List.mem_filter.mpr ⟨hw, by simpa using g⟩)
    have g3 := hgood w (List.mem_cons_of_mem _ (List.mem_cons_of_mem _ hw))
    refine va_Nw.use ?_ (hX.1 w g2)
    simp only [vx_ot, Bool.or_eq_true] at g3
    rcases g3 with g3 | g3
    · exact g3
    · exact absurd g3 g
/-- behind a call that leaves the heap as it was, or throws past this method -/
theorem xo_go {post : Prop} {Qa : State → Outcome → State → Prop} (hr : vx_Run p l e R s m args below meth c s.heap [] cells slots mc1 ms1 (F0 m pc ls st0) rest Qa (xk C2) (fun _ => False)) (hlocks : meth.locks = false) (hT : ∀ x ∈ c.exceptionTable.toList, False) (hC : ∀ (E : String) (t : State), C2 E → s.heap.size ≤ t.heap.size → (∀ q : Nat, q < s.heap.size → t.heap[q]? = s.heap[q]?) → XC E s t) (hc : cells + mc1 ≤ mc) (hs : slots + ms1 ≤ ms)
    (kk : ∀ (v : Option Value) (st₀ t : State), Qa st₀ (.returned v) t → t.heap = st₀.heap ∧ W p l e R s m args below meth c s.heap [] (cells + mc1) (slots + ms1) (vx_MQ below Qc XC args s mc ms free) (F0 m (pc + 3) ls (v.toList ++ rest))) :
    W p l e R s m args below meth c s.heap [] cells slots (vx_MQ below Qc XC args s mc ms free) (F0 m pc ls st0) := by
  intro T hT0 X
  rcases hr T hT0 X with ⟨v, st₀, t, T', L, h0, X', hL, e1, e2, hq, st⟩ | ⟨q, st₀, t, T', L, E, ce, h0, X', hL, e1, e2, ⟨hE, hz, hk⟩, hce, hcv, hcl, st⟩
  · obtain ⟨hh, k⟩ := kk v st₀ t hq
    obtain ⟨t2, a1, b1⟩ := k T' (by rw [e1, hh, h0]) (Stand.forget X' (fun q h => (hL q h).elim))
    exact ⟨t2, st t2 a1, b1⟩
  · rw [h0] at hz hk
    have X2 : Stand p l e R s m args below meth c T' [] (cells + mc1) (slots + ms1) := Stand.forget X' (fun q h => (hL q h).elim)
    obtain ⟨t2, a1, b1⟩ := vx_out (p := p) (l := l) (e := e) (R := R) (s := s) (m := m) (args := args) (below := below) (meth := meth) (c := c) (H := T'.heap) (locs := []) (cells := cells + mc1) (slots := slots + ms1) (ls := ls) (rest := rest) (Qc := Qc) (XC := XC) (free := free) (pc := pc) (E := E) (ce := ce) (q := q) (mc := mc) (ms := ms) (fun x h => (hT x h).elim) hlocks (by rw [e1]; exact hce) hcv hcl
      (fun t3 ht3 _ => hC E t3 hE (by rw [ht3, e1]; exact hz) (fun q hq => by rw [ht3, e1]; exact hk q hq)) (fun z hz => nomatch hz) hc hs T' rfl X2
    exact ⟨t2, st.trans a1, b1⟩
theorem px_sv {post : Prop} {wc : va_W} (CF : CallFix p m c cc nL s args Ts own) (hM : vx_Met l y ws rm (PX D tys As wc) (vq_v post) (xk C2) mc1 ms1 (fun _ => False)) (cw : CallB R s args own index y bytes maxL ret ws rm mc1 ms1 n ∧ (Cond.static y).before args s = true)
    (hK : va_K D vwCl tys s) (hP : va_P D vwCl wc s.heap) (hX : XS s) (hZ : XZ (fun _ => False) s s.heap)
    (hn : As.length = n) (hl : ls.size = nL) (hst : st0 = As.reverse ++ rest) (hW : (rest.map fun v => v.category).sum ≤ 8) (hdg : decode cc pc = .ok (.invokestatic index, 3)) (hf : cells + mc1 ≤ R.cells ∧ slots + ms1 ≤ R.slots)
    (hlocks : meth.locks = false) (hT : ∀ x ∈ c.exceptionTable.toList, False) (hC : ∀ (E : String) (t : State), C2 E → s.heap.size ≤ t.heap.size → (∀ q : Nat, q < s.heap.size → t.heap[q]? = s.heap[q]?) → XC E s t) (hc : cells + mc1 ≤ mc) (hs : slots + ms1 ≤ ms)
    (kk : post → W p l e R s m args below meth c s.heap [] (cells + mc1) (slots + ms1) (vx_MQ below Qc XC args s mc ms free) (F0 m (pc + 3) ls rest)) : W p l e R s m args below meth c s.heap [] cells slots (vx_MQ below Qc XC args s mc ms free) (F0 m pc ls st0) := by
  refine xo_go (post := post) (vx_runS CF hM cw ⟨px_blind, fun U hU hW => ⟨rfl, by rw [hU]; exact hP, va_K.moved hW.alike hK, XS.warm hW hX, by rw [hU]; exact XZ.moved hW.alike hZ⟩⟩ rfl hn hl hst (lv_room hW) hdg hf) hlocks hT hC hc hs (fun v st₀ t hq => ?_)
  obtain ⟨hv, hp, hh⟩ := hq
  cases hv
  exact ⟨hh, kk hp⟩
theorem px_vv {post : Prop} {wc : va_W} (CF : CallFix p m c cc nL s args Ts own) (hM : vx_Met l y ws rm (PX D tys (.ref b :: As) wc) (vq_v post) (xk C2) mc1 ms1 (fun _ => False)) (cw : CallW R s args own C0 index y bytes maxL ret ws rm mc1 ms1 n)
    (hK : va_K D vwCl tys s) (hP : va_P D vwCl wc s.heap) (hX : XS s) (hZ : XZ (fun _ => False) s s.heap) {ci : Nat} {fs : List Value} {q : vw_C} (hc0 : vwCl[ci]? = some q) (hq : q.1 = C0) (he : wc[0]? = some (b, .inr (ci, fs)))
    (hn : As.length = n) (hl : ls.size = nL) (hst : st0 = As.reverse ++ .ref b :: rest) (hW : (rest.map fun v => v.category).sum ≤ 8) (hdg : decode cc pc = .ok (.invokevirtual index, 3)) (hf : cells + mc1 ≤ R.cells ∧ slots + ms1 ≤ R.slots)
    (hlocks : meth.locks = false) (hT : ∀ x ∈ c.exceptionTable.toList, False) (hC : ∀ (E : String) (t : State), C2 E → s.heap.size ≤ t.heap.size → (∀ q : Nat, q < s.heap.size → t.heap[q]? = s.heap[q]?) → XC E s t) (hc : cells + mc1 ≤ mc) (hs : slots + ms1 ≤ ms)
    (kk : post → W p l e R s m args below meth c s.heap [] (cells + mc1) (slots + ms1) (vx_MQ below Qc XC args s mc ms free) (F0 m (pc + 3) ls rest)) : W p l e R s m args below meth c s.heap [] cells slots (vx_MQ below Qc XC args s mc ms free) (F0 m pc ls st0) := by
  refine xo_go (post := post) (vx_runV CF hM cw ⟨px_blind, by rw [← hq]; exact va_recv hK hP hc0 he, fun U hU hW => ⟨rfl, by rw [hU]; exact hP, va_K.moved hW.alike hK, XS.warm hW hX, by rw [hU]; exact XZ.moved hW.alike hZ⟩⟩ rfl hn hl hst (lv_room hW) hdg hf) hlocks hT hC hc hs (fun v st₀ t hq => ?_)
  obtain ⟨hv, hp, hh⟩ := hq
  cases hv
  exact ⟨hh, kk hp⟩
end XT
set_option maxRecDepth 20000 in
theorem xb_IAE : ∀ w ∈ (vx_atS RX1 27 IAE xs_nm).filter (fun w => !goodWord w), w ∈ xs_w := by decide +kernel
set_option maxRecDepth 20000 in
theorem xg_IAE : ∀ w ∈ Cond.classLink RX1 23 IAE :: Cond.initialized IAE :: vx_atS RX1 27 IAE xs_nm, vx_ot w = true := by decide +kernel
set_option maxRecDepth 20000 in
theorem xb_ISE : ∀ w ∈ (vx_atS RX1 38 ISE xs_nm).filter (fun w => !goodWord w), w ∈ xs_w := by decide +kernel
set_option maxRecDepth 20000 in
theorem xg_ISE : ∀ w ∈ Cond.classLink RX1 34 ISE :: Cond.initialized ISE :: vx_atS RX1 38 ISE xs_nm, vx_ot w = true := by decide +kernel
set_option maxRecDepth 20000 in
theorem xb_IOB : ∀ w ∈ (vx_atS RX1 150 IOB xs_nm).filter (fun w => !goodWord w), w ∈ xs_w := by decide +kernel
set_option maxRecDepth 20000 in
theorem xg_IOB : ∀ w ∈ Cond.classLink RX1 146 IOB :: Cond.initialized IOB :: vx_atS RX1 150 IOB xs_nm, vx_ot w = true := by decide +kernel
end
section
/-! pure words, on: ranges of arguments, hanging anew, what would be -/
def rg (a b : Nat) (x : Int32) : Prop := ∃ v : Nat, a ≤ v ∧ v ≤ b ∧ x = nI v
theorem rg_lo {a b : Nat} {x : Int32} (hb : b < 2 ^ 31) (h : x < nI a) : ¬ rg a b x := by
  rintro ⟨v, h1, h2, rfl⟩
  have := (nI_ltI (by omega) (by omega)).mp h
  omega
theorem rg_lo0 {a b : Nat} {x : Int32} (hb : b < 2 ^ 31) (h : x < 0) : ¬ rg a b x := by
  rintro ⟨v, h1, h2, rfl⟩
  exact nI_pos (by omega) h
theorem rg_hi {a b : Nat} {x : Int32} (hb : b < 2 ^ 31) (h : ¬ x ≤ nI b) : ¬ rg a b x := by
  rintro ⟨v, h1, h2, rfl⟩
  exact h ((nI_leI (by omega) (by omega)).mpr h2)
theorem rg_in0 {b : Nat} {x : Int32} (hb : b < 2 ^ 31) (h1 : ¬ x < 0) (h2 : x ≤ nI b) : rg 0 b x := by
  obtain ⟨j, hj, e⟩ := nI_of2 (n := b) (nI_toInt hb) h1 h2
  exact ⟨j, Nat.zero_le j, hj, e⟩
theorem rg_in {a b : Nat} {x : Int32} (hb : b < 2 ^ 31) (hab : a ≤ b) (h1 : ¬ x < nI a) (h2 : x ≤ nI b) : rg a b x := by
  have h0 : ¬ x < 0 := by
    intro h
    refine h1 ?_
    have e1 := nI_toInt (show a < 2 ^ 31 by omega)
    rw [Int32.lt_iff_toInt_lt] at h ⊢
    rw [e1]
    have : (0 : Int32).toInt = 0 := rfl
    omega
  obtain ⟨j, hj, e⟩ := nI_of2 (n := b) (nI_toInt hb) h0 h2
  refine ⟨j, ?_, hj, e⟩
  by_cases h : a ≤ j
  · exact h
  · exact absurd (by rw [e]; exact (nI_ltI (by omega) (by omega)).mpr (by omega)) h1
theorem rg_lt {a b c : Nat} {x : Int32} (hb : b < 2 ^ 31) (h : ¬ x < nI c) (hc : c = b + 1) (h2 : c < 2 ^ 31) : ¬ rg a b x := by
  rintro ⟨v, h1, h3, rfl⟩
  exact h ((nI_ltI (by omega) (by omega)).mpr (by omega))
theorem rg_inlt {b c : Nat} {x : Int32} (hc : c = b + 1) (h3 : c < 2 ^ 31) (h1 : ¬ x < 0) (h2 : x < nI c) : rg 0 b x := by
  obtain ⟨j, hj, e⟩ := nI_of h1
  rw [e] at h2
  have := (nI_ltI hj h3).mp h2
  exact ⟨j, Nat.zero_le j, by omega, e⟩
/-- a hook that there is -/
def rh (n : Nat) (x : Int32) : Prop := ∃ k : Nat, k < n ∧ x = nI k
theorem rh_lo {n : Nat} {x : Int32} (hn : n ≤ 40) (h : x < 0) : ¬ rh n x := by
  rintro ⟨v, h1, rfl⟩
  exact nI_pos (by omega) h
theorem rh_hi {n : Nat} {x : Int32} (hn : n ≤ 40) (h : ¬ x < nI n) : ¬ rh n x := by
  rintro ⟨v, h1, rfl⟩
  exact h ((nI_ltI (by omega) (by omega)).mpr h1)
theorem rh_in {n : Nat} {x : Int32} (hn : n ≤ 40) (h1 : ¬ x < 0) (h2 : x < nI n) : rh n x := by
  obtain ⟨j, hj, e⟩ := nI_of h1
  rw [e] at h2
  exact ⟨j, (nI_ltI hj (by omega)).mp h2, e⟩
theorem cn_id {x : Int32} (h : 0 ≤ x) : cn x = x := if_pos h
theorem cn_ge {x : Int32} (h : ¬ cn x = -1) : 0 ≤ x := by
  by_cases h0 : 0 ≤ x
  · exact h0
  · exact absurd (if_neg h0) h
theorem cn_lt {x : Int32} (h : cn x = -1) : ¬ 0 ≤ x := by
  intro h0
  rw [cn_id h0] at h
  rw [h] at h0
  exact absurd h0 (by decide)
theorem cn_hd {n : Nat} {f : Nat → Int32} {k : Nat} (h : k < n) : cn (hd n f k) = cn (f k) := by rw [hd_in h]
/-- hanging anew: hooks N, way w; c coats' hooks from i on; the new hooks T, their weights U, the looks so far -/
def hg (N w : Nat) (f g : Nat → Int32) : Nat → Nat → (Nat → Int32) → (Nat → Int32) → Nat → Option ((Nat → Int32) × (Nat → Int32) × Nat)
  | 0, _, T, U, s => some (T, U, s)
  | q + 1, i, T, U, s => if 0 ≤ f i then
      (if T (la N w T (f i).toNatClampNeg) = -1 then hg N w f g q (i + 1) (upd T (la N w T (f i).toNatClampNeg) (f i)) (upd U (la N w T (f i).toNatClampNeg) (g i)) (s + lk N w T (f i).toNatClampNeg) else none)
    else hg N w f g q (i + 1) T U s
def HG (n : Nat) (f g : Nat → Int32) (N w : Nat) : Option ((Nat → Int32) × (Nat → Int32) × Nat) := hg N w f g n 0 (fun _ => -1) (fun _ => nI 0) 0
theorem hg_y {N w : Nat} {f g : Nat → Int32} {q i x s : Nat} {T U : Nat → Int32} {V : Option ((Nat → Int32) × (Nat → Int32) × Nat)} (h0 : 0 ≤ f i) (ex : f i = nI x) (ez : (f i).toNatClampNeg = x) (hf : T (la N w T x) = -1) (h : hg N w f g (q + 1) i T U s = V) : hg N w f g q (i + 1) (upd T (la N w T x) (nI x)) (upd U (la N w T x) (g i)) (s + lk N w T x) = V := by
  rw [hg, if_pos h0, ez, if_pos hf, ex] at h
  exact h
theorem hg_no {N w : Nat} {f g : Nat → Int32} {q i x s : Nat} {T U : Nat → Int32} {V : Option ((Nat → Int32) × (Nat → Int32) × Nat)} (h0 : 0 ≤ f i) (ez : (f i).toNatClampNeg = x) (hf : ¬ T (la N w T x) = -1) (h : hg N w f g (q + 1) i T U s = V) : V = none := by
  rw [hg, if_pos h0, ez, if_neg hf] at h
  exact h.symm
theorem hg_n {N w : Nat} {f g : Nat → Int32} {q i s : Nat} {T U : Nat → Int32} {V : Option ((Nat → Int32) × (Nat → Int32) × Nat)} (h0 : ¬ 0 ≤ f i) (h : hg N w f g (q + 1) i T U s = V) : hg N w f g q (i + 1) T U s = V := by
  rw [hg, if_neg h0] at h
  exact h
/-- no tickets -/
def nt (N : Nat) (T : Nat → Int32) : Prop := ∀ k, k < N → T k ≠ -2
theorem nt_tk {N w : Nat} {T : Nat → Int32} (hN : 0 < N) (h : nt N T) (x : Nat) : ∀ k, tk N w T x k = -1
  | 0 => rfl
  | k + 1 => by rw [tk, if_neg (fun z => h _ (at_lt hN w x k) z.2)]; exact nt_tk hN h x k
theorem nt_op {N w : Nat} {T : Nat → Int32} (hN : 0 < N) (h : nt N T) (x : Nat) : op N w T x = fr N w T x := by
  unfold op
  rw [if_pos (nt_tk hN h x _)]
theorem la_lt {n : Nat} (hn : 0 < n) (w : Nat) (f : Nat → Int32) (x : Nat) : la n w f x < n := at_lt hn w x _
theorem nt_free {N w : Nat} {T : Nat → Int32} {x : Nat} (hN : 0 < N) (h : nt N T) (hop : ¬ op N w T x = -1) : T (la N w T x) = -1 ∧ op N w T x = nI (la N w T x) := by
  rw [nt_op hN h] at hop ⊢
  unfold fr at hop ⊢
  by_cases e : T (la N w T x) = -1
  · rw [if_pos e]; exact ⟨e, rfl⟩
  · rw [if_neg e] at hop; exact absurd rfl hop
theorem nt_full {N w : Nat} {T : Nat → Int32} {x : Nat} (hN : 0 < N) (hN40 : N ≤ 40) (h : nt N T) (hop : op N w T x = -1) : ¬ T (la N w T x) = -1 := by
  rw [nt_op hN h] at hop
  unfold fr at hop
  intro e
  rw [if_pos e] at hop
  exact ne_m1 (by have := la_lt hN w T x; omega) hop
theorem upd_same {F : Nat → Int32} {k : Nat} {v : Int32} : upd F k v k = v := by unfold upd; exact if_pos rfl
theorem upd_ne {F : Nat → Int32} {k j : Nat} {v : Int32} (h : j ≠ k) : upd F k v j = F j := by unfold upd; exact if_neg h
theorem nt_put {N p : Nat} {T : Nat → Int32} {x : Nat} (h : nt N T) (hx : x ≤ 9999) : nt N (upd T p (nI x)) := by
  intro k hk
  by_cases e : k = p
  · rw [e, upd_same]; exact ne_m2 (by omega)
  · rw [upd_ne e]; exact h k hk
theorem Ok.wt {n : Nat} {f g : Nat → Int32} (h : Ok n f g) {k : Nat} (hk : k < n) (h0 : 0 ≤ f k) : ∃ y : Nat, 1 ≤ y ∧ y ≤ 99 ∧ g k = nI y := by
  rcases h k hk with ⟨h1, -⟩ | ⟨h1, -⟩ | ⟨x, y, hx, h1, h2, h3, h4⟩
  · rw [h1] at h0; exact absurd h0 (by decide)
  · rw [h1] at h0; exact absurd h0 (by decide)
  · exact ⟨y, h2, h3, h4⟩
theorem Ok.put {n : Nat} {f g : Nat → Int32} (h : Ok n f g) {p x y : Nat} (hx : x ≤ 9999) (h1 : 1 ≤ y) (h2 : y ≤ 99) {v : Int32} (hv : v = nI y) : Ok n (upd f p (nI x)) (upd g p v) := by
  intro k hk
  by_cases e : k = p
  · rw [e, upd_same, upd_same]; exact Or.inr (Or.inr ⟨x, y, hx, rfl, h1, h2, hv⟩)
  · rw [upd_ne e, upd_ne e]; exact h k hk
theorem RS.put {n w : Nat} {F G f g : Nat → Int32} (S : RS n w F G f g) {p x y : Nat} (hx : x ≤ 9999) (h1 : 1 ≤ y) (h2 : y ≤ 99) {v : Int32} (hv : v = nI y) : RS n w (upd F p (nI x)) (upd G p v) (upd f p (nI x)) (upd g p v) := by
  obtain ⟨a1, a2, a3, hF, hG, hO⟩ := S
  exact ⟨a1, a2, a3, ag_up hF, ag_up hG, hO.put hx h1 h2 hv⟩
theorem RS.tick {n w : Nat} {F G f g : Nat → Int32} (S : RS n w F G f g) (p : Nat) : RS n w (upd F p (-2)) (upd G p (nI 0)) (upd f p (-2)) (upd g p (nI 0)) := by
  obtain ⟨a1, a2, a3, hF, hG, hO⟩ := S
  refine ⟨a1, a2, a3, ag_up hF, ag_up hG, fun k hk => ?_⟩
  by_cases e : k = p
  · rw [e, upd_same, upd_same]; exact Or.inr (Or.inl ⟨rfl, rfl⟩)
  · rw [upd_ne e, upd_ne e]; exact hO k hk
/-- all hooks free -/
theorem RS.clear {N w : Nat} {F G : Nat → Int32} (h3 : 3 ≤ N) (h40 : N ≤ 40) (hw : w ≤ 2) (hF : ∀ k, k < 40 → F k = -1) (hG : ∀ k, k < 40 → G k = nI 0) : RS N w F G (fun _ => -1) (fun _ => nI 0) :=
  ⟨h3, h40, hw, fun k hk => hF k (by omega), fun k hk => hG k (by omega), fun k hk => Or.inl ⟨rfl, rfl⟩⟩
/-- the looks if all were hung anew; -1 if there is no place -/
def LW (n : Nat) (f g : Nat → Int32) (N w : Nat) : Int32 := match HG n f g N w with
  | some z => nI z.2.2
  | none => -1
def bst (n : Nat) (f g : Nat → Int32) : Int32 × Int32 := fo (fun (a : Int32 × Int32) i => if 0 ≤ LW n f g n i ∧ (a.1 = -1 ∨ LW n f g n i < a.2) then (nI i, LW n f g n i) else a) 3 0 (-1, nI 0)
def hwS (n w : Nat) (f g : Nat → Int32) (v : Nat) (i : Nat) : Bool := decide (0 ≤ LW n f g i w ∧ LW n f g i w ≤ nI v)
def fh (n w : Nat) (f g : Nat → Int32) (v : Nat) : Int32 := if fs (hwS n w f g v) 38 3 < 41 then nI (fs (hwS n w f g v) 38 3) else -1
def cm (n : Nat) (f : Nat → Int32) (N : Nat) (T : Nat → Int32) : Nat := fo (fun a i => if ¬ cn (T i) = -1 ∧ ¬ cn (hd n f i) = cn (T i) then a + 1 else a) N 0 0
end
section
/-! CoatHooks: methods that read -/
/-- a theatre's cells -/
abbrev clw (cI : ClassId) (o r t a1 a2 b1 b2 n w : Nat) (F G : Nat → Int32) (n2 w2 : Nat) (F2 G2 : Nat → Int32) : va_W := [(o, .inr (1, [.ref r, .ref t])), (r, .inr (0, [.ref a1, .ref a2, .int (nI n), .int (nI w)])), (a1, .inl (cI, 40, .inl F)), (a2, .inl (cI, 40, .inl G)), (t, .inr (0, [.ref b1, .ref b2, .int (nI n2), .int (nI w2)])), (b1, .inl (cI, 40, .inl F2)), (b2, .inl (cI, 40, .inl G2))]
theorem k_X1_hooks : yX1_hooks.cls = RX1 ∧ yX1_hooks.cls ≠ "java/lang/invoke/MethodHandle" ∧ yX1_hooks.cls ≠ "java/lang/invoke/VarHandle" ∧ (parseMethodDescriptor yX1_hooks.desc).map (fun d => d.parameters.length) = some 0 := by decide +kernel
set_option maxHeartbeats 4000000 in
set_option maxRecDepth 100000 in
theorem m_X1_hooks (l : Launch) (D : va_G) (cI : ClassId) (o r t a1 a2 b1 b2 : Nat) {n w : Nat} {F G f g : Nat → Int32} (S : RS n w F G f g) (n2 w2 : Nat) (F2 G2 : Nat → Int32) : Met l yX1_hooks wsX1_hooks ({ frames := 1, cells := 0, slots := 0, locals := 20 } : Room) (PR D [(cI, .int)] [.ref o] (clw cI o r t a1 a2 b1 b2 n w F G n2 w2 F2 G2)) (vp_Si (fun r => r = nI n)) 0 0 (fun _ => False) := by
  obtain ⟨hn3, hn, hw2, hF, hG, hO⟩ := id S
  refine bd_p (cc := cX1_hooks) (maxL := 1) (ret := (some .int)) (by decide) rfl (Nat.le_of_ble_eq_true rfl) ?_
  intro p e s m args below meth c ls CF hr hlocks hK hP hl
  obtain ⟨hx, hb, hml, hown, hts⟩ := id CF
  have hl : lv_has ls 1 [(0, .ref o)] := hl
  have hP : va_P D vwCl [(o, .inr (1, [.ref r, .ref t])), (r, .inr (0, [.ref a1, .ref a2, .int (nI n), .int (nI w)])), (a1, .inl (cI, 40, .inl F)), (a2, .inl (cI, 40, .inl G)), (t, .inr (0, [.ref b1, .ref b2, .int (nI n2), .int (nI w2)])), (b1, .inl (cI, 40, .inl F2)), (b2, .inl (cI, 40, .inl G2))] s.heap := hP
  refine lv_aload_n hx hb dX1_hooks_0 rfl (lv_at hl 0 rfl) ?_
  refine va_get (D := D) (ci := 1) (v := .ref r) (C := RX1) (T := TX1) (N := 2) hx hb hts (fun _ h => (List.mem_cons_of_mem _ (List.mem_append_left _ (List.mem_append_right _ h)))) hown hK hP 0 rfl rfl 0 (by decide) (hts _ (List.mem_of_getElem? (i := 1) rfl)) (fun _ h9 => h9) rfl dX1_hooks_1 ?_
  refine pv_i CF (m_X0_hookCount l D cI r a1 a2 S ) (cwV 0 hts gX1_hooks_X0_hookCount rfl rfl rfl k_X0_hookCount ⟨Nat.le_of_ble_eq_true rfl, Nat.le_of_ble_eq_true rfl⟩) hK (hP.sub [1, 2, 3] rfl) rfl rfl rfl rfl hl.1 rfl (Nat.le_of_ble_eq_true rfl) dX1_hooks_4 ⟨Nat.le_of_ble_eq_true rfl, Nat.le_of_ble_eq_true rfl⟩ ?_
  exact en_i hx hb hr hlocks rfl dX1_hooks_7
theorem k_X1_way : yX1_way.cls = RX1 ∧ yX1_way.cls ≠ "java/lang/invoke/MethodHandle" ∧ yX1_way.cls ≠ "java/lang/invoke/VarHandle" ∧ (parseMethodDescriptor yX1_way.desc).map (fun d => d.parameters.length) = some 0 := by decide +kernel
set_option maxHeartbeats 4000000 in
set_option maxRecDepth 100000 in
theorem m_X1_way (l : Launch) (D : va_G) (cI : ClassId) (o r t a1 a2 b1 b2 : Nat) {n w : Nat} {F G f g : Nat → Int32} (S : RS n w F G f g) (n2 w2 : Nat) (F2 G2 : Nat → Int32) : Met l yX1_way wsX1_way ({ frames := 1, cells := 0, slots := 0, locals := 20 } : Room) (PR D [(cI, .int)] [.ref o] (clw cI o r t a1 a2 b1 b2 n w F G n2 w2 F2 G2)) (vp_Si (fun r => r = nI w)) 0 0 (fun _ => False) := by
  obtain ⟨hn3, hn, hw2, hF, hG, hO⟩ := id S
  refine bd_p (cc := cX1_way) (maxL := 1) (ret := (some .int)) (by decide) rfl (Nat.le_of_ble_eq_true rfl) ?_
  intro p e s m args below meth c ls CF hr hlocks hK hP hl
  obtain ⟨hx, hb, hml, hown, hts⟩ := id CF
  have hl : lv_has ls 1 [(0, .ref o)] := hl
  have hP : va_P D vwCl [(o, .inr (1, [.ref r, .ref t])), (r, .inr (0, [.ref a1, .ref a2, .int (nI n), .int (nI w)])), (a1, .inl (cI, 40, .inl F)), (a2, .inl (cI, 40, .inl G)), (t, .inr (0, [.ref b1, .ref b2, .int (nI n2), .int (nI w2)])), (b1, .inl (cI, 40, .inl F2)), (b2, .inl (cI, 40, .inl G2))] s.heap := hP
  refine lv_aload_n hx hb dX1_way_0 rfl (lv_at hl 0 rfl) ?_
  refine va_get (D := D) (ci := 1) (v := .ref r) (C := RX1) (T := TX1) (N := 2) hx hb hts (fun _ h => (List.mem_cons_of_mem _ (List.mem_append_left _ (List.mem_append_right _ h)))) hown hK hP 0 rfl rfl 0 (by decide) (hts _ (List.mem_of_getElem? (i := 1) rfl)) (fun _ h9 => h9) rfl dX1_way_1 ?_
  refine pv_i CF (m_X0_usherWay l D cI r a1 a2 S ) (cwV 0 hts gX1_way_X0_usherWay rfl rfl rfl k_X0_usherWay ⟨Nat.le_of_ble_eq_true rfl, Nat.le_of_ble_eq_true rfl⟩) hK (hP.sub [1, 2, 3] rfl) rfl rfl rfl rfl hl.1 rfl (Nat.le_of_ble_eq_true rfl) dX1_way_4 ⟨Nat.le_of_ble_eq_true rfl, Nat.le_of_ble_eq_true rfl⟩ ?_
  exact en_i hx hb hr hlocks rfl dX1_way_7
theorem k_X1_coats : yX1_coats.cls = RX1 ∧ yX1_coats.cls ≠ "java/lang/invoke/MethodHandle" ∧ yX1_coats.cls ≠ "java/lang/invoke/VarHandle" ∧ (parseMethodDescriptor yX1_coats.desc).map (fun d => d.parameters.length) = some 0 := by decide +kernel
set_option maxHeartbeats 4000000 in
set_option maxRecDepth 100000 in
theorem m_X1_coats (l : Launch) (D : va_G) (cI : ClassId) (o r t a1 a2 b1 b2 : Nat) {n w : Nat} {F G f g : Nat → Int32} (S : RS n w F G f g) (n2 w2 : Nat) (F2 G2 : Nat → Int32) : Met l yX1_coats wsX1_coats ({ frames := 3, cells := 0, slots := 0, locals := 66 } : Room) (PR D [(cI, .int)] [.ref o] (clw cI o r t a1 a2 b1 b2 n w F G n2 w2 F2 G2)) (vp_Si (fun r => r = nI (ct n f (nI 1)))) 0 0 (fun _ => False) := by
  obtain ⟨hn3, hn, hw2, hF, hG, hO⟩ := id S
  refine bd_p (cc := cX1_coats) (maxL := 1) (ret := (some .int)) (by decide) rfl (Nat.le_of_ble_eq_true rfl) ?_
  intro p e s m args below meth c ls CF hr hlocks hK hP hl
  obtain ⟨hx, hb, hml, hown, hts⟩ := id CF
  have hl : lv_has ls 1 [(0, .ref o)] := hl
  have hP : va_P D vwCl [(o, .inr (1, [.ref r, .ref t])), (r, .inr (0, [.ref a1, .ref a2, .int (nI n), .int (nI w)])), (a1, .inl (cI, 40, .inl F)), (a2, .inl (cI, 40, .inl G)), (t, .inr (0, [.ref b1, .ref b2, .int (nI n2), .int (nI w2)])), (b1, .inl (cI, 40, .inl F2)), (b2, .inl (cI, 40, .inl G2))] s.heap := hP
  refine lv_aload_n hx hb dX1_coats_0 rfl (lv_at hl 0 rfl) ?_
  refine va_get (D := D) (ci := 1) (v := .ref r) (C := RX1) (T := TX1) (N := 2) hx hb hts (fun _ h => (List.mem_cons_of_mem _ (List.mem_append_left _ (List.mem_append_right _ h)))) hown hK hP 0 rfl rfl 0 (by decide) (hts _ (List.mem_of_getElem? (i := 1) rfl)) (fun _ h9 => h9) rfl dX1_coats_1 ?_
  refine lv_iconst (v := nI 1) hx hb dX1_coats_4 (by decide) ?_
  refine pv_i CF (m_X0_countInState l D cI r a1 a2 S (nI 1)) (cwV 1 hts gX1_coats_X0_countInState rfl rfl rfl k_X0_countInState ⟨Nat.le_of_ble_eq_true rfl, Nat.le_of_ble_eq_true rfl⟩) hK (hP.sub [1, 2, 3] rfl) rfl rfl rfl rfl hl.1 rfl (Nat.le_of_ble_eq_true rfl) dX1_coats_5 ⟨Nat.le_of_ble_eq_true rfl, Nat.le_of_ble_eq_true rfl⟩ ?_
  exact en_i hx hb hr hlocks rfl dX1_coats_8
theorem k_X1_tickets : yX1_tickets.cls = RX1 ∧ yX1_tickets.cls ≠ "java/lang/invoke/MethodHandle" ∧ yX1_tickets.cls ≠ "java/lang/invoke/VarHandle" ∧ (parseMethodDescriptor yX1_tickets.desc).map (fun d => d.parameters.length) = some 0 := by decide +kernel
set_option maxHeartbeats 4000000 in
set_option maxRecDepth 100000 in
theorem m_X1_tickets (l : Launch) (D : va_G) (cI : ClassId) (o r t a1 a2 b1 b2 : Nat) {n w : Nat} {F G f g : Nat → Int32} (S : RS n w F G f g) (n2 w2 : Nat) (F2 G2 : Nat → Int32) : Met l yX1_tickets wsX1_tickets ({ frames := 3, cells := 0, slots := 0, locals := 66 } : Room) (PR D [(cI, .int)] [.ref o] (clw cI o r t a1 a2 b1 b2 n w F G n2 w2 F2 G2)) (vp_Si (fun r => r = nI (ct n f (nI 2)))) 0 0 (fun _ => False) := by
  obtain ⟨hn3, hn, hw2, hF, hG, hO⟩ := id S
  refine bd_p (cc := cX1_tickets) (maxL := 1) (ret := (some .int)) (by decide) rfl (Nat.le_of_ble_eq_true rfl) ?_
  intro p e s m args below meth c ls CF hr hlocks hK hP hl
  obtain ⟨hx, hb, hml, hown, hts⟩ := id CF
  have hl : lv_has ls 1 [(0, .ref o)] := hl
  have hP : va_P D vwCl [(o, .inr (1, [.ref r, .ref t])), (r, .inr (0, [.ref a1, .ref a2, .int (nI n), .int (nI w)])), (a1, .inl (cI, 40, .inl F)), (a2, .inl (cI, 40, .inl G)), (t, .inr (0, [.ref b1, .ref b2, .int (nI n2), .int (nI w2)])), (b1, .inl (cI, 40, .inl F2)), (b2, .inl (cI, 40, .inl G2))] s.heap := hP
  refine lv_aload_n hx hb dX1_tickets_0 rfl (lv_at hl 0 rfl) ?_
  refine va_get (D := D) (ci := 1) (v := .ref r) (C := RX1) (T := TX1) (N := 2) hx hb hts (fun _ h => (List.mem_cons_of_mem _ (List.mem_append_left _ (List.mem_append_right _ h)))) hown hK hP 0 rfl rfl 0 (by decide) (hts _ (List.mem_of_getElem? (i := 1) rfl)) (fun _ h9 => h9) rfl dX1_tickets_1 ?_
  refine lv_iconst (v := nI 2) hx hb dX1_tickets_4 (by decide) ?_
  refine pv_i CF (m_X0_countInState l D cI r a1 a2 S (nI 2)) (cwV 1 hts gX1_tickets_X0_countInState rfl rfl rfl k_X0_countInState ⟨Nat.le_of_ble_eq_true rfl, Nat.le_of_ble_eq_true rfl⟩) hK (hP.sub [1, 2, 3] rfl) rfl rfl rfl rfl hl.1 rfl (Nat.le_of_ble_eq_true rfl) dX1_tickets_5 ⟨Nat.le_of_ble_eq_true rfl, Nat.le_of_ble_eq_true rfl⟩ ?_
  exact en_i hx hb hr hlocks rfl dX1_tickets_8
theorem k_X1_weight : yX1_weight.cls = RX1 ∧ yX1_weight.cls ≠ "java/lang/invoke/MethodHandle" ∧ yX1_weight.cls ≠ "java/lang/invoke/VarHandle" ∧ (parseMethodDescriptor yX1_weight.desc).map (fun d => d.parameters.length) = some 0 := by decide +kernel
set_option maxHeartbeats 4000000 in
set_option maxRecDepth 100000 in
theorem m_X1_weight (l : Launch) (D : va_G) (cI : ClassId) (o r t a1 a2 b1 b2 : Nat) {n w : Nat} {F G f g : Nat → Int32} (S : RS n w F G f g) (n2 w2 : Nat) (F2 G2 : Nat → Int32) : Met l yX1_weight wsX1_weight ({ frames := 2, cells := 0, slots := 0, locals := 43 } : Room) (PR D [(cI, .int)] [.ref o] (clw cI o r t a1 a2 b1 b2 n w F G n2 w2 F2 G2)) (vp_Si (fun r => r = wa n g)) 0 0 (fun _ => False) := by
  obtain ⟨hn3, hn, hw2, hF, hG, hO⟩ := id S
  refine bd_p (cc := cX1_weight) (maxL := 1) (ret := (some .int)) (by decide) rfl (Nat.le_of_ble_eq_true rfl) ?_
  intro p e s m args below meth c ls CF hr hlocks hK hP hl
  obtain ⟨hx, hb, hml, hown, hts⟩ := id CF
  have hl : lv_has ls 1 [(0, .ref o)] := hl
  have hP : va_P D vwCl [(o, .inr (1, [.ref r, .ref t])), (r, .inr (0, [.ref a1, .ref a2, .int (nI n), .int (nI w)])), (a1, .inl (cI, 40, .inl F)), (a2, .inl (cI, 40, .inl G)), (t, .inr (0, [.ref b1, .ref b2, .int (nI n2), .int (nI w2)])), (b1, .inl (cI, 40, .inl F2)), (b2, .inl (cI, 40, .inl G2))] s.heap := hP
  refine lv_aload_n hx hb dX1_weight_0 rfl (lv_at hl 0 rfl) ?_
  refine va_get (D := D) (ci := 1) (v := .ref r) (C := RX1) (T := TX1) (N := 2) hx hb hts (fun _ h => (List.mem_cons_of_mem _ (List.mem_append_left _ (List.mem_append_right _ h)))) hown hK hP 0 rfl rfl 0 (by decide) (hts _ (List.mem_of_getElem? (i := 1) rfl)) (fun _ h9 => h9) rfl dX1_weight_1 ?_
  refine pv_i CF (m_X0_weightOfAll l D cI r a1 a2 S ) (cwV 0 hts gX1_weight_X0_weightOfAll rfl rfl rfl k_X0_weightOfAll ⟨Nat.le_of_ble_eq_true rfl, Nat.le_of_ble_eq_true rfl⟩) hK (hP.sub [1, 2, 3] rfl) rfl rfl rfl rfl hl.1 rfl (Nat.le_of_ble_eq_true rfl) dX1_weight_4 ⟨Nat.le_of_ble_eq_true rfl, Nat.le_of_ble_eq_true rfl⟩ ?_
  exact en_i hx hb hr hlocks rfl dX1_weight_7
theorem k_X1_heaviestAt : yX1_heaviestAt.cls = RX1 ∧ yX1_heaviestAt.cls ≠ "java/lang/invoke/MethodHandle" ∧ yX1_heaviestAt.cls ≠ "java/lang/invoke/VarHandle" ∧ (parseMethodDescriptor yX1_heaviestAt.desc).map (fun d => d.parameters.length) = some 0 := by decide +kernel
set_option maxHeartbeats 4000000 in
set_option maxRecDepth 100000 in
theorem m_X1_heaviestAt (l : Launch) (D : va_G) (cI : ClassId) (o r t a1 a2 b1 b2 : Nat) {n w : Nat} {F G f g : Nat → Int32} (S : RS n w F G f g) (n2 w2 : Nat) (F2 G2 : Nat → Int32) : Met l yX1_heaviestAt wsX1_heaviestAt ({ frames := 2, cells := 0, slots := 0, locals := 44 } : Room) (PR D [(cI, .int)] [.ref o] (clw cI o r t a1 a2 b1 b2 n w F G n2 w2 F2 G2)) (vp_Si (fun r => r = (hv n g).1)) 0 0 (fun _ => False) := by
  obtain ⟨hn3, hn, hw2, hF, hG, hO⟩ := id S
  refine bd_p (cc := cX1_heaviestAt) (maxL := 1) (ret := (some .int)) (by decide) rfl (Nat.le_of_ble_eq_true rfl) ?_
  intro p e s m args below meth c ls CF hr hlocks hK hP hl
  obtain ⟨hx, hb, hml, hown, hts⟩ := id CF
  have hl : lv_has ls 1 [(0, .ref o)] := hl
  have hP : va_P D vwCl [(o, .inr (1, [.ref r, .ref t])), (r, .inr (0, [.ref a1, .ref a2, .int (nI n), .int (nI w)])), (a1, .inl (cI, 40, .inl F)), (a2, .inl (cI, 40, .inl G)), (t, .inr (0, [.ref b1, .ref b2, .int (nI n2), .int (nI w2)])), (b1, .inl (cI, 40, .inl F2)), (b2, .inl (cI, 40, .inl G2))] s.heap := hP
  refine lv_aload_n hx hb dX1_heaviestAt_0 rfl (lv_at hl 0 rfl) ?_
  refine va_get (D := D) (ci := 1) (v := .ref r) (C := RX1) (T := TX1) (N := 2) hx hb hts (fun _ h => (List.mem_cons_of_mem _ (List.mem_append_left _ (List.mem_append_right _ h)))) hown hK hP 0 rfl rfl 0 (by decide) (hts _ (List.mem_of_getElem? (i := 1) rfl)) (fun _ h9 => h9) rfl dX1_heaviestAt_1 ?_
  refine pv_i CF (m_X0_hookOfHeaviest l D cI r a1 a2 S ) (cwV 0 hts gX1_heaviestAt_X0_hookOfHeaviest rfl rfl rfl k_X0_hookOfHeaviest ⟨Nat.le_of_ble_eq_true rfl, Nat.le_of_ble_eq_true rfl⟩) hK (hP.sub [1, 2, 3] rfl) rfl rfl rfl rfl hl.1 rfl (Nat.le_of_ble_eq_true rfl) dX1_heaviestAt_4 ⟨Nat.le_of_ble_eq_true rfl, Nat.le_of_ble_eq_true rfl⟩ ?_
  exact en_i hx hb hr hlocks rfl dX1_heaviestAt_7
theorem k_X1_allLooks : yX1_allLooks.cls = RX1 ∧ yX1_allLooks.cls ≠ "java/lang/invoke/MethodHandle" ∧ yX1_allLooks.cls ≠ "java/lang/invoke/VarHandle" ∧ (parseMethodDescriptor yX1_allLooks.desc).map (fun d => d.parameters.length) = some 0 := by decide +kernel
set_option maxHeartbeats 4000000 in
set_option maxRecDepth 100000 in
theorem m_X1_allLooks (l : Launch) (D : va_G) (cI : ClassId) (o r t a1 a2 b1 b2 : Nat) {n w : Nat} {F G f g : Nat → Int32} (S : RS n w F G f g) (n2 w2 : Nat) (F2 G2 : Nat → Int32) : Met l yX1_allLooks wsX1_allLooks ({ frames := 3, cells := 0, slots := 0, locals := 69 } : Room) (PR D [(cI, .int)] [.ref o] (clw cI o r t a1 a2 b1 b2 n w F G n2 w2 F2 G2)) (vp_Si (fun r => r = nI (sm n w f))) 0 0 (fun _ => False) := by
  obtain ⟨hn3, hn, hw2, hF, hG, hO⟩ := id S
  refine bd_p (cc := cX1_allLooks) (maxL := 1) (ret := (some .int)) (by decide) rfl (Nat.le_of_ble_eq_true rfl) ?_
  intro p e s m args below meth c ls CF hr hlocks hK hP hl
  obtain ⟨hx, hb, hml, hown, hts⟩ := id CF
  have hl : lv_has ls 1 [(0, .ref o)] := hl
  have hP : va_P D vwCl [(o, .inr (1, [.ref r, .ref t])), (r, .inr (0, [.ref a1, .ref a2, .int (nI n), .int (nI w)])), (a1, .inl (cI, 40, .inl F)), (a2, .inl (cI, 40, .inl G)), (t, .inr (0, [.ref b1, .ref b2, .int (nI n2), .int (nI w2)])), (b1, .inl (cI, 40, .inl F2)), (b2, .inl (cI, 40, .inl G2))] s.heap := hP
  refine lv_aload_n hx hb dX1_allLooks_0 rfl (lv_at hl 0 rfl) ?_
  refine va_get (D := D) (ci := 1) (v := .ref r) (C := RX1) (T := TX1) (N := 2) hx hb hts (fun _ h => (List.mem_cons_of_mem _ (List.mem_append_left _ (List.mem_append_right _ h)))) hown hK hP 0 rfl rfl 0 (by decide) (hts _ (List.mem_of_getElem? (i := 1) rfl)) (fun _ h9 => h9) rfl dX1_allLooks_1 ?_
  refine pv_i CF (m_X0_looksForAll l D cI r a1 a2 S ) (cwV 0 hts gX1_allLooks_X0_looksForAll rfl rfl rfl k_X0_looksForAll ⟨Nat.le_of_ble_eq_true rfl, Nat.le_of_ble_eq_true rfl⟩) hK (hP.sub [1, 2, 3] rfl) rfl rfl rfl rfl hl.1 rfl (Nat.le_of_ble_eq_true rfl) dX1_allLooks_4 ⟨Nat.le_of_ble_eq_true rfl, Nat.le_of_ble_eq_true rfl⟩ ?_
  exact en_i hx hb hr hlocks rfl dX1_allLooks_7
theorem k_X1_farthest : yX1_farthest.cls = RX1 ∧ yX1_farthest.cls ≠ "java/lang/invoke/MethodHandle" ∧ yX1_farthest.cls ≠ "java/lang/invoke/VarHandle" ∧ (parseMethodDescriptor yX1_farthest.desc).map (fun d => d.parameters.length) = some 0 := by decide +kernel
set_option maxHeartbeats 4000000 in
set_option maxRecDepth 100000 in
theorem m_X1_farthest (l : Launch) (D : va_G) (cI : ClassId) (o r t a1 a2 b1 b2 : Nat) {n w : Nat} {F G f g : Nat → Int32} (S : RS n w F G f g) (n2 w2 : Nat) (F2 G2 : Nat → Int32) : Met l yX1_farthest wsX1_farthest ({ frames := 3, cells := 0, slots := 0, locals := 71 } : Room) (PR D [(cI, .int)] [.ref o] (clw cI o r t a1 a2 b1 b2 n w F G n2 w2 F2 G2)) (vp_Si (fun r => r = (fa n w f).1)) 0 0 (fun _ => False) := by
  obtain ⟨hn3, hn, hw2, hF, hG, hO⟩ := id S
  refine bd_p (cc := cX1_farthest) (maxL := 1) (ret := (some .int)) (by decide) rfl (Nat.le_of_ble_eq_true rfl) ?_
  intro p e s m args below meth c ls CF hr hlocks hK hP hl
  obtain ⟨hx, hb, hml, hown, hts⟩ := id CF
  have hl : lv_has ls 1 [(0, .ref o)] := hl
  have hP : va_P D vwCl [(o, .inr (1, [.ref r, .ref t])), (r, .inr (0, [.ref a1, .ref a2, .int (nI n), .int (nI w)])), (a1, .inl (cI, 40, .inl F)), (a2, .inl (cI, 40, .inl G)), (t, .inr (0, [.ref b1, .ref b2, .int (nI n2), .int (nI w2)])), (b1, .inl (cI, 40, .inl F2)), (b2, .inl (cI, 40, .inl G2))] s.heap := hP
  refine lv_aload_n hx hb dX1_farthest_0 rfl (lv_at hl 0 rfl) ?_
  refine va_get (D := D) (ci := 1) (v := .ref r) (C := RX1) (T := TX1) (N := 2) hx hb hts (fun _ h => (List.mem_cons_of_mem _ (List.mem_append_left _ (List.mem_append_right _ h)))) hown hK hP 0 rfl rfl 0 (by decide) (hts _ (List.mem_of_getElem? (i := 1) rfl)) (fun _ h9 => h9) rfl dX1_farthest_1 ?_
  refine pv_i CF (m_X0_coatWithMostLooks l D cI r a1 a2 S ) (cwV 0 hts gX1_farthest_X0_coatWithMostLooks rfl rfl rfl k_X0_coatWithMostLooks ⟨Nat.le_of_ble_eq_true rfl, Nat.le_of_ble_eq_true rfl⟩) hK (hP.sub [1, 2, 3] rfl) rfl rfl rfl rfl hl.1 rfl (Nat.le_of_ble_eq_true rfl) dX1_farthest_4 ⟨Nat.le_of_ble_eq_true rfl, Nat.le_of_ble_eq_true rfl⟩ ?_
  exact en_i hx hb hr hlocks rfl dX1_farthest_7
theorem k_X1_rows : yX1_rows.cls = RX1 ∧ yX1_rows.cls ≠ "java/lang/invoke/MethodHandle" ∧ yX1_rows.cls ≠ "java/lang/invoke/VarHandle" ∧ (parseMethodDescriptor yX1_rows.desc).map (fun d => d.parameters.length) = some 0 := by decide +kernel
set_option maxHeartbeats 4000000 in
set_option maxRecDepth 100000 in
theorem m_X1_rows (l : Launch) (D : va_G) (cI : ClassId) (o r t a1 a2 b1 b2 : Nat) {n w : Nat} {F G f g : Nat → Int32} (S : RS n w F G f g) (n2 w2 : Nat) (F2 G2 : Nat → Int32) : Met l yX1_rows wsX1_rows ({ frames := 2, cells := 0, slots := 0, locals := 44 } : Room) (PR D [(cI, .int)] [.ref o] (clw cI o r t a1 a2 b1 b2 n w F G n2 w2 F2 G2)) (vp_Si (fun r => r = nI (rc n f))) 0 0 (fun _ => False) := by
  obtain ⟨hn3, hn, hw2, hF, hG, hO⟩ := id S
  refine bd_p (cc := cX1_rows) (maxL := 1) (ret := (some .int)) (by decide) rfl (Nat.le_of_ble_eq_true rfl) ?_
  intro p e s m args below meth c ls CF hr hlocks hK hP hl
  obtain ⟨hx, hb, hml, hown, hts⟩ := id CF
  have hl : lv_has ls 1 [(0, .ref o)] := hl
  have hP : va_P D vwCl [(o, .inr (1, [.ref r, .ref t])), (r, .inr (0, [.ref a1, .ref a2, .int (nI n), .int (nI w)])), (a1, .inl (cI, 40, .inl F)), (a2, .inl (cI, 40, .inl G)), (t, .inr (0, [.ref b1, .ref b2, .int (nI n2), .int (nI w2)])), (b1, .inl (cI, 40, .inl F2)), (b2, .inl (cI, 40, .inl G2))] s.heap := hP
  refine lv_aload_n hx hb dX1_rows_0 rfl (lv_at hl 0 rfl) ?_
  refine va_get (D := D) (ci := 1) (v := .ref r) (C := RX1) (T := TX1) (N := 2) hx hb hts (fun _ h => (List.mem_cons_of_mem _ (List.mem_append_left _ (List.mem_append_right _ h)))) hown hK hP 0 rfl rfl 0 (by decide) (hts _ (List.mem_of_getElem? (i := 1) rfl)) (fun _ h9 => h9) rfl dX1_rows_1 ?_
  refine pv_i CF (m_X0_rowCount l D cI r a1 a2 S ) (cwV 0 hts gX1_rows_X0_rowCount rfl rfl rfl k_X0_rowCount ⟨Nat.le_of_ble_eq_true rfl, Nat.le_of_ble_eq_true rfl⟩) hK (hP.sub [1, 2, 3] rfl) rfl rfl rfl rfl hl.1 rfl (Nat.le_of_ble_eq_true rfl) dX1_rows_4 ⟨Nat.le_of_ble_eq_true rfl, Nat.le_of_ble_eq_true rfl⟩ ?_
  exact en_i hx hb hr hlocks rfl dX1_rows_7
theorem k_X1_longestRow : yX1_longestRow.cls = RX1 ∧ yX1_longestRow.cls ≠ "java/lang/invoke/MethodHandle" ∧ yX1_longestRow.cls ≠ "java/lang/invoke/VarHandle" ∧ (parseMethodDescriptor yX1_longestRow.desc).map (fun d => d.parameters.length) = some 0 := by decide +kernel
set_option maxHeartbeats 4000000 in
set_option maxRecDepth 100000 in
theorem m_X1_longestRow (l : Launch) (D : va_G) (cI : ClassId) (o r t a1 a2 b1 b2 : Nat) {n w : Nat} {F G f g : Nat → Int32} (S : RS n w F G f g) (n2 w2 : Nat) (F2 G2 : Nat → Int32) : Met l yX1_longestRow wsX1_longestRow ({ frames := 3, cells := 0, slots := 0, locals := 68 } : Room) (PR D [(cI, .int)] [.ref o] (clw cI o r t a1 a2 b1 b2 n w F G n2 w2 F2 G2)) (vp_Si (fun r => r = nI (lr n f))) 0 0 (fun _ => False) := by
  obtain ⟨hn3, hn, hw2, hF, hG, hO⟩ := id S
  refine bd_p (cc := cX1_longestRow) (maxL := 1) (ret := (some .int)) (by decide) rfl (Nat.le_of_ble_eq_true rfl) ?_
  intro p e s m args below meth c ls CF hr hlocks hK hP hl
  obtain ⟨hx, hb, hml, hown, hts⟩ := id CF
  have hl : lv_has ls 1 [(0, .ref o)] := hl
  have hP : va_P D vwCl [(o, .inr (1, [.ref r, .ref t])), (r, .inr (0, [.ref a1, .ref a2, .int (nI n), .int (nI w)])), (a1, .inl (cI, 40, .inl F)), (a2, .inl (cI, 40, .inl G)), (t, .inr (0, [.ref b1, .ref b2, .int (nI n2), .int (nI w2)])), (b1, .inl (cI, 40, .inl F2)), (b2, .inl (cI, 40, .inl G2))] s.heap := hP
  refine lv_aload_n hx hb dX1_longestRow_0 rfl (lv_at hl 0 rfl) ?_
  refine va_get (D := D) (ci := 1) (v := .ref r) (C := RX1) (T := TX1) (N := 2) hx hb hts (fun _ h => (List.mem_cons_of_mem _ (List.mem_append_left _ (List.mem_append_right _ h)))) hown hK hP 0 rfl rfl 0 (by decide) (hts _ (List.mem_of_getElem? (i := 1) rfl)) (fun _ h9 => h9) rfl dX1_longestRow_1 ?_
  refine pv_i CF (m_X0_longestRowLength l D cI r a1 a2 S ) (cwV 0 hts gX1_longestRow_X0_longestRowLength rfl rfl rfl k_X0_longestRowLength ⟨Nat.le_of_ble_eq_true rfl, Nat.le_of_ble_eq_true rfl⟩) hK (hP.sub [1, 2, 3] rfl) rfl rfl rfl rfl hl.1 rfl (Nat.le_of_ble_eq_true rfl) dX1_longestRow_4 ⟨Nat.le_of_ble_eq_true rfl, Nat.le_of_ble_eq_true rfl⟩ ?_
  exact en_i hx hb hr hlocks rfl dX1_longestRow_7
theorem k_X1_demandNumber : yX1_demandNumber.cls = RX1 ∧ yX1_demandNumber.cls ≠ "java/lang/invoke/MethodHandle" ∧ yX1_demandNumber.cls ≠ "java/lang/invoke/VarHandle" ∧ (parseMethodDescriptor yX1_demandNumber.desc).map (fun d => d.parameters.length) = some 1 := by decide +kernel
set_option maxHeartbeats 4000000 in
set_option maxRecDepth 100000 in
theorem m_X1_demandNumber (l : Launch) (hlt : l.stackTraces = false) (D : va_G) (cI : ClassId) (x : Int32) : vx_Met l yX1_demandNumber wsX1_demandNumber ({ frames := 6, cells := 1, slots := 6, locals := 90 } : Room) (PX D [(cI, .int)] [.int x] []) (vq_v (rg 0 9999 x)) (xk (fun E => E = IAE ∧ ¬ rg 0 9999 x)) 1 6 (fun _ => False) := by
  refine bd_x (cc := cX1_demandNumber) (maxL := 1) (ret := none) (by decide) rfl (Nat.le_of_ble_eq_true rfl) ?_
  intro p e s m args below meth c ls CF hr hlocks hT hK hP hX hZ hl
  obtain ⟨hx, hb, hml, hown, hts⟩ := id CF
  have hl : lv_has ls 1 [(0, .int x)] := hl
  have hP : va_P D vwCl [] s.heap := hP
  refine lv_iload_n hx hb dX1_demandNumber_0 rfl (lv_at hl 0 rfl) ?_
  refine lv_if_lt (tgt := 11) hx hb dX1_demandNumber_1 (by decide) (fun c1 => ?_) (fun c1 => ?_)
  · skip
    exact th_x (cls := IAE) (text := "the number is not 0 to 9999") (ik := 23) (is := 140) (ic := 27) hlt CF hX hZ va_S.rf (by decide +kernel) (List.mem_of_getElem? (i := 1) rfl) (List.mem_of_getElem? (i := 2) rfl) (List.mem_of_getElem? (i := 0) rfl) (fun _ h => (List.mem_cons_of_mem _ (List.mem_append_right _ h))) xb_IAE xg_IAE hl.1 dX1_demandNumber_11 dX1_demandNumber_14 dX1_demandNumber_15 dX1_demandNumber_17 dX1_demandNumber_20 hT ⟨Nat.le_of_ble_eq_true rfl, Nat.le_of_ble_eq_true rfl, Nat.le_of_ble_eq_true rfl, Nat.le_of_ble_eq_true rfl⟩ hlocks (fun t h1 h2 => ⟨⟨rfl, rg_lo0 (by decide) c1⟩, h1, h2⟩) (fun z hz => nomatch hz) (Nat.le_of_ble_eq_true rfl) (Nat.le_of_ble_eq_true rfl)
  · skip
    refine lv_iload_n hx hb dX1_demandNumber_4 rfl (lv_at hl 0 rfl) ?_
    refine lv_sipush (v := nI 9999) hx hb dX1_demandNumber_5 (by decide) ?_
    refine lv_icmp_le (tgt := 21) hx hb dX1_demandNumber_8 (by decide) (fun c8 => ?_) (fun c8 => ?_)
    · skip
      exact ex_v hx hb hr hlocks (Nat.le_of_ble_eq_true rfl) (Nat.le_of_ble_eq_true rfl) (rg_in0 (by decide) c1 c8) dX1_demandNumber_21
    · skip
      exact th_x (cls := IAE) (text := "the number is not 0 to 9999") (ik := 23) (is := 140) (ic := 27) hlt CF hX hZ va_S.rf (by decide +kernel) (List.mem_of_getElem? (i := 1) rfl) (List.mem_of_getElem? (i := 2) rfl) (List.mem_of_getElem? (i := 0) rfl) (fun _ h => (List.mem_cons_of_mem _ (List.mem_append_right _ h))) xb_IAE xg_IAE hl.1 dX1_demandNumber_11 dX1_demandNumber_14 dX1_demandNumber_15 dX1_demandNumber_17 dX1_demandNumber_20 hT ⟨Nat.le_of_ble_eq_true rfl, Nat.le_of_ble_eq_true rfl, Nat.le_of_ble_eq_true rfl, Nat.le_of_ble_eq_true rfl⟩ hlocks (fun t h1 h2 => ⟨⟨rfl, rg_hi (by decide) c8⟩, h1, h2⟩) (fun z hz => nomatch hz) (Nat.le_of_ble_eq_true rfl) (Nat.le_of_ble_eq_true rfl)
theorem k_X1_demandHooksAndWay : yX1_demandHooksAndWay.cls = RX1 ∧ yX1_demandHooksAndWay.cls ≠ "java/lang/invoke/MethodHandle" ∧ yX1_demandHooksAndWay.cls ≠ "java/lang/invoke/VarHandle" ∧ (parseMethodDescriptor yX1_demandHooksAndWay.desc).map (fun d => d.parameters.length) = some 2 := by decide +kernel
set_option maxHeartbeats 4000000 in
set_option maxRecDepth 100000 in
theorem m_X1_demandHooksAndWay (l : Launch) (hlt : l.stackTraces = false) (D : va_G) (cI : ClassId) (x y : Int32) : vx_Met l yX1_demandHooksAndWay wsX1_demandHooksAndWay ({ frames := 6, cells := 1, slots := 6, locals := 90 } : Room) (PX D [(cI, .int)] [.int x, .int y] []) (vq_v (rg 3 40 x ∧ rg 0 2 y)) (xk (fun E => E = IAE ∧ ¬ (rg 3 40 x ∧ rg 0 2 y))) 1 6 (fun _ => False) := by
  refine bd_x (cc := cX1_demandHooksAndWay) (maxL := 2) (ret := none) (by decide) rfl (Nat.le_of_ble_eq_true rfl) ?_
  intro p e s m args below meth c ls CF hr hlocks hT hK hP hX hZ hl
  obtain ⟨hx, hb, hml, hown, hts⟩ := id CF
  have hl : lv_has ls 2 [(0, .int x), (1, .int y)] := hl
  have hP : va_P D vwCl [] s.heap := hP
  refine lv_iload_n hx hb dX1_demandHooksAndWay_0 rfl (lv_at hl 0 rfl) ?_
  refine lv_iconst (v := nI 3) hx hb dX1_demandHooksAndWay_1 (by decide) ?_
  refine lv_icmp_lt (tgt := 11) hx hb dX1_demandHooksAndWay_2 (by decide) (fun c2 => ?_) (fun c2 => ?_)
  · skip
    exact th_x (cls := IAE) (text := "the hooks are not 3 to 40") (ik := 23) (is := 142) (ic := 27) hlt CF hX hZ va_S.rf (by decide +kernel) (List.mem_of_getElem? (i := 1) rfl) (List.mem_of_getElem? (i := 2) rfl) (List.mem_of_getElem? (i := 4) rfl) (fun _ h => (List.mem_cons_of_mem _ (List.mem_append_right _ h))) xb_IAE xg_IAE hl.1 dX1_demandHooksAndWay_11 dX1_demandHooksAndWay_14 dX1_demandHooksAndWay_15 dX1_demandHooksAndWay_17 dX1_demandHooksAndWay_20 hT ⟨Nat.le_of_ble_eq_true rfl, Nat.le_of_ble_eq_true rfl, Nat.le_of_ble_eq_true rfl, Nat.le_of_ble_eq_true rfl⟩ hlocks (fun t h1 h2 => ⟨⟨rfl, fun z => rg_lo (by decide) c2 z.1⟩, h1, h2⟩) (fun z hz => nomatch hz) (Nat.le_of_ble_eq_true rfl) (Nat.le_of_ble_eq_true rfl)
  · skip
    refine lv_iload_n hx hb dX1_demandHooksAndWay_5 rfl (lv_at hl 0 rfl) ?_
    refine lv_bipush (v := nI 40) hx hb dX1_demandHooksAndWay_6 (by decide) ?_
    refine lv_icmp_le (tgt := 21) hx hb dX1_demandHooksAndWay_8 (by decide) (fun c8 => ?_) (fun c8 => ?_)
    · skip
      refine lv_iload_n hx hb dX1_demandHooksAndWay_21 rfl (lv_at hl 1 rfl) ?_
      refine lv_if_lt (tgt := 30) hx hb dX1_demandHooksAndWay_22 (by decide) (fun c22 => ?_) (fun c22 => ?_)
      · skip
        exact th_x (cls := IAE) (text := "the way is not 0 to 2") (ik := 23) (is := 144) (ic := 27) hlt CF hX hZ va_S.rf (by decide +kernel) (List.mem_of_getElem? (i := 1) rfl) (List.mem_of_getElem? (i := 2) rfl) (List.mem_of_getElem? (i := 5) rfl) (fun _ h => (List.mem_cons_of_mem _ (List.mem_append_right _ h))) xb_IAE xg_IAE hl.1 dX1_demandHooksAndWay_30 dX1_demandHooksAndWay_33 dX1_demandHooksAndWay_34 dX1_demandHooksAndWay_36 dX1_demandHooksAndWay_39 hT ⟨Nat.le_of_ble_eq_true rfl, Nat.le_of_ble_eq_true rfl, Nat.le_of_ble_eq_true rfl, Nat.le_of_ble_eq_true rfl⟩ hlocks (fun t h1 h2 => ⟨⟨rfl, fun z => rg_lo0 (by decide) c22 z.2⟩, h1, h2⟩) (fun z hz => nomatch hz) (Nat.le_of_ble_eq_true rfl) (Nat.le_of_ble_eq_true rfl)
      · skip
        refine lv_iload_n hx hb dX1_demandHooksAndWay_25 rfl (lv_at hl 1 rfl) ?_
        refine lv_iconst (v := nI 2) hx hb dX1_demandHooksAndWay_26 (by decide) ?_
        refine lv_icmp_le (tgt := 40) hx hb dX1_demandHooksAndWay_27 (by decide) (fun c27 => ?_) (fun c27 => ?_)
        · skip
          exact ex_v hx hb hr hlocks (Nat.le_of_ble_eq_true rfl) (Nat.le_of_ble_eq_true rfl) (⟨rg_in (by decide) (by decide) c2 c8, rg_in0 (by decide) c22 c27⟩) dX1_demandHooksAndWay_40
        · skip
          exact th_x (cls := IAE) (text := "the way is not 0 to 2") (ik := 23) (is := 144) (ic := 27) hlt CF hX hZ va_S.rf (by decide +kernel) (List.mem_of_getElem? (i := 1) rfl) (List.mem_of_getElem? (i := 2) rfl) (List.mem_of_getElem? (i := 5) rfl) (fun _ h => (List.mem_cons_of_mem _ (List.mem_append_right _ h))) xb_IAE xg_IAE hl.1 dX1_demandHooksAndWay_30 dX1_demandHooksAndWay_33 dX1_demandHooksAndWay_34 dX1_demandHooksAndWay_36 dX1_demandHooksAndWay_39 hT ⟨Nat.le_of_ble_eq_true rfl, Nat.le_of_ble_eq_true rfl, Nat.le_of_ble_eq_true rfl, Nat.le_of_ble_eq_true rfl⟩ hlocks (fun t h1 h2 => ⟨⟨rfl, fun z => rg_hi (by decide) c27 z.2⟩, h1, h2⟩) (fun z hz => nomatch hz) (Nat.le_of_ble_eq_true rfl) (Nat.le_of_ble_eq_true rfl)
    · skip
      exact th_x (cls := IAE) (text := "the hooks are not 3 to 40") (ik := 23) (is := 142) (ic := 27) hlt CF hX hZ va_S.rf (by decide +kernel) (List.mem_of_getElem? (i := 1) rfl) (List.mem_of_getElem? (i := 2) rfl) (List.mem_of_getElem? (i := 4) rfl) (fun _ h => (List.mem_cons_of_mem _ (List.mem_append_right _ h))) xb_IAE xg_IAE hl.1 dX1_demandHooksAndWay_11 dX1_demandHooksAndWay_14 dX1_demandHooksAndWay_15 dX1_demandHooksAndWay_17 dX1_demandHooksAndWay_20 hT ⟨Nat.le_of_ble_eq_true rfl, Nat.le_of_ble_eq_true rfl, Nat.le_of_ble_eq_true rfl, Nat.le_of_ble_eq_true rfl⟩ hlocks (fun t h1 h2 => ⟨⟨rfl, fun z => rg_hi (by decide) c8 z.1⟩, h1, h2⟩) (fun z hz => nomatch hz) (Nat.le_of_ble_eq_true rfl) (Nat.le_of_ble_eq_true rfl)
theorem k_X1_demandHook : yX1_demandHook.cls = RX1 ∧ yX1_demandHook.cls ≠ "java/lang/invoke/MethodHandle" ∧ yX1_demandHook.cls ≠ "java/lang/invoke/VarHandle" ∧ (parseMethodDescriptor yX1_demandHook.desc).map (fun d => d.parameters.length) = some 1 := by decide +kernel
set_option maxHeartbeats 4000000 in
set_option maxRecDepth 100000 in
theorem m_X1_demandHook (l : Launch) (hlt : l.stackTraces = false) (D : va_G) (cI : ClassId) (o r t a1 a2 b1 b2 : Nat) {n w : Nat} {F G f g : Nat → Int32} (S : RS n w F G f g) (n2 w2 : Nat) (F2 G2 : Nat → Int32) (x : Int32) : vx_Met l yX1_demandHook wsX1_demandHook ({ frames := 6, cells := 1, slots := 6, locals := 90 } : Room) (PX D [(cI, .int)] [.ref o, .int x] (clw cI o r t a1 a2 b1 b2 n w F G n2 w2 F2 G2)) (vq_v (rh n x)) (xk (fun E => E = IOB ∧ ¬ rh n x)) 1 6 (fun _ => False) := by
  obtain ⟨hn3, hn, hw2, hF, hG, hO⟩ := id S
  refine bd_x (cc := cX1_demandHook) (maxL := 2) (ret := none) (by decide) rfl (Nat.le_of_ble_eq_true rfl) ?_
  intro p e s m args below meth c ls CF hr hlocks hT hK hP hX hZ hl
  obtain ⟨hx, hb, hml, hown, hts⟩ := id CF
  have hl : lv_has ls 2 [(0, .ref o), (1, .int x)] := hl
  have hP : va_P D vwCl [(o, .inr (1, [.ref r, .ref t])), (r, .inr (0, [.ref a1, .ref a2, .int (nI n), .int (nI w)])), (a1, .inl (cI, 40, .inl F)), (a2, .inl (cI, 40, .inl G)), (t, .inr (0, [.ref b1, .ref b2, .int (nI n2), .int (nI w2)])), (b1, .inl (cI, 40, .inl F2)), (b2, .inl (cI, 40, .inl G2))] s.heap := hP
  refine lv_iload_n hx hb dX1_demandHook_0 rfl (lv_at hl 1 rfl) ?_
  refine lv_if_lt (tgt := 15) hx hb dX1_demandHook_1 (by decide) (fun c1 => ?_) (fun c1 => ?_)
  · skip
    exact th_x (cls := IOB) (text := "there is no such hook") (ik := 146) (is := 148) (ic := 150) hlt CF hX hZ va_S.rf (by decide +kernel) (List.mem_of_getElem? (i := 1) rfl) (List.mem_of_getElem? (i := 2) rfl) (List.mem_of_getElem? (i := 7) rfl) (fun _ h => (List.mem_cons_of_mem _ (List.mem_append_right _ h))) xb_IOB xg_IOB hl.1 dX1_demandHook_15 dX1_demandHook_18 dX1_demandHook_19 dX1_demandHook_21 dX1_demandHook_24 hT ⟨Nat.le_of_ble_eq_true rfl, Nat.le_of_ble_eq_true rfl, Nat.le_of_ble_eq_true rfl, Nat.le_of_ble_eq_true rfl⟩ hlocks (fun t h1 h2 => ⟨⟨rfl, rh_lo hn c1⟩, h1, h2⟩) (fun z hz => nomatch hz) (Nat.le_of_ble_eq_true rfl) (Nat.le_of_ble_eq_true rfl)
  · skip
    refine lv_iload_n hx hb dX1_demandHook_4 rfl (lv_at hl 1 rfl) ?_
    refine lv_aload_n hx hb dX1_demandHook_5 rfl (lv_at hl 0 rfl) ?_
    refine va_get (D := D) (ci := 1) (v := .ref r) (C := RX1) (T := TX1) (N := 2) hx hb hts (fun _ h => (List.mem_cons_of_mem _ (List.mem_append_left _ (List.mem_append_left _ (List.mem_append_right _ h))))) hown hK hP 0 rfl rfl 0 (by decide) (hts _ (List.mem_of_getElem? (i := 3) rfl)) (fun _ h9 => h9) rfl dX1_demandHook_6 ?_
    refine pv_i CF (m_X0_hookCount l D cI r a1 a2 S ) (cwV 0 hts gX1_demandHook_X0_hookCount rfl rfl rfl k_X0_hookCount ⟨Nat.le_of_ble_eq_true rfl, Nat.le_of_ble_eq_true rfl⟩) hK (hP.sub [1, 2, 3] rfl) rfl rfl rfl rfl hl.1 rfl (Nat.le_of_ble_eq_true rfl) dX1_demandHook_9 ⟨Nat.le_of_ble_eq_true rfl, Nat.le_of_ble_eq_true rfl⟩ ?_
    refine lv_icmp_lt (tgt := 25) hx hb dX1_demandHook_12 (by decide) (fun c12 => ?_) (fun c12 => ?_)
    · skip
      exact ex_v hx hb hr hlocks (Nat.le_of_ble_eq_true rfl) (Nat.le_of_ble_eq_true rfl) (rh_in hn c1 c12) dX1_demandHook_25
    · skip
      exact th_x (cls := IOB) (text := "there is no such hook") (ik := 146) (is := 148) (ic := 150) hlt CF hX hZ va_S.rf (by decide +kernel) (List.mem_of_getElem? (i := 1) rfl) (List.mem_of_getElem? (i := 2) rfl) (List.mem_of_getElem? (i := 7) rfl) (fun _ h => (List.mem_cons_of_mem _ (List.mem_append_right _ h))) xb_IOB xg_IOB hl.1 dX1_demandHook_15 dX1_demandHook_18 dX1_demandHook_19 dX1_demandHook_21 dX1_demandHook_24 hT ⟨Nat.le_of_ble_eq_true rfl, Nat.le_of_ble_eq_true rfl, Nat.le_of_ble_eq_true rfl, Nat.le_of_ble_eq_true rfl⟩ hlocks (fun t h1 h2 => ⟨⟨rfl, rh_hi hn c12⟩, h1, h2⟩) (fun z hz => nomatch hz) (Nat.le_of_ble_eq_true rfl) (Nat.le_of_ble_eq_true rfl)
theorem k_X1_stateOf : yX1_stateOf.cls = RX1 ∧ yX1_stateOf.cls ≠ "java/lang/invoke/MethodHandle" ∧ yX1_stateOf.cls ≠ "java/lang/invoke/VarHandle" ∧ (parseMethodDescriptor yX1_stateOf.desc).map (fun d => d.parameters.length) = some 1 := by decide +kernel
set_option maxHeartbeats 4000000 in
set_option maxRecDepth 100000 in
theorem m_X1_stateOf (l : Launch) (hlt : l.stackTraces = false) (D : va_G) (cI : ClassId) (o r t a1 a2 b1 b2 : Nat) {n w : Nat} {F G f g : Nat → Int32} (S : RS n w F G f g) (n2 w2 : Nat) (F2 G2 : Nat → Int32) (x : Int32) : vx_Met l yX1_stateOf wsX1_stateOf ({ frames := 7, cells := 1, slots := 6, locals := 111 } : Room) (PX D [(cI, .int)] [.ref o, .int x] (clw cI o r t a1 a2 b1 b2 n w F G n2 w2 F2 G2)) (vp_Si (fun r => ∃ k, k < n ∧ x = nI k ∧ r = st (f k))) (xk (fun E => E = IOB ∧ ¬ rh n x)) 1 6 (fun _ => False) := by
  obtain ⟨hn3, hn, hw2, hF, hG, hO⟩ := id S
  refine bd_x (cc := cX1_stateOf) (maxL := 2) (ret := (some .int)) (by decide) rfl (Nat.le_of_ble_eq_true rfl) ?_
  intro p e s m args below meth c ls CF hr hlocks hT hK hP hX hZ hl
  obtain ⟨hx, hb, hml, hown, hts⟩ := id CF
  have hl : lv_has ls 2 [(0, .ref o), (1, .int x)] := hl
  have hP : va_P D vwCl [(o, .inr (1, [.ref r, .ref t])), (r, .inr (0, [.ref a1, .ref a2, .int (nI n), .int (nI w)])), (a1, .inl (cI, 40, .inl F)), (a2, .inl (cI, 40, .inl G)), (t, .inr (0, [.ref b1, .ref b2, .int (nI n2), .int (nI w2)])), (b1, .inl (cI, 40, .inl F2)), (b2, .inl (cI, 40, .inl G2))] s.heap := hP
  refine lv_aload_n hx hb dX1_stateOf_0 rfl (lv_at hl 0 rfl) ?_
  refine lv_iload_n hx hb dX1_stateOf_1 rfl (lv_at hl 1 rfl) ?_
  refine px_vv CF (m_X1_demandHook l hlt D cI o r t a1 a2 b1 b2 S n2 w2 F2 G2 x) (cwV 1 hts gX1_stateOf_X1_demandHook rfl rfl rfl k_X1_demandHook ⟨Nat.le_of_ble_eq_true rfl, Nat.le_of_ble_eq_true rfl⟩) hK (hP.sub [0, 1, 2, 3, 4, 5, 6] rfl) hX hZ rfl rfl rfl rfl hl.1 rfl (Nat.le_of_ble_eq_true rfl) dX1_stateOf_2 ⟨Nat.le_of_ble_eq_true rfl, Nat.le_of_ble_eq_true rfl⟩ hlocks hT (fun E t hE h1 h2 => ⟨hE, h1, h2⟩) (Nat.le_of_ble_eq_true rfl) (Nat.le_of_ble_eq_true rfl) (fun hc2 => ?_)
  obtain ⟨k, hk, rfl⟩ := hc2
  refine lv_aload_n hx hb dX1_stateOf_5 rfl (lv_at hl 0 rfl) ?_
  refine va_get (D := D) (ci := 1) (v := .ref r) (C := RX1) (T := TX1) (N := 2) hx hb hts (fun _ h => (List.mem_cons_of_mem _ (List.mem_append_left _ (List.mem_append_left _ (List.mem_append_right _ h))))) hown hK hP 0 rfl rfl 0 (by decide) (hts _ (List.mem_of_getElem? (i := 1) rfl)) (fun _ h9 => h9) rfl dX1_stateOf_6 ?_
  refine lv_iload_n hx hb dX1_stateOf_9 rfl (lv_at hl 1 rfl) ?_
  refine pv_i CF (m_X0_stateOn l D cI r a1 a2 S k (by omega)) (cwV 1 hts gX1_stateOf_X0_stateOn rfl rfl rfl k_X0_stateOn ⟨Nat.le_of_ble_eq_true rfl, Nat.le_of_ble_eq_true rfl⟩) hK (hP.sub [1, 2, 3] rfl) rfl rfl rfl rfl hl.1 rfl (Nat.le_of_ble_eq_true rfl) dX1_stateOf_10 ⟨Nat.le_of_ble_eq_true rfl, Nat.le_of_ble_eq_true rfl⟩ ?_
  refine tp_i (y := (st (f k))) (congrArg st (hd_in hk)) ?_
  exact ex_i hx hb hr hlocks (Nat.le_of_ble_eq_true rfl) (Nat.le_of_ble_eq_true rfl) (⟨k, hk, rfl, rfl⟩) dX1_stateOf_13
theorem k_X1_coatAt : yX1_coatAt.cls = RX1 ∧ yX1_coatAt.cls ≠ "java/lang/invoke/MethodHandle" ∧ yX1_coatAt.cls ≠ "java/lang/invoke/VarHandle" ∧ (parseMethodDescriptor yX1_coatAt.desc).map (fun d => d.parameters.length) = some 1 := by decide +kernel
set_option maxHeartbeats 4000000 in
set_option maxRecDepth 100000 in
theorem m_X1_coatAt (l : Launch) (hlt : l.stackTraces = false) (D : va_G) (cI : ClassId) (o r t a1 a2 b1 b2 : Nat) {n w : Nat} {F G f g : Nat → Int32} (S : RS n w F G f g) (n2 w2 : Nat) (F2 G2 : Nat → Int32) (x : Int32) : vx_Met l yX1_coatAt wsX1_coatAt ({ frames := 7, cells := 1, slots := 6, locals := 111 } : Room) (PX D [(cI, .int)] [.ref o, .int x] (clw cI o r t a1 a2 b1 b2 n w F G n2 w2 F2 G2)) (vp_Si (fun r => ∃ k, k < n ∧ x = nI k ∧ r = cn (f k))) (xk (fun E => E = IOB ∧ ¬ rh n x)) 1 6 (fun _ => False) := by
  obtain ⟨hn3, hn, hw2, hF, hG, hO⟩ := id S
  refine bd_x (cc := cX1_coatAt) (maxL := 2) (ret := (some .int)) (by decide) rfl (Nat.le_of_ble_eq_true rfl) ?_
  intro p e s m args below meth c ls CF hr hlocks hT hK hP hX hZ hl
  obtain ⟨hx, hb, hml, hown, hts⟩ := id CF
  have hl : lv_has ls 2 [(0, .ref o), (1, .int x)] := hl
  have hP : va_P D vwCl [(o, .inr (1, [.ref r, .ref t])), (r, .inr (0, [.ref a1, .ref a2, .int (nI n), .int (nI w)])), (a1, .inl (cI, 40, .inl F)), (a2, .inl (cI, 40, .inl G)), (t, .inr (0, [.ref b1, .ref b2, .int (nI n2), .int (nI w2)])), (b1, .inl (cI, 40, .inl F2)), (b2, .inl (cI, 40, .inl G2))] s.heap := hP
  refine lv_aload_n hx hb dX1_coatAt_0 rfl (lv_at hl 0 rfl) ?_
  refine lv_iload_n hx hb dX1_coatAt_1 rfl (lv_at hl 1 rfl) ?_
  refine px_vv CF (m_X1_demandHook l hlt D cI o r t a1 a2 b1 b2 S n2 w2 F2 G2 x) (cwV 1 hts gX1_coatAt_X1_demandHook rfl rfl rfl k_X1_demandHook ⟨Nat.le_of_ble_eq_true rfl, Nat.le_of_ble_eq_true rfl⟩) hK (hP.sub [0, 1, 2, 3, 4, 5, 6] rfl) hX hZ rfl rfl rfl rfl hl.1 rfl (Nat.le_of_ble_eq_true rfl) dX1_coatAt_2 ⟨Nat.le_of_ble_eq_true rfl, Nat.le_of_ble_eq_true rfl⟩ hlocks hT (fun E t hE h1 h2 => ⟨hE, h1, h2⟩) (Nat.le_of_ble_eq_true rfl) (Nat.le_of_ble_eq_true rfl) (fun hc2 => ?_)
  obtain ⟨k, hk, rfl⟩ := hc2
  refine lv_aload_n hx hb dX1_coatAt_5 rfl (lv_at hl 0 rfl) ?_
  refine va_get (D := D) (ci := 1) (v := .ref r) (C := RX1) (T := TX1) (N := 2) hx hb hts (fun _ h => (List.mem_cons_of_mem _ (List.mem_append_left _ (List.mem_append_left _ (List.mem_append_right _ h))))) hown hK hP 0 rfl rfl 0 (by decide) (hts _ (List.mem_of_getElem? (i := 1) rfl)) (fun _ h9 => h9) rfl dX1_coatAt_6 ?_
  refine lv_iload_n hx hb dX1_coatAt_9 rfl (lv_at hl 1 rfl) ?_
  refine pv_i CF (m_X0_coatOn l D cI r a1 a2 S k (by omega)) (cwV 1 hts gX1_coatAt_X0_coatOn rfl rfl rfl k_X0_coatOn ⟨Nat.le_of_ble_eq_true rfl, Nat.le_of_ble_eq_true rfl⟩) hK (hP.sub [1, 2, 3] rfl) rfl rfl rfl rfl hl.1 rfl (Nat.le_of_ble_eq_true rfl) dX1_coatAt_10 ⟨Nat.le_of_ble_eq_true rfl, Nat.le_of_ble_eq_true rfl⟩ ?_
  refine tp_i (y := (cn (f k))) (cn_hd hk) ?_
  exact ex_i hx hb hr hlocks (Nat.le_of_ble_eq_true rfl) (Nat.le_of_ble_eq_true rfl) (⟨k, hk, rfl, rfl⟩) dX1_coatAt_13
theorem k_X1_weightAt : yX1_weightAt.cls = RX1 ∧ yX1_weightAt.cls ≠ "java/lang/invoke/MethodHandle" ∧ yX1_weightAt.cls ≠ "java/lang/invoke/VarHandle" ∧ (parseMethodDescriptor yX1_weightAt.desc).map (fun d => d.parameters.length) = some 1 := by decide +kernel
set_option maxHeartbeats 4000000 in
set_option maxRecDepth 100000 in
theorem m_X1_weightAt (l : Launch) (hlt : l.stackTraces = false) (D : va_G) (cI : ClassId) (o r t a1 a2 b1 b2 : Nat) {n w : Nat} {F G f g : Nat → Int32} (S : RS n w F G f g) (n2 w2 : Nat) (F2 G2 : Nat → Int32) (x : Int32) : vx_Met l yX1_weightAt wsX1_weightAt ({ frames := 7, cells := 1, slots := 6, locals := 111 } : Room) (PX D [(cI, .int)] [.ref o, .int x] (clw cI o r t a1 a2 b1 b2 n w F G n2 w2 F2 G2)) (vp_Si (fun r => ∃ k, k < n ∧ x = nI k ∧ r = g k)) (xk (fun E => E = IOB ∧ ¬ rh n x)) 1 6 (fun _ => False) := by
  obtain ⟨hn3, hn, hw2, hF, hG, hO⟩ := id S
  refine bd_x (cc := cX1_weightAt) (maxL := 2) (ret := (some .int)) (by decide) rfl (Nat.le_of_ble_eq_true rfl) ?_
  intro p e s m args below meth c ls CF hr hlocks hT hK hP hX hZ hl
  obtain ⟨hx, hb, hml, hown, hts⟩ := id CF
  have hl : lv_has ls 2 [(0, .ref o), (1, .int x)] := hl
  have hP : va_P D vwCl [(o, .inr (1, [.ref r, .ref t])), (r, .inr (0, [.ref a1, .ref a2, .int (nI n), .int (nI w)])), (a1, .inl (cI, 40, .inl F)), (a2, .inl (cI, 40, .inl G)), (t, .inr (0, [.ref b1, .ref b2, .int (nI n2), .int (nI w2)])), (b1, .inl (cI, 40, .inl F2)), (b2, .inl (cI, 40, .inl G2))] s.heap := hP
  refine lv_aload_n hx hb dX1_weightAt_0 rfl (lv_at hl 0 rfl) ?_
  refine lv_iload_n hx hb dX1_weightAt_1 rfl (lv_at hl 1 rfl) ?_
  refine px_vv CF (m_X1_demandHook l hlt D cI o r t a1 a2 b1 b2 S n2 w2 F2 G2 x) (cwV 1 hts gX1_weightAt_X1_demandHook rfl rfl rfl k_X1_demandHook ⟨Nat.le_of_ble_eq_true rfl, Nat.le_of_ble_eq_true rfl⟩) hK (hP.sub [0, 1, 2, 3, 4, 5, 6] rfl) hX hZ rfl rfl rfl rfl hl.1 rfl (Nat.le_of_ble_eq_true rfl) dX1_weightAt_2 ⟨Nat.le_of_ble_eq_true rfl, Nat.le_of_ble_eq_true rfl⟩ hlocks hT (fun E t hE h1 h2 => ⟨hE, h1, h2⟩) (Nat.le_of_ble_eq_true rfl) (Nat.le_of_ble_eq_true rfl) (fun hc2 => ?_)
  obtain ⟨k, hk, rfl⟩ := hc2
  refine lv_aload_n hx hb dX1_weightAt_5 rfl (lv_at hl 0 rfl) ?_
  refine va_get (D := D) (ci := 1) (v := .ref r) (C := RX1) (T := TX1) (N := 2) hx hb hts (fun _ h => (List.mem_cons_of_mem _ (List.mem_append_left _ (List.mem_append_left _ (List.mem_append_right _ h))))) hown hK hP 0 rfl rfl 0 (by decide) (hts _ (List.mem_of_getElem? (i := 1) rfl)) (fun _ h9 => h9) rfl dX1_weightAt_6 ?_
  refine lv_iload_n hx hb dX1_weightAt_9 rfl (lv_at hl 1 rfl) ?_
  refine pv_i CF (m_X0_weightOn l D cI r a1 a2 S k (by omega)) (cwV 1 hts gX1_weightAt_X0_weightOn rfl rfl rfl k_X0_weightOn ⟨Nat.le_of_ble_eq_true rfl, Nat.le_of_ble_eq_true rfl⟩) hK (hP.sub [1, 2, 3] rfl) rfl rfl rfl rfl hl.1 rfl (Nat.le_of_ble_eq_true rfl) dX1_weightAt_10 ⟨Nat.le_of_ble_eq_true rfl, Nat.le_of_ble_eq_true rfl⟩ ?_
  refine tp_i (y := (g k)) (if_pos hk) ?_
  exact ex_i hx hb hr hlocks (Nat.le_of_ble_eq_true rfl) (Nat.le_of_ble_eq_true rfl) (⟨k, hk, rfl, rfl⟩) dX1_weightAt_13
theorem k_X1_rowAt : yX1_rowAt.cls = RX1 ∧ yX1_rowAt.cls ≠ "java/lang/invoke/MethodHandle" ∧ yX1_rowAt.cls ≠ "java/lang/invoke/VarHandle" ∧ (parseMethodDescriptor yX1_rowAt.desc).map (fun d => d.parameters.length) = some 1 := by decide +kernel
set_option maxHeartbeats 4000000 in
set_option maxRecDepth 100000 in
theorem m_X1_rowAt (l : Launch) (hlt : l.stackTraces = false) (D : va_G) (cI : ClassId) (o r t a1 a2 b1 b2 : Nat) {n w : Nat} {F G f g : Nat → Int32} (S : RS n w F G f g) (n2 w2 : Nat) (F2 G2 : Nat → Int32) (x : Int32) : vx_Met l yX1_rowAt wsX1_rowAt ({ frames := 7, cells := 1, slots := 6, locals := 111 } : Room) (PX D [(cI, .int)] [.ref o, .int x] (clw cI o r t a1 a2 b1 b2 n w F G n2 w2 F2 G2)) (vp_Si (fun r => ∃ k, k < n ∧ x = nI k ∧ r = nI (rl n f k))) (xk (fun E => E = IOB ∧ ¬ rh n x)) 1 6 (fun _ => False) := by
  obtain ⟨hn3, hn, hw2, hF, hG, hO⟩ := id S
  refine bd_x (cc := cX1_rowAt) (maxL := 2) (ret := (some .int)) (by decide) rfl (Nat.le_of_ble_eq_true rfl) ?_
  intro p e s m args below meth c ls CF hr hlocks hT hK hP hX hZ hl
  obtain ⟨hx, hb, hml, hown, hts⟩ := id CF
  have hl : lv_has ls 2 [(0, .ref o), (1, .int x)] := hl
  have hP : va_P D vwCl [(o, .inr (1, [.ref r, .ref t])), (r, .inr (0, [.ref a1, .ref a2, .int (nI n), .int (nI w)])), (a1, .inl (cI, 40, .inl F)), (a2, .inl (cI, 40, .inl G)), (t, .inr (0, [.ref b1, .ref b2, .int (nI n2), .int (nI w2)])), (b1, .inl (cI, 40, .inl F2)), (b2, .inl (cI, 40, .inl G2))] s.heap := hP
  refine lv_aload_n hx hb dX1_rowAt_0 rfl (lv_at hl 0 rfl) ?_
  refine lv_iload_n hx hb dX1_rowAt_1 rfl (lv_at hl 1 rfl) ?_
  refine px_vv CF (m_X1_demandHook l hlt D cI o r t a1 a2 b1 b2 S n2 w2 F2 G2 x) (cwV 1 hts gX1_rowAt_X1_demandHook rfl rfl rfl k_X1_demandHook ⟨Nat.le_of_ble_eq_true rfl, Nat.le_of_ble_eq_true rfl⟩) hK (hP.sub [0, 1, 2, 3, 4, 5, 6] rfl) hX hZ rfl rfl rfl rfl hl.1 rfl (Nat.le_of_ble_eq_true rfl) dX1_rowAt_2 ⟨Nat.le_of_ble_eq_true rfl, Nat.le_of_ble_eq_true rfl⟩ hlocks hT (fun E t hE h1 h2 => ⟨hE, h1, h2⟩) (Nat.le_of_ble_eq_true rfl) (Nat.le_of_ble_eq_true rfl) (fun hc2 => ?_)
  obtain ⟨k, hk, rfl⟩ := hc2
  refine lv_aload_n hx hb dX1_rowAt_5 rfl (lv_at hl 0 rfl) ?_
  refine va_get (D := D) (ci := 1) (v := .ref r) (C := RX1) (T := TX1) (N := 2) hx hb hts (fun _ h => (List.mem_cons_of_mem _ (List.mem_append_left _ (List.mem_append_left _ (List.mem_append_right _ h))))) hown hK hP 0 rfl rfl 0 (by decide) (hts _ (List.mem_of_getElem? (i := 1) rfl)) (fun _ h9 => h9) rfl dX1_rowAt_6 ?_
  refine lv_iload_n hx hb dX1_rowAt_9 rfl (lv_at hl 1 rfl) ?_
  refine pv_i CF (m_X0_rowLength l D cI r a1 a2 S k hk) (cwV 1 hts gX1_rowAt_X0_rowLength rfl rfl rfl k_X0_rowLength ⟨Nat.le_of_ble_eq_true rfl, Nat.le_of_ble_eq_true rfl⟩) hK (hP.sub [1, 2, 3] rfl) rfl rfl rfl rfl hl.1 rfl (Nat.le_of_ble_eq_true rfl) dX1_rowAt_10 ⟨Nat.le_of_ble_eq_true rfl, Nat.le_of_ble_eq_true rfl⟩ ?_
  exact ex_i hx hb hr hlocks (Nat.le_of_ble_eq_true rfl) (Nat.le_of_ble_eq_true rfl) (⟨k, hk, rfl, rfl⟩) dX1_rowAt_13
theorem k_X1_find : yX1_find.cls = RX1 ∧ yX1_find.cls ≠ "java/lang/invoke/MethodHandle" ∧ yX1_find.cls ≠ "java/lang/invoke/VarHandle" ∧ (parseMethodDescriptor yX1_find.desc).map (fun d => d.parameters.length) = some 1 := by decide +kernel
set_option maxHeartbeats 4000000 in
set_option maxRecDepth 100000 in
theorem m_X1_find (l : Launch) (hlt : l.stackTraces = false) (D : va_G) (cI : ClassId) (o r t a1 a2 b1 b2 : Nat) {n w : Nat} {F G f g : Nat → Int32} (S : RS n w F G f g) (n2 w2 : Nat) (F2 G2 : Nat → Int32) (x : Int32) : vx_Met l yX1_find wsX1_find ({ frames := 7, cells := 1, slots := 6, locals := 110 } : Room) (PX D [(cI, .int)] [.ref o, .int x] (clw cI o r t a1 a2 b1 b2 n w F G n2 w2 F2 G2)) (vp_Si (fun r => ∃ v, v ≤ 9999 ∧ x = nI v ∧ r = fd n w f v)) (xk (fun E => E = IAE ∧ ¬ rg 0 9999 x)) 1 6 (fun _ => False) := by
  obtain ⟨hn3, hn, hw2, hF, hG, hO⟩ := id S
  refine bd_x (cc := cX1_find) (maxL := 2) (ret := (some .int)) (by decide) rfl (Nat.le_of_ble_eq_true rfl) ?_
  intro p e s m args below meth c ls CF hr hlocks hT hK hP hX hZ hl
  obtain ⟨hx, hb, hml, hown, hts⟩ := id CF
  have hl : lv_has ls 2 [(0, .ref o), (1, .int x)] := hl
  have hP : va_P D vwCl [(o, .inr (1, [.ref r, .ref t])), (r, .inr (0, [.ref a1, .ref a2, .int (nI n), .int (nI w)])), (a1, .inl (cI, 40, .inl F)), (a2, .inl (cI, 40, .inl G)), (t, .inr (0, [.ref b1, .ref b2, .int (nI n2), .int (nI w2)])), (b1, .inl (cI, 40, .inl F2)), (b2, .inl (cI, 40, .inl G2))] s.heap := hP
  refine lv_iload_n hx hb dX1_find_0 rfl (lv_at hl 1 rfl) ?_
  refine px_sv CF (m_X1_demandNumber l hlt D cI x) (va_cwS 1 hts gX1_find_X1_demandNumber rfl rfl rfl k_X1_demandNumber.2 ⟨Nat.le_of_ble_eq_true rfl, Nat.le_of_ble_eq_true rfl⟩) hK (hP.sub [] rfl) hX hZ rfl hl.1 rfl (Nat.le_of_ble_eq_true rfl) dX1_find_1 ⟨Nat.le_of_ble_eq_true rfl, Nat.le_of_ble_eq_true rfl⟩ hlocks hT (fun E t hE h1 h2 => ⟨hE, h1, h2⟩) (Nat.le_of_ble_eq_true rfl) (Nat.le_of_ble_eq_true rfl) (fun hc1 => ?_)
  obtain ⟨v, -, hv9, rfl⟩ := hc1
  refine lv_aload_n hx hb dX1_find_4 rfl (lv_at hl 0 rfl) ?_
  refine va_get (D := D) (ci := 1) (v := .ref r) (C := RX1) (T := TX1) (N := 2) hx hb hts (fun _ h => (List.mem_cons_of_mem _ (List.mem_append_left _ (List.mem_append_left _ (List.mem_append_right _ h))))) hown hK hP 0 rfl rfl 0 (by decide) (hts _ (List.mem_of_getElem? (i := 1) rfl)) (fun _ h9 => h9) rfl dX1_find_5 ?_
  refine lv_iload_n hx hb dX1_find_8 rfl (lv_at hl 1 rfl) ?_
  refine pv_i CF (m_X0_whereFound l D cI r a1 a2 S v hv9) (cwV 1 hts gX1_find_X0_whereFound rfl rfl rfl k_X0_whereFound ⟨Nat.le_of_ble_eq_true rfl, Nat.le_of_ble_eq_true rfl⟩) hK (hP.sub [1, 2, 3] rfl) rfl rfl rfl rfl hl.1 rfl (Nat.le_of_ble_eq_true rfl) dX1_find_9 ⟨Nat.le_of_ble_eq_true rfl, Nat.le_of_ble_eq_true rfl⟩ ?_
  exact ex_i hx hb hr hlocks (Nat.le_of_ble_eq_true rfl) (Nat.le_of_ble_eq_true rfl) (⟨v, hv9, rfl, rfl⟩) dX1_find_12
theorem k_X1_looksFor : yX1_looksFor.cls = RX1 ∧ yX1_looksFor.cls ≠ "java/lang/invoke/MethodHandle" ∧ yX1_looksFor.cls ≠ "java/lang/invoke/VarHandle" ∧ (parseMethodDescriptor yX1_looksFor.desc).map (fun d => d.parameters.length) = some 1 := by decide +kernel
set_option maxHeartbeats 4000000 in
set_option maxRecDepth 100000 in
theorem m_X1_looksFor (l : Launch) (hlt : l.stackTraces = false) (D : va_G) (cI : ClassId) (o r t a1 a2 b1 b2 : Nat) {n w : Nat} {F G f g : Nat → Int32} (S : RS n w F G f g) (n2 w2 : Nat) (F2 G2 : Nat → Int32) (x : Int32) : vx_Met l yX1_looksFor wsX1_looksFor ({ frames := 7, cells := 1, slots := 6, locals := 110 } : Room) (PX D [(cI, .int)] [.ref o, .int x] (clw cI o r t a1 a2 b1 b2 n w F G n2 w2 F2 G2)) (vp_Si (fun r => ∃ v, v ≤ 9999 ∧ x = nI v ∧ r = nI (lk n w f v))) (xk (fun E => E = IAE ∧ ¬ rg 0 9999 x)) 1 6 (fun _ => False) := by
  obtain ⟨hn3, hn, hw2, hF, hG, hO⟩ := id S
  refine bd_x (cc := cX1_looksFor) (maxL := 2) (ret := (some .int)) (by decide) rfl (Nat.le_of_ble_eq_true rfl) ?_
  intro p e s m args below meth c ls CF hr hlocks hT hK hP hX hZ hl
  obtain ⟨hx, hb, hml, hown, hts⟩ := id CF
  have hl : lv_has ls 2 [(0, .ref o), (1, .int x)] := hl
  have hP : va_P D vwCl [(o, .inr (1, [.ref r, .ref t])), (r, .inr (0, [.ref a1, .ref a2, .int (nI n), .int (nI w)])), (a1, .inl (cI, 40, .inl F)), (a2, .inl (cI, 40, .inl G)), (t, .inr (0, [.ref b1, .ref b2, .int (nI n2), .int (nI w2)])), (b1, .inl (cI, 40, .inl F2)), (b2, .inl (cI, 40, .inl G2))] s.heap := hP
  refine lv_iload_n hx hb dX1_looksFor_0 rfl (lv_at hl 1 rfl) ?_
  refine px_sv CF (m_X1_demandNumber l hlt D cI x) (va_cwS 1 hts gX1_looksFor_X1_demandNumber rfl rfl rfl k_X1_demandNumber.2 ⟨Nat.le_of_ble_eq_true rfl, Nat.le_of_ble_eq_true rfl⟩) hK (hP.sub [] rfl) hX hZ rfl hl.1 rfl (Nat.le_of_ble_eq_true rfl) dX1_looksFor_1 ⟨Nat.le_of_ble_eq_true rfl, Nat.le_of_ble_eq_true rfl⟩ hlocks hT (fun E t hE h1 h2 => ⟨hE, h1, h2⟩) (Nat.le_of_ble_eq_true rfl) (Nat.le_of_ble_eq_true rfl) (fun hc1 => ?_)
  obtain ⟨v, -, hv9, rfl⟩ := hc1
  refine lv_aload_n hx hb dX1_looksFor_4 rfl (lv_at hl 0 rfl) ?_
  refine va_get (D := D) (ci := 1) (v := .ref r) (C := RX1) (T := TX1) (N := 2) hx hb hts (fun _ h => (List.mem_cons_of_mem _ (List.mem_append_left _ (List.mem_append_left _ (List.mem_append_right _ h))))) hown hK hP 0 rfl rfl 0 (by decide) (hts _ (List.mem_of_getElem? (i := 1) rfl)) (fun _ h9 => h9) rfl dX1_looksFor_5 ?_
  refine lv_iload_n hx hb dX1_looksFor_8 rfl (lv_at hl 1 rfl) ?_
  refine pv_i CF (m_X0_countLooks l D cI r a1 a2 S v hv9) (cwV 1 hts gX1_looksFor_X0_countLooks rfl rfl rfl k_X0_countLooks ⟨Nat.le_of_ble_eq_true rfl, Nat.le_of_ble_eq_true rfl⟩) hK (hP.sub [1, 2, 3] rfl) rfl rfl rfl rfl hl.1 rfl (Nat.le_of_ble_eq_true rfl) dX1_looksFor_9 ⟨Nat.le_of_ble_eq_true rfl, Nat.le_of_ble_eq_true rfl⟩ ?_
  exact ex_i hx hb hr hlocks (Nat.le_of_ble_eq_true rfl) (Nat.le_of_ble_eq_true rfl) (⟨v, hv9, rfl, rfl⟩) dX1_looksFor_12
theorem k_X1_placeFor : yX1_placeFor.cls = RX1 ∧ yX1_placeFor.cls ≠ "java/lang/invoke/MethodHandle" ∧ yX1_placeFor.cls ≠ "java/lang/invoke/VarHandle" ∧ (parseMethodDescriptor yX1_placeFor.desc).map (fun d => d.parameters.length) = some 1 := by decide +kernel
set_option maxHeartbeats 4000000 in
set_option maxRecDepth 100000 in
theorem m_X1_placeFor (l : Launch) (hlt : l.stackTraces = false) (D : va_G) (cI : ClassId) (o r t a1 a2 b1 b2 : Nat) {n w : Nat} {F G f g : Nat → Int32} (S : RS n w F G f g) (n2 w2 : Nat) (F2 G2 : Nat → Int32) (x : Int32) : vx_Met l yX1_placeFor wsX1_placeFor ({ frames := 7, cells := 1, slots := 6, locals := 110 } : Room) (PX D [(cI, .int)] [.ref o, .int x] (clw cI o r t a1 a2 b1 b2 n w F G n2 w2 F2 G2)) (vp_Si (fun r => ∃ v, v ≤ 9999 ∧ x = nI v ∧ r = pl n w f v)) (xk (fun E => E = IAE ∧ ¬ rg 0 9999 x)) 1 6 (fun _ => False) := by
  obtain ⟨hn3, hn, hw2, hF, hG, hO⟩ := id S
  refine bd_x (cc := cX1_placeFor) (maxL := 2) (ret := (some .int)) (by decide) rfl (Nat.le_of_ble_eq_true rfl) ?_
  intro p e s m args below meth c ls CF hr hlocks hT hK hP hX hZ hl
  obtain ⟨hx, hb, hml, hown, hts⟩ := id CF
  have hl : lv_has ls 2 [(0, .ref o), (1, .int x)] := hl
  have hP : va_P D vwCl [(o, .inr (1, [.ref r, .ref t])), (r, .inr (0, [.ref a1, .ref a2, .int (nI n), .int (nI w)])), (a1, .inl (cI, 40, .inl F)), (a2, .inl (cI, 40, .inl G)), (t, .inr (0, [.ref b1, .ref b2, .int (nI n2), .int (nI w2)])), (b1, .inl (cI, 40, .inl F2)), (b2, .inl (cI, 40, .inl G2))] s.heap := hP
  refine lv_iload_n hx hb dX1_placeFor_0 rfl (lv_at hl 1 rfl) ?_
  refine px_sv CF (m_X1_demandNumber l hlt D cI x) (va_cwS 1 hts gX1_placeFor_X1_demandNumber rfl rfl rfl k_X1_demandNumber.2 ⟨Nat.le_of_ble_eq_true rfl, Nat.le_of_ble_eq_true rfl⟩) hK (hP.sub [] rfl) hX hZ rfl hl.1 rfl (Nat.le_of_ble_eq_true rfl) dX1_placeFor_1 ⟨Nat.le_of_ble_eq_true rfl, Nat.le_of_ble_eq_true rfl⟩ hlocks hT (fun E t hE h1 h2 => ⟨hE, h1, h2⟩) (Nat.le_of_ble_eq_true rfl) (Nat.le_of_ble_eq_true rfl) (fun hc1 => ?_)
  obtain ⟨v, -, hv9, rfl⟩ := hc1
  refine lv_aload_n hx hb dX1_placeFor_4 rfl (lv_at hl 0 rfl) ?_
  refine va_get (D := D) (ci := 1) (v := .ref r) (C := RX1) (T := TX1) (N := 2) hx hb hts (fun _ h => (List.mem_cons_of_mem _ (List.mem_append_left _ (List.mem_append_left _ (List.mem_append_right _ h))))) hown hK hP 0 rfl rfl 0 (by decide) (hts _ (List.mem_of_getElem? (i := 1) rfl)) (fun _ h9 => h9) rfl dX1_placeFor_5 ?_
  refine lv_iload_n hx hb dX1_placeFor_8 rfl (lv_at hl 1 rfl) ?_
  refine pv_i CF (m_X0_placeOf l D cI r a1 a2 S v hv9) (cwV 1 hts gX1_placeFor_X0_placeOf rfl rfl rfl k_X0_placeOf ⟨Nat.le_of_ble_eq_true rfl, Nat.le_of_ble_eq_true rfl⟩) hK (hP.sub [1, 2, 3] rfl) rfl rfl rfl rfl hl.1 rfl (Nat.le_of_ble_eq_true rfl) dX1_placeFor_9 ⟨Nat.le_of_ble_eq_true rfl, Nat.le_of_ble_eq_true rfl⟩ ?_
  exact ex_i hx hb hr hlocks (Nat.le_of_ble_eq_true rfl) (Nat.le_of_ble_eq_true rfl) (⟨v, hv9, rfl, rfl⟩) dX1_placeFor_12
theorem k_X1_lookedAt : yX1_lookedAt.cls = RX1 ∧ yX1_lookedAt.cls ≠ "java/lang/invoke/MethodHandle" ∧ yX1_lookedAt.cls ≠ "java/lang/invoke/VarHandle" ∧ (parseMethodDescriptor yX1_lookedAt.desc).map (fun d => d.parameters.length) = some 2 := by decide +kernel
set_option maxHeartbeats 4000000 in
set_option maxRecDepth 100000 in
theorem m_X1_lookedAt (l : Launch) (hlt : l.stackTraces = false) (D : va_G) (cI : ClassId) (o r t a1 a2 b1 b2 : Nat) {n w : Nat} {F G f g : Nat → Int32} (S : RS n w F G f g) (n2 w2 : Nat) (F2 G2 : Nat → Int32) (x y : Int32) : vx_Met l yX1_lookedAt wsX1_lookedAt ({ frames := 7, cells := 2, slots := 12, locals := 110 } : Room) (PX D [(cI, .int)] [.ref o, .int x, .int y] (clw cI o r t a1 a2 b1 b2 n w F G n2 w2 F2 G2)) (vp_Si (fun r => ∃ v k, v ≤ 9999 ∧ x = nI v ∧ k ≤ 39 ∧ y = nI k ∧ r = nI (at_ n w v k))) (xk (fun E => E = IAE ∧ ¬ (rg 0 9999 x ∧ rg 0 39 y))) 2 12 (fun _ => False) := by
  obtain ⟨hn3, hn, hw2, hF, hG, hO⟩ := id S
  refine bd_x (cc := cX1_lookedAt) (maxL := 3) (ret := (some .int)) (by decide) rfl (Nat.le_of_ble_eq_true rfl) ?_
  intro p e s m args below meth c ls CF hr hlocks hT hK hP hX hZ hl
  obtain ⟨hx, hb, hml, hown, hts⟩ := id CF
  have hl : lv_has ls 3 [(0, .ref o), (1, .int x), (2, .int y)] := hl
  have hP : va_P D vwCl [(o, .inr (1, [.ref r, .ref t])), (r, .inr (0, [.ref a1, .ref a2, .int (nI n), .int (nI w)])), (a1, .inl (cI, 40, .inl F)), (a2, .inl (cI, 40, .inl G)), (t, .inr (0, [.ref b1, .ref b2, .int (nI n2), .int (nI w2)])), (b1, .inl (cI, 40, .inl F2)), (b2, .inl (cI, 40, .inl G2))] s.heap := hP
  refine lv_iload_n hx hb dX1_lookedAt_0 rfl (lv_at hl 1 rfl) ?_
  refine px_sv CF (m_X1_demandNumber l hlt D cI x) (va_cwS 1 hts gX1_lookedAt_X1_demandNumber rfl rfl rfl k_X1_demandNumber.2 ⟨Nat.le_of_ble_eq_true rfl, Nat.le_of_ble_eq_true rfl⟩) hK (hP.sub [] rfl) hX hZ rfl hl.1 rfl (Nat.le_of_ble_eq_true rfl) dX1_lookedAt_1 ⟨Nat.le_of_ble_eq_true rfl, Nat.le_of_ble_eq_true rfl⟩ hlocks hT (fun E t hE h1 h2 => ⟨⟨hE.1, fun z => hE.2 z.1⟩, h1, h2⟩) (Nat.le_of_ble_eq_true rfl) (Nat.le_of_ble_eq_true rfl) (fun hc1 => ?_)
  obtain ⟨v, -, hv9, rfl⟩ := hc1
  refine lv_iload_n hx hb dX1_lookedAt_4 rfl (lv_at hl 2 rfl) ?_
  refine lv_if_lt (tgt := 14) hx hb dX1_lookedAt_5 (by decide) (fun c5 => ?_) (fun c5 => ?_)
  · skip
    exact th_x (cls := IAE) (text := "the step is not 0 to 39") (ik := 23) (is := 104) (ic := 27) hlt CF hX hZ va_S.rf (by decide +kernel) (List.mem_of_getElem? (i := 1) rfl) (List.mem_of_getElem? (i := 2) rfl) (List.mem_of_getElem? (i := 8) rfl) (fun _ h => (List.mem_cons_of_mem _ (List.mem_append_right _ h))) xb_IAE xg_IAE hl.1 dX1_lookedAt_14 dX1_lookedAt_17 dX1_lookedAt_18 dX1_lookedAt_20 dX1_lookedAt_23 hT ⟨Nat.le_of_ble_eq_true rfl, Nat.le_of_ble_eq_true rfl, Nat.le_of_ble_eq_true rfl, Nat.le_of_ble_eq_true rfl⟩ hlocks (fun t h1 h2 => ⟨⟨rfl, fun z => rg_lo0 (by decide) c5 z.2⟩, h1, h2⟩) (fun z hz => nomatch hz) (Nat.le_of_ble_eq_true rfl) (Nat.le_of_ble_eq_true rfl)
  · skip
    refine lv_iload_n hx hb dX1_lookedAt_8 rfl (lv_at hl 2 rfl) ?_
    refine lv_bipush (v := nI 40) hx hb dX1_lookedAt_9 (by decide) ?_
    refine lv_icmp_lt (tgt := 24) hx hb dX1_lookedAt_11 (by decide) (fun c11 => ?_) (fun c11 => ?_)
    · skip
      obtain ⟨k, -, hk9, rfl⟩ := rg_inlt (b := 39) (c := 40) rfl (by decide) c5 c11
      refine lv_aload_n hx hb dX1_lookedAt_24 rfl (lv_at hl 0 rfl) ?_
      refine va_get (D := D) (ci := 1) (v := .ref r) (C := RX1) (T := TX1) (N := 2) hx hb hts (fun _ h => (List.mem_cons_of_mem _ (List.mem_append_left _ (List.mem_append_left _ (List.mem_append_right _ h))))) hown hK hP 0 rfl rfl 0 (by decide) (hts _ (List.mem_of_getElem? (i := 3) rfl)) (fun _ h9 => h9) rfl dX1_lookedAt_25 ?_
      refine lv_iload_n hx hb dX1_lookedAt_28 rfl (lv_at hl 1 rfl) ?_
      refine lv_iload_n hx hb dX1_lookedAt_29 rfl (lv_at hl 2 rfl) ?_
      refine pv_i CF (m_X0_hookInStep l D cI r a1 a2 S v k hv9 (by omega)) (cwV 2 hts gX1_lookedAt_X0_hookInStep rfl rfl rfl k_X0_hookInStep ⟨Nat.le_of_ble_eq_true rfl, Nat.le_of_ble_eq_true rfl⟩) hK (hP.sub [1, 2, 3] rfl) rfl rfl rfl rfl hl.1 rfl (Nat.le_of_ble_eq_true rfl) dX1_lookedAt_30 ⟨Nat.le_of_ble_eq_true rfl, Nat.le_of_ble_eq_true rfl⟩ ?_
      exact ex_i hx hb hr hlocks (Nat.le_of_ble_eq_true rfl) (Nat.le_of_ble_eq_true rfl) (⟨v, k, hv9, rfl, hk9, rfl, rfl⟩) dX1_lookedAt_33
    · skip
      exact th_x (cls := IAE) (text := "the step is not 0 to 39") (ik := 23) (is := 104) (ic := 27) hlt CF hX hZ va_S.rf (by decide +kernel) (List.mem_of_getElem? (i := 1) rfl) (List.mem_of_getElem? (i := 2) rfl) (List.mem_of_getElem? (i := 8) rfl) (fun _ h => (List.mem_cons_of_mem _ (List.mem_append_right _ h))) xb_IAE xg_IAE hl.1 dX1_lookedAt_14 dX1_lookedAt_17 dX1_lookedAt_18 dX1_lookedAt_20 dX1_lookedAt_23 hT ⟨Nat.le_of_ble_eq_true rfl, Nat.le_of_ble_eq_true rfl, Nat.le_of_ble_eq_true rfl, Nat.le_of_ble_eq_true rfl⟩ hlocks (fun t h1 h2 => ⟨⟨rfl, fun z => rg_lt (by decide) c11 rfl (by decide) z.2⟩, h1, h2⟩) (fun z hz => nomatch hz) (Nat.le_of_ble_eq_true rfl) (Nat.le_of_ble_eq_true rfl)
end
section
/-! pure words, on: the looks of those hung anew, added -/
theorem fs_eq {p : Nat → Bool} {N j : Nat} (hj : j < N) (h1 : ∀ i, i < j → p i = false) (h2 : p j = true) : fs p N 0 = j := by
  have a := fs_le p N 0
  rcases Nat.lt_trichotomy (fs p N 0) j with h | h | h
  · have b := fs_yes p N 0 (by omega)
    rw [h1 _ h] at b
    exact absurd b (by decide)
  · exact h
  · have b := fs_no p N 0 j (Nat.zero_le j) h
    rw [h2] at b
    exact absurd b (by decide)
theorem fo_top {α : Type} (f : α → Nat → α) (n : Nat) (a : α) : fo f (n + 1) 0 a = f (fo f n 0 a) n := by
  rw [fo_app f n 1 0 a, Nat.zero_add]
  rfl
/-- a sum in which one place changes from 0 -/
theorem sum_put {h h' : Nat → Nat} {p v : Nat} (he : ∀ k, k ≠ p → h' k = h k) (h0 : h p = 0) (hv : h' p = v) : ∀ N, fo (fun a i => a + h' i) N 0 0 = fo (fun a i => a + h i) N 0 0 + (if p < N then v else 0)
  | 0 => by rw [if_neg (Nat.not_lt_zero p)]; rfl
  | N + 1 => by
    rw [fo_top, fo_top, sum_put he h0 hv N]
    by_cases e : N = p
    · subst e
      rw [hv, h0, if_neg (Nat.lt_irrefl _), if_pos (Nat.lt_succ_self _)]
    · rw [he N e]
      by_cases e2 : p < N
      · rw [if_pos e2, if_pos (by omega)]; omega
      · rw [if_neg e2, if_neg (by omega)]; omega
/-- the usher comes to the hook k for the number x at the step j -/
def rch (N w : Nat) (T : Nat → Int32) (x j : Nat) : Prop := j < N ∧ T (at_ N w x j) = nI x ∧ ∀ i, i < j → sp N w T x i = false
theorem rch_lk {N w : Nat} {T : Nat → Int32} {x j : Nat} (h : rch N w T x j) : lk N w T x = j + 1 := by
  obtain ⟨h1, h2, h3⟩ := h
  have e : fs (sp N w T x) N 0 = j := fs_eq h1 h3 (sp_t (Or.inl h2))
  unfold lk
  rw [e, if_pos h1]
def gd (N w : Nat) (T : Nat → Int32) : Prop := ∀ k, k < N → 0 ≤ T k → ∃ x j : Nat, x ≤ 9999 ∧ T k = nI x ∧ at_ N w x j = k ∧ rch N w T x j
theorem sp_put {N w : Nat} {T : Nat → Int32} {p y i : Nat} {v : Int32} (hp : T p = -1) (h : sp N w T y i = false) : sp N w (upd T p v) y i = false ∧ at_ N w y i ≠ p := by
  have h1 := of_decide_eq_false h
  have h2 : at_ N w y i ≠ p := fun e => h1 (Or.inr (by rw [e]; exact hp))
  refine ⟨decide_eq_false ?_, h2⟩
  rw [upd_ne h2]
  exact h1
theorem rch_put {N w : Nat} {T : Nat → Int32} {p y j : Nat} {v : Int32} (hp : T p = -1) (hy : y ≤ 9999) (h : rch N w T y j) : rch N w (upd T p v) y j := by
  obtain ⟨h1, h2, h3⟩ := h
  refine ⟨h1, ?_, fun i hi => (sp_put hp (h3 i hi)).1⟩
  rw [upd_ne]
  · exact h2
  · intro e
    rw [e, hp] at h2
    exact ne_m1 (by omega) h2.symm
theorem rch_new {N w : Nat} {T : Nat → Int32} {x : Nat} (hN : 0 < N) (hf : T (la N w T x) = -1) : rch N w (upd T (la N w T x) (nI x)) x (lk N w T x - 1) := by
  have a := fs_le (sp N w T x) N 0
  have b : ∀ i, i < lk N w T x - 1 → sp N w T x i = false := by
    intro i hi
    refine fs_no (sp N w T x) N 0 i (Nat.zero_le i) ?_
    unfold lk at hi
    split at hi <;> omega
  refine ⟨by have := lk_le N w T x; omega, ?_, fun i hi => (sp_put hf (b i hi)).1⟩
  show upd T (la N w T x) (nI x) (la N w T x) = nI x
  exact upd_same
theorem gd_put {N w : Nat} {T : Nat → Int32} {x : Nat} (hN : 0 < N) (hx : x ≤ 9999) (hf : T (la N w T x) = -1) (h : gd N w T) : gd N w (upd T (la N w T x) (nI x)) := by
  intro k hk h0
  by_cases e : k = la N w T x
  · subst e
    exact ⟨x, lk N w T x - 1, hx, upd_same, rfl, rch_new hN hf⟩
  · rw [upd_ne e] at h0 ⊢
    obtain ⟨y, j, hy, h1, h2, h3⟩ := h k hk h0
    exact ⟨y, j, hy, h1, h2, rch_put hf hy h3⟩
theorem lx_of {N w : Nat} {T : Nat → Int32} {k x j : Nat} (hx : x ≤ 9999) (h1 : T k = nI x) (h : rch N w T x j) : lx N w T k = j + 1 := by
  rw [lx_p (x := x) (by rw [h1]; exact nI_pos' (by omega)) (by rw [h1]; exact nI_clamp (by omega))]
  exact rch_lk h
theorem sm_put {N w : Nat} {T : Nat → Int32} {x : Nat} (hN : 0 < N) (hx : x ≤ 9999) (hf : T (la N w T x) = -1) (h : gd N w T) : sm N w (upd T (la N w T x) (nI x)) = sm N w T + lk N w T x := by
  have hp := la_lt hN w T x
  have key := sum_put (h := fun k => if k < N then lx N w T k else 0) (h' := fun k => if k < N then lx N w (upd T (la N w T x) (nI x)) k else 0) (p := la N w T x) (v := lk N w T x) (fun k hk => ?_) ?_ ?_ N
  · have e : ∀ T', fo (fun a i => a + (if i < N then lx N w T' i else 0)) N 0 0 = sm N w T' := fun T' => fo_cong N 0 0 (fun a j _ hj => by rw [if_pos (by omega)])
    rw [e, e, if_pos hp] at key
    exact key
  · show (if k < N then _ else 0) = (if k < N then _ else 0)
    by_cases hkN : k < N
    · rw [if_pos hkN, if_pos hkN]
      by_cases h0 : 0 ≤ T k
      · obtain ⟨y, j, hy, h1, h2, h3⟩ := h k hkN h0
        rw [lx_of hy h1 h3, lx_of hy (by rw [upd_ne hk]; exact h1) (rch_put hf hy h3)]
      · rw [lx_0 h0, lx_0 (by rw [upd_ne hk]; exact h0)]
    · rw [if_neg hkN, if_neg hkN]
  · show (if la N w T x < N then _ else 0) = 0
    rw [if_pos hp]
    exact lx_0 (by rw [hf]; decide)
  · show (if la N w T x < N then _ else 0) = _
    rw [if_pos hp, lx_of hx upd_same (rch_new hN hf)]
    have := lk_pos hN w T x
    omega
theorem hg_sum {n N w : Nat} {f g : Nat → Int32} (hN : 0 < N) (hO : Ok n f g) : ∀ (q i s : Nat) (T U T2 U2 : Nat → Int32) (z : Nat), i + q = n → gd N w T → sm N w T = s → hg N w f g q i T U s = some (T2, U2, z) → gd N w T2 ∧ sm N w T2 = z
  | 0, i, s, T, U, T2, U2, z, h1, h2, h3, h4 => by
    rw [hg] at h4
    injection h4 with h4
    injection h4 with e1 e2
    injection e2 with e2 e3
    rw [← e1, ← e3]
    exact ⟨h2, h3⟩
  | q + 1, i, s, T, U, T2, U2, z, h1, h2, h3, h4 => by
    by_cases h0 : 0 ≤ f i
    · obtain ⟨x, hx, ex, ez⟩ := hO.num (k := i) (by omega) h0
      by_cases hf : T (la N w T x) = -1
      · refine hg_sum hN hO q (i + 1) _ _ _ T2 U2 z (by omega) (gd_put hN hx hf h2) ?_ (hg_y h0 ex ez hf h4)
        rw [sm_put hN hx hf h2, h3]
      · exact absurd (hg_no h0 ez hf h4) (by intro h; cases h)
    · exact hg_sum hN hO q (i + 1) s T U T2 U2 z (by omega) h2 h3 (hg_n h0 h4)
theorem sm_free {N w : Nat} : ∀ {M : Nat}, fo (fun a i => a + lx N w (fun _ => -1) i) M 0 0 = 0
  | 0 => rfl
  | M + 1 => by rw [fo_top, sm_free, lx_0 (by decide)]
theorem HG_sum {n N w : Nat} {f g T U : Nat → Int32} {z : Nat} (hN : 0 < N) (hO : Ok n f g) (h : HG n f g N w = some (T, U, z)) : sm N w T = z :=
  (hg_sum hN hO n 0 0 _ _ T U z (Nat.zero_add n) (fun k _ h0 => absurd h0 (by decide)) sm_free h).2
theorem LW_some {n N w : Nat} {f g T U : Nat → Int32} {z : Nat} (h : HG n f g N w = some (T, U, z)) : LW n f g N w = nI z := by rw [LW, h]
theorem LW_none {n N w : Nat} {f g : Nat → Int32} (h : HG n f g N w = none) : LW n f g N w = -1 := by rw [LW, h]
theorem sm_le {n w : Nat} {f : Nat → Int32} : ∀ M, fo (fun a i => a + lx n w f i) M 0 0 ≤ M * n
  | 0 => by rw [Nat.zero_mul]; exact Nat.le_refl 0
  | M + 1 => by
    rw [fo_top, Nat.succ_mul]
    exact Nat.add_le_add (sm_le M) (lx_le n w f M)
theorem LW_cases {n N w : Nat} {f g : Nat → Int32} (hN : 0 < N) (hN40 : N ≤ 40) (hO : Ok n f g) : (LW n f g N w = -1 ∧ HG n f g N w = none) ∨ ∃ T U z, z ≤ 1600 ∧ HG n f g N w = some (T, U, z) ∧ LW n f g N w = nI z := by
  cases h : HG n f g N w with
  | none => exact Or.inl ⟨LW_none h, rfl⟩
  | some v =>
    obtain ⟨T, U, z⟩ := v
    refine Or.inr ⟨T, U, z, ?_, rfl, LW_some h⟩
    rw [← HG_sum hN hO h]
    exact Nat.le_trans (sm_le N) (Nat.le_trans (Nat.mul_le_mul hN40 hN40) (by decide))
theorem ct_le (n : Nat) (f : Nat → Int32) (v : Int32) : ∀ M, fo (fun a i => if st (f i) = v then a + 1 else a) M 0 0 ≤ M
  | 0 => Nat.le_refl 0
  | M + 1 => by
    have ih := ct_le n f v M
    rw [fo_top]
    split <;> omega
/-- sweeping, whole -/
def swp (n : Nat) (f : Nat → Int32) : (Nat → Int32) × Nat := if ct n f (nI 2) = n then (fun _ => -1, n) else sw n (2 * n) f 0
theorem ct_all {f : Nat → Int32} {v : Int32} : ∀ M, fo (fun a i => if st (f i) = v then a + 1 else a) M 0 0 = M → ∀ k, k < M → st (f k) = v
  | 0, _, k, hk => absurd hk (Nat.not_lt_zero k)
  | M + 1, h, k, hk => by
    rw [fo_top] at h
    have ih := ct_le 0 f v M
    by_cases e : st (f M) = v
    · rw [if_pos e] at h
      by_cases e2 : k = M
      · rw [e2]; exact e
      · exact ct_all M (by omega) k (by omega)
    · rw [if_neg e] at h
      omega
theorem st_2 {x : Int32} (h : st x = nI 2) : x = -2 := by
  unfold st at h
  split at h
  · exact absurd h (by decide)
  · split at h
    · assumption
    · exact absurd h (by decide)
theorem RS.all {n w : Nat} {F G f g F3 G3 : Nat → Int32} (S : RS n w F G f g) (h : ct n f (nI 2) = n) (hF : ∀ k, k < 40 → F3 k = -1) (hG : ∀ k, k < 40 → G3 k = nI 0) : RS n w F3 G3 (fun _ => -1) g := by
  obtain ⟨a1, a2, a3, h1, h2, hO⟩ := S
  have hg : ∀ k, k < n → g k = nI 0 := fun k hk => (hO.neg hk (by rw [st_2 (ct_all n h k hk)]; decide)).2
  exact ⟨a1, a2, a3, fun k hk => hF k (by omega), fun k hk => (hG k (by omega)).trans (hg k hk).symm, fun k hk => Or.inl ⟨rfl, hg k hk⟩⟩
theorem fd_cases {n w : Nat} {f : Nat → Int32} {x : Nat} (hn : 0 < n) (hn40 : n ≤ 40) (h : ¬ fd n w f x = -1) : fd n w f x = nI (la n w f x) ∧ f (la n w f x) = nI x := by
  unfold fd at h ⊢
  by_cases e : f (la n w f x) = nI x
  · rw [if_pos e]; exact ⟨rfl, e⟩
  · rw [if_neg e] at h; exact absurd rfl h
theorem tk_cases {n w : Nat} {f : Nat → Int32} {x : Nat} (hn : 0 < n) : ∀ k, tk n w f x k = -1 ∨ ∃ p, p < n ∧ tk n w f x k = nI p ∧ f p = -2
  | 0 => Or.inl rfl
  | k + 1 => by
    rw [tk]
    split
    · rename_i h
      exact Or.inr ⟨_, at_lt hn w x k, rfl, h.2⟩
    · exact tk_cases hn k
theorem op_cases {n w : Nat} {f : Nat → Int32} {x : Nat} (hn : 0 < n) (h : ¬ op n w f x = -1) : ∃ p, p < n ∧ op n w f x = nI p ∧ ¬ 0 ≤ f p := by
  unfold op at h ⊢
  by_cases e : tk n w f x (lk n w f x) = -1
  · rw [if_pos e] at h ⊢
    unfold fr at h ⊢
    by_cases e2 : f (la n w f x) = -1
    · rw [if_pos e2]; exact ⟨_, la_lt hn w f x, rfl, by rw [e2]; decide⟩
    · rw [if_neg e2] at h; exact absurd rfl h
  · rw [if_neg e] at h ⊢
    rcases tk_cases (w := w) (f := f) (x := x) hn (lk n w f x) with h1 | ⟨p, hp, h1, h2⟩
    · exact absurd h1 e
    · exact ⟨p, hp, h1, by rw [h2]; decide⟩
theorem pl_cases {n w : Nat} {f : Nat → Int32} {x : Nat} (hn : 0 < n) (h : ¬ pl n w f x = -1) : ∃ p, p < n ∧ pl n w f x = nI p := by
  unfold pl at h ⊢
  by_cases e : hs n f x = 0
  · rw [if_pos e] at h ⊢
    obtain ⟨p, hp, h1, -⟩ := op_cases hn h
    exact ⟨p, hp, h1⟩
  · rw [if_neg e] at h; exact absurd rfl h
theorem fh_y {n w : Nat} {f g : Nat → Int32} {v q i : Nat} (h2 : fs (hwS n w f g v) (q + 1) i = fs (hwS n w f g v) 38 3) (h : 0 ≤ LW n f g i w ∧ LW n f g i w ≤ nI v) (hi : i < 41) : nI i = fh n w f g v := by
  rw [fs_y (decide_eq_true h)] at h2
  unfold fh
  rw [← h2, if_pos hi]
theorem fh_n {n w : Nat} {f g : Nat → Int32} {v q i K : Nat} (h2 : fs (hwS n w f g v) (q + 1) i = K) (h : ¬ (0 ≤ LW n f g i w ∧ LW n f g i w ≤ nI v)) : fs (hwS n w f g v) q (i + 1) = K := by
  rw [fs_n (decide_eq_false h)] at h2
  exact h2
theorem fh_z {n w : Nat} {f g : Nat → Int32} {v i : Nat} (h2 : fs (hwS n w f g v) 0 i = fs (hwS n w f g v) 38 3) (hi : i + 0 = 41) : -1 = fh n w f g v := by
  rw [fs_z] at h2
  unfold fh
  rw [← h2, if_neg (by omega)]
theorem to_F {F T : Nat → Int32} {i : Nat} {v d : Int32} (h : ∀ k, k < 40 → F k = if k < i then T k else d) (hv : v = T i) : ∀ k, k < 40 → upd F i v k = if k < i + 1 then T k else d := by
  intro k hk
  by_cases e : k = i
  · rw [e, upd_same, if_pos (Nat.lt_succ_self i)]; exact hv
  · rw [upd_ne e, h k hk]
    by_cases e2 : k < i
    · rw [if_pos e2, if_pos (by omega)]
    · rw [if_neg e2, if_neg (by omega)]
theorem to_n {F T : Nat → Int32} {i : Nat} {d : Int32} (h : ∀ k, k < 40 → F k = if k < i then T k else d) (hv : T i = d) : ∀ k, k < 40 → F k = if k < i + 1 then T k else d := by
  intro k hk
  rw [h k hk]
  by_cases e : k = i
  · rw [e, if_neg (Nat.lt_irrefl i), if_pos (Nat.lt_succ_self i)]; exact hv.symm
  · by_cases e2 : k < i
    · rw [if_pos e2, if_pos (by omega)]
    · rw [if_neg e2, if_neg (by omega)]
theorem nt_neg {N : Nat} {T U : Nat → Int32} (hO : Ok N T U) (hT : nt N T) {k : Nat} (hk : k < N) (h : ¬ 0 ≤ T k) : T k = -1 ∧ U k = nI 0 := by
  obtain ⟨h1, h2⟩ := hO.neg hk h
  exact ⟨h1.elim id (fun z => absurd z (hT k hk)), h2⟩
end
section
/-! CoatHooks: what changes the theatre or its trial -/
theorem le_of_nlt {x y : Int32} (h : ¬ x < y) : y ≤ x := by rw [Int32.lt_iff_toInt_lt] at h; rw [Int32.le_iff_toInt_le]; omega
theorem k_X1_hangAnewOnTrial : yX1_hangAnewOnTrial.cls = RX1 ∧ yX1_hangAnewOnTrial.cls ≠ "java/lang/invoke/MethodHandle" ∧ yX1_hangAnewOnTrial.cls ≠ "java/lang/invoke/VarHandle" ∧ (parseMethodDescriptor yX1_hangAnewOnTrial.desc).map (fun d => d.parameters.length) = some 2 := by decide +kernel
set_option maxHeartbeats 4000000 in
set_option maxRecDepth 100000 in
theorem m_X1_hangAnewOnTrial (l : Launch) (D : va_G) (cI : ClassId) (o r t a1 a2 b1 b2 : Nat) {n w : Nat} {F G f g : Nat → Int32} (S : RS n w F G f g) (n2 w2 : Nat) (F2 G2 : Nat → Int32) (N w1 : Nat) (hN3 : 3 ≤ N) (hN40 : N ≤ 40) (hw1 : w1 ≤ 2) (sz : Nat) : Met l yX1_hangAnewOnTrial wsX1_hangAnewOnTrial ({ frames := 3, cells := 0, slots := 0, locals := 70 } : Room) (PM D [(cI, .int)] [.ref o, .int (nI N), .int (nI w1)] sz (clw cI o r t a1 a2 b1 b2 n w F G n2 w2 F2 G2)) (qm_i (fun rr H1 => ∃ F3 G3 : Nat → Int32, va_P D vwCl (clw cI o r t a1 a2 b1 b2 n w F G N w1 F3 G3) H1 ∧ ((rr = nI 1 ∧ ∃ (T U : Nat → Int32) (z : Nat), HG n f g N w1 = some (T, U, z) ∧ RS N w1 F3 G3 T U ∧ nt N T) ∨ (rr = nI 0 ∧ HG n f g N w1 = none))) (va_A (clw cI o r t a1 a2 b1 b2 n w F G n2 w2 F2 G2) sz)) 0 0 (va_A (clw cI o r t a1 a2 b1 b2 n w F G n2 w2 F2 G2) sz) := by
  obtain ⟨hn3, hn, hw2, hF, hG, hO⟩ := id S
  refine bd_m (Qc := (fun A => qm_i (fun rr H1 => ∃ F3 G3 : Nat → Int32, va_P D vwCl (clw cI o r t a1 a2 b1 b2 n w F G N w1 F3 G3) H1 ∧ ((rr = nI 1 ∧ ∃ (T U : Nat → Int32) (z : Nat), HG n f g N w1 = some (T, U, z) ∧ RS N w1 F3 G3 T U ∧ nt N T) ∨ (rr = nI 0 ∧ HG n f g N w1 = none))) A)) (cc := cX1_hangAnewOnTrial) (maxL := 6) (ret := (some .boolean)) (by decide) rfl (Nat.le_of_ble_eq_true rfl) ?_
  intro p e s m args below meth c ls A CF hr hlocks hK hP hD hA hS hl hin
  obtain ⟨hx, hb, hml, hown, hts⟩ := id CF
  have hl : lv_has ls 6 [(0, .ref o), (1, .int (nI N)), (2, .int (nI w1))] := hl
  have hP : va_P D vwCl [(o, .inr (1, [.ref r, .ref t])), (r, .inr (0, [.ref a1, .ref a2, .int (nI n), .int (nI w)])), (a1, .inl (cI, 40, .inl F)), (a2, .inl (cI, 40, .inl G)), (t, .inr (0, [.ref b1, .ref b2, .int (nI n2), .int (nI w2)])), (b1, .inl (cI, 40, .inl F2)), (b2, .inl (cI, 40, .inl G2))] s.heap := hP
  have hD : va_D A [(o, .inr (1, [.ref r, .ref t])), (r, .inr (0, [.ref a1, .ref a2, .int (nI n), .int (nI w)])), (a1, .inl (cI, 40, .inl F)), (a2, .inl (cI, 40, .inl G)), (t, .inr (0, [.ref b1, .ref b2, .int (nI n2), .int (nI w2)])), (b1, .inl (cI, 40, .inl F2)), (b2, .inl (cI, 40, .inl G2))] := hD
  generalize hH0 : s.heap = H at hP
  have hS : va_S A s.heap H [] := by rw [← hH0]; exact va_S.rf
  generalize hlc0 : ([] : List Loc) = locs at hS ⊢
  refine lv_aload_n hx hb dX1_hangAnewOnTrial_0 rfl (lv_at hl 0 rfl) ?_
  refine va_get (D := D) (ci := 1) (v := .ref t) (C := RX1) (T := TX1) (N := 2) hx hb hts (fun _ h => (List.mem_cons_of_mem _ (List.mem_append_left _ (List.mem_append_right _ h)))) hown hK hP 0 rfl rfl 1 (by decide) (hts _ (List.mem_of_getElem? (i := 1) rfl)) (fun _ h9 => h9) rfl dX1_hangAnewOnTrial_1 ?_
  refine lv_iload_n hx hb dX1_hangAnewOnTrial_4 rfl (lv_at hl 1 rfl) ?_
  refine lv_iload_n hx hb dX1_hangAnewOnTrial_5 rfl (lv_at hl 2 rfl) ?_
  have hPc : va_P D vwCl [(t, .inr (0, [.ref b1, .ref b2, .int (nI n2), .int (nI w2)])), (b1, .inl (cI, 40, .inl F2)), (b2, .inl (cI, 40, .inl G2))] H := hP.sub [4, 5, 6] rfl
  have hDc : va_D A [(t, .inr (0, [.ref b1, .ref b2, .int (nI n2), .int (nI w2)])), (b1, .inl (cI, 40, .inl F2)), (b2, .inl (cI, 40, .inl G2))] := hD.sub [4, 5, 6] (by decide) rfl
  have hFc := va_free (wc := [(t, .inr (0, [.ref b1, .ref b2, .int (nI n2), .int (nI w2)])), (b1, .inl (cI, 40, .inl F2)), (b2, .inl (cI, 40, .inl G2))]) hD hS hA [4, 5, 6] rfl
  refine pq_v (va_runV (rest := []) CF (m_X0_clear l D cI t b1 b2 n2 w2 F2 G2 N w1 H.size) (cwV 2 hts gX1_hangAnewOnTrial_X0_clear rfl rfl rfl k_X0_clear ⟨Nat.le_of_ble_eq_true rfl, Nat.le_of_ble_eq_true rfl⟩) (mv_pre hK hPc hDc rfl rfl rfl) rfl rfl hl.1 rfl (lv_room (Nat.le_of_ble_eq_true rfl)) dX1_hangAnewOnTrial_6 ⟨Nat.le_of_ble_eq_true rfl, Nat.le_of_ble_eq_true rfl⟩) hS hFc (fun H locs hB hk1 hS => ?_)
  obtain ⟨F3, G3, hF3, hG3, hP1⟩ := hB
  obtain ⟨hP, hD⟩ := jn (wb := [(o, .inr (1, [.ref r, .ref t])), (r, .inr (0, [.ref a1, .ref a2, .int (nI n), .int (nI w)])), (a1, .inl (cI, 40, .inl F)), (a2, .inl (cI, 40, .inl G)), (t, .inr (0, [.ref b1, .ref b2, .int (nI N), .int (nI w1)])), (b1, .inl (cI, 40, .inl F3)), (b2, .inl (cI, 40, .inl G3))]) (w1 := [(t, .inr (0, [.ref b1, .ref b2, .int (nI N), .int (nI w1)])), (b1, .inl (cI, 40, .inl F3)), (b2, .inl (cI, 40, .inl G3))]) hP hD [4, 5, 6] [0, 1, 2, 3] rfl rfl rfl rfl 7 rfl (by decide) (by decide) hk1 hP1
  refine lv_iconst (v := nI 0) hx hb dX1_hangAnewOnTrial_9 (by decide) ?_
  refine lv_istore_n (lv' := [(3, .int (nI 0)), (0, .ref o), (1, .int (nI N)), (2, .int (nI w1))]) hx hb dX1_hangAnewOnTrial_10 rfl hl (by decide) rfl (fun ls hl => ?_)
  have LP11 : ∀ (q i z : Nat) (F4 G4 T U : Nat → Int32), i + q = n → RS N w1 F4 G4 T U → nt N T → hg N w1 f g q i T U z = HG n f g N w1 → ∀ (H : Heap) (locs : List Loc), va_P D vwCl [(o, .inr (1, [.ref r, .ref t])), (r, .inr (0, [.ref a1, .ref a2, .int (nI n), .int (nI w)])), (a1, .inl (cI, 40, .inl F)), (a2, .inl (cI, 40, .inl G)), (t, .inr (0, [.ref b1, .ref b2, .int (nI N), .int (nI w1)])), (b1, .inl (cI, 40, .inl F4)), (b2, .inl (cI, 40, .inl G4))] H → va_D A [(o, .inr (1, [.ref r, .ref t])), (r, .inr (0, [.ref a1, .ref a2, .int (nI n), .int (nI w)])), (a1, .inl (cI, 40, .inl F)), (a2, .inl (cI, 40, .inl G)), (t, .inr (0, [.ref b1, .ref b2, .int (nI N), .int (nI w1)])), (b1, .inl (cI, 40, .inl F4)), (b2, .inl (cI, 40, .inl G4))] → va_S A s.heap H locs → ∀ (ls : Array Slot), lv_has ls 6 [(3, .int (nI i)), (0, .ref o), (1, .int (nI N)), (2, .int (nI w1))] → W p l e ({ frames := 3, cells := 0, slots := 0, locals := 70 } : Room) s m args below meth c H locs 0 0 (MQ below (qm_i (fun rr H1 => ∃ F3 G3 : Nat → Int32, va_P D vwCl (clw cI o r t a1 a2 b1 b2 n w F G N w1 F3 G3) H1 ∧ ((rr = nI 1 ∧ ∃ (T U : Nat → Int32) (z : Nat), HG n f g N w1 = some (T, U, z) ∧ RS N w1 F3 G3 T U ∧ nt N T) ∨ (rr = nI 0 ∧ HG n f g N w1 = none))) A) args s 0 0 A) (F0 m 11 ls []) := by
    intro q
    induction q with
    | zero =>
      intro i z F4 G4 T U h1 S4 hT h2 H locs hP hD hS ls hl
      refine lv_iload_n hx hb dX1_hangAnewOnTrial_11 rfl (lv_at hl 0 rfl) ?_
      refine lv_aload_n hx hb dX1_hangAnewOnTrial_12 rfl (lv_at hl 1 rfl) ?_
      refine va_get (D := D) (ci := 1) (v := .ref r) (C := RX1) (T := TX1) (N := 2) hx hb hts (fun _ h => (List.mem_cons_of_mem _ (List.mem_append_left _ (List.mem_append_right _ h)))) hown hK hP 0 rfl rfl 0 (by decide) (hts _ (List.mem_of_getElem? (i := 2) rfl)) (fun _ h9 => h9) rfl dX1_hangAnewOnTrial_13 ?_
      refine pv_i CF (m_X0_hookCount l D cI r a1 a2 S ) (cwV 0 hts gX1_hangAnewOnTrial_X0_hookCount rfl rfl rfl k_X0_hookCount ⟨Nat.le_of_ble_eq_true rfl, Nat.le_of_ble_eq_true rfl⟩) hK (hP.sub [1, 2, 3] rfl) rfl rfl rfl rfl hl.1 rfl (Nat.le_of_ble_eq_true rfl) dX1_hangAnewOnTrial_16 ⟨Nat.le_of_ble_eq_true rfl, Nat.le_of_ble_eq_true rfl⟩ ?_
      refine bn_ge (tgt := 82) hx hb dX1_hangAnewOnTrial_19 (by decide) (by omega) (by omega) (fun c19 => ?_) (fun c19 => ?_)
      · skip
        refine lv_iconst (v := nI 1) hx hb dX1_hangAnewOnTrial_82 (by decide) ?_
        exact em_z hx hb hr hlocks hS (Or.inr rfl) (⟨F4, G4, hP, Or.inl ⟨rfl, T, U, z, h2.symm, S4, hT⟩⟩) dX1_hangAnewOnTrial_83
      · skip
        omega
    | succ q ih =>
      intro i z F4 G4 T U h1 S4 hT h2 H locs hP hD hS ls hl
      refine lv_iload_n hx hb dX1_hangAnewOnTrial_11 rfl (lv_at hl 0 rfl) ?_
      refine lv_aload_n hx hb dX1_hangAnewOnTrial_12 rfl (lv_at hl 1 rfl) ?_
      refine va_get (D := D) (ci := 1) (v := .ref r) (C := RX1) (T := TX1) (N := 2) hx hb hts (fun _ h => (List.mem_cons_of_mem _ (List.mem_append_left _ (List.mem_append_right _ h)))) hown hK hP 0 rfl rfl 0 (by decide) (hts _ (List.mem_of_getElem? (i := 2) rfl)) (fun _ h9 => h9) rfl dX1_hangAnewOnTrial_13 ?_
      refine pv_i CF (m_X0_hookCount l D cI r a1 a2 S ) (cwV 0 hts gX1_hangAnewOnTrial_X0_hookCount rfl rfl rfl k_X0_hookCount ⟨Nat.le_of_ble_eq_true rfl, Nat.le_of_ble_eq_true rfl⟩) hK (hP.sub [1, 2, 3] rfl) rfl rfl rfl rfl hl.1 rfl (Nat.le_of_ble_eq_true rfl) dX1_hangAnewOnTrial_16 ⟨Nat.le_of_ble_eq_true rfl, Nat.le_of_ble_eq_true rfl⟩ ?_
      refine bn_ge (tgt := 82) hx hb dX1_hangAnewOnTrial_19 (by decide) (by omega) (by omega) (fun c19 => ?_) (fun c19 => ?_)
      · skip
        omega
      · skip
        refine lv_aload_n hx hb dX1_hangAnewOnTrial_22 rfl (lv_at hl 1 rfl) ?_
        refine va_get (D := D) (ci := 1) (v := .ref r) (C := RX1) (T := TX1) (N := 2) hx hb hts (fun _ h => (List.mem_cons_of_mem _ (List.mem_append_left _ (List.mem_append_right _ h)))) hown hK hP 0 rfl rfl 0 (by decide) (hts _ (List.mem_of_getElem? (i := 2) rfl)) (fun _ h9 => h9) rfl dX1_hangAnewOnTrial_23 ?_
        refine lv_iload_n hx hb dX1_hangAnewOnTrial_26 rfl (lv_at hl 0 rfl) ?_
        refine pv_i CF (m_X0_coatOn l D cI r a1 a2 S i (by omega)) (cwV 1 hts gX1_hangAnewOnTrial_X0_coatOn rfl rfl rfl k_X0_coatOn ⟨Nat.le_of_ble_eq_true rfl, Nat.le_of_ble_eq_true rfl⟩) hK (hP.sub [1, 2, 3] rfl) rfl rfl rfl rfl hl.1 rfl (Nat.le_of_ble_eq_true rfl) dX1_hangAnewOnTrial_27 ⟨Nat.le_of_ble_eq_true rfl, Nat.le_of_ble_eq_true rfl⟩ ?_
        refine tp_i (y := (cn (f i))) (cn_hd (by omega)) ?_
        refine lv_istore (lv' := [(4, .int (cn (f i))), (3, .int (nI i)), (0, .ref o), (1, .int (nI N)), (2, .int (nI w1))]) hx hb dX1_hangAnewOnTrial_30 hl (by decide) rfl (fun ls hl => ?_)
        refine lv_iload hx hb dX1_hangAnewOnTrial_32 (lv_at hl 0 rfl) ?_
        refine lv_iconst (v := (-1)) hx hb dX1_hangAnewOnTrial_34 (by decide) ?_
        refine lv_icmp_eq (tgt := 76) hx hb dX1_hangAnewOnTrial_35 (by decide) (fun c35 => ?_) (fun c35 => ?_)
        · skip
          refine lv_iinc (v := (nI (i + 1))) (lv' := [(3, .int (nI (i + 1))), (4, .int (cn (f i))), (0, .ref o), (1, .int (nI N)), (2, .int (nI w1))]) hx hb dX1_hangAnewOnTrial_76 hl (k := 1) rfl (inc1 _) (by decide) rfl (fun ls hl => ?_)
          refine lv_goto (tgt := 11) hx hb dX1_hangAnewOnTrial_79 (by decide) ?_
          exact ih (i + 1) z F4 G4 T U (by omega) S4 hT (hg_n (cn_lt c35) h2) _ _ hP hD hS _ (lv_sub hl [0, 2, 3, 4] rfl)
        · skip
          obtain ⟨x, hx9, ex, ez⟩ := hO.num (k := i) (by omega) (cn_ge c35)
          rw [(cn_id (cn_ge c35)).trans ex] at hl
          refine lv_aload_n hx hb dX1_hangAnewOnTrial_38 rfl (lv_at hl 2 rfl) ?_
          refine va_get (D := D) (ci := 1) (v := .ref t) (C := RX1) (T := TX1) (N := 2) hx hb hts (fun _ h => (List.mem_cons_of_mem _ (List.mem_append_left _ (List.mem_append_right _ h)))) hown hK hP 0 rfl rfl 1 (by decide) (hts _ (List.mem_of_getElem? (i := 1) rfl)) (fun _ h9 => h9) rfl dX1_hangAnewOnTrial_39 ?_
          refine lv_iload hx hb dX1_hangAnewOnTrial_42 (lv_at hl 0 rfl) ?_
          refine pv_i CF (m_X0_openHook l D cI t b1 b2 S4 x hx9) (cwV 1 hts gX1_hangAnewOnTrial_X0_openHook rfl rfl rfl k_X0_openHook ⟨Nat.le_of_ble_eq_true rfl, Nat.le_of_ble_eq_true rfl⟩) hK (hP.sub [4, 5, 6] rfl) rfl rfl rfl rfl hl.1 rfl (Nat.le_of_ble_eq_true rfl) dX1_hangAnewOnTrial_44 ⟨Nat.le_of_ble_eq_true rfl, Nat.le_of_ble_eq_true rfl⟩ ?_
          refine lv_istore (lv' := [(5, .int (op N w1 T x)), (4, .int (nI x)), (3, .int (nI i)), (0, .ref o), (1, .int (nI N)), (2, .int (nI w1))]) hx hb dX1_hangAnewOnTrial_47 hl (by decide) rfl (fun ls hl => ?_)
          refine lv_iload hx hb dX1_hangAnewOnTrial_49 (lv_at hl 0 rfl) ?_
          refine lv_iconst (v := (-1)) hx hb dX1_hangAnewOnTrial_51 (by decide) ?_
          refine lv_icmp_ne (tgt := 57) hx hb dX1_hangAnewOnTrial_52 (by decide) (fun c52 => ?_) (fun c52 => ?_)
          · skip
            obtain ⟨hfr, eop⟩ := nt_free (by omega) hT c52
            rw [eop] at hl
            refine lv_aload_n hx hb dX1_hangAnewOnTrial_57 rfl (lv_at hl 3 rfl) ?_
            refine va_get (D := D) (ci := 1) (v := .ref t) (C := RX1) (T := TX1) (N := 2) hx hb hts (fun _ h => (List.mem_cons_of_mem _ (List.mem_append_left _ (List.mem_append_right _ h)))) hown hK hP 0 rfl rfl 1 (by decide) (hts _ (List.mem_of_getElem? (i := 1) rfl)) (fun _ h9 => h9) rfl dX1_hangAnewOnTrial_58 ?_
            refine lv_iload hx hb dX1_hangAnewOnTrial_61 (lv_at hl 0 rfl) ?_
            refine lv_iload hx hb dX1_hangAnewOnTrial_63 (lv_at hl 1 rfl) ?_
            refine lv_aload_n hx hb dX1_hangAnewOnTrial_65 rfl (lv_at hl 3 rfl) ?_
            refine va_get (D := D) (ci := 1) (v := .ref r) (C := RX1) (T := TX1) (N := 2) hx hb hts (fun _ h => (List.mem_cons_of_mem _ (List.mem_append_left _ (List.mem_append_right _ h)))) hown hK hP 0 rfl rfl 0 (by decide) (hts _ (List.mem_of_getElem? (i := 2) rfl)) (fun _ h9 => h9) rfl dX1_hangAnewOnTrial_66 ?_
            refine lv_iload_n hx hb dX1_hangAnewOnTrial_69 rfl (lv_at hl 2 rfl) ?_
            refine pv_i CF (m_X0_weightOn l D cI r a1 a2 S i (by omega)) (cwV 1 hts gX1_hangAnewOnTrial_X0_weightOn rfl rfl rfl k_X0_weightOn ⟨Nat.le_of_ble_eq_true rfl, Nat.le_of_ble_eq_true rfl⟩) hK (hP.sub [1, 2, 3] rfl) rfl rfl rfl rfl hl.1 rfl (Nat.le_of_ble_eq_true rfl) dX1_hangAnewOnTrial_70 ⟨Nat.le_of_ble_eq_true rfl, Nat.le_of_ble_eq_true rfl⟩ ?_
            refine tp_i (y := (g i)) (if_pos (by omega)) ?_
            obtain ⟨y, hy1, hy2, ey⟩ := hO.wt (k := i) (by omega) (cn_ge c35)
            have hPc : va_P D vwCl [(t, .inr (0, [.ref b1, .ref b2, .int (nI N), .int (nI w1)])), (b1, .inl (cI, 40, .inl F4)), (b2, .inl (cI, 40, .inl G4))] H := hP.sub [4, 5, 6] rfl
            have hDc : va_D A [(t, .inr (0, [.ref b1, .ref b2, .int (nI N), .int (nI w1)])), (b1, .inl (cI, 40, .inl F4)), (b2, .inl (cI, 40, .inl G4))] := hD.sub [4, 5, 6] (by decide) rfl
            have hFc := va_free (wc := [(t, .inr (0, [.ref b1, .ref b2, .int (nI N), .int (nI w1)])), (b1, .inl (cI, 40, .inl F4)), (b2, .inl (cI, 40, .inl G4))]) hD hS hA [4, 5, 6] rfl
            refine pq_v (va_runV (rest := []) CF (m_X0_put l D cI t b1 b2 N w1 F4 G4 (la N w1 T x) (nI x) (g i) (by have := la_lt (show 0 < N by omega) w1 T x; omega) H.size) (cwV 3 hts gX1_hangAnewOnTrial_X0_put rfl rfl rfl k_X0_put ⟨Nat.le_of_ble_eq_true rfl, Nat.le_of_ble_eq_true rfl⟩) (mv_pre hK hPc hDc rfl rfl rfl) rfl rfl hl.1 rfl (lv_room (Nat.le_of_ble_eq_true rfl)) dX1_hangAnewOnTrial_73 ⟨Nat.le_of_ble_eq_true rfl, Nat.le_of_ble_eq_true rfl⟩) hS hFc (fun H locs hB hk1 hS => ?_)
            have hP1 := hB
            obtain ⟨hP, hD⟩ := jn (wb := [(o, .inr (1, [.ref r, .ref t])), (r, .inr (0, [.ref a1, .ref a2, .int (nI n), .int (nI w)])), (a1, .inl (cI, 40, .inl F)), (a2, .inl (cI, 40, .inl G)), (t, .inr (0, [.ref b1, .ref b2, .int (nI N), .int (nI w1)])), (b1, .inl (cI, 40, .inl (upd F4 (la N w1 T x) (nI x)))), (b2, .inl (cI, 40, .inl (upd G4 (la N w1 T x) (g i))))]) (w1 := [(t, .inr (0, [.ref b1, .ref b2, .int (nI N), .int (nI w1)])), (b1, .inl (cI, 40, .inl (upd F4 (la N w1 T x) (nI x)))), (b2, .inl (cI, 40, .inl (upd G4 (la N w1 T x) (g i))))]) hP hD [4, 5, 6] [0, 1, 2, 3] rfl rfl rfl rfl 7 rfl (by decide) (by decide) hk1 hP1
            refine lv_iinc (v := (nI (i + 1))) (lv' := [(3, .int (nI (i + 1))), (5, .int (nI (la N w1 T x))), (4, .int (nI x)), (0, .ref o), (1, .int (nI N)), (2, .int (nI w1))]) hx hb dX1_hangAnewOnTrial_76 hl (k := 2) rfl (inc1 _) (by decide) rfl (fun ls hl => ?_)
            refine lv_goto (tgt := 11) hx hb dX1_hangAnewOnTrial_79 (by decide) ?_
            exact ih (i + 1) (z + lk N w1 T x) (upd F4 (la N w1 T x) (nI x)) (upd G4 (la N w1 T x) (g i)) (upd T (la N w1 T x) (nI x)) (upd U (la N w1 T x) (g i)) (by omega) (S4.put hx9 hy1 hy2 ey) (nt_put hT hx9) (hg_y (cn_ge c35) ex ez hfr h2) _ _ hP hD hS _ (lv_sub hl [0, 3, 4, 5] rfl)
          · skip
            refine lv_iconst (v := nI 0) hx hb dX1_hangAnewOnTrial_55 (by decide) ?_
            exact em_z hx hb hr hlocks hS (Or.inl rfl) (⟨F4, G4, hP, Or.inr ⟨rfl, hg_no (cn_ge c35) ez (nt_full (by omega) hN40 hT c52) h2⟩⟩) dX1_hangAnewOnTrial_56
  exact LP11 n 0 0 F3 G3 (fun _ => -1) (fun _ => nI 0) (Nat.zero_add n) (RS.clear hN3 hN40 hw1 hF3 hG3) (fun k hk => by show (-1 : Int32) ≠ -2; decide) rfl _ _ hP hD hS _ (lv_sub hl [0, 1, 2, 3] rfl)
theorem k_X1_looksOnTrial : yX1_looksOnTrial.cls = RX1 ∧ yX1_looksOnTrial.cls ≠ "java/lang/invoke/MethodHandle" ∧ yX1_looksOnTrial.cls ≠ "java/lang/invoke/VarHandle" ∧ (parseMethodDescriptor yX1_looksOnTrial.desc).map (fun d => d.parameters.length) = some 2 := by decide +kernel
set_option maxHeartbeats 4000000 in
set_option maxRecDepth 100000 in
theorem m_X1_looksOnTrial (l : Launch) (D : va_G) (cI : ClassId) (o r t a1 a2 b1 b2 : Nat) {n w : Nat} {F G f g : Nat → Int32} (S : RS n w F G f g) (n2 w2 : Nat) (F2 G2 : Nat → Int32) (N w1 : Nat) (hN3 : 3 ≤ N) (hN40 : N ≤ 40) (hw1 : w1 ≤ 2) (sz : Nat) : Met l yX1_looksOnTrial wsX1_looksOnTrial ({ frames := 4, cells := 0, slots := 0, locals := 95 } : Room) (PM D [(cI, .int)] [.ref o, .int (nI N), .int (nI w1)] sz (clw cI o r t a1 a2 b1 b2 n w F G n2 w2 F2 G2)) (qm_i (fun rr H1 => rr = LW n f g N w1 ∧ ∃ F3 G3 : Nat → Int32, va_P D vwCl (clw cI o r t a1 a2 b1 b2 n w F G N w1 F3 G3) H1) (va_A (clw cI o r t a1 a2 b1 b2 n w F G n2 w2 F2 G2) sz)) 0 0 (va_A (clw cI o r t a1 a2 b1 b2 n w F G n2 w2 F2 G2) sz) := by
  obtain ⟨hn3, hn, hw2, hF, hG, hO⟩ := id S
  refine bd_m (Qc := (fun A => qm_i (fun rr H1 => rr = LW n f g N w1 ∧ ∃ F3 G3 : Nat → Int32, va_P D vwCl (clw cI o r t a1 a2 b1 b2 n w F G N w1 F3 G3) H1) A)) (cc := cX1_looksOnTrial) (maxL := 3) (ret := (some .int)) (by decide) rfl (Nat.le_of_ble_eq_true rfl) ?_
  intro p e s m args below meth c ls A CF hr hlocks hK hP hD hA hS hl hin
  obtain ⟨hx, hb, hml, hown, hts⟩ := id CF
  have hl : lv_has ls 3 [(0, .ref o), (1, .int (nI N)), (2, .int (nI w1))] := hl
  have hP : va_P D vwCl [(o, .inr (1, [.ref r, .ref t])), (r, .inr (0, [.ref a1, .ref a2, .int (nI n), .int (nI w)])), (a1, .inl (cI, 40, .inl F)), (a2, .inl (cI, 40, .inl G)), (t, .inr (0, [.ref b1, .ref b2, .int (nI n2), .int (nI w2)])), (b1, .inl (cI, 40, .inl F2)), (b2, .inl (cI, 40, .inl G2))] s.heap := hP
  have hD : va_D A [(o, .inr (1, [.ref r, .ref t])), (r, .inr (0, [.ref a1, .ref a2, .int (nI n), .int (nI w)])), (a1, .inl (cI, 40, .inl F)), (a2, .inl (cI, 40, .inl G)), (t, .inr (0, [.ref b1, .ref b2, .int (nI n2), .int (nI w2)])), (b1, .inl (cI, 40, .inl F2)), (b2, .inl (cI, 40, .inl G2))] := hD
  generalize hH0 : s.heap = H at hP
  have hS : va_S A s.heap H [] := by rw [← hH0]; exact va_S.rf
  generalize hlc0 : ([] : List Loc) = locs at hS ⊢
  refine lv_aload_n hx hb dX1_looksOnTrial_0 rfl (lv_at hl 0 rfl) ?_
  refine lv_iload_n hx hb dX1_looksOnTrial_1 rfl (lv_at hl 1 rfl) ?_
  refine lv_iload_n hx hb dX1_looksOnTrial_2 rfl (lv_at hl 2 rfl) ?_
  have hPc : va_P D vwCl [(o, .inr (1, [.ref r, .ref t])), (r, .inr (0, [.ref a1, .ref a2, .int (nI n), .int (nI w)])), (a1, .inl (cI, 40, .inl F)), (a2, .inl (cI, 40, .inl G)), (t, .inr (0, [.ref b1, .ref b2, .int (nI n2), .int (nI w2)])), (b1, .inl (cI, 40, .inl F2)), (b2, .inl (cI, 40, .inl G2))] H := hP.sub [0, 1, 2, 3, 4, 5, 6] rfl
  have hDc : va_D A [(o, .inr (1, [.ref r, .ref t])), (r, .inr (0, [.ref a1, .ref a2, .int (nI n), .int (nI w)])), (a1, .inl (cI, 40, .inl F)), (a2, .inl (cI, 40, .inl G)), (t, .inr (0, [.ref b1, .ref b2, .int (nI n2), .int (nI w2)])), (b1, .inl (cI, 40, .inl F2)), (b2, .inl (cI, 40, .inl G2))] := hD.sub [0, 1, 2, 3, 4, 5, 6] (by decide) rfl
  have hFc := va_free (wc := [(o, .inr (1, [.ref r, .ref t])), (r, .inr (0, [.ref a1, .ref a2, .int (nI n), .int (nI w)])), (a1, .inl (cI, 40, .inl F)), (a2, .inl (cI, 40, .inl G)), (t, .inr (0, [.ref b1, .ref b2, .int (nI n2), .int (nI w2)])), (b1, .inl (cI, 40, .inl F2)), (b2, .inl (cI, 40, .inl G2))]) hD hS hA [0, 1, 2, 3, 4, 5, 6] rfl
  refine pq_i (va_runV (rest := []) CF (m_X1_hangAnewOnTrial l D cI o r t a1 a2 b1 b2 S n2 w2 F2 G2 N w1 hN3 hN40 hw1 H.size) (cwV 2 hts gX1_looksOnTrial_X1_hangAnewOnTrial rfl rfl rfl k_X1_hangAnewOnTrial ⟨Nat.le_of_ble_eq_true rfl, Nat.le_of_ble_eq_true rfl⟩) (mv_pre hK hPc hDc rfl rfl rfl) rfl rfl hl.1 rfl (lv_room (Nat.le_of_ble_eq_true rfl)) dX1_looksOnTrial_3 ⟨Nat.le_of_ble_eq_true rfl, Nat.le_of_ble_eq_true rfl⟩) hS hFc (fun r1 H locs hB hk1 hS => ?_)
  obtain ⟨F3, G3, hP1, hR⟩ := hB
  obtain ⟨hP, hD⟩ := jn (wb := [(o, .inr (1, [.ref r, .ref t])), (r, .inr (0, [.ref a1, .ref a2, .int (nI n), .int (nI w)])), (a1, .inl (cI, 40, .inl F)), (a2, .inl (cI, 40, .inl G)), (t, .inr (0, [.ref b1, .ref b2, .int (nI N), .int (nI w1)])), (b1, .inl (cI, 40, .inl F3)), (b2, .inl (cI, 40, .inl G3))]) (w1 := [(o, .inr (1, [.ref r, .ref t])), (r, .inr (0, [.ref a1, .ref a2, .int (nI n), .int (nI w)])), (a1, .inl (cI, 40, .inl F)), (a2, .inl (cI, 40, .inl G)), (t, .inr (0, [.ref b1, .ref b2, .int (nI N), .int (nI w1)])), (b1, .inl (cI, 40, .inl F3)), (b2, .inl (cI, 40, .inl G3))]) hP hD [0, 1, 2, 3, 4, 5, 6] [] rfl rfl rfl rfl 7 rfl (by decide) (by decide) hk1 hP1
  rcases hR with ⟨rfl, T, U, z, hHG, S4, hT⟩ | ⟨rfl, hHG⟩
  · skip
    refine bz_eq (tgt := 19) hx hb dX1_looksOnTrial_6 (by decide) (by omega) (fun c6 => ?_) (fun c6 => ?_)
    · skip
      omega
    · skip
      refine lv_aload_n hx hb dX1_looksOnTrial_9 rfl (lv_at hl 0 rfl) ?_
      refine va_get (D := D) (ci := 1) (v := .ref t) (C := RX1) (T := TX1) (N := 2) hx hb hts (fun _ h => (List.mem_cons_of_mem _ (List.mem_append_left _ (List.mem_append_right _ h)))) hown hK hP 0 rfl rfl 1 (by decide) (hts _ (List.mem_of_getElem? (i := 1) rfl)) (fun _ h9 => h9) rfl dX1_looksOnTrial_10 ?_
      refine pv_i CF (m_X0_looksForAll l D cI t b1 b2 S4) (cwV 0 hts gX1_looksOnTrial_X0_looksForAll rfl rfl rfl k_X0_looksForAll ⟨Nat.le_of_ble_eq_true rfl, Nat.le_of_ble_eq_true rfl⟩) hK (hP.sub [4, 5, 6] rfl) rfl rfl rfl rfl hl.1 rfl (Nat.le_of_ble_eq_true rfl) dX1_looksOnTrial_13 ⟨Nat.le_of_ble_eq_true rfl, Nat.le_of_ble_eq_true rfl⟩ ?_
      refine lv_goto (tgt := 20) hx hb dX1_looksOnTrial_16 (by decide) ?_
      exact em_i hx hb hr hlocks hS (⟨by rw [LW_some hHG, HG_sum (by omega) hO hHG], F3, G3, hP⟩) dX1_looksOnTrial_20
  · skip
    refine bz_eq (tgt := 19) hx hb dX1_looksOnTrial_6 (by decide) (by omega) (fun c6 => ?_) (fun c6 => ?_)
    · skip
      refine lv_iconst (v := (-1)) hx hb dX1_looksOnTrial_19 (by decide) ?_
      exact em_i hx hb hr hlocks hS (⟨(LW_none hHG).symm, F3, G3, hP⟩) dX1_looksOnTrial_20
    · skip
      omega
theorem k_X1_bestWay : yX1_bestWay.cls = RX1 ∧ yX1_bestWay.cls ≠ "java/lang/invoke/MethodHandle" ∧ yX1_bestWay.cls ≠ "java/lang/invoke/VarHandle" ∧ (parseMethodDescriptor yX1_bestWay.desc).map (fun d => d.parameters.length) = some 0 := by decide +kernel
set_option maxHeartbeats 4000000 in
set_option maxRecDepth 100000 in
theorem m_X1_bestWay (l : Launch) (D : va_G) (cI : ClassId) (o r t a1 a2 b1 b2 : Nat) {n w : Nat} {F G f g : Nat → Int32} (S : RS n w F G f g) (n2 w2 : Nat) (F2 G2 : Nat → Int32) (sz : Nat) : Met l yX1_bestWay wsX1_bestWay ({ frames := 5, cells := 0, slots := 0, locals := 117 } : Room) (PM D [(cI, .int)] [.ref o] sz (clw cI o r t a1 a2 b1 b2 n w F G n2 w2 F2 G2)) (qm_i (fun rr H1 => rr = (bst n f g).1 ∧ ∃ (n3 w3 : Nat) (F3 G3 : Nat → Int32), va_P D vwCl (clw cI o r t a1 a2 b1 b2 n w F G n3 w3 F3 G3) H1) (va_A (clw cI o r t a1 a2 b1 b2 n w F G n2 w2 F2 G2) sz)) 0 0 (va_A (clw cI o r t a1 a2 b1 b2 n w F G n2 w2 F2 G2) sz) := by
  obtain ⟨hn3, hn, hw2, hF, hG, hO⟩ := id S
  refine bd_m (Qc := (fun A => qm_i (fun rr H1 => rr = (bst n f g).1 ∧ ∃ (n3 w3 : Nat) (F3 G3 : Nat → Int32), va_P D vwCl (clw cI o r t a1 a2 b1 b2 n w F G n3 w3 F3 G3) H1) A)) (cc := cX1_bestWay) (maxL := 5) (ret := (some .int)) (by decide) rfl (Nat.le_of_ble_eq_true rfl) ?_
  intro p e s m args below meth c ls A CF hr hlocks hK hP hD hA hS hl hin
  obtain ⟨hx, hb, hml, hown, hts⟩ := id CF
  have hl : lv_has ls 5 [(0, .ref o)] := hl
  have hP : va_P D vwCl [(o, .inr (1, [.ref r, .ref t])), (r, .inr (0, [.ref a1, .ref a2, .int (nI n), .int (nI w)])), (a1, .inl (cI, 40, .inl F)), (a2, .inl (cI, 40, .inl G)), (t, .inr (0, [.ref b1, .ref b2, .int (nI n2), .int (nI w2)])), (b1, .inl (cI, 40, .inl F2)), (b2, .inl (cI, 40, .inl G2))] s.heap := hP
  have hD : va_D A [(o, .inr (1, [.ref r, .ref t])), (r, .inr (0, [.ref a1, .ref a2, .int (nI n), .int (nI w)])), (a1, .inl (cI, 40, .inl F)), (a2, .inl (cI, 40, .inl G)), (t, .inr (0, [.ref b1, .ref b2, .int (nI n2), .int (nI w2)])), (b1, .inl (cI, 40, .inl F2)), (b2, .inl (cI, 40, .inl G2))] := hD
  generalize hH0 : s.heap = H at hP
  have hS : va_S A s.heap H [] := by rw [← hH0]; exact va_S.rf
  generalize hlc0 : ([] : List Loc) = locs at hS ⊢
  refine lv_iconst (v := (-1)) hx hb dX1_bestWay_0 (by decide) ?_
  refine lv_istore_n (lv' := [(1, .int (-1)), (0, .ref o)]) hx hb dX1_bestWay_1 rfl hl (by decide) rfl (fun ls hl => ?_)
  refine lv_iconst (v := nI 0) hx hb dX1_bestWay_2 (by decide) ?_
  refine lv_istore_n (lv' := [(2, .int (nI 0)), (1, .int (-1)), (0, .ref o)]) hx hb dX1_bestWay_3 rfl hl (by decide) rfl (fun ls hl => ?_)
  refine lv_iconst (v := nI 0) hx hb dX1_bestWay_4 (by decide) ?_
  refine lv_istore_n (lv' := [(3, .int (nI 0)), (2, .int (nI 0)), (1, .int (-1)), (0, .ref o)]) hx hb dX1_bestWay_5 rfl hl (by decide) rfl (fun ls hl => ?_)
  have LP6 : ∀ (q i : Nat) (a b : Int32) (n3 w3 : Nat) (F4 G4 : Nat → Int32), i + q = 3 → fo (fun (a : Int32 × Int32) i => if 0 ≤ LW n f g n i ∧ (a.1 = -1 ∨ LW n f g n i < a.2) then (nI i, LW n f g n i) else a) q i (a, b) = bst n f g → ∀ (H : Heap) (locs : List Loc), va_P D vwCl [(o, .inr (1, [.ref r, .ref t])), (r, .inr (0, [.ref a1, .ref a2, .int (nI n), .int (nI w)])), (a1, .inl (cI, 40, .inl F)), (a2, .inl (cI, 40, .inl G)), (t, .inr (0, [.ref b1, .ref b2, .int (nI n3), .int (nI w3)])), (b1, .inl (cI, 40, .inl F4)), (b2, .inl (cI, 40, .inl G4))] H → va_D A [(o, .inr (1, [.ref r, .ref t])), (r, .inr (0, [.ref a1, .ref a2, .int (nI n), .int (nI w)])), (a1, .inl (cI, 40, .inl F)), (a2, .inl (cI, 40, .inl G)), (t, .inr (0, [.ref b1, .ref b2, .int (nI n3), .int (nI w3)])), (b1, .inl (cI, 40, .inl F4)), (b2, .inl (cI, 40, .inl G4))] → va_S A s.heap H locs → ∀ (ls : Array Slot), lv_has ls 5 [(3, .int (nI i)), (2, .int b), (1, .int a), (0, .ref o)] → W p l e ({ frames := 5, cells := 0, slots := 0, locals := 117 } : Room) s m args below meth c H locs 0 0 (MQ below (qm_i (fun rr H1 => rr = (bst n f g).1 ∧ ∃ (n3 w3 : Nat) (F3 G3 : Nat → Int32), va_P D vwCl (clw cI o r t a1 a2 b1 b2 n w F G n3 w3 F3 G3) H1) A) args s 0 0 A) (F0 m 6 ls []) := by
    intro q
    induction q with
    | zero =>
      intro i a b n3 w3 F4 G4 h1 h2 H locs hP hD hS ls hl
      refine lv_iload_n hx hb dX1_bestWay_6 rfl (lv_at hl 0 rfl) ?_
      refine lv_iconst (v := nI 2) hx hb dX1_bestWay_7 (by decide) ?_
      refine bn_gt (tgt := 52) hx hb dX1_bestWay_8 (by decide) (by omega) (by omega) (fun c8 => ?_) (fun c8 => ?_)
      · skip
        refine lv_iload_n hx hb dX1_bestWay_52 rfl (lv_at hl 2 rfl) ?_
        exact em_i hx hb hr hlocks hS (⟨congrArg Prod.fst h2, n3, w3, F4, G4, hP⟩) dX1_bestWay_53
      · skip
        omega
    | succ q ih =>
      intro i a b n3 w3 F4 G4 h1 h2 H locs hP hD hS ls hl
      refine lv_iload_n hx hb dX1_bestWay_6 rfl (lv_at hl 0 rfl) ?_
      refine lv_iconst (v := nI 2) hx hb dX1_bestWay_7 (by decide) ?_
      refine bn_gt (tgt := 52) hx hb dX1_bestWay_8 (by decide) (by omega) (by omega) (fun c8 => ?_) (fun c8 => ?_)
      · skip
        omega
      · skip
        refine lv_aload_n hx hb dX1_bestWay_11 rfl (lv_at hl 3 rfl) ?_
        refine lv_aload_n hx hb dX1_bestWay_12 rfl (lv_at hl 3 rfl) ?_
        refine va_get (D := D) (ci := 1) (v := .ref r) (C := RX1) (T := TX1) (N := 2) hx hb hts (fun _ h => (List.mem_cons_of_mem _ (List.mem_append_left _ (List.mem_append_right _ h)))) hown hK hP 0 rfl rfl 0 (by decide) (hts _ (List.mem_of_getElem? (i := 1) rfl)) (fun _ h9 => h9) rfl dX1_bestWay_13 ?_
        refine pv_i CF (m_X0_hookCount l D cI r a1 a2 S ) (cwV 0 hts gX1_bestWay_X0_hookCount rfl rfl rfl k_X0_hookCount ⟨Nat.le_of_ble_eq_true rfl, Nat.le_of_ble_eq_true rfl⟩) hK (hP.sub [1, 2, 3] rfl) rfl rfl rfl rfl hl.1 rfl (Nat.le_of_ble_eq_true rfl) dX1_bestWay_16 ⟨Nat.le_of_ble_eq_true rfl, Nat.le_of_ble_eq_true rfl⟩ ?_
        refine lv_iload_n hx hb dX1_bestWay_19 rfl (lv_at hl 0 rfl) ?_
        have hPc : va_P D vwCl [(o, .inr (1, [.ref r, .ref t])), (r, .inr (0, [.ref a1, .ref a2, .int (nI n), .int (nI w)])), (a1, .inl (cI, 40, .inl F)), (a2, .inl (cI, 40, .inl G)), (t, .inr (0, [.ref b1, .ref b2, .int (nI n3), .int (nI w3)])), (b1, .inl (cI, 40, .inl F4)), (b2, .inl (cI, 40, .inl G4))] H := hP.sub [0, 1, 2, 3, 4, 5, 6] rfl
        have hDc : va_D A [(o, .inr (1, [.ref r, .ref t])), (r, .inr (0, [.ref a1, .ref a2, .int (nI n), .int (nI w)])), (a1, .inl (cI, 40, .inl F)), (a2, .inl (cI, 40, .inl G)), (t, .inr (0, [.ref b1, .ref b2, .int (nI n3), .int (nI w3)])), (b1, .inl (cI, 40, .inl F4)), (b2, .inl (cI, 40, .inl G4))] := hD.sub [0, 1, 2, 3, 4, 5, 6] (by decide) rfl
        have hFc := va_free (wc := [(o, .inr (1, [.ref r, .ref t])), (r, .inr (0, [.ref a1, .ref a2, .int (nI n), .int (nI w)])), (a1, .inl (cI, 40, .inl F)), (a2, .inl (cI, 40, .inl G)), (t, .inr (0, [.ref b1, .ref b2, .int (nI n3), .int (nI w3)])), (b1, .inl (cI, 40, .inl F4)), (b2, .inl (cI, 40, .inl G4))]) hD hS hA [0, 1, 2, 3, 4, 5, 6] rfl
        refine pq_i (va_runV (rest := []) CF (m_X1_looksOnTrial l D cI o r t a1 a2 b1 b2 S n3 w3 F4 G4 n i hn3 hn (by omega) H.size) (cwV 2 hts gX1_bestWay_X1_looksOnTrial rfl rfl rfl k_X1_looksOnTrial ⟨Nat.le_of_ble_eq_true rfl, Nat.le_of_ble_eq_true rfl⟩) (mv_pre hK hPc hDc rfl rfl rfl) rfl rfl hl.1 rfl (lv_room (Nat.le_of_ble_eq_true rfl)) dX1_bestWay_20 ⟨Nat.le_of_ble_eq_true rfl, Nat.le_of_ble_eq_true rfl⟩) hS hFc (fun r1 H locs hB hk1 hS => ?_)
        obtain ⟨rfl, F3, G3, hP1⟩ := hB
        obtain ⟨hP, hD⟩ := jn (wb := [(o, .inr (1, [.ref r, .ref t])), (r, .inr (0, [.ref a1, .ref a2, .int (nI n), .int (nI w)])), (a1, .inl (cI, 40, .inl F)), (a2, .inl (cI, 40, .inl G)), (t, .inr (0, [.ref b1, .ref b2, .int (nI n), .int (nI i)])), (b1, .inl (cI, 40, .inl F3)), (b2, .inl (cI, 40, .inl G3))]) (w1 := [(o, .inr (1, [.ref r, .ref t])), (r, .inr (0, [.ref a1, .ref a2, .int (nI n), .int (nI w)])), (a1, .inl (cI, 40, .inl F)), (a2, .inl (cI, 40, .inl G)), (t, .inr (0, [.ref b1, .ref b2, .int (nI n), .int (nI i)])), (b1, .inl (cI, 40, .inl F3)), (b2, .inl (cI, 40, .inl G3))]) hP hD [0, 1, 2, 3, 4, 5, 6] [] rfl rfl rfl rfl 7 rfl (by decide) (by decide) hk1 hP1
        refine lv_istore (lv' := [(4, .int (LW n f g n i)), (3, .int (nI i)), (2, .int b), (1, .int a), (0, .ref o)]) hx hb dX1_bestWay_23 hl (by decide) rfl (fun ls hl => ?_)
        refine lv_iload hx hb dX1_bestWay_25 (lv_at hl 0 rfl) ?_
        refine lv_if_lt (tgt := 46) hx hb dX1_bestWay_27 (by decide) (fun c27 => ?_) (fun c27 => ?_)
        · skip
          refine lv_iinc (v := (nI (i + 1))) (lv' := [(3, .int (nI (i + 1))), (4, .int (LW n f g n i)), (2, .int b), (1, .int a), (0, .ref o)]) hx hb dX1_bestWay_46 hl (k := 1) rfl (inc1 _) (by decide) rfl (fun ls hl => ?_)
          refine lv_goto (tgt := 6) hx hb dX1_bestWay_49 (by decide) ?_
          exact ih (i + 1) a b n i F3 G3 (by omega) (by rw [fo_s, if_neg (fun z => not_lt0 z.1 c27)] at h2; exact h2) _ _ hP hD hS _ (lv_sub hl [0, 2, 3, 4] rfl)
        · skip
          refine lv_iload_n hx hb dX1_bestWay_30 rfl (lv_at hl 3 rfl) ?_
          refine lv_iconst (v := (-1)) hx hb dX1_bestWay_31 (by decide) ?_
          refine lv_icmp_eq (tgt := 41) hx hb dX1_bestWay_32 (by decide) (fun c32 => ?_) (fun c32 => ?_)
          · skip
            refine lv_iload_n hx hb dX1_bestWay_41 rfl (lv_at hl 1 rfl) ?_
            refine lv_istore_n (lv' := [(1, .int (nI i)), (4, .int (LW n f g n i)), (3, .int (nI i)), (2, .int b), (0, .ref o)]) hx hb dX1_bestWay_42 rfl hl (by decide) rfl (fun ls hl => ?_)
            refine lv_iload hx hb dX1_bestWay_43 (lv_at hl 1 rfl) ?_
            refine lv_istore_n (lv' := [(2, .int (LW n f g n i)), (1, .int (nI i)), (4, .int (LW n f g n i)), (3, .int (nI i)), (0, .ref o)]) hx hb dX1_bestWay_45 rfl hl (by decide) rfl (fun ls hl => ?_)
            refine lv_iinc (v := (nI (i + 1))) (lv' := [(3, .int (nI (i + 1))), (2, .int (LW n f g n i)), (1, .int (nI i)), (4, .int (LW n f g n i)), (0, .ref o)]) hx hb dX1_bestWay_46 hl (k := 3) rfl (inc1 _) (by decide) rfl (fun ls hl => ?_)
            refine lv_goto (tgt := 6) hx hb dX1_bestWay_49 (by decide) ?_
            exact ih (i + 1) (nI i) (LW n f g n i) n i F3 G3 (by omega) (by rw [fo_s, if_pos ⟨ge0 c27, Or.inl c32⟩] at h2; exact h2) _ _ hP hD hS _ (lv_sub hl [0, 1, 2, 4] rfl)
          · skip
            refine lv_iload hx hb dX1_bestWay_35 (lv_at hl 0 rfl) ?_
            refine lv_iload_n hx hb dX1_bestWay_37 rfl (lv_at hl 2 rfl) ?_
            refine lv_icmp_ge (tgt := 46) hx hb dX1_bestWay_38 (by decide) (fun c38 => ?_) (fun c38 => ?_)
            · skip
              refine lv_iinc (v := (nI (i + 1))) (lv' := [(3, .int (nI (i + 1))), (4, .int (LW n f g n i)), (2, .int b), (1, .int a), (0, .ref o)]) hx hb dX1_bestWay_46 hl (k := 1) rfl (inc1 _) (by decide) rfl (fun ls hl => ?_)
              refine lv_goto (tgt := 6) hx hb dX1_bestWay_49 (by decide) ?_
              exact ih (i + 1) a b n i F3 G3 (by omega) (by rw [fo_s, if_neg (fun z => z.2.elim c32 (nlt_of_le c38))] at h2; exact h2) _ _ hP hD hS _ (lv_sub hl [0, 2, 3, 4] rfl)
            · skip
              refine lv_iload_n hx hb dX1_bestWay_41 rfl (lv_at hl 1 rfl) ?_
              refine lv_istore_n (lv' := [(1, .int (nI i)), (4, .int (LW n f g n i)), (3, .int (nI i)), (2, .int b), (0, .ref o)]) hx hb dX1_bestWay_42 rfl hl (by decide) rfl (fun ls hl => ?_)
              refine lv_iload hx hb dX1_bestWay_43 (lv_at hl 1 rfl) ?_
              refine lv_istore_n (lv' := [(2, .int (LW n f g n i)), (1, .int (nI i)), (4, .int (LW n f g n i)), (3, .int (nI i)), (0, .ref o)]) hx hb dX1_bestWay_45 rfl hl (by decide) rfl (fun ls hl => ?_)
              refine lv_iinc (v := (nI (i + 1))) (lv' := [(3, .int (nI (i + 1))), (2, .int (LW n f g n i)), (1, .int (nI i)), (4, .int (LW n f g n i)), (0, .ref o)]) hx hb dX1_bestWay_46 hl (k := 3) rfl (inc1 _) (by decide) rfl (fun ls hl => ?_)
              refine lv_goto (tgt := 6) hx hb dX1_bestWay_49 (by decide) ?_
              exact ih (i + 1) (nI i) (LW n f g n i) n i F3 G3 (by omega) (by rw [fo_s, if_pos ⟨ge0 c27, Or.inr (lt_of_nle c38)⟩] at h2; exact h2) _ _ hP hD hS _ (lv_sub hl [0, 1, 2, 4] rfl)
  exact LP6 3 0 (-1) (nI 0) n2 w2 F2 G2 rfl rfl _ _ hP hD hS _ (lv_sub hl [0, 1, 2, 3] rfl)
theorem k_X1_fewestHooks : yX1_fewestHooks.cls = RX1 ∧ yX1_fewestHooks.cls ≠ "java/lang/invoke/MethodHandle" ∧ yX1_fewestHooks.cls ≠ "java/lang/invoke/VarHandle" ∧ (parseMethodDescriptor yX1_fewestHooks.desc).map (fun d => d.parameters.length) = some 1 := by decide +kernel
set_option maxHeartbeats 4000000 in
set_option maxRecDepth 100000 in
theorem m_X1_fewestHooks (l : Launch) (D : va_G) (cI : ClassId) (o r t a1 a2 b1 b2 : Nat) {n w : Nat} {F G f g : Nat → Int32} (S : RS n w F G f g) (n2 w2 : Nat) (F2 G2 : Nat → Int32) (v : Nat) (hv : v ≤ 400) (sz : Nat) : Met l yX1_fewestHooks wsX1_fewestHooks ({ frames := 5, cells := 0, slots := 0, locals := 117 } : Room) (PM D [(cI, .int)] [.ref o, .int (nI v)] sz (clw cI o r t a1 a2 b1 b2 n w F G n2 w2 F2 G2)) (qm_i (fun rr H1 => rr = fh n w f g v ∧ ∃ (n3 w3 : Nat) (F3 G3 : Nat → Int32), va_P D vwCl (clw cI o r t a1 a2 b1 b2 n w F G n3 w3 F3 G3) H1) (va_A (clw cI o r t a1 a2 b1 b2 n w F G n2 w2 F2 G2) sz)) 0 0 (va_A (clw cI o r t a1 a2 b1 b2 n w F G n2 w2 F2 G2) sz) := by
  obtain ⟨hn3, hn, hw2, hF, hG, hO⟩ := id S
  refine bd_m (Qc := (fun A => qm_i (fun rr H1 => rr = fh n w f g v ∧ ∃ (n3 w3 : Nat) (F3 G3 : Nat → Int32), va_P D vwCl (clw cI o r t a1 a2 b1 b2 n w F G n3 w3 F3 G3) H1) A)) (cc := cX1_fewestHooks) (maxL := 4) (ret := (some .int)) (by decide) rfl (Nat.le_of_ble_eq_true rfl) ?_
  intro p e s m args below meth c ls A CF hr hlocks hK hP hD hA hS hl hin
  obtain ⟨hx, hb, hml, hown, hts⟩ := id CF
  have hl : lv_has ls 4 [(0, .ref o), (1, .int (nI v))] := hl
  have hP : va_P D vwCl [(o, .inr (1, [.ref r, .ref t])), (r, .inr (0, [.ref a1, .ref a2, .int (nI n), .int (nI w)])), (a1, .inl (cI, 40, .inl F)), (a2, .inl (cI, 40, .inl G)), (t, .inr (0, [.ref b1, .ref b2, .int (nI n2), .int (nI w2)])), (b1, .inl (cI, 40, .inl F2)), (b2, .inl (cI, 40, .inl G2))] s.heap := hP
  have hD : va_D A [(o, .inr (1, [.ref r, .ref t])), (r, .inr (0, [.ref a1, .ref a2, .int (nI n), .int (nI w)])), (a1, .inl (cI, 40, .inl F)), (a2, .inl (cI, 40, .inl G)), (t, .inr (0, [.ref b1, .ref b2, .int (nI n2), .int (nI w2)])), (b1, .inl (cI, 40, .inl F2)), (b2, .inl (cI, 40, .inl G2))] := hD
  generalize hH0 : s.heap = H at hP
  have hS : va_S A s.heap H [] := by rw [← hH0]; exact va_S.rf
  generalize hlc0 : ([] : List Loc) = locs at hS ⊢
  refine lv_iconst (v := nI 3) hx hb dX1_fewestHooks_0 (by decide) ?_
  refine lv_istore_n (lv' := [(2, .int (nI 3)), (0, .ref o), (1, .int (nI v))]) hx hb dX1_fewestHooks_1 rfl hl (by decide) rfl (fun ls hl => ?_)
  have LP2 : ∀ (q i n3 w3 : Nat) (F4 G4 : Nat → Int32), i + q = 41 → 3 ≤ i → fs (hwS n w f g v) q i = fs (hwS n w f g v) 38 3 → ∀ (H : Heap) (locs : List Loc), va_P D vwCl [(o, .inr (1, [.ref r, .ref t])), (r, .inr (0, [.ref a1, .ref a2, .int (nI n), .int (nI w)])), (a1, .inl (cI, 40, .inl F)), (a2, .inl (cI, 40, .inl G)), (t, .inr (0, [.ref b1, .ref b2, .int (nI n3), .int (nI w3)])), (b1, .inl (cI, 40, .inl F4)), (b2, .inl (cI, 40, .inl G4))] H → va_D A [(o, .inr (1, [.ref r, .ref t])), (r, .inr (0, [.ref a1, .ref a2, .int (nI n), .int (nI w)])), (a1, .inl (cI, 40, .inl F)), (a2, .inl (cI, 40, .inl G)), (t, .inr (0, [.ref b1, .ref b2, .int (nI n3), .int (nI w3)])), (b1, .inl (cI, 40, .inl F4)), (b2, .inl (cI, 40, .inl G4))] → va_S A s.heap H locs → ∀ (ls : Array Slot), lv_has ls 4 [(2, .int (nI i)), (0, .ref o), (1, .int (nI v))] → W p l e ({ frames := 5, cells := 0, slots := 0, locals := 117 } : Room) s m args below meth c H locs 0 0 (MQ below (qm_i (fun rr H1 => rr = fh n w f g v ∧ ∃ (n3 w3 : Nat) (F3 G3 : Nat → Int32), va_P D vwCl (clw cI o r t a1 a2 b1 b2 n w F G n3 w3 F3 G3) H1) A) args s 0 0 A) (F0 m 2 ls []) := by
    intro q
    induction q with
    | zero =>
      intro i n3 w3 F4 G4 h1 h3 h2 H locs hP hD hS ls hl
      refine lv_iload_n hx hb dX1_fewestHooks_2 rfl (lv_at hl 0 rfl) ?_
      refine lv_bipush (v := nI 40) hx hb dX1_fewestHooks_3 (by decide) ?_
      refine bn_gt (tgt := 38) hx hb dX1_fewestHooks_5 (by decide) (by omega) (by omega) (fun c5 => ?_) (fun c5 => ?_)
      · skip
        refine lv_iconst (v := (-1)) hx hb dX1_fewestHooks_38 (by decide) ?_
        exact em_i hx hb hr hlocks hS (⟨fh_z h2 h1, n3, w3, F4, G4, hP⟩) dX1_fewestHooks_39
      · skip
        omega
    | succ q ih =>
      intro i n3 w3 F4 G4 h1 h3 h2 H locs hP hD hS ls hl
      refine lv_iload_n hx hb dX1_fewestHooks_2 rfl (lv_at hl 0 rfl) ?_
      refine lv_bipush (v := nI 40) hx hb dX1_fewestHooks_3 (by decide) ?_
      refine bn_gt (tgt := 38) hx hb dX1_fewestHooks_5 (by decide) (by omega) (by omega) (fun c5 => ?_) (fun c5 => ?_)
      · skip
        omega
      · skip
        refine lv_aload_n hx hb dX1_fewestHooks_8 rfl (lv_at hl 1 rfl) ?_
        refine lv_iload_n hx hb dX1_fewestHooks_9 rfl (lv_at hl 0 rfl) ?_
        refine lv_aload_n hx hb dX1_fewestHooks_10 rfl (lv_at hl 1 rfl) ?_
        refine va_get (D := D) (ci := 1) (v := .ref r) (C := RX1) (T := TX1) (N := 2) hx hb hts (fun _ h => (List.mem_cons_of_mem _ (List.mem_append_left _ (List.mem_append_right _ h)))) hown hK hP 0 rfl rfl 0 (by decide) (hts _ (List.mem_of_getElem? (i := 1) rfl)) (fun _ h9 => h9) rfl dX1_fewestHooks_11 ?_
        refine pv_i CF (m_X0_usherWay l D cI r a1 a2 S ) (cwV 0 hts gX1_fewestHooks_X0_usherWay rfl rfl rfl k_X0_usherWay ⟨Nat.le_of_ble_eq_true rfl, Nat.le_of_ble_eq_true rfl⟩) hK (hP.sub [1, 2, 3] rfl) rfl rfl rfl rfl hl.1 rfl (Nat.le_of_ble_eq_true rfl) dX1_fewestHooks_14 ⟨Nat.le_of_ble_eq_true rfl, Nat.le_of_ble_eq_true rfl⟩ ?_
        have hPc : va_P D vwCl [(o, .inr (1, [.ref r, .ref t])), (r, .inr (0, [.ref a1, .ref a2, .int (nI n), .int (nI w)])), (a1, .inl (cI, 40, .inl F)), (a2, .inl (cI, 40, .inl G)), (t, .inr (0, [.ref b1, .ref b2, .int (nI n3), .int (nI w3)])), (b1, .inl (cI, 40, .inl F4)), (b2, .inl (cI, 40, .inl G4))] H := hP.sub [0, 1, 2, 3, 4, 5, 6] rfl
        have hDc : va_D A [(o, .inr (1, [.ref r, .ref t])), (r, .inr (0, [.ref a1, .ref a2, .int (nI n), .int (nI w)])), (a1, .inl (cI, 40, .inl F)), (a2, .inl (cI, 40, .inl G)), (t, .inr (0, [.ref b1, .ref b2, .int (nI n3), .int (nI w3)])), (b1, .inl (cI, 40, .inl F4)), (b2, .inl (cI, 40, .inl G4))] := hD.sub [0, 1, 2, 3, 4, 5, 6] (by decide) rfl
        have hFc := va_free (wc := [(o, .inr (1, [.ref r, .ref t])), (r, .inr (0, [.ref a1, .ref a2, .int (nI n), .int (nI w)])), (a1, .inl (cI, 40, .inl F)), (a2, .inl (cI, 40, .inl G)), (t, .inr (0, [.ref b1, .ref b2, .int (nI n3), .int (nI w3)])), (b1, .inl (cI, 40, .inl F4)), (b2, .inl (cI, 40, .inl G4))]) hD hS hA [0, 1, 2, 3, 4, 5, 6] rfl
        refine pq_i (va_runV (rest := []) CF (m_X1_looksOnTrial l D cI o r t a1 a2 b1 b2 S n3 w3 F4 G4 i w h3 (by omega) hw2 H.size) (cwV 2 hts gX1_fewestHooks_X1_looksOnTrial rfl rfl rfl k_X1_looksOnTrial ⟨Nat.le_of_ble_eq_true rfl, Nat.le_of_ble_eq_true rfl⟩) (mv_pre hK hPc hDc rfl rfl rfl) rfl rfl hl.1 rfl (lv_room (Nat.le_of_ble_eq_true rfl)) dX1_fewestHooks_17 ⟨Nat.le_of_ble_eq_true rfl, Nat.le_of_ble_eq_true rfl⟩) hS hFc (fun r1 H locs hB hk1 hS => ?_)
        obtain ⟨rfl, F3, G3, hP1⟩ := hB
        obtain ⟨hP, hD⟩ := jn (wb := [(o, .inr (1, [.ref r, .ref t])), (r, .inr (0, [.ref a1, .ref a2, .int (nI n), .int (nI w)])), (a1, .inl (cI, 40, .inl F)), (a2, .inl (cI, 40, .inl G)), (t, .inr (0, [.ref b1, .ref b2, .int (nI i), .int (nI w)])), (b1, .inl (cI, 40, .inl F3)), (b2, .inl (cI, 40, .inl G3))]) (w1 := [(o, .inr (1, [.ref r, .ref t])), (r, .inr (0, [.ref a1, .ref a2, .int (nI n), .int (nI w)])), (a1, .inl (cI, 40, .inl F)), (a2, .inl (cI, 40, .inl G)), (t, .inr (0, [.ref b1, .ref b2, .int (nI i), .int (nI w)])), (b1, .inl (cI, 40, .inl F3)), (b2, .inl (cI, 40, .inl G3))]) hP hD [0, 1, 2, 3, 4, 5, 6] [] rfl rfl rfl rfl 7 rfl (by decide) (by decide) hk1 hP1
        refine lv_istore_n (lv' := [(3, .int (LW n f g i w)), (2, .int (nI i)), (0, .ref o), (1, .int (nI v))]) hx hb dX1_fewestHooks_20 rfl hl (by decide) rfl (fun ls hl => ?_)
        refine lv_iload_n hx hb dX1_fewestHooks_21 rfl (lv_at hl 0 rfl) ?_
        refine lv_if_lt (tgt := 32) hx hb dX1_fewestHooks_22 (by decide) (fun c22 => ?_) (fun c22 => ?_)
        · skip
          refine lv_iinc (v := (nI (i + 1))) (lv' := [(2, .int (nI (i + 1))), (3, .int (LW n f g i w)), (0, .ref o), (1, .int (nI v))]) hx hb dX1_fewestHooks_32 hl (k := 1) rfl (inc1 _) (by decide) rfl (fun ls hl => ?_)
          refine lv_goto (tgt := 2) hx hb dX1_fewestHooks_35 (by decide) ?_
          exact ih (i + 1) i w F3 G3 (by omega) (by omega) (fh_n h2 (fun z => not_lt0 z.1 c22)) _ _ hP hD hS _ (lv_sub hl [0, 2, 3] rfl)
        · skip
          refine lv_iload_n hx hb dX1_fewestHooks_25 rfl (lv_at hl 0 rfl) ?_
          refine lv_iload_n hx hb dX1_fewestHooks_26 rfl (lv_at hl 3 rfl) ?_
          refine lv_icmp_gt (tgt := 32) hx hb dX1_fewestHooks_27 (by decide) (fun c27 => ?_) (fun c27 => ?_)
          · skip
            refine lv_iinc (v := (nI (i + 1))) (lv' := [(2, .int (nI (i + 1))), (3, .int (LW n f g i w)), (0, .ref o), (1, .int (nI v))]) hx hb dX1_fewestHooks_32 hl (k := 1) rfl (inc1 _) (by decide) rfl (fun ls hl => ?_)
            refine lv_goto (tgt := 2) hx hb dX1_fewestHooks_35 (by decide) ?_
            exact ih (i + 1) i w F3 G3 (by omega) (by omega) (fh_n h2 (fun z => nlt_of_le z.2 c27)) _ _ hP hD hS _ (lv_sub hl [0, 2, 3] rfl)
          · skip
            refine lv_iload_n hx hb dX1_fewestHooks_30 rfl (lv_at hl 1 rfl) ?_
            exact em_i hx hb hr hlocks hS (⟨fh_y h2 ⟨ge0 c22, le_of_nlt c27⟩ (by omega), i, w, F3, G3, hP⟩) dX1_fewestHooks_31
  exact LP2 38 3 n2 w2 F2 G2 rfl (by decide) rfl _ _ hP hD hS _ (lv_sub hl [0, 1, 2] rfl)
theorem k_X1_coatsMovedOnTrial : yX1_coatsMovedOnTrial.cls = RX1 ∧ yX1_coatsMovedOnTrial.cls ≠ "java/lang/invoke/MethodHandle" ∧ yX1_coatsMovedOnTrial.cls ≠ "java/lang/invoke/VarHandle" ∧ (parseMethodDescriptor yX1_coatsMovedOnTrial.desc).map (fun d => d.parameters.length) = some 0 := by decide +kernel
set_option maxHeartbeats 4000000 in
set_option maxRecDepth 100000 in
theorem m_X1_coatsMovedOnTrial (l : Launch) (D : va_G) (cI : ClassId) (o r t a1 a2 b1 b2 : Nat) {n w : Nat} {F G f g : Nat → Int32} (S : RS n w F G f g) {n2 w2 : Nat} {F2 G2 T U : Nat → Int32} (S2 : RS n2 w2 F2 G2 T U) : Met l yX1_coatsMovedOnTrial wsX1_coatsMovedOnTrial ({ frames := 2, cells := 0, slots := 0, locals := 43 } : Room) (PR D [(cI, .int)] [.ref o] (clw cI o r t a1 a2 b1 b2 n w F G n2 w2 F2 G2)) (vp_Si (fun r => r = nI (cm n f n2 T))) 0 0 (fun _ => False) := by
  obtain ⟨hn3, hn, hw2, hF, hG, hO⟩ := id S
  have hn240 := S2.2.1
  refine bd_p (cc := cX1_coatsMovedOnTrial) (maxL := 4) (ret := (some .int)) (by decide) rfl (Nat.le_of_ble_eq_true rfl) ?_
  intro p e s m args below meth c ls CF hr hlocks hK hP hl
  obtain ⟨hx, hb, hml, hown, hts⟩ := id CF
  have hl : lv_has ls 4 [(0, .ref o)] := hl
  have hP : va_P D vwCl [(o, .inr (1, [.ref r, .ref t])), (r, .inr (0, [.ref a1, .ref a2, .int (nI n), .int (nI w)])), (a1, .inl (cI, 40, .inl F)), (a2, .inl (cI, 40, .inl G)), (t, .inr (0, [.ref b1, .ref b2, .int (nI n2), .int (nI w2)])), (b1, .inl (cI, 40, .inl F2)), (b2, .inl (cI, 40, .inl G2))] s.heap := hP
  refine lv_iconst (v := nI 0) hx hb dX1_coatsMovedOnTrial_0 (by decide) ?_
  refine lv_istore_n (lv' := [(1, .int (nI 0)), (0, .ref o)]) hx hb dX1_coatsMovedOnTrial_1 rfl hl (by decide) rfl (fun ls hl => ?_)
  refine lv_iconst (v := nI 0) hx hb dX1_coatsMovedOnTrial_2 (by decide) ?_
  refine lv_istore_n (lv' := [(2, .int (nI 0)), (1, .int (nI 0)), (0, .ref o)]) hx hb dX1_coatsMovedOnTrial_3 rfl hl (by decide) rfl (fun ls hl => ?_)
  have LP4 : ∀ (q i a : Nat), i + q = n2 → fo (fun a i => if ¬ cn (T i) = -1 ∧ ¬ cn (hd n f i) = cn (T i) then a + 1 else a) q i a = cm n f n2 T → ∀ (ls : Array Slot), lv_has ls 4 [(2, .int (nI i)), (1, .int (nI a)), (0, .ref o)] → W p l e ({ frames := 2, cells := 0, slots := 0, locals := 43 } : Room) s m args below meth c s.heap [] 0 0 (MQ below (vp_Si (fun r => r = nI (cm n f n2 T))) args s 0 0 (fun _ => False)) (F0 m 4 ls []) := by
    intro q
    induction q with
    | zero =>
      intro i a h1 h2 ls hl
      refine lv_iload_n hx hb dX1_coatsMovedOnTrial_4 rfl (lv_at hl 0 rfl) ?_
      refine lv_aload_n hx hb dX1_coatsMovedOnTrial_5 rfl (lv_at hl 2 rfl) ?_
      refine va_get (D := D) (ci := 1) (v := .ref t) (C := RX1) (T := TX1) (N := 2) hx hb hts (fun _ h => (List.mem_cons_of_mem _ (List.mem_append_left _ (List.mem_append_right _ h)))) hown hK hP 0 rfl rfl 1 (by decide) (hts _ (List.mem_of_getElem? (i := 1) rfl)) (fun _ h9 => h9) rfl dX1_coatsMovedOnTrial_6 ?_
      refine pv_i CF (m_X0_hookCount l D cI t b1 b2 S2) (cwV 0 hts gX1_coatsMovedOnTrial_X0_hookCount rfl rfl rfl k_X0_hookCount ⟨Nat.le_of_ble_eq_true rfl, Nat.le_of_ble_eq_true rfl⟩) hK (hP.sub [4, 5, 6] rfl) rfl rfl rfl rfl hl.1 rfl (Nat.le_of_ble_eq_true rfl) dX1_coatsMovedOnTrial_9 ⟨Nat.le_of_ble_eq_true rfl, Nat.le_of_ble_eq_true rfl⟩ ?_
      refine bn_ge (tgt := 50) hx hb dX1_coatsMovedOnTrial_12 (by decide) (by omega) (by omega) (fun c12 => ?_) (fun c12 => ?_)
      · skip
        refine lv_iload_n hx hb dX1_coatsMovedOnTrial_50 rfl (lv_at hl 1 rfl) ?_
        exact en_i hx hb hr hlocks (congrArg nI h2) dX1_coatsMovedOnTrial_51
      · skip
        omega
    | succ q ih =>
      intro i a h1 h2 ls hl
      refine lv_iload_n hx hb dX1_coatsMovedOnTrial_4 rfl (lv_at hl 0 rfl) ?_
      refine lv_aload_n hx hb dX1_coatsMovedOnTrial_5 rfl (lv_at hl 2 rfl) ?_
      refine va_get (D := D) (ci := 1) (v := .ref t) (C := RX1) (T := TX1) (N := 2) hx hb hts (fun _ h => (List.mem_cons_of_mem _ (List.mem_append_left _ (List.mem_append_right _ h)))) hown hK hP 0 rfl rfl 1 (by decide) (hts _ (List.mem_of_getElem? (i := 1) rfl)) (fun _ h9 => h9) rfl dX1_coatsMovedOnTrial_6 ?_
      refine pv_i CF (m_X0_hookCount l D cI t b1 b2 S2) (cwV 0 hts gX1_coatsMovedOnTrial_X0_hookCount rfl rfl rfl k_X0_hookCount ⟨Nat.le_of_ble_eq_true rfl, Nat.le_of_ble_eq_true rfl⟩) hK (hP.sub [4, 5, 6] rfl) rfl rfl rfl rfl hl.1 rfl (Nat.le_of_ble_eq_true rfl) dX1_coatsMovedOnTrial_9 ⟨Nat.le_of_ble_eq_true rfl, Nat.le_of_ble_eq_true rfl⟩ ?_
      refine bn_ge (tgt := 50) hx hb dX1_coatsMovedOnTrial_12 (by decide) (by omega) (by omega) (fun c12 => ?_) (fun c12 => ?_)
      · skip
        omega
      · skip
        refine lv_aload_n hx hb dX1_coatsMovedOnTrial_15 rfl (lv_at hl 2 rfl) ?_
        refine va_get (D := D) (ci := 1) (v := .ref t) (C := RX1) (T := TX1) (N := 2) hx hb hts (fun _ h => (List.mem_cons_of_mem _ (List.mem_append_left _ (List.mem_append_right _ h)))) hown hK hP 0 rfl rfl 1 (by decide) (hts _ (List.mem_of_getElem? (i := 1) rfl)) (fun _ h9 => h9) rfl dX1_coatsMovedOnTrial_16 ?_
        refine lv_iload_n hx hb dX1_coatsMovedOnTrial_19 rfl (lv_at hl 0 rfl) ?_
        refine pv_i CF (m_X0_coatOn l D cI t b1 b2 S2 i (by omega)) (cwV 1 hts gX1_coatsMovedOnTrial_X0_coatOn rfl rfl rfl k_X0_coatOn ⟨Nat.le_of_ble_eq_true rfl, Nat.le_of_ble_eq_true rfl⟩) hK (hP.sub [4, 5, 6] rfl) rfl rfl rfl rfl hl.1 rfl (Nat.le_of_ble_eq_true rfl) dX1_coatsMovedOnTrial_20 ⟨Nat.le_of_ble_eq_true rfl, Nat.le_of_ble_eq_true rfl⟩ ?_
        refine tp_i (y := (cn (T i))) (cn_hd (by omega)) ?_
        refine lv_istore_n (lv' := [(3, .int (cn (T i))), (2, .int (nI i)), (1, .int (nI a)), (0, .ref o)]) hx hb dX1_coatsMovedOnTrial_23 rfl hl (by decide) rfl (fun ls hl => ?_)
        refine lv_iload_n hx hb dX1_coatsMovedOnTrial_24 rfl (lv_at hl 0 rfl) ?_
        refine lv_iconst (v := (-1)) hx hb dX1_coatsMovedOnTrial_25 (by decide) ?_
        refine lv_icmp_eq (tgt := 44) hx hb dX1_coatsMovedOnTrial_26 (by decide) (fun c26 => ?_) (fun c26 => ?_)
        · skip
          refine lv_iinc (v := (nI (i + 1))) (lv' := [(2, .int (nI (i + 1))), (3, .int (cn (T i))), (1, .int (nI a)), (0, .ref o)]) hx hb dX1_coatsMovedOnTrial_44 hl (k := 1) rfl (inc1 _) (by decide) rfl (fun ls hl => ?_)
          refine lv_goto (tgt := 4) hx hb dX1_coatsMovedOnTrial_47 (by decide) ?_
          exact ih (i + 1) a (by omega) (by rw [fo_s, if_neg (fun z => z.1 c26)] at h2; exact h2) _ (lv_sub hl [0, 2, 3] rfl)
        · skip
          refine lv_aload_n hx hb dX1_coatsMovedOnTrial_29 rfl (lv_at hl 3 rfl) ?_
          refine va_get (D := D) (ci := 1) (v := .ref r) (C := RX1) (T := TX1) (N := 2) hx hb hts (fun _ h => (List.mem_cons_of_mem _ (List.mem_append_left _ (List.mem_append_right _ h)))) hown hK hP 0 rfl rfl 0 (by decide) (hts _ (List.mem_of_getElem? (i := 2) rfl)) (fun _ h9 => h9) rfl dX1_coatsMovedOnTrial_30 ?_
          refine lv_iload_n hx hb dX1_coatsMovedOnTrial_33 rfl (lv_at hl 1 rfl) ?_
          refine pv_i CF (m_X0_coatOn l D cI r a1 a2 S i (by omega)) (cwV 1 hts gX1_coatsMovedOnTrial_X0_coatOn rfl rfl rfl k_X0_coatOn ⟨Nat.le_of_ble_eq_true rfl, Nat.le_of_ble_eq_true rfl⟩) hK (hP.sub [1, 2, 3] rfl) rfl rfl rfl rfl hl.1 rfl (Nat.le_of_ble_eq_true rfl) dX1_coatsMovedOnTrial_34 ⟨Nat.le_of_ble_eq_true rfl, Nat.le_of_ble_eq_true rfl⟩ ?_
          refine lv_iload_n hx hb dX1_coatsMovedOnTrial_37 rfl (lv_at hl 0 rfl) ?_
          refine lv_icmp_eq (tgt := 44) hx hb dX1_coatsMovedOnTrial_38 (by decide) (fun c38 => ?_) (fun c38 => ?_)
          · skip
            refine lv_iinc (v := (nI (i + 1))) (lv' := [(2, .int (nI (i + 1))), (3, .int (cn (T i))), (1, .int (nI a)), (0, .ref o)]) hx hb dX1_coatsMovedOnTrial_44 hl (k := 1) rfl (inc1 _) (by decide) rfl (fun ls hl => ?_)
            refine lv_goto (tgt := 4) hx hb dX1_coatsMovedOnTrial_47 (by decide) ?_
            exact ih (i + 1) a (by omega) (by rw [fo_s, if_neg (fun z => z.2 c38)] at h2; exact h2) _ (lv_sub hl [0, 2, 3] rfl)
          · skip
            refine lv_iinc (v := (nI (a + 1))) (lv' := [(1, .int (nI (a + 1))), (3, .int (cn (T i))), (2, .int (nI i)), (0, .ref o)]) hx hb dX1_coatsMovedOnTrial_41 hl (k := 2) rfl (inc1 _) (by decide) rfl (fun ls hl => ?_)
            refine lv_iinc (v := (nI (i + 1))) (lv' := [(2, .int (nI (i + 1))), (1, .int (nI (a + 1))), (3, .int (cn (T i))), (0, .ref o)]) hx hb dX1_coatsMovedOnTrial_44 hl (k := 2) rfl (inc1 _) (by decide) rfl (fun ls hl => ?_)
            refine lv_goto (tgt := 4) hx hb dX1_coatsMovedOnTrial_47 (by decide) ?_
            exact ih (i + 1) (a + 1) (by omega) (by rw [fo_s, if_pos ⟨c26, c38⟩] at h2; exact h2) _ (lv_sub hl [0, 1, 3] rfl)
  exact LP4 n2 0 0 (Nat.zero_add n2) rfl _ (lv_sub hl [0, 1, 2] rfl)
theorem k_X1_takeOverTrial : yX1_takeOverTrial.cls = RX1 ∧ yX1_takeOverTrial.cls ≠ "java/lang/invoke/MethodHandle" ∧ yX1_takeOverTrial.cls ≠ "java/lang/invoke/VarHandle" ∧ (parseMethodDescriptor yX1_takeOverTrial.desc).map (fun d => d.parameters.length) = some 0 := by decide +kernel
set_option maxHeartbeats 4000000 in
set_option maxRecDepth 100000 in
theorem m_X1_takeOverTrial (l : Launch) (D : va_G) (cI : ClassId) (o r t a1 a2 b1 b2 n w : Nat) (F G : Nat → Int32) {n2 w2 : Nat} {F2 G2 T U : Nat → Int32} (S2 : RS n2 w2 F2 G2 T U) (hT : nt n2 T) (sz : Nat) : Met l yX1_takeOverTrial wsX1_takeOverTrial ({ frames := 2, cells := 0, slots := 0, locals := 46 } : Room) (PM D [(cI, .int)] [.ref o] sz (clw cI o r t a1 a2 b1 b2 n w F G n2 w2 F2 G2)) (qm_v (fun H1 => ∃ F3 G3 : Nat → Int32, RS n2 w2 F3 G3 T U ∧ va_P D vwCl (clw cI o r t a1 a2 b1 b2 n2 w2 F3 G3 n2 w2 F2 G2) H1) (va_A (clw cI o r t a1 a2 b1 b2 n w F G n2 w2 F2 G2) sz)) 0 0 (va_A (clw cI o r t a1 a2 b1 b2 n w F G n2 w2 F2 G2) sz) := by
  obtain ⟨hn23, hn240, hw22, hF2, hG2, hO2⟩ := id S2
  refine bd_m (Qc := (fun A => qm_v (fun H1 => ∃ F3 G3 : Nat → Int32, RS n2 w2 F3 G3 T U ∧ va_P D vwCl (clw cI o r t a1 a2 b1 b2 n2 w2 F3 G3 n2 w2 F2 G2) H1) A)) (cc := cX1_takeOverTrial) (maxL := 3) (ret := none) (by decide) rfl (Nat.le_of_ble_eq_true rfl) ?_
  intro p e s m args below meth c ls A CF hr hlocks hK hP hD hA hS hl hin
  obtain ⟨hx, hb, hml, hown, hts⟩ := id CF
  have hl : lv_has ls 3 [(0, .ref o)] := hl
  have hP : va_P D vwCl [(o, .inr (1, [.ref r, .ref t])), (r, .inr (0, [.ref a1, .ref a2, .int (nI n), .int (nI w)])), (a1, .inl (cI, 40, .inl F)), (a2, .inl (cI, 40, .inl G)), (t, .inr (0, [.ref b1, .ref b2, .int (nI n2), .int (nI w2)])), (b1, .inl (cI, 40, .inl F2)), (b2, .inl (cI, 40, .inl G2))] s.heap := hP
  have hD : va_D A [(o, .inr (1, [.ref r, .ref t])), (r, .inr (0, [.ref a1, .ref a2, .int (nI n), .int (nI w)])), (a1, .inl (cI, 40, .inl F)), (a2, .inl (cI, 40, .inl G)), (t, .inr (0, [.ref b1, .ref b2, .int (nI n2), .int (nI w2)])), (b1, .inl (cI, 40, .inl F2)), (b2, .inl (cI, 40, .inl G2))] := hD
  generalize hH0 : s.heap = H at hP
  have hS : va_S A s.heap H [] := by rw [← hH0]; exact va_S.rf
  generalize hlc0 : ([] : List Loc) = locs at hS ⊢
  refine lv_aload_n hx hb dX1_takeOverTrial_0 rfl (lv_at hl 0 rfl) ?_
  refine va_get (D := D) (ci := 1) (v := .ref r) (C := RX1) (T := TX1) (N := 2) hx hb hts (fun _ h => (List.mem_cons_of_mem _ (List.mem_append_left _ (List.mem_append_right _ h)))) hown hK hP 0 rfl rfl 0 (by decide) (hts _ (List.mem_of_getElem? (i := 1) rfl)) (fun _ h9 => h9) rfl dX1_takeOverTrial_1 ?_
  refine lv_aload_n hx hb dX1_takeOverTrial_4 rfl (lv_at hl 0 rfl) ?_
  refine va_get (D := D) (ci := 1) (v := .ref t) (C := RX1) (T := TX1) (N := 2) hx hb hts (fun _ h => (List.mem_cons_of_mem _ (List.mem_append_left _ (List.mem_append_right _ h)))) hown hK hP 0 rfl rfl 1 (by decide) (hts _ (List.mem_of_getElem? (i := 2) rfl)) (fun _ h9 => h9) rfl dX1_takeOverTrial_5 ?_
  refine pv_i CF (m_X0_hookCount l D cI t b1 b2 S2) (cwV 0 hts gX1_takeOverTrial_X0_hookCount rfl rfl rfl k_X0_hookCount ⟨Nat.le_of_ble_eq_true rfl, Nat.le_of_ble_eq_true rfl⟩) hK (hP.sub [4, 5, 6] rfl) rfl rfl rfl rfl hl.1 rfl (Nat.le_of_ble_eq_true rfl) dX1_takeOverTrial_8 ⟨Nat.le_of_ble_eq_true rfl, Nat.le_of_ble_eq_true rfl⟩ ?_
  refine lv_aload_n hx hb dX1_takeOverTrial_11 rfl (lv_at hl 0 rfl) ?_
  refine va_get (D := D) (ci := 1) (v := .ref t) (C := RX1) (T := TX1) (N := 2) hx hb hts (fun _ h => (List.mem_cons_of_mem _ (List.mem_append_left _ (List.mem_append_right _ h)))) hown hK hP 0 rfl rfl 1 (by decide) (hts _ (List.mem_of_getElem? (i := 2) rfl)) (fun _ h9 => h9) rfl dX1_takeOverTrial_12 ?_
  refine pv_i CF (m_X0_usherWay l D cI t b1 b2 S2) (cwV 0 hts gX1_takeOverTrial_X0_usherWay rfl rfl rfl k_X0_usherWay ⟨Nat.le_of_ble_eq_true rfl, Nat.le_of_ble_eq_true rfl⟩) hK (hP.sub [4, 5, 6] rfl) rfl rfl rfl rfl hl.1 rfl (Nat.le_of_ble_eq_true rfl) dX1_takeOverTrial_15 ⟨Nat.le_of_ble_eq_true rfl, Nat.le_of_ble_eq_true rfl⟩ ?_
  have hPc : va_P D vwCl [(r, .inr (0, [.ref a1, .ref a2, .int (nI n), .int (nI w)])), (a1, .inl (cI, 40, .inl F)), (a2, .inl (cI, 40, .inl G))] H := hP.sub [1, 2, 3] rfl
  have hDc : va_D A [(r, .inr (0, [.ref a1, .ref a2, .int (nI n), .int (nI w)])), (a1, .inl (cI, 40, .inl F)), (a2, .inl (cI, 40, .inl G))] := hD.sub [1, 2, 3] (by decide) rfl
  have hFc := va_free (wc := [(r, .inr (0, [.ref a1, .ref a2, .int (nI n), .int (nI w)])), (a1, .inl (cI, 40, .inl F)), (a2, .inl (cI, 40, .inl G))]) hD hS hA [1, 2, 3] rfl
  refine pq_v (va_runV (rest := []) CF (m_X0_clear l D cI r a1 a2 n w F G n2 w2 H.size) (cwV 2 hts gX1_takeOverTrial_X0_clear rfl rfl rfl k_X0_clear ⟨Nat.le_of_ble_eq_true rfl, Nat.le_of_ble_eq_true rfl⟩) (mv_pre hK hPc hDc rfl rfl rfl) rfl rfl hl.1 rfl (lv_room (Nat.le_of_ble_eq_true rfl)) dX1_takeOverTrial_18 ⟨Nat.le_of_ble_eq_true rfl, Nat.le_of_ble_eq_true rfl⟩) hS hFc (fun H locs hB hk1 hS => ?_)
  obtain ⟨F3, G3, hF3, hG3, hP1⟩ := hB
  obtain ⟨hP, hD⟩ := jn (wb := [(o, .inr (1, [.ref r, .ref t])), (r, .inr (0, [.ref a1, .ref a2, .int (nI n2), .int (nI w2)])), (a1, .inl (cI, 40, .inl F3)), (a2, .inl (cI, 40, .inl G3)), (t, .inr (0, [.ref b1, .ref b2, .int (nI n2), .int (nI w2)])), (b1, .inl (cI, 40, .inl F2)), (b2, .inl (cI, 40, .inl G2))]) (w1 := [(r, .inr (0, [.ref a1, .ref a2, .int (nI n2), .int (nI w2)])), (a1, .inl (cI, 40, .inl F3)), (a2, .inl (cI, 40, .inl G3))]) hP hD [1, 2, 3] [0, 4, 5, 6] rfl rfl rfl rfl 7 rfl (by decide) (by decide) hk1 hP1
  refine lv_iconst (v := nI 0) hx hb dX1_takeOverTrial_21 (by decide) ?_
  refine lv_istore_n (lv' := [(1, .int (nI 0)), (0, .ref o)]) hx hb dX1_takeOverTrial_22 rfl hl (by decide) rfl (fun ls hl => ?_)
  have LP23 : ∀ (q i : Nat) (F4 G4 : Nat → Int32), i + q = n2 → (∀ k, k < 40 → F4 k = if k < i then T k else -1) → (∀ k, k < 40 → G4 k = if k < i then U k else nI 0) → ∀ (H : Heap) (locs : List Loc), va_P D vwCl [(o, .inr (1, [.ref r, .ref t])), (r, .inr (0, [.ref a1, .ref a2, .int (nI n2), .int (nI w2)])), (a1, .inl (cI, 40, .inl F4)), (a2, .inl (cI, 40, .inl G4)), (t, .inr (0, [.ref b1, .ref b2, .int (nI n2), .int (nI w2)])), (b1, .inl (cI, 40, .inl F2)), (b2, .inl (cI, 40, .inl G2))] H → va_D A [(o, .inr (1, [.ref r, .ref t])), (r, .inr (0, [.ref a1, .ref a2, .int (nI n2), .int (nI w2)])), (a1, .inl (cI, 40, .inl F4)), (a2, .inl (cI, 40, .inl G4)), (t, .inr (0, [.ref b1, .ref b2, .int (nI n2), .int (nI w2)])), (b1, .inl (cI, 40, .inl F2)), (b2, .inl (cI, 40, .inl G2))] → va_S A s.heap H locs → ∀ (ls : Array Slot), lv_has ls 3 [(1, .int (nI i)), (0, .ref o)] → W p l e ({ frames := 2, cells := 0, slots := 0, locals := 46 } : Room) s m args below meth c H locs 0 0 (MQ below (qm_v (fun H1 => ∃ F3 G3 : Nat → Int32, RS n2 w2 F3 G3 T U ∧ va_P D vwCl (clw cI o r t a1 a2 b1 b2 n2 w2 F3 G3 n2 w2 F2 G2) H1) A) args s 0 0 A) (F0 m 23 ls []) := by
    intro q
    induction q with
    | zero =>
      intro i F4 G4 h1 hF4 hG4 H locs hP hD hS ls hl
      refine lv_iload_n hx hb dX1_takeOverTrial_23 rfl (lv_at hl 0 rfl) ?_
      refine lv_aload_n hx hb dX1_takeOverTrial_24 rfl (lv_at hl 1 rfl) ?_
      refine va_get (D := D) (ci := 1) (v := .ref t) (C := RX1) (T := TX1) (N := 2) hx hb hts (fun _ h => (List.mem_cons_of_mem _ (List.mem_append_left _ (List.mem_append_right _ h)))) hown hK hP 0 rfl rfl 1 (by decide) (hts _ (List.mem_of_getElem? (i := 2) rfl)) (fun _ h9 => h9) rfl dX1_takeOverTrial_25 ?_
      refine pv_i CF (m_X0_hookCount l D cI t b1 b2 S2) (cwV 0 hts gX1_takeOverTrial_X0_hookCount rfl rfl rfl k_X0_hookCount ⟨Nat.le_of_ble_eq_true rfl, Nat.le_of_ble_eq_true rfl⟩) hK (hP.sub [4, 5, 6] rfl) rfl rfl rfl rfl hl.1 rfl (Nat.le_of_ble_eq_true rfl) dX1_takeOverTrial_28 ⟨Nat.le_of_ble_eq_true rfl, Nat.le_of_ble_eq_true rfl⟩ ?_
      refine bn_ge (tgt := 71) hx hb dX1_takeOverTrial_31 (by decide) (by omega) (by omega) (fun c31 => ?_) (fun c31 => ?_)
      · skip
        exact em_v hx hb hr hlocks hS (⟨F4, G4, ⟨hn23, hn240, hw22, fun k hk => by rw [hF4 k (by omega), if_pos (by omega)], fun k hk => by rw [hG4 k (by omega), if_pos (by omega)], hO2⟩, hP⟩) dX1_takeOverTrial_71
      · skip
        omega
    | succ q ih =>
      intro i F4 G4 h1 hF4 hG4 H locs hP hD hS ls hl
      refine lv_iload_n hx hb dX1_takeOverTrial_23 rfl (lv_at hl 0 rfl) ?_
      refine lv_aload_n hx hb dX1_takeOverTrial_24 rfl (lv_at hl 1 rfl) ?_
      refine va_get (D := D) (ci := 1) (v := .ref t) (C := RX1) (T := TX1) (N := 2) hx hb hts (fun _ h => (List.mem_cons_of_mem _ (List.mem_append_left _ (List.mem_append_right _ h)))) hown hK hP 0 rfl rfl 1 (by decide) (hts _ (List.mem_of_getElem? (i := 2) rfl)) (fun _ h9 => h9) rfl dX1_takeOverTrial_25 ?_
      refine pv_i CF (m_X0_hookCount l D cI t b1 b2 S2) (cwV 0 hts gX1_takeOverTrial_X0_hookCount rfl rfl rfl k_X0_hookCount ⟨Nat.le_of_ble_eq_true rfl, Nat.le_of_ble_eq_true rfl⟩) hK (hP.sub [4, 5, 6] rfl) rfl rfl rfl rfl hl.1 rfl (Nat.le_of_ble_eq_true rfl) dX1_takeOverTrial_28 ⟨Nat.le_of_ble_eq_true rfl, Nat.le_of_ble_eq_true rfl⟩ ?_
      refine bn_ge (tgt := 71) hx hb dX1_takeOverTrial_31 (by decide) (by omega) (by omega) (fun c31 => ?_) (fun c31 => ?_)
      · skip
        omega
      · skip
        refine lv_aload_n hx hb dX1_takeOverTrial_34 rfl (lv_at hl 1 rfl) ?_
        refine va_get (D := D) (ci := 1) (v := .ref t) (C := RX1) (T := TX1) (N := 2) hx hb hts (fun _ h => (List.mem_cons_of_mem _ (List.mem_append_left _ (List.mem_append_right _ h)))) hown hK hP 0 rfl rfl 1 (by decide) (hts _ (List.mem_of_getElem? (i := 2) rfl)) (fun _ h9 => h9) rfl dX1_takeOverTrial_35 ?_
        refine lv_iload_n hx hb dX1_takeOverTrial_38 rfl (lv_at hl 0 rfl) ?_
        refine pv_i CF (m_X0_coatOn l D cI t b1 b2 S2 i (by omega)) (cwV 1 hts gX1_takeOverTrial_X0_coatOn rfl rfl rfl k_X0_coatOn ⟨Nat.le_of_ble_eq_true rfl, Nat.le_of_ble_eq_true rfl⟩) hK (hP.sub [4, 5, 6] rfl) rfl rfl rfl rfl hl.1 rfl (Nat.le_of_ble_eq_true rfl) dX1_takeOverTrial_39 ⟨Nat.le_of_ble_eq_true rfl, Nat.le_of_ble_eq_true rfl⟩ ?_
        refine tp_i (y := (cn (T i))) (cn_hd (by omega)) ?_
        refine lv_istore_n (lv' := [(2, .int (cn (T i))), (1, .int (nI i)), (0, .ref o)]) hx hb dX1_takeOverTrial_42 rfl hl (by decide) rfl (fun ls hl => ?_)
        refine lv_iload_n hx hb dX1_takeOverTrial_43 rfl (lv_at hl 0 rfl) ?_
        refine lv_iconst (v := (-1)) hx hb dX1_takeOverTrial_44 (by decide) ?_
        refine lv_icmp_eq (tgt := 65) hx hb dX1_takeOverTrial_45 (by decide) (fun c45 => ?_) (fun c45 => ?_)
        · skip
          refine lv_iinc (v := (nI (i + 1))) (lv' := [(1, .int (nI (i + 1))), (2, .int (cn (T i))), (0, .ref o)]) hx hb dX1_takeOverTrial_65 hl (k := 1) rfl (inc1 _) (by decide) rfl (fun ls hl => ?_)
          refine lv_goto (tgt := 23) hx hb dX1_takeOverTrial_68 (by decide) ?_
          exact ih (i + 1) F4 G4 (by omega) (to_n hF4 (nt_neg hO2 hT (by omega) (cn_lt c45)).1) (to_n hG4 (nt_neg hO2 hT (by omega) (cn_lt c45)).2) _ _ hP hD hS _ (lv_sub hl [0, 2] rfl)
        · skip
          refine lv_aload_n hx hb dX1_takeOverTrial_48 rfl (lv_at hl 2 rfl) ?_
          refine va_get (D := D) (ci := 1) (v := .ref r) (C := RX1) (T := TX1) (N := 2) hx hb hts (fun _ h => (List.mem_cons_of_mem _ (List.mem_append_left _ (List.mem_append_right _ h)))) hown hK hP 0 rfl rfl 0 (by decide) (hts _ (List.mem_of_getElem? (i := 1) rfl)) (fun _ h9 => h9) rfl dX1_takeOverTrial_49 ?_
          refine lv_iload_n hx hb dX1_takeOverTrial_52 rfl (lv_at hl 1 rfl) ?_
          refine lv_iload_n hx hb dX1_takeOverTrial_53 rfl (lv_at hl 0 rfl) ?_
          refine lv_aload_n hx hb dX1_takeOverTrial_54 rfl (lv_at hl 2 rfl) ?_
          refine va_get (D := D) (ci := 1) (v := .ref t) (C := RX1) (T := TX1) (N := 2) hx hb hts (fun _ h => (List.mem_cons_of_mem _ (List.mem_append_left _ (List.mem_append_right _ h)))) hown hK hP 0 rfl rfl 1 (by decide) (hts _ (List.mem_of_getElem? (i := 2) rfl)) (fun _ h9 => h9) rfl dX1_takeOverTrial_55 ?_
          refine lv_iload_n hx hb dX1_takeOverTrial_58 rfl (lv_at hl 1 rfl) ?_
          refine pv_i CF (m_X0_weightOn l D cI t b1 b2 S2 i (by omega)) (cwV 1 hts gX1_takeOverTrial_X0_weightOn rfl rfl rfl k_X0_weightOn ⟨Nat.le_of_ble_eq_true rfl, Nat.le_of_ble_eq_true rfl⟩) hK (hP.sub [4, 5, 6] rfl) rfl rfl rfl rfl hl.1 rfl (Nat.le_of_ble_eq_true rfl) dX1_takeOverTrial_59 ⟨Nat.le_of_ble_eq_true rfl, Nat.le_of_ble_eq_true rfl⟩ ?_
          refine tp_i (y := (U i)) (if_pos (by omega)) ?_
          have hPc : va_P D vwCl [(r, .inr (0, [.ref a1, .ref a2, .int (nI n2), .int (nI w2)])), (a1, .inl (cI, 40, .inl F4)), (a2, .inl (cI, 40, .inl G4))] H := hP.sub [1, 2, 3] rfl
          have hDc : va_D A [(r, .inr (0, [.ref a1, .ref a2, .int (nI n2), .int (nI w2)])), (a1, .inl (cI, 40, .inl F4)), (a2, .inl (cI, 40, .inl G4))] := hD.sub [1, 2, 3] (by decide) rfl
          have hFc := va_free (wc := [(r, .inr (0, [.ref a1, .ref a2, .int (nI n2), .int (nI w2)])), (a1, .inl (cI, 40, .inl F4)), (a2, .inl (cI, 40, .inl G4))]) hD hS hA [1, 2, 3] rfl
          refine pq_v (va_runV (rest := []) CF (m_X0_put l D cI r a1 a2 n2 w2 F4 G4 i (cn (T i)) (U i) (by omega) H.size) (cwV 3 hts gX1_takeOverTrial_X0_put rfl rfl rfl k_X0_put ⟨Nat.le_of_ble_eq_true rfl, Nat.le_of_ble_eq_true rfl⟩) (mv_pre hK hPc hDc rfl rfl rfl) rfl rfl hl.1 rfl (lv_room (Nat.le_of_ble_eq_true rfl)) dX1_takeOverTrial_62 ⟨Nat.le_of_ble_eq_true rfl, Nat.le_of_ble_eq_true rfl⟩) hS hFc (fun H locs hB hk1 hS => ?_)
          have hP1 := hB
          obtain ⟨hP, hD⟩ := jn (wb := [(o, .inr (1, [.ref r, .ref t])), (r, .inr (0, [.ref a1, .ref a2, .int (nI n2), .int (nI w2)])), (a1, .inl (cI, 40, .inl (upd F4 i (cn (T i))))), (a2, .inl (cI, 40, .inl (upd G4 i (U i)))), (t, .inr (0, [.ref b1, .ref b2, .int (nI n2), .int (nI w2)])), (b1, .inl (cI, 40, .inl F2)), (b2, .inl (cI, 40, .inl G2))]) (w1 := [(r, .inr (0, [.ref a1, .ref a2, .int (nI n2), .int (nI w2)])), (a1, .inl (cI, 40, .inl (upd F4 i (cn (T i))))), (a2, .inl (cI, 40, .inl (upd G4 i (U i))))]) hP hD [1, 2, 3] [0, 4, 5, 6] rfl rfl rfl rfl 7 rfl (by decide) (by decide) hk1 hP1
          refine lv_iinc (v := (nI (i + 1))) (lv' := [(1, .int (nI (i + 1))), (2, .int (cn (T i))), (0, .ref o)]) hx hb dX1_takeOverTrial_65 hl (k := 1) rfl (inc1 _) (by decide) rfl (fun ls hl => ?_)
          refine lv_goto (tgt := 23) hx hb dX1_takeOverTrial_68 (by decide) ?_
          exact ih (i + 1) (upd F4 i (cn (T i))) (upd G4 i (U i)) (by omega) (to_F hF4 (cn_id (cn_ge c45))) (to_F hG4 rfl) _ _ hP hD hS _ (lv_sub hl [0, 2] rfl)
  exact LP23 n2 0 F3 G3 (Nat.zero_add n2) (fun k hk => by rw [if_neg (Nat.not_lt_zero k)]; exact hF3 k hk) (fun k hk => by rw [if_neg (Nat.not_lt_zero k)]; exact hG3 k hk) _ _ hP hD hS _ (lv_sub hl [0, 1] rfl)
theorem k_X1_sweep : yX1_sweep.cls = RX1 ∧ yX1_sweep.cls ≠ "java/lang/invoke/MethodHandle" ∧ yX1_sweep.cls ≠ "java/lang/invoke/VarHandle" ∧ (parseMethodDescriptor yX1_sweep.desc).map (fun d => d.parameters.length) = some 0 := by decide +kernel
set_option maxHeartbeats 4000000 in
set_option maxRecDepth 100000 in
theorem m_X1_sweep (l : Launch) (D : va_G) (cI : ClassId) (o r t a1 a2 b1 b2 : Nat) {n w : Nat} {F G f g : Nat → Int32} (S : RS n w F G f g) (n2 w2 : Nat) (F2 G2 : Nat → Int32) (sz : Nat) : Met l yX1_sweep wsX1_sweep ({ frames := 3, cells := 0, slots := 0, locals := 67 } : Room) (PM D [(cI, .int)] [.ref o] sz (clw cI o r t a1 a2 b1 b2 n w F G n2 w2 F2 G2)) (qm_i (fun rr H1 => rr = nI (swp n f).2 ∧ ∃ F3 G3 : Nat → Int32, RS n w F3 G3 (swp n f).1 g ∧ va_P D vwCl (clw cI o r t a1 a2 b1 b2 n w F3 G3 n2 w2 F2 G2) H1) (va_A (clw cI o r t a1 a2 b1 b2 n w F G n2 w2 F2 G2) sz)) 0 0 (va_A (clw cI o r t a1 a2 b1 b2 n w F G n2 w2 F2 G2) sz) := by
  obtain ⟨hn3, hn, hw2, hF, hG, hO⟩ := id S
  refine bd_m (Qc := (fun A => qm_i (fun rr H1 => rr = nI (swp n f).2 ∧ ∃ F3 G3 : Nat → Int32, RS n w F3 G3 (swp n f).1 g ∧ va_P D vwCl (clw cI o r t a1 a2 b1 b2 n w F3 G3 n2 w2 F2 G2) H1) A)) (cc := cX1_sweep) (maxL := 2) (ret := (some .int)) (by decide) rfl (Nat.le_of_ble_eq_true rfl) ?_
  intro p e s m args below meth c ls A CF hr hlocks hK hP hD hA hS hl hin
  obtain ⟨hx, hb, hml, hown, hts⟩ := id CF
  have hl : lv_has ls 2 [(0, .ref o)] := hl
  have hP : va_P D vwCl [(o, .inr (1, [.ref r, .ref t])), (r, .inr (0, [.ref a1, .ref a2, .int (nI n), .int (nI w)])), (a1, .inl (cI, 40, .inl F)), (a2, .inl (cI, 40, .inl G)), (t, .inr (0, [.ref b1, .ref b2, .int (nI n2), .int (nI w2)])), (b1, .inl (cI, 40, .inl F2)), (b2, .inl (cI, 40, .inl G2))] s.heap := hP
  have hD : va_D A [(o, .inr (1, [.ref r, .ref t])), (r, .inr (0, [.ref a1, .ref a2, .int (nI n), .int (nI w)])), (a1, .inl (cI, 40, .inl F)), (a2, .inl (cI, 40, .inl G)), (t, .inr (0, [.ref b1, .ref b2, .int (nI n2), .int (nI w2)])), (b1, .inl (cI, 40, .inl F2)), (b2, .inl (cI, 40, .inl G2))] := hD
  generalize hH0 : s.heap = H at hP
  have hS : va_S A s.heap H [] := by rw [← hH0]; exact va_S.rf
  generalize hlc0 : ([] : List Loc) = locs at hS ⊢
  refine lv_aload_n hx hb dX1_sweep_0 rfl (lv_at hl 0 rfl) ?_
  refine va_get (D := D) (ci := 1) (v := .ref r) (C := RX1) (T := TX1) (N := 2) hx hb hts (fun _ h => (List.mem_cons_of_mem _ (List.mem_append_left _ (List.mem_append_right _ h)))) hown hK hP 0 rfl rfl 0 (by decide) (hts _ (List.mem_of_getElem? (i := 1) rfl)) (fun _ h9 => h9) rfl dX1_sweep_1 ?_
  refine lv_iconst (v := nI 2) hx hb dX1_sweep_4 (by decide) ?_
  refine pv_i CF (m_X0_countInState l D cI r a1 a2 S (nI 2)) (cwV 1 hts gX1_sweep_X0_countInState rfl rfl rfl k_X0_countInState ⟨Nat.le_of_ble_eq_true rfl, Nat.le_of_ble_eq_true rfl⟩) hK (hP.sub [1, 2, 3] rfl) rfl rfl rfl rfl hl.1 rfl (Nat.le_of_ble_eq_true rfl) dX1_sweep_5 ⟨Nat.le_of_ble_eq_true rfl, Nat.le_of_ble_eq_true rfl⟩ ?_
  refine lv_aload_n hx hb dX1_sweep_8 rfl (lv_at hl 0 rfl) ?_
  refine va_get (D := D) (ci := 1) (v := .ref r) (C := RX1) (T := TX1) (N := 2) hx hb hts (fun _ h => (List.mem_cons_of_mem _ (List.mem_append_left _ (List.mem_append_right _ h)))) hown hK hP 0 rfl rfl 0 (by decide) (hts _ (List.mem_of_getElem? (i := 1) rfl)) (fun _ h9 => h9) rfl dX1_sweep_9 ?_
  refine pv_i CF (m_X0_hookCount l D cI r a1 a2 S ) (cwV 0 hts gX1_sweep_X0_hookCount rfl rfl rfl k_X0_hookCount ⟨Nat.le_of_ble_eq_true rfl, Nat.le_of_ble_eq_true rfl⟩) hK (hP.sub [1, 2, 3] rfl) rfl rfl rfl rfl hl.1 rfl (Nat.le_of_ble_eq_true rfl) dX1_sweep_12 ⟨Nat.le_of_ble_eq_true rfl, Nat.le_of_ble_eq_true rfl⟩ ?_
  refine bn_ne (tgt := 22) hx hb dX1_sweep_15 (by decide) (Nat.lt_of_le_of_lt (ct_le n f (nI 2) n) (by omega)) (by omega) (fun c15 => ?_) (fun c15 => ?_)
  · skip
    refine lv_iconst (v := nI 0) hx hb dX1_sweep_22 (by decide) ?_
    refine lv_istore_n (lv' := [(1, .int (nI 0)), (0, .ref o)]) hx hb dX1_sweep_23 rfl hl (by decide) rfl (fun ls hl => ?_)
    refine lv_iload_n hx hb dX1_sweep_24 rfl (lv_at hl 0 rfl) ?_
    refine bz_eq (tgt := 38) hx hb dX1_sweep_25 (by decide) (by omega) (fun c25 => ?_) (fun c25 => ?_)
    · skip
      refine lv_aload_n hx hb dX1_sweep_38 rfl (lv_at hl 1 rfl) ?_
      refine va_get (D := D) (ci := 1) (v := .ref r) (C := RX1) (T := TX1) (N := 2) hx hb hts (fun _ h => (List.mem_cons_of_mem _ (List.mem_append_left _ (List.mem_append_right _ h)))) hown hK hP 0 rfl rfl 0 (by decide) (hts _ (List.mem_of_getElem? (i := 1) rfl)) (fun _ h9 => h9) rfl dX1_sweep_39 ?_
      have hPc : va_P D vwCl [(r, .inr (0, [.ref a1, .ref a2, .int (nI n), .int (nI w)])), (a1, .inl (cI, 40, .inl F)), (a2, .inl (cI, 40, .inl G))] H := hP.sub [1, 2, 3] rfl
      have hDc : va_D A [(r, .inr (0, [.ref a1, .ref a2, .int (nI n), .int (nI w)])), (a1, .inl (cI, 40, .inl F)), (a2, .inl (cI, 40, .inl G))] := hD.sub [1, 2, 3] (by decide) rfl
      have hFc := va_free (wc := [(r, .inr (0, [.ref a1, .ref a2, .int (nI n), .int (nI w)])), (a1, .inl (cI, 40, .inl F)), (a2, .inl (cI, 40, .inl G))]) hD hS hA [1, 2, 3] rfl
      refine pq_i (va_runV (rest := []) CF (m_X0_freeSweptTickets l D cI r a1 a2 S H.size) (cwV 0 hts gX1_sweep_X0_freeSweptTickets rfl rfl rfl k_X0_freeSweptTickets ⟨Nat.le_of_ble_eq_true rfl, Nat.le_of_ble_eq_true rfl⟩) (mv_pre hK hPc hDc rfl rfl rfl) rfl rfl hl.1 rfl (lv_room (Nat.le_of_ble_eq_true rfl)) dX1_sweep_42 ⟨Nat.le_of_ble_eq_true rfl, Nat.le_of_ble_eq_true rfl⟩) hS hFc (fun r1 H locs hB hk1 hS => ?_)
      obtain ⟨rfl, F3, G3, S3, hP1⟩ := hB
      obtain ⟨hP, hD⟩ := jn (wb := [(o, .inr (1, [.ref r, .ref t])), (r, .inr (0, [.ref a1, .ref a2, .int (nI n), .int (nI w)])), (a1, .inl (cI, 40, .inl F3)), (a2, .inl (cI, 40, .inl G3)), (t, .inr (0, [.ref b1, .ref b2, .int (nI n2), .int (nI w2)])), (b1, .inl (cI, 40, .inl F2)), (b2, .inl (cI, 40, .inl G2))]) (w1 := [(r, .inr (0, [.ref a1, .ref a2, .int (nI n), .int (nI w)])), (a1, .inl (cI, 40, .inl F3)), (a2, .inl (cI, 40, .inl G3))]) hP hD [1, 2, 3] [0, 4, 5, 6] rfl rfl rfl rfl 7 rfl (by decide) (by decide) hk1 hP1
      exact em_i hx hb hr hlocks hS (⟨by rw [swp, if_neg c15], F3, G3, by rw [swp, if_neg c15]; exact S3, hP⟩) dX1_sweep_45
    · skip
      omega
  · skip
    refine lv_iconst (v := nI 1) hx hb dX1_sweep_18 (by decide) ?_
    refine lv_goto (tgt := 23) hx hb dX1_sweep_19 (by decide) ?_
    refine lv_istore_n (lv' := [(1, .int (nI 1)), (0, .ref o)]) hx hb dX1_sweep_23 rfl hl (by decide) rfl (fun ls hl => ?_)
    refine lv_iload_n hx hb dX1_sweep_24 rfl (lv_at hl 0 rfl) ?_
    refine bz_eq (tgt := 38) hx hb dX1_sweep_25 (by decide) (by omega) (fun c25 => ?_) (fun c25 => ?_)
    · skip
      omega
    · skip
      refine lv_aload_n hx hb dX1_sweep_28 rfl (lv_at hl 1 rfl) ?_
      refine va_get (D := D) (ci := 1) (v := .ref r) (C := RX1) (T := TX1) (N := 2) hx hb hts (fun _ h => (List.mem_cons_of_mem _ (List.mem_append_left _ (List.mem_append_right _ h)))) hown hK hP 0 rfl rfl 0 (by decide) (hts _ (List.mem_of_getElem? (i := 1) rfl)) (fun _ h9 => h9) rfl dX1_sweep_29 ?_
      have hPc : va_P D vwCl [(r, .inr (0, [.ref a1, .ref a2, .int (nI n), .int (nI w)])), (a1, .inl (cI, 40, .inl F)), (a2, .inl (cI, 40, .inl G))] H := hP.sub [1, 2, 3] rfl
      have hDc : va_D A [(r, .inr (0, [.ref a1, .ref a2, .int (nI n), .int (nI w)])), (a1, .inl (cI, 40, .inl F)), (a2, .inl (cI, 40, .inl G))] := hD.sub [1, 2, 3] (by decide) rfl
      have hFc := va_free (wc := [(r, .inr (0, [.ref a1, .ref a2, .int (nI n), .int (nI w)])), (a1, .inl (cI, 40, .inl F)), (a2, .inl (cI, 40, .inl G))]) hD hS hA [1, 2, 3] rfl
      refine pq_i (va_runV (rest := []) CF (m_X0_freeAll l D cI r a1 a2 n w F G H.size) (cwV 0 hts gX1_sweep_X0_freeAll rfl rfl rfl k_X0_freeAll ⟨Nat.le_of_ble_eq_true rfl, Nat.le_of_ble_eq_true rfl⟩) (mv_pre hK hPc hDc rfl rfl rfl) rfl rfl hl.1 rfl (lv_room (Nat.le_of_ble_eq_true rfl)) dX1_sweep_32 ⟨Nat.le_of_ble_eq_true rfl, Nat.le_of_ble_eq_true rfl⟩) hS hFc (fun r1 H locs hB hk1 hS => ?_)
      obtain ⟨rfl, F3, G3, hF3, hG3, hP1⟩ := hB
      obtain ⟨hP, hD⟩ := jn (wb := [(o, .inr (1, [.ref r, .ref t])), (r, .inr (0, [.ref a1, .ref a2, .int (nI n), .int (nI w)])), (a1, .inl (cI, 40, .inl F3)), (a2, .inl (cI, 40, .inl G3)), (t, .inr (0, [.ref b1, .ref b2, .int (nI n2), .int (nI w2)])), (b1, .inl (cI, 40, .inl F2)), (b2, .inl (cI, 40, .inl G2))]) (w1 := [(r, .inr (0, [.ref a1, .ref a2, .int (nI n), .int (nI w)])), (a1, .inl (cI, 40, .inl F3)), (a2, .inl (cI, 40, .inl G3))]) hP hD [1, 2, 3] [0, 4, 5, 6] rfl rfl rfl rfl 7 rfl (by decide) (by decide) hk1 hP1
      refine lv_goto (tgt := 45) hx hb dX1_sweep_35 (by decide) ?_
      exact em_i hx hb hr hlocks hS (⟨by rw [swp, if_pos c15], F3, G3, by rw [swp, if_pos c15]; exact S.all c15 hF3 hG3, hP⟩) dX1_sweep_45
end
section
/-! pure words, on: the mean, the checksum -/
/-- a quotient of whole numbers by one that isn't 0 is a number -/
def NN : Prop := ∀ a b : Int32, ¬ b = 0 → vf_n64 (FP.ddiv (FP.i2d a) (FP.i2d b))
def ml (n w : Nat) (f : Nat → Int32) : UInt64 := if ct n f (nI 1) = 0 then 0 else FP.ddiv (FP.i2d (nI (sm n w f))) (FP.i2d (nI (ct n f (nI 1))))
def dx (d : Int64) (x : Int32) : Int64 := d * 31 + x.toInt64
def DG (n w : Nat) (f g : Nat → Int32) : Int64 :=
  fo (fun d k => dx (dx (dx (dx (dx d (st (f k))) (cn (f k))) (g k)) (nI (rl n f k))) (nI (lk n w f (k * 7)))) n 0
    (dx (dx (dx (dx (dx (dx (dx (dx (dx (dx (dx (dx 2237 (nI n)) (nI w)) (nI (ct n f (nI 1)))) (nI (ct n f (nI 2)))) (wa n g)) (hv n g).1) (nI (sm n w f))) (fa n w f).1) (nI (rc n f))) (nI (lr n f))) (bst n f g).1) (fh n w f g 20))
end
section
/-! CoatHooks: calls that write, the checksum, the constructor -/
theorem k_X1_hang : yX1_hang.cls = RX1 ∧ yX1_hang.cls ≠ "java/lang/invoke/MethodHandle" ∧ yX1_hang.cls ≠ "java/lang/invoke/VarHandle" ∧ (parseMethodDescriptor yX1_hang.desc).map (fun d => d.parameters.length) = some 2 := by decide +kernel
set_option maxHeartbeats 4000000 in
set_option maxRecDepth 100000 in
theorem m_X1_hang (l : Launch) (hlt : l.stackTraces = false) (D : va_G) (cI : ClassId) (o r t a1 a2 b1 b2 : Nat) {n w : Nat} {F G f g : Nat → Int32} (S : RS n w F G f g) (n2 w2 : Nat) (F2 G2 : Nat → Int32) (x y : Int32) (sz : Nat) : vx_Met l yX1_hang wsX1_hang ({ frames := 7, cells := 2, slots := 12, locals := 110 } : Room) (PXM D [(cI, .int)] [.ref o, .int x, .int y] sz (clw cI o r t a1 a2 b1 b2 n w F G n2 w2 F2 G2)) (qm_i (fun rr H1 => ∃ v z k : Nat, v ≤ 9999 ∧ x = nI v ∧ 1 ≤ z ∧ z ≤ 99 ∧ y = nI z ∧ k < n ∧ pl n w f v = nI k ∧ rr = nI k ∧ va_P D vwCl (clw cI o r t a1 a2 b1 b2 n w (upd F k (nI v)) (upd G k (nI z)) n2 w2 F2 G2) H1) (va_A (clw cI o r t a1 a2 b1 b2 n w F G n2 w2 F2 G2) sz)) ((fun _ => xk (fun E => (E = IAE ∧ ¬ (rg 0 9999 x ∧ rg 1 99 y)) ∨ (E = ISE ∧ ∃ v z : Nat, v ≤ 9999 ∧ x = nI v ∧ 1 ≤ z ∧ z ≤ 99 ∧ y = nI z ∧ pl n w f v = -1))) (va_A (clw cI o r t a1 a2 b1 b2 n w F G n2 w2 F2 G2) sz)) 2 12 (va_A (clw cI o r t a1 a2 b1 b2 n w F G n2 w2 F2 G2) sz) := by
  obtain ⟨hn3, hn, hw2, hF, hG, hO⟩ := id S
  refine bd_xm (Qf := fun A => qm_i (fun rr H1 => ∃ v z k : Nat, v ≤ 9999 ∧ x = nI v ∧ 1 ≤ z ∧ z ≤ 99 ∧ y = nI z ∧ k < n ∧ pl n w f v = nI k ∧ rr = nI k ∧ va_P D vwCl (clw cI o r t a1 a2 b1 b2 n w (upd F k (nI v)) (upd G k (nI z)) n2 w2 F2 G2) H1) A) (XCf := fun _ => xk (fun E => (E = IAE ∧ ¬ (rg 0 9999 x ∧ rg 1 99 y)) ∨ (E = ISE ∧ ∃ v z : Nat, v ≤ 9999 ∧ x = nI v ∧ 1 ≤ z ∧ z ≤ 99 ∧ y = nI z ∧ pl n w f v = -1))) (cc := cX1_hang) (maxL := 4) (ret := (some .int)) (by decide) rfl (Nat.le_of_ble_eq_true rfl) ?_
  intro p e s m args below meth c ls A CF hr hlocks hT hK hP hD hA hS hX hZ hl
  obtain ⟨hx, hb, hml, hown, hts⟩ := id CF
  have hl : lv_has ls 4 [(0, .ref o), (1, .int x), (2, .int y)] := hl
  have hP : va_P D vwCl [(o, .inr (1, [.ref r, .ref t])), (r, .inr (0, [.ref a1, .ref a2, .int (nI n), .int (nI w)])), (a1, .inl (cI, 40, .inl F)), (a2, .inl (cI, 40, .inl G)), (t, .inr (0, [.ref b1, .ref b2, .int (nI n2), .int (nI w2)])), (b1, .inl (cI, 40, .inl F2)), (b2, .inl (cI, 40, .inl G2))] s.heap := hP
  have hD : va_D A [(o, .inr (1, [.ref r, .ref t])), (r, .inr (0, [.ref a1, .ref a2, .int (nI n), .int (nI w)])), (a1, .inl (cI, 40, .inl F)), (a2, .inl (cI, 40, .inl G)), (t, .inr (0, [.ref b1, .ref b2, .int (nI n2), .int (nI w2)])), (b1, .inl (cI, 40, .inl F2)), (b2, .inl (cI, 40, .inl G2))] := hD
  have hZ0 : XZ (fun _ => False) s s.heap := hZ.narrow (fun q h => h.elim)
  refine lv_iload_n hx hb dX1_hang_0 rfl (lv_at hl 1 rfl) ?_
  refine px_sv CF (m_X1_demandNumber l hlt D cI x) (va_cwS 1 hts gX1_hang_X1_demandNumber rfl rfl rfl k_X1_demandNumber.2 ⟨Nat.le_of_ble_eq_true rfl, Nat.le_of_ble_eq_true rfl⟩) hK (hP.sub [] rfl) hX hZ0 rfl hl.1 rfl (Nat.le_of_ble_eq_true rfl) dX1_hang_1 ⟨Nat.le_of_ble_eq_true rfl, Nat.le_of_ble_eq_true rfl⟩ hlocks hT (fun E t hE h1 h2 => ⟨Or.inl ⟨hE.1, fun z => hE.2 z.1⟩, h1, h2⟩) (Nat.le_of_ble_eq_true rfl) (Nat.le_of_ble_eq_true rfl) (fun hc1 => ?_)
  obtain ⟨v, -, hv9, rfl⟩ := hc1
  refine lv_iload_n hx hb dX1_hang_4 rfl (lv_at hl 2 rfl) ?_
  refine lv_iconst (v := nI 1) hx hb dX1_hang_5 (by decide) ?_
  refine lv_icmp_lt (tgt := 15) hx hb dX1_hang_6 (by decide) (fun c6 => ?_) (fun c6 => ?_)
  · skip
    exact th_x (cls := IAE) (text := "the weight is not 1 to 99") (ik := 23) (is := 25) (ic := 27) hlt CF hX hZ va_S.rf (by decide +kernel) (List.mem_of_getElem? (i := 1) rfl) (List.mem_of_getElem? (i := 2) rfl) (List.mem_of_getElem? (i := 1) rfl) (fun _ h => (List.mem_cons_of_mem _ (List.mem_append_left _ (List.mem_append_right _ h)))) xb_IAE xg_IAE hl.1 dX1_hang_15 dX1_hang_18 dX1_hang_19 dX1_hang_21 dX1_hang_24 hT ⟨Nat.le_of_ble_eq_true rfl, Nat.le_of_ble_eq_true rfl, Nat.le_of_ble_eq_true rfl, Nat.le_of_ble_eq_true rfl⟩ hlocks (fun t h1 h2 => ⟨Or.inl ⟨rfl, fun z => rg_lo (by decide) c6 z.2⟩, h1, h2⟩) (fun z hz => nomatch hz) (Nat.le_of_ble_eq_true rfl) (Nat.le_of_ble_eq_true rfl)
  · skip
    refine lv_iload_n hx hb dX1_hang_9 rfl (lv_at hl 2 rfl) ?_
    refine lv_bipush (v := nI 99) hx hb dX1_hang_10 (by decide) ?_
    refine lv_icmp_le (tgt := 25) hx hb dX1_hang_12 (by decide) (fun c12 => ?_) (fun c12 => ?_)
    · skip
      obtain ⟨z, hz1, hz9, rfl⟩ := rg_in (a := 1) (b := 99) (by decide) (by decide) c6 c12
      refine lv_aload_n hx hb dX1_hang_25 rfl (lv_at hl 0 rfl) ?_
      refine va_get (D := D) (ci := 1) (v := .ref r) (C := RX1) (T := TX1) (N := 2) hx hb hts (fun _ h => (List.mem_cons_of_mem _ (List.mem_append_left _ (List.mem_append_left _ (List.mem_append_left _ (List.mem_append_right _ h)))))) hown hK hP 0 rfl rfl 0 (by decide) (hts _ (List.mem_of_getElem? (i := 5) rfl)) (fun _ h9 => h9) rfl dX1_hang_26 ?_
      refine lv_iload_n hx hb dX1_hang_29 rfl (lv_at hl 1 rfl) ?_
      refine pv_i CF (m_X0_placeOf l D cI r a1 a2 S v hv9) (cwV 1 hts gX1_hang_X0_placeOf rfl rfl rfl k_X0_placeOf ⟨Nat.le_of_ble_eq_true rfl, Nat.le_of_ble_eq_true rfl⟩) hK (hP.sub [1, 2, 3] rfl) rfl rfl rfl rfl hl.1 rfl (Nat.le_of_ble_eq_true rfl) dX1_hang_30 ⟨Nat.le_of_ble_eq_true rfl, Nat.le_of_ble_eq_true rfl⟩ ?_
      refine lv_istore_n (lv' := [(3, .int (pl n w f v)), (0, .ref o), (1, .int (nI v)), (2, .int (nI z))]) hx hb dX1_hang_33 rfl hl (by decide) rfl (fun ls hl => ?_)
      refine lv_iload_n hx hb dX1_hang_34 rfl (lv_at hl 0 rfl) ?_
      refine lv_iconst (v := (-1)) hx hb dX1_hang_35 (by decide) ?_
      refine lv_icmp_ne (tgt := 49) hx hb dX1_hang_36 (by decide) (fun c36 => ?_) (fun c36 => ?_)
      · skip
        obtain ⟨k, hk, ek⟩ := pl_cases (show 0 < n by omega) c36
        rw [ek] at hl
        refine lv_aload_n hx hb dX1_hang_49 rfl (lv_at hl 1 rfl) ?_
        refine va_get (D := D) (ci := 1) (v := .ref r) (C := RX1) (T := TX1) (N := 2) hx hb hts (fun _ h => (List.mem_cons_of_mem _ (List.mem_append_left _ (List.mem_append_left _ (List.mem_append_left _ (List.mem_append_right _ h)))))) hown hK hP 0 rfl rfl 0 (by decide) (hts _ (List.mem_of_getElem? (i := 5) rfl)) (fun _ h9 => h9) rfl dX1_hang_50 ?_
        refine lv_iload_n hx hb dX1_hang_53 rfl (lv_at hl 0 rfl) ?_
        refine lv_iload_n hx hb dX1_hang_54 rfl (lv_at hl 2 rfl) ?_
        refine lv_iload_n hx hb dX1_hang_55 rfl (lv_at hl 3 rfl) ?_
        have hPc : va_P D vwCl [(r, .inr (0, [.ref a1, .ref a2, .int (nI n), .int (nI w)])), (a1, .inl (cI, 40, .inl F)), (a2, .inl (cI, 40, .inl G))] s.heap := hP.sub [1, 2, 3] rfl
        have hDc : va_D A [(r, .inr (0, [.ref a1, .ref a2, .int (nI n), .int (nI w)])), (a1, .inl (cI, 40, .inl F)), (a2, .inl (cI, 40, .inl G))] := hD.sub [1, 2, 3] (by decide) rfl
        have hFc := va_free (wc := [(r, .inr (0, [.ref a1, .ref a2, .int (nI n), .int (nI w)])), (a1, .inl (cI, 40, .inl F)), (a2, .inl (cI, 40, .inl G))]) hD hS hA [1, 2, 3] rfl
        refine pq_v (va_runV (rest := []) CF (m_X0_put l D cI r a1 a2 n w F G k (nI v) (nI z) (by omega) s.heap.size) (cwV 3 hts gX1_hang_X0_put rfl rfl rfl k_X0_put ⟨Nat.le_of_ble_eq_true rfl, Nat.le_of_ble_eq_true rfl⟩) (mv_pre hK hPc hDc rfl rfl rfl) rfl rfl hl.1 rfl (lv_room (Nat.le_of_ble_eq_true rfl)) dX1_hang_56 ⟨Nat.le_of_ble_eq_true rfl, Nat.le_of_ble_eq_true rfl⟩) hS hFc (fun H locs hB hk1 hS => ?_)
        have hP1 := hB
        obtain ⟨hP, hD⟩ := jn (wb := [(o, .inr (1, [.ref r, .ref t])), (r, .inr (0, [.ref a1, .ref a2, .int (nI n), .int (nI w)])), (a1, .inl (cI, 40, .inl (upd F k (nI v)))), (a2, .inl (cI, 40, .inl (upd G k (nI z)))), (t, .inr (0, [.ref b1, .ref b2, .int (nI n2), .int (nI w2)])), (b1, .inl (cI, 40, .inl F2)), (b2, .inl (cI, 40, .inl G2))]) (w1 := [(r, .inr (0, [.ref a1, .ref a2, .int (nI n), .int (nI w)])), (a1, .inl (cI, 40, .inl (upd F k (nI v)))), (a2, .inl (cI, 40, .inl (upd G k (nI z))))]) hP hD [1, 2, 3] [0, 4, 5, 6] rfl rfl rfl rfl 7 rfl (by decide) (by decide) hk1 hP1
        refine lv_iload_n hx hb dX1_hang_59 rfl (lv_at hl 0 rfl) ?_
        exact ex_mi hx hb hr hlocks (Nat.le_of_ble_eq_true rfl) (Nat.le_of_ble_eq_true rfl) hS (⟨v, z, k, hv9, rfl, hz1, hz9, rfl, hk, ek, rfl, hP⟩) dX1_hang_60
      · skip
        exact th_x (cls := ISE) (text := "the coat hangs, or has no place") (ik := 34) (is := 36) (ic := 38) hlt CF hX hZ va_S.rf (by decide +kernel) (List.mem_of_getElem? (i := 3) rfl) (List.mem_of_getElem? (i := 4) rfl) (List.mem_of_getElem? (i := 2) rfl) (fun _ h => (List.mem_cons_of_mem _ (List.mem_append_right _ h))) xb_ISE xg_ISE hl.1 dX1_hang_39 dX1_hang_42 dX1_hang_43 dX1_hang_45 dX1_hang_48 hT ⟨Nat.le_of_ble_eq_true rfl, Nat.le_of_ble_eq_true rfl, Nat.le_of_ble_eq_true rfl, Nat.le_of_ble_eq_true rfl⟩ hlocks (fun t h1 h2 => ⟨Or.inr ⟨rfl, v, z, hv9, rfl, hz1, hz9, rfl, c36⟩, h1, h2⟩) (fun z hz => nomatch hz) (Nat.le_of_ble_eq_true rfl) (Nat.le_of_ble_eq_true rfl)
    · skip
      exact th_x (cls := IAE) (text := "the weight is not 1 to 99") (ik := 23) (is := 25) (ic := 27) hlt CF hX hZ va_S.rf (by decide +kernel) (List.mem_of_getElem? (i := 1) rfl) (List.mem_of_getElem? (i := 2) rfl) (List.mem_of_getElem? (i := 1) rfl) (fun _ h => (List.mem_cons_of_mem _ (List.mem_append_left _ (List.mem_append_right _ h)))) xb_IAE xg_IAE hl.1 dX1_hang_15 dX1_hang_18 dX1_hang_19 dX1_hang_21 dX1_hang_24 hT ⟨Nat.le_of_ble_eq_true rfl, Nat.le_of_ble_eq_true rfl, Nat.le_of_ble_eq_true rfl, Nat.le_of_ble_eq_true rfl⟩ hlocks (fun t h1 h2 => ⟨Or.inl ⟨rfl, fun z => rg_hi (by decide) c12 z.2⟩, h1, h2⟩) (fun z hz => nomatch hz) (Nat.le_of_ble_eq_true rfl) (Nat.le_of_ble_eq_true rfl)
theorem k_X1_take : yX1_take.cls = RX1 ∧ yX1_take.cls ≠ "java/lang/invoke/MethodHandle" ∧ yX1_take.cls ≠ "java/lang/invoke/VarHandle" ∧ (parseMethodDescriptor yX1_take.desc).map (fun d => d.parameters.length) = some 1 := by decide +kernel
set_option maxHeartbeats 4000000 in
set_option maxRecDepth 100000 in
theorem m_X1_take (l : Launch) (hlt : l.stackTraces = false) (D : va_G) (cI : ClassId) (o r t a1 a2 b1 b2 : Nat) {n w : Nat} {F G f g : Nat → Int32} (S : RS n w F G f g) (n2 w2 : Nat) (F2 G2 : Nat → Int32) (x : Int32) (sz : Nat) : vx_Met l yX1_take wsX1_take ({ frames := 7, cells := 2, slots := 12, locals := 110 } : Room) (PXM D [(cI, .int)] [.ref o, .int x] sz (clw cI o r t a1 a2 b1 b2 n w F G n2 w2 F2 G2)) (qm_i (fun rr H1 => ∃ v : Nat, v ≤ 9999 ∧ x = nI v ∧ fd n w f v = nI (la n w f v) ∧ rr = g (la n w f v) ∧ va_P D vwCl (clw cI o r t a1 a2 b1 b2 n w (upd F (la n w f v) (-2)) (upd G (la n w f v) (nI 0)) n2 w2 F2 G2) H1) (va_A (clw cI o r t a1 a2 b1 b2 n w F G n2 w2 F2 G2) sz)) ((fun _ => xk (fun E => (E = IAE ∧ ¬ rg 0 9999 x) ∨ (E = ISE ∧ ∃ v : Nat, v ≤ 9999 ∧ x = nI v ∧ fd n w f v = -1))) (va_A (clw cI o r t a1 a2 b1 b2 n w F G n2 w2 F2 G2) sz)) 2 12 (va_A (clw cI o r t a1 a2 b1 b2 n w F G n2 w2 F2 G2) sz) := by
  obtain ⟨hn3, hn, hw2, hF, hG, hO⟩ := id S
  refine bd_xm (Qf := fun A => qm_i (fun rr H1 => ∃ v : Nat, v ≤ 9999 ∧ x = nI v ∧ fd n w f v = nI (la n w f v) ∧ rr = g (la n w f v) ∧ va_P D vwCl (clw cI o r t a1 a2 b1 b2 n w (upd F (la n w f v) (-2)) (upd G (la n w f v) (nI 0)) n2 w2 F2 G2) H1) A) (XCf := fun _ => xk (fun E => (E = IAE ∧ ¬ rg 0 9999 x) ∨ (E = ISE ∧ ∃ v : Nat, v ≤ 9999 ∧ x = nI v ∧ fd n w f v = -1))) (cc := cX1_take) (maxL := 4) (ret := (some .int)) (by decide) rfl (Nat.le_of_ble_eq_true rfl) ?_
  intro p e s m args below meth c ls A CF hr hlocks hT hK hP hD hA hS hX hZ hl
  obtain ⟨hx, hb, hml, hown, hts⟩ := id CF
  have hl : lv_has ls 4 [(0, .ref o), (1, .int x)] := hl
  have hP : va_P D vwCl [(o, .inr (1, [.ref r, .ref t])), (r, .inr (0, [.ref a1, .ref a2, .int (nI n), .int (nI w)])), (a1, .inl (cI, 40, .inl F)), (a2, .inl (cI, 40, .inl G)), (t, .inr (0, [.ref b1, .ref b2, .int (nI n2), .int (nI w2)])), (b1, .inl (cI, 40, .inl F2)), (b2, .inl (cI, 40, .inl G2))] s.heap := hP
  have hD : va_D A [(o, .inr (1, [.ref r, .ref t])), (r, .inr (0, [.ref a1, .ref a2, .int (nI n), .int (nI w)])), (a1, .inl (cI, 40, .inl F)), (a2, .inl (cI, 40, .inl G)), (t, .inr (0, [.ref b1, .ref b2, .int (nI n2), .int (nI w2)])), (b1, .inl (cI, 40, .inl F2)), (b2, .inl (cI, 40, .inl G2))] := hD
  have hZ0 : XZ (fun _ => False) s s.heap := hZ.narrow (fun q h => h.elim)
  refine lv_iload_n hx hb dX1_take_0 rfl (lv_at hl 1 rfl) ?_
  refine px_sv CF (m_X1_demandNumber l hlt D cI x) (va_cwS 1 hts gX1_take_X1_demandNumber rfl rfl rfl k_X1_demandNumber.2 ⟨Nat.le_of_ble_eq_true rfl, Nat.le_of_ble_eq_true rfl⟩) hK (hP.sub [] rfl) hX hZ0 rfl hl.1 rfl (Nat.le_of_ble_eq_true rfl) dX1_take_1 ⟨Nat.le_of_ble_eq_true rfl, Nat.le_of_ble_eq_true rfl⟩ hlocks hT (fun E t hE h1 h2 => ⟨Or.inl hE, h1, h2⟩) (Nat.le_of_ble_eq_true rfl) (Nat.le_of_ble_eq_true rfl) (fun hc1 => ?_)
  obtain ⟨v, -, hv9, rfl⟩ := hc1
  refine lv_aload_n hx hb dX1_take_4 rfl (lv_at hl 0 rfl) ?_
  refine va_get (D := D) (ci := 1) (v := .ref r) (C := RX1) (T := TX1) (N := 2) hx hb hts (fun _ h => (List.mem_cons_of_mem _ (List.mem_append_left _ (List.mem_append_left _ (List.mem_append_left _ (List.mem_append_right _ h)))))) hown hK hP 0 rfl rfl 0 (by decide) (hts _ (List.mem_of_getElem? (i := 3) rfl)) (fun _ h9 => h9) rfl dX1_take_5 ?_
  refine lv_iload_n hx hb dX1_take_8 rfl (lv_at hl 1 rfl) ?_
  refine pv_i CF (m_X0_whereFound l D cI r a1 a2 S v hv9) (cwV 1 hts gX1_take_X0_whereFound rfl rfl rfl k_X0_whereFound ⟨Nat.le_of_ble_eq_true rfl, Nat.le_of_ble_eq_true rfl⟩) hK (hP.sub [1, 2, 3] rfl) rfl rfl rfl rfl hl.1 rfl (Nat.le_of_ble_eq_true rfl) dX1_take_9 ⟨Nat.le_of_ble_eq_true rfl, Nat.le_of_ble_eq_true rfl⟩ ?_
  refine lv_istore_n (lv' := [(2, .int (fd n w f v)), (0, .ref o), (1, .int (nI v))]) hx hb dX1_take_12 rfl hl (by decide) rfl (fun ls hl => ?_)
  refine lv_iload_n hx hb dX1_take_13 rfl (lv_at hl 0 rfl) ?_
  refine lv_iconst (v := (-1)) hx hb dX1_take_14 (by decide) ?_
  refine lv_icmp_ne (tgt := 28) hx hb dX1_take_15 (by decide) (fun c15 => ?_) (fun c15 => ?_)
  · skip
    obtain ⟨ek, efk⟩ := fd_cases (show 0 < n by omega) hn c15
    have hk := la_lt (show 0 < n by omega) w f v
    rw [ek] at hl
    refine lv_aload_n hx hb dX1_take_28 rfl (lv_at hl 1 rfl) ?_
    refine va_get (D := D) (ci := 1) (v := .ref r) (C := RX1) (T := TX1) (N := 2) hx hb hts (fun _ h => (List.mem_cons_of_mem _ (List.mem_append_left _ (List.mem_append_left _ (List.mem_append_left _ (List.mem_append_right _ h)))))) hown hK hP 0 rfl rfl 0 (by decide) (hts _ (List.mem_of_getElem? (i := 3) rfl)) (fun _ h9 => h9) rfl dX1_take_29 ?_
    refine lv_iload_n hx hb dX1_take_32 rfl (lv_at hl 0 rfl) ?_
    refine pv_i CF (m_X0_weightOn l D cI r a1 a2 S (la n w f v) (by omega)) (cwV 1 hts gX1_take_X0_weightOn rfl rfl rfl k_X0_weightOn ⟨Nat.le_of_ble_eq_true rfl, Nat.le_of_ble_eq_true rfl⟩) hK (hP.sub [1, 2, 3] rfl) rfl rfl rfl rfl hl.1 rfl (Nat.le_of_ble_eq_true rfl) dX1_take_33 ⟨Nat.le_of_ble_eq_true rfl, Nat.le_of_ble_eq_true rfl⟩ ?_
    refine tp_i (y := (g (la n w f v))) (if_pos hk) ?_
    refine lv_istore_n (lv' := [(3, .int (g (la n w f v))), (2, .int (nI (la n w f v))), (0, .ref o), (1, .int (nI v))]) hx hb dX1_take_36 rfl hl (by decide) rfl (fun ls hl => ?_)
    refine lv_aload_n hx hb dX1_take_37 rfl (lv_at hl 2 rfl) ?_
    refine va_get (D := D) (ci := 1) (v := .ref r) (C := RX1) (T := TX1) (N := 2) hx hb hts (fun _ h => (List.mem_cons_of_mem _ (List.mem_append_left _ (List.mem_append_left _ (List.mem_append_left _ (List.mem_append_right _ h)))))) hown hK hP 0 rfl rfl 0 (by decide) (hts _ (List.mem_of_getElem? (i := 3) rfl)) (fun _ h9 => h9) rfl dX1_take_38 ?_
    refine lv_iload_n hx hb dX1_take_41 rfl (lv_at hl 1 rfl) ?_
    have hPc : va_P D vwCl [(r, .inr (0, [.ref a1, .ref a2, .int (nI n), .int (nI w)])), (a1, .inl (cI, 40, .inl F)), (a2, .inl (cI, 40, .inl G))] s.heap := hP.sub [1, 2, 3] rfl
    have hDc : va_D A [(r, .inr (0, [.ref a1, .ref a2, .int (nI n), .int (nI w)])), (a1, .inl (cI, 40, .inl F)), (a2, .inl (cI, 40, .inl G))] := hD.sub [1, 2, 3] (by decide) rfl
    have hFc := va_free (wc := [(r, .inr (0, [.ref a1, .ref a2, .int (nI n), .int (nI w)])), (a1, .inl (cI, 40, .inl F)), (a2, .inl (cI, 40, .inl G))]) hD hS hA [1, 2, 3] rfl
    refine pq_v (va_runV (rest := []) CF (m_X0_leaveTicket l D cI r a1 a2 n w F G (la n w f v) (by omega) s.heap.size) (cwV 1 hts gX1_take_X0_leaveTicket rfl rfl rfl k_X0_leaveTicket ⟨Nat.le_of_ble_eq_true rfl, Nat.le_of_ble_eq_true rfl⟩) (mv_pre hK hPc hDc rfl rfl rfl) rfl rfl hl.1 rfl (lv_room (Nat.le_of_ble_eq_true rfl)) dX1_take_42 ⟨Nat.le_of_ble_eq_true rfl, Nat.le_of_ble_eq_true rfl⟩) hS hFc (fun H locs hB hk1 hS => ?_)
    have hP1 := hB
    obtain ⟨hP, hD⟩ := jn (wb := [(o, .inr (1, [.ref r, .ref t])), (r, .inr (0, [.ref a1, .ref a2, .int (nI n), .int (nI w)])), (a1, .inl (cI, 40, .inl (upd F (la n w f v) (-2)))), (a2, .inl (cI, 40, .inl (upd G (la n w f v) (nI 0)))), (t, .inr (0, [.ref b1, .ref b2, .int (nI n2), .int (nI w2)])), (b1, .inl (cI, 40, .inl F2)), (b2, .inl (cI, 40, .inl G2))]) (w1 := [(r, .inr (0, [.ref a1, .ref a2, .int (nI n), .int (nI w)])), (a1, .inl (cI, 40, .inl (upd F (la n w f v) (-2)))), (a2, .inl (cI, 40, .inl (upd G (la n w f v) (nI 0))))]) hP hD [1, 2, 3] [0, 4, 5, 6] rfl rfl rfl rfl 7 rfl (by decide) (by decide) hk1 hP1
    refine lv_iload_n hx hb dX1_take_45 rfl (lv_at hl 0 rfl) ?_
    exact ex_mi hx hb hr hlocks (Nat.le_of_ble_eq_true rfl) (Nat.le_of_ble_eq_true rfl) hS (⟨v, hv9, rfl, ek, rfl, hP⟩) dX1_take_46
  · skip
    exact th_x (cls := ISE) (text := "the coat does not hang, or is not found") (ik := 34) (is := 46) (ic := 38) hlt CF hX hZ va_S.rf (by decide +kernel) (List.mem_of_getElem? (i := 1) rfl) (List.mem_of_getElem? (i := 2) rfl) (List.mem_of_getElem? (i := 3) rfl) (fun _ h => (List.mem_cons_of_mem _ (List.mem_append_left _ (List.mem_append_right _ h)))) xb_ISE xg_ISE hl.1 dX1_take_18 dX1_take_21 dX1_take_22 dX1_take_24 dX1_take_27 hT ⟨Nat.le_of_ble_eq_true rfl, Nat.le_of_ble_eq_true rfl, Nat.le_of_ble_eq_true rfl, Nat.le_of_ble_eq_true rfl⟩ hlocks (fun t h1 h2 => ⟨Or.inr ⟨rfl, v, hv9, rfl, c15⟩, h1, h2⟩) (fun z hz => nomatch hz) (Nat.le_of_ble_eq_true rfl) (Nat.le_of_ble_eq_true rfl)
theorem k_X1_looksWith : yX1_looksWith.cls = RX1 ∧ yX1_looksWith.cls ≠ "java/lang/invoke/MethodHandle" ∧ yX1_looksWith.cls ≠ "java/lang/invoke/VarHandle" ∧ (parseMethodDescriptor yX1_looksWith.desc).map (fun d => d.parameters.length) = some 2 := by decide +kernel
set_option maxHeartbeats 4000000 in
set_option maxRecDepth 100000 in
theorem m_X1_looksWith (l : Launch) (hlt : l.stackTraces = false) (D : va_G) (cI : ClassId) (o r t a1 a2 b1 b2 : Nat) {n w : Nat} {F G f g : Nat → Int32} (S : RS n w F G f g) (n2 w2 : Nat) (F2 G2 : Nat → Int32) (x y : Int32) (sz : Nat) : vx_Met l yX1_looksWith wsX1_looksWith ({ frames := 7, cells := 1, slots := 6, locals := 117 } : Room) (PXM D [(cI, .int)] [.ref o, .int x, .int y] sz (clw cI o r t a1 a2 b1 b2 n w F G n2 w2 F2 G2)) (qm_i (fun rr H1 => ∃ N w1 : Nat, 3 ≤ N ∧ N ≤ 40 ∧ x = nI N ∧ w1 ≤ 2 ∧ y = nI w1 ∧ rr = LW n f g N w1 ∧ ∃ (n3 w3 : Nat) (F3 G3 : Nat → Int32), va_P D vwCl (clw cI o r t a1 a2 b1 b2 n w F G n3 w3 F3 G3) H1) (va_A (clw cI o r t a1 a2 b1 b2 n w F G n2 w2 F2 G2) sz)) ((fun _ => xk (fun E => E = IAE ∧ ¬ (rg 3 40 x ∧ rg 0 2 y))) (va_A (clw cI o r t a1 a2 b1 b2 n w F G n2 w2 F2 G2) sz)) 1 6 (va_A (clw cI o r t a1 a2 b1 b2 n w F G n2 w2 F2 G2) sz) := by
  obtain ⟨hn3, hn, hw2, hF, hG, hO⟩ := id S
  refine bd_xm (Qf := fun A => qm_i (fun rr H1 => ∃ N w1 : Nat, 3 ≤ N ∧ N ≤ 40 ∧ x = nI N ∧ w1 ≤ 2 ∧ y = nI w1 ∧ rr = LW n f g N w1 ∧ ∃ (n3 w3 : Nat) (F3 G3 : Nat → Int32), va_P D vwCl (clw cI o r t a1 a2 b1 b2 n w F G n3 w3 F3 G3) H1) A) (XCf := fun _ => xk (fun E => E = IAE ∧ ¬ (rg 3 40 x ∧ rg 0 2 y))) (cc := cX1_looksWith) (maxL := 3) (ret := (some .int)) (by decide) rfl (Nat.le_of_ble_eq_true rfl) ?_
  intro p e s m args below meth c ls A CF hr hlocks hT hK hP hD hA hS hX hZ hl
  obtain ⟨hx, hb, hml, hown, hts⟩ := id CF
  have hl : lv_has ls 3 [(0, .ref o), (1, .int x), (2, .int y)] := hl
  have hP : va_P D vwCl [(o, .inr (1, [.ref r, .ref t])), (r, .inr (0, [.ref a1, .ref a2, .int (nI n), .int (nI w)])), (a1, .inl (cI, 40, .inl F)), (a2, .inl (cI, 40, .inl G)), (t, .inr (0, [.ref b1, .ref b2, .int (nI n2), .int (nI w2)])), (b1, .inl (cI, 40, .inl F2)), (b2, .inl (cI, 40, .inl G2))] s.heap := hP
  have hD : va_D A [(o, .inr (1, [.ref r, .ref t])), (r, .inr (0, [.ref a1, .ref a2, .int (nI n), .int (nI w)])), (a1, .inl (cI, 40, .inl F)), (a2, .inl (cI, 40, .inl G)), (t, .inr (0, [.ref b1, .ref b2, .int (nI n2), .int (nI w2)])), (b1, .inl (cI, 40, .inl F2)), (b2, .inl (cI, 40, .inl G2))] := hD
  have hZ0 : XZ (fun _ => False) s s.heap := hZ.narrow (fun q h => h.elim)
  refine lv_iload_n hx hb dX1_looksWith_0 rfl (lv_at hl 1 rfl) ?_
  refine lv_iload_n hx hb dX1_looksWith_1 rfl (lv_at hl 2 rfl) ?_
  refine px_sv CF (m_X1_demandHooksAndWay l hlt D cI x y) (va_cwS 2 hts gX1_looksWith_X1_demandHooksAndWay rfl rfl rfl k_X1_demandHooksAndWay.2 ⟨Nat.le_of_ble_eq_true rfl, Nat.le_of_ble_eq_true rfl⟩) hK (hP.sub [] rfl) hX hZ0 rfl hl.1 rfl (Nat.le_of_ble_eq_true rfl) dX1_looksWith_2 ⟨Nat.le_of_ble_eq_true rfl, Nat.le_of_ble_eq_true rfl⟩ hlocks hT (fun E t hE h1 h2 => ⟨hE, h1, h2⟩) (Nat.le_of_ble_eq_true rfl) (Nat.le_of_ble_eq_true rfl) (fun hc2 => ?_)
  obtain ⟨⟨N, hN3, hN40, rfl⟩, w1, -, hw1, rfl⟩ := hc2
  refine lv_aload_n hx hb dX1_looksWith_5 rfl (lv_at hl 0 rfl) ?_
  refine lv_iload_n hx hb dX1_looksWith_6 rfl (lv_at hl 1 rfl) ?_
  refine lv_iload_n hx hb dX1_looksWith_7 rfl (lv_at hl 2 rfl) ?_
  have hPc : va_P D vwCl [(o, .inr (1, [.ref r, .ref t])), (r, .inr (0, [.ref a1, .ref a2, .int (nI n), .int (nI w)])), (a1, .inl (cI, 40, .inl F)), (a2, .inl (cI, 40, .inl G)), (t, .inr (0, [.ref b1, .ref b2, .int (nI n2), .int (nI w2)])), (b1, .inl (cI, 40, .inl F2)), (b2, .inl (cI, 40, .inl G2))] s.heap := hP.sub [0, 1, 2, 3, 4, 5, 6] rfl
  have hDc : va_D A [(o, .inr (1, [.ref r, .ref t])), (r, .inr (0, [.ref a1, .ref a2, .int (nI n), .int (nI w)])), (a1, .inl (cI, 40, .inl F)), (a2, .inl (cI, 40, .inl G)), (t, .inr (0, [.ref b1, .ref b2, .int (nI n2), .int (nI w2)])), (b1, .inl (cI, 40, .inl F2)), (b2, .inl (cI, 40, .inl G2))] := hD.sub [0, 1, 2, 3, 4, 5, 6] (by decide) rfl
  have hFc := va_free (wc := [(o, .inr (1, [.ref r, .ref t])), (r, .inr (0, [.ref a1, .ref a2, .int (nI n), .int (nI w)])), (a1, .inl (cI, 40, .inl F)), (a2, .inl (cI, 40, .inl G)), (t, .inr (0, [.ref b1, .ref b2, .int (nI n2), .int (nI w2)])), (b1, .inl (cI, 40, .inl F2)), (b2, .inl (cI, 40, .inl G2))]) hD hS hA [0, 1, 2, 3, 4, 5, 6] rfl
  refine pq_i (va_runV (rest := []) CF (m_X1_looksOnTrial l D cI o r t a1 a2 b1 b2 S n2 w2 F2 G2 N w1 hN3 hN40 hw1 s.heap.size) (cwV 2 hts gX1_looksWith_X1_looksOnTrial rfl rfl rfl k_X1_looksOnTrial ⟨Nat.le_of_ble_eq_true rfl, Nat.le_of_ble_eq_true rfl⟩) (mv_pre hK hPc hDc rfl rfl rfl) rfl rfl hl.1 rfl (lv_room (Nat.le_of_ble_eq_true rfl)) dX1_looksWith_8 ⟨Nat.le_of_ble_eq_true rfl, Nat.le_of_ble_eq_true rfl⟩) hS hFc (fun r1 H locs hB hk1 hS => ?_)
  obtain ⟨rfl, F3, G3, hP1⟩ := hB
  obtain ⟨hP, hD⟩ := jn (wb := [(o, .inr (1, [.ref r, .ref t])), (r, .inr (0, [.ref a1, .ref a2, .int (nI n), .int (nI w)])), (a1, .inl (cI, 40, .inl F)), (a2, .inl (cI, 40, .inl G)), (t, .inr (0, [.ref b1, .ref b2, .int (nI N), .int (nI w1)])), (b1, .inl (cI, 40, .inl F3)), (b2, .inl (cI, 40, .inl G3))]) (w1 := [(o, .inr (1, [.ref r, .ref t])), (r, .inr (0, [.ref a1, .ref a2, .int (nI n), .int (nI w)])), (a1, .inl (cI, 40, .inl F)), (a2, .inl (cI, 40, .inl G)), (t, .inr (0, [.ref b1, .ref b2, .int (nI N), .int (nI w1)])), (b1, .inl (cI, 40, .inl F3)), (b2, .inl (cI, 40, .inl G3))]) hP hD [0, 1, 2, 3, 4, 5, 6] [] rfl rfl rfl rfl 7 rfl (by decide) (by decide) hk1 hP1
  exact ex_mi hx hb hr hlocks (Nat.le_of_ble_eq_true rfl) (Nat.le_of_ble_eq_true rfl) hS (⟨N, w1, hN3, hN40, rfl, hw1, rfl, rfl, N, w1, F3, G3, hP⟩) dX1_looksWith_11
theorem k_X1_hooksWanted : yX1_hooksWanted.cls = RX1 ∧ yX1_hooksWanted.cls ≠ "java/lang/invoke/MethodHandle" ∧ yX1_hooksWanted.cls ≠ "java/lang/invoke/VarHandle" ∧ (parseMethodDescriptor yX1_hooksWanted.desc).map (fun d => d.parameters.length) = some 1 := by decide +kernel
set_option maxHeartbeats 4000000 in
set_option maxRecDepth 100000 in
theorem m_X1_hooksWanted (l : Launch) (hlt : l.stackTraces = false) (D : va_G) (cI : ClassId) (o r t a1 a2 b1 b2 : Nat) {n w : Nat} {F G f g : Nat → Int32} (S : RS n w F G f g) (n2 w2 : Nat) (F2 G2 : Nat → Int32) (x : Int32) (sz : Nat) : vx_Met l yX1_hooksWanted wsX1_hooksWanted ({ frames := 6, cells := 1, slots := 6, locals := 140 } : Room) (PXM D [(cI, .int)] [.ref o, .int x] sz (clw cI o r t a1 a2 b1 b2 n w F G n2 w2 F2 G2)) (qm_i (fun rr H1 => ∃ v : Nat, v ≤ 400 ∧ x = nI v ∧ rr = fh n w f g v ∧ ∃ (n3 w3 : Nat) (F3 G3 : Nat → Int32), va_P D vwCl (clw cI o r t a1 a2 b1 b2 n w F G n3 w3 F3 G3) H1) (va_A (clw cI o r t a1 a2 b1 b2 n w F G n2 w2 F2 G2) sz)) ((fun _ => xk (fun E => E = IAE ∧ ¬ rg 0 400 x)) (va_A (clw cI o r t a1 a2 b1 b2 n w F G n2 w2 F2 G2) sz)) 1 6 (va_A (clw cI o r t a1 a2 b1 b2 n w F G n2 w2 F2 G2) sz) := by
  obtain ⟨hn3, hn, hw2, hF, hG, hO⟩ := id S
  refine bd_xm (Qf := fun A => qm_i (fun rr H1 => ∃ v : Nat, v ≤ 400 ∧ x = nI v ∧ rr = fh n w f g v ∧ ∃ (n3 w3 : Nat) (F3 G3 : Nat → Int32), va_P D vwCl (clw cI o r t a1 a2 b1 b2 n w F G n3 w3 F3 G3) H1) A) (XCf := fun _ => xk (fun E => E = IAE ∧ ¬ rg 0 400 x)) (cc := cX1_hooksWanted) (maxL := 2) (ret := (some .int)) (by decide) rfl (Nat.le_of_ble_eq_true rfl) ?_
  intro p e s m args below meth c ls A CF hr hlocks hT hK hP hD hA hS hX hZ hl
  obtain ⟨hx, hb, hml, hown, hts⟩ := id CF
  have hl : lv_has ls 2 [(0, .ref o), (1, .int x)] := hl
  have hP : va_P D vwCl [(o, .inr (1, [.ref r, .ref t])), (r, .inr (0, [.ref a1, .ref a2, .int (nI n), .int (nI w)])), (a1, .inl (cI, 40, .inl F)), (a2, .inl (cI, 40, .inl G)), (t, .inr (0, [.ref b1, .ref b2, .int (nI n2), .int (nI w2)])), (b1, .inl (cI, 40, .inl F2)), (b2, .inl (cI, 40, .inl G2))] s.heap := hP
  have hD : va_D A [(o, .inr (1, [.ref r, .ref t])), (r, .inr (0, [.ref a1, .ref a2, .int (nI n), .int (nI w)])), (a1, .inl (cI, 40, .inl F)), (a2, .inl (cI, 40, .inl G)), (t, .inr (0, [.ref b1, .ref b2, .int (nI n2), .int (nI w2)])), (b1, .inl (cI, 40, .inl F2)), (b2, .inl (cI, 40, .inl G2))] := hD
  have hZ0 : XZ (fun _ => False) s s.heap := hZ.narrow (fun q h => h.elim)
  refine lv_iload_n hx hb dX1_hooksWanted_0 rfl (lv_at hl 1 rfl) ?_
  refine lv_if_lt (tgt := 11) hx hb dX1_hooksWanted_1 (by decide) (fun c1 => ?_) (fun c1 => ?_)
  · skip
    exact th_x (cls := IAE) (text := "the looks are not 0 to 400") (ik := 23) (is := 128) (ic := 27) hlt CF hX hZ va_S.rf (by decide +kernel) (List.mem_of_getElem? (i := 1) rfl) (List.mem_of_getElem? (i := 2) rfl) (List.mem_of_getElem? (i := 9) rfl) (fun _ h => (List.mem_cons_of_mem _ (List.mem_append_right _ h))) xb_IAE xg_IAE hl.1 dX1_hooksWanted_11 dX1_hooksWanted_14 dX1_hooksWanted_15 dX1_hooksWanted_17 dX1_hooksWanted_20 hT ⟨Nat.le_of_ble_eq_true rfl, Nat.le_of_ble_eq_true rfl, Nat.le_of_ble_eq_true rfl, Nat.le_of_ble_eq_true rfl⟩ hlocks (fun t h1 h2 => ⟨⟨rfl, rg_lo0 (by decide) c1⟩, h1, h2⟩) (fun z hz => nomatch hz) (Nat.le_of_ble_eq_true rfl) (Nat.le_of_ble_eq_true rfl)
  · skip
    refine lv_iload_n hx hb dX1_hooksWanted_4 rfl (lv_at hl 1 rfl) ?_
    refine lv_sipush (v := nI 400) hx hb dX1_hooksWanted_5 (by decide) ?_
    refine lv_icmp_le (tgt := 21) hx hb dX1_hooksWanted_8 (by decide) (fun c8 => ?_) (fun c8 => ?_)
    · skip
      obtain ⟨v, -, hv, rfl⟩ := rg_in0 (b := 400) (by decide) c1 c8
      refine lv_aload_n hx hb dX1_hooksWanted_21 rfl (lv_at hl 0 rfl) ?_
      refine lv_iload_n hx hb dX1_hooksWanted_22 rfl (lv_at hl 1 rfl) ?_
      have hPc : va_P D vwCl [(o, .inr (1, [.ref r, .ref t])), (r, .inr (0, [.ref a1, .ref a2, .int (nI n), .int (nI w)])), (a1, .inl (cI, 40, .inl F)), (a2, .inl (cI, 40, .inl G)), (t, .inr (0, [.ref b1, .ref b2, .int (nI n2), .int (nI w2)])), (b1, .inl (cI, 40, .inl F2)), (b2, .inl (cI, 40, .inl G2))] s.heap := hP.sub [0, 1, 2, 3, 4, 5, 6] rfl
      have hDc : va_D A [(o, .inr (1, [.ref r, .ref t])), (r, .inr (0, [.ref a1, .ref a2, .int (nI n), .int (nI w)])), (a1, .inl (cI, 40, .inl F)), (a2, .inl (cI, 40, .inl G)), (t, .inr (0, [.ref b1, .ref b2, .int (nI n2), .int (nI w2)])), (b1, .inl (cI, 40, .inl F2)), (b2, .inl (cI, 40, .inl G2))] := hD.sub [0, 1, 2, 3, 4, 5, 6] (by decide) rfl
      have hFc := va_free (wc := [(o, .inr (1, [.ref r, .ref t])), (r, .inr (0, [.ref a1, .ref a2, .int (nI n), .int (nI w)])), (a1, .inl (cI, 40, .inl F)), (a2, .inl (cI, 40, .inl G)), (t, .inr (0, [.ref b1, .ref b2, .int (nI n2), .int (nI w2)])), (b1, .inl (cI, 40, .inl F2)), (b2, .inl (cI, 40, .inl G2))]) hD hS hA [0, 1, 2, 3, 4, 5, 6] rfl
      refine pq_i (va_runV (rest := []) CF (m_X1_fewestHooks l D cI o r t a1 a2 b1 b2 S n2 w2 F2 G2 v hv s.heap.size) (cwV 1 hts gX1_hooksWanted_X1_fewestHooks rfl rfl rfl k_X1_fewestHooks ⟨Nat.le_of_ble_eq_true rfl, Nat.le_of_ble_eq_true rfl⟩) (mv_pre hK hPc hDc rfl rfl rfl) rfl rfl hl.1 rfl (lv_room (Nat.le_of_ble_eq_true rfl)) dX1_hooksWanted_23 ⟨Nat.le_of_ble_eq_true rfl, Nat.le_of_ble_eq_true rfl⟩) hS hFc (fun r1 H locs hB hk1 hS => ?_)
      obtain ⟨rfl, n3, w3, F3, G3, hP1⟩ := hB
      obtain ⟨hP, hD⟩ := jn (wb := [(o, .inr (1, [.ref r, .ref t])), (r, .inr (0, [.ref a1, .ref a2, .int (nI n), .int (nI w)])), (a1, .inl (cI, 40, .inl F)), (a2, .inl (cI, 40, .inl G)), (t, .inr (0, [.ref b1, .ref b2, .int (nI n3), .int (nI w3)])), (b1, .inl (cI, 40, .inl F3)), (b2, .inl (cI, 40, .inl G3))]) (w1 := [(o, .inr (1, [.ref r, .ref t])), (r, .inr (0, [.ref a1, .ref a2, .int (nI n), .int (nI w)])), (a1, .inl (cI, 40, .inl F)), (a2, .inl (cI, 40, .inl G)), (t, .inr (0, [.ref b1, .ref b2, .int (nI n3), .int (nI w3)])), (b1, .inl (cI, 40, .inl F3)), (b2, .inl (cI, 40, .inl G3))]) hP hD [0, 1, 2, 3, 4, 5, 6] [] rfl rfl rfl rfl 7 rfl (by decide) (by decide) hk1 hP1
      exact ex_mi hx hb hr hlocks (Nat.le_of_ble_eq_true rfl) (Nat.le_of_ble_eq_true rfl) hS (⟨v, hv, rfl, rfl, n3, w3, F3, G3, hP⟩) dX1_hooksWanted_26
    · skip
      exact th_x (cls := IAE) (text := "the looks are not 0 to 400") (ik := 23) (is := 128) (ic := 27) hlt CF hX hZ va_S.rf (by decide +kernel) (List.mem_of_getElem? (i := 1) rfl) (List.mem_of_getElem? (i := 2) rfl) (List.mem_of_getElem? (i := 9) rfl) (fun _ h => (List.mem_cons_of_mem _ (List.mem_append_right _ h))) xb_IAE xg_IAE hl.1 dX1_hooksWanted_11 dX1_hooksWanted_14 dX1_hooksWanted_15 dX1_hooksWanted_17 dX1_hooksWanted_20 hT ⟨Nat.le_of_ble_eq_true rfl, Nat.le_of_ble_eq_true rfl, Nat.le_of_ble_eq_true rfl, Nat.le_of_ble_eq_true rfl⟩ hlocks (fun t h1 h2 => ⟨⟨rfl, rg_hi (by decide) c8⟩, h1, h2⟩) (fun z hz => nomatch hz) (Nat.le_of_ble_eq_true rfl) (Nat.le_of_ble_eq_true rfl)
theorem k_X1_rehang : yX1_rehang.cls = RX1 ∧ yX1_rehang.cls ≠ "java/lang/invoke/MethodHandle" ∧ yX1_rehang.cls ≠ "java/lang/invoke/VarHandle" ∧ (parseMethodDescriptor yX1_rehang.desc).map (fun d => d.parameters.length) = some 2 := by decide +kernel
set_option maxHeartbeats 4000000 in
set_option maxRecDepth 100000 in
theorem m_X1_rehang (l : Launch) (hlt : l.stackTraces = false) (D : va_G) (cI : ClassId) (o r t a1 a2 b1 b2 : Nat) {n w : Nat} {F G f g : Nat → Int32} (S : RS n w F G f g) (n2 w2 : Nat) (F2 G2 : Nat → Int32) (x y : Int32) (sz : Nat) : vx_Met l yX1_rehang wsX1_rehang ({ frames := 7, cells := 2, slots := 12, locals := 111 } : Room) (PXM D [(cI, .int)] [.ref o, .int x, .int y] sz (clw cI o r t a1 a2 b1 b2 n w F G n2 w2 F2 G2)) (qm_i (fun rr H1 => ∃ N w1 : Nat, 3 ≤ N ∧ N ≤ 40 ∧ x = nI N ∧ w1 ≤ 2 ∧ y = nI w1 ∧ ∃ (T U : Nat → Int32) (z : Nat), HG n f g N w1 = some (T, U, z) ∧ nt N T ∧ rr = nI (cm n f N T) ∧ ∃ (F3 G3 : Nat → Int32), RS N w1 F3 G3 T U ∧ ∃ (n3 w3 : Nat) (F4 G4 : Nat → Int32), va_P D vwCl (clw cI o r t a1 a2 b1 b2 N w1 F3 G3 n3 w3 F4 G4) H1) (va_A (clw cI o r t a1 a2 b1 b2 n w F G n2 w2 F2 G2) sz)) ((fun A E st tt => (xk (fun E => E = IAE ∧ ¬ (rg 3 40 x ∧ rg 0 2 y)) E st tt) ∨ (E = ISE ∧ (∃ N w1 : Nat, 3 ≤ N ∧ N ≤ 40 ∧ x = nI N ∧ w1 ≤ 2 ∧ y = nI w1 ∧ HG n f g N w1 = none) ∧ (∃ (n3 w3 : Nat) (F3 G3 : Nat → Int32), va_P D vwCl (clw cI o r t a1 a2 b1 b2 n w F G n3 w3 F3 G3) tt.heap) ∧ va_F A st tt)) (va_A (clw cI o r t a1 a2 b1 b2 n w F G n2 w2 F2 G2) sz)) 2 12 (va_A (clw cI o r t a1 a2 b1 b2 n w F G n2 w2 F2 G2) sz) := by
  obtain ⟨hn3, hn, hw2, hF, hG, hO⟩ := id S
  refine bd_xm (Qf := fun A => qm_i (fun rr H1 => ∃ N w1 : Nat, 3 ≤ N ∧ N ≤ 40 ∧ x = nI N ∧ w1 ≤ 2 ∧ y = nI w1 ∧ ∃ (T U : Nat → Int32) (z : Nat), HG n f g N w1 = some (T, U, z) ∧ nt N T ∧ rr = nI (cm n f N T) ∧ ∃ (F3 G3 : Nat → Int32), RS N w1 F3 G3 T U ∧ ∃ (n3 w3 : Nat) (F4 G4 : Nat → Int32), va_P D vwCl (clw cI o r t a1 a2 b1 b2 N w1 F3 G3 n3 w3 F4 G4) H1) A) (XCf := fun A E st tt => (xk (fun E => E = IAE ∧ ¬ (rg 3 40 x ∧ rg 0 2 y)) E st tt) ∨ (E = ISE ∧ (∃ N w1 : Nat, 3 ≤ N ∧ N ≤ 40 ∧ x = nI N ∧ w1 ≤ 2 ∧ y = nI w1 ∧ HG n f g N w1 = none) ∧ (∃ (n3 w3 : Nat) (F3 G3 : Nat → Int32), va_P D vwCl (clw cI o r t a1 a2 b1 b2 n w F G n3 w3 F3 G3) tt.heap) ∧ va_F A st tt)) (cc := cX1_rehang) (maxL := 4) (ret := (some .int)) (by decide) rfl (Nat.le_of_ble_eq_true rfl) ?_
  intro p e s m args below meth c ls A CF hr hlocks hT hK hP hD hA hS hX hZ hl
  obtain ⟨hx, hb, hml, hown, hts⟩ := id CF
  have hl : lv_has ls 4 [(0, .ref o), (1, .int x), (2, .int y)] := hl
  have hP : va_P D vwCl [(o, .inr (1, [.ref r, .ref t])), (r, .inr (0, [.ref a1, .ref a2, .int (nI n), .int (nI w)])), (a1, .inl (cI, 40, .inl F)), (a2, .inl (cI, 40, .inl G)), (t, .inr (0, [.ref b1, .ref b2, .int (nI n2), .int (nI w2)])), (b1, .inl (cI, 40, .inl F2)), (b2, .inl (cI, 40, .inl G2))] s.heap := hP
  have hD : va_D A [(o, .inr (1, [.ref r, .ref t])), (r, .inr (0, [.ref a1, .ref a2, .int (nI n), .int (nI w)])), (a1, .inl (cI, 40, .inl F)), (a2, .inl (cI, 40, .inl G)), (t, .inr (0, [.ref b1, .ref b2, .int (nI n2), .int (nI w2)])), (b1, .inl (cI, 40, .inl F2)), (b2, .inl (cI, 40, .inl G2))] := hD
  have hZ0 : XZ (fun _ => False) s s.heap := hZ.narrow (fun q h => h.elim)
  refine lv_iload_n hx hb dX1_rehang_0 rfl (lv_at hl 1 rfl) ?_
  refine lv_iload_n hx hb dX1_rehang_1 rfl (lv_at hl 2 rfl) ?_
  refine px_sv CF (m_X1_demandHooksAndWay l hlt D cI x y) (va_cwS 2 hts gX1_rehang_X1_demandHooksAndWay rfl rfl rfl k_X1_demandHooksAndWay.2 ⟨Nat.le_of_ble_eq_true rfl, Nat.le_of_ble_eq_true rfl⟩) hK (hP.sub [] rfl) hX hZ0 rfl hl.1 rfl (Nat.le_of_ble_eq_true rfl) dX1_rehang_2 ⟨Nat.le_of_ble_eq_true rfl, Nat.le_of_ble_eq_true rfl⟩ hlocks hT (fun E t hE h1 h2 => Or.inl ⟨hE, h1, h2⟩) (Nat.le_of_ble_eq_true rfl) (Nat.le_of_ble_eq_true rfl) (fun hc2 => ?_)
  obtain ⟨⟨N, hN3, hN40, rfl⟩, w1, -, hw1, rfl⟩ := hc2
  refine lv_aload_n hx hb dX1_rehang_5 rfl (lv_at hl 0 rfl) ?_
  refine lv_iload_n hx hb dX1_rehang_6 rfl (lv_at hl 1 rfl) ?_
  refine lv_iload_n hx hb dX1_rehang_7 rfl (lv_at hl 2 rfl) ?_
  have hPc : va_P D vwCl [(o, .inr (1, [.ref r, .ref t])), (r, .inr (0, [.ref a1, .ref a2, .int (nI n), .int (nI w)])), (a1, .inl (cI, 40, .inl F)), (a2, .inl (cI, 40, .inl G)), (t, .inr (0, [.ref b1, .ref b2, .int (nI n2), .int (nI w2)])), (b1, .inl (cI, 40, .inl F2)), (b2, .inl (cI, 40, .inl G2))] s.heap := hP.sub [0, 1, 2, 3, 4, 5, 6] rfl
  have hDc : va_D A [(o, .inr (1, [.ref r, .ref t])), (r, .inr (0, [.ref a1, .ref a2, .int (nI n), .int (nI w)])), (a1, .inl (cI, 40, .inl F)), (a2, .inl (cI, 40, .inl G)), (t, .inr (0, [.ref b1, .ref b2, .int (nI n2), .int (nI w2)])), (b1, .inl (cI, 40, .inl F2)), (b2, .inl (cI, 40, .inl G2))] := hD.sub [0, 1, 2, 3, 4, 5, 6] (by decide) rfl
  have hFc := va_free (wc := [(o, .inr (1, [.ref r, .ref t])), (r, .inr (0, [.ref a1, .ref a2, .int (nI n), .int (nI w)])), (a1, .inl (cI, 40, .inl F)), (a2, .inl (cI, 40, .inl G)), (t, .inr (0, [.ref b1, .ref b2, .int (nI n2), .int (nI w2)])), (b1, .inl (cI, 40, .inl F2)), (b2, .inl (cI, 40, .inl G2))]) hD hS hA [0, 1, 2, 3, 4, 5, 6] rfl
  refine pq_i (va_runV (rest := []) CF (m_X1_hangAnewOnTrial l D cI o r t a1 a2 b1 b2 S n2 w2 F2 G2 N w1 hN3 hN40 hw1 s.heap.size) (cwV 2 hts gX1_rehang_X1_hangAnewOnTrial rfl rfl rfl k_X1_hangAnewOnTrial ⟨Nat.le_of_ble_eq_true rfl, Nat.le_of_ble_eq_true rfl⟩) (mv_pre hK hPc hDc rfl rfl rfl) rfl rfl hl.1 rfl (lv_room (Nat.le_of_ble_eq_true rfl)) dX1_rehang_8 ⟨Nat.le_of_ble_eq_true rfl, Nat.le_of_ble_eq_true rfl⟩) hS hFc (fun r1 H locs hB hk1 hS => ?_)
  obtain ⟨F3, G3, hP1, hR⟩ := hB
  obtain ⟨hP, hD⟩ := jn (wb := [(o, .inr (1, [.ref r, .ref t])), (r, .inr (0, [.ref a1, .ref a2, .int (nI n), .int (nI w)])), (a1, .inl (cI, 40, .inl F)), (a2, .inl (cI, 40, .inl G)), (t, .inr (0, [.ref b1, .ref b2, .int (nI N), .int (nI w1)])), (b1, .inl (cI, 40, .inl F3)), (b2, .inl (cI, 40, .inl G3))]) (w1 := [(o, .inr (1, [.ref r, .ref t])), (r, .inr (0, [.ref a1, .ref a2, .int (nI n), .int (nI w)])), (a1, .inl (cI, 40, .inl F)), (a2, .inl (cI, 40, .inl G)), (t, .inr (0, [.ref b1, .ref b2, .int (nI N), .int (nI w1)])), (b1, .inl (cI, 40, .inl F3)), (b2, .inl (cI, 40, .inl G3))]) hP hD [0, 1, 2, 3, 4, 5, 6] [] rfl rfl rfl rfl 7 rfl (by decide) (by decide) hk1 hP1
  rcases hR with ⟨rfl, T, U, z, hHG, S4, hT4⟩ | ⟨rfl, hHG⟩
  · skip
    refine bz_ne (tgt := 24) hx hb dX1_rehang_11 (by decide) (by omega) (fun c11 => ?_) (fun c11 => ?_)
    · skip
      refine lv_aload_n hx hb dX1_rehang_24 rfl (lv_at hl 0 rfl) ?_
      refine pv_i CF (m_X1_coatsMovedOnTrial l D cI o r t a1 a2 b1 b2 S S4) (cwV 0 hts gX1_rehang_X1_coatsMovedOnTrial rfl rfl rfl k_X1_coatsMovedOnTrial ⟨Nat.le_of_ble_eq_true rfl, Nat.le_of_ble_eq_true rfl⟩) hK (hP.sub [0, 1, 2, 3, 4, 5, 6] rfl) rfl rfl rfl rfl hl.1 rfl (Nat.le_of_ble_eq_true rfl) dX1_rehang_25 ⟨Nat.le_of_ble_eq_true rfl, Nat.le_of_ble_eq_true rfl⟩ ?_
      refine lv_istore_n (lv' := [(3, .int (nI (cm n f N T))), (0, .ref o), (1, .int (nI N)), (2, .int (nI w1))]) hx hb dX1_rehang_28 rfl hl (by decide) rfl (fun ls hl => ?_)
      refine lv_aload_n hx hb dX1_rehang_29 rfl (lv_at hl 1 rfl) ?_
      have hPc : va_P D vwCl [(o, .inr (1, [.ref r, .ref t])), (r, .inr (0, [.ref a1, .ref a2, .int (nI n), .int (nI w)])), (a1, .inl (cI, 40, .inl F)), (a2, .inl (cI, 40, .inl G)), (t, .inr (0, [.ref b1, .ref b2, .int (nI N), .int (nI w1)])), (b1, .inl (cI, 40, .inl F3)), (b2, .inl (cI, 40, .inl G3))] H := hP.sub [0, 1, 2, 3, 4, 5, 6] rfl
      have hDc : va_D A [(o, .inr (1, [.ref r, .ref t])), (r, .inr (0, [.ref a1, .ref a2, .int (nI n), .int (nI w)])), (a1, .inl (cI, 40, .inl F)), (a2, .inl (cI, 40, .inl G)), (t, .inr (0, [.ref b1, .ref b2, .int (nI N), .int (nI w1)])), (b1, .inl (cI, 40, .inl F3)), (b2, .inl (cI, 40, .inl G3))] := hD.sub [0, 1, 2, 3, 4, 5, 6] (by decide) rfl
      have hFc := va_free (wc := [(o, .inr (1, [.ref r, .ref t])), (r, .inr (0, [.ref a1, .ref a2, .int (nI n), .int (nI w)])), (a1, .inl (cI, 40, .inl F)), (a2, .inl (cI, 40, .inl G)), (t, .inr (0, [.ref b1, .ref b2, .int (nI N), .int (nI w1)])), (b1, .inl (cI, 40, .inl F3)), (b2, .inl (cI, 40, .inl G3))]) hD hS hA [0, 1, 2, 3, 4, 5, 6] rfl
      refine pq_v (va_runV (rest := []) CF (m_X1_takeOverTrial l D cI o r t a1 a2 b1 b2 n w F G S4 hT4 H.size) (cwV 0 hts gX1_rehang_X1_takeOverTrial rfl rfl rfl k_X1_takeOverTrial ⟨Nat.le_of_ble_eq_true rfl, Nat.le_of_ble_eq_true rfl⟩) (mv_pre hK hPc hDc rfl rfl rfl) rfl rfl hl.1 rfl (lv_room (Nat.le_of_ble_eq_true rfl)) dX1_rehang_30 ⟨Nat.le_of_ble_eq_true rfl, Nat.le_of_ble_eq_true rfl⟩) hS hFc (fun H locs hB hk1 hS => ?_)
      obtain ⟨F5, G5, S5, hP1⟩ := hB
      obtain ⟨hP, hD⟩ := jn (wb := [(o, .inr (1, [.ref r, .ref t])), (r, .inr (0, [.ref a1, .ref a2, .int (nI N), .int (nI w1)])), (a1, .inl (cI, 40, .inl F5)), (a2, .inl (cI, 40, .inl G5)), (t, .inr (0, [.ref b1, .ref b2, .int (nI N), .int (nI w1)])), (b1, .inl (cI, 40, .inl F3)), (b2, .inl (cI, 40, .inl G3))]) (w1 := [(o, .inr (1, [.ref r, .ref t])), (r, .inr (0, [.ref a1, .ref a2, .int (nI N), .int (nI w1)])), (a1, .inl (cI, 40, .inl F5)), (a2, .inl (cI, 40, .inl G5)), (t, .inr (0, [.ref b1, .ref b2, .int (nI N), .int (nI w1)])), (b1, .inl (cI, 40, .inl F3)), (b2, .inl (cI, 40, .inl G3))]) hP hD [0, 1, 2, 3, 4, 5, 6] [] rfl rfl rfl rfl 7 rfl (by decide) (by decide) hk1 hP1
      refine lv_iload_n hx hb dX1_rehang_33 rfl (lv_at hl 0 rfl) ?_
      exact ex_mi hx hb hr hlocks (Nat.le_of_ble_eq_true rfl) (Nat.le_of_ble_eq_true rfl) hS (⟨N, w1, hN3, hN40, rfl, hw1, rfl, T, U, z, hHG, hT4, rfl, F5, G5, S5, N, w1, F3, G3, hP⟩) dX1_rehang_34
    · skip
      omega
  · skip
    refine bz_ne (tgt := 24) hx hb dX1_rehang_11 (by decide) (by omega) (fun c11 => ?_) (fun c11 => ?_)
    · skip
      omega
    · skip
      exact th_x (cls := ISE) (text := "a coat has no place") (ik := 34) (is := 62) (ic := 38) hlt CF hX hZ hS (by decide +kernel) (List.mem_of_getElem? (i := 1) rfl) (List.mem_of_getElem? (i := 2) rfl) (List.mem_of_getElem? (i := 6) rfl) (fun _ h => (List.mem_cons_of_mem _ (List.mem_append_left _ (List.mem_append_right _ h)))) xb_ISE xg_ISE hl.1 dX1_rehang_14 dX1_rehang_17 dX1_rehang_18 dX1_rehang_20 dX1_rehang_23 hT ⟨Nat.le_of_ble_eq_true rfl, Nat.le_of_ble_eq_true rfl, Nat.le_of_ble_eq_true rfl, Nat.le_of_ble_eq_true rfl⟩ hlocks (fun t h1 h2 => Or.inr ⟨rfl, ⟨N, w1, hN3, hN40, rfl, hw1, rfl, hHG⟩, ⟨N, w1, F3, G3, hP.kept (fun k q hk => h2 q.1 ((hP k q hk).lt))⟩, Nat.le_trans hS.1 h1, fun q hq hA2 => by rw [h2 q (Nat.lt_of_lt_of_le hq hS.1)]; exact hS.2.1 q hq hA2⟩) hS.2.2 (Nat.le_of_ble_eq_true rfl) (Nat.le_of_ble_eq_true rfl)
theorem k_X1_meanLooks : yX1_meanLooks.cls = RX1 ∧ yX1_meanLooks.cls ≠ "java/lang/invoke/MethodHandle" ∧ yX1_meanLooks.cls ≠ "java/lang/invoke/VarHandle" ∧ (parseMethodDescriptor yX1_meanLooks.desc).map (fun d => d.parameters.length) = some 0 := by decide +kernel
set_option maxHeartbeats 4000000 in
set_option maxRecDepth 100000 in
theorem m_X1_meanLooks (l : Launch) (D : va_G) (cI : ClassId) (o r t a1 a2 b1 b2 : Nat) {n w : Nat} {F G f g : Nat → Int32} (S : RS n w F G f g) (n2 w2 : Nat) (F2 G2 : Nat → Int32) (hnn : NN) : Met l yX1_meanLooks wsX1_meanLooks ({ frames := 3, cells := 0, slots := 0, locals := 69 } : Room) (PR D [(cI, .int)] [.ref o] (clw cI o r t a1 a2 b1 b2 n w F G n2 w2 F2 G2)) (vp_Sd (fun r => r = ml n w f)) 0 0 (fun _ => False) := by
  obtain ⟨hn3, hn, hw2, hF, hG, hO⟩ := id S
  refine bd_p (cc := cX1_meanLooks) (maxL := 2) (ret := (some .double)) (by decide) rfl (Nat.le_of_ble_eq_true rfl) ?_
  intro p e s m args below meth c ls CF hr hlocks hK hP hl
  obtain ⟨hx, hb, hml, hown, hts⟩ := id CF
  have hl : lv_has ls 2 [(0, .ref o)] := hl
  have hP : va_P D vwCl [(o, .inr (1, [.ref r, .ref t])), (r, .inr (0, [.ref a1, .ref a2, .int (nI n), .int (nI w)])), (a1, .inl (cI, 40, .inl F)), (a2, .inl (cI, 40, .inl G)), (t, .inr (0, [.ref b1, .ref b2, .int (nI n2), .int (nI w2)])), (b1, .inl (cI, 40, .inl F2)), (b2, .inl (cI, 40, .inl G2))] s.heap := hP
  refine lv_aload_n hx hb dX1_meanLooks_0 rfl (lv_at hl 0 rfl) ?_
  refine va_get (D := D) (ci := 1) (v := .ref r) (C := RX1) (T := TX1) (N := 2) hx hb hts (fun _ h => (List.mem_cons_of_mem _ (List.mem_append_left _ (List.mem_append_right _ h)))) hown hK hP 0 rfl rfl 0 (by decide) (hts _ (List.mem_of_getElem? (i := 1) rfl)) (fun _ h9 => h9) rfl dX1_meanLooks_1 ?_
  refine lv_iconst (v := nI 1) hx hb dX1_meanLooks_4 (by decide) ?_
  refine pv_i CF (m_X0_countInState l D cI r a1 a2 S (nI 1)) (cwV 1 hts gX1_meanLooks_X0_countInState rfl rfl rfl k_X0_countInState ⟨Nat.le_of_ble_eq_true rfl, Nat.le_of_ble_eq_true rfl⟩) hK (hP.sub [1, 2, 3] rfl) rfl rfl rfl rfl hl.1 rfl (Nat.le_of_ble_eq_true rfl) dX1_meanLooks_5 ⟨Nat.le_of_ble_eq_true rfl, Nat.le_of_ble_eq_true rfl⟩ ?_
  refine lv_istore_n (lv' := [(1, .int (nI (ct n f (nI 1)))), (0, .ref o)]) hx hb dX1_meanLooks_8 rfl hl (by decide) rfl (fun ls hl => ?_)
  refine lv_iload_n hx hb dX1_meanLooks_9 rfl (lv_at hl 0 rfl) ?_
  refine bz_ne (tgt := 15) hx hb dX1_meanLooks_10 (by decide) (Nat.lt_of_le_of_lt (ct_le n f (nI 1) n) (by omega)) (fun c10 => ?_) (fun c10 => ?_)
  · skip
    refine lv_aload_n hx hb dX1_meanLooks_15 rfl (lv_at hl 1 rfl) ?_
    refine va_get (D := D) (ci := 1) (v := .ref r) (C := RX1) (T := TX1) (N := 2) hx hb hts (fun _ h => (List.mem_cons_of_mem _ (List.mem_append_left _ (List.mem_append_right _ h)))) hown hK hP 0 rfl rfl 0 (by decide) (hts _ (List.mem_of_getElem? (i := 1) rfl)) (fun _ h9 => h9) rfl dX1_meanLooks_16 ?_
    refine pv_i CF (m_X0_looksForAll l D cI r a1 a2 S ) (cwV 0 hts gX1_meanLooks_X0_looksForAll rfl rfl rfl k_X0_looksForAll ⟨Nat.le_of_ble_eq_true rfl, Nat.le_of_ble_eq_true rfl⟩) hK (hP.sub [1, 2, 3] rfl) rfl rfl rfl rfl hl.1 rfl (Nat.le_of_ble_eq_true rfl) dX1_meanLooks_19 ⟨Nat.le_of_ble_eq_true rfl, Nat.le_of_ble_eq_true rfl⟩ ?_
    refine lv_i2d hx hb dX1_meanLooks_22 ?_
    refine lv_iload_n hx hb dX1_meanLooks_23 rfl (lv_at hl 0 rfl) ?_
    refine lv_i2d hx hb dX1_meanLooks_24 ?_
    refine lv_ddiv hx hb dX1_meanLooks_25 (hnn _ _ (nI_ne0 (Nat.pos_of_ne_zero c10) (Nat.lt_of_le_of_lt (ct_le n f (nI 1) n) (by omega)))) ?_
    exact en_d hx hb hr hlocks ((if_neg c10).symm) dX1_meanLooks_26
  · skip
    refine lv_dconst0 hx hb dX1_meanLooks_13 ?_
    exact en_d hx hb hr hlocks ((if_pos c10).symm) dX1_meanLooks_14
theorem k_X1_digest : yX1_digest.cls = RX1 ∧ yX1_digest.cls ≠ "java/lang/invoke/MethodHandle" ∧ yX1_digest.cls ≠ "java/lang/invoke/VarHandle" ∧ (parseMethodDescriptor yX1_digest.desc).map (fun d => d.parameters.length) = some 0 := by decide +kernel
set_option maxHeartbeats 4000000 in
set_option maxRecDepth 100000 in
theorem m_X1_digest (l : Launch) (D : va_G) (cI : ClassId) (o r t a1 a2 b1 b2 : Nat) {n w : Nat} {F G f g : Nat → Int32} (S : RS n w F G f g) (n2 w2 : Nat) (F2 G2 : Nat → Int32) (sz : Nat) : Met l yX1_digest wsX1_digest ({ frames := 6, cells := 0, slots := 0, locals := 141 } : Room) (PM D [(cI, .int)] [.ref o] sz (clw cI o r t a1 a2 b1 b2 n w F G n2 w2 F2 G2)) (qm_l (fun rr H1 => rr = DG n w f g ∧ ∃ (n3 w3 : Nat) (F3 G3 : Nat → Int32), va_P D vwCl (clw cI o r t a1 a2 b1 b2 n w F G n3 w3 F3 G3) H1) (va_A (clw cI o r t a1 a2 b1 b2 n w F G n2 w2 F2 G2) sz)) 0 0 (va_A (clw cI o r t a1 a2 b1 b2 n w F G n2 w2 F2 G2) sz) := by
  obtain ⟨hn3, hn, hw2, hF, hG, hO⟩ := id S
  refine bd_m (Qc := (fun A => qm_l (fun rr H1 => rr = DG n w f g ∧ ∃ (n3 w3 : Nat) (F3 G3 : Nat → Int32), va_P D vwCl (clw cI o r t a1 a2 b1 b2 n w F G n3 w3 F3 G3) H1) A)) (cc := cX1_digest) (maxL := 4) (ret := (some .long)) (by decide) rfl (Nat.le_of_ble_eq_true rfl) ?_
  intro p e s m args below meth c ls A CF hr hlocks hK hP hD hA hS hl hin
  obtain ⟨hx, hb, hml, hown, hts⟩ := id CF
  have hl : lv_has ls 4 [(0, .ref o)] := hl
  have hP : va_P D vwCl [(o, .inr (1, [.ref r, .ref t])), (r, .inr (0, [.ref a1, .ref a2, .int (nI n), .int (nI w)])), (a1, .inl (cI, 40, .inl F)), (a2, .inl (cI, 40, .inl G)), (t, .inr (0, [.ref b1, .ref b2, .int (nI n2), .int (nI w2)])), (b1, .inl (cI, 40, .inl F2)), (b2, .inl (cI, 40, .inl G2))] s.heap := hP
  have hD : va_D A [(o, .inr (1, [.ref r, .ref t])), (r, .inr (0, [.ref a1, .ref a2, .int (nI n), .int (nI w)])), (a1, .inl (cI, 40, .inl F)), (a2, .inl (cI, 40, .inl G)), (t, .inr (0, [.ref b1, .ref b2, .int (nI n2), .int (nI w2)])), (b1, .inl (cI, 40, .inl F2)), (b2, .inl (cI, 40, .inl G2))] := hD
  generalize hH0 : s.heap = H at hP
  have hS : va_S A s.heap H [] := by rw [← hH0]; exact va_S.rf
  generalize hlc0 : ([] : List Loc) = locs at hS ⊢
  refine lv_ldc2 (v := 2237) hx hb hown (hts _ (List.mem_of_getElem? (i := 1) rfl)) dX1_digest_0 ?_
  refine lv_lstore_n (lv' := [(1, .long 2237), (0, .ref o)]) hx hb dX1_digest_3 rfl hl (by decide) rfl (fun ls hl => ?_)
  refine lv_lload_n hx hb dX1_digest_4 rfl (lv_at hl 0 rfl) ?_
  refine lv_ldc2 (v := 31) hx hb hown (hts _ (List.mem_of_getElem? (i := 2) rfl)) dX1_digest_5 ?_
  refine lv_lmul hx hb dX1_digest_8 ?_
  refine lv_aload_n hx hb dX1_digest_9 rfl (lv_at hl 1 rfl) ?_
  refine va_get (D := D) (ci := 1) (v := .ref r) (C := RX1) (T := TX1) (N := 2) hx hb hts (fun _ h => (List.mem_cons_of_mem _ (List.mem_append_left _ (List.mem_append_right _ h)))) hown hK hP 0 rfl rfl 0 (by decide) (hts _ (List.mem_of_getElem? (i := 3) rfl)) (fun _ h9 => h9) rfl dX1_digest_10 ?_
  refine pv_i CF (m_X0_hookCount l D cI r a1 a2 S ) (cwV 0 hts gX1_digest_X0_hookCount rfl rfl rfl k_X0_hookCount ⟨Nat.le_of_ble_eq_true rfl, Nat.le_of_ble_eq_true rfl⟩) hK (hP.sub [1, 2, 3] rfl) rfl rfl rfl rfl hl.1 rfl (Nat.le_of_ble_eq_true rfl) dX1_digest_13 ⟨Nat.le_of_ble_eq_true rfl, Nat.le_of_ble_eq_true rfl⟩ ?_
  refine lv_i2l hx hb dX1_digest_16 rfl ?_
  refine lv_ladd hx hb dX1_digest_17 ?_
  refine tp_l (y := dx 2237 (nI n)) rfl ?_
  refine lv_lstore_n (lv' := [(1, .long (dx 2237 (nI n))), (0, .ref o)]) hx hb dX1_digest_18 rfl hl (by decide) rfl (fun ls hl => ?_)
  refine lv_lload_n hx hb dX1_digest_19 rfl (lv_at hl 0 rfl) ?_
  refine lv_ldc2 (v := 31) hx hb hown (hts _ (List.mem_of_getElem? (i := 2) rfl)) dX1_digest_20 ?_
  refine lv_lmul hx hb dX1_digest_23 ?_
  refine lv_aload_n hx hb dX1_digest_24 rfl (lv_at hl 1 rfl) ?_
  refine va_get (D := D) (ci := 1) (v := .ref r) (C := RX1) (T := TX1) (N := 2) hx hb hts (fun _ h => (List.mem_cons_of_mem _ (List.mem_append_left _ (List.mem_append_right _ h)))) hown hK hP 0 rfl rfl 0 (by decide) (hts _ (List.mem_of_getElem? (i := 3) rfl)) (fun _ h9 => h9) rfl dX1_digest_25 ?_
  refine pv_i CF (m_X0_usherWay l D cI r a1 a2 S ) (cwV 0 hts gX1_digest_X0_usherWay rfl rfl rfl k_X0_usherWay ⟨Nat.le_of_ble_eq_true rfl, Nat.le_of_ble_eq_true rfl⟩) hK (hP.sub [1, 2, 3] rfl) rfl rfl rfl rfl hl.1 rfl (Nat.le_of_ble_eq_true rfl) dX1_digest_28 ⟨Nat.le_of_ble_eq_true rfl, Nat.le_of_ble_eq_true rfl⟩ ?_
  refine lv_i2l hx hb dX1_digest_31 rfl ?_
  refine lv_ladd hx hb dX1_digest_32 ?_
  refine tp_l (y := dx (dx 2237 (nI n)) (nI w)) rfl ?_
  refine lv_lstore_n (lv' := [(1, .long (dx (dx 2237 (nI n)) (nI w))), (0, .ref o)]) hx hb dX1_digest_33 rfl hl (by decide) rfl (fun ls hl => ?_)
  refine lv_lload_n hx hb dX1_digest_34 rfl (lv_at hl 0 rfl) ?_
  refine lv_ldc2 (v := 31) hx hb hown (hts _ (List.mem_of_getElem? (i := 2) rfl)) dX1_digest_35 ?_
  refine lv_lmul hx hb dX1_digest_38 ?_
  refine lv_aload_n hx hb dX1_digest_39 rfl (lv_at hl 1 rfl) ?_
  refine va_get (D := D) (ci := 1) (v := .ref r) (C := RX1) (T := TX1) (N := 2) hx hb hts (fun _ h => (List.mem_cons_of_mem _ (List.mem_append_left _ (List.mem_append_right _ h)))) hown hK hP 0 rfl rfl 0 (by decide) (hts _ (List.mem_of_getElem? (i := 3) rfl)) (fun _ h9 => h9) rfl dX1_digest_40 ?_
  refine lv_iconst (v := nI 1) hx hb dX1_digest_43 (by decide) ?_
  refine pv_i CF (m_X0_countInState l D cI r a1 a2 S (nI 1)) (cwV 1 hts gX1_digest_X0_countInState rfl rfl rfl k_X0_countInState ⟨Nat.le_of_ble_eq_true rfl, Nat.le_of_ble_eq_true rfl⟩) hK (hP.sub [1, 2, 3] rfl) rfl rfl rfl rfl hl.1 rfl (Nat.le_of_ble_eq_true rfl) dX1_digest_44 ⟨Nat.le_of_ble_eq_true rfl, Nat.le_of_ble_eq_true rfl⟩ ?_
  refine lv_i2l hx hb dX1_digest_47 rfl ?_
  refine lv_ladd hx hb dX1_digest_48 ?_
  refine tp_l (y := dx (dx (dx 2237 (nI n)) (nI w)) (nI (ct n f (nI 1)))) rfl ?_
  refine lv_lstore_n (lv' := [(1, .long (dx (dx (dx 2237 (nI n)) (nI w)) (nI (ct n f (nI 1))))), (0, .ref o)]) hx hb dX1_digest_49 rfl hl (by decide) rfl (fun ls hl => ?_)
  refine lv_lload_n hx hb dX1_digest_50 rfl (lv_at hl 0 rfl) ?_
  refine lv_ldc2 (v := 31) hx hb hown (hts _ (List.mem_of_getElem? (i := 2) rfl)) dX1_digest_51 ?_
  refine lv_lmul hx hb dX1_digest_54 ?_
  refine lv_aload_n hx hb dX1_digest_55 rfl (lv_at hl 1 rfl) ?_
  refine va_get (D := D) (ci := 1) (v := .ref r) (C := RX1) (T := TX1) (N := 2) hx hb hts (fun _ h => (List.mem_cons_of_mem _ (List.mem_append_left _ (List.mem_append_right _ h)))) hown hK hP 0 rfl rfl 0 (by decide) (hts _ (List.mem_of_getElem? (i := 3) rfl)) (fun _ h9 => h9) rfl dX1_digest_56 ?_
  refine lv_iconst (v := nI 2) hx hb dX1_digest_59 (by decide) ?_
  refine pv_i CF (m_X0_countInState l D cI r a1 a2 S (nI 2)) (cwV 1 hts gX1_digest_X0_countInState rfl rfl rfl k_X0_countInState ⟨Nat.le_of_ble_eq_true rfl, Nat.le_of_ble_eq_true rfl⟩) hK (hP.sub [1, 2, 3] rfl) rfl rfl rfl rfl hl.1 rfl (Nat.le_of_ble_eq_true rfl) dX1_digest_60 ⟨Nat.le_of_ble_eq_true rfl, Nat.le_of_ble_eq_true rfl⟩ ?_
  refine lv_i2l hx hb dX1_digest_63 rfl ?_
  refine lv_ladd hx hb dX1_digest_64 ?_
  refine tp_l (y := dx (dx (dx (dx 2237 (nI n)) (nI w)) (nI (ct n f (nI 1)))) (nI (ct n f (nI 2)))) rfl ?_
  refine lv_lstore_n (lv' := [(1, .long (dx (dx (dx (dx 2237 (nI n)) (nI w)) (nI (ct n f (nI 1)))) (nI (ct n f (nI 2))))), (0, .ref o)]) hx hb dX1_digest_65 rfl hl (by decide) rfl (fun ls hl => ?_)
  refine lv_lload_n hx hb dX1_digest_66 rfl (lv_at hl 0 rfl) ?_
  refine lv_ldc2 (v := 31) hx hb hown (hts _ (List.mem_of_getElem? (i := 2) rfl)) dX1_digest_67 ?_
  refine lv_lmul hx hb dX1_digest_70 ?_
  refine lv_aload_n hx hb dX1_digest_71 rfl (lv_at hl 1 rfl) ?_
  refine va_get (D := D) (ci := 1) (v := .ref r) (C := RX1) (T := TX1) (N := 2) hx hb hts (fun _ h => (List.mem_cons_of_mem _ (List.mem_append_left _ (List.mem_append_right _ h)))) hown hK hP 0 rfl rfl 0 (by decide) (hts _ (List.mem_of_getElem? (i := 3) rfl)) (fun _ h9 => h9) rfl dX1_digest_72 ?_
  refine pv_i CF (m_X0_weightOfAll l D cI r a1 a2 S ) (cwV 0 hts gX1_digest_X0_weightOfAll rfl rfl rfl k_X0_weightOfAll ⟨Nat.le_of_ble_eq_true rfl, Nat.le_of_ble_eq_true rfl⟩) hK (hP.sub [1, 2, 3] rfl) rfl rfl rfl rfl hl.1 rfl (Nat.le_of_ble_eq_true rfl) dX1_digest_75 ⟨Nat.le_of_ble_eq_true rfl, Nat.le_of_ble_eq_true rfl⟩ ?_
  refine lv_i2l hx hb dX1_digest_78 rfl ?_
  refine lv_ladd hx hb dX1_digest_79 ?_
  refine tp_l (y := dx (dx (dx (dx (dx 2237 (nI n)) (nI w)) (nI (ct n f (nI 1)))) (nI (ct n f (nI 2)))) (wa n g)) rfl ?_
  refine lv_lstore_n (lv' := [(1, .long (dx (dx (dx (dx (dx 2237 (nI n)) (nI w)) (nI (ct n f (nI 1)))) (nI (ct n f (nI 2)))) (wa n g))), (0, .ref o)]) hx hb dX1_digest_80 rfl hl (by decide) rfl (fun ls hl => ?_)
  refine lv_lload_n hx hb dX1_digest_81 rfl (lv_at hl 0 rfl) ?_
  refine lv_ldc2 (v := 31) hx hb hown (hts _ (List.mem_of_getElem? (i := 2) rfl)) dX1_digest_82 ?_
  refine lv_lmul hx hb dX1_digest_85 ?_
  refine lv_aload_n hx hb dX1_digest_86 rfl (lv_at hl 1 rfl) ?_
  refine va_get (D := D) (ci := 1) (v := .ref r) (C := RX1) (T := TX1) (N := 2) hx hb hts (fun _ h => (List.mem_cons_of_mem _ (List.mem_append_left _ (List.mem_append_right _ h)))) hown hK hP 0 rfl rfl 0 (by decide) (hts _ (List.mem_of_getElem? (i := 3) rfl)) (fun _ h9 => h9) rfl dX1_digest_87 ?_
  refine pv_i CF (m_X0_hookOfHeaviest l D cI r a1 a2 S ) (cwV 0 hts gX1_digest_X0_hookOfHeaviest rfl rfl rfl k_X0_hookOfHeaviest ⟨Nat.le_of_ble_eq_true rfl, Nat.le_of_ble_eq_true rfl⟩) hK (hP.sub [1, 2, 3] rfl) rfl rfl rfl rfl hl.1 rfl (Nat.le_of_ble_eq_true rfl) dX1_digest_90 ⟨Nat.le_of_ble_eq_true rfl, Nat.le_of_ble_eq_true rfl⟩ ?_
  refine lv_i2l hx hb dX1_digest_93 rfl ?_
  refine lv_ladd hx hb dX1_digest_94 ?_
  refine tp_l (y := dx (dx (dx (dx (dx (dx 2237 (nI n)) (nI w)) (nI (ct n f (nI 1)))) (nI (ct n f (nI 2)))) (wa n g)) ((hv n g).1)) rfl ?_
  refine lv_lstore_n (lv' := [(1, .long (dx (dx (dx (dx (dx (dx 2237 (nI n)) (nI w)) (nI (ct n f (nI 1)))) (nI (ct n f (nI 2)))) (wa n g)) ((hv n g).1))), (0, .ref o)]) hx hb dX1_digest_95 rfl hl (by decide) rfl (fun ls hl => ?_)
  refine lv_lload_n hx hb dX1_digest_96 rfl (lv_at hl 0 rfl) ?_
  refine lv_ldc2 (v := 31) hx hb hown (hts _ (List.mem_of_getElem? (i := 2) rfl)) dX1_digest_97 ?_
  refine lv_lmul hx hb dX1_digest_100 ?_
  refine lv_aload_n hx hb dX1_digest_101 rfl (lv_at hl 1 rfl) ?_
  refine va_get (D := D) (ci := 1) (v := .ref r) (C := RX1) (T := TX1) (N := 2) hx hb hts (fun _ h => (List.mem_cons_of_mem _ (List.mem_append_left _ (List.mem_append_right _ h)))) hown hK hP 0 rfl rfl 0 (by decide) (hts _ (List.mem_of_getElem? (i := 3) rfl)) (fun _ h9 => h9) rfl dX1_digest_102 ?_
  refine pv_i CF (m_X0_looksForAll l D cI r a1 a2 S ) (cwV 0 hts gX1_digest_X0_looksForAll rfl rfl rfl k_X0_looksForAll ⟨Nat.le_of_ble_eq_true rfl, Nat.le_of_ble_eq_true rfl⟩) hK (hP.sub [1, 2, 3] rfl) rfl rfl rfl rfl hl.1 rfl (Nat.le_of_ble_eq_true rfl) dX1_digest_105 ⟨Nat.le_of_ble_eq_true rfl, Nat.le_of_ble_eq_true rfl⟩ ?_
  refine lv_i2l hx hb dX1_digest_108 rfl ?_
  refine lv_ladd hx hb dX1_digest_109 ?_
  refine tp_l (y := dx (dx (dx (dx (dx (dx (dx 2237 (nI n)) (nI w)) (nI (ct n f (nI 1)))) (nI (ct n f (nI 2)))) (wa n g)) ((hv n g).1)) (nI (sm n w f))) rfl ?_
  refine lv_lstore_n (lv' := [(1, .long (dx (dx (dx (dx (dx (dx (dx 2237 (nI n)) (nI w)) (nI (ct n f (nI 1)))) (nI (ct n f (nI 2)))) (wa n g)) ((hv n g).1)) (nI (sm n w f)))), (0, .ref o)]) hx hb dX1_digest_110 rfl hl (by decide) rfl (fun ls hl => ?_)
  refine lv_lload_n hx hb dX1_digest_111 rfl (lv_at hl 0 rfl) ?_
  refine lv_ldc2 (v := 31) hx hb hown (hts _ (List.mem_of_getElem? (i := 2) rfl)) dX1_digest_112 ?_
  refine lv_lmul hx hb dX1_digest_115 ?_
  refine lv_aload_n hx hb dX1_digest_116 rfl (lv_at hl 1 rfl) ?_
  refine va_get (D := D) (ci := 1) (v := .ref r) (C := RX1) (T := TX1) (N := 2) hx hb hts (fun _ h => (List.mem_cons_of_mem _ (List.mem_append_left _ (List.mem_append_right _ h)))) hown hK hP 0 rfl rfl 0 (by decide) (hts _ (List.mem_of_getElem? (i := 3) rfl)) (fun _ h9 => h9) rfl dX1_digest_117 ?_
  refine pv_i CF (m_X0_coatWithMostLooks l D cI r a1 a2 S ) (cwV 0 hts gX1_digest_X0_coatWithMostLooks rfl rfl rfl k_X0_coatWithMostLooks ⟨Nat.le_of_ble_eq_true rfl, Nat.le_of_ble_eq_true rfl⟩) hK (hP.sub [1, 2, 3] rfl) rfl rfl rfl rfl hl.1 rfl (Nat.le_of_ble_eq_true rfl) dX1_digest_120 ⟨Nat.le_of_ble_eq_true rfl, Nat.le_of_ble_eq_true rfl⟩ ?_
  refine lv_i2l hx hb dX1_digest_123 rfl ?_
  refine lv_ladd hx hb dX1_digest_124 ?_
  refine tp_l (y := dx (dx (dx (dx (dx (dx (dx (dx 2237 (nI n)) (nI w)) (nI (ct n f (nI 1)))) (nI (ct n f (nI 2)))) (wa n g)) ((hv n g).1)) (nI (sm n w f))) ((fa n w f).1)) rfl ?_
  refine lv_lstore_n (lv' := [(1, .long (dx (dx (dx (dx (dx (dx (dx (dx 2237 (nI n)) (nI w)) (nI (ct n f (nI 1)))) (nI (ct n f (nI 2)))) (wa n g)) ((hv n g).1)) (nI (sm n w f))) ((fa n w f).1))), (0, .ref o)]) hx hb dX1_digest_125 rfl hl (by decide) rfl (fun ls hl => ?_)
  refine lv_lload_n hx hb dX1_digest_126 rfl (lv_at hl 0 rfl) ?_
  refine lv_ldc2 (v := 31) hx hb hown (hts _ (List.mem_of_getElem? (i := 2) rfl)) dX1_digest_127 ?_
  refine lv_lmul hx hb dX1_digest_130 ?_
  refine lv_aload_n hx hb dX1_digest_131 rfl (lv_at hl 1 rfl) ?_
  refine va_get (D := D) (ci := 1) (v := .ref r) (C := RX1) (T := TX1) (N := 2) hx hb hts (fun _ h => (List.mem_cons_of_mem _ (List.mem_append_left _ (List.mem_append_right _ h)))) hown hK hP 0 rfl rfl 0 (by decide) (hts _ (List.mem_of_getElem? (i := 3) rfl)) (fun _ h9 => h9) rfl dX1_digest_132 ?_
  refine pv_i CF (m_X0_rowCount l D cI r a1 a2 S ) (cwV 0 hts gX1_digest_X0_rowCount rfl rfl rfl k_X0_rowCount ⟨Nat.le_of_ble_eq_true rfl, Nat.le_of_ble_eq_true rfl⟩) hK (hP.sub [1, 2, 3] rfl) rfl rfl rfl rfl hl.1 rfl (Nat.le_of_ble_eq_true rfl) dX1_digest_135 ⟨Nat.le_of_ble_eq_true rfl, Nat.le_of_ble_eq_true rfl⟩ ?_
  refine lv_i2l hx hb dX1_digest_138 rfl ?_
  refine lv_ladd hx hb dX1_digest_139 ?_
  refine tp_l (y := dx (dx (dx (dx (dx (dx (dx (dx (dx 2237 (nI n)) (nI w)) (nI (ct n f (nI 1)))) (nI (ct n f (nI 2)))) (wa n g)) ((hv n g).1)) (nI (sm n w f))) ((fa n w f).1)) (nI (rc n f))) rfl ?_
  refine lv_lstore_n (lv' := [(1, .long (dx (dx (dx (dx (dx (dx (dx (dx (dx 2237 (nI n)) (nI w)) (nI (ct n f (nI 1)))) (nI (ct n f (nI 2)))) (wa n g)) ((hv n g).1)) (nI (sm n w f))) ((fa n w f).1)) (nI (rc n f)))), (0, .ref o)]) hx hb dX1_digest_140 rfl hl (by decide) rfl (fun ls hl => ?_)
  refine lv_lload_n hx hb dX1_digest_141 rfl (lv_at hl 0 rfl) ?_
  refine lv_ldc2 (v := 31) hx hb hown (hts _ (List.mem_of_getElem? (i := 2) rfl)) dX1_digest_142 ?_
  refine lv_lmul hx hb dX1_digest_145 ?_
  refine lv_aload_n hx hb dX1_digest_146 rfl (lv_at hl 1 rfl) ?_
  refine va_get (D := D) (ci := 1) (v := .ref r) (C := RX1) (T := TX1) (N := 2) hx hb hts (fun _ h => (List.mem_cons_of_mem _ (List.mem_append_left _ (List.mem_append_right _ h)))) hown hK hP 0 rfl rfl 0 (by decide) (hts _ (List.mem_of_getElem? (i := 3) rfl)) (fun _ h9 => h9) rfl dX1_digest_147 ?_
  refine pv_i CF (m_X0_longestRowLength l D cI r a1 a2 S ) (cwV 0 hts gX1_digest_X0_longestRowLength rfl rfl rfl k_X0_longestRowLength ⟨Nat.le_of_ble_eq_true rfl, Nat.le_of_ble_eq_true rfl⟩) hK (hP.sub [1, 2, 3] rfl) rfl rfl rfl rfl hl.1 rfl (Nat.le_of_ble_eq_true rfl) dX1_digest_150 ⟨Nat.le_of_ble_eq_true rfl, Nat.le_of_ble_eq_true rfl⟩ ?_
  refine lv_i2l hx hb dX1_digest_153 rfl ?_
  refine lv_ladd hx hb dX1_digest_154 ?_
  refine tp_l (y := dx (dx (dx (dx (dx (dx (dx (dx (dx (dx 2237 (nI n)) (nI w)) (nI (ct n f (nI 1)))) (nI (ct n f (nI 2)))) (wa n g)) ((hv n g).1)) (nI (sm n w f))) ((fa n w f).1)) (nI (rc n f))) (nI (lr n f))) rfl ?_
  refine lv_lstore_n (lv' := [(1, .long (dx (dx (dx (dx (dx (dx (dx (dx (dx (dx 2237 (nI n)) (nI w)) (nI (ct n f (nI 1)))) (nI (ct n f (nI 2)))) (wa n g)) ((hv n g).1)) (nI (sm n w f))) ((fa n w f).1)) (nI (rc n f))) (nI (lr n f)))), (0, .ref o)]) hx hb dX1_digest_155 rfl hl (by decide) rfl (fun ls hl => ?_)
  refine lv_lload_n hx hb dX1_digest_156 rfl (lv_at hl 0 rfl) ?_
  refine lv_ldc2 (v := 31) hx hb hown (hts _ (List.mem_of_getElem? (i := 2) rfl)) dX1_digest_157 ?_
  refine lv_lmul hx hb dX1_digest_160 ?_
  refine lv_aload_n hx hb dX1_digest_161 rfl (lv_at hl 1 rfl) ?_
  have hPc : va_P D vwCl [(o, .inr (1, [.ref r, .ref t])), (r, .inr (0, [.ref a1, .ref a2, .int (nI n), .int (nI w)])), (a1, .inl (cI, 40, .inl F)), (a2, .inl (cI, 40, .inl G)), (t, .inr (0, [.ref b1, .ref b2, .int (nI n2), .int (nI w2)])), (b1, .inl (cI, 40, .inl F2)), (b2, .inl (cI, 40, .inl G2))] H := hP.sub [0, 1, 2, 3, 4, 5, 6] rfl
  have hDc : va_D A [(o, .inr (1, [.ref r, .ref t])), (r, .inr (0, [.ref a1, .ref a2, .int (nI n), .int (nI w)])), (a1, .inl (cI, 40, .inl F)), (a2, .inl (cI, 40, .inl G)), (t, .inr (0, [.ref b1, .ref b2, .int (nI n2), .int (nI w2)])), (b1, .inl (cI, 40, .inl F2)), (b2, .inl (cI, 40, .inl G2))] := hD.sub [0, 1, 2, 3, 4, 5, 6] (by decide) rfl
  have hFc := va_free (wc := [(o, .inr (1, [.ref r, .ref t])), (r, .inr (0, [.ref a1, .ref a2, .int (nI n), .int (nI w)])), (a1, .inl (cI, 40, .inl F)), (a2, .inl (cI, 40, .inl G)), (t, .inr (0, [.ref b1, .ref b2, .int (nI n2), .int (nI w2)])), (b1, .inl (cI, 40, .inl F2)), (b2, .inl (cI, 40, .inl G2))]) hD hS hA [0, 1, 2, 3, 4, 5, 6] rfl
  refine pq_i (va_runV (rest := [.long ((dx (dx (dx (dx (dx (dx (dx (dx (dx (dx 2237 (nI n)) (nI w)) (nI (ct n f (nI 1)))) (nI (ct n f (nI 2)))) (wa n g)) ((hv n g).1)) (nI (sm n w f))) ((fa n w f).1)) (nI (rc n f))) (nI (lr n f))) * 31)]) CF (m_X1_bestWay l D cI o r t a1 a2 b1 b2 S n2 w2 F2 G2 H.size) (cwV 0 hts gX1_digest_X1_bestWay rfl rfl rfl k_X1_bestWay ⟨Nat.le_of_ble_eq_true rfl, Nat.le_of_ble_eq_true rfl⟩) (mv_pre hK hPc hDc rfl rfl rfl) rfl rfl hl.1 rfl (lv_room (Nat.le_of_ble_eq_true rfl)) dX1_digest_162 ⟨Nat.le_of_ble_eq_true rfl, Nat.le_of_ble_eq_true rfl⟩) hS hFc (fun r1 H locs hB hk1 hS => ?_)
  obtain ⟨rfl, n3, w3, F3, G3, hP1⟩ := hB
  obtain ⟨hP, hD⟩ := jn (wb := [(o, .inr (1, [.ref r, .ref t])), (r, .inr (0, [.ref a1, .ref a2, .int (nI n), .int (nI w)])), (a1, .inl (cI, 40, .inl F)), (a2, .inl (cI, 40, .inl G)), (t, .inr (0, [.ref b1, .ref b2, .int (nI n3), .int (nI w3)])), (b1, .inl (cI, 40, .inl F3)), (b2, .inl (cI, 40, .inl G3))]) (w1 := [(o, .inr (1, [.ref r, .ref t])), (r, .inr (0, [.ref a1, .ref a2, .int (nI n), .int (nI w)])), (a1, .inl (cI, 40, .inl F)), (a2, .inl (cI, 40, .inl G)), (t, .inr (0, [.ref b1, .ref b2, .int (nI n3), .int (nI w3)])), (b1, .inl (cI, 40, .inl F3)), (b2, .inl (cI, 40, .inl G3))]) hP hD [0, 1, 2, 3, 4, 5, 6] [] rfl rfl rfl rfl 7 rfl (by decide) (by decide) hk1 hP1
  refine lv_i2l hx hb dX1_digest_165 rfl ?_
  refine lv_ladd hx hb dX1_digest_166 ?_
  refine tp_l (y := dx (dx (dx (dx (dx (dx (dx (dx (dx (dx (dx 2237 (nI n)) (nI w)) (nI (ct n f (nI 1)))) (nI (ct n f (nI 2)))) (wa n g)) ((hv n g).1)) (nI (sm n w f))) ((fa n w f).1)) (nI (rc n f))) (nI (lr n f))) ((bst n f g).1)) rfl ?_
  refine lv_lstore_n (lv' := [(1, .long (dx (dx (dx (dx (dx (dx (dx (dx (dx (dx (dx 2237 (nI n)) (nI w)) (nI (ct n f (nI 1)))) (nI (ct n f (nI 2)))) (wa n g)) ((hv n g).1)) (nI (sm n w f))) ((fa n w f).1)) (nI (rc n f))) (nI (lr n f))) ((bst n f g).1))), (0, .ref o)]) hx hb dX1_digest_167 rfl hl (by decide) rfl (fun ls hl => ?_)
  refine lv_lload_n hx hb dX1_digest_168 rfl (lv_at hl 0 rfl) ?_
  refine lv_ldc2 (v := 31) hx hb hown (hts _ (List.mem_of_getElem? (i := 2) rfl)) dX1_digest_169 ?_
  refine lv_lmul hx hb dX1_digest_172 ?_
  refine lv_aload_n hx hb dX1_digest_173 rfl (lv_at hl 1 rfl) ?_
  refine lv_bipush (v := nI 20) hx hb dX1_digest_174 (by decide) ?_
  have hPc : va_P D vwCl [(o, .inr (1, [.ref r, .ref t])), (r, .inr (0, [.ref a1, .ref a2, .int (nI n), .int (nI w)])), (a1, .inl (cI, 40, .inl F)), (a2, .inl (cI, 40, .inl G)), (t, .inr (0, [.ref b1, .ref b2, .int (nI n3), .int (nI w3)])), (b1, .inl (cI, 40, .inl F3)), (b2, .inl (cI, 40, .inl G3))] H := hP.sub [0, 1, 2, 3, 4, 5, 6] rfl
  have hDc : va_D A [(o, .inr (1, [.ref r, .ref t])), (r, .inr (0, [.ref a1, .ref a2, .int (nI n), .int (nI w)])), (a1, .inl (cI, 40, .inl F)), (a2, .inl (cI, 40, .inl G)), (t, .inr (0, [.ref b1, .ref b2, .int (nI n3), .int (nI w3)])), (b1, .inl (cI, 40, .inl F3)), (b2, .inl (cI, 40, .inl G3))] := hD.sub [0, 1, 2, 3, 4, 5, 6] (by decide) rfl
  have hFc := va_free (wc := [(o, .inr (1, [.ref r, .ref t])), (r, .inr (0, [.ref a1, .ref a2, .int (nI n), .int (nI w)])), (a1, .inl (cI, 40, .inl F)), (a2, .inl (cI, 40, .inl G)), (t, .inr (0, [.ref b1, .ref b2, .int (nI n3), .int (nI w3)])), (b1, .inl (cI, 40, .inl F3)), (b2, .inl (cI, 40, .inl G3))]) hD hS hA [0, 1, 2, 3, 4, 5, 6] rfl
  refine pq_i (va_runV (rest := [.long ((dx (dx (dx (dx (dx (dx (dx (dx (dx (dx (dx 2237 (nI n)) (nI w)) (nI (ct n f (nI 1)))) (nI (ct n f (nI 2)))) (wa n g)) ((hv n g).1)) (nI (sm n w f))) ((fa n w f).1)) (nI (rc n f))) (nI (lr n f))) ((bst n f g).1)) * 31)]) CF (m_X1_fewestHooks l D cI o r t a1 a2 b1 b2 S n3 w3 F3 G3 20 (by decide) H.size) (cwV 1 hts gX1_digest_X1_fewestHooks rfl rfl rfl k_X1_fewestHooks ⟨Nat.le_of_ble_eq_true rfl, Nat.le_of_ble_eq_true rfl⟩) (mv_pre hK hPc hDc rfl rfl rfl) rfl rfl hl.1 rfl (lv_room (Nat.le_of_ble_eq_true rfl)) dX1_digest_176 ⟨Nat.le_of_ble_eq_true rfl, Nat.le_of_ble_eq_true rfl⟩) hS hFc (fun r1 H locs hB hk1 hS => ?_)
  obtain ⟨rfl, n4, w4, F4, G4, hP1⟩ := hB
  obtain ⟨hP, hD⟩ := jn (wb := [(o, .inr (1, [.ref r, .ref t])), (r, .inr (0, [.ref a1, .ref a2, .int (nI n), .int (nI w)])), (a1, .inl (cI, 40, .inl F)), (a2, .inl (cI, 40, .inl G)), (t, .inr (0, [.ref b1, .ref b2, .int (nI n4), .int (nI w4)])), (b1, .inl (cI, 40, .inl F4)), (b2, .inl (cI, 40, .inl G4))]) (w1 := [(o, .inr (1, [.ref r, .ref t])), (r, .inr (0, [.ref a1, .ref a2, .int (nI n), .int (nI w)])), (a1, .inl (cI, 40, .inl F)), (a2, .inl (cI, 40, .inl G)), (t, .inr (0, [.ref b1, .ref b2, .int (nI n4), .int (nI w4)])), (b1, .inl (cI, 40, .inl F4)), (b2, .inl (cI, 40, .inl G4))]) hP hD [0, 1, 2, 3, 4, 5, 6] [] rfl rfl rfl rfl 7 rfl (by decide) (by decide) hk1 hP1
  refine lv_i2l hx hb dX1_digest_179 rfl ?_
  refine lv_ladd hx hb dX1_digest_180 ?_
  refine tp_l (y := dx (dx (dx (dx (dx (dx (dx (dx (dx (dx (dx (dx 2237 (nI n)) (nI w)) (nI (ct n f (nI 1)))) (nI (ct n f (nI 2)))) (wa n g)) ((hv n g).1)) (nI (sm n w f))) ((fa n w f).1)) (nI (rc n f))) (nI (lr n f))) ((bst n f g).1)) (fh n w f g 20)) rfl ?_
  refine lv_lstore_n (lv' := [(1, .long (dx (dx (dx (dx (dx (dx (dx (dx (dx (dx (dx (dx 2237 (nI n)) (nI w)) (nI (ct n f (nI 1)))) (nI (ct n f (nI 2)))) (wa n g)) ((hv n g).1)) (nI (sm n w f))) ((fa n w f).1)) (nI (rc n f))) (nI (lr n f))) ((bst n f g).1)) (fh n w f g 20))), (0, .ref o)]) hx hb dX1_digest_181 rfl hl (by decide) rfl (fun ls hl => ?_)
  refine lv_iconst (v := nI 0) hx hb dX1_digest_182 (by decide) ?_
  refine lv_istore_n (lv' := [(3, .int (nI 0)), (1, .long (dx (dx (dx (dx (dx (dx (dx (dx (dx (dx (dx (dx 2237 (nI n)) (nI w)) (nI (ct n f (nI 1)))) (nI (ct n f (nI 2)))) (wa n g)) ((hv n g).1)) (nI (sm n w f))) ((fa n w f).1)) (nI (rc n f))) (nI (lr n f))) ((bst n f g).1)) (fh n w f g 20))), (0, .ref o)]) hx hb dX1_digest_183 rfl hl (by decide) rfl (fun ls hl => ?_)
  have LP184 : ∀ (q i : Nat) (d : Int64), i + q = n → fo (fun d k => dx (dx (dx (dx (dx d (st (f k))) (cn (f k))) (g k)) (nI (rl n f k))) (nI (lk n w f (k * 7)))) q i d = DG n w f g → ∀ (ls : Array Slot), lv_has ls 4 [(3, .int (nI i)), (1, .long d), (0, .ref o)] → W p l e ({ frames := 6, cells := 0, slots := 0, locals := 141 } : Room) s m args below meth c H locs 0 0 (MQ below (qm_l (fun rr H1 => rr = DG n w f g ∧ ∃ (n3 w3 : Nat) (F3 G3 : Nat → Int32), va_P D vwCl (clw cI o r t a1 a2 b1 b2 n w F G n3 w3 F3 G3) H1) A) args s 0 0 A) (F0 m 184 ls []) := by
    intro q
    induction q with
    | zero =>
      intro i d h1 h2 ls hl
      refine lv_iload_n hx hb dX1_digest_184 rfl (lv_at hl 0 rfl) ?_
      refine lv_aload_n hx hb dX1_digest_185 rfl (lv_at hl 2 rfl) ?_
      refine va_get (D := D) (ci := 1) (v := .ref r) (C := RX1) (T := TX1) (N := 2) hx hb hts (fun _ h => (List.mem_cons_of_mem _ (List.mem_append_left _ (List.mem_append_right _ h)))) hown hK hP 0 rfl rfl 0 (by decide) (hts _ (List.mem_of_getElem? (i := 3) rfl)) (fun _ h9 => h9) rfl dX1_digest_186 ?_
      refine pv_i CF (m_X0_hookCount l D cI r a1 a2 S ) (cwV 0 hts gX1_digest_X0_hookCount rfl rfl rfl k_X0_hookCount ⟨Nat.le_of_ble_eq_true rfl, Nat.le_of_ble_eq_true rfl⟩) hK (hP.sub [1, 2, 3] rfl) rfl rfl rfl rfl hl.1 rfl (Nat.le_of_ble_eq_true rfl) dX1_digest_189 ⟨Nat.le_of_ble_eq_true rfl, Nat.le_of_ble_eq_true rfl⟩ ?_
      refine bn_ge (tgt := 284) hx hb dX1_digest_192 (by decide) (by omega) (by omega) (fun c192 => ?_) (fun c192 => ?_)
      · skip
        refine lv_lload_n hx hb dX1_digest_284 rfl (lv_at hl 1 rfl) ?_
        exact em_l hx hb hr hlocks hS (⟨h2, n4, w4, F4, G4, hP⟩) dX1_digest_285
      · skip
        omega
    | succ q ih =>
      intro i d h1 h2 ls hl
      refine lv_iload_n hx hb dX1_digest_184 rfl (lv_at hl 0 rfl) ?_
      refine lv_aload_n hx hb dX1_digest_185 rfl (lv_at hl 2 rfl) ?_
      refine va_get (D := D) (ci := 1) (v := .ref r) (C := RX1) (T := TX1) (N := 2) hx hb hts (fun _ h => (List.mem_cons_of_mem _ (List.mem_append_left _ (List.mem_append_right _ h)))) hown hK hP 0 rfl rfl 0 (by decide) (hts _ (List.mem_of_getElem? (i := 3) rfl)) (fun _ h9 => h9) rfl dX1_digest_186 ?_
      refine pv_i CF (m_X0_hookCount l D cI r a1 a2 S ) (cwV 0 hts gX1_digest_X0_hookCount rfl rfl rfl k_X0_hookCount ⟨Nat.le_of_ble_eq_true rfl, Nat.le_of_ble_eq_true rfl⟩) hK (hP.sub [1, 2, 3] rfl) rfl rfl rfl rfl hl.1 rfl (Nat.le_of_ble_eq_true rfl) dX1_digest_189 ⟨Nat.le_of_ble_eq_true rfl, Nat.le_of_ble_eq_true rfl⟩ ?_
      refine bn_ge (tgt := 284) hx hb dX1_digest_192 (by decide) (by omega) (by omega) (fun c192 => ?_) (fun c192 => ?_)
      · skip
        omega
      · skip
        refine lv_lload_n hx hb dX1_digest_195 rfl (lv_at hl 1 rfl) ?_
        refine lv_ldc2 (v := 31) hx hb hown (hts _ (List.mem_of_getElem? (i := 2) rfl)) dX1_digest_196 ?_
        refine lv_lmul hx hb dX1_digest_199 ?_
        refine lv_aload_n hx hb dX1_digest_200 rfl (lv_at hl 2 rfl) ?_
        refine va_get (D := D) (ci := 1) (v := .ref r) (C := RX1) (T := TX1) (N := 2) hx hb hts (fun _ h => (List.mem_cons_of_mem _ (List.mem_append_left _ (List.mem_append_right _ h)))) hown hK hP 0 rfl rfl 0 (by decide) (hts _ (List.mem_of_getElem? (i := 3) rfl)) (fun _ h9 => h9) rfl dX1_digest_201 ?_
        refine lv_iload_n hx hb dX1_digest_204 rfl (lv_at hl 0 rfl) ?_
        refine pv_i CF (m_X0_stateOn l D cI r a1 a2 S i (by omega)) (cwV 1 hts gX1_digest_X0_stateOn rfl rfl rfl k_X0_stateOn ⟨Nat.le_of_ble_eq_true rfl, Nat.le_of_ble_eq_true rfl⟩) hK (hP.sub [1, 2, 3] rfl) rfl rfl rfl rfl hl.1 rfl (Nat.le_of_ble_eq_true rfl) dX1_digest_205 ⟨Nat.le_of_ble_eq_true rfl, Nat.le_of_ble_eq_true rfl⟩ ?_
        refine tp_i (y := (st (f i))) (congrArg st (hd_in (by omega))) ?_
        refine lv_i2l hx hb dX1_digest_208 rfl ?_
        refine lv_ladd hx hb dX1_digest_209 ?_
        refine tp_l (y := dx d (st (f i))) rfl ?_
        refine lv_lstore_n (lv' := [(1, .long (dx d (st (f i)))), (3, .int (nI i)), (0, .ref o)]) hx hb dX1_digest_210 rfl hl (by decide) rfl (fun ls hl => ?_)
        refine lv_lload_n hx hb dX1_digest_211 rfl (lv_at hl 0 rfl) ?_
        refine lv_ldc2 (v := 31) hx hb hown (hts _ (List.mem_of_getElem? (i := 2) rfl)) dX1_digest_212 ?_
        refine lv_lmul hx hb dX1_digest_215 ?_
        refine lv_aload_n hx hb dX1_digest_216 rfl (lv_at hl 2 rfl) ?_
        refine va_get (D := D) (ci := 1) (v := .ref r) (C := RX1) (T := TX1) (N := 2) hx hb hts (fun _ h => (List.mem_cons_of_mem _ (List.mem_append_left _ (List.mem_append_right _ h)))) hown hK hP 0 rfl rfl 0 (by decide) (hts _ (List.mem_of_getElem? (i := 3) rfl)) (fun _ h9 => h9) rfl dX1_digest_217 ?_
        refine lv_iload_n hx hb dX1_digest_220 rfl (lv_at hl 1 rfl) ?_
        refine pv_i CF (m_X0_coatOn l D cI r a1 a2 S i (by omega)) (cwV 1 hts gX1_digest_X0_coatOn rfl rfl rfl k_X0_coatOn ⟨Nat.le_of_ble_eq_true rfl, Nat.le_of_ble_eq_true rfl⟩) hK (hP.sub [1, 2, 3] rfl) rfl rfl rfl rfl hl.1 rfl (Nat.le_of_ble_eq_true rfl) dX1_digest_221 ⟨Nat.le_of_ble_eq_true rfl, Nat.le_of_ble_eq_true rfl⟩ ?_
        refine tp_i (y := (cn (f i))) (cn_hd (by omega)) ?_
        refine lv_i2l hx hb dX1_digest_224 rfl ?_
        refine lv_ladd hx hb dX1_digest_225 ?_
        refine tp_l (y := dx (dx d (st (f i))) (cn (f i))) rfl ?_
        refine lv_lstore_n (lv' := [(1, .long (dx (dx d (st (f i))) (cn (f i)))), (3, .int (nI i)), (0, .ref o)]) hx hb dX1_digest_226 rfl hl (by decide) rfl (fun ls hl => ?_)
        refine lv_lload_n hx hb dX1_digest_227 rfl (lv_at hl 0 rfl) ?_
        refine lv_ldc2 (v := 31) hx hb hown (hts _ (List.mem_of_getElem? (i := 2) rfl)) dX1_digest_228 ?_
        refine lv_lmul hx hb dX1_digest_231 ?_
        refine lv_aload_n hx hb dX1_digest_232 rfl (lv_at hl 2 rfl) ?_
        refine va_get (D := D) (ci := 1) (v := .ref r) (C := RX1) (T := TX1) (N := 2) hx hb hts (fun _ h => (List.mem_cons_of_mem _ (List.mem_append_left _ (List.mem_append_right _ h)))) hown hK hP 0 rfl rfl 0 (by decide) (hts _ (List.mem_of_getElem? (i := 3) rfl)) (fun _ h9 => h9) rfl dX1_digest_233 ?_
        refine lv_iload_n hx hb dX1_digest_236 rfl (lv_at hl 1 rfl) ?_
        refine pv_i CF (m_X0_weightOn l D cI r a1 a2 S i (by omega)) (cwV 1 hts gX1_digest_X0_weightOn rfl rfl rfl k_X0_weightOn ⟨Nat.le_of_ble_eq_true rfl, Nat.le_of_ble_eq_true rfl⟩) hK (hP.sub [1, 2, 3] rfl) rfl rfl rfl rfl hl.1 rfl (Nat.le_of_ble_eq_true rfl) dX1_digest_237 ⟨Nat.le_of_ble_eq_true rfl, Nat.le_of_ble_eq_true rfl⟩ ?_
        refine tp_i (y := (g i)) (if_pos (by omega)) ?_
        refine lv_i2l hx hb dX1_digest_240 rfl ?_
        refine lv_ladd hx hb dX1_digest_241 ?_
        refine tp_l (y := dx (dx (dx d (st (f i))) (cn (f i))) (g i)) rfl ?_
        refine lv_lstore_n (lv' := [(1, .long (dx (dx (dx d (st (f i))) (cn (f i))) (g i))), (3, .int (nI i)), (0, .ref o)]) hx hb dX1_digest_242 rfl hl (by decide) rfl (fun ls hl => ?_)
        refine lv_lload_n hx hb dX1_digest_243 rfl (lv_at hl 0 rfl) ?_
        refine lv_ldc2 (v := 31) hx hb hown (hts _ (List.mem_of_getElem? (i := 2) rfl)) dX1_digest_244 ?_
        refine lv_lmul hx hb dX1_digest_247 ?_
        refine lv_aload_n hx hb dX1_digest_248 rfl (lv_at hl 2 rfl) ?_
        refine va_get (D := D) (ci := 1) (v := .ref r) (C := RX1) (T := TX1) (N := 2) hx hb hts (fun _ h => (List.mem_cons_of_mem _ (List.mem_append_left _ (List.mem_append_right _ h)))) hown hK hP 0 rfl rfl 0 (by decide) (hts _ (List.mem_of_getElem? (i := 3) rfl)) (fun _ h9 => h9) rfl dX1_digest_249 ?_
        refine lv_iload_n hx hb dX1_digest_252 rfl (lv_at hl 1 rfl) ?_
        refine pv_i CF (m_X0_rowLength l D cI r a1 a2 S i (by omega)) (cwV 1 hts gX1_digest_X0_rowLength rfl rfl rfl k_X0_rowLength ⟨Nat.le_of_ble_eq_true rfl, Nat.le_of_ble_eq_true rfl⟩) hK (hP.sub [1, 2, 3] rfl) rfl rfl rfl rfl hl.1 rfl (Nat.le_of_ble_eq_true rfl) dX1_digest_253 ⟨Nat.le_of_ble_eq_true rfl, Nat.le_of_ble_eq_true rfl⟩ ?_
        refine lv_i2l hx hb dX1_digest_256 rfl ?_
        refine lv_ladd hx hb dX1_digest_257 ?_
        refine tp_l (y := dx (dx (dx (dx d (st (f i))) (cn (f i))) (g i)) (nI (rl n f i))) rfl ?_
        refine lv_lstore_n (lv' := [(1, .long (dx (dx (dx (dx d (st (f i))) (cn (f i))) (g i)) (nI (rl n f i)))), (3, .int (nI i)), (0, .ref o)]) hx hb dX1_digest_258 rfl hl (by decide) rfl (fun ls hl => ?_)
        refine lv_lload_n hx hb dX1_digest_259 rfl (lv_at hl 0 rfl) ?_
        refine lv_ldc2 (v := 31) hx hb hown (hts _ (List.mem_of_getElem? (i := 2) rfl)) dX1_digest_260 ?_
        refine lv_lmul hx hb dX1_digest_263 ?_
        refine lv_aload_n hx hb dX1_digest_264 rfl (lv_at hl 2 rfl) ?_
        refine va_get (D := D) (ci := 1) (v := .ref r) (C := RX1) (T := TX1) (N := 2) hx hb hts (fun _ h => (List.mem_cons_of_mem _ (List.mem_append_left _ (List.mem_append_right _ h)))) hown hK hP 0 rfl rfl 0 (by decide) (hts _ (List.mem_of_getElem? (i := 3) rfl)) (fun _ h9 => h9) rfl dX1_digest_265 ?_
        refine lv_iload_n hx hb dX1_digest_268 rfl (lv_at hl 1 rfl) ?_
        refine lv_bipush (v := nI 7) hx hb dX1_digest_269 (by decide) ?_
        refine an_mul hx hb dX1_digest_271 ?_
        refine pv_i CF (m_X0_countLooks l D cI r a1 a2 S (i * 7) (by omega)) (cwV 1 hts gX1_digest_X0_countLooks rfl rfl rfl k_X0_countLooks ⟨Nat.le_of_ble_eq_true rfl, Nat.le_of_ble_eq_true rfl⟩) hK (hP.sub [1, 2, 3] rfl) rfl rfl rfl rfl hl.1 rfl (Nat.le_of_ble_eq_true rfl) dX1_digest_272 ⟨Nat.le_of_ble_eq_true rfl, Nat.le_of_ble_eq_true rfl⟩ ?_
        refine lv_i2l hx hb dX1_digest_275 rfl ?_
        refine lv_ladd hx hb dX1_digest_276 ?_
        refine tp_l (y := dx (dx (dx (dx (dx d (st (f i))) (cn (f i))) (g i)) (nI (rl n f i))) (nI (lk n w f (i * 7)))) rfl ?_
        refine lv_lstore_n (lv' := [(1, .long (dx (dx (dx (dx (dx d (st (f i))) (cn (f i))) (g i)) (nI (rl n f i))) (nI (lk n w f (i * 7))))), (3, .int (nI i)), (0, .ref o)]) hx hb dX1_digest_277 rfl hl (by decide) rfl (fun ls hl => ?_)
        refine lv_iinc (v := (nI (i + 1))) (lv' := [(3, .int (nI (i + 1))), (1, .long (dx (dx (dx (dx (dx d (st (f i))) (cn (f i))) (g i)) (nI (rl n f i))) (nI (lk n w f (i * 7))))), (0, .ref o)]) hx hb dX1_digest_278 hl (k := 1) rfl (inc1 _) (by decide) rfl (fun ls hl => ?_)
        refine lv_goto (tgt := 184) hx hb dX1_digest_281 (by decide) ?_
        exact ih (i + 1) (dx (dx (dx (dx (dx d (st (f i))) (cn (f i))) (g i)) (nI (rl n f i))) (nI (lk n w f (i * 7)))) (by omega) h2 _ (lv_sub hl [0, 1, 2] rfl)
  exact LP184 n 0 (dx (dx (dx (dx (dx (dx (dx (dx (dx (dx (dx (dx 2237 (nI n)) (nI w)) (nI (ct n f (nI 1)))) (nI (ct n f (nI 2)))) (wa n g)) ((hv n g).1)) (nI (sm n w f))) ((fa n w f).1)) (nI (rc n f))) (nI (lr n f))) ((bst n f g).1)) (fh n w f g 20)) (Nat.zero_add n) rfl _ (lv_sub hl [0, 1, 2] rfl)
theorem k_X1_init : yX1_init.cls ≠ "java/lang/invoke/MethodHandle" ∧ yX1_init.cls ≠ "java/lang/invoke/VarHandle" ∧ (parseMethodDescriptor yX1_init.desc).map (fun d => d.parameters.length) = some 0 := by decide +kernel
set_option maxHeartbeats 4000000 in
set_option maxRecDepth 100000 in
theorem m_X1_init (l : Launch) (D : va_G) (cI : ClassId) (o : Nat) (sz : Nat) : Met l yX1_init wsX1_init ({ frames := 3, cells := 6, slots := 168, locals := 66 } : Room) (PM D [(cI, .int)] [.ref o] sz [(o, .inr (1, [.null, .null]))]) (qm_v ((fun (A : Nat → Prop) H1 => ∃ (r t a1 a2 b1 b2 : Nat) (F G F2 G2 : Nat → Int32), (∀ k, k < 40 → F k = -1) ∧ (∀ k, k < 40 → G k = nI 0) ∧ va_P D vwCl (clw cI o r t a1 a2 b1 b2 8 0 F G 8 0 F2 G2) H1 ∧ va_D A (clw cI o r t a1 a2 b1 b2 8 0 F G 8 0 F2 G2)) (va_A [(o, .inr (1, [.null, .null]))] sz)) (va_A [(o, .inr (1, [.null, .null]))] sz)) 6 168 (va_A [(o, .inr (1, [.null, .null]))] sz) := by
  refine bd_m (Qc := (fun A => qm_v ((fun (A : Nat → Prop) H1 => ∃ (r t a1 a2 b1 b2 : Nat) (F G F2 G2 : Nat → Int32), (∀ k, k < 40 → F k = -1) ∧ (∀ k, k < 40 → G k = nI 0) ∧ va_P D vwCl (clw cI o r t a1 a2 b1 b2 8 0 F G 8 0 F2 G2) H1 ∧ va_D A (clw cI o r t a1 a2 b1 b2 8 0 F G 8 0 F2 G2)) A) A)) (cc := cX1_init) (maxL := 1) (ret := none) (by decide) rfl (Nat.le_of_ble_eq_true rfl) ?_
  intro p e s m args below meth c ls A CF hr hlocks hK hP hD hA hS hl hin
  obtain ⟨hx, hb, hml, hown, hts⟩ := id CF
  have hl : lv_has ls 1 [(0, .ref o)] := hl
  have hP : va_P D vwCl [(o, .inr (1, [.null, .null]))] s.heap := hP
  have hD : va_D A [(o, .inr (1, [.null, .null]))] := hD
  generalize hH0 : s.heap = H at hP
  have hS : va_S A s.heap H [] := by rw [← hH0]; exact va_S.rf
  generalize hlc0 : ([] : List Loc) = locs at hS ⊢
  refine lv_aload_n hx hb dX1_init_0 rfl (lv_at hl 0 rfl) ?_
  refine W.objInit hx hb hown (hts _ (List.mem_of_getElem? (i := 1) rfl)) (hts _ (List.mem_of_getElem? (i := 2) rfl)) (hts _ (List.mem_of_getElem? (i := 3) rfl)) rfl (by rw [hml]; exact hl.1) rfl dX1_init_1 (Nat.le_of_ble_eq_true rfl) (Nat.le_of_ble_eq_true rfl) ?_
  refine W.eq (g2 := F0 m 4 ls []) rfl ?_
  refine lv_aload_n hx hb dX1_init_4 rfl (lv_at hl 0 rfl) ?_
  refine va_new (ci := 0) (fs := [.null, .null, .int (nI 0), .int (nI 0)]) (C := RX0) (T := TX0) (N := 4) hx hb hts (fun _ h => (List.mem_cons_of_mem _ (List.mem_append_left _ (List.mem_append_right _ h)))) tyX0 tyX0_ok hown (hts _ (List.mem_of_getElem? (i := 4) rfl)) (hts _ (List.mem_of_getElem? (i := 5) rfl)) (hts _ (List.mem_of_getElem? (i := 6) rfl)) hK hP hD hS hA rfl (fun j hj => by rcases (show j = 0 ∨ j = 1 ∨ j = 2 ∨ j = 3 by omega) with rfl | rfl | rfl | rfl <;> rfl) (Nat.le_of_ble_eq_true rfl) (Nat.le_of_ble_eq_true rfl) dX1_init_5 (fun q5 H hP hD hS => ?_)
  have hP : va_P D vwCl [(o, .inr (1, [.null, .null])), (q5, .inr (0, [.null, .null, .int (nI 0), .int (nI 0)]))] H := hP
  have hD : va_D A [(o, .inr (1, [.null, .null])), (q5, .inr (0, [.null, .null, .int (nI 0), .int (nI 0)]))] := hD
  refine lv_dup hx hb dX1_init_8 rfl ?_
  have hPc : va_P D vwCl [(q5, .inr (0, [.null, .null, .int (nI 0), .int (nI 0)]))] H := hP.sub [1] rfl
  have hDc : va_D A [(q5, .inr (0, [.null, .null, .int (nI 0), .int (nI 0)]))] := hD.sub [1] (by decide) rfl
  have hFc := va_free (wc := [(q5, .inr (0, [.null, .null, .int (nI 0), .int (nI 0)]))]) hD hS hA [1] rfl
  refine pq_v (va_runI (As := []) (rest := [.ref q5, .ref o]) CF (m_X0_init l D cI q5 H.size) (cwI 0 hts gX1_init_X0_init rfl rfl rfl (hts _ (List.mem_of_getElem? (i := 6) rfl)) (hts _ (List.mem_of_getElem? (i := 9) rfl)) (hts _ (List.mem_of_getElem? (i := 10) rfl)) rfl k_X0_init ⟨Nat.le_of_ble_eq_true rfl, Nat.le_of_ble_eq_true rfl⟩) (ms_pre hK hPc hDc) rfl rfl hl.1 rfl (lv_room (Nat.le_of_ble_eq_true rfl)) dX1_init_9 ⟨Nat.le_of_ble_eq_true rfl, Nat.le_of_ble_eq_true rfl⟩) hS hFc (fun H locs hB hk1 hS => ?_)
  obtain ⟨a1, a2, F, G, hF, hG, hP1, hD1⟩ := hB
  obtain ⟨hP, hD⟩ := va_join (wr := [(o, .inr (1, [.null, .null]))]) (w1 := [(q5, .inr (0, [.ref a1, .ref a2, .int (nI 8), .int (nI 0)])), (a1, .inl (cI, 40, .inl F)), (a2, .inl (cI, 40, .inl G))]) hP hD [1] [0] rfl rfl (by decide) (by decide) hk1 hFc hP1 hD1
  have hP : va_P D vwCl [(o, .inr (1, [.null, .null])), (q5, .inr (0, [.ref a1, .ref a2, .int (nI 8), .int (nI 0)])), (a1, .inl (cI, 40, .inl F)), (a2, .inl (cI, 40, .inl G))] H := hP
  have hD : va_D A [(o, .inr (1, [.null, .null])), (q5, .inr (0, [.ref a1, .ref a2, .int (nI 8), .int (nI 0)])), (a1, .inl (cI, 40, .inl F)), (a2, .inl (cI, 40, .inl G))] := hD
  refine va_putF (D := D) (ci := 1) (v := .ref q5) (ty := .object "CoatHooks$Rack") (C := RX1) (T := TX1) (N := 2) hx hb hts (fun _ h => (List.mem_cons_of_mem _ (List.mem_append_right _ h))) tyX1 tyX1_ok nmX1 hown hK hP hD hS 0 rfl rfl 0 (by decide) (hts _ (List.mem_of_getElem? (i := 7) rfl)) (fun _ h9 => h9) rfl (hin rfl) rfl (by decide +kernel) rfl rfl (Nat.le_of_ble_eq_true rfl) dX1_init_12 (fun H locs hP hD hS => ?_)
  have hP : va_P D vwCl [(o, .inr (1, [.ref q5, .null])), (q5, .inr (0, [.ref a1, .ref a2, .int (nI 8), .int (nI 0)])), (a1, .inl (cI, 40, .inl F)), (a2, .inl (cI, 40, .inl G))] H := hP
  have hD : va_D A [(o, .inr (1, [.ref q5, .null])), (q5, .inr (0, [.ref a1, .ref a2, .int (nI 8), .int (nI 0)])), (a1, .inl (cI, 40, .inl F)), (a2, .inl (cI, 40, .inl G))] := hD
  refine lv_aload_n hx hb dX1_init_15 rfl (lv_at hl 0 rfl) ?_
  refine va_new (ci := 0) (fs := [.null, .null, .int (nI 0), .int (nI 0)]) (C := RX0) (T := TX0) (N := 4) hx hb hts (fun _ h => (List.mem_cons_of_mem _ (List.mem_append_left _ (List.mem_append_right _ h)))) tyX0 tyX0_ok hown (hts _ (List.mem_of_getElem? (i := 4) rfl)) (hts _ (List.mem_of_getElem? (i := 5) rfl)) (hts _ (List.mem_of_getElem? (i := 6) rfl)) hK hP hD hS hA rfl (fun j hj => by rcases (show j = 0 ∨ j = 1 ∨ j = 2 ∨ j = 3 by omega) with rfl | rfl | rfl | rfl <;> rfl) (Nat.le_of_ble_eq_true rfl) (Nat.le_of_ble_eq_true rfl) dX1_init_16 (fun q16 H hP hD hS => ?_)
  have hP : va_P D vwCl [(o, .inr (1, [.ref q5, .null])), (q5, .inr (0, [.ref a1, .ref a2, .int (nI 8), .int (nI 0)])), (a1, .inl (cI, 40, .inl F)), (a2, .inl (cI, 40, .inl G)), (q16, .inr (0, [.null, .null, .int (nI 0), .int (nI 0)]))] H := hP
  have hD : va_D A [(o, .inr (1, [.ref q5, .null])), (q5, .inr (0, [.ref a1, .ref a2, .int (nI 8), .int (nI 0)])), (a1, .inl (cI, 40, .inl F)), (a2, .inl (cI, 40, .inl G)), (q16, .inr (0, [.null, .null, .int (nI 0), .int (nI 0)]))] := hD
  refine lv_dup hx hb dX1_init_19 rfl ?_
  have hPc : va_P D vwCl [(q16, .inr (0, [.null, .null, .int (nI 0), .int (nI 0)]))] H := hP.sub [4] rfl
  have hDc : va_D A [(q16, .inr (0, [.null, .null, .int (nI 0), .int (nI 0)]))] := hD.sub [4] (by decide) rfl
  have hFc := va_free (wc := [(q16, .inr (0, [.null, .null, .int (nI 0), .int (nI 0)]))]) hD hS hA [4] rfl
  refine pq_v (va_runI (As := []) (rest := [.ref q16, .ref o]) CF (m_X0_init l D cI q16 H.size) (cwI 0 hts gX1_init_X0_init rfl rfl rfl (hts _ (List.mem_of_getElem? (i := 6) rfl)) (hts _ (List.mem_of_getElem? (i := 9) rfl)) (hts _ (List.mem_of_getElem? (i := 10) rfl)) rfl k_X0_init ⟨Nat.le_of_ble_eq_true rfl, Nat.le_of_ble_eq_true rfl⟩) (ms_pre hK hPc hDc) rfl rfl hl.1 rfl (lv_room (Nat.le_of_ble_eq_true rfl)) dX1_init_20 ⟨Nat.le_of_ble_eq_true rfl, Nat.le_of_ble_eq_true rfl⟩) hS hFc (fun H locs hB hk1 hS => ?_)
  obtain ⟨b1, b2, F2, G2, hF2, hG2, hP1, hD1⟩ := hB
  obtain ⟨hP, hD⟩ := va_join (wr := [(o, .inr (1, [.ref q5, .null])), (q5, .inr (0, [.ref a1, .ref a2, .int (nI 8), .int (nI 0)])), (a1, .inl (cI, 40, .inl F)), (a2, .inl (cI, 40, .inl G))]) (w1 := [(q16, .inr (0, [.ref b1, .ref b2, .int (nI 8), .int (nI 0)])), (b1, .inl (cI, 40, .inl F2)), (b2, .inl (cI, 40, .inl G2))]) hP hD [4] [0, 1, 2, 3] rfl rfl (by decide) (by decide) hk1 hFc hP1 hD1
  have hP : va_P D vwCl [(o, .inr (1, [.ref q5, .null])), (q5, .inr (0, [.ref a1, .ref a2, .int (nI 8), .int (nI 0)])), (a1, .inl (cI, 40, .inl F)), (a2, .inl (cI, 40, .inl G)), (q16, .inr (0, [.ref b1, .ref b2, .int (nI 8), .int (nI 0)])), (b1, .inl (cI, 40, .inl F2)), (b2, .inl (cI, 40, .inl G2))] H := hP
  have hD : va_D A [(o, .inr (1, [.ref q5, .null])), (q5, .inr (0, [.ref a1, .ref a2, .int (nI 8), .int (nI 0)])), (a1, .inl (cI, 40, .inl F)), (a2, .inl (cI, 40, .inl G)), (q16, .inr (0, [.ref b1, .ref b2, .int (nI 8), .int (nI 0)])), (b1, .inl (cI, 40, .inl F2)), (b2, .inl (cI, 40, .inl G2))] := hD
  refine va_putF (D := D) (ci := 1) (v := .ref q16) (ty := .object "CoatHooks$Rack") (C := RX1) (T := TX1) (N := 2) hx hb hts (fun _ h => (List.mem_cons_of_mem _ (List.mem_append_right _ h))) tyX1 tyX1_ok nmX1 hown hK hP hD hS 0 rfl rfl 1 (by decide) (hts _ (List.mem_of_getElem? (i := 8) rfl)) (fun _ h9 => h9) rfl (hin rfl) rfl (by decide +kernel) rfl rfl (Nat.le_of_ble_eq_true rfl) dX1_init_23 (fun H locs hP hD hS => ?_)
  have hP : va_P D vwCl [(o, .inr (1, [.ref q5, .ref q16])), (q5, .inr (0, [.ref a1, .ref a2, .int (nI 8), .int (nI 0)])), (a1, .inl (cI, 40, .inl F)), (a2, .inl (cI, 40, .inl G)), (q16, .inr (0, [.ref b1, .ref b2, .int (nI 8), .int (nI 0)])), (b1, .inl (cI, 40, .inl F2)), (b2, .inl (cI, 40, .inl G2))] H := hP
  have hD : va_D A [(o, .inr (1, [.ref q5, .ref q16])), (q5, .inr (0, [.ref a1, .ref a2, .int (nI 8), .int (nI 0)])), (a1, .inl (cI, 40, .inl F)), (a2, .inl (cI, 40, .inl G)), (q16, .inr (0, [.ref b1, .ref b2, .int (nI 8), .int (nI 0)])), (b1, .inl (cI, 40, .inl F2)), (b2, .inl (cI, 40, .inl G2))] := hD
  exact em_v hx hb hr hlocks hS (⟨q5, q16, a1, a2, b1, b2, F, G, F2, G2, hF, hG, hP, hD⟩) dX1_init_26
end
